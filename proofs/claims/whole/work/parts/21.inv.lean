/-! the reference: what its numbers keep to -/
def MRT : List (Int × Int × Int) := [(62, 0, 3), (63, 0, 555), (64, 0, 1), (65, 0, 99), (66, 0, 99), (67, 0, 7), (68, 0, 11), (69, -1, 1000000), (70, 0, 1), (71, 0, 40), (72, 0, 15), (73, 0, 40), (74, 0, 12), (75, 0, 31), (76, 0, 1), (77, -1000, 999999), (78, 0, 1000000), (79, 0, 999999), (80, 0, 31), (81, 0, 1000000), (82, 0, 1), (85, 0, 99), (86, 0, 99), (87, 0, 1), (88, 0, 11), (89, -1, 11), (90, 0, 99), (91, 0, 2000000), (92, 0, 255), (93, 0, 9), (94, 0, 9), (95, -1000, 2000), (96, -1000, 2000), (97, 0, 11000), (98, 0, 2), (99, 0, 1), (101, 0, 30), (103, 0, 30), (105, 0, 30), (107, 0, 1), (108, 0, 200000), (109, 0, 31), (110, 0, 11), (111, 0, 3), (112, 0, 1), (113, 0, 1), (114, 0, 11), (115, 0, 20), (116, 0, 19), (117, 0, 99), (118, 0, 1), (119, 0, 11)]
def MST : List (Nat × Int × Int) := [(1301, 0, 999999), (1302, 0, 32), (1321, -1, 3), (1322, 0, 200), (1323, 0, 3), (1329, 0, 300), (1330, -1, 299), (1331, 0, 999999), (1332, 0, 12), (1335, 0, 20), (1341, 1, 9), (1342, 0, 198), (1343, 0, 1000), (1345, 0, 1000), (1346, 0, 1001), (1347, 0, 1001), (1348, 0, 4), (1350, 0, 9999), (1351, 0, 17000), (1352, 0, 24), (1353, 0, 24), (1359, 0, 2000), (1371, 0, 100), (1380, 0, 200), (1384, -1, 19), (1385, 0, 11), (1386, -1, 19), (1387, 0, 11)]
def MI (σ : Hp) : Prop := MLay σ ∧ (∀ q ∈ MRT, ∀ j, q.2.1 ≤ aI σ q.1 j ∧ aI σ q.1 j ≤ q.2.2) ∧ ∀ q ∈ MST, q.2.1 ≤ fI σ q.1 61 ∧ fI σ q.1 61 ≤ q.2.2
theorem MI.lay {σ : Hp} (h : MI σ) : MLay σ := h.1
theorem MI_qI {σ : Hp} (h : MI σ) {r k v : Int} (hv : ∀ q ∈ MRT, q.1 = r → q.2.1 ≤ v ∧ v ≤ q.2.2) : MI (qI σ r k v) := by
  refine ⟨h.1, fun q hq j => ?_, h.2.2⟩
  rw [aI_qI]
  by_cases e : q.1 = r ∧ j = k
  · rw [if_pos e]; exact hv q hq e.1
  · rw [if_neg e]; exact h.2.1 q hq j
theorem MI_pI {σ : Hp} (h : MI σ) {f : Nat} {k v : Int} (hv : k = 61 → ∀ q ∈ MST, q.1 = f → q.2.1 ≤ v ∧ v ≤ q.2.2) : MI (pI σ f k v) := by
  refine ⟨h.1, h.2.1, fun q hq => ?_⟩
  rw [fI_pI]
  by_cases e : q.1 = f ∧ 61 = k
  · rw [if_pos e]; exact hv e.2.symm q hq e.1
  · rw [if_neg e]; exact h.2.2 q hq
theorem MI_pL {σ : Hp} (h : MI σ) {f : Nat} {k : Int} {v : BitVec 64} : MI (pL σ f k v) := h
theorem MI_qL {σ : Hp} (h : MI σ) {r k : Int} {v : BitVec 64} : MI (qL σ r k v) := h
theorem MI_free {σ : Hp} (h : MI σ) {r k v : Int} (hr : MRT.all (fun q => decide (q.1 ≠ r)) = true) : MI (qI σ r k v) :=
  MI_qI h fun q hq e => absurd e (of_decide_eq_true (List.all_eq_true.mp hr q hq))
theorem MI_fre {σ : Hp} (h : MI σ) {f : Nat} {k v : Int} (hr : MST.all (fun q => decide (q.1 ≠ f)) = true) : MI (pI σ f k v) :=
  MI_pI h fun _ q hq e => absurd e (of_decide_eq_true (List.all_eq_true.mp hr q hq))
theorem mrt_nd : (MRT.map (fun q => q.1)).Nodup := by decide +kernel
theorem mst_nd : (MST.map (fun q => q.1)).Nodup := by decide +kernel
theorem nd_at {α β : Type} {l : List (α × β)} (hn : (l.map (fun q => q.1)).Nodup) (i : Nat) {x q : α × β} (hx : l[i]? = some x) (hq : q ∈ l) (e : q.1 = x.1) : q = x := by
  obtain ⟨j, hj⟩ := List.getElem?_of_mem hq
  have h1 : (l.map (fun q => q.1))[i]? = some x.1 := by rw [List.getElem?_map, hx]; rfl
  have h2 : (l.map (fun q => q.1))[j]? = some x.1 := by rw [List.getElem?_map, hj]; exact congrArg some e
  have hi := (List.getElem?_eq_some_iff.mp h1).1
  have : i = j := (List.getElem?_inj hi hn).mp (h1.trans h2.symm)
  subst this
  exact Option.some.inj (hj.symm.trans hx)
theorem mrt_at (i : Nat) {x q : Int × Int × Int} (hx : MRT[i]? = some x) (hq : q ∈ MRT) (e : q.1 = x.1) : q = x := nd_at mrt_nd i hx hq e
theorem mst_at (i : Nat) {x q : Nat × Int × Int} (hx : MST[i]? = some x) (hq : q ∈ MST) (e : q.1 = x.1) : q = x := nd_at mst_nd i hx hq e
theorem MI.loop_ {σ : Hp} (h : MI σ) (j : Int) : 0 ≤ aI σ 62 j ∧ aI σ 62 j ≤ 3 := h.2.1 (62, 0, 3) (List.mem_of_getElem? (i := 0) rfl) j
theorem MI_loop_q {σ : Hp} (h : MI σ) {k v : Int} (hv : 0 ≤ v ∧ v ≤ 3) : MI (qI σ 62 k v) := MI_qI h fun q hq e => by
  have : q = (62, 0, 3) := mrt_at 0 rfl hq e
  subst this; exact hv
theorem MI.number_ {σ : Hp} (h : MI σ) (j : Int) : 0 ≤ aI σ 63 j ∧ aI σ 63 j ≤ 555 := h.2.1 (63, 0, 555) (List.mem_of_getElem? (i := 1) rfl) j
theorem MI_number_q {σ : Hp} (h : MI σ) {k v : Int} (hv : 0 ≤ v ∧ v ≤ 555) : MI (qI σ 63 k v) := MI_qI h fun q hq e => by
  have : q = (63, 0, 555) := mrt_at 1 rfl hq e
  subst this; exact hv
theorem MI.kind_ {σ : Hp} (h : MI σ) (j : Int) : 0 ≤ aI σ 64 j ∧ aI σ 64 j ≤ 1 := h.2.1 (64, 0, 1) (List.mem_of_getElem? (i := 2) rfl) j
theorem MI_kind_q {σ : Hp} (h : MI σ) {k v : Int} (hv : 0 ≤ v ∧ v ≤ 1) : MI (qI σ 64 k v) := MI_qI h fun q hq e => by
  have : q = (64, 0, 1) := mrt_at 2 rfl hq e
  subst this; exact hv
theorem MI.x_ {σ : Hp} (h : MI σ) (j : Int) : 0 ≤ aI σ 65 j ∧ aI σ 65 j ≤ 99 := h.2.1 (65, 0, 99) (List.mem_of_getElem? (i := 3) rfl) j
theorem MI_x_q {σ : Hp} (h : MI σ) {k v : Int} (hv : 0 ≤ v ∧ v ≤ 99) : MI (qI σ 65 k v) := MI_qI h fun q hq e => by
  have : q = (65, 0, 99) := mrt_at 3 rfl hq e
  subst this; exact hv
theorem MI.y_ {σ : Hp} (h : MI σ) (j : Int) : 0 ≤ aI σ 66 j ∧ aI σ 66 j ≤ 99 := h.2.1 (66, 0, 99) (List.mem_of_getElem? (i := 4) rfl) j
theorem MI_y_q {σ : Hp} (h : MI σ) {k v : Int} (hv : 0 ≤ v ∧ v ≤ 99) : MI (qI σ 66 k v) := MI_qI h fun q hq e => by
  have : q = (66, 0, 99) := mrt_at 4 rfl hq e
  subst this; exact hv
theorem MI.ward_ {σ : Hp} (h : MI σ) (j : Int) : 0 ≤ aI σ 67 j ∧ aI σ 67 j ≤ 7 := h.2.1 (67, 0, 7) (List.mem_of_getElem? (i := 5) rfl) j
theorem MI_ward_q {σ : Hp} (h : MI σ) {k v : Int} (hv : 0 ≤ v ∧ v ≤ 7) : MI (qI σ 67 k v) := MI_qI h fun q hq e => by
  have : q = (67, 0, 7) := mrt_at 5 rfl hq e
  subst this; exact hv
theorem MI.along_ {σ : Hp} (h : MI σ) (j : Int) : 0 ≤ aI σ 68 j ∧ aI σ 68 j ≤ 11 := h.2.1 (68, 0, 11) (List.mem_of_getElem? (i := 6) rfl) j
theorem MI_along_q {σ : Hp} (h : MI σ) {k v : Int} (hv : 0 ≤ v ∧ v ≤ 11) : MI (qI σ 68 k v) := MI_qI h fun q hq e => by
  have : q = (68, 0, 11) := mrt_at 6 rfl hq e
  subst this; exact hv
theorem MI.began_ {σ : Hp} (h : MI σ) (j : Int) : -1 ≤ aI σ 69 j ∧ aI σ 69 j ≤ 1000000 := h.2.1 (69, -1, 1000000) (List.mem_of_getElem? (i := 7) rfl) j
theorem MI_began_q {σ : Hp} (h : MI σ) {k v : Int} (hv : -1 ≤ v ∧ v ≤ 1000000) : MI (qI σ 69 k v) := MI_qI h fun q hq e => by
  have : q = (69, -1, 1000000) := mrt_at 7 rfl hq e
  subst this; exact hv
theorem MI.waits_ {σ : Hp} (h : MI σ) (j : Int) : 0 ≤ aI σ 70 j ∧ aI σ 70 j ≤ 1 := h.2.1 (70, 0, 1) (List.mem_of_getElem? (i := 8) rfl) j
theorem MI_waits_q {σ : Hp} (h : MI σ) {k v : Int} (hv : 0 ≤ v ∧ v ≤ 1) : MI (qI σ 70 k v) := MI_qI h fun q hq e => by
  have : q = (70, 0, 1) := mrt_at 8 rfl hq e
  subst this; exact hv
theorem MI.knock_ {σ : Hp} (h : MI σ) (j : Int) : 0 ≤ aI σ 71 j ∧ aI σ 71 j ≤ 40 := h.2.1 (71, 0, 40) (List.mem_of_getElem? (i := 9) rfl) j
theorem MI_knock_q {σ : Hp} (h : MI σ) {k v : Int} (hv : 0 ≤ v ∧ v ≤ 40) : MI (qI σ 71 k v) := MI_qI h fun q hq e => by
  have : q = (71, 0, 40) := mrt_at 9 rfl hq e
  subst this; exact hv
theorem MI.knocks_ {σ : Hp} (h : MI σ) (j : Int) : 0 ≤ aI σ 72 j ∧ aI σ 72 j ≤ 15 := h.2.1 (72, 0, 15) (List.mem_of_getElem? (i := 10) rfl) j
theorem MI_knocks_q {σ : Hp} (h : MI σ) {k v : Int} (hv : 0 ≤ v ∧ v ≤ 15) : MI (qI σ 72 k v) := MI_qI h fun q hq e => by
  have : q = (72, 0, 15) := mrt_at 10 rfl hq e
  subst this; exact hv
theorem MI.lastOf_ {σ : Hp} (h : MI σ) (j : Int) : 0 ≤ aI σ 73 j ∧ aI σ 73 j ≤ 40 := h.2.1 (73, 0, 40) (List.mem_of_getElem? (i := 11) rfl) j
theorem MI_lastOf_q {σ : Hp} (h : MI σ) {k v : Int} (hv : 0 ≤ v ∧ v ≤ 40) : MI (qI σ 73 k v) := MI_qI h fun q hq e => by
  have : q = (73, 0, 40) := mrt_at 11 rfl hq e
  subst this; exact hv
theorem MI.many_ {σ : Hp} (h : MI σ) (j : Int) : 0 ≤ aI σ 74 j ∧ aI σ 74 j ≤ 12 := h.2.1 (74, 0, 12) (List.mem_of_getElem? (i := 12) rfl) j
theorem MI_many_q {σ : Hp} (h : MI σ) {k v : Int} (hv : 0 ≤ v ∧ v ≤ 12) : MI (qI σ 74 k v) := MI_qI h fun q hq e => by
  have : q = (74, 0, 12) := mrt_at 12 rfl hq e
  subst this; exact hv
theorem MI.boxAt_ {σ : Hp} (h : MI σ) (j : Int) : 0 ≤ aI σ 75 j ∧ aI σ 75 j ≤ 31 := h.2.1 (75, 0, 31) (List.mem_of_getElem? (i := 13) rfl) j
theorem MI_boxAt_q {σ : Hp} (h : MI σ) {k v : Int} (hv : 0 ≤ v ∧ v ≤ 31) : MI (qI σ 75 k v) := MI_qI h fun q hq e => by
  have : q = (75, 0, 31) := mrt_at 13 rfl hq e
  subst this; exact hv
theorem MI.isCut_ {σ : Hp} (h : MI σ) (j : Int) : 0 ≤ aI σ 76 j ∧ aI σ 76 j ≤ 1 := h.2.1 (76, 0, 1) (List.mem_of_getElem? (i := 14) rfl) j
theorem MI_isCut_q {σ : Hp} (h : MI σ) {k v : Int} (hv : 0 ≤ v ∧ v ≤ 1) : MI (qI σ 76 k v) := MI_qI h fun q hq e => by
  have : q = (76, 0, 1) := mrt_at 14 rfl hq e
  subst this; exact hv
theorem MI.lastKnock_ {σ : Hp} (h : MI σ) (j : Int) : -1000 ≤ aI σ 77 j ∧ aI σ 77 j ≤ 999999 := h.2.1 (77, -1000, 999999) (List.mem_of_getElem? (i := 15) rfl) j
theorem MI_lastKnock_q {σ : Hp} (h : MI σ) {k v : Int} (hv : -1000 ≤ v ∧ v ≤ 999999) : MI (qI σ 77 k v) := MI_qI h fun q hq e => by
  have : q = (77, -1000, 999999) := mrt_at 15 rfl hq e
  subst this; exact hv
theorem MI.taped_ {σ : Hp} (h : MI σ) (j : Int) : 0 ≤ aI σ 78 j ∧ aI σ 78 j ≤ 1000000 := h.2.1 (78, 0, 1000000) (List.mem_of_getElem? (i := 16) rfl) j
theorem MI_taped_q {σ : Hp} (h : MI σ) {k v : Int} (hv : 0 ≤ v ∧ v ≤ 1000000) : MI (qI σ 78 k v) := MI_qI h fun q hq e => by
  have : q = (78, 0, 1000000) := mrt_at 16 rfl hq e
  subst this; exact hv
theorem MI.tape_ {σ : Hp} (h : MI σ) (j : Int) : 0 ≤ aI σ 79 j ∧ aI σ 79 j ≤ 999999 := h.2.1 (79, 0, 999999) (List.mem_of_getElem? (i := 17) rfl) j
theorem MI_tape_q {σ : Hp} (h : MI σ) {k v : Int} (hv : 0 ≤ v ∧ v ≤ 999999) : MI (qI σ 79 k v) := MI_qI h fun q hq e => by
  have : q = (79, 0, 999999) := mrt_at 17 rfl hq e
  subst this; exact hv
theorem MI.storyBox_ {σ : Hp} (h : MI σ) (j : Int) : 0 ≤ aI σ 80 j ∧ aI σ 80 j ≤ 31 := h.2.1 (80, 0, 31) (List.mem_of_getElem? (i := 18) rfl) j
theorem MI_storyBox_q {σ : Hp} (h : MI σ) {k v : Int} (hv : 0 ≤ v ∧ v ≤ 31) : MI (qI σ 80 k v) := MI_qI h fun q hq e => by
  have : q = (80, 0, 31) := mrt_at 18 rfl hq e
  subst this; exact hv
theorem MI.storyTick_ {σ : Hp} (h : MI σ) (j : Int) : 0 ≤ aI σ 81 j ∧ aI σ 81 j ≤ 1000000 := h.2.1 (81, 0, 1000000) (List.mem_of_getElem? (i := 19) rfl) j
theorem MI_storyTick_q {σ : Hp} (h : MI σ) {k v : Int} (hv : 0 ≤ v ∧ v ≤ 1000000) : MI (qI σ 81 k v) := MI_qI h fun q hq e => by
  have : q = (81, 0, 1000000) := mrt_at 19 rfl hq e
  subst this; exact hv
theorem MI.may_ {σ : Hp} (h : MI σ) (j : Int) : 0 ≤ aI σ 82 j ∧ aI σ 82 j ≤ 1 := h.2.1 (82, 0, 1) (List.mem_of_getElem? (i := 20) rfl) j
theorem MI_may_q {σ : Hp} (h : MI σ) {k v : Int} (hv : 0 ≤ v ∧ v ≤ 1) : MI (qI σ 82 k v) := MI_qI h fun q hq e => by
  have : q = (82, 0, 1) := mrt_at 20 rfl hq e
  subst this; exact hv
theorem MI.houseX_ {σ : Hp} (h : MI σ) (j : Int) : 0 ≤ aI σ 85 j ∧ aI σ 85 j ≤ 99 := h.2.1 (85, 0, 99) (List.mem_of_getElem? (i := 21) rfl) j
theorem MI_houseX_q {σ : Hp} (h : MI σ) {k v : Int} (hv : 0 ≤ v ∧ v ≤ 99) : MI (qI σ 85 k v) := MI_qI h fun q hq e => by
  have : q = (85, 0, 99) := mrt_at 21 rfl hq e
  subst this; exact hv
theorem MI.houseY_ {σ : Hp} (h : MI σ) (j : Int) : 0 ≤ aI σ 86 j ∧ aI σ 86 j ≤ 99 := h.2.1 (86, 0, 99) (List.mem_of_getElem? (i := 22) rfl) j
theorem MI_houseY_q {σ : Hp} (h : MI σ) {k v : Int} (hv : 0 ≤ v ∧ v ≤ 99) : MI (qI σ 86 k v) := MI_qI h fun q hq e => by
  have : q = (86, 0, 99) := mrt_at 22 rfl hq e
  subst this; exact hv
theorem MI.companyKind_ {σ : Hp} (h : MI σ) (j : Int) : 0 ≤ aI σ 87 j ∧ aI σ 87 j ≤ 1 := h.2.1 (87, 0, 1) (List.mem_of_getElem? (i := 23) rfl) j
theorem MI_companyKind_q {σ : Hp} (h : MI σ) {k v : Int} (hv : 0 ≤ v ∧ v ≤ 1) : MI (qI σ 87 k v) := MI_qI h fun q hq e => by
  have : q = (87, 0, 1) := mrt_at 23 rfl hq e
  subst this; exact hv
theorem MI.own_ {σ : Hp} (h : MI σ) (j : Int) : 0 ≤ aI σ 88 j ∧ aI σ 88 j ≤ 11 := h.2.1 (88, 0, 11) (List.mem_of_getElem? (i := 24) rfl) j
theorem MI_own_q {σ : Hp} (h : MI σ) {k v : Int} (hv : 0 ≤ v ∧ v ≤ 11) : MI (qI σ 88 k v) := MI_qI h fun q hq e => by
  have : q = (88, 0, 11) := mrt_at 24 rfl hq e
  subst this; exact hv
theorem MI.isAt_ {σ : Hp} (h : MI σ) (j : Int) : -1 ≤ aI σ 89 j ∧ aI σ 89 j ≤ 11 := h.2.1 (89, -1, 11) (List.mem_of_getElem? (i := 25) rfl) j
theorem MI_isAt_q {σ : Hp} (h : MI σ) {k v : Int} (hv : -1 ≤ v ∧ v ≤ 11) : MI (qI σ 89 k v) := MI_qI h fun q hq e => by
  have : q = (89, -1, 11) := mrt_at 25 rfl hq e
  subst this; exact hv
theorem MI.sentTo_ {σ : Hp} (h : MI σ) (j : Int) : 0 ≤ aI σ 90 j ∧ aI σ 90 j ≤ 99 := h.2.1 (90, 0, 99) (List.mem_of_getElem? (i := 26) rfl) j
theorem MI_sentTo_q {σ : Hp} (h : MI σ) {k v : Int} (hv : 0 ≤ v ∧ v ≤ 99) : MI (qI σ 90 k v) := MI_qI h fun q hq e => by
  have : q = (90, 0, 99) := mrt_at 26 rfl hq e
  subst this; exact hv
theorem MI.thereAt_ {σ : Hp} (h : MI σ) (j : Int) : 0 ≤ aI σ 91 j ∧ aI σ 91 j ≤ 2000000 := h.2.1 (91, 0, 2000000) (List.mem_of_getElem? (i := 27) rfl) j
theorem MI_thereAt_q {σ : Hp} (h : MI σ) {k v : Int} (hv : 0 ≤ v ∧ v ≤ 2000000) : MI (qI σ 91 k v) := MI_qI h fun q hq e => by
  have : q = (91, 0, 2000000) := mrt_at 27 rfl hq e
  subst this; exact hv
theorem MI.letters_ {σ : Hp} (h : MI σ) (j : Int) : 0 ≤ aI σ 92 j ∧ aI σ 92 j ≤ 255 := h.2.1 (92, 0, 255) (List.mem_of_getElem? (i := 28) rfl) j
theorem MI_letters_q {σ : Hp} (h : MI σ) {k v : Int} (hv : 0 ≤ v ∧ v ≤ 255) : MI (qI σ 92 k v) := MI_qI h fun q hq e => by
  have : q = (92, 0, 255) := mrt_at 28 rfl hq e
  subst this; exact hv
theorem MI.lineEngines_ {σ : Hp} (h : MI σ) (j : Int) : 0 ≤ aI σ 93 j ∧ aI σ 93 j ≤ 9 := h.2.1 (93, 0, 9) (List.mem_of_getElem? (i := 29) rfl) j
theorem MI_lineEngines_q {σ : Hp} (h : MI σ) {k v : Int} (hv : 0 ≤ v ∧ v ≤ 9) : MI (qI σ 93 k v) := MI_qI h fun q hq e => by
  have : q = (93, 0, 9) := mrt_at 29 rfl hq e
  subst this; exact hv
theorem MI.lineLadders_ {σ : Hp} (h : MI σ) (j : Int) : 0 ≤ aI σ 94 j ∧ aI σ 94 j ≤ 9 := h.2.1 (94, 0, 9) (List.mem_of_getElem? (i := 30) rfl) j
theorem MI_lineLadders_q {σ : Hp} (h : MI σ) {k v : Int} (hv : 0 ≤ v ∧ v ≤ 9) : MI (qI σ 94 k v) := MI_qI h fun q hq e => by
  have : q = (94, 0, 9) := mrt_at 30 rfl hq e
  subst this; exact hv
theorem MI.lineFrom_ {σ : Hp} (h : MI σ) (j : Int) : -1000 ≤ aI σ 95 j ∧ aI σ 95 j ≤ 2000 := h.2.1 (95, -1000, 2000) (List.mem_of_getElem? (i := 31) rfl) j
theorem MI_lineFrom_q {σ : Hp} (h : MI σ) {k v : Int} (hv : -1000 ≤ v ∧ v ≤ 2000) : MI (qI σ 95 k v) := MI_qI h fun q hq e => by
  have : q = (95, -1000, 2000) := mrt_at 31 rfl hq e
  subst this; exact hv
theorem MI.lineTo_ {σ : Hp} (h : MI σ) (j : Int) : -1000 ≤ aI σ 96 j ∧ aI σ 96 j ≤ 2000 := h.2.1 (96, -1000, 2000) (List.mem_of_getElem? (i := 32) rfl) j
theorem MI_lineTo_q {σ : Hp} (h : MI σ) {k v : Int} (hv : -1000 ≤ v ∧ v ≤ 2000) : MI (qI σ 96 k v) := MI_qI h fun q hq e => by
  have : q = (96, -1000, 2000) := mrt_at 32 rfl hq e
  subst this; exact hv
theorem MI.codes_ {σ : Hp} (h : MI σ) (j : Int) : 0 ≤ aI σ 97 j ∧ aI σ 97 j ≤ 11000 := h.2.1 (97, 0, 11000) (List.mem_of_getElem? (i := 33) rfl) j
theorem MI_codes_q {σ : Hp} (h : MI σ) {k v : Int} (hv : 0 ≤ v ∧ v ≤ 11000) : MI (qI σ 97 k v) := MI_qI h fun q hq e => by
  have : q = (97, 0, 11000) := mrt_at 33 rfl hq e
  subst this; exact hv
theorem MI.opened_ {σ : Hp} (h : MI σ) (j : Int) : 0 ≤ aI σ 98 j ∧ aI σ 98 j ≤ 2 := h.2.1 (98, 0, 2) (List.mem_of_getElem? (i := 34) rfl) j
theorem MI_opened_q {σ : Hp} (h : MI σ) {k v : Int} (hv : 0 ≤ v ∧ v ≤ 2) : MI (qI σ 98 k v) := MI_qI h fun q hq e => by
  have : q = (98, 0, 2) := mrt_at 34 rfl hq e
  subst this; exact hv
theorem MI.compared_ {σ : Hp} (h : MI σ) (j : Int) : 0 ≤ aI σ 99 j ∧ aI σ 99 j ≤ 1 := h.2.1 (99, 0, 1) (List.mem_of_getElem? (i := 35) rfl) j
theorem MI_compared_q {σ : Hp} (h : MI σ) {k v : Int} (hv : 0 ≤ v ∧ v ≤ 1) : MI (qI σ 99 k v) := MI_qI h fun q hq e => by
  have : q = (99, 0, 1) := mrt_at 35 rfl hq e
  subst this; exact hv
theorem MI.keptBy_ {σ : Hp} (h : MI σ) (j : Int) : 0 ≤ aI σ 101 j ∧ aI σ 101 j ≤ 30 := h.2.1 (101, 0, 30) (List.mem_of_getElem? (i := 36) rfl) j
theorem MI_keptBy_q {σ : Hp} (h : MI σ) {k v : Int} (hv : 0 ≤ v ∧ v ≤ 30) : MI (qI σ 101 k v) := MI_qI h fun q hq e => by
  have : q = (101, 0, 30) := mrt_at 36 rfl hq e
  subst this; exact hv
theorem MI.against_ {σ : Hp} (h : MI σ) (j : Int) : 0 ≤ aI σ 103 j ∧ aI σ 103 j ≤ 30 := h.2.1 (103, 0, 30) (List.mem_of_getElem? (i := 37) rfl) j
theorem MI_against_q {σ : Hp} (h : MI σ) {k v : Int} (hv : 0 ≤ v ∧ v ≤ 30) : MI (qI σ 103 k v) := MI_qI h fun q hq e => by
  have : q = (103, 0, 30) := mrt_at 37 rfl hq e
  subst this; exact hv
theorem MI.sumBy_ {σ : Hp} (h : MI σ) (j : Int) : 0 ≤ aI σ 105 j ∧ aI σ 105 j ≤ 30 := h.2.1 (105, 0, 30) (List.mem_of_getElem? (i := 38) rfl) j
theorem MI_sumBy_q {σ : Hp} (h : MI σ) {k v : Int} (hv : 0 ≤ v ∧ v ≤ 30) : MI (qI σ 105 k v) := MI_qI h fun q hq e => by
  have : q = (105, 0, 30) := mrt_at 38 rfl hq e
  subst this; exact hv
theorem MI.byNot_ {σ : Hp} (h : MI σ) (j : Int) : 0 ≤ aI σ 107 j ∧ aI σ 107 j ≤ 1 := h.2.1 (107, 0, 1) (List.mem_of_getElem? (i := 39) rfl) j
theorem MI_byNot_q {σ : Hp} (h : MI σ) {k v : Int} (hv : 0 ≤ v ∧ v ≤ 1) : MI (qI σ 107 k v) := MI_qI h fun q hq e => by
  have : q = (107, 0, 1) := mrt_at 39 rfl hq e
  subst this; exact hv
theorem MI.valueOf_ {σ : Hp} (h : MI σ) (j : Int) : 0 ≤ aI σ 108 j ∧ aI σ 108 j ≤ 200000 := h.2.1 (108, 0, 200000) (List.mem_of_getElem? (i := 40) rfl) j
theorem MI_valueOf_q {σ : Hp} (h : MI σ) {k v : Int} (hv : 0 ≤ v ∧ v ≤ 200000) : MI (qI σ 108 k v) := MI_qI h fun q hq e => by
  have : q = (108, 0, 200000) := mrt_at 40 rfl hq e
  subst this; exact hv
theorem MI.alarmBox_ {σ : Hp} (h : MI σ) (j : Int) : 0 ≤ aI σ 109 j ∧ aI σ 109 j ≤ 31 := h.2.1 (109, 0, 31) (List.mem_of_getElem? (i := 41) rfl) j
theorem MI_alarmBox_q {σ : Hp} (h : MI σ) {k v : Int} (hv : 0 ≤ v ∧ v ≤ 31) : MI (qI σ 109 k v) := MI_qI h fun q hq e => by
  have : q = (109, 0, 31) := mrt_at 41 rfl hq e
  subst this; exact hv
theorem MI.alarmDay_ {σ : Hp} (h : MI σ) (j : Int) : 0 ≤ aI σ 110 j ∧ aI σ 110 j ≤ 11 := h.2.1 (110, 0, 11) (List.mem_of_getElem? (i := 42) rfl) j
theorem MI_alarmDay_q {σ : Hp} (h : MI σ) {k v : Int} (hv : 0 ≤ v ∧ v ≤ 11) : MI (qI σ 110 k v) := MI_qI h fun q hq e => by
  have : q = (110, 0, 11) := mrt_at 42 rfl hq e
  subst this; exact hv
theorem MI.calls_ {σ : Hp} (h : MI σ) (j : Int) : 0 ≤ aI σ 111 j ∧ aI σ 111 j ≤ 3 := h.2.1 (111, 0, 3) (List.mem_of_getElem? (i := 43) rfl) j
theorem MI_calls_q {σ : Hp} (h : MI σ) {k v : Int} (hv : 0 ≤ v ∧ v ≤ 3) : MI (qI σ 111 k v) := MI_qI h fun q hq e => by
  have : q = (111, 0, 3) := mrt_at 43 rfl hq e
  subst this; exact hv
theorem MI.isOver_ {σ : Hp} (h : MI σ) (j : Int) : 0 ≤ aI σ 112 j ∧ aI σ 112 j ≤ 1 := h.2.1 (112, 0, 1) (List.mem_of_getElem? (i := 44) rfl) j
theorem MI_isOver_q {σ : Hp} (h : MI σ) {k v : Int} (hv : 0 ≤ v ∧ v ≤ 1) : MI (qI σ 112 k v) := MI_qI h fun q hq e => by
  have : q = (112, 0, 1) := mrt_at 44 rfl hq e
  subst this; exact hv
theorem MI.overTrue_ {σ : Hp} (h : MI σ) (j : Int) : 0 ≤ aI σ 113 j ∧ aI σ 113 j ≤ 1 := h.2.1 (113, 0, 1) (List.mem_of_getElem? (i := 45) rfl) j
theorem MI_overTrue_q {σ : Hp} (h : MI σ) {k v : Int} (hv : 0 ≤ v ∧ v ≤ 1) : MI (qI σ 113 k v) := MI_qI h fun q hq e => by
  have : q = (113, 0, 1) := mrt_at 45 rfl hq e
  subst this; exact hv
theorem MI.overDay_ {σ : Hp} (h : MI σ) (j : Int) : 0 ≤ aI σ 114 j ∧ aI σ 114 j ≤ 11 := h.2.1 (114, 0, 11) (List.mem_of_getElem? (i := 46) rfl) j
theorem MI_overDay_q {σ : Hp} (h : MI σ) {k v : Int} (hv : 0 ≤ v ∧ v ≤ 11) : MI (qI σ 114 k v) := MI_qI h fun q hq e => by
  have : q = (114, 0, 11) := mrt_at 46 rfl hq e
  subst this; exact hv
theorem MI.sentMany_ {σ : Hp} (h : MI σ) (j : Int) : 0 ≤ aI σ 115 j ∧ aI σ 115 j ≤ 20 := h.2.1 (115, 0, 20) (List.mem_of_getElem? (i := 47) rfl) j
theorem MI_sentMany_q {σ : Hp} (h : MI σ) {k v : Int} (hv : 0 ≤ v ∧ v ≤ 20) : MI (qI σ 115 k v) := MI_qI h fun q hq e => by
  have : q = (115, 0, 20) := mrt_at 47 rfl hq e
  subst this; exact hv
theorem MI.sentRow_ {σ : Hp} (h : MI σ) (j : Int) : 0 ≤ aI σ 116 j ∧ aI σ 116 j ≤ 19 := h.2.1 (116, 0, 19) (List.mem_of_getElem? (i := 48) rfl) j
theorem MI_sentRow_q {σ : Hp} (h : MI σ) {k v : Int} (hv : 0 ≤ v ∧ v ≤ 19) : MI (qI σ 116 k v) := MI_qI h fun q hq e => by
  have : q = (116, 0, 19) := mrt_at 48 rfl hq e
  subst this; exact hv
theorem MI.wordAlarm_ {σ : Hp} (h : MI σ) (j : Int) : 0 ≤ aI σ 117 j ∧ aI σ 117 j ≤ 99 := h.2.1 (117, 0, 99) (List.mem_of_getElem? (i := 49) rfl) j
theorem MI_wordAlarm_q {σ : Hp} (h : MI σ) {k v : Int} (hv : 0 ≤ v ∧ v ≤ 99) : MI (qI σ 117 k v) := MI_qI h fun q hq e => by
  have : q = (117, 0, 99) := mrt_at 49 rfl hq e
  subst this; exact hv
theorem MI.wordTrue_ {σ : Hp} (h : MI σ) (j : Int) : 0 ≤ aI σ 118 j ∧ aI σ 118 j ≤ 1 := h.2.1 (118, 0, 1) (List.mem_of_getElem? (i := 50) rfl) j
theorem MI_wordTrue_q {σ : Hp} (h : MI σ) {k v : Int} (hv : 0 ≤ v ∧ v ≤ 1) : MI (qI σ 118 k v) := MI_qI h fun q hq e => by
  have : q = (118, 0, 1) := mrt_at 50 rfl hq e
  subst this; exact hv
theorem MI.wordDay_ {σ : Hp} (h : MI σ) (j : Int) : 0 ≤ aI σ 119 j ∧ aI σ 119 j ≤ 11 := h.2.1 (119, 0, 11) (List.mem_of_getElem? (i := 51) rfl) j
theorem MI_wordDay_q {σ : Hp} (h : MI σ) {k v : Int} (hv : 0 ≤ v ∧ v ≤ 11) : MI (qI σ 119 k v) := MI_qI h fun q hq e => by
  have : q = (119, 0, 11) := mrt_at 51 rfl hq e
  subst this; exact hv
theorem MI.now_s {σ : Hp} (h : MI σ) : 0 ≤ fI σ 1301 61 ∧ fI σ 1301 61 ≤ 999999 := h.2.2 (1301, 0, 999999) (List.mem_of_getElem? (i := 0) rfl)
theorem MI_now_p {σ : Hp} (h : MI σ) {v : Int} (hv : 0 ≤ v ∧ v ≤ 999999) : MI (pI σ 1301 61 v) := MI_pI h fun _ q hq e => by
  have : q = (1301, 0, 999999) := mst_at 0 rfl hq e
  subst this; exact hv
theorem MI.boxes_s {σ : Hp} (h : MI σ) : 0 ≤ fI σ 1302 61 ∧ fI σ 1302 61 ≤ 32 := h.2.2 (1302, 0, 32) (List.mem_of_getElem? (i := 1) rfl)
theorem MI_boxes_p {σ : Hp} (h : MI σ) {v : Int} (hv : 0 ≤ v ∧ v ≤ 32) : MI (pI σ 1302 61 v) := MI_pI h fun _ q hq e => by
  have : q = (1302, 0, 32) := mst_at 1 rfl hq e
  subst this; exact hv
theorem MI.readLoop_s {σ : Hp} (h : MI σ) : -1 ≤ fI σ 1321 61 ∧ fI σ 1321 61 ≤ 3 := h.2.2 (1321, -1, 3) (List.mem_of_getElem? (i := 2) rfl)
theorem MI_readLoop_p {σ : Hp} (h : MI σ) {v : Int} (hv : -1 ≤ v ∧ v ≤ 3) : MI (pI σ 1321 61 v) := MI_pI h fun _ q hq e => by
  have : q = (1321, -1, 3) := mst_at 2 rfl hq e
  subst this; exact hv
theorem MI.storyCount_s {σ : Hp} (h : MI σ) : 0 ≤ fI σ 1322 61 ∧ fI σ 1322 61 ≤ 200 := h.2.2 (1322, 0, 200) (List.mem_of_getElem? (i := 3) rfl)
theorem MI_storyCount_p {σ : Hp} (h : MI σ) {v : Int} (hv : 0 ≤ v ∧ v ≤ 200) : MI (pI σ 1322 61 v) := MI_pI h fun _ q hq e => by
  have : q = (1322, 0, 200) := mst_at 3 rfl hq e
  subst this; exact hv
theorem MI.storySize_s {σ : Hp} (h : MI σ) : 0 ≤ fI σ 1323 61 ∧ fI σ 1323 61 ≤ 3 := h.2.2 (1323, 0, 3) (List.mem_of_getElem? (i := 4) rfl)
theorem MI_storySize_p {σ : Hp} (h : MI σ) {v : Int} (hv : 0 ≤ v ∧ v ≤ 3) : MI (pI σ 1323 61 v) := MI_pI h fun _ q hq e => by
  have : q = (1323, 0, 3) := mst_at 4 rfl hq e
  subst this; exact hv
theorem MI.span_s {σ : Hp} (h : MI σ) : 0 ≤ fI σ 1329 61 ∧ fI σ 1329 61 ≤ 300 := h.2.2 (1329, 0, 300) (List.mem_of_getElem? (i := 5) rfl)
theorem MI_span_p {σ : Hp} (h : MI σ) {v : Int} (hv : 0 ≤ v ∧ v ≤ 300) : MI (pI σ 1329 61 v) := MI_pI h fun _ q hq e => by
  have : q = (1329, 0, 300) := mst_at 5 rfl hq e
  subst this; exact hv
theorem MI.earliest_s {σ : Hp} (h : MI σ) : -1 ≤ fI σ 1330 61 ∧ fI σ 1330 61 ≤ 299 := h.2.2 (1330, -1, 299) (List.mem_of_getElem? (i := 6) rfl)
theorem MI_earliest_p {σ : Hp} (h : MI σ) {v : Int} (hv : -1 ≤ v ∧ v ≤ 299) : MI (pI σ 1330 61 v) := MI_pI h fun _ q hq e => by
  have : q = (1330, -1, 299) := mst_at 6 rfl hq e
  subst this; exact hv
theorem MI.start_s {σ : Hp} (h : MI σ) : 0 ≤ fI σ 1331 61 ∧ fI σ 1331 61 ≤ 999999 := h.2.2 (1331, 0, 999999) (List.mem_of_getElem? (i := 7) rfl)
theorem MI_start_p {σ : Hp} (h : MI σ) {v : Int} (hv : 0 ≤ v ∧ v ≤ 999999) : MI (pI σ 1331 61 v) := MI_pI h fun _ q hq e => by
  have : q = (1331, 0, 999999) := mst_at 7 rfl hq e
  subst this; exact hv
theorem MI.houses_s {σ : Hp} (h : MI σ) : 0 ≤ fI σ 1332 61 ∧ fI σ 1332 61 ≤ 12 := h.2.2 (1332, 0, 12) (List.mem_of_getElem? (i := 8) rfl)
theorem MI_houses_p {σ : Hp} (h : MI σ) {v : Int} (hv : 0 ≤ v ∧ v ≤ 12) : MI (pI σ 1332 61 v) := MI_pI h fun _ q hq e => by
  have : q = (1332, 0, 12) := mst_at 8 rfl hq e
  subst this; exact hv
theorem MI.companies_s {σ : Hp} (h : MI σ) : 0 ≤ fI σ 1335 61 ∧ fI σ 1335 61 ≤ 20 := h.2.2 (1335, 0, 20) (List.mem_of_getElem? (i := 9) rfl)
theorem MI_companies_p {σ : Hp} (h : MI σ) {v : Int} (hv : 0 ≤ v ∧ v ≤ 20) : MI (pI σ 1335 61 v) := MI_pI h fun _ q hq e => by
  have : q = (1335, 0, 20) := mst_at 9 rfl hq e
  subst this; exact hv
theorem MI.pace_s {σ : Hp} (h : MI σ) : 1 ≤ fI σ 1341 61 ∧ fI σ 1341 61 ≤ 9 := h.2.2 (1341, 1, 9) (List.mem_of_getElem? (i := 10) rfl)
theorem MI_pace_p {σ : Hp} (h : MI σ) {v : Int} (hv : 1 ≤ v ∧ v ≤ 9) : MI (pI σ 1341 61 v) := MI_pI h fun _ q hq e => by
  have : q = (1341, 1, 9) := mst_at 10 rfl hq e
  subst this; exact hv
theorem MI.reach_s {σ : Hp} (h : MI σ) : 0 ≤ fI σ 1342 61 ∧ fI σ 1342 61 ≤ 198 := h.2.2 (1342, 0, 198) (List.mem_of_getElem? (i := 11) rfl)
theorem MI_reach_p {σ : Hp} (h : MI σ) {v : Int} (hv : 0 ≤ v ∧ v ≤ 198) : MI (pI σ 1342 61 v) := MI_pI h fun _ q hq e => by
  have : q = (1342, 0, 198) := mst_at 11 rfl hq e
  subst this; exact hv
theorem MI.lettered_s {σ : Hp} (h : MI σ) : 0 ≤ fI σ 1343 61 ∧ fI σ 1343 61 ≤ 1000 := h.2.2 (1343, 0, 1000) (List.mem_of_getElem? (i := 12) rfl)
theorem MI_lettered_p {σ : Hp} (h : MI σ) {v : Int} (hv : 0 ≤ v ∧ v ≤ 1000) : MI (pI σ 1343 61 v) := MI_pI h fun _ q hq e => by
  have : q = (1343, 0, 1000) := mst_at 12 rfl hq e
  subst this; exact hv
theorem MI.size_s {σ : Hp} (h : MI σ) : 0 ≤ fI σ 1345 61 ∧ fI σ 1345 61 ≤ 1000 := h.2.2 (1345, 0, 1000) (List.mem_of_getElem? (i := 13) rfl)
theorem MI_size_p {σ : Hp} (h : MI σ) {v : Int} (hv : 0 ≤ v ∧ v ≤ 1000) : MI (pI σ 1345 61 v) := MI_pI h fun _ q hq e => by
  have : q = (1345, 0, 1000) := mst_at 13 rfl hq e
  subst this; exact hv
theorem MI.place_s {σ : Hp} (h : MI σ) : 0 ≤ fI σ 1346 61 ∧ fI σ 1346 61 ≤ 1001 := h.2.2 (1346, 0, 1001) (List.mem_of_getElem? (i := 14) rfl)
theorem MI_place_p {σ : Hp} (h : MI σ) {v : Int} (hv : 0 ≤ v ∧ v ≤ 1001) : MI (pI σ 1346 61 v) := MI_pI h fun _ q hq e => by
  have : q = (1346, 0, 1001) := mst_at 14 rfl hq e
  subst this; exact hv
theorem MI.begin_s {σ : Hp} (h : MI σ) : 0 ≤ fI σ 1347 61 ∧ fI σ 1347 61 ≤ 1001 := h.2.2 (1347, 0, 1001) (List.mem_of_getElem? (i := 15) rfl)
theorem MI_begin_p {σ : Hp} (h : MI σ) {v : Int} (hv : 0 ≤ v ∧ v ≤ 1001) : MI (pI σ 1347 61 v) := MI_pI h fun _ q hq e => by
  have : q = (1347, 0, 1001) := mst_at 15 rfl hq e
  subst this; exact hv
theorem MI.token_s {σ : Hp} (h : MI σ) : 0 ≤ fI σ 1348 61 ∧ fI σ 1348 61 ≤ 4 := h.2.2 (1348, 0, 4) (List.mem_of_getElem? (i := 16) rfl)
theorem MI_token_p {σ : Hp} (h : MI σ) {v : Int} (hv : 0 ≤ v ∧ v ≤ 4) : MI (pI σ 1348 61 v) := MI_pI h fun _ q hq e => by
  have : q = (1348, 0, 4) := mst_at 16 rfl hq e
  subst this; exact hv
theorem MI.told_s {σ : Hp} (h : MI σ) : 0 ≤ fI σ 1350 61 ∧ fI σ 1350 61 ≤ 9999 := h.2.2 (1350, 0, 9999) (List.mem_of_getElem? (i := 17) rfl)
theorem MI_told_p {σ : Hp} (h : MI σ) {v : Int} (hv : 0 ≤ v ∧ v ≤ 9999) : MI (pI σ 1350 61 v) := MI_pI h fun _ q hq e => by
  have : q = (1350, 0, 9999) := mst_at 17 rfl hq e
  subst this; exact hv
theorem MI.wrong_s {σ : Hp} (h : MI σ) : 0 ≤ fI σ 1351 61 ∧ fI σ 1351 61 ≤ 17000 := h.2.2 (1351, 0, 17000) (List.mem_of_getElem? (i := 18) rfl)
theorem MI_wrong_p {σ : Hp} (h : MI σ) {v : Int} (hv : 0 ≤ v ∧ v ≤ 17000) : MI (pI σ 1351 61 v) := MI_pI h fun _ q hq e => by
  have : q = (1351, 0, 17000) := mst_at 18 rfl hq e
  subst this; exact hv
theorem MI.cardLines_s {σ : Hp} (h : MI σ) : 0 ≤ fI σ 1352 61 ∧ fI σ 1352 61 ≤ 24 := h.2.2 (1352, 0, 24) (List.mem_of_getElem? (i := 19) rfl)
theorem MI_cardLines_p {σ : Hp} (h : MI σ) {v : Int} (hv : 0 ≤ v ∧ v ≤ 24) : MI (pI σ 1352 61 v) := MI_pI h fun _ q hq e => by
  have : q = (1352, 0, 24) := mst_at 19 rfl hq e
  subst this; exact hv
theorem MI.newLines_s {σ : Hp} (h : MI σ) : 0 ≤ fI σ 1353 61 ∧ fI σ 1353 61 ≤ 24 := h.2.2 (1353, 0, 24) (List.mem_of_getElem? (i := 20) rfl)
theorem MI_newLines_p {σ : Hp} (h : MI σ) {v : Int} (hv : 0 ≤ v ∧ v ≤ 24) : MI (pI σ 1353 61 v) := MI_pI h fun _ q hq e => by
  have : q = (1353, 0, 24) := mst_at 20 rfl hq e
  subst this; exact hv
theorem MI.code_s {σ : Hp} (h : MI σ) : 0 ≤ fI σ 1359 61 ∧ fI σ 1359 61 ≤ 2000 := h.2.2 (1359, 0, 2000) (List.mem_of_getElem? (i := 21) rfl)
theorem MI_code_p {σ : Hp} (h : MI σ) {v : Int} (hv : 0 ≤ v ∧ v ≤ 2000) : MI (pI σ 1359 61 v) := MI_pI h fun _ q hq e => by
  have : q = (1359, 0, 2000) := mst_at 21 rfl hq e
  subst this; exact hv
theorem MI.alarms_s {σ : Hp} (h : MI σ) : 0 ≤ fI σ 1371 61 ∧ fI σ 1371 61 ≤ 100 := h.2.2 (1371, 0, 100) (List.mem_of_getElem? (i := 22) rfl)
theorem MI_alarms_p {σ : Hp} (h : MI σ) {v : Int} (hv : 0 ≤ v ∧ v ≤ 100) : MI (pI σ 1371 61 v) := MI_pI h fun _ q hq e => by
  have : q = (1371, 0, 100) := mst_at 22 rfl hq e
  subst this; exact hv
theorem MI.words_s {σ : Hp} (h : MI σ) : 0 ≤ fI σ 1380 61 ∧ fI σ 1380 61 ≤ 200 := h.2.2 (1380, 0, 200) (List.mem_of_getElem? (i := 23) rfl)
theorem MI_words_p {σ : Hp} (h : MI σ) {v : Int} (hv : 0 ≤ v ∧ v ≤ 200) : MI (pI σ 1380 61 v) := MI_pI h fun _ q hq e => by
  have : q = (1380, 0, 200) := mst_at 23 rfl hq e
  subst this; exact hv
theorem MI.movedA_s {σ : Hp} (h : MI σ) : -1 ≤ fI σ 1384 61 ∧ fI σ 1384 61 ≤ 19 := h.2.2 (1384, -1, 19) (List.mem_of_getElem? (i := 24) rfl)
theorem MI_movedA_p {σ : Hp} (h : MI σ) {v : Int} (hv : -1 ≤ v ∧ v ≤ 19) : MI (pI σ 1384 61 v) := MI_pI h fun _ q hq e => by
  have : q = (1384, -1, 19) := mst_at 24 rfl hq e
  subst this; exact hv
theorem MI.toA_s {σ : Hp} (h : MI σ) : 0 ≤ fI σ 1385 61 ∧ fI σ 1385 61 ≤ 11 := h.2.2 (1385, 0, 11) (List.mem_of_getElem? (i := 25) rfl)
theorem MI_toA_p {σ : Hp} (h : MI σ) {v : Int} (hv : 0 ≤ v ∧ v ≤ 11) : MI (pI σ 1385 61 v) := MI_pI h fun _ q hq e => by
  have : q = (1385, 0, 11) := mst_at 25 rfl hq e
  subst this; exact hv
theorem MI.movedB_s {σ : Hp} (h : MI σ) : -1 ≤ fI σ 1386 61 ∧ fI σ 1386 61 ≤ 19 := h.2.2 (1386, -1, 19) (List.mem_of_getElem? (i := 26) rfl)
theorem MI_movedB_p {σ : Hp} (h : MI σ) {v : Int} (hv : -1 ≤ v ∧ v ≤ 19) : MI (pI σ 1386 61 v) := MI_pI h fun _ q hq e => by
  have : q = (1386, -1, 19) := mst_at 26 rfl hq e
  subst this; exact hv
theorem MI.toB_s {σ : Hp} (h : MI σ) : 0 ≤ fI σ 1387 61 ∧ fI σ 1387 61 ≤ 11 := h.2.2 (1387, 0, 11) (List.mem_of_getElem? (i := 27) rfl)
theorem MI_toB_p {σ : Hp} (h : MI σ) {v : Int} (hv : 0 ≤ v ∧ v ≤ 11) : MI (pI σ 1387 61 v) := MI_pI h fun _ q hq e => by
  have : q = (1387, 0, 11) := mst_at 27 rfl hq e
  subst this; exact hv
