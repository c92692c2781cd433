/-! an array of four arrays of longs is made -/

def mnI (c : ClassId) : Cell := { cls := c, slots := Array.replicate 5 (.long 0), vm := .none }
def mnO (c : ClassId) (h : Nat) : Nat → Cell
  | 0 => { cls := c, slots := Array.replicate 4 .null, vm := .none }
  | i + 1 => (mnO c h i).setSlot i (.ref (h + 1 + i))
def mnT (T : State) (cO cI : ClassId) : Nat → State
  | 0 => T.pushCell (mnO cO T.heap.size 0)
  | i + 1 => ((mnT T cO cI i).pushCell (mnI cI)).setCell T.heap.size (mnO cO T.heap.size (i + 1))
theorem mnO_f (c : ClassId) (h : Nat) : ∀ i, (mnO c h i).cls = c ∧ (mnO c h i).vm = .none ∧ (mnO c h i).slots.size = 4
  | 0 => ⟨rfl, rfl, rfl⟩
  | i + 1 => by
    obtain ⟨a, b, d⟩ := mnO_f c h i
    exact ⟨a, b, by unfold mnO; simp only [Cell.setSlot, Array.size_setIfInBounds]; exact d⟩
theorem mnT_f (T : State) (cO cI : ClassId) : ∀ i, (mnT T cO cI i).heap.size = T.heap.size + 1 + i ∧ (mnT T cO cI i).heap[T.heap.size]? = some (mnO cO T.heap.size i) ∧ (mnT T cO cI i).vm = T.vm ∧ (mnT T cO cI i).slotsUsed = T.slotsUsed + 4 + 5 * i
  | 0 => ⟨size_pushCell _ _, State.heap_pushCell_size _ _, rfl, by simp [mnT, mnO]⟩
  | i + 1 => by
    obtain ⟨a, b, d, u⟩ := mnT_f T cO cI i
    have hlt : T.heap.size < (mnT T cO cI i).heap.size := by omega
    have hb : ((mnT T cO cI i).pushCell (mnI cI)).heap[T.heap.size]? = some (mnO cO T.heap.size i) := by rw [State.heap_pushCell_of_lt (h := hlt)]; exact b
    refine ⟨?_, State.heap_setCell_self hb, by simp [mnT, d], ?_⟩
    · unfold mnT
      rw [size_setCell, size_pushCell, a]
      omega
    · simp [mnT, u, mnI]
      omega
theorem mnT_top (T : State) (f : JFrame) (cO cI : ClassId) : ∀ i, mnT (T.setTop f) cO cI i = (mnT T cO cI i).setTop f
  | 0 => rfl
  | i + 1 => by simp only [mnT, mnT_top T f cO cI i, State.heap_setTop, State.pushCell_setTop, State.setCell_setTop]
section MNW
variable {E : CtlPost} {e : Env} {d : Bool} {acts : List Action} {T : State}
theorem mn_fitR {t : FieldType} (h : t.isReference = true) (v : Value) (hv : v = .null ∨ ∃ a, v = .ref a) : fits t v = true := by
  rcases hv with rfl | ⟨a, rfl⟩ <;> cases t <;> simp [FieldType.isReference] at h <;> rfl
theorem mn_new {c comp : ClassId} {k : Class} {ty : FieldType} {N : Nat} {v : Value} (hk : T.vm.classes[c]? = some k) (hkd : k.kind = .array comp ty) (hl : ¬ N > e.platform.arrayLengthLimit) (hh : ¬ N * componentBytes ty > e.platform.maxHeapBytes) (hf : fits ty v = true) (hd : v.isDefault = true) (h1 : T.heap.size < e.platform.maxCells) (h2 : T.slotsUsed + N ≤ e.platform.maxSlots) {Q : Addr → Pre} (hq : Q T.heap.size d acts (T.pushCell { cls := c, slots := Array.replicate N v, vm := .none })) : wp (Jvm.newArray c N v) Q E e d acts T := by
  have hfit : ∀ i w, (Array.replicate N v)[i]? = some w → T.fitsSlot c .none i w = true := by
    intro i w hw
    rw [Array.getElem?_replicate] at hw
    by_cases q : i < N
    · rw [if_pos q] at hw
      cases hw
      simp [State.fitsSlot, State.slotType?, hk, hkd, hf]
    · rw [if_neg q] at hw
      cases hw
  have hact : allocActs (Array.replicate N v) T.heap.size acts = acts := by
    have hall : ((Array.replicate N v).all (·.isDefault)) = true := by
      rw [Array.all_replicate]
      split <;> simp [hd]
    unfold allocActs
    rw [if_pos hall]
  simp only [Jvm.newArray, Jvm.arrayFits, wp_bind', W.ask, W.ite, hl, if_false, wp_pure', W.theClass, hk, hkd, hh, W.alloc, W.stop, Option.some.injEq, exists_eq_left', Array.size_replicate, hact]
  rw [if_neg (by omega)]
  exact ⟨h1, h2, hfit, hq⟩
theorem mn_in {cI cJ : ClassId} {kI : Class} (hk : T.vm.classes[cI]? = some kI) (hkd : kI.kind = .array cJ .long) (hl : ¬ 5 > e.platform.arrayLengthLimit) (hh : ¬ 5 * componentBytes .long > e.platform.maxHeapBytes) (h1 : T.heap.size < e.platform.maxCells) (h2 : T.slotsUsed + 5 ≤ e.platform.maxSlots) {Q : Addr → Pre} (hq : Q T.heap.size d acts (T.pushCell (mnI cI))) : wp (multianewarray.make cI [(5 : Int32)]) Q E e d acts T := by
  have e5 : (5 : Int32).toNatClampNeg = 5 := by decide
  have n5 : ¬ (5 : Int32) < 0 := by decide
  rw [multianewarray.make]
  simp only [wp_bind', W.ite, n5, if_false, wp_pure', W.theClass, hk, hkd, Option.some.injEq, exists_eq_left', e5]
  exact mn_new hk hkd hl hh rfl rfl h1 h2 hq
theorem mn_out {cO cI cJ : ClassId} {kO kI : Class} (hkO : T.vm.classes[cO]? = some kO) (hdO : kO.kind = .array cI (.array .long)) (hkI : T.vm.classes[cI]? = some kI) (hdI : kI.kind = .array cJ .long) (hl4 : ¬ 4 > e.platform.arrayLengthLimit) (hl : ¬ 5 > e.platform.arrayLengthLimit) (hh4 : ¬ 4 * componentBytes (.array .long) > e.platform.maxHeapBytes) (hh : ¬ 5 * componentBytes .long > e.platform.maxHeapBytes) (h1 : T.heap.size + 5 ≤ e.platform.maxCells) (h2 : T.slotsUsed + 24 ≤ e.platform.maxSlots) {Q : Addr → Pre} (hq : ∀ d' acts', Q T.heap.size d' acts' (mnT T cO cI 4)) : wp (multianewarray.make cO [(4 : Int32), 5]) Q E e d acts T := by
  have e4 : (4 : Int32).toNatClampNeg = 4 := by decide
  have n4 : ¬ (4 : Int32) < 0 := by decide
  have hz : ¬ ((4 : Int32) == 0) = true := by decide
  rw [multianewarray.make]
  simp only [wp_bind', W.ite, n4, hz, if_false, wp_pure', W.theClass, hkO, hdO, Option.some.injEq, exists_eq_left', e4]
  refine mn_new hkO hdO hl4 hh4 (mn_fitR rfl _ (Or.inl rfl)) rfl (by omega) (by omega) ?_
  simp only [Bool.false_eq_true, reduceIte, wp_bind']
  rw [Std.Legacy.Range.forIn_eq_forIn_range']
  have hsz : ([:4] : Std.Legacy.Range).size = 4 := by decide
  rw [hsz]
  show wp (forIn (List.range' 0 4 1) PUnit.unit _) _ E e _ _ _
  refine wp_forIn_inv (fun rest T' => ∃ i, i ≤ 4 ∧ rest = List.range' i (4 - i) ∧ T' = mnT T cO cI i) _ _ ⟨0, Nat.zero_le _, rfl, rfl⟩ ?_ ?_
  · rintro x rest T' d' acts' Q' ⟨i, hi, hl9, rfl⟩ hnext
    have hlt : i < 4 := by
      rcases Nat.lt_or_ge i 4 with h | h
      · exact h
      · rw [show 4 - i = 0 from by omega] at hl9
        cases hl9
    obtain ⟨rfl, hrest⟩ : x = i ∧ rest = List.range' (i + 1) (4 - (i + 1)) := by
      rw [show 4 - i = (4 - (i + 1)) + 1 from by omega, List.range'_succ] at hl9
      exact ⟨(List.cons.inj hl9).1, (List.cons.inj hl9).2⟩
    obtain ⟨f1, f2, f3, f4⟩ := mnT_f T cO cI x
    obtain ⟨o1, o2, o3⟩ := mnO_f cO T.heap.size x
    simp only [wp_bind']
    refine mn_in (by rw [f3]; exact hkI) hdI hl hh (by rw [f1]; omega) (by rw [f4]; omega) ?_
    have hlt0 : T.heap.size < (mnT T cO cI x).heap.size := by omega
    simp only [wp_bind', W.writeLoc, wp_pure']
    refine ⟨mnO cO T.heap.size x, by rw [State.heap_pushCell_of_lt (h := hlt0)]; exact f2, by rw [o2]; simp, by rw [o3]; exact hlt, ?_, hnext _ _ _ ⟨x + 1, hlt, hrest, ?_⟩⟩
    · rw [o1, o2]
      simp [State.fitsSlot, State.slotType?, f3, hkO, hdO]
      exact mn_fitR (t := .array .long) rfl _ (Or.inr ⟨_, rfl⟩)
    · rw [f1]
      rfl
  · rintro T' d' acts' ⟨i, hi, hl9, rfl⟩
    have hi4 : i = 4 := by
      rcases Nat.lt_or_ge i 4 with h | h
      · rw [show 4 - i = (4 - (i + 1)) + 1 from by omega, List.range'_succ] at hl9
        cases hl9
      · omega
    rw [hi4]
    simp only [wp_pure']
    exact hq _ _
end MNW
section MNS
variable {p : Program} {l : Launch} {e : Env} {R : Room} {s : State} {m : MethodId} {args : Array Value} {below : List Frame} {meth : Method} {c : Code} {T : State} {locs : List Loc} {cells slots : Nat}
theorem mn_std (X : Stand p l e R s m args below meth c T locs cells slots) (cO cI : ClassId) : ∀ i : Nat, Stand p l e R s m args below meth c (mnT T cO cI i) (locs ++ (List.range i).map fun j => ⟨T.heap.size, j⟩) (cells + 1 + i) (slots + 4 + 5 * i)
  | 0 => by
    have h := X.pushed (mnO cO T.heap.size 0)
    rw [(mnO_f cO T.heap.size 0).2.2] at h
    simpa [mnT] using h
  | i + 1 => by
    have Xi := mn_std X cO cI i
    obtain ⟨f1, f2, f3, f4⟩ := mnT_f T cO cI i
    have hlt0 : T.heap.size < (mnT T cO cI i).heap.size := by omega
    have hcell : ((mnT T cO cI i).pushCell (mnI cI)).heap[T.heap.size]? = some (mnO cO T.heap.size i) := by rw [State.heap_pushCell_of_lt (h := hlt0)]; exact f2
    have h := (Xi.pushed (mnI cI)).stored hcell i (.ref (T.heap.size + 1 + i))
    have e1 : (mnI cI).slots.size = 5 := rfl
    rw [e1] at h
    have e2 : (locs ++ (List.range (i + 1)).map fun j => (⟨T.heap.size, j⟩ : Loc)) = (locs ++ (List.range i).map fun j => (⟨T.heap.size, j⟩ : Loc)) ++ [⟨T.heap.size, i⟩] := by
      rw [List.range_succ, List.map_append, List.map_singleton, List.append_assoc]
    rw [e2, show slots + 4 + 5 * (i + 1) = slots + 4 + 5 * i + 5 by omega, show cells + 1 + (i + 1) = cells + 1 + i + 1 by omega]
    exact h
end MNS
theorem nm_JJ : "[" ++ (FieldType.array .long).toString = "[[J" := by decide +kernel
section MNR
variable {p : Program} {l : Launch} {e : Env} {R : Room} {s : State} {m : MethodId} {args : Array Value} {below : List Frame} {meth : Method} {c : Code} {H : Heap} {locs : List Loc} {cells slots : Nat} {Q : State → Prop}
theorem mn_W {cc : ByteArray} (hexec : p.tables.exec = Jvm.exec) (hb : c.code = cc) {own : String} {index : Nat} (hown : s.vm.findClass own = some m.cls) (hclink : (Cond.classLink own index ("[" ++ (FieldType.array .long).toString)).before args s = true) (hover : (Cond.arrayOver (.array .long)).before #[] s = true) (harr : (Cond.arrayClass .long).before args s = true)
    {g : JFrame} (hg : g.method = m) (hdg : decode cc g.pc = .ok (.multianewarray index 2, 4)) {rest : List Value} (hstack : g.stack = .int 5 :: .int 4 :: rest) (hcells : cells + 5 ≤ R.cells) (hslots : slots + 24 ≤ R.slots)
    (kk : ∀ (cO cI : ClassId) (U : State), s.vm.findClass ("[" ++ (FieldType.array .long).toString) = some cO → s.vm.findClass ("[" ++ FieldType.long.toString) = some cI → U.heap = H → W p l e R s m args below meth c (mnT U cO cI 4).heap (locs ++ (List.range 4).map fun j => (⟨H.size, j⟩ : Loc)) (cells + 5) (slots + 24) Q { g with pc := g.pc + 4, stack := .ref H.size :: rest }) : W p l e R s m args below meth c H locs cells slots Q g := by
  intro T hT X
  subst hT; subst hb; subst hg
  have hpl : e.platform.magicAccessors = ({} : Platform).magicAccessors := by rw [X.admits.platform]
  obtain ⟨cI, cO, kO, hcomp, -, hkO, hkindO, hnameO⟩ := arrayOverA_spec hover
  obtain ⟨cI', kI, cJ, hcI', hkI, hkindI⟩ := Cond.arrayClass_spec harr
  have ecomp : cI' = cI := Option.some.inj (hcI'.symm.trans hcomp)
  rw [ecomp] at hkI hcI'
  obtain ⟨c0, hfc0, hcl⟩ := Cond.classLink_spec hown hclink e.platform hpl
  have ec0 : c0 = cO := Option.some.inj (hfc0.symm.trans hnameO)
  rw [ec0] at hcl
  obtain ⟨hg₁, hwarm₁, hready₁⟩ := State.classEntry (e := e) X.warmed hcl
  generalize T.vm.noted g.method.cls index (.cls cO) = vm₁ at hg₁ hwarm₁ hready₁
  have hal : s.vm.Alike vm₁ := hwarm₁.alike
  obtain ⟨kO₁, hkO₁, heO⟩ := hal.2.2 _ _ hkO
  obtain ⟨kI₁, hkI₁, heI⟩ := hal.2.2 _ _ hkI
  have hkindO₁ : kO₁.kind = .array cI (.array .long) := by rw [heO]; exact hkindO
  have hkindI₁ : kI₁.kind = .array cJ .long := by rw [heI]; exact hkindI
  have X₁ := X.noted hwarm₁
  obtain ⟨hr1, hr2⟩ := X.roomAbove hcells hslots
  have XF := mn_std X₁ cO cI 4
  obtain ⟨t', a1, b1⟩ := kk cO cI (T.setVm vm₁) hnameO hcI' rfl (mnT (T.setVm vm₁) cO cI 4) rfl XF
  refine ⟨t', ?_, b1⟩
  have hl4 : ¬ 4 > e.platform.arrayLengthLimit := by rw [Launch.admits_arrayLengthLimit X.admits]; omega
  have hl5 : ¬ 5 > e.platform.arrayLengthLimit := by rw [Launch.admits_arrayLengthLimit X.admits]; omega
  have hh4 : ¬ 4 * componentBytes (.array .long) > e.platform.maxHeapBytes := by
    rw [Launch.admits_maxHeapBytes X.admits]; show ¬ 4 * 4 > 536870912; omega
  have hh5 : ¬ 5 * componentBytes .long > e.platform.maxHeapBytes := by
    rw [Launch.admits_maxHeapBytes X.admits]; show ¬ 5 * 8 > 536870912; omega
  jvm_step X.here [hexec, hdg]
  simp only [multianewarray.sem, wp_bind', W.resolveClassAt_links (State.method?_setTop g X.here.top) hg₁]
  rw [W.popN, if_neg (by decide)]
  refine ⟨g, State.topJava?_setTop' (s := T.setVm vm₁) g X.here.top, [.int 4, .int 5], rest, rfl, hstack, ?_⟩
  simp only [List.mapM_cons, List.mapM_nil, wp_bind', wp_pure']
  refine mn_out hkO₁ hkindO₁ hkI₁ hkindI₁ hl4 hl5 hh4 hh5 (by show T.heap.size + 5 ≤ _; omega) (by show T.slotsUsed + 24 ≤ _; omega) (fun d' acts' => ?_)
  have eS : ((T.setTop g).setVm vm₁).setTop { g with stack := rest } = (T.setVm vm₁).setTop { g with stack := rest } := by
    show ((T.setVm vm₁).setTop g).setTop _ = _
    rw [State.setTop_setTop]
  rw [eS, mnT_top]
  simp only [wp_bind', W.mark, W.pushRef, State.topJava?_setTop' _ XF.here.top, Option.some.injEq, exists_eq_left', State.setTop_setTop, State.heap_setTop]
  intro acts
  simp [jvm, XF.here.top]
  exact a1
end MNR
/-- the memory behind it: four rows of five, the outer one ahead of them -/
def mnA (σ : Hp) : Nat → Hp
  | 0 => mk σ 107 4
  | i + 1 => qR (mk (mnA σ i) 102 5) (nx σ) (i : Int) (nx σ + 1 + i)
section MNP
variable {g : GG} {p : Program} {l : Launch} {e : Env} {s : State} {m : MethodId} {args : Array Value} {below : List Frame} {meth : Method} {cd : Code} {nL lv mc ms : Nat} {Q : State → Prop}
variable {own : String} {cc : ByteArray} {ret : Option FieldType} {pc : Nat} {ls : List (Option AV)} {st : List AV} {σ : Hp} {k : Nat × Nat}
theorem mn_set (hX : PM g) {H : Heap} {locs : List Loc} (h1 : HB g s σ H) (h2 : va_S (AF g) s.heap H locs) {r v : Int} {i : Nat} (hk : kd σ r = 107) (hrp : 0 < r) (hi : (i : Int) < ln σ r) (hv0 : 0 < v) {cell : Cell} (hcell : H[ad g r]? = some cell) : HB g s (qR σ r (i : Int) v) (H.setIfInBounds (ad g r) (cell.setSlot i (.ref (ad g v)))) ∧ va_S (AF g) s.heap (H.setIfInBounds (ad g r) (cell.setSlot i (.ref (ad g v)))) locs := by
  have hlen := h1.2.1.2.2.1 r
  obtain ⟨-, hrn, -⟩ := h1.2.1.2.1 r (by omega)
  have hat := h1.1.arr hk (by omega) hrp
  rw [aval_ref (by omega)] at hat
  have hat : H[ad g r]? = some (arrV (gA g 107) (ln σ r).toNat (fun j => va_rf (rv g (aR σ r j)))) := hat
  have hce : cell = arrV (gA g 107) (ln σ r).toNat (fun j => va_rf (rv g (aR σ r j))) := Option.some.inj (hcell.symm.trans hat)
  rw [hce, arrV_store]
  generalize hc9 : arrV (gA g 107) (ln σ r).toNat (updV (fun j => va_rf (rv g (aR σ r j))) i (.ref (ad g v))) = c9
  have hl : ad g r < H.size := (Array.getElem?_eq_some_iff.mp hat).1
  have oq : ∀ q : Nat, q ≠ ad g r → (H.setIfInBounds (ad g r) c9)[q]? = H[q]? := fun q hq => by simp [Array.getElem?_setIfInBounds, Ne.symm hq]
  have hsz : (H.setIfInBounds (ad g r) c9).size = H.size := by simp
  have hA : AF g (ad g r) := by rw [ad_pos g hrp]; exact Nat.le_add_right _ _
  have hne : ∀ q : Int, q ≠ r → aR (qR σ r (i : Int) v) q = aR σ q := fun q hq => ua_ne _ _ _ hq
  refine ⟨⟨h1.1.put (σ' := qR σ r (i : Int) v) h1.2.1 hX hrp rfl (fun q hq => cel_q_ne rfl rfl rfl rfl rfl rfl rfl (hne q hq)) ?_ oq, h1.2.1.q (r := r) rfl rfl rfl rfl rfl rfl (fun q hq => ⟨rfl, rfl, hne q hq⟩) hrn, by rw [hsz]; exact h1.2.2.1, ?_⟩, ⟨by rw [hsz]; exact h2.1, fun q g1 g2 => by
      rw [oq q (fun e => g2 (by rw [e]; exact hA))]
      exact h2.2.1 q g1 g2, h2.2.2⟩⟩
  · rw [cel_arr (σ := qR σ r (i : Int) v) (κ := 107) hk (by omega), aval_ref (by omega)]
    show (H.setIfInBounds (ad g r) c9)[ad g r]? = some (vp_cell _ _)
    rw [show (H.setIfInBounds (ad g r) c9)[ad g r]? = some c9 by simp [Array.getElem?_setIfInBounds, hl], ← hc9]
    show some (arrV (gA g 107) (ln σ r).toNat (updV _ _ _)) = some (arrV (gA g 107) (ln σ r).toNat (fun j => va_rf (rv g (aR (qR σ r (i : Int) v) r j))))
    congr 2
    funext q
    unfold updV
    by_cases hq : q = i
    · rw [if_pos hq, hq, show aR (qR σ r (i : Int) v) r i = v from if_pos ⟨rfl, rfl⟩, rv_ne (by omega)]
      rfl
    · rw [if_neg hq, show aR (qR σ r (i : Int) v) r q = aR σ r q from if_neg (by omega)]
  · refine (h1.2.2.2.q (σ' := qR σ r (i : Int) v) (r := r) rfl rfl rfl rfl (fun _ _ => rfl) (by omega)).kept fun q hq hA2 => oq q ?_
    intro e9
    exact hA2 (by rw [e9]; exact hA)
theorem mn_HB (hX : PM g) {H : Heap} {locs : List Loc} (h1 : HB g s σ H) (h2 : va_S (AF g) s.heap H locs) {U : State} (hU : U.heap = H) : ∀ i : Nat, i ≤ 4 → (HB g s (mnA σ i) (mnT U (gA g 107) (gA g 102) i).heap ∧ va_S (AF g) s.heap (mnT U (gA g 107) (gA g 102) i).heap locs) ∧ nx (mnA σ i) = nx σ + 1 + i ∧ kd (mnA σ i) (nx σ) = 107 ∧ ln (mnA σ i) (nx σ) = 4
  | 0, _ => by
    have hz := h1.2.1.2.2.2 (nx σ) (by omega)
    refine ⟨h1.mk h2 (κ := 107) (n := 4) (Or.inr (by omega)) (by omega) (fun _ => ?_) ?_ ?_, ?_, if_pos rfl, if_pos rfl⟩
    · have hk2 : kd (mk σ 107 4) (nx σ) = 107 := if_pos rfl
      have hl2 : ln (mk σ 107 4) (nx σ) = 4 := if_pos rfl
      rw [cel_arr hk2 (by omega), ad_nx h1, ← hU]
      show (U.pushCell (mnO (gA g 107) U.heap.size 0)).heap[U.heap.size]? = some (vp_cell _ (aval _ _ _ _))
      rw [State.heap_pushCell_size, aval_newR (by omega) hl2 hz.2.2.2.2.2]
      show some ({ cls := gA g 107, slots := Array.replicate 4 .null, vm := .none } : Cell) = _
      rw [arrV_new]
      rfl
    · show (U.pushCell _).heap.size = _
      rw [size_pushCell, hU]
    · intro q hq
      show (U.pushCell _).heap[q]? = _
      rw [State.heap_pushCell_of_lt (h := by rw [hU]; exact hq), hU]
    · show nx σ + 1 = nx σ + 1 + ((0 : Nat) : Int)
      omega
  | i + 1, hi => by
    obtain ⟨⟨b1, b2⟩, n1, k1, l1⟩ := mn_HB hX h1 h2 hU i (by omega)
    have hp := h1.2.1.1
    obtain ⟨f1, f2, f3, f4⟩ := mnT_f U (gA g 107) (gA g 102) i
    have hz := b1.2.1.2.2.2 (nx (mnA σ i)) (by omega)
    have b3 : HB g s (mk (mnA σ i) 102 5) ((mnT U (gA g 107) (gA g 102) i).pushCell (mnI (gA g 102))).heap ∧ va_S (AF g) s.heap ((mnT U (gA g 107) (gA g 102) i).pushCell (mnI (gA g 102))).heap locs := by
      refine b1.mk b2 (κ := 102) (n := 5) (Or.inr (by omega)) (by omega) (fun _ => ?_) (size_pushCell _ _) (fun q hq => State.heap_pushCell_of_lt _ _ hq)
      have hk2 : kd (mk (mnA σ i) 102 5) (nx (mnA σ i)) = 102 := if_pos rfl
      have hl2 : ln (mk (mnA σ i) 102 5) (nx (mnA σ i)) = 5 := if_pos rfl
      have y5 : ∀ j, aL (mk (mnA σ i) 102 5) (nx (mnA σ i)) j = 0 := hz.2.2.2.2.1
      rw [cel_arr hk2 (by omega), ad_nx b1]
      show (State.pushCell _ _).heap[_]? = some (vp_cell (gA g 102) (aval g _ 102 _))
      rw [State.heap_pushCell_size, aval_newL hl2 y5]
      show some ({ cls := gA g 102, slots := Array.replicate 5 (.long 0), vm := .none } : Cell) = _
      rw [arrV_new]
      rfl
    have hr1 : kd (mk (mnA σ i) 102 5) (nx σ) = 107 := by rw [kd_mk, if_neg (by omega)]; exact k1
    have hr2 : ln (mk (mnA σ i) 102 5) (nx σ) = 4 := by rw [ln_mk, if_neg (by omega)]; exact l1
    have hadr : ad g (nx σ) = U.heap.size := by rw [ad_nx h1, hU]
    have hadv : ad g (nx σ + 1 + i) = U.heap.size + 1 + i := by
      rw [ad_pos g (by omega), hU, h1.2.2.1.2 _ (by omega), h1.2.2.1.1]
      omega
    have hlt0 : U.heap.size < (mnT U (gA g 107) (gA g 102) i).heap.size := by omega
    have hcell : ((mnT U (gA g 107) (gA g 102) i).pushCell (mnI (gA g 102))).heap[ad g (nx σ)]? = some (mnO (gA g 107) U.heap.size i) := by rw [hadr, State.heap_pushCell_of_lt (h := hlt0)]; exact f2
    have b4 := mn_set hX b3.1 b3.2 (r := nx σ) (v := nx σ + 1 + i) (i := i) hr1 (by omega) (by rw [hr2]; omega) (by omega) hcell
    rw [hadr, hadv] at b4
    refine ⟨b4, ?_, hr1, hr2⟩
    show nx (mnA σ i) + 1 = _
    omega
theorem w_mnew (C : MC g p s m args meth cd own cc nL ret) {index : Nat} (hL : Cond.classLink own index "[[J" ∈ TBL) (hO : Cond.arrayOver (.array .long) ∈ XW) (hI : Cond.arrayClass .long ∈ TBL) (hc : k.1 + 5 ≤ mc) (hs : k.2 + 24 ≤ ms) (hd : decode cc pc = .ok (.multianewarray index 2, 4))
    (kk : WW g p l e s m args below meth cd nL lv mc ms Q (pc + 4) ls (vr (nx σ) :: st) (mnA σ 4) (k.1 + 5, k.2 + 24)) : WW g p l e s m args below meth cd nL lv mc ms Q pc ls (vi 5 :: vi 4 :: st) σ k := fun H locs la h1 h2 h3 h4 h5 => by
  have hp := h1.2.1.1
  have e5 : c32 5 = 5 := by decide
  have e4 : c32 4 = 4 := by decide
  show W p l e (rmOf lv mc ms) s m args below meth cd H locs k.1 k.2 Q (F0 m pc la (.int (c32 5) :: .int (c32 4) :: st.map (cv g)))
  rw [e5, e4]
  refine mn_W C.hx C.hb C.hown (by rw [nm_JJ]; exact C.hts _ hL) (C.hE _ hO) (C.hts _ hI) rfl hd rfl hc hs fun cO cI U eO eI eU => ?_
  have gO : gA g 107 = cO := Option.some.inj ((C.hK.2 6 _ rfl).2.symm.trans eO)
  have gI : gA g 102 = cI := Option.some.inj ((C.hK.2 1 _ rfl).2.symm.trans eI)
  rw [← gO, ← gI]
  obtain ⟨⟨b1, b2⟩, -⟩ := mn_HB C.hX h1 h2 eU 4 (Nat.le_refl _)
  have hloc : va_S (AF g) s.heap (mnT U (gA g 107) (gA g 102) 4).heap (locs ++ (List.range 4).map fun j => (⟨H.size, j⟩ : Loc)) := ⟨b2.1, b2.2.1, fun q hq => by
    rcases List.mem_append.mp hq with h | h
    · exact b2.2.2 q h
    · obtain ⟨z, -, hz⟩ := List.mem_map.mp h
      rw [← hz]
      show gB g ≤ H.size
      rw [h1.2.2.1.1]
      exact Nat.le_add_right _ _⟩
  have kk1 := kk _ _ la b1 hloc h3 hc hs
  have kk1 : W p l e (rmOf lv mc ms) s m args below meth cd (mnT U (gA g 107) (gA g 102) 4).heap (locs ++ (List.range 4).map fun j => (⟨H.size, j⟩ : Loc)) (k.1 + 5) (k.2 + 24) Q (F0 m (pc + 4) la (va_rf (rv g (nx σ)) :: st.map (cv g))) := kk1
  rw [rv_ne (by omega), ad_nx h1] at kk1
  exact kk1
end MNP
theorem go_mnew {M : Md} {QQ : Option AV → Hp → Prop} {pc index : Nat} {ls : List (Option AV)} {st : List AV} {σ : Hp} {k : Nat × Nat} (hL : Cond.classLink M.1.cls index "[[J" ∈ TBL) (hO : Cond.arrayOver (.array .long) ∈ XW) (hI : Cond.arrayClass .long ∈ TBL) (hc : k.1 + 5 ≤ M.2.2.2.2.2.1) (hs : k.2 + 24 ≤ M.2.2.2.2.2.2.1) (hd : decode M.2.1 pc = .ok (.multianewarray index 2, 4)) (h : Go M QQ (pc + 4) ls (vr (nx σ) :: st) (mnA σ 4) (k.1 + 5, k.2 + 24)) : Go M QQ pc ls (vi 5 :: vi 4 :: st) σ k := by
  rw [Go_eq] at h ⊢
  exact fun g p l e s m args below meth cd C hn => w_mnew C hL hO hI hc hs hd (h g p l e s m args below meth cd C hn)
theorem mnA_4 (σ : Hp) : mnA σ 4 = qR (mk (qR (mk (qR (mk (qR (mk (mk σ 107 4) 102 5) (nx σ) 0 (nx σ + 1)) 102 5) (nx σ) 1 (nx σ + 2)) 102 5) (nx σ) 2 (nx σ + 3)) 102 5) (nx σ) 3 (nx σ + 4) := by
  simp only [mnA]
  rw [show (nx σ + 1 + ((0 : Nat) : Int)) = nx σ + 1 from by omega, show (nx σ + 1 + ((1 : Nat) : Int)) = nx σ + 2 from by omega, show (nx σ + 1 + ((2 : Nat) : Int)) = nx σ + 3 from by omega, show (nx σ + 1 + ((3 : Nat) : Int)) = nx σ + 4 from by omega]
  rfl
