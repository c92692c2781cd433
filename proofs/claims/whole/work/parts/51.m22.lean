/-! the reference: cards -/

/-- all lines: a fault or 0, the lines -/
def cdR (L : Int → Int) (z : Int) : Nat → Int → Int → Int × List Ln
  | 0, _, _ => (1, [])
  | n + 1, nl, p => if tK L z p = 0 then (0, []) else if (lnR L z nl p).1 ≠ 0 then ((lnR L z nl p).1, []) else ((cdR L z n (nl + 1) (kB L z (lnR L z nl p).2.2.2.2.1)).1, lnR L z nl p :: (cdR L z n (nl + 1) (kB L z (lnR L z nl p).2.2.2.2.1)).2)
def fsC : List Nat := [1300, 1345, 1343, 1353, 1347, 1346, 1350, 1348, 1349, 1351, 1359]
def fsD : List Nat := [1352, 1300, 1345, 1343, 1353, 1347, 1346, 1350, 1348, 1349, 1351, 1359]
def isL (r : Int) : Prop := r = 95 ∨ r = 96 ∨ r = 93 ∨ r = 94
def arC (r j : Int) : Prop := arR r j ∨ (isL r ∧ 24 ≤ j)
def arD (r _ : Int) : Prop := r = 98 ∨ r = 99 ∨ r = 97 ∨ isL r
/-- a line as it lies -/
def LnP (τ : Hp) (o b l : Int) (x : Ln) : Prop := aI τ 93 l = x.2.1 ∧ aI τ 94 l = x.2.2.1 ∧ o ≤ aI τ 95 l ∧ aI τ 96 l = aI τ 95 l + x.2.2.2.2.2.1.length ∧ aI τ 96 l ≤ b ∧ Cs (aI τ 97) (aI τ 95 l) x.2.2.2.2.2.1
def LnS (τ : Hp) (o b base : Int) (xs : List Ln) : Prop := ∀ (i : Nat) (x : Ln), xs[i]? = some x → LnP τ o b (base + i) x
def upL (τ : Hp) : Prop := ∀ j, 24 ≤ j → 0 ≤ aI τ 95 j ∧ 0 ≤ aI τ 96 j
theorem LnP.keep {τ τ' : Hp} {o b b' l : Int} {x : Ln} (h : LnP τ o b l x) (hb : b ≤ b') (h1 : ∀ r, isL r → aI τ' r l = aI τ r l) (h2 : ∀ j, j < b → aI τ' 97 j = aI τ 97 j) : LnP τ' o b' l x := by
  obtain ⟨a1, a2, a3, a4, a5, a6⟩ := h
  have e1 := h1 95 (Or.inl rfl)
  have e2 := h1 96 (Or.inr (Or.inl rfl))
  have e3 := h1 93 (Or.inr (Or.inr (Or.inl rfl)))
  have e4 := h1 94 (Or.inr (Or.inr (Or.inr rfl)))
  refine ⟨e3.trans a1, e4.trans a2, by rw [e1]; exact a3, by rw [e1, e2]; exact a4, by rw [e2]; omega, ?_⟩
  rw [e1]
  exact a6.congr fun j q1 q2 => h2 j (by omega)
theorem LnS.snoc {τ : Hp} {o b base : Int} {xs : List Ln} {x : Ln} (h : LnS τ o b base xs) (hx : LnP τ o b (base + xs.length) x) : LnS τ o b base (xs ++ [x]) := by
  intro i y hy
  rw [List.getElem?_append] at hy
  split at hy
  · exact h i y hy
  · rename_i c
    have : i - xs.length = 0 := by
      by_cases e : i - xs.length = 0
      · exact e
      · rw [List.getElem?_eq_none (by simp; omega)] at hy; cases hy
    rw [this] at hy
    have hy : some x = some y := hy
    cases hy
    have : i = xs.length := by omega
    rw [this]; exact hx

def sp_X12_cards : Sp := fun av σ Q => oR av fun this av => av = [] ∧ kd σ this = 13 ∧ (this = 61 ∧ MI σ ∧ upL σ ∧ ((cdR (aI σ 92) (fI σ 1343 61) 25 0 (kB (aI σ 92) (fI σ 1343 61) 0)).1 ≠ 0 → ∀ τ, MI τ → Ut fsC arC σ τ → fI τ 1343 61 = 0 → fI τ 1300 61 = 0 → upL τ → Q (some (vi (cdR (aI σ 92) (fI σ 1343 61) 25 0 (kB (aI σ 92) (fI σ 1343 61) 0)).1)) τ) ∧ ((cdR (aI σ 92) (fI σ 1343 61) 25 0 (kB (aI σ 92) (fI σ 1343 61) 0)).1 = 0 → ∀ τ, MI τ → Ut fsD arD σ τ → fI τ 1343 61 = 0 → fI τ 1300 61 = 0 → upL τ → fI τ 1352 61 = (cdR (aI σ 92) (fI σ 1343 61) 25 0 (kB (aI σ 92) (fI σ 1343 61) 0)).2.length → LnS τ 0 1000 0 (cdR (aI σ 92) (fI σ 1343 61) 25 0 (kB (aI σ 92) (fI σ 1343 61) 0)).2 → Q (some (vi 0)) τ))
theorem us_X12_cards (this : Int) (σ : Hp) (Q : Option AV → Hp → Prop) : sp_X12_cards [vr this] σ Q = (kd σ this = 13 ∧ (this = 61 ∧ MI σ ∧ upL σ ∧ ((cdR (aI σ 92) (fI σ 1343 61) 25 0 (kB (aI σ 92) (fI σ 1343 61) 0)).1 ≠ 0 → ∀ τ, MI τ → Ut fsC arC σ τ → fI τ 1343 61 = 0 → fI τ 1300 61 = 0 → upL τ → Q (some (vi (cdR (aI σ 92) (fI σ 1343 61) 25 0 (kB (aI σ 92) (fI σ 1343 61) 0)).1)) τ) ∧ ((cdR (aI σ 92) (fI σ 1343 61) 25 0 (kB (aI σ 92) (fI σ 1343 61) 0)).1 = 0 → ∀ τ, MI τ → Ut fsD arD σ τ → fI τ 1343 61 = 0 → fI τ 1300 61 = 0 → upL τ → fI τ 1352 61 = (cdR (aI σ 92) (fI σ 1343 61) 25 0 (kB (aI σ 92) (fI σ 1343 61) 0)).2.length → LnS τ 0 1000 0 (cdR (aI σ 92) (fI σ 1343 61) 25 0 (kB (aI σ 92) (fI σ 1343 61) 0)).2 → Q (some (vi 0)) τ))) := propext ⟨fun h => h.2, fun h => ⟨rfl, h⟩⟩
theorem el_X12_cards {av : List AV} {σ : Hp} {Q : Option AV → Hp → Prop} (h : sp_X12_cards av σ Q) : ∃ (this : Int), av = [vr this] ∧ (kd σ this = 13 ∧ (this = 61 ∧ MI σ ∧ upL σ ∧ ((cdR (aI σ 92) (fI σ 1343 61) 25 0 (kB (aI σ 92) (fI σ 1343 61) 0)).1 ≠ 0 → ∀ τ, MI τ → Ut fsC arC σ τ → fI τ 1343 61 = 0 → fI τ 1300 61 = 0 → upL τ → Q (some (vi (cdR (aI σ 92) (fI σ 1343 61) 25 0 (kB (aI σ 92) (fI σ 1343 61) 0)).1)) τ) ∧ ((cdR (aI σ 92) (fI σ 1343 61) 25 0 (kB (aI σ 92) (fI σ 1343 61) 0)).1 = 0 → ∀ τ, MI τ → Ut fsD arD σ τ → fI τ 1343 61 = 0 → fI τ 1300 61 = 0 → upL τ → fI τ 1352 61 = (cdR (aI σ 92) (fI σ 1343 61) 25 0 (kB (aI σ 92) (fI σ 1343 61) 0)).2.length → LnS τ 0 1000 0 (cdR (aI σ 92) (fI σ 1343 61) 25 0 (kB (aI σ 92) (fI σ 1343 61) 0)).2 → Q (some (vi 0)) τ))) := by
  obtain ⟨this, a0, rfl, h0⟩ := oR_s h
  obtain ⟨rfl, hz⟩ := h0
  exact ⟨this, rfl, hz⟩
theorem rc_X12_cards : ∀ (av : List AV) (σ : Hp) (Q : Option AV → Hp → Prop), sp_X12_cards av σ Q → ∃ r tl, av = vr r :: tl ∧ kd σ r = 12 + 1 := fun av σ Q h => by
  obtain ⟨this, rfl, hz, -⟩ := el_X12_cards h
  exact ⟨this, _, rfl, hz⟩

def tb_X12_cards : Tab := [(0, .aload_n 0, 1, (0, 0, 0, 0)), (1, .iconst 0, 1, (0, 0, 0, 0)), (2, .putfield 196, 3, (13, 1300, 0, 0)), (5, .aload_n 0, 1, (0, 0, 0, 0)), (6, .aload_n 0, 1, (0, 0, 0, 0)), (7, .getfield 301, 3, (13, 1343, 0, 0)), (10, .putfield 304, 3, (13, 1345, 0, 0)), (13, .aload_n 0, 1, (0, 0, 0, 0)), (14, .iconst 0, 1, (0, 0, 0, 0)), (15, .putfield 301, 3, (13, 1343, 0, 0)), (18, .aload_n 0, 1, (0, 0, 0, 0)), (19, .iconst 0, 1, (0, 0, 0, 0)), (20, .putfield 307, 3, (13, 1346, 0, 0)), (23, .aload_n 0, 1, (0, 0, 0, 0)), (24, .iconst 0, 1, (0, 0, 0, 0)), (25, .putfield 377, 3, (13, 1353, 0, 0)), (28, .aload_n 0, 1, (0, 0, 0, 0)), (29, .sipush 1000, 3, (0, 0, 0, 0)), (32, .putfield 333, 3, (13, 1359, 0, 0)), (35, .aload_n 0, 1, (0, 0, 0, 0)), (36, .invokevirtual 368, 3, (0, 0, 0, 0)), (39, .aload_n 0, 1, (0, 0, 0, 0)), (40, .getfield 320, 3, (13, 1348, 0, 0)), (43, .ifCond .eq 15, 3, (0, 0, 0, 0)), (46, .aload_n 0, 1, (0, 0, 0, 0)), (47, .invokevirtual 389, 3, (0, 0, 0, 0)), (50, .ifCond .ne (-11), 3, (0, 0, 0, 0)), (53, .aload_n 0, 1, (0, 0, 0, 0)), (54, .getfield 330, 3, (13, 1351, 0, 0)), (57, .ireturn, 1, (0, 0, 0, 0)), (58, .aload_n 0, 1, (0, 0, 0, 0)), (59, .aload_n 0, 1, (0, 0, 0, 0)), (60, .getfield 377, 3, (13, 1353, 0, 0)), (63, .putfield 393, 3, (13, 1352, 0, 0)), (66, .iconst 0, 1, (0, 0, 0, 0)), (67, .istore_n 1, 1, (0, 0, 0, 0)), (68, .iload_n 1, 1, (0, 0, 0, 0)), (69, .bipush 24, 2, (0, 0, 0, 0)), (71, .if_icmp .ge 77, 3, (0, 0, 0, 0)), (74, .aload_n 0, 1, (0, 0, 0, 0)), (75, .getfield 105, 3, (13, 1354, 2, 0)), (78, .iload_n 1, 1, (0, 0, 0, 0)), (79, .aload_n 0, 1, (0, 0, 0, 0)), (80, .getfield 105, 3, (13, 1354, 2, 0)), (83, .bipush 24, 2, (0, 0, 0, 0)), (85, .iload_n 1, 1, (0, 0, 0, 0)), (86, .iadd, 1, (0, 0, 0, 0)), (87, .iaload, 1, (0, 0, 0, 0)), (88, .iastore, 1, (0, 0, 0, 0)), (89, .aload_n 0, 1, (0, 0, 0, 0)), (90, .getfield 108, 3, (13, 1355, 2, 0)), (93, .iload_n 1, 1, (0, 0, 0, 0)), (94, .aload_n 0, 1, (0, 0, 0, 0)), (95, .getfield 108, 3, (13, 1355, 2, 0)), (98, .bipush 24, 2, (0, 0, 0, 0)), (100, .iload_n 1, 1, (0, 0, 0, 0)), (101, .iadd, 1, (0, 0, 0, 0)), (102, .iaload, 1, (0, 0, 0, 0)), (103, .iastore, 1, (0, 0, 0, 0)), (104, .aload_n 0, 1, (0, 0, 0, 0)), (105, .getfield 111, 3, (13, 1356, 2, 0)), (108, .iload_n 1, 1, (0, 0, 0, 0)), (109, .aload_n 0, 1, (0, 0, 0, 0)), (110, .getfield 111, 3, (13, 1356, 2, 0)), (113, .bipush 24, 2, (0, 0, 0, 0)), (115, .iload_n 1, 1, (0, 0, 0, 0)), (116, .iadd, 1, (0, 0, 0, 0)), (117, .iaload, 1, (0, 0, 0, 0)), (118, .sipush 1000, 3, (0, 0, 0, 0)), (121, .isub, 1, (0, 0, 0, 0)), (122, .iastore, 1, (0, 0, 0, 0)), (123, .aload_n 0, 1, (0, 0, 0, 0)), (124, .getfield 114, 3, (13, 1357, 2, 0)), (127, .iload_n 1, 1, (0, 0, 0, 0)), (128, .aload_n 0, 1, (0, 0, 0, 0)), (129, .getfield 114, 3, (13, 1357, 2, 0)), (132, .bipush 24, 2, (0, 0, 0, 0)), (134, .iload_n 1, 1, (0, 0, 0, 0)), (135, .iadd, 1, (0, 0, 0, 0)), (136, .iaload, 1, (0, 0, 0, 0)), (137, .sipush 1000, 3, (0, 0, 0, 0)), (140, .isub, 1, (0, 0, 0, 0)), (141, .iastore, 1, (0, 0, 0, 0)), (142, .iinc 1 1, 3, (0, 0, 0, 0)), (145, .goto (-77), 3, (0, 0, 0, 0)), (148, .iconst 0, 1, (0, 0, 0, 0)), (149, .istore_n 1, 1, (0, 0, 0, 0)), (150, .iload_n 1, 1, (0, 0, 0, 0)), (151, .sipush 1000, 3, (0, 0, 0, 0)), (154, .if_icmp .ge 25, 3, (0, 0, 0, 0)), (157, .aload_n 0, 1, (0, 0, 0, 0)), (158, .getfield 117, 3, (13, 1358, 2, 0)), (161, .iload_n 1, 1, (0, 0, 0, 0)), (162, .aload_n 0, 1, (0, 0, 0, 0)), (163, .getfield 117, 3, (13, 1358, 2, 0)), (166, .sipush 1000, 3, (0, 0, 0, 0)), (169, .iload_n 1, 1, (0, 0, 0, 0)), (170, .iadd, 1, (0, 0, 0, 0)), (171, .iaload, 1, (0, 0, 0, 0)), (172, .iastore, 1, (0, 0, 0, 0)), (173, .iinc 1 1, 3, (0, 0, 0, 0)), (176, .goto (-26), 3, (0, 0, 0, 0)), (179, .iconst 0, 1, (0, 0, 0, 0)), (180, .ireturn, 1, (0, 0, 0, 0))]
set_option maxRecDepth 100000 in
theorem tk_X12_cards : TOK RX12 false cX12_cards tb_X12_cards := chkT_ok ft_X12 (by decide +kernel)
theorem rw_X12_3112 : Row RX12 (.invokevirtual 389) 3 1 0 0 4 sp_X12_readsLine := row_V (n := 0) (ci := 12) c_X12_readsLine ⟨TBL_in 1907 (by decide +kernel) rfl, TBL_in 1910 (by decide +kernel) rfl, TBL_in 123 (by decide +kernel) rfl, by decide +kernel, by decide⟩ (by decide) rfl (TBL_in 1909 (by decide +kernel) rfl) (TBL_in 81 (by decide +kernel) rfl) rc_X12_readsLine
def mt_X12_cards : List (Nat × Mt) := [(2944, 1, 0, 0, 2, sp_X12_next), (3112, 1, 0, 0, 4, sp_X12_readsLine)]
theorem em_X12_cards : mt_X12_cards.lookup 2944 = some (1, 0, 0, 2, sp_X12_next) ∧ mt_X12_cards.lookup 3112 = some (1, 0, 0, 4, sp_X12_readsLine) := ⟨rfl, rfl⟩
theorem mk_X12_cards : MOK RX12 mt_X12_cards := by
  intro q hq
  simp only [mt_X12_cards, List.mem_cons, List.not_mem_nil, or_false] at hq
  rcases hq with rfl | rfl
  · exact rw_X12_2944
  · exact rw_X12_3112
noncomputable def xe_X12_cards (ct : Nat → Bool) (K : Kt) (R : Option AV → Hp → Prop) (n : Nat) : Kt := exS 2 5 0 0 1 tb_X12_cards mt_X12_cards ct K R n
noncomputable def xk_X12_cards (ct : Nat → Bool) (K : Kt) (R : Option AV → Hp → Prop) (n : Nat) : Kt := exkS 2 5 0 0 1 tb_X12_cards mt_X12_cards ct K R n
theorem xt_X12_cards {ct : Nat → Bool} {K : Kt} {R : Option AV → Hp → Prop} {n pc : Nat} {ls : List (Option AV)} {st : List AV} {σ : Hp} {k : Nat × Nat} (h : ct pc = true) : xk_X12_cards ct K R n pc ls st σ k = K pc ls st σ k := by unfold xk_X12_cards exkS; rw [h]
theorem xf_X12_cards {ct : Nat → Bool} {K : Kt} {R : Option AV → Hp → Prop} {n pc : Nat} {ls : List (Option AV)} {st : List AV} {σ : Hp} {k : Nat × Nat} (h : ct pc = false) : xk_X12_cards ct K R n pc ls st σ k = xe_X12_cards ct K R n pc ls st σ k := by unfold xk_X12_cards exkS xe_X12_cards; rw [h]
theorem ev_X12_cards_0 {ct : Nat → Bool} {K : Kt} {R : Option AV → Hp → Prop} {n : Nat} {ls : List (Option AV)} {st : List AV} {σ : Hp} {k : Nat × Nat} : xe_X12_cards ct K R (n + 1) 0 ls st σ k = (lR ls 0 fun x => xk_X12_cards ct K R n 1 ls (vr x :: st) σ k) := exS_step.trans rfl
theorem ev_X12_cards_1 {ct : Nat → Bool} {K : Kt} {R : Option AV → Hp → Prop} {n : Nat} {ls : List (Option AV)} {st : List AV} {σ : Hp} {k : Nat × Nat} : xe_X12_cards ct K R (n + 1) 1 ls st σ k = (xk_X12_cards ct K R n 2 ls (vi (0) :: st) σ k) := exS_step.trans rfl
theorem ev_X12_cards_2 {ct : Nat → Bool} {K : Kt} {R : Option AV → Hp → Prop} {n : Nat} {ls : List (Option AV)} {st : List AV} {σ : Hp} {k : Nat × Nat} : xe_X12_cards ct K R (n + 1) 2 ls st σ k = (oI st fun v st => oR st fun x st => kd σ x = 13 ∧ xk_X12_cards ct K R n 5 ls st (pI σ 1300 x v) k) := exS_step.trans rfl
theorem ev_X12_cards_5 {ct : Nat → Bool} {K : Kt} {R : Option AV → Hp → Prop} {n : Nat} {ls : List (Option AV)} {st : List AV} {σ : Hp} {k : Nat × Nat} : xe_X12_cards ct K R (n + 1) 5 ls st σ k = (lR ls 0 fun x => xk_X12_cards ct K R n 6 ls (vr x :: st) σ k) := exS_step.trans rfl
theorem ev_X12_cards_6 {ct : Nat → Bool} {K : Kt} {R : Option AV → Hp → Prop} {n : Nat} {ls : List (Option AV)} {st : List AV} {σ : Hp} {k : Nat × Nat} : xe_X12_cards ct K R (n + 1) 6 ls st σ k = (lR ls 0 fun x => xk_X12_cards ct K R n 7 ls (vr x :: st) σ k) := exS_step.trans rfl
theorem ev_X12_cards_7 {ct : Nat → Bool} {K : Kt} {R : Option AV → Hp → Prop} {n : Nat} {ls : List (Option AV)} {st : List AV} {σ : Hp} {k : Nat × Nat} : xe_X12_cards ct K R (n + 1) 7 ls st σ k = (oR st fun x st => kd σ x = 13 ∧ xk_X12_cards ct K R n 10 ls (vi (fI σ 1343 x) :: st) σ k) := exS_step.trans rfl
theorem ev_X12_cards_10 {ct : Nat → Bool} {K : Kt} {R : Option AV → Hp → Prop} {n : Nat} {ls : List (Option AV)} {st : List AV} {σ : Hp} {k : Nat × Nat} : xe_X12_cards ct K R (n + 1) 10 ls st σ k = (oI st fun v st => oR st fun x st => kd σ x = 13 ∧ xk_X12_cards ct K R n 13 ls st (pI σ 1345 x v) k) := exS_step.trans rfl
theorem ev_X12_cards_13 {ct : Nat → Bool} {K : Kt} {R : Option AV → Hp → Prop} {n : Nat} {ls : List (Option AV)} {st : List AV} {σ : Hp} {k : Nat × Nat} : xe_X12_cards ct K R (n + 1) 13 ls st σ k = (lR ls 0 fun x => xk_X12_cards ct K R n 14 ls (vr x :: st) σ k) := exS_step.trans rfl
theorem ev_X12_cards_14 {ct : Nat → Bool} {K : Kt} {R : Option AV → Hp → Prop} {n : Nat} {ls : List (Option AV)} {st : List AV} {σ : Hp} {k : Nat × Nat} : xe_X12_cards ct K R (n + 1) 14 ls st σ k = (xk_X12_cards ct K R n 15 ls (vi (0) :: st) σ k) := exS_step.trans rfl
theorem ev_X12_cards_15 {ct : Nat → Bool} {K : Kt} {R : Option AV → Hp → Prop} {n : Nat} {ls : List (Option AV)} {st : List AV} {σ : Hp} {k : Nat × Nat} : xe_X12_cards ct K R (n + 1) 15 ls st σ k = (oI st fun v st => oR st fun x st => kd σ x = 13 ∧ xk_X12_cards ct K R n 18 ls st (pI σ 1343 x v) k) := exS_step.trans rfl
theorem ev_X12_cards_18 {ct : Nat → Bool} {K : Kt} {R : Option AV → Hp → Prop} {n : Nat} {ls : List (Option AV)} {st : List AV} {σ : Hp} {k : Nat × Nat} : xe_X12_cards ct K R (n + 1) 18 ls st σ k = (lR ls 0 fun x => xk_X12_cards ct K R n 19 ls (vr x :: st) σ k) := exS_step.trans rfl
theorem ev_X12_cards_19 {ct : Nat → Bool} {K : Kt} {R : Option AV → Hp → Prop} {n : Nat} {ls : List (Option AV)} {st : List AV} {σ : Hp} {k : Nat × Nat} : xe_X12_cards ct K R (n + 1) 19 ls st σ k = (xk_X12_cards ct K R n 20 ls (vi (0) :: st) σ k) := exS_step.trans rfl
theorem ev_X12_cards_20 {ct : Nat → Bool} {K : Kt} {R : Option AV → Hp → Prop} {n : Nat} {ls : List (Option AV)} {st : List AV} {σ : Hp} {k : Nat × Nat} : xe_X12_cards ct K R (n + 1) 20 ls st σ k = (oI st fun v st => oR st fun x st => kd σ x = 13 ∧ xk_X12_cards ct K R n 23 ls st (pI σ 1346 x v) k) := exS_step.trans rfl
theorem ev_X12_cards_23 {ct : Nat → Bool} {K : Kt} {R : Option AV → Hp → Prop} {n : Nat} {ls : List (Option AV)} {st : List AV} {σ : Hp} {k : Nat × Nat} : xe_X12_cards ct K R (n + 1) 23 ls st σ k = (lR ls 0 fun x => xk_X12_cards ct K R n 24 ls (vr x :: st) σ k) := exS_step.trans rfl
theorem ev_X12_cards_24 {ct : Nat → Bool} {K : Kt} {R : Option AV → Hp → Prop} {n : Nat} {ls : List (Option AV)} {st : List AV} {σ : Hp} {k : Nat × Nat} : xe_X12_cards ct K R (n + 1) 24 ls st σ k = (xk_X12_cards ct K R n 25 ls (vi (0) :: st) σ k) := exS_step.trans rfl
theorem ev_X12_cards_25 {ct : Nat → Bool} {K : Kt} {R : Option AV → Hp → Prop} {n : Nat} {ls : List (Option AV)} {st : List AV} {σ : Hp} {k : Nat × Nat} : xe_X12_cards ct K R (n + 1) 25 ls st σ k = (oI st fun v st => oR st fun x st => kd σ x = 13 ∧ xk_X12_cards ct K R n 28 ls st (pI σ 1353 x v) k) := exS_step.trans rfl
theorem ev_X12_cards_28 {ct : Nat → Bool} {K : Kt} {R : Option AV → Hp → Prop} {n : Nat} {ls : List (Option AV)} {st : List AV} {σ : Hp} {k : Nat × Nat} : xe_X12_cards ct K R (n + 1) 28 ls st σ k = (lR ls 0 fun x => xk_X12_cards ct K R n 29 ls (vr x :: st) σ k) := exS_step.trans rfl
theorem ev_X12_cards_29 {ct : Nat → Bool} {K : Kt} {R : Option AV → Hp → Prop} {n : Nat} {ls : List (Option AV)} {st : List AV} {σ : Hp} {k : Nat × Nat} : xe_X12_cards ct K R (n + 1) 29 ls st σ k = (xk_X12_cards ct K R n 32 ls (vi (1000) :: st) σ k) := exS_step.trans rfl
theorem ev_X12_cards_32 {ct : Nat → Bool} {K : Kt} {R : Option AV → Hp → Prop} {n : Nat} {ls : List (Option AV)} {st : List AV} {σ : Hp} {k : Nat × Nat} : xe_X12_cards ct K R (n + 1) 32 ls st σ k = (oI st fun v st => oR st fun x st => kd σ x = 13 ∧ xk_X12_cards ct K R n 35 ls st (pI σ 1359 x v) k) := exS_step.trans rfl
theorem ev_X12_cards_35 {ct : Nat → Bool} {K : Kt} {R : Option AV → Hp → Prop} {n : Nat} {ls : List (Option AV)} {st : List AV} {σ : Hp} {k : Nat × Nat} : xe_X12_cards ct K R (n + 1) 35 ls st σ k = (lR ls 0 fun x => xk_X12_cards ct K R n 36 ls (vr x :: st) σ k) := exS_step.trans rfl
theorem ev_X12_cards_36 {ct : Nat → Bool} {K : Kt} {R : Option AV → Hp → Prop} {n : Nat} {ls : List (Option AV)} {st : List AV} {σ : Hp} {k : Nat × Nat} : xe_X12_cards ct K R (n + 1) 36 ls st σ k = (popN 1 st [] fun av rest => (catS rest ≤ 8 ∧ 2 < 5 ∧ k.1 + 0 ≤ 0 ∧ k.2 + 0 ≤ 0) ∧ (sp_X12_next) av σ fun v σ' => xk_X12_cards ct K R n 39 ls (v.toList ++ rest) σ' (k.1 + 0, k.2 + 0)) := exS_step.trans rfl
theorem ev_X12_cards_39 {ct : Nat → Bool} {K : Kt} {R : Option AV → Hp → Prop} {n : Nat} {ls : List (Option AV)} {st : List AV} {σ : Hp} {k : Nat × Nat} : xe_X12_cards ct K R (n + 1) 39 ls st σ k = (lR ls 0 fun x => xk_X12_cards ct K R n 40 ls (vr x :: st) σ k) := exS_step.trans rfl
theorem ev_X12_cards_40 {ct : Nat → Bool} {K : Kt} {R : Option AV → Hp → Prop} {n : Nat} {ls : List (Option AV)} {st : List AV} {σ : Hp} {k : Nat × Nat} : xe_X12_cards ct K R (n + 1) 40 ls st σ k = (oR st fun x st => kd σ x = 13 ∧ xk_X12_cards ct K R n 43 ls (vi (fI σ 1348 x) :: st) σ k) := exS_step.trans rfl
theorem ev_X12_cards_43 {ct : Nat → Bool} {K : Kt} {R : Option AV → Hp → Prop} {n : Nat} {ls : List (Option AV)} {st : List AV} {σ : Hp} {k : Nat × Nat} : xe_X12_cards ct K R (n + 1) 43 ls st σ k = (oI st fun x st => (wI x = wI 0 → xk_X12_cards ct K R n 58 ls st σ k) ∧ (¬ (wI x = wI 0) → xk_X12_cards ct K R n 46 ls st σ k)) := exS_step.trans rfl
theorem ev_X12_cards_46 {ct : Nat → Bool} {K : Kt} {R : Option AV → Hp → Prop} {n : Nat} {ls : List (Option AV)} {st : List AV} {σ : Hp} {k : Nat × Nat} : xe_X12_cards ct K R (n + 1) 46 ls st σ k = (lR ls 0 fun x => xk_X12_cards ct K R n 47 ls (vr x :: st) σ k) := exS_step.trans rfl
theorem ev_X12_cards_47 {ct : Nat → Bool} {K : Kt} {R : Option AV → Hp → Prop} {n : Nat} {ls : List (Option AV)} {st : List AV} {σ : Hp} {k : Nat × Nat} : xe_X12_cards ct K R (n + 1) 47 ls st σ k = (popN 1 st [] fun av rest => (catS rest ≤ 8 ∧ 4 < 5 ∧ k.1 + 0 ≤ 0 ∧ k.2 + 0 ≤ 0) ∧ (sp_X12_readsLine) av σ fun v σ' => xk_X12_cards ct K R n 50 ls (v.toList ++ rest) σ' (k.1 + 0, k.2 + 0)) := exS_step.trans rfl
theorem ev_X12_cards_50 {ct : Nat → Bool} {K : Kt} {R : Option AV → Hp → Prop} {n : Nat} {ls : List (Option AV)} {st : List AV} {σ : Hp} {k : Nat × Nat} : xe_X12_cards ct K R (n + 1) 50 ls st σ k = (oI st fun x st => (¬ wI x = wI 0 → xk_X12_cards ct K R n 39 ls st σ k) ∧ (¬ (¬ wI x = wI 0) → xk_X12_cards ct K R n 53 ls st σ k)) := exS_step.trans rfl
theorem ev_X12_cards_53 {ct : Nat → Bool} {K : Kt} {R : Option AV → Hp → Prop} {n : Nat} {ls : List (Option AV)} {st : List AV} {σ : Hp} {k : Nat × Nat} : xe_X12_cards ct K R (n + 1) 53 ls st σ k = (lR ls 0 fun x => xk_X12_cards ct K R n 54 ls (vr x :: st) σ k) := exS_step.trans rfl
theorem ev_X12_cards_54 {ct : Nat → Bool} {K : Kt} {R : Option AV → Hp → Prop} {n : Nat} {ls : List (Option AV)} {st : List AV} {σ : Hp} {k : Nat × Nat} : xe_X12_cards ct K R (n + 1) 54 ls st σ k = (oR st fun x st => kd σ x = 13 ∧ xk_X12_cards ct K R n 57 ls (vi (fI σ 1351 x) :: st) σ k) := exS_step.trans rfl
theorem ev_X12_cards_57 {ct : Nat → Bool} {K : Kt} {R : Option AV → Hp → Prop} {n : Nat} {ls : List (Option AV)} {st : List AV} {σ : Hp} {k : Nat × Nat} : xe_X12_cards ct K R (n + 1) 57 ls st σ k = (oI st fun x st => st = [] ∧ True ∧ R (some (vi x)) σ) := exS_step.trans rfl
theorem ev_X12_cards_58 {ct : Nat → Bool} {K : Kt} {R : Option AV → Hp → Prop} {n : Nat} {ls : List (Option AV)} {st : List AV} {σ : Hp} {k : Nat × Nat} : xe_X12_cards ct K R (n + 1) 58 ls st σ k = (lR ls 0 fun x => xk_X12_cards ct K R n 59 ls (vr x :: st) σ k) := exS_step.trans rfl
theorem ev_X12_cards_59 {ct : Nat → Bool} {K : Kt} {R : Option AV → Hp → Prop} {n : Nat} {ls : List (Option AV)} {st : List AV} {σ : Hp} {k : Nat × Nat} : xe_X12_cards ct K R (n + 1) 59 ls st σ k = (lR ls 0 fun x => xk_X12_cards ct K R n 60 ls (vr x :: st) σ k) := exS_step.trans rfl
theorem ev_X12_cards_60 {ct : Nat → Bool} {K : Kt} {R : Option AV → Hp → Prop} {n : Nat} {ls : List (Option AV)} {st : List AV} {σ : Hp} {k : Nat × Nat} : xe_X12_cards ct K R (n + 1) 60 ls st σ k = (oR st fun x st => kd σ x = 13 ∧ xk_X12_cards ct K R n 63 ls (vi (fI σ 1353 x) :: st) σ k) := exS_step.trans rfl
theorem ev_X12_cards_63 {ct : Nat → Bool} {K : Kt} {R : Option AV → Hp → Prop} {n : Nat} {ls : List (Option AV)} {st : List AV} {σ : Hp} {k : Nat × Nat} : xe_X12_cards ct K R (n + 1) 63 ls st σ k = (oI st fun v st => oR st fun x st => kd σ x = 13 ∧ xk_X12_cards ct K R n 66 ls st (pI σ 1352 x v) k) := exS_step.trans rfl
theorem ev_X12_cards_66 {ct : Nat → Bool} {K : Kt} {R : Option AV → Hp → Prop} {n : Nat} {ls : List (Option AV)} {st : List AV} {σ : Hp} {k : Nat × Nat} : xe_X12_cards ct K R (n + 1) 66 ls st σ k = (xk_X12_cards ct K R n 67 ls (vi (0) :: st) σ k) := exS_step.trans rfl
theorem ev_X12_cards_67 {ct : Nat → Bool} {K : Kt} {R : Option AV → Hp → Prop} {n : Nat} {ls : List (Option AV)} {st : List AV} {σ : Hp} {k : Nat × Nat} : xe_X12_cards ct K R (n + 1) 67 ls st σ k = (oI st fun x st => 1 < 2 ∧ xk_X12_cards ct K R n 68 (stL ls 1 (vi x)) st σ k) := exS_step.trans rfl
theorem ev_X12_cards_68 {ct : Nat → Bool} {K : Kt} {R : Option AV → Hp → Prop} {n : Nat} {ls : List (Option AV)} {st : List AV} {σ : Hp} {k : Nat × Nat} : xe_X12_cards ct K R (n + 1) 68 ls st σ k = (lI ls 1 fun x => xk_X12_cards ct K R n 69 ls (vi x :: st) σ k) := exS_step.trans rfl
theorem ev_X12_cards_69 {ct : Nat → Bool} {K : Kt} {R : Option AV → Hp → Prop} {n : Nat} {ls : List (Option AV)} {st : List AV} {σ : Hp} {k : Nat × Nat} : xe_X12_cards ct K R (n + 1) 69 ls st σ k = (xk_X12_cards ct K R n 71 ls (vi (24) :: st) σ k) := exS_step.trans rfl
theorem ev_X12_cards_71 {ct : Nat → Bool} {K : Kt} {R : Option AV → Hp → Prop} {n : Nat} {ls : List (Option AV)} {st : List AV} {σ : Hp} {k : Nat × Nat} : xe_X12_cards ct K R (n + 1) 71 ls st σ k = (oI st fun y st => oI st fun x st => (wI y ≤ wI x → xk_X12_cards ct K R n 148 ls st σ k) ∧ (¬ (wI y ≤ wI x) → xk_X12_cards ct K R n 74 ls st σ k)) := exS_step.trans rfl
theorem ev_X12_cards_74 {ct : Nat → Bool} {K : Kt} {R : Option AV → Hp → Prop} {n : Nat} {ls : List (Option AV)} {st : List AV} {σ : Hp} {k : Nat × Nat} : xe_X12_cards ct K R (n + 1) 74 ls st σ k = (lR ls 0 fun x => xk_X12_cards ct K R n 75 ls (vr x :: st) σ k) := exS_step.trans rfl
theorem ev_X12_cards_75 {ct : Nat → Bool} {K : Kt} {R : Option AV → Hp → Prop} {n : Nat} {ls : List (Option AV)} {st : List AV} {σ : Hp} {k : Nat × Nat} : xe_X12_cards ct K R (n + 1) 75 ls st σ k = (oR st fun x st => kd σ x = 13 ∧ xk_X12_cards ct K R n 78 ls (vr (fR σ 1354 x) :: st) σ k) := exS_step.trans rfl
theorem ev_X12_cards_78 {ct : Nat → Bool} {K : Kt} {R : Option AV → Hp → Prop} {n : Nat} {ls : List (Option AV)} {st : List AV} {σ : Hp} {k : Nat × Nat} : xe_X12_cards ct K R (n + 1) 78 ls st σ k = (lI ls 1 fun x => xk_X12_cards ct K R n 79 ls (vi x :: st) σ k) := exS_step.trans rfl
theorem ev_X12_cards_79 {ct : Nat → Bool} {K : Kt} {R : Option AV → Hp → Prop} {n : Nat} {ls : List (Option AV)} {st : List AV} {σ : Hp} {k : Nat × Nat} : xe_X12_cards ct K R (n + 1) 79 ls st σ k = (lR ls 0 fun x => xk_X12_cards ct K R n 80 ls (vr x :: st) σ k) := exS_step.trans rfl
theorem ev_X12_cards_80 {ct : Nat → Bool} {K : Kt} {R : Option AV → Hp → Prop} {n : Nat} {ls : List (Option AV)} {st : List AV} {σ : Hp} {k : Nat × Nat} : xe_X12_cards ct K R (n + 1) 80 ls st σ k = (oR st fun x st => kd σ x = 13 ∧ xk_X12_cards ct K R n 83 ls (vr (fR σ 1354 x) :: st) σ k) := exS_step.trans rfl
theorem ev_X12_cards_83 {ct : Nat → Bool} {K : Kt} {R : Option AV → Hp → Prop} {n : Nat} {ls : List (Option AV)} {st : List AV} {σ : Hp} {k : Nat × Nat} : xe_X12_cards ct K R (n + 1) 83 ls st σ k = (xk_X12_cards ct K R n 85 ls (vi (24) :: st) σ k) := exS_step.trans rfl
theorem ev_X12_cards_85 {ct : Nat → Bool} {K : Kt} {R : Option AV → Hp → Prop} {n : Nat} {ls : List (Option AV)} {st : List AV} {σ : Hp} {k : Nat × Nat} : xe_X12_cards ct K R (n + 1) 85 ls st σ k = (lI ls 1 fun x => xk_X12_cards ct K R n 86 ls (vi x :: st) σ k) := exS_step.trans rfl
theorem ev_X12_cards_86 {ct : Nat → Bool} {K : Kt} {R : Option AV → Hp → Prop} {n : Nat} {ls : List (Option AV)} {st : List AV} {σ : Hp} {k : Nat × Nat} : xe_X12_cards ct K R (n + 1) 86 ls st σ k = (oI st fun y st => oI st fun x st => xk_X12_cards ct K R n 87 ls (vi (x + y) :: st) σ k) := exS_step.trans rfl
theorem ev_X12_cards_87 {ct : Nat → Bool} {K : Kt} {R : Option AV → Hp → Prop} {n : Nat} {ls : List (Option AV)} {st : List AV} {σ : Hp} {k : Nat × Nat} : xe_X12_cards ct K R (n + 1) 87 ls st σ k = (oI st fun j st => oR st fun x st => (kd σ x = 101 ∨ kd σ x = 108) ∧ (0 ≤ j ∧ j < ln σ x) ∧ xk_X12_cards ct K R n 88 ls (vi (aI σ x j) :: st) σ k) := exS_step.trans rfl
theorem ev_X12_cards_88 {ct : Nat → Bool} {K : Kt} {R : Option AV → Hp → Prop} {n : Nat} {ls : List (Option AV)} {st : List AV} {σ : Hp} {k : Nat × Nat} : xe_X12_cards ct K R (n + 1) 88 ls st σ k = (oI st fun v st => oI st fun j st => oR st fun x st => kd σ x = 101 ∧ (0 ≤ j ∧ j < ln σ x) ∧ xk_X12_cards ct K R n 89 ls st (qI σ x j v) k) := exS_step.trans rfl
theorem ev_X12_cards_89 {ct : Nat → Bool} {K : Kt} {R : Option AV → Hp → Prop} {n : Nat} {ls : List (Option AV)} {st : List AV} {σ : Hp} {k : Nat × Nat} : xe_X12_cards ct K R (n + 1) 89 ls st σ k = (lR ls 0 fun x => xk_X12_cards ct K R n 90 ls (vr x :: st) σ k) := exS_step.trans rfl
theorem ev_X12_cards_90 {ct : Nat → Bool} {K : Kt} {R : Option AV → Hp → Prop} {n : Nat} {ls : List (Option AV)} {st : List AV} {σ : Hp} {k : Nat × Nat} : xe_X12_cards ct K R (n + 1) 90 ls st σ k = (oR st fun x st => kd σ x = 13 ∧ xk_X12_cards ct K R n 93 ls (vr (fR σ 1355 x) :: st) σ k) := exS_step.trans rfl
theorem ev_X12_cards_93 {ct : Nat → Bool} {K : Kt} {R : Option AV → Hp → Prop} {n : Nat} {ls : List (Option AV)} {st : List AV} {σ : Hp} {k : Nat × Nat} : xe_X12_cards ct K R (n + 1) 93 ls st σ k = (lI ls 1 fun x => xk_X12_cards ct K R n 94 ls (vi x :: st) σ k) := exS_step.trans rfl
theorem ev_X12_cards_94 {ct : Nat → Bool} {K : Kt} {R : Option AV → Hp → Prop} {n : Nat} {ls : List (Option AV)} {st : List AV} {σ : Hp} {k : Nat × Nat} : xe_X12_cards ct K R (n + 1) 94 ls st σ k = (lR ls 0 fun x => xk_X12_cards ct K R n 95 ls (vr x :: st) σ k) := exS_step.trans rfl
theorem ev_X12_cards_95 {ct : Nat → Bool} {K : Kt} {R : Option AV → Hp → Prop} {n : Nat} {ls : List (Option AV)} {st : List AV} {σ : Hp} {k : Nat × Nat} : xe_X12_cards ct K R (n + 1) 95 ls st σ k = (oR st fun x st => kd σ x = 13 ∧ xk_X12_cards ct K R n 98 ls (vr (fR σ 1355 x) :: st) σ k) := exS_step.trans rfl
theorem ev_X12_cards_98 {ct : Nat → Bool} {K : Kt} {R : Option AV → Hp → Prop} {n : Nat} {ls : List (Option AV)} {st : List AV} {σ : Hp} {k : Nat × Nat} : xe_X12_cards ct K R (n + 1) 98 ls st σ k = (xk_X12_cards ct K R n 100 ls (vi (24) :: st) σ k) := exS_step.trans rfl
theorem ev_X12_cards_100 {ct : Nat → Bool} {K : Kt} {R : Option AV → Hp → Prop} {n : Nat} {ls : List (Option AV)} {st : List AV} {σ : Hp} {k : Nat × Nat} : xe_X12_cards ct K R (n + 1) 100 ls st σ k = (lI ls 1 fun x => xk_X12_cards ct K R n 101 ls (vi x :: st) σ k) := exS_step.trans rfl
theorem ev_X12_cards_101 {ct : Nat → Bool} {K : Kt} {R : Option AV → Hp → Prop} {n : Nat} {ls : List (Option AV)} {st : List AV} {σ : Hp} {k : Nat × Nat} : xe_X12_cards ct K R (n + 1) 101 ls st σ k = (oI st fun y st => oI st fun x st => xk_X12_cards ct K R n 102 ls (vi (x + y) :: st) σ k) := exS_step.trans rfl
theorem ev_X12_cards_102 {ct : Nat → Bool} {K : Kt} {R : Option AV → Hp → Prop} {n : Nat} {ls : List (Option AV)} {st : List AV} {σ : Hp} {k : Nat × Nat} : xe_X12_cards ct K R (n + 1) 102 ls st σ k = (oI st fun j st => oR st fun x st => (kd σ x = 101 ∨ kd σ x = 108) ∧ (0 ≤ j ∧ j < ln σ x) ∧ xk_X12_cards ct K R n 103 ls (vi (aI σ x j) :: st) σ k) := exS_step.trans rfl
theorem ev_X12_cards_103 {ct : Nat → Bool} {K : Kt} {R : Option AV → Hp → Prop} {n : Nat} {ls : List (Option AV)} {st : List AV} {σ : Hp} {k : Nat × Nat} : xe_X12_cards ct K R (n + 1) 103 ls st σ k = (oI st fun v st => oI st fun j st => oR st fun x st => kd σ x = 101 ∧ (0 ≤ j ∧ j < ln σ x) ∧ xk_X12_cards ct K R n 104 ls st (qI σ x j v) k) := exS_step.trans rfl
theorem ev_X12_cards_104 {ct : Nat → Bool} {K : Kt} {R : Option AV → Hp → Prop} {n : Nat} {ls : List (Option AV)} {st : List AV} {σ : Hp} {k : Nat × Nat} : xe_X12_cards ct K R (n + 1) 104 ls st σ k = (lR ls 0 fun x => xk_X12_cards ct K R n 105 ls (vr x :: st) σ k) := exS_step.trans rfl
theorem ev_X12_cards_105 {ct : Nat → Bool} {K : Kt} {R : Option AV → Hp → Prop} {n : Nat} {ls : List (Option AV)} {st : List AV} {σ : Hp} {k : Nat × Nat} : xe_X12_cards ct K R (n + 1) 105 ls st σ k = (oR st fun x st => kd σ x = 13 ∧ xk_X12_cards ct K R n 108 ls (vr (fR σ 1356 x) :: st) σ k) := exS_step.trans rfl
theorem ev_X12_cards_108 {ct : Nat → Bool} {K : Kt} {R : Option AV → Hp → Prop} {n : Nat} {ls : List (Option AV)} {st : List AV} {σ : Hp} {k : Nat × Nat} : xe_X12_cards ct K R (n + 1) 108 ls st σ k = (lI ls 1 fun x => xk_X12_cards ct K R n 109 ls (vi x :: st) σ k) := exS_step.trans rfl
theorem ev_X12_cards_109 {ct : Nat → Bool} {K : Kt} {R : Option AV → Hp → Prop} {n : Nat} {ls : List (Option AV)} {st : List AV} {σ : Hp} {k : Nat × Nat} : xe_X12_cards ct K R (n + 1) 109 ls st σ k = (lR ls 0 fun x => xk_X12_cards ct K R n 110 ls (vr x :: st) σ k) := exS_step.trans rfl
theorem ev_X12_cards_110 {ct : Nat → Bool} {K : Kt} {R : Option AV → Hp → Prop} {n : Nat} {ls : List (Option AV)} {st : List AV} {σ : Hp} {k : Nat × Nat} : xe_X12_cards ct K R (n + 1) 110 ls st σ k = (oR st fun x st => kd σ x = 13 ∧ xk_X12_cards ct K R n 113 ls (vr (fR σ 1356 x) :: st) σ k) := exS_step.trans rfl
theorem ev_X12_cards_113 {ct : Nat → Bool} {K : Kt} {R : Option AV → Hp → Prop} {n : Nat} {ls : List (Option AV)} {st : List AV} {σ : Hp} {k : Nat × Nat} : xe_X12_cards ct K R (n + 1) 113 ls st σ k = (xk_X12_cards ct K R n 115 ls (vi (24) :: st) σ k) := exS_step.trans rfl
theorem ev_X12_cards_115 {ct : Nat → Bool} {K : Kt} {R : Option AV → Hp → Prop} {n : Nat} {ls : List (Option AV)} {st : List AV} {σ : Hp} {k : Nat × Nat} : xe_X12_cards ct K R (n + 1) 115 ls st σ k = (lI ls 1 fun x => xk_X12_cards ct K R n 116 ls (vi x :: st) σ k) := exS_step.trans rfl
theorem ev_X12_cards_116 {ct : Nat → Bool} {K : Kt} {R : Option AV → Hp → Prop} {n : Nat} {ls : List (Option AV)} {st : List AV} {σ : Hp} {k : Nat × Nat} : xe_X12_cards ct K R (n + 1) 116 ls st σ k = (oI st fun y st => oI st fun x st => xk_X12_cards ct K R n 117 ls (vi (x + y) :: st) σ k) := exS_step.trans rfl
theorem ev_X12_cards_117 {ct : Nat → Bool} {K : Kt} {R : Option AV → Hp → Prop} {n : Nat} {ls : List (Option AV)} {st : List AV} {σ : Hp} {k : Nat × Nat} : xe_X12_cards ct K R (n + 1) 117 ls st σ k = (oI st fun j st => oR st fun x st => (kd σ x = 101 ∨ kd σ x = 108) ∧ (0 ≤ j ∧ j < ln σ x) ∧ xk_X12_cards ct K R n 118 ls (vi (aI σ x j) :: st) σ k) := exS_step.trans rfl
theorem ev_X12_cards_118 {ct : Nat → Bool} {K : Kt} {R : Option AV → Hp → Prop} {n : Nat} {ls : List (Option AV)} {st : List AV} {σ : Hp} {k : Nat × Nat} : xe_X12_cards ct K R (n + 1) 118 ls st σ k = (xk_X12_cards ct K R n 121 ls (vi (1000) :: st) σ k) := exS_step.trans rfl
theorem ev_X12_cards_121 {ct : Nat → Bool} {K : Kt} {R : Option AV → Hp → Prop} {n : Nat} {ls : List (Option AV)} {st : List AV} {σ : Hp} {k : Nat × Nat} : xe_X12_cards ct K R (n + 1) 121 ls st σ k = (oI st fun y st => oI st fun x st => xk_X12_cards ct K R n 122 ls (vi (x - y) :: st) σ k) := exS_step.trans rfl
theorem ev_X12_cards_122 {ct : Nat → Bool} {K : Kt} {R : Option AV → Hp → Prop} {n : Nat} {ls : List (Option AV)} {st : List AV} {σ : Hp} {k : Nat × Nat} : xe_X12_cards ct K R (n + 1) 122 ls st σ k = (oI st fun v st => oI st fun j st => oR st fun x st => kd σ x = 101 ∧ (0 ≤ j ∧ j < ln σ x) ∧ xk_X12_cards ct K R n 123 ls st (qI σ x j v) k) := exS_step.trans rfl
theorem ev_X12_cards_123 {ct : Nat → Bool} {K : Kt} {R : Option AV → Hp → Prop} {n : Nat} {ls : List (Option AV)} {st : List AV} {σ : Hp} {k : Nat × Nat} : xe_X12_cards ct K R (n + 1) 123 ls st σ k = (lR ls 0 fun x => xk_X12_cards ct K R n 124 ls (vr x :: st) σ k) := exS_step.trans rfl
theorem ev_X12_cards_124 {ct : Nat → Bool} {K : Kt} {R : Option AV → Hp → Prop} {n : Nat} {ls : List (Option AV)} {st : List AV} {σ : Hp} {k : Nat × Nat} : xe_X12_cards ct K R (n + 1) 124 ls st σ k = (oR st fun x st => kd σ x = 13 ∧ xk_X12_cards ct K R n 127 ls (vr (fR σ 1357 x) :: st) σ k) := exS_step.trans rfl
theorem ev_X12_cards_127 {ct : Nat → Bool} {K : Kt} {R : Option AV → Hp → Prop} {n : Nat} {ls : List (Option AV)} {st : List AV} {σ : Hp} {k : Nat × Nat} : xe_X12_cards ct K R (n + 1) 127 ls st σ k = (lI ls 1 fun x => xk_X12_cards ct K R n 128 ls (vi x :: st) σ k) := exS_step.trans rfl
theorem ev_X12_cards_128 {ct : Nat → Bool} {K : Kt} {R : Option AV → Hp → Prop} {n : Nat} {ls : List (Option AV)} {st : List AV} {σ : Hp} {k : Nat × Nat} : xe_X12_cards ct K R (n + 1) 128 ls st σ k = (lR ls 0 fun x => xk_X12_cards ct K R n 129 ls (vr x :: st) σ k) := exS_step.trans rfl
theorem ev_X12_cards_129 {ct : Nat → Bool} {K : Kt} {R : Option AV → Hp → Prop} {n : Nat} {ls : List (Option AV)} {st : List AV} {σ : Hp} {k : Nat × Nat} : xe_X12_cards ct K R (n + 1) 129 ls st σ k = (oR st fun x st => kd σ x = 13 ∧ xk_X12_cards ct K R n 132 ls (vr (fR σ 1357 x) :: st) σ k) := exS_step.trans rfl
theorem ev_X12_cards_132 {ct : Nat → Bool} {K : Kt} {R : Option AV → Hp → Prop} {n : Nat} {ls : List (Option AV)} {st : List AV} {σ : Hp} {k : Nat × Nat} : xe_X12_cards ct K R (n + 1) 132 ls st σ k = (xk_X12_cards ct K R n 134 ls (vi (24) :: st) σ k) := exS_step.trans rfl
theorem ev_X12_cards_134 {ct : Nat → Bool} {K : Kt} {R : Option AV → Hp → Prop} {n : Nat} {ls : List (Option AV)} {st : List AV} {σ : Hp} {k : Nat × Nat} : xe_X12_cards ct K R (n + 1) 134 ls st σ k = (lI ls 1 fun x => xk_X12_cards ct K R n 135 ls (vi x :: st) σ k) := exS_step.trans rfl
theorem ev_X12_cards_135 {ct : Nat → Bool} {K : Kt} {R : Option AV → Hp → Prop} {n : Nat} {ls : List (Option AV)} {st : List AV} {σ : Hp} {k : Nat × Nat} : xe_X12_cards ct K R (n + 1) 135 ls st σ k = (oI st fun y st => oI st fun x st => xk_X12_cards ct K R n 136 ls (vi (x + y) :: st) σ k) := exS_step.trans rfl
theorem ev_X12_cards_136 {ct : Nat → Bool} {K : Kt} {R : Option AV → Hp → Prop} {n : Nat} {ls : List (Option AV)} {st : List AV} {σ : Hp} {k : Nat × Nat} : xe_X12_cards ct K R (n + 1) 136 ls st σ k = (oI st fun j st => oR st fun x st => (kd σ x = 101 ∨ kd σ x = 108) ∧ (0 ≤ j ∧ j < ln σ x) ∧ xk_X12_cards ct K R n 137 ls (vi (aI σ x j) :: st) σ k) := exS_step.trans rfl
theorem ev_X12_cards_137 {ct : Nat → Bool} {K : Kt} {R : Option AV → Hp → Prop} {n : Nat} {ls : List (Option AV)} {st : List AV} {σ : Hp} {k : Nat × Nat} : xe_X12_cards ct K R (n + 1) 137 ls st σ k = (xk_X12_cards ct K R n 140 ls (vi (1000) :: st) σ k) := exS_step.trans rfl
theorem ev_X12_cards_140 {ct : Nat → Bool} {K : Kt} {R : Option AV → Hp → Prop} {n : Nat} {ls : List (Option AV)} {st : List AV} {σ : Hp} {k : Nat × Nat} : xe_X12_cards ct K R (n + 1) 140 ls st σ k = (oI st fun y st => oI st fun x st => xk_X12_cards ct K R n 141 ls (vi (x - y) :: st) σ k) := exS_step.trans rfl
theorem ev_X12_cards_141 {ct : Nat → Bool} {K : Kt} {R : Option AV → Hp → Prop} {n : Nat} {ls : List (Option AV)} {st : List AV} {σ : Hp} {k : Nat × Nat} : xe_X12_cards ct K R (n + 1) 141 ls st σ k = (oI st fun v st => oI st fun j st => oR st fun x st => kd σ x = 101 ∧ (0 ≤ j ∧ j < ln σ x) ∧ xk_X12_cards ct K R n 142 ls st (qI σ x j v) k) := exS_step.trans rfl
theorem ev_X12_cards_142 {ct : Nat → Bool} {K : Kt} {R : Option AV → Hp → Prop} {n : Nat} {ls : List (Option AV)} {st : List AV} {σ : Hp} {k : Nat × Nat} : xe_X12_cards ct K R (n + 1) 142 ls st σ k = (lI ls 1 fun x => 1 < 2 ∧ xk_X12_cards ct K R n 145 (stL ls 1 (vi (x + (1)))) st σ k) := exS_step.trans rfl
theorem ev_X12_cards_145 {ct : Nat → Bool} {K : Kt} {R : Option AV → Hp → Prop} {n : Nat} {ls : List (Option AV)} {st : List AV} {σ : Hp} {k : Nat × Nat} : xe_X12_cards ct K R (n + 1) 145 ls st σ k = (xk_X12_cards ct K R n 68 ls st σ k) := exS_step.trans rfl
theorem ev_X12_cards_148 {ct : Nat → Bool} {K : Kt} {R : Option AV → Hp → Prop} {n : Nat} {ls : List (Option AV)} {st : List AV} {σ : Hp} {k : Nat × Nat} : xe_X12_cards ct K R (n + 1) 148 ls st σ k = (xk_X12_cards ct K R n 149 ls (vi (0) :: st) σ k) := exS_step.trans rfl
theorem ev_X12_cards_149 {ct : Nat → Bool} {K : Kt} {R : Option AV → Hp → Prop} {n : Nat} {ls : List (Option AV)} {st : List AV} {σ : Hp} {k : Nat × Nat} : xe_X12_cards ct K R (n + 1) 149 ls st σ k = (oI st fun x st => 1 < 2 ∧ xk_X12_cards ct K R n 150 (stL ls 1 (vi x)) st σ k) := exS_step.trans rfl
theorem ev_X12_cards_150 {ct : Nat → Bool} {K : Kt} {R : Option AV → Hp → Prop} {n : Nat} {ls : List (Option AV)} {st : List AV} {σ : Hp} {k : Nat × Nat} : xe_X12_cards ct K R (n + 1) 150 ls st σ k = (lI ls 1 fun x => xk_X12_cards ct K R n 151 ls (vi x :: st) σ k) := exS_step.trans rfl
theorem ev_X12_cards_151 {ct : Nat → Bool} {K : Kt} {R : Option AV → Hp → Prop} {n : Nat} {ls : List (Option AV)} {st : List AV} {σ : Hp} {k : Nat × Nat} : xe_X12_cards ct K R (n + 1) 151 ls st σ k = (xk_X12_cards ct K R n 154 ls (vi (1000) :: st) σ k) := exS_step.trans rfl
theorem ev_X12_cards_154 {ct : Nat → Bool} {K : Kt} {R : Option AV → Hp → Prop} {n : Nat} {ls : List (Option AV)} {st : List AV} {σ : Hp} {k : Nat × Nat} : xe_X12_cards ct K R (n + 1) 154 ls st σ k = (oI st fun y st => oI st fun x st => (wI y ≤ wI x → xk_X12_cards ct K R n 179 ls st σ k) ∧ (¬ (wI y ≤ wI x) → xk_X12_cards ct K R n 157 ls st σ k)) := exS_step.trans rfl
theorem ev_X12_cards_157 {ct : Nat → Bool} {K : Kt} {R : Option AV → Hp → Prop} {n : Nat} {ls : List (Option AV)} {st : List AV} {σ : Hp} {k : Nat × Nat} : xe_X12_cards ct K R (n + 1) 157 ls st σ k = (lR ls 0 fun x => xk_X12_cards ct K R n 158 ls (vr x :: st) σ k) := exS_step.trans rfl
theorem ev_X12_cards_158 {ct : Nat → Bool} {K : Kt} {R : Option AV → Hp → Prop} {n : Nat} {ls : List (Option AV)} {st : List AV} {σ : Hp} {k : Nat × Nat} : xe_X12_cards ct K R (n + 1) 158 ls st σ k = (oR st fun x st => kd σ x = 13 ∧ xk_X12_cards ct K R n 161 ls (vr (fR σ 1358 x) :: st) σ k) := exS_step.trans rfl
theorem ev_X12_cards_161 {ct : Nat → Bool} {K : Kt} {R : Option AV → Hp → Prop} {n : Nat} {ls : List (Option AV)} {st : List AV} {σ : Hp} {k : Nat × Nat} : xe_X12_cards ct K R (n + 1) 161 ls st σ k = (lI ls 1 fun x => xk_X12_cards ct K R n 162 ls (vi x :: st) σ k) := exS_step.trans rfl
theorem ev_X12_cards_162 {ct : Nat → Bool} {K : Kt} {R : Option AV → Hp → Prop} {n : Nat} {ls : List (Option AV)} {st : List AV} {σ : Hp} {k : Nat × Nat} : xe_X12_cards ct K R (n + 1) 162 ls st σ k = (lR ls 0 fun x => xk_X12_cards ct K R n 163 ls (vr x :: st) σ k) := exS_step.trans rfl
theorem ev_X12_cards_163 {ct : Nat → Bool} {K : Kt} {R : Option AV → Hp → Prop} {n : Nat} {ls : List (Option AV)} {st : List AV} {σ : Hp} {k : Nat × Nat} : xe_X12_cards ct K R (n + 1) 163 ls st σ k = (oR st fun x st => kd σ x = 13 ∧ xk_X12_cards ct K R n 166 ls (vr (fR σ 1358 x) :: st) σ k) := exS_step.trans rfl
theorem ev_X12_cards_166 {ct : Nat → Bool} {K : Kt} {R : Option AV → Hp → Prop} {n : Nat} {ls : List (Option AV)} {st : List AV} {σ : Hp} {k : Nat × Nat} : xe_X12_cards ct K R (n + 1) 166 ls st σ k = (xk_X12_cards ct K R n 169 ls (vi (1000) :: st) σ k) := exS_step.trans rfl
theorem ev_X12_cards_169 {ct : Nat → Bool} {K : Kt} {R : Option AV → Hp → Prop} {n : Nat} {ls : List (Option AV)} {st : List AV} {σ : Hp} {k : Nat × Nat} : xe_X12_cards ct K R (n + 1) 169 ls st σ k = (lI ls 1 fun x => xk_X12_cards ct K R n 170 ls (vi x :: st) σ k) := exS_step.trans rfl
theorem ev_X12_cards_170 {ct : Nat → Bool} {K : Kt} {R : Option AV → Hp → Prop} {n : Nat} {ls : List (Option AV)} {st : List AV} {σ : Hp} {k : Nat × Nat} : xe_X12_cards ct K R (n + 1) 170 ls st σ k = (oI st fun y st => oI st fun x st => xk_X12_cards ct K R n 171 ls (vi (x + y) :: st) σ k) := exS_step.trans rfl
theorem ev_X12_cards_171 {ct : Nat → Bool} {K : Kt} {R : Option AV → Hp → Prop} {n : Nat} {ls : List (Option AV)} {st : List AV} {σ : Hp} {k : Nat × Nat} : xe_X12_cards ct K R (n + 1) 171 ls st σ k = (oI st fun j st => oR st fun x st => (kd σ x = 101 ∨ kd σ x = 108) ∧ (0 ≤ j ∧ j < ln σ x) ∧ xk_X12_cards ct K R n 172 ls (vi (aI σ x j) :: st) σ k) := exS_step.trans rfl
theorem ev_X12_cards_172 {ct : Nat → Bool} {K : Kt} {R : Option AV → Hp → Prop} {n : Nat} {ls : List (Option AV)} {st : List AV} {σ : Hp} {k : Nat × Nat} : xe_X12_cards ct K R (n + 1) 172 ls st σ k = (oI st fun v st => oI st fun j st => oR st fun x st => kd σ x = 101 ∧ (0 ≤ j ∧ j < ln σ x) ∧ xk_X12_cards ct K R n 173 ls st (qI σ x j v) k) := exS_step.trans rfl
theorem ev_X12_cards_173 {ct : Nat → Bool} {K : Kt} {R : Option AV → Hp → Prop} {n : Nat} {ls : List (Option AV)} {st : List AV} {σ : Hp} {k : Nat × Nat} : xe_X12_cards ct K R (n + 1) 173 ls st σ k = (lI ls 1 fun x => 1 < 2 ∧ xk_X12_cards ct K R n 176 (stL ls 1 (vi (x + (1)))) st σ k) := exS_step.trans rfl
theorem ev_X12_cards_176 {ct : Nat → Bool} {K : Kt} {R : Option AV → Hp → Prop} {n : Nat} {ls : List (Option AV)} {st : List AV} {σ : Hp} {k : Nat × Nat} : xe_X12_cards ct K R (n + 1) 176 ls st σ k = (xk_X12_cards ct K R n 150 ls st σ k) := exS_step.trans rfl
theorem ev_X12_cards_179 {ct : Nat → Bool} {K : Kt} {R : Option AV → Hp → Prop} {n : Nat} {ls : List (Option AV)} {st : List AV} {σ : Hp} {k : Nat × Nat} : xe_X12_cards ct K R (n + 1) 179 ls st σ k = (xk_X12_cards ct K R n 180 ls (vi (0) :: st) σ k) := exS_step.trans rfl
theorem ev_X12_cards_180 {ct : Nat → Bool} {K : Kt} {R : Option AV → Hp → Prop} {n : Nat} {ls : List (Option AV)} {st : List AV} {σ : Hp} {k : Nat × Nat} : xe_X12_cards ct K R (n + 1) 180 ls st σ k = (oI st fun x st => st = [] ∧ True ∧ R (some (vi x)) σ) := exS_step.trans rfl
def M_X12_cards : Md := (yX12_cards, cX12_cards, 2, (some FieldType.int), 5, 0, 0, 1, false, tb_X12_cards, mt_X12_cards)
theorem mm_X12_cards : MMOK M_X12_cards := ⟨by decide +kernel, tk_X12_cards, mk_X12_cards, rfl, fun h => by cases h⟩
theorem go_X12_cards {Q : Option AV → Hp → Prop} {ct : Nat → Bool} {pc : Nat} {ls : List (Option AV)} {st : List AV} {σ : Hp} {k : Nat × Nat} (n : Nat) (h : xe_X12_cards ct (Go M_X12_cards Q) Q n pc ls st σ k) : Go M_X12_cards Q pc ls st σ k := Go.exS mm_X12_cards h

def PC (τ ρ : Hp) (l : Int) : Prop := MI ρ ∧ Ut [] arD τ ρ ∧ (∀ r, isL r → ∀ j, 24 ≤ j → aI ρ r j = aI τ r j) ∧ (∀ j, 0 ≤ j → j < l → aI ρ 93 j = aI τ 93 (24 + j) ∧ aI ρ 94 j = aI τ 94 (24 + j) ∧ aI ρ 95 j = aI τ 95 (24 + j) - 1000 ∧ aI ρ 96 j = aI τ 96 (24 + j) - 1000) ∧ aI ρ 97 = aI τ 97
def PD (ρ χ : Hp) (k : Int) : Prop := MI χ ∧ Ut [] arD ρ χ ∧ (∀ r, isL r → aI χ r = aI ρ r) ∧ (∀ j, 1000 ≤ j → aI χ 97 j = aI ρ 97 j) ∧ ∀ j, 0 ≤ j → j < k → aI χ 97 j = aI ρ 97 (1000 + j)
section CD
variable {Q : Option AV → Hp → Prop} {σ : Hp}

set_option maxRecDepth 20000 in
theorem cd_150 {ρ : Hp} (w : ∀ χ, PD ρ χ 1000 → Q (some (vi 0)) χ) : ∀ (n : Nat) (k : Int) (χ : Hp), 0 ≤ k → k + n = 1000 → PD ρ χ k → Go M_X12_cards Q 150 [some (vr 61), some (vi k)] [] χ (0, 0) := by
  intro n
  induction n with
  | zero =>
    intro k χ h0 hk hP
    have e : k = 1000 := by omega
    subst e
    have hkd : kd χ 61 = 13 := hP.1.lay.1
    refine go_X12_cards (ct := fun p => p == 150) 30 ?_
    simp only [oI, oL, oR, o1, lI, lL, lR, popN, catS, gv, stL, stL2, swt, cnd, spObj, List.getElem?_cons_zero, List.getElem?_cons_succ, List.getD_cons_zero, List.getD_cons_succ, List.set_cons_zero, List.set_cons_succ, List.nil_append, List.cons_append, Option.toList, Bool.or_false, Bool.false_or, Bool.or_true, Bool.true_or, Nat.reduceBEq, Nat.reduceAdd, Nat.reduceLT, Nat.reduceLeDiff, Int.reduceAdd, Int.reduceToNat, true_and, and_true, Fin.isValue, Fin.val_zero, Fin.val_one, Fin.val_two, Fin.reduceFinMk, eq_self, Int.reduceNeg, imp_self, Nat.reduceMul, Nat.le_refl, not_true_eq_false, not_false_eq_true, List.getElem?_nil, reduceCtorEq, true_or, or_true, Classical.not_not, implies_true, or_self, wI_0, wI_1, wI_m1, b2i_w, b2i_eq0, b2i_eq1, b2i_bool, nor_self, nx_pI, kd_pI, ln_pI, fI_pI, fL_pI, fR_pI, aI_pI, aL_pI, aR_pI, nx_pL, kd_pL, ln_pL, fI_pL, fL_pL, fR_pL, aI_pL, aL_pL, aR_pL, nx_pR, kd_pR, ln_pR, fI_pR, fL_pR, fR_pR, aI_pR, aL_pR, aR_pR, nx_qI, kd_qI, ln_qI, fI_qI, fL_qI, fR_qI, aI_qI, aL_qI, aR_qI, nx_qL, kd_qL, ln_qL, fI_qL, fL_qL, fR_qL, aI_qL, aL_qL, aR_qL, nx_qR, kd_qR, ln_qR, fI_qR, fL_qR, fR_qR, aI_qR, aL_qR, aR_qR, nx_mk, kd_mk, ln_mk, fI_mk, fL_mk, fR_mk, aI_mk, aL_mk, aR_mk, false_and, and_false, if_false, if_true, and_self, Int.reduceEq, Nat.reduceEqDiff, ite_self, MLay_pI, MLay_pL, MLay_qI, MLay_qL, ev_X12_cards_150, ev_X12_cards_151, ev_X12_cards_154, ev_X12_cards_157, ev_X12_cards_158, ev_X12_cards_161, ev_X12_cards_162, ev_X12_cards_163, ev_X12_cards_166, ev_X12_cards_169, ev_X12_cards_170, ev_X12_cards_171, ev_X12_cards_172, ev_X12_cards_173, ev_X12_cards_176, ev_X12_cards_179, ev_X12_cards_180, xt_X12_cards, xf_X12_cards, us_X12_next, us_X12_readsLine, hkd]
    try simp (disch := omega) only [wI_id, dv_nn, rm_nn]
    repeat' (first | intro z | apply And.intro)
    all_goals try omega
    all_goals exact w χ hP
  | succ n ih =>
    intro k χ h0 hk hP
    have hI := hP.1
    have hkd : kd χ 61 = 13 := hI.lay.1
    have hc := hI.codes_ (1000 + k)
    obtain ⟨p1, p2, p3, p4, p5⟩ := hP
    have ih := ih (k + 1) (qI χ 97 k (aI χ 97 (1000 + k))) (by omega) (by omega) ⟨MI_codes_q p1 hc, p2.qI _ (Or.inr (Or.inr (Or.inl rfl))), fun r hr => by
      rw [← p3 r hr]; funext j
      rw [aI_qI, if_neg (by rintro ⟨e, -⟩; rcases hr with hr | hr | hr | hr <;> (rw [hr] at e; exact absurd e (by decide)))], fun j q => by
      rw [aI_qI, if_neg (by omega)]; exact p4 j q, fun j q1 q2 => by
      rw [aI_qI]
      by_cases e : j = k
      · rw [if_pos ⟨rfl, e⟩, p4 _ (by omega), e]
      · rw [if_neg (fun y => e y.2)]; exact p5 j q1 (by omega)⟩
    refine go_X12_cards (ct := fun p => p == 150) 30 ?_
    simp only [oI, oL, oR, o1, lI, lL, lR, popN, catS, gv, stL, stL2, swt, cnd, spObj, List.getElem?_cons_zero, List.getElem?_cons_succ, List.getD_cons_zero, List.getD_cons_succ, List.set_cons_zero, List.set_cons_succ, List.nil_append, List.cons_append, Option.toList, Bool.or_false, Bool.false_or, Bool.or_true, Bool.true_or, Nat.reduceBEq, Nat.reduceAdd, Nat.reduceLT, Nat.reduceLeDiff, Int.reduceAdd, Int.reduceToNat, true_and, and_true, Fin.isValue, Fin.val_zero, Fin.val_one, Fin.val_two, Fin.reduceFinMk, eq_self, Int.reduceNeg, imp_self, Nat.reduceMul, Nat.le_refl, not_true_eq_false, not_false_eq_true, List.getElem?_nil, reduceCtorEq, true_or, or_true, Classical.not_not, implies_true, or_self, wI_0, wI_1, wI_m1, b2i_w, b2i_eq0, b2i_eq1, b2i_bool, nor_self, nx_pI, kd_pI, ln_pI, fI_pI, fL_pI, fR_pI, aI_pI, aL_pI, aR_pI, nx_pL, kd_pL, ln_pL, fI_pL, fL_pL, fR_pL, aI_pL, aL_pL, aR_pL, nx_pR, kd_pR, ln_pR, fI_pR, fL_pR, fR_pR, aI_pR, aL_pR, aR_pR, nx_qI, kd_qI, ln_qI, fI_qI, fL_qI, fR_qI, aI_qI, aL_qI, aR_qI, nx_qL, kd_qL, ln_qL, fI_qL, fL_qL, fR_qL, aI_qL, aL_qL, aR_qL, nx_qR, kd_qR, ln_qR, fI_qR, fL_qR, fR_qR, aI_qR, aL_qR, aR_qR, nx_mk, kd_mk, ln_mk, fI_mk, fL_mk, fR_mk, aI_mk, aL_mk, aR_mk, false_and, and_false, if_false, if_true, and_self, Int.reduceEq, Nat.reduceEqDiff, ite_self, MLay_pI, MLay_pL, MLay_qI, MLay_qL, ev_X12_cards_150, ev_X12_cards_151, ev_X12_cards_154, ev_X12_cards_157, ev_X12_cards_158, ev_X12_cards_161, ev_X12_cards_162, ev_X12_cards_163, ev_X12_cards_166, ev_X12_cards_169, ev_X12_cards_170, ev_X12_cards_171, ev_X12_cards_172, ev_X12_cards_173, ev_X12_cards_176, ev_X12_cards_179, ev_X12_cards_180, xt_X12_cards, xf_X12_cards, us_X12_next, us_X12_readsLine, hkd, hI.lay.eqs]
    try simp (disch := omega) only [wI_id, dv_nn, rm_nn]
    repeat' (first | intro z | apply And.intro)
    all_goals try omega
    all_goals exact ih

set_option maxRecDepth 20000 in
theorem cd_68 {τ : Hp} (hu : upL τ) (w : ∀ ρ χ, PC τ ρ 24 → PD ρ χ 1000 → Q (some (vi 0)) χ) : ∀ (n : Nat) (l : Int) (ρ : Hp), 0 ≤ l → l + n = 24 → PC τ ρ l → Go M_X12_cards Q 68 [some (vr 61), some (vi l)] [] ρ (0, 0) := by
  intro n
  induction n with
  | zero =>
    intro l ρ h0 hl hP
    have e : l = 24 := by omega
    subst e
    have hkd : kd ρ 61 = 13 := hP.1.lay.1
    have w150 := cd_150 (fun χ h => w ρ χ hP h) 1000 0 ρ (by omega) (by omega) ⟨hP.1, Ut.refl _ _ _, fun _ _ => rfl, fun _ _ => rfl, fun j q1 q2 => by omega⟩
    refine go_X12_cards (ct := fun p => p == 68 || p == 150) 30 ?_
    simp only [oI, oL, oR, o1, lI, lL, lR, popN, catS, gv, stL, stL2, swt, cnd, spObj, List.getElem?_cons_zero, List.getElem?_cons_succ, List.getD_cons_zero, List.getD_cons_succ, List.set_cons_zero, List.set_cons_succ, List.nil_append, List.cons_append, Option.toList, Bool.or_false, Bool.false_or, Bool.or_true, Bool.true_or, Nat.reduceBEq, Nat.reduceAdd, Nat.reduceLT, Nat.reduceLeDiff, Int.reduceAdd, Int.reduceToNat, true_and, and_true, Fin.isValue, Fin.val_zero, Fin.val_one, Fin.val_two, Fin.reduceFinMk, eq_self, Int.reduceNeg, imp_self, Nat.reduceMul, Nat.le_refl, not_true_eq_false, not_false_eq_true, List.getElem?_nil, reduceCtorEq, true_or, or_true, Classical.not_not, implies_true, or_self, wI_0, wI_1, wI_m1, b2i_w, b2i_eq0, b2i_eq1, b2i_bool, nor_self, nx_pI, kd_pI, ln_pI, fI_pI, fL_pI, fR_pI, aI_pI, aL_pI, aR_pI, nx_pL, kd_pL, ln_pL, fI_pL, fL_pL, fR_pL, aI_pL, aL_pL, aR_pL, nx_pR, kd_pR, ln_pR, fI_pR, fL_pR, fR_pR, aI_pR, aL_pR, aR_pR, nx_qI, kd_qI, ln_qI, fI_qI, fL_qI, fR_qI, aI_qI, aL_qI, aR_qI, nx_qL, kd_qL, ln_qL, fI_qL, fL_qL, fR_qL, aI_qL, aL_qL, aR_qL, nx_qR, kd_qR, ln_qR, fI_qR, fL_qR, fR_qR, aI_qR, aL_qR, aR_qR, nx_mk, kd_mk, ln_mk, fI_mk, fL_mk, fR_mk, aI_mk, aL_mk, aR_mk, false_and, and_false, if_false, if_true, and_self, Int.reduceEq, Nat.reduceEqDiff, ite_self, MLay_pI, MLay_pL, MLay_qI, MLay_qL, ev_X12_cards_68, ev_X12_cards_69, ev_X12_cards_71, ev_X12_cards_74, ev_X12_cards_75, ev_X12_cards_78, ev_X12_cards_79, ev_X12_cards_80, ev_X12_cards_83, ev_X12_cards_85, ev_X12_cards_86, ev_X12_cards_87, ev_X12_cards_88, ev_X12_cards_89, ev_X12_cards_90, ev_X12_cards_93, ev_X12_cards_94, ev_X12_cards_95, ev_X12_cards_98, ev_X12_cards_100, ev_X12_cards_101, ev_X12_cards_102, ev_X12_cards_103, ev_X12_cards_104, ev_X12_cards_105, ev_X12_cards_108, ev_X12_cards_109, ev_X12_cards_110, ev_X12_cards_113, ev_X12_cards_115, ev_X12_cards_116, ev_X12_cards_117, ev_X12_cards_118, ev_X12_cards_121, ev_X12_cards_122, ev_X12_cards_123, ev_X12_cards_124, ev_X12_cards_127, ev_X12_cards_128, ev_X12_cards_129, ev_X12_cards_132, ev_X12_cards_134, ev_X12_cards_135, ev_X12_cards_136, ev_X12_cards_137, ev_X12_cards_140, ev_X12_cards_141, ev_X12_cards_142, ev_X12_cards_145, ev_X12_cards_148, ev_X12_cards_149, xt_X12_cards, xf_X12_cards, us_X12_next, us_X12_readsLine, hkd]
    try simp (disch := omega) only [wI_id, dv_nn, rm_nn]
    repeat' (first | intro z | apply And.intro)
    all_goals try omega
    all_goals exact w150
  | succ n ih =>
    intro l ρ h0 hl hP
    have hI := hP.1
    have hkd : kd ρ 61 = 13 := hI.lay.1
    obtain ⟨p1, p2, p3, p4, p5⟩ := hP
    have x1 := hI.lineEngines_ (24 + l)
    have x2 := hI.lineLadders_ (24 + l)
    have x3 := hI.lineFrom_ (24 + l)
    have x4 := hI.lineTo_ (24 + l)
    have y3 := p3 95 (Or.inl rfl) (24 + l) (by omega)
    have y4 := p3 96 (Or.inr (Or.inl rfl)) (24 + l) (by omega)
    have y1 := p3 93 (Or.inr (Or.inr (Or.inl rfl))) (24 + l) (by omega)
    have y2 := p3 94 (Or.inr (Or.inr (Or.inr rfl))) (24 + l) (by omega)
    have yu := hu (24 + l) (by omega)
    have ih := ih (l + 1) (qI (qI (qI (qI ρ 93 l (aI ρ 93 (24 + l))) 94 l (aI ρ 94 (24 + l))) 95 l (aI ρ 95 (24 + l) - 1000)) 96 l (aI ρ 96 (24 + l) - 1000)) (by omega) (by omega)
      ⟨MI_lineTo_q (MI_lineFrom_q (MI_lineLadders_q (MI_lineEngines_q p1 x1) x2) (by omega)) (by omega), (((p2.qI _ (Or.inr (Or.inr (Or.inr (Or.inr (Or.inr (Or.inl rfl))))))).qI _ (Or.inr (Or.inr (Or.inr (Or.inr (Or.inr (Or.inr rfl))))))).qI _ (Or.inr (Or.inr (Or.inr (Or.inl rfl))))).qI _ (Or.inr (Or.inr (Or.inr (Or.inr (Or.inl rfl))))), fun r hr j q => by
        rw [← p3 r hr j q]
        simp only [aI_qI]
        rw [if_neg (by omega), if_neg (by omega), if_neg (by omega), if_neg (by omega)], fun j q1 q2 => by
        simp only [aI_qI, y1, y2, y3, y4, Int.reduceEq, false_and, if_false, true_and]
        by_cases e : j = l
        · simp [e]
        · simp only [e, if_false]
          exact p4 j q1 (by omega), by rw [← p5]; funext j; simp [aI_qI]⟩
    refine go_X12_cards (ct := fun p => p == 68) 60 ?_
    simp only [oI, oL, oR, o1, lI, lL, lR, popN, catS, gv, stL, stL2, swt, cnd, spObj, List.getElem?_cons_zero, List.getElem?_cons_succ, List.getD_cons_zero, List.getD_cons_succ, List.set_cons_zero, List.set_cons_succ, List.nil_append, List.cons_append, Option.toList, Bool.or_false, Bool.false_or, Bool.or_true, Bool.true_or, Nat.reduceBEq, Nat.reduceAdd, Nat.reduceLT, Nat.reduceLeDiff, Int.reduceAdd, Int.reduceToNat, true_and, and_true, Fin.isValue, Fin.val_zero, Fin.val_one, Fin.val_two, Fin.reduceFinMk, eq_self, Int.reduceNeg, imp_self, Nat.reduceMul, Nat.le_refl, not_true_eq_false, not_false_eq_true, List.getElem?_nil, reduceCtorEq, true_or, or_true, Classical.not_not, implies_true, or_self, wI_0, wI_1, wI_m1, b2i_w, b2i_eq0, b2i_eq1, b2i_bool, nor_self, nx_pI, kd_pI, ln_pI, fI_pI, fL_pI, fR_pI, aI_pI, aL_pI, aR_pI, nx_pL, kd_pL, ln_pL, fI_pL, fL_pL, fR_pL, aI_pL, aL_pL, aR_pL, nx_pR, kd_pR, ln_pR, fI_pR, fL_pR, fR_pR, aI_pR, aL_pR, aR_pR, nx_qI, kd_qI, ln_qI, fI_qI, fL_qI, fR_qI, aI_qI, aL_qI, aR_qI, nx_qL, kd_qL, ln_qL, fI_qL, fL_qL, fR_qL, aI_qL, aL_qL, aR_qL, nx_qR, kd_qR, ln_qR, fI_qR, fL_qR, fR_qR, aI_qR, aL_qR, aR_qR, nx_mk, kd_mk, ln_mk, fI_mk, fL_mk, fR_mk, aI_mk, aL_mk, aR_mk, false_and, and_false, if_false, if_true, and_self, Int.reduceEq, Nat.reduceEqDiff, ite_self, MLay_pI, MLay_pL, MLay_qI, MLay_qL, ev_X12_cards_68, ev_X12_cards_69, ev_X12_cards_71, ev_X12_cards_74, ev_X12_cards_75, ev_X12_cards_78, ev_X12_cards_79, ev_X12_cards_80, ev_X12_cards_83, ev_X12_cards_85, ev_X12_cards_86, ev_X12_cards_87, ev_X12_cards_88, ev_X12_cards_89, ev_X12_cards_90, ev_X12_cards_93, ev_X12_cards_94, ev_X12_cards_95, ev_X12_cards_98, ev_X12_cards_100, ev_X12_cards_101, ev_X12_cards_102, ev_X12_cards_103, ev_X12_cards_104, ev_X12_cards_105, ev_X12_cards_108, ev_X12_cards_109, ev_X12_cards_110, ev_X12_cards_113, ev_X12_cards_115, ev_X12_cards_116, ev_X12_cards_117, ev_X12_cards_118, ev_X12_cards_121, ev_X12_cards_122, ev_X12_cards_123, ev_X12_cards_124, ev_X12_cards_127, ev_X12_cards_128, ev_X12_cards_129, ev_X12_cards_132, ev_X12_cards_134, ev_X12_cards_135, ev_X12_cards_136, ev_X12_cards_137, ev_X12_cards_140, ev_X12_cards_141, ev_X12_cards_142, ev_X12_cards_145, ev_X12_cards_148, ev_X12_cards_149, xt_X12_cards, xf_X12_cards, us_X12_next, us_X12_readsLine, hkd, hI.lay.eqs]
    try simp (disch := omega) only [wI_id, dv_nn, rm_nn]
    repeat' (first | intro z | apply And.intro)
    all_goals try omega
    all_goals exact ih

end CD

theorem Cs.shift {A B : Int → Int} {o : Int} : ∀ {cs : List Int} {k : Int}, Cs A k cs → (∀ j, k ≤ j → j < k + cs.length → B (j - o) = A j) → Cs B (k - o) cs
  | [], _, _, _ => trivial
  | c :: cs, k, h, hb => by
    simp only [List.length_cons, Int.natCast_add, Int.cast_ofNat_Int] at hb
    refine ⟨(hb k (Int.le_refl _) (by omega)).trans h.1, ?_⟩
    have := h.2.shift (B := B) (o := o) fun j a b => hb j (by omega) (by omega)
    rw [show k - o + 1 = k + 1 - o by omega]; exact this
theorem upL_FL {τ τ' : Hp} (h : upL τ) (g : FL τ τ') : upL τ' := fun j hj => by
  have q1 := h j hj
  have q2 := g j
  omega
theorem arC_D (r j : Int) (h : arC r j) : arD r j := by
  rcases h with h | h
  · rcases h with h | h | h
    · exact Or.inl h
    · exact Or.inr (Or.inl h)
    · exact Or.inr (Or.inr (Or.inl h.1))
  · exact Or.inr (Or.inr (Or.inr h.1))
theorem cd_fin {σ τ ρ χ : Hp} {xs : List Ln} (hU : Ut fsC arC σ τ) (hl : fI τ 1343 61 = 0) (ht : fI τ 1300 61 = 0) (hn : fI τ 1353 61 = xs.length) (hu : upL τ) (hc : fI τ 1359 61 ≤ 2000) (hS : LnS τ 1000 (fI τ 1359 61) 24 xs) (hx : xs.length ≤ 24)
    (h1 : PC (pI τ 1352 61 (fI τ 1353 61)) ρ 24) (h2 : PD ρ χ 1000) : MI χ ∧ Ut fsD arD σ χ ∧ fI χ 1343 61 = 0 ∧ fI χ 1300 61 = 0 ∧ upL χ ∧ fI χ 1352 61 = xs.length ∧ LnS χ 0 1000 0 xs := by
  obtain ⟨p1, p2, p3, p4, p5⟩ := h1
  obtain ⟨q1, q2, q3, q4, q5⟩ := h2
  have ef : ∀ f, fI χ f 61 = fI (pI τ 1352 61 (fI τ 1353 61)) f 61 := fun f => (q2.2.2.2.2.2.2.1 f 61 (by simp)).trans (p2.2.2.2.2.2.2.1 f 61 (by simp))
  have eL : ∀ r, isL r → ∀ j, 24 ≤ j → aI χ r j = aI τ r j := fun r hr j hj => (by rw [q3 r hr]; exact p3 r hr j hj)
  refine ⟨q1, ?_, ?_, ?_, ?_, ?_, ?_⟩
  · exact (((hU.mono (by decide) arC_D).pI _ (by decide)).trans (p2.mono (by simp) (fun _ _ z => z))).trans (q2.mono (by simp) (fun _ _ z => z))
  · rw [ef]; exact hl
  · rw [ef]; exact ht
  · intro j hj
    rw [eL _ (Or.inl rfl) j hj, eL _ (Or.inr (Or.inl rfl)) j hj]
    exact hu j hj
  · rw [ef]; exact hn
  · intro i x hx2
    have hi : i < xs.length := (List.getElem?_eq_some_iff.mp hx2).1
    obtain ⟨a1, a2, a3, a4, a5, a6⟩ := hS i x hx2
    have pp := p4 i (by omega) (by omega)
    have e1 : aI χ 93 i = aI τ 93 (24 + i) := by rw [q3 _ (Or.inr (Or.inr (Or.inl rfl)))]; exact pp.1
    have e2 : aI χ 94 i = aI τ 94 (24 + i) := by rw [q3 _ (Or.inr (Or.inr (Or.inr rfl)))]; exact pp.2.1
    have e3 : aI χ 95 i = aI τ 95 (24 + i) - 1000 := by rw [q3 _ (Or.inl rfl)]; exact pp.2.2.1
    have e4 : aI χ 96 i = aI τ 96 (24 + i) - 1000 := by rw [q3 _ (Or.inr (Or.inl rfl))]; exact pp.2.2.2
    have e0 : (0 : Int) + i = i := by omega
    unfold LnP
    rw [e0, e1, e2, e3, e4]
    refine ⟨a1, a2, by omega, by omega, by omega, a6.shift fun j z1 z2 => ?_⟩
    rw [q5 (j - 1000) (by omega) (by omega), show 1000 + (j - 1000) = j by omega, p5]
    rfl

set_option maxRecDepth 20000 in
theorem cd_39 {Q : Option AV → Hp → Prop} {σ : Hp} {L : Int → Int} {z : Int} : ∀ (n : Nat) (ds : List Ln) (τ : Hp), ds.length + n = 25 → MI τ → Ut fsC arC σ τ → TS τ → aI τ 92 = L → fI τ 1345 61 = z → fI τ 1343 61 = 0 → fI τ 1300 61 = 0 → fI τ 1353 61 = ds.length → upL τ → LnS τ 1000 (fI τ 1359 61) 24 ds →
      ((cdR L z n ds.length (fI τ 1347 61)).1 ≠ 0 → ∀ τ', MI τ' → Ut fsC arC σ τ' → fI τ' 1343 61 = 0 → fI τ' 1300 61 = 0 → upL τ' → Q (some (vi (cdR L z n ds.length (fI τ 1347 61)).1)) τ') →
      ((cdR L z n ds.length (fI τ 1347 61)).1 = 0 → ∀ χ, MI χ → Ut fsD arD σ χ → fI χ 1343 61 = 0 → fI χ 1300 61 = 0 → upL χ → fI χ 1352 61 = (ds ++ (cdR L z n ds.length (fI τ 1347 61)).2).length → LnS χ 0 1000 0 (ds ++ (cdR L z n ds.length (fI τ 1347 61)).2) → Q (some (vi 0)) χ) → Go M_X12_cards Q 39 [some (vr 61), none] [] τ (0, 0) := by
  intro n
  induction n with
  | zero =>
    intro ds τ hn hT _ _ _ _ _ _ hnl
    have := hT.newLines_s
    omega
  | succ n ih =>
    intro ds τ hn hT hU hS e1 e2 e3 e4 hnl huL hL k1 k2
    have hk1 : kd τ 61 = 13 := hT.lay.1
    have hnl2 := hT.newLines_s
    have hcd := hT.code_s
    obtain ⟨hTT, hb, hc1, hc2⟩ := hS
    rw [e1, e2] at hTT
    rw [e2] at hb
    have etk := hTT.2.2.2.2
    have tk1 : 0 ≤ tK L z (fI τ 1347 61) ∧ tK L z (fI τ 1347 61) ≤ 4 := tKb_in L z _
    unfold cdR at k1 k2
    by_cases c1 : tK L z (fI τ 1347 61) = 0
    · rw [if_pos c1] at k2
      rw [List.append_nil] at k2
      have hM9 : MI (pI τ 1352 61 (fI τ 1353 61)) := MI_cardLines_p hT hnl2
      have w68 := cd_68 (Q := Q) (τ := pI τ 1352 61 (fI τ 1353 61)) huL (fun ρ χ p1 p2 => by
        have f := cd_fin hU e3 e4 hnl huL hcd.2 hL (by omega) p1 p2
        exact k2 rfl χ f.1 f.2.1 f.2.2.1 f.2.2.2.1 f.2.2.2.2.1 f.2.2.2.2.2.1 f.2.2.2.2.2.2) 24 0 (pI τ 1352 61 (fI τ 1353 61)) (by omega) (by omega) ⟨hM9, Ut.refl _ _ _, fun _ _ _ _ => rfl, fun j q1 q2 => by omega, rfl⟩
      refine go_X12_cards (ct := fun p => p == 46 || p == 68) 30 ?_
      simp only [oI, oL, oR, o1, lI, lL, lR, popN, catS, gv, stL, stL2, swt, cnd, spObj, List.getElem?_cons_zero, List.getElem?_cons_succ, List.getD_cons_zero, List.getD_cons_succ, List.set_cons_zero, List.set_cons_succ, List.nil_append, List.cons_append, Option.toList, Bool.or_false, Bool.false_or, Bool.or_true, Bool.true_or, Nat.reduceBEq, Nat.reduceAdd, Nat.reduceLT, Nat.reduceLeDiff, Int.reduceAdd, Int.reduceToNat, true_and, and_true, Fin.isValue, Fin.val_zero, Fin.val_one, Fin.val_two, Fin.reduceFinMk, eq_self, Int.reduceNeg, imp_self, Nat.reduceMul, Nat.le_refl, not_true_eq_false, not_false_eq_true, List.getElem?_nil, reduceCtorEq, true_or, or_true, Classical.not_not, implies_true, or_self, wI_0, wI_1, wI_m1, b2i_w, b2i_eq0, b2i_eq1, b2i_bool, nor_self, nx_pI, kd_pI, ln_pI, fI_pI, fL_pI, fR_pI, aI_pI, aL_pI, aR_pI, nx_pL, kd_pL, ln_pL, fI_pL, fL_pL, fR_pL, aI_pL, aL_pL, aR_pL, nx_pR, kd_pR, ln_pR, fI_pR, fL_pR, fR_pR, aI_pR, aL_pR, aR_pR, nx_qI, kd_qI, ln_qI, fI_qI, fL_qI, fR_qI, aI_qI, aL_qI, aR_qI, nx_qL, kd_qL, ln_qL, fI_qL, fL_qL, fR_qL, aI_qL, aL_qL, aR_qL, nx_qR, kd_qR, ln_qR, fI_qR, fL_qR, fR_qR, aI_qR, aL_qR, aR_qR, nx_mk, kd_mk, ln_mk, fI_mk, fL_mk, fR_mk, aI_mk, aL_mk, aR_mk, false_and, and_false, if_false, if_true, and_self, Int.reduceEq, Nat.reduceEqDiff, ite_self, MLay_pI, MLay_pL, MLay_qI, MLay_qL, ev_X12_cards_39, ev_X12_cards_40, ev_X12_cards_43, ev_X12_cards_46, ev_X12_cards_47, ev_X12_cards_50, ev_X12_cards_53, ev_X12_cards_54, ev_X12_cards_57, ev_X12_cards_58, ev_X12_cards_59, ev_X12_cards_60, ev_X12_cards_63, ev_X12_cards_66, ev_X12_cards_67, xt_X12_cards, xf_X12_cards, us_X12_next, us_X12_readsLine, hk1, etk, c1, not_true_eq_false, false_imp_iff, true_imp_iff]
      repeat' (first | intro z | apply And.intro)
      all_goals try omega
      all_goals exact w68
    · rw [if_neg c1] at k1 k2
      have n1 : (tK L z (fI τ 1347 61) = 0) = False := eq_false c1
      have hwk : wI (tK L z (fI τ 1347 61)) = tK L z (fI τ 1347 61) := wI_id (by omega) (by omega)
      have hSτ : TS τ := ⟨by rw [e1, e2]; exact hTT, by rw [e2]; exact hb, hc1, hc2⟩
      refine go_X12_cards (ct := fun p => p == 58 || p == 50) 30 ?_
      simp only [oI, oL, oR, o1, lI, lL, lR, popN, catS, gv, stL, stL2, swt, cnd, spObj, List.getElem?_cons_zero, List.getElem?_cons_succ, List.getD_cons_zero, List.getD_cons_succ, List.set_cons_zero, List.set_cons_succ, List.nil_append, List.cons_append, Option.toList, Bool.or_false, Bool.false_or, Bool.or_true, Bool.true_or, Nat.reduceBEq, Nat.reduceAdd, Nat.reduceLT, Nat.reduceLeDiff, Int.reduceAdd, Int.reduceToNat, true_and, and_true, Fin.isValue, Fin.val_zero, Fin.val_one, Fin.val_two, Fin.reduceFinMk, eq_self, Int.reduceNeg, imp_self, Nat.reduceMul, Nat.le_refl, not_true_eq_false, not_false_eq_true, List.getElem?_nil, reduceCtorEq, true_or, or_true, Classical.not_not, implies_true, or_self, wI_0, wI_1, wI_m1, b2i_w, b2i_eq0, b2i_eq1, b2i_bool, nor_self, nx_pI, kd_pI, ln_pI, fI_pI, fL_pI, fR_pI, aI_pI, aL_pI, aR_pI, nx_pL, kd_pL, ln_pL, fI_pL, fL_pL, fR_pL, aI_pL, aL_pL, aR_pL, nx_pR, kd_pR, ln_pR, fI_pR, fL_pR, fR_pR, aI_pR, aL_pR, aR_pR, nx_qI, kd_qI, ln_qI, fI_qI, fL_qI, fR_qI, aI_qI, aL_qI, aR_qI, nx_qL, kd_qL, ln_qL, fI_qL, fL_qL, fR_qL, aI_qL, aL_qL, aR_qL, nx_qR, kd_qR, ln_qR, fI_qR, fL_qR, fR_qR, aI_qR, aL_qR, aR_qR, nx_mk, kd_mk, ln_mk, fI_mk, fL_mk, fR_mk, aI_mk, aL_mk, aR_mk, false_and, and_false, if_false, if_true, and_self, Int.reduceEq, Nat.reduceEqDiff, ite_self, MLay_pI, MLay_pL, MLay_qI, MLay_qL, ev_X12_cards_39, ev_X12_cards_40, ev_X12_cards_43, ev_X12_cards_46, ev_X12_cards_47, xt_X12_cards, xf_X12_cards, us_X12_next, us_X12_readsLine, hk1, etk, hwk, n1, hT, hSτ, e1, e2, hnl, not_false_eq_true, false_imp_iff, true_imp_iff]
      refine ⟨fun e τ' hM hU' hFL hw => ?_, fun e τ' hM hU' hS' hlt24 hnl' hB hR hF hTo hE hLa => ?_⟩
      · rw [if_pos e] at k1
        have hk2 : kd τ' 61 = 13 := hM.lay.1
        have hUC : Ut fsC arC σ τ' := hU.trans (hU'.mono (by decide) (fun r j q => by
          rcases q with q | q
          · exact Or.inl q
          · exact Or.inr ⟨by unfold isL; exact q.1, by clear k1 k2 ih; omega⟩))
        have f1 : fI τ' 1343 61 = fI τ 1343 61 := hU'.2.2.2.2.2.2.1 1343 61 (by decide)
        have f2 : fI τ' 1300 61 = fI τ 1300 61 := hU'.2.2.2.2.2.2.1 1300 61 (by decide)
        have w := k1 e τ' hM hUC (f1.trans e3) (f2.trans e4) (upL_FL huL hFL)
        refine go_X12_cards (ct := fun p => p == 39) 30 ?_
        simp only [oI, oL, oR, o1, lI, lL, lR, popN, catS, gv, stL, stL2, swt, cnd, spObj, List.getElem?_cons_zero, List.getElem?_cons_succ, List.getD_cons_zero, List.getD_cons_succ, List.set_cons_zero, List.set_cons_succ, List.nil_append, List.cons_append, Option.toList, Bool.or_false, Bool.false_or, Bool.or_true, Bool.true_or, Nat.reduceBEq, Nat.reduceAdd, Nat.reduceLT, Nat.reduceLeDiff, Int.reduceAdd, Int.reduceToNat, true_and, and_true, Fin.isValue, Fin.val_zero, Fin.val_one, Fin.val_two, Fin.reduceFinMk, eq_self, Int.reduceNeg, imp_self, Nat.reduceMul, Nat.le_refl, not_true_eq_false, not_false_eq_true, List.getElem?_nil, reduceCtorEq, true_or, or_true, Classical.not_not, implies_true, or_self, wI_0, wI_1, wI_m1, b2i_w, b2i_eq0, b2i_eq1, b2i_bool, nor_self, nx_pI, kd_pI, ln_pI, fI_pI, fL_pI, fR_pI, aI_pI, aL_pI, aR_pI, nx_pL, kd_pL, ln_pL, fI_pL, fL_pL, fR_pL, aI_pL, aL_pL, aR_pL, nx_pR, kd_pR, ln_pR, fI_pR, fL_pR, fR_pR, aI_pR, aL_pR, aR_pR, nx_qI, kd_qI, ln_qI, fI_qI, fL_qI, fR_qI, aI_qI, aL_qI, aR_qI, nx_qL, kd_qL, ln_qL, fI_qL, fL_qL, fR_qL, aI_qL, aL_qL, aR_qL, nx_qR, kd_qR, ln_qR, fI_qR, fL_qR, fR_qR, aI_qR, aL_qR, aR_qR, nx_mk, kd_mk, ln_mk, fI_mk, fL_mk, fR_mk, aI_mk, aL_mk, aR_mk, false_and, and_false, if_false, if_true, and_self, Int.reduceEq, Nat.reduceEqDiff, ite_self, MLay_pI, MLay_pL, MLay_qI, MLay_qL, ev_X12_cards_50, ev_X12_cards_53, ev_X12_cards_54, ev_X12_cards_57, xt_X12_cards, xf_X12_cards, us_X12_next, us_X12_readsLine, hk2, hw, not_true_eq_false, false_imp_iff, true_imp_iff]
        first | exact w | exact ⟨trivial, w⟩ | skip
      · rw [if_neg (by rw [e]; decide)] at k1 k2
        have hk2 : kd τ' 61 = 13 := hM.lay.1
        have hUC : Ut fsC arC σ τ' := hU.trans (hU'.mono (by decide) (fun r j q => by
          rcases q with q | q
          · exact Or.inl q
          · exact Or.inr ⟨by unfold isL; exact q.1, by clear k1 k2 ih; omega⟩))
        have f1 : fI τ' 1343 61 = fI τ 1343 61 := hU'.2.2.2.2.2.2.1 1343 61 (by decide)
        have f2 : fI τ' 1300 61 = fI τ 1300 61 := hU'.2.2.2.2.2.2.1 1300 61 (by decide)
        have f3 : fI τ' 1345 61 = fI τ 1345 61 := hU'.2.2.2.2.2.2.1 1345 61 (by decide)
        have f4 : aI τ' 92 = aI τ 92 := funext fun j => hU'.2.2.2.2.2.2.2.2 _ _ (by clear k1 k2 ih; unfold arN arR; omega)
        have hel : ∀ r, isL r → ∀ j, ¬ j = 24 + (ds.length : Int) → aI τ' r j = aI τ r j := fun r hr j hj => hU'.2.2.2.2.2.2.2.2 _ _ (by clear k1 k2 ih; unfold arN arR; unfold isL at hr; omega)
        have eap : ∀ t : List Ln, (ds ++ [lnR L z ds.length (fI τ 1347 61)]) ++ t = ds ++ lnR L z ds.length (fI τ 1347 61) :: t := fun t => by rw [List.append_assoc]; rfl
        have elen : ((ds ++ [lnR L z ds.length (fI τ 1347 61)]).length : Int) = (ds.length : Int) + 1 := by rw [List.length_append]; simp
        have w := ih (ds ++ [lnR L z ds.length (fI τ 1347 61)]) τ' (by rw [List.length_append]; simp; clear k1 k2 ih; omega) hM hUC hS' (f4.trans e1) (f3.trans e2) (f1.trans e3) (f2.trans e4) (hnl'.trans elen.symm) ?_ ?_ ?_ ?_
        · refine go_X12_cards (ct := fun p => p == 53 || p == 39) 30 ?_
          simp only [oI, oL, oR, o1, lI, lL, lR, popN, catS, gv, stL, stL2, swt, cnd, spObj, List.getElem?_cons_zero, List.getElem?_cons_succ, List.getD_cons_zero, List.getD_cons_succ, List.set_cons_zero, List.set_cons_succ, List.nil_append, List.cons_append, Option.toList, Bool.or_false, Bool.false_or, Bool.or_true, Bool.true_or, Nat.reduceBEq, Nat.reduceAdd, Nat.reduceLT, Nat.reduceLeDiff, Int.reduceAdd, Int.reduceToNat, true_and, and_true, Fin.isValue, Fin.val_zero, Fin.val_one, Fin.val_two, Fin.reduceFinMk, eq_self, Int.reduceNeg, imp_self, Nat.reduceMul, Nat.le_refl, not_true_eq_false, not_false_eq_true, List.getElem?_nil, reduceCtorEq, true_or, or_true, Classical.not_not, implies_true, or_self, wI_0, wI_1, wI_m1, b2i_w, b2i_eq0, b2i_eq1, b2i_bool, nor_self, nx_pI, kd_pI, ln_pI, fI_pI, fL_pI, fR_pI, aI_pI, aL_pI, aR_pI, nx_pL, kd_pL, ln_pL, fI_pL, fL_pL, fR_pL, aI_pL, aL_pL, aR_pL, nx_pR, kd_pR, ln_pR, fI_pR, fL_pR, fR_pR, aI_pR, aL_pR, aR_pR, nx_qI, kd_qI, ln_qI, fI_qI, fL_qI, fR_qI, aI_qI, aL_qI, aR_qI, nx_qL, kd_qL, ln_qL, fI_qL, fL_qL, fR_qL, aI_qL, aL_qL, aR_qL, nx_qR, kd_qR, ln_qR, fI_qR, fL_qR, fR_qR, aI_qR, aL_qR, aR_qR, nx_mk, kd_mk, ln_mk, fI_mk, fL_mk, fR_mk, aI_mk, aL_mk, aR_mk, false_and, and_false, if_false, if_true, and_self, Int.reduceEq, Nat.reduceEqDiff, ite_self, MLay_pI, MLay_pL, MLay_qI, MLay_qL, ev_X12_cards_50, ev_X12_cards_53, ev_X12_cards_54, ev_X12_cards_57, xt_X12_cards, xf_X12_cards, us_X12_next, us_X12_readsLine, hk2, not_true_eq_false, not_false_eq_true, false_imp_iff, true_imp_iff]
          exact w
        · intro j hj
          by_cases e9 : j = 24 + (ds.length : Int)
          · rw [e9, hF, hTo]
            have := hM.code_s
            clear k1 k2 ih
            omega
          · rw [hel _ (Or.inl rfl) j e9, hel _ (Or.inr (Or.inl rfl)) j e9]; exact huL j hj
        · have hcc : fI τ 1359 61 ≤ fI τ' 1359 61 := by clear k1 k2 ih; rw [hR.1]; omega
          refine LnS.snoc (fun i x hx => ?_) ⟨hE, hLa, ?_, ?_, ?_, ?_⟩
          · have hi : i < ds.length := (List.getElem?_eq_some_iff.mp hx).1
            exact (hL i x hx).keep hcc (fun r hr => hel r hr _ (by clear k1 k2 ih; omega)) (fun j q => hR.2.1 j q)
          · rw [hF]; exact hc1
          · rw [hF, hTo, hR.1]
          · rw [hTo]; exact Int.le_refl _
          · rw [hF]; exact hR.2.2
        · rw [elen, hB]; exact k1
        · rw [elen, hB, eap]; exact k2
