/-! the class's calls: houses, companies, the book -/

def sp_X11_house : Sp := fun av σ Q => oR av fun this av => oI av fun x av => oI av fun y av => av = [] ∧ kd σ this = 12 ∧ (this = 1 ∧ CLay σ ∧ inR x ∧ inR y ∧ (0 ≤ fI σ 403 15 ∧ fI σ 403 15 ≤ 12) ∧ ((((0 ≤ x ∧ x ≤ 99) ∧ 0 ≤ y ∧ y ≤ 99) ∧ fI σ 403 15 < 12) → Q (some (vi (fI σ 403 15))) (pI (qI (qI σ 16 (fI σ 403 15) x) 17 (fI σ 403 15) y) 403 15 (fI σ 403 15 + 1))) ∧ (¬ (((0 ≤ x ∧ x ≤ 99) ∧ 0 ≤ y ∧ y ≤ 99) ∧ fI σ 403 15 < 12) → Q (some (vi (-1))) σ))
theorem us_X11_house (this : Int) (x : Int) (y : Int) (σ : Hp) (Q : Option AV → Hp → Prop) : sp_X11_house [vr this, vi x, vi y] σ Q = (kd σ this = 12 ∧ (this = 1 ∧ CLay σ ∧ inR x ∧ inR y ∧ (0 ≤ fI σ 403 15 ∧ fI σ 403 15 ≤ 12) ∧ ((((0 ≤ x ∧ x ≤ 99) ∧ 0 ≤ y ∧ y ≤ 99) ∧ fI σ 403 15 < 12) → Q (some (vi (fI σ 403 15))) (pI (qI (qI σ 16 (fI σ 403 15) x) 17 (fI σ 403 15) y) 403 15 (fI σ 403 15 + 1))) ∧ (¬ (((0 ≤ x ∧ x ≤ 99) ∧ 0 ≤ y ∧ y ≤ 99) ∧ fI σ 403 15 < 12) → Q (some (vi (-1))) σ))) := propext ⟨fun h => h.2, fun h => ⟨rfl, h⟩⟩
theorem el_X11_house {av : List AV} {σ : Hp} {Q : Option AV → Hp → Prop} (h : sp_X11_house av σ Q) : ∃ (this : Int) (x : Int) (y : Int), av = [vr this, vi x, vi y] ∧ (kd σ this = 12 ∧ (this = 1 ∧ CLay σ ∧ inR x ∧ inR y ∧ (0 ≤ fI σ 403 15 ∧ fI σ 403 15 ≤ 12) ∧ ((((0 ≤ x ∧ x ≤ 99) ∧ 0 ≤ y ∧ y ≤ 99) ∧ fI σ 403 15 < 12) → Q (some (vi (fI σ 403 15))) (pI (qI (qI σ 16 (fI σ 403 15) x) 17 (fI σ 403 15) y) 403 15 (fI σ 403 15 + 1))) ∧ (¬ (((0 ≤ x ∧ x ≤ 99) ∧ 0 ≤ y ∧ y ≤ 99) ∧ fI σ 403 15 < 12) → Q (some (vi (-1))) σ))) := by
  obtain ⟨this, a0, rfl, h0⟩ := oR_s h
  obtain ⟨x, a1, rfl, h1⟩ := oI_s h0
  obtain ⟨y, a2, rfl, h2⟩ := oI_s h1
  obtain ⟨rfl, hz⟩ := h2
  exact ⟨this, x, y, rfl, hz⟩
theorem rc_X11_house : ∀ (av : List AV) (σ : Hp) (Q : Option AV → Hp → Prop), sp_X11_house av σ Q → ∃ r tl, av = vr r :: tl ∧ kd σ r = 11 + 1 := fun av σ Q h => by
  obtain ⟨this, x, y, rfl, hz, -⟩ := el_X11_house h
  exact ⟨this, _, rfl, hz⟩

def tb_X11_house : Tab := [(0, .iload_n 1, 1, (0, 0, 0, 0)), (1, .iload_n 2, 1, (0, 0, 0, 0)), (2, .invokestatic 93, 3, (0, 0, 0, 0)), (5, .ifCond .eq 15, 3, (0, 0, 0, 0)), (8, .aload_n 0, 1, (0, 0, 0, 0)), (9, .getfield 38, 3, (12, 1204, 2, 0)), (12, .iload_n 1, 1, (0, 0, 0, 0)), (13, .iload_n 2, 1, (0, 0, 0, 0)), (14, .invokevirtual 168, 3, (0, 0, 0, 0)), (17, .goto 4, 3, (0, 0, 0, 0)), (20, .iconst (-1), 1, (0, 0, 0, 0)), (21, .ireturn, 1, (0, 0, 0, 0))]
set_option maxRecDepth 100000 in
theorem tk_X11_house : TOK RX11 false cX11_house tb_X11_house := chkT_ok ft_X11 (by decide +kernel)
theorem rw_X11_1344 : Row RX11 (.invokevirtual 168) 3 3 0 0 1 sp_X3_addHouse := row_V (n := 2) (ci := 3) c_X3_addHouse ⟨TBL_in 844 (by decide +kernel) rfl, TBL_in 847 (by decide +kernel) rfl, TBL_in 117 (by decide +kernel) rfl, by decide +kernel, by decide⟩ (by decide) rfl (TBL_in 845 (by decide +kernel) rfl) (TBL_in 846 (by decide +kernel) rfl) rc_X3_addHouse
def mt_X11_house : List (Nat × Mt) := [(745, 2, 0, 0, 1, sp_X11_isPlace), (1344, 3, 0, 0, 1, sp_X3_addHouse)]
theorem em_X11_house : mt_X11_house.lookup 745 = some (2, 0, 0, 1, sp_X11_isPlace) ∧ mt_X11_house.lookup 1344 = some (3, 0, 0, 1, sp_X3_addHouse) := ⟨rfl, rfl⟩
theorem mk_X11_house : MOK RX11 mt_X11_house := by
  intro q hq
  simp only [mt_X11_house, List.mem_cons, List.not_mem_nil, or_false] at hq
  rcases hq with rfl | rfl
  · exact rw_X11_745
  · exact rw_X11_1344
noncomputable def xe_X11_house (ct : Nat → Bool) (K : Kt) (R : Option AV → Hp → Prop) (n : Nat) : Kt := exS 3 2 0 0 1 tb_X11_house mt_X11_house ct K R n
noncomputable def xk_X11_house (ct : Nat → Bool) (K : Kt) (R : Option AV → Hp → Prop) (n : Nat) : Kt := exkS 3 2 0 0 1 tb_X11_house mt_X11_house ct K R n
theorem xt_X11_house {ct : Nat → Bool} {K : Kt} {R : Option AV → Hp → Prop} {n pc : Nat} {ls : List (Option AV)} {st : List AV} {σ : Hp} {k : Nat × Nat} (h : ct pc = true) : xk_X11_house ct K R n pc ls st σ k = K pc ls st σ k := by unfold xk_X11_house exkS; rw [h]
theorem xf_X11_house {ct : Nat → Bool} {K : Kt} {R : Option AV → Hp → Prop} {n pc : Nat} {ls : List (Option AV)} {st : List AV} {σ : Hp} {k : Nat × Nat} (h : ct pc = false) : xk_X11_house ct K R n pc ls st σ k = xe_X11_house ct K R n pc ls st σ k := by unfold xk_X11_house exkS xe_X11_house; rw [h]
theorem ev_X11_house_0 {ct : Nat → Bool} {K : Kt} {R : Option AV → Hp → Prop} {n : Nat} {ls : List (Option AV)} {st : List AV} {σ : Hp} {k : Nat × Nat} : xe_X11_house ct K R (n + 1) 0 ls st σ k = (lI ls 1 fun x => xk_X11_house ct K R n 1 ls (vi x :: st) σ k) := exS_step.trans rfl
theorem ev_X11_house_1 {ct : Nat → Bool} {K : Kt} {R : Option AV → Hp → Prop} {n : Nat} {ls : List (Option AV)} {st : List AV} {σ : Hp} {k : Nat × Nat} : xe_X11_house ct K R (n + 1) 1 ls st σ k = (lI ls 2 fun x => xk_X11_house ct K R n 2 ls (vi x :: st) σ k) := exS_step.trans rfl
theorem ev_X11_house_2 {ct : Nat → Bool} {K : Kt} {R : Option AV → Hp → Prop} {n : Nat} {ls : List (Option AV)} {st : List AV} {σ : Hp} {k : Nat × Nat} : xe_X11_house ct K R (n + 1) 2 ls st σ k = (popN 2 st [] fun av rest => (catS rest ≤ 8 ∧ 1 < 2 ∧ k.1 + 0 ≤ 0 ∧ k.2 + 0 ≤ 0) ∧ (sp_X11_isPlace) av σ fun v σ' => xk_X11_house ct K R n 5 ls (v.toList ++ rest) σ' (k.1 + 0, k.2 + 0)) := exS_step.trans rfl
theorem ev_X11_house_5 {ct : Nat → Bool} {K : Kt} {R : Option AV → Hp → Prop} {n : Nat} {ls : List (Option AV)} {st : List AV} {σ : Hp} {k : Nat × Nat} : xe_X11_house ct K R (n + 1) 5 ls st σ k = (oI st fun x st => (wI x = wI 0 → xk_X11_house ct K R n 20 ls st σ k) ∧ (¬ (wI x = wI 0) → xk_X11_house ct K R n 8 ls st σ k)) := exS_step.trans rfl
theorem ev_X11_house_8 {ct : Nat → Bool} {K : Kt} {R : Option AV → Hp → Prop} {n : Nat} {ls : List (Option AV)} {st : List AV} {σ : Hp} {k : Nat × Nat} : xe_X11_house ct K R (n + 1) 8 ls st σ k = (lR ls 0 fun x => xk_X11_house ct K R n 9 ls (vr x :: st) σ k) := exS_step.trans rfl
theorem ev_X11_house_9 {ct : Nat → Bool} {K : Kt} {R : Option AV → Hp → Prop} {n : Nat} {ls : List (Option AV)} {st : List AV} {σ : Hp} {k : Nat × Nat} : xe_X11_house ct K R (n + 1) 9 ls st σ k = (oR st fun x st => kd σ x = 12 ∧ xk_X11_house ct K R n 12 ls (vr (fR σ 1204 x) :: st) σ k) := exS_step.trans rfl
theorem ev_X11_house_12 {ct : Nat → Bool} {K : Kt} {R : Option AV → Hp → Prop} {n : Nat} {ls : List (Option AV)} {st : List AV} {σ : Hp} {k : Nat × Nat} : xe_X11_house ct K R (n + 1) 12 ls st σ k = (lI ls 1 fun x => xk_X11_house ct K R n 13 ls (vi x :: st) σ k) := exS_step.trans rfl
theorem ev_X11_house_13 {ct : Nat → Bool} {K : Kt} {R : Option AV → Hp → Prop} {n : Nat} {ls : List (Option AV)} {st : List AV} {σ : Hp} {k : Nat × Nat} : xe_X11_house ct K R (n + 1) 13 ls st σ k = (lI ls 2 fun x => xk_X11_house ct K R n 14 ls (vi x :: st) σ k) := exS_step.trans rfl
theorem ev_X11_house_14 {ct : Nat → Bool} {K : Kt} {R : Option AV → Hp → Prop} {n : Nat} {ls : List (Option AV)} {st : List AV} {σ : Hp} {k : Nat × Nat} : xe_X11_house ct K R (n + 1) 14 ls st σ k = (popN 3 st [] fun av rest => (catS rest ≤ 8 ∧ 1 < 2 ∧ k.1 + 0 ≤ 0 ∧ k.2 + 0 ≤ 0) ∧ (sp_X3_addHouse) av σ fun v σ' => xk_X11_house ct K R n 17 ls (v.toList ++ rest) σ' (k.1 + 0, k.2 + 0)) := exS_step.trans rfl
theorem ev_X11_house_17 {ct : Nat → Bool} {K : Kt} {R : Option AV → Hp → Prop} {n : Nat} {ls : List (Option AV)} {st : List AV} {σ : Hp} {k : Nat × Nat} : xe_X11_house ct K R (n + 1) 17 ls st σ k = (xk_X11_house ct K R n 21 ls st σ k) := exS_step.trans rfl
theorem ev_X11_house_20 {ct : Nat → Bool} {K : Kt} {R : Option AV → Hp → Prop} {n : Nat} {ls : List (Option AV)} {st : List AV} {σ : Hp} {k : Nat × Nat} : xe_X11_house ct K R (n + 1) 20 ls st σ k = (xk_X11_house ct K R n 21 ls (vi (-1) :: st) σ k) := exS_step.trans rfl
theorem ev_X11_house_21 {ct : Nat → Bool} {K : Kt} {R : Option AV → Hp → Prop} {n : Nat} {ls : List (Option AV)} {st : List AV} {σ : Hp} {k : Nat × Nat} : xe_X11_house ct K R (n + 1) 21 ls st σ k = (oI st fun x st => st = [] ∧ True ∧ R (some (vi x)) σ) := exS_step.trans rfl
def M_X11_house : Md := (yX11_house, cX11_house, 3, (some FieldType.int), 2, 0, 0, 1, false, tb_X11_house, mt_X11_house)
theorem mm_X11_house : MMOK M_X11_house := ⟨by decide +kernel, tk_X11_house, mk_X11_house, rfl, fun h => by cases h⟩
theorem go_X11_house {Q : Option AV → Hp → Prop} {ct : Nat → Bool} {pc : Nat} {ls : List (Option AV)} {st : List AV} {σ : Hp} {k : Nat × Nat} (n : Nat) (h : xe_X11_house ct (Go M_X11_house Q) Q n pc ls st σ k) : Go M_X11_house Q pc ls st σ k := Go.exS mm_X11_house h

set_option maxRecDepth 20000 in
theorem c_X11_house : Ct yX11_house cX11_house 3 ((some FieldType.int)) 2 0 0 sp_X11_house := by
  refine Ct.go (M := M_X11_house) mm_X11_house fun av σ Q h0 => ?_
  obtain ⟨this, x, y, rfl, hk, h⟩ := el_X11_house h0
  clear h0
  refine ⟨Nat.le_of_ble_eq_true rfl, ?_⟩
  show Go M_X11_house Q 0 [some (vr this), some (vi x), some (vi y)] [] σ (0, 0)
  obtain ⟨rfl, hC, hx, hy, hh, h1, h2⟩ := h
  by_cases c : (0 ≤ x ∧ x ≤ 99) ∧ 0 ≤ y ∧ y ≤ 99
  · by_cases c2 : fI σ 403 15 < 12
    · have h1 := h1 ⟨c, c2⟩
      have c3 : ¬ fI σ 403 15 = 12 := by omega
      clear h2
      refine go_X11_house (ct := fun p => p == 20) 40 ?_
      simp only [oI, oL, oR, o1, lI, lL, lR, popN, catS, gv, stL, stL2, swt, cnd, spObj, List.getElem?_cons_zero, List.getElem?_cons_succ, List.getD_cons_zero, List.getD_cons_succ, List.set_cons_zero, List.set_cons_succ, List.nil_append, List.cons_append, Option.toList, Bool.or_false, Bool.false_or, Bool.or_true, Bool.true_or, Nat.reduceBEq, Nat.reduceAdd, Nat.reduceLT, Nat.reduceLeDiff, Int.reduceAdd, Int.reduceToNat, true_and, and_true, Fin.isValue, Fin.val_zero, Fin.val_one, Fin.val_two, Fin.reduceFinMk, eq_self, Int.reduceNeg, imp_self, Nat.reduceMul, Nat.le_refl, not_true_eq_false, not_false_eq_true, List.getElem?_nil, reduceCtorEq, true_or, or_true, Classical.not_not, implies_true, or_self, wI_0, wI_1, wI_m1, b2i_w, b2i_eq0, b2i_eq1, b2i_bool, nor_self, nx_pI, kd_pI, ln_pI, fI_pI, fL_pI, fR_pI, aI_pI, aL_pI, aR_pI, nx_pL, kd_pL, ln_pL, fI_pL, fL_pL, fR_pL, aI_pL, aL_pL, aR_pL, nx_pR, kd_pR, ln_pR, fI_pR, fL_pR, fR_pR, aI_pR, aL_pR, aR_pR, nx_qI, kd_qI, ln_qI, fI_qI, fL_qI, fR_qI, aI_qI, aL_qI, aR_qI, nx_qL, kd_qL, ln_qL, fI_qL, fL_qL, fR_qL, aI_qL, aL_qL, aR_qL, nx_qR, kd_qR, ln_qR, fI_qR, fL_qR, fR_qR, aI_qR, aL_qR, aR_qR, nx_mk, kd_mk, ln_mk, fI_mk, fL_mk, fR_mk, aI_mk, aL_mk, aR_mk, false_and, and_false, if_false, if_true, and_self, Int.reduceEq, Nat.reduceEqDiff, ite_self, MLay_pI, MLay_pL, MLay_qI, MLay_qL, ev_X11_house_0, ev_X11_house_1, ev_X11_house_2, ev_X11_house_5, ev_X11_house_8, ev_X11_house_9, ev_X11_house_12, ev_X11_house_13, ev_X11_house_14, ev_X11_house_17, ev_X11_house_20, ev_X11_house_21, xt_X11_house, xf_X11_house, us_X11_isPlace, us_X3_addHouse, hC, hC.eqs, hx, hy, hh, c, c2, c3]
      repeat' (first | intro z | apply And.intro)
      all_goals try omega
      all_goals try contradiction
      all_goals exact h1
    · have h2 := h2 (fun z => c2 z.2)
      have c3 : fI σ 403 15 = 12 := by omega
      clear h1
      refine go_X11_house (ct := fun p => p == 20) 40 ?_
      simp only [oI, oL, oR, o1, lI, lL, lR, popN, catS, gv, stL, stL2, swt, cnd, spObj, List.getElem?_cons_zero, List.getElem?_cons_succ, List.getD_cons_zero, List.getD_cons_succ, List.set_cons_zero, List.set_cons_succ, List.nil_append, List.cons_append, Option.toList, Bool.or_false, Bool.false_or, Bool.or_true, Bool.true_or, Nat.reduceBEq, Nat.reduceAdd, Nat.reduceLT, Nat.reduceLeDiff, Int.reduceAdd, Int.reduceToNat, true_and, and_true, Fin.isValue, Fin.val_zero, Fin.val_one, Fin.val_two, Fin.reduceFinMk, eq_self, Int.reduceNeg, imp_self, Nat.reduceMul, Nat.le_refl, not_true_eq_false, not_false_eq_true, List.getElem?_nil, reduceCtorEq, true_or, or_true, Classical.not_not, implies_true, or_self, wI_0, wI_1, wI_m1, b2i_w, b2i_eq0, b2i_eq1, b2i_bool, nor_self, nx_pI, kd_pI, ln_pI, fI_pI, fL_pI, fR_pI, aI_pI, aL_pI, aR_pI, nx_pL, kd_pL, ln_pL, fI_pL, fL_pL, fR_pL, aI_pL, aL_pL, aR_pL, nx_pR, kd_pR, ln_pR, fI_pR, fL_pR, fR_pR, aI_pR, aL_pR, aR_pR, nx_qI, kd_qI, ln_qI, fI_qI, fL_qI, fR_qI, aI_qI, aL_qI, aR_qI, nx_qL, kd_qL, ln_qL, fI_qL, fL_qL, fR_qL, aI_qL, aL_qL, aR_qL, nx_qR, kd_qR, ln_qR, fI_qR, fL_qR, fR_qR, aI_qR, aL_qR, aR_qR, nx_mk, kd_mk, ln_mk, fI_mk, fL_mk, fR_mk, aI_mk, aL_mk, aR_mk, false_and, and_false, if_false, if_true, and_self, Int.reduceEq, Nat.reduceEqDiff, ite_self, MLay_pI, MLay_pL, MLay_qI, MLay_qL, ev_X11_house_0, ev_X11_house_1, ev_X11_house_2, ev_X11_house_5, ev_X11_house_8, ev_X11_house_9, ev_X11_house_12, ev_X11_house_13, ev_X11_house_14, ev_X11_house_17, ev_X11_house_20, ev_X11_house_21, xt_X11_house, xf_X11_house, us_X11_isPlace, us_X3_addHouse, hC, hC.eqs, hx, hy, hh, c, c2]
      repeat' (first | intro z | apply And.intro)
      all_goals try omega
      all_goals try contradiction
      all_goals exact h2
  · have h2 := h2 (fun z => c z.1)
    clear h1
    refine go_X11_house (ct := fun p => p == 8) 40 ?_
    simp only [oI, oL, oR, o1, lI, lL, lR, popN, catS, gv, stL, stL2, swt, cnd, spObj, List.getElem?_cons_zero, List.getElem?_cons_succ, List.getD_cons_zero, List.getD_cons_succ, List.set_cons_zero, List.set_cons_succ, List.nil_append, List.cons_append, Option.toList, Bool.or_false, Bool.false_or, Bool.or_true, Bool.true_or, Nat.reduceBEq, Nat.reduceAdd, Nat.reduceLT, Nat.reduceLeDiff, Int.reduceAdd, Int.reduceToNat, true_and, and_true, Fin.isValue, Fin.val_zero, Fin.val_one, Fin.val_two, Fin.reduceFinMk, eq_self, Int.reduceNeg, imp_self, Nat.reduceMul, Nat.le_refl, not_true_eq_false, not_false_eq_true, List.getElem?_nil, reduceCtorEq, true_or, or_true, Classical.not_not, implies_true, or_self, wI_0, wI_1, wI_m1, b2i_w, b2i_eq0, b2i_eq1, b2i_bool, nor_self, nx_pI, kd_pI, ln_pI, fI_pI, fL_pI, fR_pI, aI_pI, aL_pI, aR_pI, nx_pL, kd_pL, ln_pL, fI_pL, fL_pL, fR_pL, aI_pL, aL_pL, aR_pL, nx_pR, kd_pR, ln_pR, fI_pR, fL_pR, fR_pR, aI_pR, aL_pR, aR_pR, nx_qI, kd_qI, ln_qI, fI_qI, fL_qI, fR_qI, aI_qI, aL_qI, aR_qI, nx_qL, kd_qL, ln_qL, fI_qL, fL_qL, fR_qL, aI_qL, aL_qL, aR_qL, nx_qR, kd_qR, ln_qR, fI_qR, fL_qR, fR_qR, aI_qR, aL_qR, aR_qR, nx_mk, kd_mk, ln_mk, fI_mk, fL_mk, fR_mk, aI_mk, aL_mk, aR_mk, false_and, and_false, if_false, if_true, and_self, Int.reduceEq, Nat.reduceEqDiff, ite_self, MLay_pI, MLay_pL, MLay_qI, MLay_qL, ev_X11_house_0, ev_X11_house_1, ev_X11_house_2, ev_X11_house_5, ev_X11_house_8, ev_X11_house_9, ev_X11_house_12, ev_X11_house_13, ev_X11_house_14, ev_X11_house_17, ev_X11_house_20, ev_X11_house_21, xt_X11_house, xf_X11_house, us_X11_isPlace, us_X3_addHouse, hC, hC.eqs, hx, hy, c]
    repeat' (first | intro z | apply And.intro)
    all_goals try omega
    all_goals try contradiction
    all_goals exact h2
/-! a company more: made at p, put behind the others -/

def cCo (σ : Hp) (kn hm : Int) : Hp := pI (pI (pI (pI (pI (mk σ 6 0) 603 (nx σ) 0) 604 (nx σ) 0) 600 (nx σ) kn) 601 (nx σ) hm) 602 (nx σ) hm

def sp_X3_addCompany : Sp := fun av σ Q => oR av fun this av => oI av fun kn av => oI av fun hm av => av = [] ∧ kd σ this = 4 ∧ (this = 15 ∧ CLay σ ∧ LOk σ 18 5 ∧ inR hm ∧ (0 ≤ fI σ 403 15 ∧ fI σ 403 15 ≤ 12) ∧ (((0 ≤ hm ∧ hm < fI σ 403 15) ∧ fI σ 1402 18 < 20) → ∀ σ', Added (cCo σ kn hm) 18 (nx σ) σ' → LOk σ' 18 5 → Q (some (vi (fI σ 1402 18))) σ') ∧ (¬ ((0 ≤ hm ∧ hm < fI σ 403 15) ∧ fI σ 1402 18 < 20) → Q (some (vi (-1))) σ))
theorem us_X3_addCompany (this : Int) (kn : Int) (hm : Int) (σ : Hp) (Q : Option AV → Hp → Prop) : sp_X3_addCompany [vr this, vi kn, vi hm] σ Q = (kd σ this = 4 ∧ (this = 15 ∧ CLay σ ∧ LOk σ 18 5 ∧ inR hm ∧ (0 ≤ fI σ 403 15 ∧ fI σ 403 15 ≤ 12) ∧ (((0 ≤ hm ∧ hm < fI σ 403 15) ∧ fI σ 1402 18 < 20) → ∀ σ', Added (cCo σ kn hm) 18 (nx σ) σ' → LOk σ' 18 5 → Q (some (vi (fI σ 1402 18))) σ') ∧ (¬ ((0 ≤ hm ∧ hm < fI σ 403 15) ∧ fI σ 1402 18 < 20) → Q (some (vi (-1))) σ))) := propext ⟨fun h => h.2, fun h => ⟨rfl, h⟩⟩
theorem el_X3_addCompany {av : List AV} {σ : Hp} {Q : Option AV → Hp → Prop} (h : sp_X3_addCompany av σ Q) : ∃ (this : Int) (kn : Int) (hm : Int), av = [vr this, vi kn, vi hm] ∧ (kd σ this = 4 ∧ (this = 15 ∧ CLay σ ∧ LOk σ 18 5 ∧ inR hm ∧ (0 ≤ fI σ 403 15 ∧ fI σ 403 15 ≤ 12) ∧ (((0 ≤ hm ∧ hm < fI σ 403 15) ∧ fI σ 1402 18 < 20) → ∀ σ', Added (cCo σ kn hm) 18 (nx σ) σ' → LOk σ' 18 5 → Q (some (vi (fI σ 1402 18))) σ') ∧ (¬ ((0 ≤ hm ∧ hm < fI σ 403 15) ∧ fI σ 1402 18 < 20) → Q (some (vi (-1))) σ))) := by
  obtain ⟨this, a0, rfl, h0⟩ := oR_s h
  obtain ⟨kn, a1, rfl, h1⟩ := oI_s h0
  obtain ⟨hm, a2, rfl, h2⟩ := oI_s h1
  obtain ⟨rfl, hz⟩ := h2
  exact ⟨this, kn, hm, rfl, hz⟩
theorem rc_X3_addCompany : ∀ (av : List AV) (σ : Hp) (Q : Option AV → Hp → Prop), sp_X3_addCompany av σ Q → ∃ r tl, av = vr r :: tl ∧ kd σ r = 3 + 1 := fun av σ Q h => by
  obtain ⟨this, kn, hm, rfl, hz, -⟩ := el_X3_addCompany h
  exact ⟨this, _, rfl, hz⟩

def tb_X3_addCompany : Tab := [(0, .iload_n 2, 1, (0, 0, 0, 0)), (1, .ifCond .lt 23, 3, (0, 0, 0, 0)), (4, .iload_n 2, 1, (0, 0, 0, 0)), (5, .aload_n 0, 1, (0, 0, 0, 0)), (6, .getfield 25, 3, (4, 403, 0, 0)), (9, .if_icmp .ge 15, 3, (0, 0, 0, 0)), (12, .aload_n 0, 1, (0, 0, 0, 0)), (13, .getfield 21, 3, (4, 402, 2, 0)), (16, .invokevirtual 35, 3, (0, 0, 0, 0)), (19, .bipush 20, 2, (0, 0, 0, 0)), (21, .if_icmp .lt 5, 3, (0, 0, 0, 0)), (24, .iconst (-1), 1, (0, 0, 0, 0)), (25, .ireturn, 1, (0, 0, 0, 0)), (26, .aload_n 0, 1, (0, 0, 0, 0)), (27, .getfield 21, 3, (4, 402, 2, 0)), (30, .new 39, 3, (6, 5, 0, 0)), (33, .dup, 1, (0, 0, 0, 0)), (34, .iload_n 1, 1, (0, 0, 0, 0)), (35, .iload_n 2, 1, (0, 0, 0, 0)), (36, .invokespecial 41, 3, (0, 0, 0, 0)), (39, .invokevirtual 44, 3, (0, 0, 0, 0)), (42, .pop, 1, (0, 0, 0, 0)), (43, .aload_n 0, 1, (0, 0, 0, 0)), (44, .getfield 21, 3, (4, 402, 2, 0)), (47, .invokevirtual 35, 3, (0, 0, 0, 0)), (50, .iconst 1, 1, (0, 0, 0, 0)), (51, .isub, 1, (0, 0, 0, 0)), (52, .ireturn, 1, (0, 0, 0, 0))]
set_option maxRecDepth 100000 in
theorem tk_X3_addCompany : TOK RX3 false cX3_addCompany tb_X3_addCompany := chkT_ok ft_X3 (by decide +kernel)
theorem rw_X3_330 : Row RX3 (.invokespecial 41) 3 3 0 0 1 sp_X5_init := row_I (n := 2) c_X5_init ⟨TBL_in 859 (by decide +kernel) rfl, TBL_in 861 (by decide +kernel) rfl, TBL_in 132 (by decide +kernel) rfl, by decide +kernel, by decide⟩ (TBL_in 860 (by decide +kernel) rfl) rfl (rcn_X5_init)
theorem rw_X3_352 : Row RX3 (.invokevirtual 44) 3 2 1 150 7 sp_Jx4a65c_add_9ea2d := row_V (n := 1) (ci := 13) c_Jx4a65c_add_9ea2d ⟨TBL_in 887 (by decide +kernel) rfl, TBL_in 634 (by decide +kernel) rfl, TBL_in 115 (by decide +kernel) rfl, by decide +kernel, by decide⟩ (by decide) rfl (TBL_in 632 (by decide +kernel) rfl) (TBL_in 633 (by decide +kernel) rfl) rc_Jx4a65c_add_9ea2d
def mt_X3_addCompany : List (Nat × Mt) := [(280, 1, 0, 0, 1, sp_Jx4a65c_size_8abf5), (330, 3, 0, 0, 1, sp_X5_init), (352, 2, 1, 150, 7, sp_Jx4a65c_add_9ea2d)]
theorem em_X3_addCompany : mt_X3_addCompany.lookup 280 = some (1, 0, 0, 1, sp_Jx4a65c_size_8abf5) ∧ mt_X3_addCompany.lookup 330 = some (3, 0, 0, 1, sp_X5_init) ∧ mt_X3_addCompany.lookup 352 = some (2, 1, 150, 7, sp_Jx4a65c_add_9ea2d) := ⟨rfl, rfl, rfl⟩
theorem mk_X3_addCompany : MOK RX3 mt_X3_addCompany := by
  intro q hq
  simp only [mt_X3_addCompany, List.mem_cons, List.not_mem_nil, or_false] at hq
  rcases hq with rfl | rfl | rfl
  · exact rw_X3_280
  · exact rw_X3_330
  · exact rw_X3_352
noncomputable def xe_X3_addCompany (ct : Nat → Bool) (K : Kt) (R : Option AV → Hp → Prop) (n : Nat) : Kt := exS 3 8 2 155 1 tb_X3_addCompany mt_X3_addCompany ct K R n
noncomputable def xk_X3_addCompany (ct : Nat → Bool) (K : Kt) (R : Option AV → Hp → Prop) (n : Nat) : Kt := exkS 3 8 2 155 1 tb_X3_addCompany mt_X3_addCompany ct K R n
theorem xt_X3_addCompany {ct : Nat → Bool} {K : Kt} {R : Option AV → Hp → Prop} {n pc : Nat} {ls : List (Option AV)} {st : List AV} {σ : Hp} {k : Nat × Nat} (h : ct pc = true) : xk_X3_addCompany ct K R n pc ls st σ k = K pc ls st σ k := by unfold xk_X3_addCompany exkS; rw [h]
theorem xf_X3_addCompany {ct : Nat → Bool} {K : Kt} {R : Option AV → Hp → Prop} {n pc : Nat} {ls : List (Option AV)} {st : List AV} {σ : Hp} {k : Nat × Nat} (h : ct pc = false) : xk_X3_addCompany ct K R n pc ls st σ k = xe_X3_addCompany ct K R n pc ls st σ k := by unfold xk_X3_addCompany exkS xe_X3_addCompany; rw [h]
theorem ev_X3_addCompany_0 {ct : Nat → Bool} {K : Kt} {R : Option AV → Hp → Prop} {n : Nat} {ls : List (Option AV)} {st : List AV} {σ : Hp} {k : Nat × Nat} : xe_X3_addCompany ct K R (n + 1) 0 ls st σ k = (lI ls 2 fun x => xk_X3_addCompany ct K R n 1 ls (vi x :: st) σ k) := exS_step.trans rfl
theorem ev_X3_addCompany_1 {ct : Nat → Bool} {K : Kt} {R : Option AV → Hp → Prop} {n : Nat} {ls : List (Option AV)} {st : List AV} {σ : Hp} {k : Nat × Nat} : xe_X3_addCompany ct K R (n + 1) 1 ls st σ k = (oI st fun x st => (wI x < wI 0 → xk_X3_addCompany ct K R n 24 ls st σ k) ∧ (¬ (wI x < wI 0) → xk_X3_addCompany ct K R n 4 ls st σ k)) := exS_step.trans rfl
theorem ev_X3_addCompany_4 {ct : Nat → Bool} {K : Kt} {R : Option AV → Hp → Prop} {n : Nat} {ls : List (Option AV)} {st : List AV} {σ : Hp} {k : Nat × Nat} : xe_X3_addCompany ct K R (n + 1) 4 ls st σ k = (lI ls 2 fun x => xk_X3_addCompany ct K R n 5 ls (vi x :: st) σ k) := exS_step.trans rfl
theorem ev_X3_addCompany_5 {ct : Nat → Bool} {K : Kt} {R : Option AV → Hp → Prop} {n : Nat} {ls : List (Option AV)} {st : List AV} {σ : Hp} {k : Nat × Nat} : xe_X3_addCompany ct K R (n + 1) 5 ls st σ k = (lR ls 0 fun x => xk_X3_addCompany ct K R n 6 ls (vr x :: st) σ k) := exS_step.trans rfl
theorem ev_X3_addCompany_6 {ct : Nat → Bool} {K : Kt} {R : Option AV → Hp → Prop} {n : Nat} {ls : List (Option AV)} {st : List AV} {σ : Hp} {k : Nat × Nat} : xe_X3_addCompany ct K R (n + 1) 6 ls st σ k = (oR st fun x st => kd σ x = 4 ∧ xk_X3_addCompany ct K R n 9 ls (vi (fI σ 403 x) :: st) σ k) := exS_step.trans rfl
theorem ev_X3_addCompany_9 {ct : Nat → Bool} {K : Kt} {R : Option AV → Hp → Prop} {n : Nat} {ls : List (Option AV)} {st : List AV} {σ : Hp} {k : Nat × Nat} : xe_X3_addCompany ct K R (n + 1) 9 ls st σ k = (oI st fun y st => oI st fun x st => (wI y ≤ wI x → xk_X3_addCompany ct K R n 24 ls st σ k) ∧ (¬ (wI y ≤ wI x) → xk_X3_addCompany ct K R n 12 ls st σ k)) := exS_step.trans rfl
theorem ev_X3_addCompany_12 {ct : Nat → Bool} {K : Kt} {R : Option AV → Hp → Prop} {n : Nat} {ls : List (Option AV)} {st : List AV} {σ : Hp} {k : Nat × Nat} : xe_X3_addCompany ct K R (n + 1) 12 ls st σ k = (lR ls 0 fun x => xk_X3_addCompany ct K R n 13 ls (vr x :: st) σ k) := exS_step.trans rfl
theorem ev_X3_addCompany_13 {ct : Nat → Bool} {K : Kt} {R : Option AV → Hp → Prop} {n : Nat} {ls : List (Option AV)} {st : List AV} {σ : Hp} {k : Nat × Nat} : xe_X3_addCompany ct K R (n + 1) 13 ls st σ k = (oR st fun x st => kd σ x = 4 ∧ xk_X3_addCompany ct K R n 16 ls (vr (fR σ 402 x) :: st) σ k) := exS_step.trans rfl
theorem ev_X3_addCompany_16 {ct : Nat → Bool} {K : Kt} {R : Option AV → Hp → Prop} {n : Nat} {ls : List (Option AV)} {st : List AV} {σ : Hp} {k : Nat × Nat} : xe_X3_addCompany ct K R (n + 1) 16 ls st σ k = (popN 1 st [] fun av rest => (catS rest ≤ 8 ∧ 1 < 8 ∧ k.1 + 0 ≤ 2 ∧ k.2 + 0 ≤ 155) ∧ (sp_Jx4a65c_size_8abf5) av σ fun v σ' => xk_X3_addCompany ct K R n 19 ls (v.toList ++ rest) σ' (k.1 + 0, k.2 + 0)) := exS_step.trans rfl
theorem ev_X3_addCompany_19 {ct : Nat → Bool} {K : Kt} {R : Option AV → Hp → Prop} {n : Nat} {ls : List (Option AV)} {st : List AV} {σ : Hp} {k : Nat × Nat} : xe_X3_addCompany ct K R (n + 1) 19 ls st σ k = (xk_X3_addCompany ct K R n 21 ls (vi (20) :: st) σ k) := exS_step.trans rfl
theorem ev_X3_addCompany_21 {ct : Nat → Bool} {K : Kt} {R : Option AV → Hp → Prop} {n : Nat} {ls : List (Option AV)} {st : List AV} {σ : Hp} {k : Nat × Nat} : xe_X3_addCompany ct K R (n + 1) 21 ls st σ k = (oI st fun y st => oI st fun x st => (wI x < wI y → xk_X3_addCompany ct K R n 26 ls st σ k) ∧ (¬ (wI x < wI y) → xk_X3_addCompany ct K R n 24 ls st σ k)) := exS_step.trans rfl
theorem ev_X3_addCompany_24 {ct : Nat → Bool} {K : Kt} {R : Option AV → Hp → Prop} {n : Nat} {ls : List (Option AV)} {st : List AV} {σ : Hp} {k : Nat × Nat} : xe_X3_addCompany ct K R (n + 1) 24 ls st σ k = (xk_X3_addCompany ct K R n 25 ls (vi (-1) :: st) σ k) := exS_step.trans rfl
theorem ev_X3_addCompany_25 {ct : Nat → Bool} {K : Kt} {R : Option AV → Hp → Prop} {n : Nat} {ls : List (Option AV)} {st : List AV} {σ : Hp} {k : Nat × Nat} : xe_X3_addCompany ct K R (n + 1) 25 ls st σ k = (oI st fun x st => st = [] ∧ True ∧ R (some (vi x)) σ) := exS_step.trans rfl
theorem ev_X3_addCompany_26 {ct : Nat → Bool} {K : Kt} {R : Option AV → Hp → Prop} {n : Nat} {ls : List (Option AV)} {st : List AV} {σ : Hp} {k : Nat × Nat} : xe_X3_addCompany ct K R (n + 1) 26 ls st σ k = (lR ls 0 fun x => xk_X3_addCompany ct K R n 27 ls (vr x :: st) σ k) := exS_step.trans rfl
theorem ev_X3_addCompany_27 {ct : Nat → Bool} {K : Kt} {R : Option AV → Hp → Prop} {n : Nat} {ls : List (Option AV)} {st : List AV} {σ : Hp} {k : Nat × Nat} : xe_X3_addCompany ct K R (n + 1) 27 ls st σ k = (oR st fun x st => kd σ x = 4 ∧ xk_X3_addCompany ct K R n 30 ls (vr (fR σ 402 x) :: st) σ k) := exS_step.trans rfl
theorem ev_X3_addCompany_30 {ct : Nat → Bool} {K : Kt} {R : Option AV → Hp → Prop} {n : Nat} {ls : List (Option AV)} {st : List AV} {σ : Hp} {k : Nat × Nat} : xe_X3_addCompany ct K R (n + 1) 30 ls st σ k = ((k.1 + 1 ≤ 2 ∧ k.2 + 5 ≤ 155) ∧ xk_X3_addCompany ct K R n 33 ls (vr (nx σ) :: st) (mk σ 6 0) (k.1 + 1, k.2 + 5)) := exS_step.trans rfl
theorem ev_X3_addCompany_33 {ct : Nat → Bool} {K : Kt} {R : Option AV → Hp → Prop} {n : Nat} {ls : List (Option AV)} {st : List AV} {σ : Hp} {k : Nat × Nat} : xe_X3_addCompany ct K R (n + 1) 33 ls st σ k = (o1 st fun v st => xk_X3_addCompany ct K R n 34 ls (v :: v :: st) σ k) := exS_step.trans rfl
theorem ev_X3_addCompany_34 {ct : Nat → Bool} {K : Kt} {R : Option AV → Hp → Prop} {n : Nat} {ls : List (Option AV)} {st : List AV} {σ : Hp} {k : Nat × Nat} : xe_X3_addCompany ct K R (n + 1) 34 ls st σ k = (lI ls 1 fun x => xk_X3_addCompany ct K R n 35 ls (vi x :: st) σ k) := exS_step.trans rfl
theorem ev_X3_addCompany_35 {ct : Nat → Bool} {K : Kt} {R : Option AV → Hp → Prop} {n : Nat} {ls : List (Option AV)} {st : List AV} {σ : Hp} {k : Nat × Nat} : xe_X3_addCompany ct K R (n + 1) 35 ls st σ k = (lI ls 2 fun x => xk_X3_addCompany ct K R n 36 ls (vi x :: st) σ k) := exS_step.trans rfl
theorem ev_X3_addCompany_36 {ct : Nat → Bool} {K : Kt} {R : Option AV → Hp → Prop} {n : Nat} {ls : List (Option AV)} {st : List AV} {σ : Hp} {k : Nat × Nat} : xe_X3_addCompany ct K R (n + 1) 36 ls st σ k = (popN 3 st [] fun av rest => (catS rest ≤ 8 ∧ 1 < 8 ∧ k.1 + 0 ≤ 2 ∧ k.2 + 0 ≤ 155) ∧ (sp_X5_init) av σ fun v σ' => xk_X3_addCompany ct K R n 39 ls (v.toList ++ rest) σ' (k.1 + 0, k.2 + 0)) := exS_step.trans rfl
theorem ev_X3_addCompany_39 {ct : Nat → Bool} {K : Kt} {R : Option AV → Hp → Prop} {n : Nat} {ls : List (Option AV)} {st : List AV} {σ : Hp} {k : Nat × Nat} : xe_X3_addCompany ct K R (n + 1) 39 ls st σ k = (popN 2 st [] fun av rest => (catS rest ≤ 8 ∧ 7 < 8 ∧ k.1 + 1 ≤ 2 ∧ k.2 + 150 ≤ 155) ∧ (sp_Jx4a65c_add_9ea2d) av σ fun v σ' => xk_X3_addCompany ct K R n 42 ls (v.toList ++ rest) σ' (k.1 + 1, k.2 + 150)) := exS_step.trans rfl
theorem ev_X3_addCompany_42 {ct : Nat → Bool} {K : Kt} {R : Option AV → Hp → Prop} {n : Nat} {ls : List (Option AV)} {st : List AV} {σ : Hp} {k : Nat × Nat} : xe_X3_addCompany ct K R (n + 1) 42 ls st σ k = (o1 st fun _ st => xk_X3_addCompany ct K R n 43 ls st σ k) := exS_step.trans rfl
theorem ev_X3_addCompany_43 {ct : Nat → Bool} {K : Kt} {R : Option AV → Hp → Prop} {n : Nat} {ls : List (Option AV)} {st : List AV} {σ : Hp} {k : Nat × Nat} : xe_X3_addCompany ct K R (n + 1) 43 ls st σ k = (lR ls 0 fun x => xk_X3_addCompany ct K R n 44 ls (vr x :: st) σ k) := exS_step.trans rfl
theorem ev_X3_addCompany_44 {ct : Nat → Bool} {K : Kt} {R : Option AV → Hp → Prop} {n : Nat} {ls : List (Option AV)} {st : List AV} {σ : Hp} {k : Nat × Nat} : xe_X3_addCompany ct K R (n + 1) 44 ls st σ k = (oR st fun x st => kd σ x = 4 ∧ xk_X3_addCompany ct K R n 47 ls (vr (fR σ 402 x) :: st) σ k) := exS_step.trans rfl
theorem ev_X3_addCompany_47 {ct : Nat → Bool} {K : Kt} {R : Option AV → Hp → Prop} {n : Nat} {ls : List (Option AV)} {st : List AV} {σ : Hp} {k : Nat × Nat} : xe_X3_addCompany ct K R (n + 1) 47 ls st σ k = (popN 1 st [] fun av rest => (catS rest ≤ 8 ∧ 1 < 8 ∧ k.1 + 0 ≤ 2 ∧ k.2 + 0 ≤ 155) ∧ (sp_Jx4a65c_size_8abf5) av σ fun v σ' => xk_X3_addCompany ct K R n 50 ls (v.toList ++ rest) σ' (k.1 + 0, k.2 + 0)) := exS_step.trans rfl
theorem ev_X3_addCompany_50 {ct : Nat → Bool} {K : Kt} {R : Option AV → Hp → Prop} {n : Nat} {ls : List (Option AV)} {st : List AV} {σ : Hp} {k : Nat × Nat} : xe_X3_addCompany ct K R (n + 1) 50 ls st σ k = (xk_X3_addCompany ct K R n 51 ls (vi (1) :: st) σ k) := exS_step.trans rfl
theorem ev_X3_addCompany_51 {ct : Nat → Bool} {K : Kt} {R : Option AV → Hp → Prop} {n : Nat} {ls : List (Option AV)} {st : List AV} {σ : Hp} {k : Nat × Nat} : xe_X3_addCompany ct K R (n + 1) 51 ls st σ k = (oI st fun y st => oI st fun x st => xk_X3_addCompany ct K R n 52 ls (vi (x - y) :: st) σ k) := exS_step.trans rfl
theorem ev_X3_addCompany_52 {ct : Nat → Bool} {K : Kt} {R : Option AV → Hp → Prop} {n : Nat} {ls : List (Option AV)} {st : List AV} {σ : Hp} {k : Nat × Nat} : xe_X3_addCompany ct K R (n + 1) 52 ls st σ k = (oI st fun x st => st = [] ∧ True ∧ R (some (vi x)) σ) := exS_step.trans rfl
def M_X3_addCompany : Md := (yX3_addCompany, cX3_addCompany, 3, (some FieldType.int), 8, 2, 155, 1, false, tb_X3_addCompany, mt_X3_addCompany)
theorem mm_X3_addCompany : MMOK M_X3_addCompany := ⟨by decide +kernel, tk_X3_addCompany, mk_X3_addCompany, rfl, fun h => by cases h⟩
theorem go_X3_addCompany {Q : Option AV → Hp → Prop} {ct : Nat → Bool} {pc : Nat} {ls : List (Option AV)} {st : List AV} {σ : Hp} {k : Nat × Nat} (n : Nat) (h : xe_X3_addCompany ct (Go M_X3_addCompany Q) Q n pc ls st σ k) : Go M_X3_addCompany Q pc ls st σ k := Go.exS mm_X3_addCompany h

set_option maxRecDepth 20000 in
theorem c_X3_addCompany : Ct yX3_addCompany cX3_addCompany 3 ((some FieldType.int)) 8 2 155 sp_X3_addCompany := by
  refine Ct.go (M := M_X3_addCompany) mm_X3_addCompany fun av σ Q h0 => ?_
  obtain ⟨this, kn, hm, rfl, hk, h⟩ := el_X3_addCompany h0
  clear h0
  refine ⟨Nat.le_of_ble_eq_true rfl, ?_⟩
  show Go M_X3_addCompany Q 0 [some (vr this), some (vi kn), some (vi hm)] [] σ (0, 0)
  obtain ⟨rfl, hC, hL, hm2, hh, h1, h2⟩ := h
  have hs := hL.2.2.1
  have hs2 := hL.2.2.2.1
  unfold inR at hm2
  by_cases c : (0 ≤ hm ∧ hm < fI σ 403 15) ∧ fI σ 1402 18 < 20
  · have h1 := h1 c
    clear h2
    refine Go.wf fun hw => ?_
    have hnx := hw.1
    have p18 := (hw.2.1 18 (by have := hL.1; omega)).2.1
    have p15 := (hw.2.1 15 (by omega)).2.1
    have b2 : ∀ k, ¬ k = nx σ → kd (cCo σ kn hm) k = kd σ k ∧ ln (cCo σ kn hm) k = ln σ k := fun k hk => by
      unfold cCo
      simp only [kd_pI, ln_pI, kd_mk, ln_mk, hk, if_false, and_self]
    have b3 : kd (cCo σ kn hm) (nx σ) = 6 := by unfold cCo; simp only [kd_pI, kd_mk, if_true]
    have bR : fR (cCo σ kn hm) = fR σ := rfl
    have bA : aR (cCo σ kn hm) = aR σ := rfl
    have bI : fI (cCo σ kn hm) 1402 = fI σ 1402 := by unfold cCo; funext j; simp only [fI_pI, fI_mk, Nat.reduceEqDiff, false_and, if_false]
    have L1 : LOk (cCo σ kn hm) 18 5 := hL.cg hw b2 (by rw [bR]) (by rw [bI]) (by rw [bA]) (by rw [bR])
    have w36 : Go M_X3_addCompany Q 39 [some (vr 15), some (vi kn), some (vi hm)] [vr (nx σ), vr 18] (cCo σ kn hm) (1, 5) := by
      have f1 : kd (cCo σ kn hm) 15 = 4 := by rw [(b2 15 (by omega)).1]; simp only [hC.eqs]
      have f2 : fR (cCo σ kn hm) 402 15 = 18 := by rw [bR]; simp only [hC.eqs]
      have s1 : ∃ ci, (ci = 0 ∨ ci = 2 ∨ ci = 5) ∧ LOk (cCo σ kn hm) 18 ci ∧ kd (cCo σ kn hm) (nx σ) = ci + 1 ∧ fI (cCo σ kn hm) 1402 18 ≤ 100 ∧ ∀ σ', Added (cCo σ kn hm) 18 (nx σ) σ' → LOk σ' 18 ci → Go M_X3_addCompany Q 42 [some (vr 15), some (vi kn), some (vi hm)] [vi 1] σ' (2, 155) := ⟨5, Or.inr (Or.inr rfl), L1, b3, by rw [bI]; omega, fun σ2 A1 M1 => by
        have h1 := h1 σ2 A1 M1
        obtain ⟨-, c2, -, c4, c5, -, c7, -⟩ := A1
        have g1 : kd σ2 15 = 4 := by
          rw [(c2 15 (by show 15 < nx σ + 1; omega)).1]; exact f1
        have g2 : fR σ2 402 15 = 18 := by rw [c7 _ _ (by omega)]; exact f2
        have g3 : fI σ2 1402 18 = fI σ 1402 18 + 1 := by rw [c5, bI]
        have g4 := M1.1
        clear L1 M1
        refine go_X3_addCompany (ct := fun p => p == 0) 20 ?_
        simp only [oI, oL, oR, o1, lI, lL, lR, popN, catS, gv, stL, stL2, swt, cnd, spObj, List.getElem?_cons_zero, List.getElem?_cons_succ, List.getD_cons_zero, List.getD_cons_succ, List.set_cons_zero, List.set_cons_succ, List.nil_append, List.cons_append, Option.toList, Bool.or_false, Bool.false_or, Bool.or_true, Bool.true_or, Nat.reduceBEq, Nat.reduceAdd, Nat.reduceLT, Nat.reduceLeDiff, Int.reduceAdd, Int.reduceToNat, true_and, and_true, Fin.isValue, Fin.val_zero, Fin.val_one, Fin.val_two, Fin.reduceFinMk, eq_self, Int.reduceNeg, imp_self, Nat.reduceMul, Nat.le_refl, not_true_eq_false, not_false_eq_true, List.getElem?_nil, reduceCtorEq, true_or, or_true, Classical.not_not, implies_true, or_self, wI_0, wI_1, wI_m1, b2i_w, b2i_eq0, b2i_eq1, b2i_bool, nor_self, nx_pI, kd_pI, ln_pI, fI_pI, fL_pI, fR_pI, aI_pI, aL_pI, aR_pI, nx_pL, kd_pL, ln_pL, fI_pL, fL_pL, fR_pL, aI_pL, aL_pL, aR_pL, nx_pR, kd_pR, ln_pR, fI_pR, fL_pR, fR_pR, aI_pR, aL_pR, aR_pR, nx_qI, kd_qI, ln_qI, fI_qI, fL_qI, fR_qI, aI_qI, aL_qI, aR_qI, nx_qL, kd_qL, ln_qL, fI_qL, fL_qL, fR_qL, aI_qL, aL_qL, aR_qL, nx_qR, kd_qR, ln_qR, fI_qR, fL_qR, fR_qR, aI_qR, aL_qR, aR_qR, nx_mk, kd_mk, ln_mk, fI_mk, fL_mk, fR_mk, aI_mk, aL_mk, aR_mk, false_and, and_false, if_false, if_true, and_self, Int.reduceEq, Nat.reduceEqDiff, ite_self, MLay_pI, MLay_pL, MLay_qI, MLay_qL, ev_X3_addCompany_42, ev_X3_addCompany_43, ev_X3_addCompany_44, ev_X3_addCompany_47, ev_X3_addCompany_50, ev_X3_addCompany_51, ev_X3_addCompany_52, xt_X3_addCompany, xf_X3_addCompany, us_Jx4a65c_size_8abf5, us_X5_init, us_Jx4a65c_add_9ea2d, g1, g2, g3, g4, Int.add_sub_cancel]
        repeat' (first | intro z | apply And.intro)
        all_goals try omega
        all_goals try contradiction
        all_goals exact h1⟩
      have g4 := L1.1
      clear h1
      refine go_X3_addCompany (ct := fun p => p == 42) 20 ?_
      simp only [oI, oL, oR, o1, lI, lL, lR, popN, catS, gv, stL, stL2, swt, cnd, spObj, List.getElem?_cons_zero, List.getElem?_cons_succ, List.getD_cons_zero, List.getD_cons_succ, List.set_cons_zero, List.set_cons_succ, List.nil_append, List.cons_append, Option.toList, Bool.or_false, Bool.false_or, Bool.or_true, Bool.true_or, Nat.reduceBEq, Nat.reduceAdd, Nat.reduceLT, Nat.reduceLeDiff, Int.reduceAdd, Int.reduceToNat, true_and, and_true, Fin.isValue, Fin.val_zero, Fin.val_one, Fin.val_two, Fin.reduceFinMk, eq_self, Int.reduceNeg, imp_self, Nat.reduceMul, Nat.le_refl, not_true_eq_false, not_false_eq_true, List.getElem?_nil, reduceCtorEq, true_or, or_true, Classical.not_not, implies_true, or_self, wI_0, wI_1, wI_m1, b2i_w, b2i_eq0, b2i_eq1, b2i_bool, nor_self, nx_pI, kd_pI, ln_pI, fI_pI, fL_pI, fR_pI, aI_pI, aL_pI, aR_pI, nx_pL, kd_pL, ln_pL, fI_pL, fL_pL, fR_pL, aI_pL, aL_pL, aR_pL, nx_pR, kd_pR, ln_pR, fI_pR, fL_pR, fR_pR, aI_pR, aL_pR, aR_pR, nx_qI, kd_qI, ln_qI, fI_qI, fL_qI, fR_qI, aI_qI, aL_qI, aR_qI, nx_qL, kd_qL, ln_qL, fI_qL, fL_qL, fR_qL, aI_qL, aL_qL, aR_qL, nx_qR, kd_qR, ln_qR, fI_qR, fL_qR, fR_qR, aI_qR, aL_qR, aR_qR, nx_mk, kd_mk, ln_mk, fI_mk, fL_mk, fR_mk, aI_mk, aL_mk, aR_mk, false_and, and_false, if_false, if_true, and_self, Int.reduceEq, Nat.reduceEqDiff, ite_self, MLay_pI, MLay_pL, MLay_qI, MLay_qL, ev_X3_addCompany_39, xt_X3_addCompany, xf_X3_addCompany, us_Jx4a65c_size_8abf5, us_X5_init, us_Jx4a65c_add_9ea2d, g4]
      repeat' (first | intro z | apply And.intro)
      all_goals try omega
      all_goals try contradiction
      all_goals exact s1
    have e15 : ¬ (15 : Int) = nx σ := by omega
    have hkk := hL.1
    clear h1 L1 hw
    unfold cCo at w36
    refine go_X3_addCompany (ct := fun p => p == 24 || p == 39) 40 ?_
    simp only [oI, oL, oR, o1, lI, lL, lR, popN, catS, gv, stL, stL2, swt, cnd, spObj, List.getElem?_cons_zero, List.getElem?_cons_succ, List.getD_cons_zero, List.getD_cons_succ, List.set_cons_zero, List.set_cons_succ, List.nil_append, List.cons_append, Option.toList, Bool.or_false, Bool.false_or, Bool.or_true, Bool.true_or, Nat.reduceBEq, Nat.reduceAdd, Nat.reduceLT, Nat.reduceLeDiff, Int.reduceAdd, Int.reduceToNat, true_and, and_true, Fin.isValue, Fin.val_zero, Fin.val_one, Fin.val_two, Fin.reduceFinMk, eq_self, Int.reduceNeg, imp_self, Nat.reduceMul, Nat.le_refl, not_true_eq_false, not_false_eq_true, List.getElem?_nil, reduceCtorEq, true_or, or_true, Classical.not_not, implies_true, or_self, wI_0, wI_1, wI_m1, b2i_w, b2i_eq0, b2i_eq1, b2i_bool, nor_self, nx_pI, kd_pI, ln_pI, fI_pI, fL_pI, fR_pI, aI_pI, aL_pI, aR_pI, nx_pL, kd_pL, ln_pL, fI_pL, fL_pL, fR_pL, aI_pL, aL_pL, aR_pL, nx_pR, kd_pR, ln_pR, fI_pR, fL_pR, fR_pR, aI_pR, aL_pR, aR_pR, nx_qI, kd_qI, ln_qI, fI_qI, fL_qI, fR_qI, aI_qI, aL_qI, aR_qI, nx_qL, kd_qL, ln_qL, fI_qL, fL_qL, fR_qL, aI_qL, aL_qL, aR_qL, nx_qR, kd_qR, ln_qR, fI_qR, fL_qR, fR_qR, aI_qR, aL_qR, aR_qR, nx_mk, kd_mk, ln_mk, fI_mk, fL_mk, fR_mk, aI_mk, aL_mk, aR_mk, false_and, and_false, if_false, if_true, and_self, Int.reduceEq, Nat.reduceEqDiff, ite_self, MLay_pI, MLay_pL, MLay_qI, MLay_qL, ev_X3_addCompany_0, ev_X3_addCompany_1, ev_X3_addCompany_4, ev_X3_addCompany_5, ev_X3_addCompany_6, ev_X3_addCompany_9, ev_X3_addCompany_12, ev_X3_addCompany_13, ev_X3_addCompany_16, ev_X3_addCompany_19, ev_X3_addCompany_21, ev_X3_addCompany_24, ev_X3_addCompany_25, ev_X3_addCompany_26, ev_X3_addCompany_27, ev_X3_addCompany_30, ev_X3_addCompany_33, ev_X3_addCompany_34, ev_X3_addCompany_35, ev_X3_addCompany_36, xt_X3_addCompany, xf_X3_addCompany, us_Jx4a65c_size_8abf5, us_X5_init, us_Jx4a65c_add_9ea2d, hC.eqs, hkk]
    try simp (disch := omega) only [wI_id, dv_nn, rm_nn]
    repeat' (first | intro z | apply And.intro)
    all_goals try omega
    all_goals try contradiction
    all_goals exact w36
  · have h2 := h2 c
    have hkk := hL.1
    clear h1
    refine go_X3_addCompany (ct := fun p => p == 26) 40 ?_
    simp only [oI, oL, oR, o1, lI, lL, lR, popN, catS, gv, stL, stL2, swt, cnd, spObj, List.getElem?_cons_zero, List.getElem?_cons_succ, List.getD_cons_zero, List.getD_cons_succ, List.set_cons_zero, List.set_cons_succ, List.nil_append, List.cons_append, Option.toList, Bool.or_false, Bool.false_or, Bool.or_true, Bool.true_or, Nat.reduceBEq, Nat.reduceAdd, Nat.reduceLT, Nat.reduceLeDiff, Int.reduceAdd, Int.reduceToNat, true_and, and_true, Fin.isValue, Fin.val_zero, Fin.val_one, Fin.val_two, Fin.reduceFinMk, eq_self, Int.reduceNeg, imp_self, Nat.reduceMul, Nat.le_refl, not_true_eq_false, not_false_eq_true, List.getElem?_nil, reduceCtorEq, true_or, or_true, Classical.not_not, implies_true, or_self, wI_0, wI_1, wI_m1, b2i_w, b2i_eq0, b2i_eq1, b2i_bool, nor_self, nx_pI, kd_pI, ln_pI, fI_pI, fL_pI, fR_pI, aI_pI, aL_pI, aR_pI, nx_pL, kd_pL, ln_pL, fI_pL, fL_pL, fR_pL, aI_pL, aL_pL, aR_pL, nx_pR, kd_pR, ln_pR, fI_pR, fL_pR, fR_pR, aI_pR, aL_pR, aR_pR, nx_qI, kd_qI, ln_qI, fI_qI, fL_qI, fR_qI, aI_qI, aL_qI, aR_qI, nx_qL, kd_qL, ln_qL, fI_qL, fL_qL, fR_qL, aI_qL, aL_qL, aR_qL, nx_qR, kd_qR, ln_qR, fI_qR, fL_qR, fR_qR, aI_qR, aL_qR, aR_qR, nx_mk, kd_mk, ln_mk, fI_mk, fL_mk, fR_mk, aI_mk, aL_mk, aR_mk, false_and, and_false, if_false, if_true, and_self, Int.reduceEq, Nat.reduceEqDiff, ite_self, MLay_pI, MLay_pL, MLay_qI, MLay_qL, ev_X3_addCompany_0, ev_X3_addCompany_1, ev_X3_addCompany_4, ev_X3_addCompany_5, ev_X3_addCompany_6, ev_X3_addCompany_9, ev_X3_addCompany_12, ev_X3_addCompany_13, ev_X3_addCompany_16, ev_X3_addCompany_19, ev_X3_addCompany_21, ev_X3_addCompany_24, ev_X3_addCompany_25, xt_X3_addCompany, xf_X3_addCompany, us_Jx4a65c_size_8abf5, us_X5_init, us_Jx4a65c_add_9ea2d, hC.eqs, hkk]
    try simp (disch := omega) only [wI_id, dv_nn, rm_nn]
    repeat' (first | intro z | apply And.intro)
    all_goals try omega
    all_goals try contradiction
    all_goals exact h2

def sp_X11_company : Sp := fun av σ Q => oR av fun this av => oI av fun kn av => oI av fun hm av => av = [] ∧ kd σ this = 12 ∧ (this = 1 ∧ CLay σ ∧ LOk σ 18 5 ∧ inR kn ∧ inR hm ∧ (0 ≤ fI σ 403 15 ∧ fI σ 403 15 ≤ 12) ∧ (((0 ≤ kn ∧ kn ≤ 1) ∧ (0 ≤ hm ∧ hm < fI σ 403 15) ∧ fI σ 1402 18 < 20) → ∀ σ', Added (cCo σ kn hm) 18 (nx σ) σ' → LOk σ' 18 5 → Q (some (vi (fI σ 1402 18))) σ') ∧ (¬ ((0 ≤ kn ∧ kn ≤ 1) ∧ (0 ≤ hm ∧ hm < fI σ 403 15) ∧ fI σ 1402 18 < 20) → Q (some (vi (-1))) σ))
theorem us_X11_company (this : Int) (kn : Int) (hm : Int) (σ : Hp) (Q : Option AV → Hp → Prop) : sp_X11_company [vr this, vi kn, vi hm] σ Q = (kd σ this = 12 ∧ (this = 1 ∧ CLay σ ∧ LOk σ 18 5 ∧ inR kn ∧ inR hm ∧ (0 ≤ fI σ 403 15 ∧ fI σ 403 15 ≤ 12) ∧ (((0 ≤ kn ∧ kn ≤ 1) ∧ (0 ≤ hm ∧ hm < fI σ 403 15) ∧ fI σ 1402 18 < 20) → ∀ σ', Added (cCo σ kn hm) 18 (nx σ) σ' → LOk σ' 18 5 → Q (some (vi (fI σ 1402 18))) σ') ∧ (¬ ((0 ≤ kn ∧ kn ≤ 1) ∧ (0 ≤ hm ∧ hm < fI σ 403 15) ∧ fI σ 1402 18 < 20) → Q (some (vi (-1))) σ))) := propext ⟨fun h => h.2, fun h => ⟨rfl, h⟩⟩
theorem el_X11_company {av : List AV} {σ : Hp} {Q : Option AV → Hp → Prop} (h : sp_X11_company av σ Q) : ∃ (this : Int) (kn : Int) (hm : Int), av = [vr this, vi kn, vi hm] ∧ (kd σ this = 12 ∧ (this = 1 ∧ CLay σ ∧ LOk σ 18 5 ∧ inR kn ∧ inR hm ∧ (0 ≤ fI σ 403 15 ∧ fI σ 403 15 ≤ 12) ∧ (((0 ≤ kn ∧ kn ≤ 1) ∧ (0 ≤ hm ∧ hm < fI σ 403 15) ∧ fI σ 1402 18 < 20) → ∀ σ', Added (cCo σ kn hm) 18 (nx σ) σ' → LOk σ' 18 5 → Q (some (vi (fI σ 1402 18))) σ') ∧ (¬ ((0 ≤ kn ∧ kn ≤ 1) ∧ (0 ≤ hm ∧ hm < fI σ 403 15) ∧ fI σ 1402 18 < 20) → Q (some (vi (-1))) σ))) := by
  obtain ⟨this, a0, rfl, h0⟩ := oR_s h
  obtain ⟨kn, a1, rfl, h1⟩ := oI_s h0
  obtain ⟨hm, a2, rfl, h2⟩ := oI_s h1
  obtain ⟨rfl, hz⟩ := h2
  exact ⟨this, kn, hm, rfl, hz⟩
theorem rc_X11_company : ∀ (av : List AV) (σ : Hp) (Q : Option AV → Hp → Prop), sp_X11_company av σ Q → ∃ r tl, av = vr r :: tl ∧ kd σ r = 11 + 1 := fun av σ Q h => by
  obtain ⟨this, kn, hm, rfl, hz, -⟩ := el_X11_company h
  exact ⟨this, _, rfl, hz⟩

def tb_X11_company : Tab := [(0, .iload_n 1, 1, (0, 0, 0, 0)), (1, .ifCond .eq 8, 3, (0, 0, 0, 0)), (4, .iload_n 1, 1, (0, 0, 0, 0)), (5, .iconst 1, 1, (0, 0, 0, 0)), (6, .if_icmp .ne 15, 3, (0, 0, 0, 0)), (9, .aload_n 0, 1, (0, 0, 0, 0)), (10, .getfield 38, 3, (12, 1204, 2, 0)), (13, .iload_n 1, 1, (0, 0, 0, 0)), (14, .iload_n 2, 1, (0, 0, 0, 0)), (15, .invokevirtual 173, 3, (0, 0, 0, 0)), (18, .goto 4, 3, (0, 0, 0, 0)), (21, .iconst (-1), 1, (0, 0, 0, 0)), (22, .ireturn, 1, (0, 0, 0, 0))]
set_option maxRecDepth 100000 in
theorem tk_X11_company : TOK RX11 false cX11_company tb_X11_company := chkT_ok ft_X11 (by decide +kernel)
theorem rw_X11_1384 : Row RX11 (.invokevirtual 173) 3 3 2 155 8 sp_X3_addCompany := row_V (n := 2) (ci := 3) c_X3_addCompany ⟨TBL_in 852 (by decide +kernel) rfl, TBL_in 855 (by decide +kernel) rfl, TBL_in 117 (by decide +kernel) rfl, by decide +kernel, by decide⟩ (by decide) rfl (TBL_in 853 (by decide +kernel) rfl) (TBL_in 854 (by decide +kernel) rfl) rc_X3_addCompany
def mt_X11_company : List (Nat × Mt) := [(1384, 3, 2, 155, 8, sp_X3_addCompany)]
theorem em_X11_company : mt_X11_company.lookup 1384 = some (3, 2, 155, 8, sp_X3_addCompany) := rfl
theorem mk_X11_company : MOK RX11 mt_X11_company := by
  intro q hq
  simp only [mt_X11_company, List.mem_cons, List.not_mem_nil, or_false] at hq
  rcases hq with rfl
  · exact rw_X11_1384
noncomputable def xe_X11_company (ct : Nat → Bool) (K : Kt) (R : Option AV → Hp → Prop) (n : Nat) : Kt := exS 3 9 2 155 1 tb_X11_company mt_X11_company ct K R n
noncomputable def xk_X11_company (ct : Nat → Bool) (K : Kt) (R : Option AV → Hp → Prop) (n : Nat) : Kt := exkS 3 9 2 155 1 tb_X11_company mt_X11_company ct K R n
theorem xt_X11_company {ct : Nat → Bool} {K : Kt} {R : Option AV → Hp → Prop} {n pc : Nat} {ls : List (Option AV)} {st : List AV} {σ : Hp} {k : Nat × Nat} (h : ct pc = true) : xk_X11_company ct K R n pc ls st σ k = K pc ls st σ k := by unfold xk_X11_company exkS; rw [h]
theorem xf_X11_company {ct : Nat → Bool} {K : Kt} {R : Option AV → Hp → Prop} {n pc : Nat} {ls : List (Option AV)} {st : List AV} {σ : Hp} {k : Nat × Nat} (h : ct pc = false) : xk_X11_company ct K R n pc ls st σ k = xe_X11_company ct K R n pc ls st σ k := by unfold xk_X11_company exkS xe_X11_company; rw [h]
theorem ev_X11_company_0 {ct : Nat → Bool} {K : Kt} {R : Option AV → Hp → Prop} {n : Nat} {ls : List (Option AV)} {st : List AV} {σ : Hp} {k : Nat × Nat} : xe_X11_company ct K R (n + 1) 0 ls st σ k = (lI ls 1 fun x => xk_X11_company ct K R n 1 ls (vi x :: st) σ k) := exS_step.trans rfl
theorem ev_X11_company_1 {ct : Nat → Bool} {K : Kt} {R : Option AV → Hp → Prop} {n : Nat} {ls : List (Option AV)} {st : List AV} {σ : Hp} {k : Nat × Nat} : xe_X11_company ct K R (n + 1) 1 ls st σ k = (oI st fun x st => (wI x = wI 0 → xk_X11_company ct K R n 9 ls st σ k) ∧ (¬ (wI x = wI 0) → xk_X11_company ct K R n 4 ls st σ k)) := exS_step.trans rfl
theorem ev_X11_company_4 {ct : Nat → Bool} {K : Kt} {R : Option AV → Hp → Prop} {n : Nat} {ls : List (Option AV)} {st : List AV} {σ : Hp} {k : Nat × Nat} : xe_X11_company ct K R (n + 1) 4 ls st σ k = (lI ls 1 fun x => xk_X11_company ct K R n 5 ls (vi x :: st) σ k) := exS_step.trans rfl
theorem ev_X11_company_5 {ct : Nat → Bool} {K : Kt} {R : Option AV → Hp → Prop} {n : Nat} {ls : List (Option AV)} {st : List AV} {σ : Hp} {k : Nat × Nat} : xe_X11_company ct K R (n + 1) 5 ls st σ k = (xk_X11_company ct K R n 6 ls (vi (1) :: st) σ k) := exS_step.trans rfl
theorem ev_X11_company_6 {ct : Nat → Bool} {K : Kt} {R : Option AV → Hp → Prop} {n : Nat} {ls : List (Option AV)} {st : List AV} {σ : Hp} {k : Nat × Nat} : xe_X11_company ct K R (n + 1) 6 ls st σ k = (oI st fun y st => oI st fun x st => (¬ wI x = wI y → xk_X11_company ct K R n 21 ls st σ k) ∧ (¬ (¬ wI x = wI y) → xk_X11_company ct K R n 9 ls st σ k)) := exS_step.trans rfl
theorem ev_X11_company_9 {ct : Nat → Bool} {K : Kt} {R : Option AV → Hp → Prop} {n : Nat} {ls : List (Option AV)} {st : List AV} {σ : Hp} {k : Nat × Nat} : xe_X11_company ct K R (n + 1) 9 ls st σ k = (lR ls 0 fun x => xk_X11_company ct K R n 10 ls (vr x :: st) σ k) := exS_step.trans rfl
theorem ev_X11_company_10 {ct : Nat → Bool} {K : Kt} {R : Option AV → Hp → Prop} {n : Nat} {ls : List (Option AV)} {st : List AV} {σ : Hp} {k : Nat × Nat} : xe_X11_company ct K R (n + 1) 10 ls st σ k = (oR st fun x st => kd σ x = 12 ∧ xk_X11_company ct K R n 13 ls (vr (fR σ 1204 x) :: st) σ k) := exS_step.trans rfl
theorem ev_X11_company_13 {ct : Nat → Bool} {K : Kt} {R : Option AV → Hp → Prop} {n : Nat} {ls : List (Option AV)} {st : List AV} {σ : Hp} {k : Nat × Nat} : xe_X11_company ct K R (n + 1) 13 ls st σ k = (lI ls 1 fun x => xk_X11_company ct K R n 14 ls (vi x :: st) σ k) := exS_step.trans rfl
theorem ev_X11_company_14 {ct : Nat → Bool} {K : Kt} {R : Option AV → Hp → Prop} {n : Nat} {ls : List (Option AV)} {st : List AV} {σ : Hp} {k : Nat × Nat} : xe_X11_company ct K R (n + 1) 14 ls st σ k = (lI ls 2 fun x => xk_X11_company ct K R n 15 ls (vi x :: st) σ k) := exS_step.trans rfl
theorem ev_X11_company_15 {ct : Nat → Bool} {K : Kt} {R : Option AV → Hp → Prop} {n : Nat} {ls : List (Option AV)} {st : List AV} {σ : Hp} {k : Nat × Nat} : xe_X11_company ct K R (n + 1) 15 ls st σ k = (popN 3 st [] fun av rest => (catS rest ≤ 8 ∧ 8 < 9 ∧ k.1 + 2 ≤ 2 ∧ k.2 + 155 ≤ 155) ∧ (sp_X3_addCompany) av σ fun v σ' => xk_X11_company ct K R n 18 ls (v.toList ++ rest) σ' (k.1 + 2, k.2 + 155)) := exS_step.trans rfl
theorem ev_X11_company_18 {ct : Nat → Bool} {K : Kt} {R : Option AV → Hp → Prop} {n : Nat} {ls : List (Option AV)} {st : List AV} {σ : Hp} {k : Nat × Nat} : xe_X11_company ct K R (n + 1) 18 ls st σ k = (xk_X11_company ct K R n 22 ls st σ k) := exS_step.trans rfl
theorem ev_X11_company_21 {ct : Nat → Bool} {K : Kt} {R : Option AV → Hp → Prop} {n : Nat} {ls : List (Option AV)} {st : List AV} {σ : Hp} {k : Nat × Nat} : xe_X11_company ct K R (n + 1) 21 ls st σ k = (xk_X11_company ct K R n 22 ls (vi (-1) :: st) σ k) := exS_step.trans rfl
theorem ev_X11_company_22 {ct : Nat → Bool} {K : Kt} {R : Option AV → Hp → Prop} {n : Nat} {ls : List (Option AV)} {st : List AV} {σ : Hp} {k : Nat × Nat} : xe_X11_company ct K R (n + 1) 22 ls st σ k = (oI st fun x st => st = [] ∧ True ∧ R (some (vi x)) σ) := exS_step.trans rfl
def M_X11_company : Md := (yX11_company, cX11_company, 3, (some FieldType.int), 9, 2, 155, 1, false, tb_X11_company, mt_X11_company)
theorem mm_X11_company : MMOK M_X11_company := ⟨by decide +kernel, tk_X11_company, mk_X11_company, rfl, fun h => by cases h⟩
theorem go_X11_company {Q : Option AV → Hp → Prop} {ct : Nat → Bool} {pc : Nat} {ls : List (Option AV)} {st : List AV} {σ : Hp} {k : Nat × Nat} (n : Nat) (h : xe_X11_company ct (Go M_X11_company Q) Q n pc ls st σ k) : Go M_X11_company Q pc ls st σ k := Go.exS mm_X11_company h

set_option maxRecDepth 20000 in
theorem c_X11_company : Ct yX11_company cX11_company 3 ((some FieldType.int)) 9 2 155 sp_X11_company := by
  refine Ct.go (M := M_X11_company) mm_X11_company fun av σ Q h0 => ?_
  obtain ⟨this, kn, hm, rfl, hk, h⟩ := el_X11_company h0
  clear h0
  refine ⟨Nat.le_of_ble_eq_true rfl, ?_⟩
  show Go M_X11_company Q 0 [some (vr this), some (vi kn), some (vi hm)] [] σ (0, 0)
  obtain ⟨rfl, hC, hL, hkn, hm2, hh, h1, h2⟩ := h
  have hkn' := hkn
  unfold inR at hkn'
  by_cases c : 0 ≤ kn ∧ kn ≤ 1
  · refine go_X11_company (ct := fun p => p == 21) 40 ?_
    simp only [oI, oL, oR, o1, lI, lL, lR, popN, catS, gv, stL, stL2, swt, cnd, spObj, List.getElem?_cons_zero, List.getElem?_cons_succ, List.getD_cons_zero, List.getD_cons_succ, List.set_cons_zero, List.set_cons_succ, List.nil_append, List.cons_append, Option.toList, Bool.or_false, Bool.false_or, Bool.or_true, Bool.true_or, Nat.reduceBEq, Nat.reduceAdd, Nat.reduceLT, Nat.reduceLeDiff, Int.reduceAdd, Int.reduceToNat, true_and, and_true, Fin.isValue, Fin.val_zero, Fin.val_one, Fin.val_two, Fin.reduceFinMk, eq_self, Int.reduceNeg, imp_self, Nat.reduceMul, Nat.le_refl, not_true_eq_false, not_false_eq_true, List.getElem?_nil, reduceCtorEq, true_or, or_true, Classical.not_not, implies_true, or_self, wI_0, wI_1, wI_m1, b2i_w, b2i_eq0, b2i_eq1, b2i_bool, nor_self, nx_pI, kd_pI, ln_pI, fI_pI, fL_pI, fR_pI, aI_pI, aL_pI, aR_pI, nx_pL, kd_pL, ln_pL, fI_pL, fL_pL, fR_pL, aI_pL, aL_pL, aR_pL, nx_pR, kd_pR, ln_pR, fI_pR, fL_pR, fR_pR, aI_pR, aL_pR, aR_pR, nx_qI, kd_qI, ln_qI, fI_qI, fL_qI, fR_qI, aI_qI, aL_qI, aR_qI, nx_qL, kd_qL, ln_qL, fI_qL, fL_qL, fR_qL, aI_qL, aL_qL, aR_qL, nx_qR, kd_qR, ln_qR, fI_qR, fL_qR, fR_qR, aI_qR, aL_qR, aR_qR, nx_mk, kd_mk, ln_mk, fI_mk, fL_mk, fR_mk, aI_mk, aL_mk, aR_mk, false_and, and_false, if_false, if_true, and_self, Int.reduceEq, Nat.reduceEqDiff, ite_self, MLay_pI, MLay_pL, MLay_qI, MLay_qL, ev_X11_company_0, ev_X11_company_1, ev_X11_company_4, ev_X11_company_5, ev_X11_company_6, ev_X11_company_9, ev_X11_company_10, ev_X11_company_13, ev_X11_company_14, ev_X11_company_15, ev_X11_company_18, ev_X11_company_21, ev_X11_company_22, xt_X11_company, xf_X11_company, us_X3_addCompany, hC, hC.eqs, hL, hm2, hh]
    try simp (disch := omega) only [wI_id, dv_nn, rm_nn]
    repeat' (first | intro z | apply And.intro)
    all_goals try omega
    all_goals try contradiction
    all_goals first | (exact h1 ⟨c, by assumption⟩ _ ‹_› ‹_›) | (exact h2 (fun y => ‹¬ _› y.2))
  · have h2 := h2 (fun z => c z.1)
    clear h1
    refine go_X11_company (ct := fun p => p == 9) 40 ?_
    simp only [oI, oL, oR, o1, lI, lL, lR, popN, catS, gv, stL, stL2, swt, cnd, spObj, List.getElem?_cons_zero, List.getElem?_cons_succ, List.getD_cons_zero, List.getD_cons_succ, List.set_cons_zero, List.set_cons_succ, List.nil_append, List.cons_append, Option.toList, Bool.or_false, Bool.false_or, Bool.or_true, Bool.true_or, Nat.reduceBEq, Nat.reduceAdd, Nat.reduceLT, Nat.reduceLeDiff, Int.reduceAdd, Int.reduceToNat, true_and, and_true, Fin.isValue, Fin.val_zero, Fin.val_one, Fin.val_two, Fin.reduceFinMk, eq_self, Int.reduceNeg, imp_self, Nat.reduceMul, Nat.le_refl, not_true_eq_false, not_false_eq_true, List.getElem?_nil, reduceCtorEq, true_or, or_true, Classical.not_not, implies_true, or_self, wI_0, wI_1, wI_m1, b2i_w, b2i_eq0, b2i_eq1, b2i_bool, nor_self, nx_pI, kd_pI, ln_pI, fI_pI, fL_pI, fR_pI, aI_pI, aL_pI, aR_pI, nx_pL, kd_pL, ln_pL, fI_pL, fL_pL, fR_pL, aI_pL, aL_pL, aR_pL, nx_pR, kd_pR, ln_pR, fI_pR, fL_pR, fR_pR, aI_pR, aL_pR, aR_pR, nx_qI, kd_qI, ln_qI, fI_qI, fL_qI, fR_qI, aI_qI, aL_qI, aR_qI, nx_qL, kd_qL, ln_qL, fI_qL, fL_qL, fR_qL, aI_qL, aL_qL, aR_qL, nx_qR, kd_qR, ln_qR, fI_qR, fL_qR, fR_qR, aI_qR, aL_qR, aR_qR, nx_mk, kd_mk, ln_mk, fI_mk, fL_mk, fR_mk, aI_mk, aL_mk, aR_mk, false_and, and_false, if_false, if_true, and_self, Int.reduceEq, Nat.reduceEqDiff, ite_self, MLay_pI, MLay_pL, MLay_qI, MLay_qL, ev_X11_company_0, ev_X11_company_1, ev_X11_company_4, ev_X11_company_5, ev_X11_company_6, ev_X11_company_9, ev_X11_company_10, ev_X11_company_13, ev_X11_company_14, ev_X11_company_15, ev_X11_company_18, ev_X11_company_21, ev_X11_company_22, xt_X11_company, xf_X11_company, us_X3_addCompany]
    try simp (disch := omega) only [wI_id, dv_nn, rm_nn]
    repeat' (first | intro z | apply And.intro)
    all_goals try omega
    all_goals try contradiction
    all_goals exact h2

def sp_X11_pace : Sp := fun av σ Q => oR av fun this av => oI av fun n av => oI av fun r av => av = [] ∧ kd σ this = 12 ∧ (this = 1 ∧ CLay σ ∧ inR n ∧ inR r ∧ (((1 ≤ n ∧ n ≤ 9) ∧ 0 ≤ r ∧ r ≤ 198) → Q (some (vi 1)) (pI (pI σ 404 15 n) 405 15 r)) ∧ (¬ ((1 ≤ n ∧ n ≤ 9) ∧ 0 ≤ r ∧ r ≤ 198) → Q (some (vi 0)) σ))
theorem us_X11_pace (this : Int) (n : Int) (r : Int) (σ : Hp) (Q : Option AV → Hp → Prop) : sp_X11_pace [vr this, vi n, vi r] σ Q = (kd σ this = 12 ∧ (this = 1 ∧ CLay σ ∧ inR n ∧ inR r ∧ (((1 ≤ n ∧ n ≤ 9) ∧ 0 ≤ r ∧ r ≤ 198) → Q (some (vi 1)) (pI (pI σ 404 15 n) 405 15 r)) ∧ (¬ ((1 ≤ n ∧ n ≤ 9) ∧ 0 ≤ r ∧ r ≤ 198) → Q (some (vi 0)) σ))) := propext ⟨fun h => h.2, fun h => ⟨rfl, h⟩⟩
theorem el_X11_pace {av : List AV} {σ : Hp} {Q : Option AV → Hp → Prop} (h : sp_X11_pace av σ Q) : ∃ (this : Int) (n : Int) (r : Int), av = [vr this, vi n, vi r] ∧ (kd σ this = 12 ∧ (this = 1 ∧ CLay σ ∧ inR n ∧ inR r ∧ (((1 ≤ n ∧ n ≤ 9) ∧ 0 ≤ r ∧ r ≤ 198) → Q (some (vi 1)) (pI (pI σ 404 15 n) 405 15 r)) ∧ (¬ ((1 ≤ n ∧ n ≤ 9) ∧ 0 ≤ r ∧ r ≤ 198) → Q (some (vi 0)) σ))) := by
  obtain ⟨this, a0, rfl, h0⟩ := oR_s h
  obtain ⟨n, a1, rfl, h1⟩ := oI_s h0
  obtain ⟨r, a2, rfl, h2⟩ := oI_s h1
  obtain ⟨rfl, hz⟩ := h2
  exact ⟨this, n, r, rfl, hz⟩
theorem rc_X11_pace : ∀ (av : List AV) (σ : Hp) (Q : Option AV → Hp → Prop), sp_X11_pace av σ Q → ∃ r tl, av = vr r :: tl ∧ kd σ r = 11 + 1 := fun av σ Q h => by
  obtain ⟨this, n, r, rfl, hz, -⟩ := el_X11_pace h
  exact ⟨this, _, rfl, hz⟩

def tb_X11_pace : Tab := [(0, .iload_n 1, 1, (0, 0, 0, 0)), (1, .iconst 1, 1, (0, 0, 0, 0)), (2, .if_icmp .lt 20, 3, (0, 0, 0, 0)), (5, .iload_n 1, 1, (0, 0, 0, 0)), (6, .bipush 9, 2, (0, 0, 0, 0)), (8, .if_icmp .gt 14, 3, (0, 0, 0, 0)), (11, .iload_n 2, 1, (0, 0, 0, 0)), (12, .ifCond .lt 10, 3, (0, 0, 0, 0)), (15, .iload_n 2, 1, (0, 0, 0, 0)), (16, .sipush 198, 3, (0, 0, 0, 0)), (19, .if_icmp .le 5, 3, (0, 0, 0, 0)), (22, .iconst 0, 1, (0, 0, 0, 0)), (23, .ireturn, 1, (0, 0, 0, 0)), (24, .aload_n 0, 1, (0, 0, 0, 0)), (25, .getfield 38, 3, (12, 1204, 2, 0)), (28, .iload_n 1, 1, (0, 0, 0, 0)), (29, .putfield 176, 3, (4, 404, 0, 0)), (32, .aload_n 0, 1, (0, 0, 0, 0)), (33, .getfield 38, 3, (12, 1204, 2, 0)), (36, .iload_n 2, 1, (0, 0, 0, 0)), (37, .putfield 179, 3, (4, 405, 0, 0)), (40, .iconst 1, 1, (0, 0, 0, 0)), (41, .ireturn, 1, (0, 0, 0, 0))]
set_option maxRecDepth 100000 in
theorem tk_X11_pace : TOK RX11 false cX11_pace tb_X11_pace := chkT_ok ft_X11 (by decide +kernel)
def mt_X11_pace : List (Nat × Mt) := []
theorem mk_X11_pace : MOK RX11 mt_X11_pace := fun q hq => by cases hq
noncomputable def xe_X11_pace (ct : Nat → Bool) (K : Kt) (R : Option AV → Hp → Prop) (n : Nat) : Kt := exS 3 1 0 0 2 tb_X11_pace mt_X11_pace ct K R n
noncomputable def xk_X11_pace (ct : Nat → Bool) (K : Kt) (R : Option AV → Hp → Prop) (n : Nat) : Kt := exkS 3 1 0 0 2 tb_X11_pace mt_X11_pace ct K R n
theorem xt_X11_pace {ct : Nat → Bool} {K : Kt} {R : Option AV → Hp → Prop} {n pc : Nat} {ls : List (Option AV)} {st : List AV} {σ : Hp} {k : Nat × Nat} (h : ct pc = true) : xk_X11_pace ct K R n pc ls st σ k = K pc ls st σ k := by unfold xk_X11_pace exkS; rw [h]
theorem xf_X11_pace {ct : Nat → Bool} {K : Kt} {R : Option AV → Hp → Prop} {n pc : Nat} {ls : List (Option AV)} {st : List AV} {σ : Hp} {k : Nat × Nat} (h : ct pc = false) : xk_X11_pace ct K R n pc ls st σ k = xe_X11_pace ct K R n pc ls st σ k := by unfold xk_X11_pace exkS xe_X11_pace; rw [h]
theorem ev_X11_pace_0 {ct : Nat → Bool} {K : Kt} {R : Option AV → Hp → Prop} {n : Nat} {ls : List (Option AV)} {st : List AV} {σ : Hp} {k : Nat × Nat} : xe_X11_pace ct K R (n + 1) 0 ls st σ k = (lI ls 1 fun x => xk_X11_pace ct K R n 1 ls (vi x :: st) σ k) := exS_step.trans rfl
theorem ev_X11_pace_1 {ct : Nat → Bool} {K : Kt} {R : Option AV → Hp → Prop} {n : Nat} {ls : List (Option AV)} {st : List AV} {σ : Hp} {k : Nat × Nat} : xe_X11_pace ct K R (n + 1) 1 ls st σ k = (xk_X11_pace ct K R n 2 ls (vi (1) :: st) σ k) := exS_step.trans rfl
theorem ev_X11_pace_2 {ct : Nat → Bool} {K : Kt} {R : Option AV → Hp → Prop} {n : Nat} {ls : List (Option AV)} {st : List AV} {σ : Hp} {k : Nat × Nat} : xe_X11_pace ct K R (n + 1) 2 ls st σ k = (oI st fun y st => oI st fun x st => (wI x < wI y → xk_X11_pace ct K R n 22 ls st σ k) ∧ (¬ (wI x < wI y) → xk_X11_pace ct K R n 5 ls st σ k)) := exS_step.trans rfl
theorem ev_X11_pace_5 {ct : Nat → Bool} {K : Kt} {R : Option AV → Hp → Prop} {n : Nat} {ls : List (Option AV)} {st : List AV} {σ : Hp} {k : Nat × Nat} : xe_X11_pace ct K R (n + 1) 5 ls st σ k = (lI ls 1 fun x => xk_X11_pace ct K R n 6 ls (vi x :: st) σ k) := exS_step.trans rfl
theorem ev_X11_pace_6 {ct : Nat → Bool} {K : Kt} {R : Option AV → Hp → Prop} {n : Nat} {ls : List (Option AV)} {st : List AV} {σ : Hp} {k : Nat × Nat} : xe_X11_pace ct K R (n + 1) 6 ls st σ k = (xk_X11_pace ct K R n 8 ls (vi (9) :: st) σ k) := exS_step.trans rfl
theorem ev_X11_pace_8 {ct : Nat → Bool} {K : Kt} {R : Option AV → Hp → Prop} {n : Nat} {ls : List (Option AV)} {st : List AV} {σ : Hp} {k : Nat × Nat} : xe_X11_pace ct K R (n + 1) 8 ls st σ k = (oI st fun y st => oI st fun x st => (wI y < wI x → xk_X11_pace ct K R n 22 ls st σ k) ∧ (¬ (wI y < wI x) → xk_X11_pace ct K R n 11 ls st σ k)) := exS_step.trans rfl
theorem ev_X11_pace_11 {ct : Nat → Bool} {K : Kt} {R : Option AV → Hp → Prop} {n : Nat} {ls : List (Option AV)} {st : List AV} {σ : Hp} {k : Nat × Nat} : xe_X11_pace ct K R (n + 1) 11 ls st σ k = (lI ls 2 fun x => xk_X11_pace ct K R n 12 ls (vi x :: st) σ k) := exS_step.trans rfl
theorem ev_X11_pace_12 {ct : Nat → Bool} {K : Kt} {R : Option AV → Hp → Prop} {n : Nat} {ls : List (Option AV)} {st : List AV} {σ : Hp} {k : Nat × Nat} : xe_X11_pace ct K R (n + 1) 12 ls st σ k = (oI st fun x st => (wI x < wI 0 → xk_X11_pace ct K R n 22 ls st σ k) ∧ (¬ (wI x < wI 0) → xk_X11_pace ct K R n 15 ls st σ k)) := exS_step.trans rfl
theorem ev_X11_pace_15 {ct : Nat → Bool} {K : Kt} {R : Option AV → Hp → Prop} {n : Nat} {ls : List (Option AV)} {st : List AV} {σ : Hp} {k : Nat × Nat} : xe_X11_pace ct K R (n + 1) 15 ls st σ k = (lI ls 2 fun x => xk_X11_pace ct K R n 16 ls (vi x :: st) σ k) := exS_step.trans rfl
theorem ev_X11_pace_16 {ct : Nat → Bool} {K : Kt} {R : Option AV → Hp → Prop} {n : Nat} {ls : List (Option AV)} {st : List AV} {σ : Hp} {k : Nat × Nat} : xe_X11_pace ct K R (n + 1) 16 ls st σ k = (xk_X11_pace ct K R n 19 ls (vi (198) :: st) σ k) := exS_step.trans rfl
theorem ev_X11_pace_19 {ct : Nat → Bool} {K : Kt} {R : Option AV → Hp → Prop} {n : Nat} {ls : List (Option AV)} {st : List AV} {σ : Hp} {k : Nat × Nat} : xe_X11_pace ct K R (n + 1) 19 ls st σ k = (oI st fun y st => oI st fun x st => (wI x ≤ wI y → xk_X11_pace ct K R n 24 ls st σ k) ∧ (¬ (wI x ≤ wI y) → xk_X11_pace ct K R n 22 ls st σ k)) := exS_step.trans rfl
theorem ev_X11_pace_22 {ct : Nat → Bool} {K : Kt} {R : Option AV → Hp → Prop} {n : Nat} {ls : List (Option AV)} {st : List AV} {σ : Hp} {k : Nat × Nat} : xe_X11_pace ct K R (n + 1) 22 ls st σ k = (xk_X11_pace ct K R n 23 ls (vi (0) :: st) σ k) := exS_step.trans rfl
theorem ev_X11_pace_23 {ct : Nat → Bool} {K : Kt} {R : Option AV → Hp → Prop} {n : Nat} {ls : List (Option AV)} {st : List AV} {σ : Hp} {k : Nat × Nat} : xe_X11_pace ct K R (n + 1) 23 ls st σ k = (oI st fun x st => st = [] ∧ (x = 0 ∨ x = 1) ∧ R (some (vi x)) σ) := exS_step.trans rfl
theorem ev_X11_pace_24 {ct : Nat → Bool} {K : Kt} {R : Option AV → Hp → Prop} {n : Nat} {ls : List (Option AV)} {st : List AV} {σ : Hp} {k : Nat × Nat} : xe_X11_pace ct K R (n + 1) 24 ls st σ k = (lR ls 0 fun x => xk_X11_pace ct K R n 25 ls (vr x :: st) σ k) := exS_step.trans rfl
theorem ev_X11_pace_25 {ct : Nat → Bool} {K : Kt} {R : Option AV → Hp → Prop} {n : Nat} {ls : List (Option AV)} {st : List AV} {σ : Hp} {k : Nat × Nat} : xe_X11_pace ct K R (n + 1) 25 ls st σ k = (oR st fun x st => kd σ x = 12 ∧ xk_X11_pace ct K R n 28 ls (vr (fR σ 1204 x) :: st) σ k) := exS_step.trans rfl
theorem ev_X11_pace_28 {ct : Nat → Bool} {K : Kt} {R : Option AV → Hp → Prop} {n : Nat} {ls : List (Option AV)} {st : List AV} {σ : Hp} {k : Nat × Nat} : xe_X11_pace ct K R (n + 1) 28 ls st σ k = (lI ls 1 fun x => xk_X11_pace ct K R n 29 ls (vi x :: st) σ k) := exS_step.trans rfl
theorem ev_X11_pace_29 {ct : Nat → Bool} {K : Kt} {R : Option AV → Hp → Prop} {n : Nat} {ls : List (Option AV)} {st : List AV} {σ : Hp} {k : Nat × Nat} : xe_X11_pace ct K R (n + 1) 29 ls st σ k = (oI st fun v st => oR st fun x st => kd σ x = 4 ∧ xk_X11_pace ct K R n 32 ls st (pI σ 404 x v) k) := exS_step.trans rfl
theorem ev_X11_pace_32 {ct : Nat → Bool} {K : Kt} {R : Option AV → Hp → Prop} {n : Nat} {ls : List (Option AV)} {st : List AV} {σ : Hp} {k : Nat × Nat} : xe_X11_pace ct K R (n + 1) 32 ls st σ k = (lR ls 0 fun x => xk_X11_pace ct K R n 33 ls (vr x :: st) σ k) := exS_step.trans rfl
theorem ev_X11_pace_33 {ct : Nat → Bool} {K : Kt} {R : Option AV → Hp → Prop} {n : Nat} {ls : List (Option AV)} {st : List AV} {σ : Hp} {k : Nat × Nat} : xe_X11_pace ct K R (n + 1) 33 ls st σ k = (oR st fun x st => kd σ x = 12 ∧ xk_X11_pace ct K R n 36 ls (vr (fR σ 1204 x) :: st) σ k) := exS_step.trans rfl
theorem ev_X11_pace_36 {ct : Nat → Bool} {K : Kt} {R : Option AV → Hp → Prop} {n : Nat} {ls : List (Option AV)} {st : List AV} {σ : Hp} {k : Nat × Nat} : xe_X11_pace ct K R (n + 1) 36 ls st σ k = (lI ls 2 fun x => xk_X11_pace ct K R n 37 ls (vi x :: st) σ k) := exS_step.trans rfl
theorem ev_X11_pace_37 {ct : Nat → Bool} {K : Kt} {R : Option AV → Hp → Prop} {n : Nat} {ls : List (Option AV)} {st : List AV} {σ : Hp} {k : Nat × Nat} : xe_X11_pace ct K R (n + 1) 37 ls st σ k = (oI st fun v st => oR st fun x st => kd σ x = 4 ∧ xk_X11_pace ct K R n 40 ls st (pI σ 405 x v) k) := exS_step.trans rfl
theorem ev_X11_pace_40 {ct : Nat → Bool} {K : Kt} {R : Option AV → Hp → Prop} {n : Nat} {ls : List (Option AV)} {st : List AV} {σ : Hp} {k : Nat × Nat} : xe_X11_pace ct K R (n + 1) 40 ls st σ k = (xk_X11_pace ct K R n 41 ls (vi (1) :: st) σ k) := exS_step.trans rfl
theorem ev_X11_pace_41 {ct : Nat → Bool} {K : Kt} {R : Option AV → Hp → Prop} {n : Nat} {ls : List (Option AV)} {st : List AV} {σ : Hp} {k : Nat × Nat} : xe_X11_pace ct K R (n + 1) 41 ls st σ k = (oI st fun x st => st = [] ∧ (x = 0 ∨ x = 1) ∧ R (some (vi x)) σ) := exS_step.trans rfl
def M_X11_pace : Md := (yX11_pace, cX11_pace, 3, (some FieldType.boolean), 1, 0, 0, 2, false, tb_X11_pace, mt_X11_pace)
theorem mm_X11_pace : MMOK M_X11_pace := ⟨by decide +kernel, tk_X11_pace, mk_X11_pace, rfl, fun h => by cases h⟩
theorem go_X11_pace {Q : Option AV → Hp → Prop} {ct : Nat → Bool} {pc : Nat} {ls : List (Option AV)} {st : List AV} {σ : Hp} {k : Nat × Nat} (n : Nat) (h : xe_X11_pace ct (Go M_X11_pace Q) Q n pc ls st σ k) : Go M_X11_pace Q pc ls st σ k := Go.exS mm_X11_pace h

set_option maxRecDepth 20000 in
theorem c_X11_pace : Ct yX11_pace cX11_pace 3 ((some FieldType.boolean)) 1 0 0 sp_X11_pace := by
  refine Ct.go (M := M_X11_pace) mm_X11_pace fun av σ Q h0 => ?_
  obtain ⟨this, n, r, rfl, hk, h⟩ := el_X11_pace h0
  clear h0
  refine ⟨Nat.le_of_ble_eq_true rfl, ?_⟩
  show Go M_X11_pace Q 0 [some (vr this), some (vi n), some (vi r)] [] σ (0, 0)
  obtain ⟨rfl, hC, hn, hr, h1, h2⟩ := h
  unfold inR at hn hr
  by_cases c : (1 ≤ n ∧ n ≤ 9) ∧ 0 ≤ r ∧ r ≤ 198
  · have h1 := h1 c
    clear h2
    refine go_X11_pace (ct := fun p => p == 22) 40 ?_
    simp only [oI, oL, oR, o1, lI, lL, lR, popN, catS, gv, stL, stL2, swt, cnd, spObj, List.getElem?_cons_zero, List.getElem?_cons_succ, List.getD_cons_zero, List.getD_cons_succ, List.set_cons_zero, List.set_cons_succ, List.nil_append, List.cons_append, Option.toList, Bool.or_false, Bool.false_or, Bool.or_true, Bool.true_or, Nat.reduceBEq, Nat.reduceAdd, Nat.reduceLT, Nat.reduceLeDiff, Int.reduceAdd, Int.reduceToNat, true_and, and_true, Fin.isValue, Fin.val_zero, Fin.val_one, Fin.val_two, Fin.reduceFinMk, eq_self, Int.reduceNeg, imp_self, Nat.reduceMul, Nat.le_refl, not_true_eq_false, not_false_eq_true, List.getElem?_nil, reduceCtorEq, true_or, or_true, Classical.not_not, implies_true, or_self, wI_0, wI_1, wI_m1, b2i_w, b2i_eq0, b2i_eq1, b2i_bool, nor_self, nx_pI, kd_pI, ln_pI, fI_pI, fL_pI, fR_pI, aI_pI, aL_pI, aR_pI, nx_pL, kd_pL, ln_pL, fI_pL, fL_pL, fR_pL, aI_pL, aL_pL, aR_pL, nx_pR, kd_pR, ln_pR, fI_pR, fL_pR, fR_pR, aI_pR, aL_pR, aR_pR, nx_qI, kd_qI, ln_qI, fI_qI, fL_qI, fR_qI, aI_qI, aL_qI, aR_qI, nx_qL, kd_qL, ln_qL, fI_qL, fL_qL, fR_qL, aI_qL, aL_qL, aR_qL, nx_qR, kd_qR, ln_qR, fI_qR, fL_qR, fR_qR, aI_qR, aL_qR, aR_qR, nx_mk, kd_mk, ln_mk, fI_mk, fL_mk, fR_mk, aI_mk, aL_mk, aR_mk, false_and, and_false, if_false, if_true, and_self, Int.reduceEq, Nat.reduceEqDiff, ite_self, MLay_pI, MLay_pL, MLay_qI, MLay_qL, ev_X11_pace_0, ev_X11_pace_1, ev_X11_pace_2, ev_X11_pace_5, ev_X11_pace_6, ev_X11_pace_8, ev_X11_pace_11, ev_X11_pace_12, ev_X11_pace_15, ev_X11_pace_16, ev_X11_pace_19, ev_X11_pace_22, ev_X11_pace_23, ev_X11_pace_24, ev_X11_pace_25, ev_X11_pace_28, ev_X11_pace_29, ev_X11_pace_32, ev_X11_pace_33, ev_X11_pace_36, ev_X11_pace_37, ev_X11_pace_40, ev_X11_pace_41, xt_X11_pace, xf_X11_pace, hC.eqs]
    try simp (disch := omega) only [wI_id, dv_nn, rm_nn]
    repeat' (first | intro z | apply And.intro)
    all_goals try omega
    all_goals try contradiction
    all_goals exact h1
  · have h2 := h2 c
    clear h1
    refine go_X11_pace (ct := fun p => p == 24) 40 ?_
    simp only [oI, oL, oR, o1, lI, lL, lR, popN, catS, gv, stL, stL2, swt, cnd, spObj, List.getElem?_cons_zero, List.getElem?_cons_succ, List.getD_cons_zero, List.getD_cons_succ, List.set_cons_zero, List.set_cons_succ, List.nil_append, List.cons_append, Option.toList, Bool.or_false, Bool.false_or, Bool.or_true, Bool.true_or, Nat.reduceBEq, Nat.reduceAdd, Nat.reduceLT, Nat.reduceLeDiff, Int.reduceAdd, Int.reduceToNat, true_and, and_true, Fin.isValue, Fin.val_zero, Fin.val_one, Fin.val_two, Fin.reduceFinMk, eq_self, Int.reduceNeg, imp_self, Nat.reduceMul, Nat.le_refl, not_true_eq_false, not_false_eq_true, List.getElem?_nil, reduceCtorEq, true_or, or_true, Classical.not_not, implies_true, or_self, wI_0, wI_1, wI_m1, b2i_w, b2i_eq0, b2i_eq1, b2i_bool, nor_self, nx_pI, kd_pI, ln_pI, fI_pI, fL_pI, fR_pI, aI_pI, aL_pI, aR_pI, nx_pL, kd_pL, ln_pL, fI_pL, fL_pL, fR_pL, aI_pL, aL_pL, aR_pL, nx_pR, kd_pR, ln_pR, fI_pR, fL_pR, fR_pR, aI_pR, aL_pR, aR_pR, nx_qI, kd_qI, ln_qI, fI_qI, fL_qI, fR_qI, aI_qI, aL_qI, aR_qI, nx_qL, kd_qL, ln_qL, fI_qL, fL_qL, fR_qL, aI_qL, aL_qL, aR_qL, nx_qR, kd_qR, ln_qR, fI_qR, fL_qR, fR_qR, aI_qR, aL_qR, aR_qR, nx_mk, kd_mk, ln_mk, fI_mk, fL_mk, fR_mk, aI_mk, aL_mk, aR_mk, false_and, and_false, if_false, if_true, and_self, Int.reduceEq, Nat.reduceEqDiff, ite_self, MLay_pI, MLay_pL, MLay_qI, MLay_qL, ev_X11_pace_0, ev_X11_pace_1, ev_X11_pace_2, ev_X11_pace_5, ev_X11_pace_6, ev_X11_pace_8, ev_X11_pace_11, ev_X11_pace_12, ev_X11_pace_15, ev_X11_pace_16, ev_X11_pace_19, ev_X11_pace_22, ev_X11_pace_23, ev_X11_pace_24, ev_X11_pace_25, ev_X11_pace_28, ev_X11_pace_29, ev_X11_pace_32, ev_X11_pace_33, ev_X11_pace_36, ev_X11_pace_37, ev_X11_pace_40, ev_X11_pace_41, xt_X11_pace, xf_X11_pace]
    try simp (disch := omega) only [wI_id, dv_nn, rm_nn]
    repeat' (first | intro z | apply And.intro)
    all_goals try omega
    all_goals try contradiction
    all_goals exact h2

theorem CLay_cBs {σ : Hp} (h : CLay σ) (v : BitVec 64) (n : Nat) : CLay (cBs σ v n) := h.fz (cBs_s σ v n).1 (by decide)

def sp_X11_feed : Sp := fun av σ Q => oR av fun this av => oL av fun a av => oL av fun b av => oL av fun c av => av = [] ∧ kd σ this = 12 ∧ (this = 1 ∧ CLay σ ∧ (0 ≤ fI σ 901 24 ∧ fI σ 901 24 ≤ 1000) ∧ Q (some (vi (fI (cBs (cBs (cBs σ a 8) b 8) c 8) 901 24))) (cBs (cBs (cBs σ a 8) b 8) c 8))
theorem us_X11_feed (this : Int) (a : BitVec 64) (b : BitVec 64) (c : BitVec 64) (σ : Hp) (Q : Option AV → Hp → Prop) : sp_X11_feed [vr this, vl a, vl b, vl c] σ Q = (kd σ this = 12 ∧ (this = 1 ∧ CLay σ ∧ (0 ≤ fI σ 901 24 ∧ fI σ 901 24 ≤ 1000) ∧ Q (some (vi (fI (cBs (cBs (cBs σ a 8) b 8) c 8) 901 24))) (cBs (cBs (cBs σ a 8) b 8) c 8))) := propext ⟨fun h => h.2, fun h => ⟨rfl, h⟩⟩
theorem el_X11_feed {av : List AV} {σ : Hp} {Q : Option AV → Hp → Prop} (h : sp_X11_feed av σ Q) : ∃ (this : Int) (a : BitVec 64) (b : BitVec 64) (c : BitVec 64), av = [vr this, vl a, vl b, vl c] ∧ (kd σ this = 12 ∧ (this = 1 ∧ CLay σ ∧ (0 ≤ fI σ 901 24 ∧ fI σ 901 24 ≤ 1000) ∧ Q (some (vi (fI (cBs (cBs (cBs σ a 8) b 8) c 8) 901 24))) (cBs (cBs (cBs σ a 8) b 8) c 8))) := by
  obtain ⟨this, a0, rfl, h0⟩ := oR_s h
  obtain ⟨a, a1, rfl, h1⟩ := oL_s h0
  obtain ⟨b, a2, rfl, h2⟩ := oL_s h1
  obtain ⟨c, a3, rfl, h3⟩ := oL_s h2
  obtain ⟨rfl, hz⟩ := h3
  exact ⟨this, a, b, c, rfl, hz⟩
theorem rc_X11_feed : ∀ (av : List AV) (σ : Hp) (Q : Option AV → Hp → Prop), sp_X11_feed av σ Q → ∃ r tl, av = vr r :: tl ∧ kd σ r = 11 + 1 := fun av σ Q h => by
  obtain ⟨this, a, b, c, rfl, hz, -⟩ := el_X11_feed h
  exact ⟨this, _, rfl, hz⟩

def tb_X11_feed : Tab := [(0, .aload_n 0, 1, (0, 0, 0, 0)), (1, .getfield 50, 3, (12, 1206, 2, 0)), (4, .lload_n 1, 1, (0, 0, 0, 0)), (5, .invokevirtual 182, 3, (0, 0, 0, 0)), (8, .aload_n 0, 1, (0, 0, 0, 0)), (9, .getfield 50, 3, (12, 1206, 2, 0)), (12, .lload_n 3, 1, (0, 0, 0, 0)), (13, .invokevirtual 182, 3, (0, 0, 0, 0)), (16, .aload_n 0, 1, (0, 0, 0, 0)), (17, .getfield 50, 3, (12, 1206, 2, 0)), (20, .lload 5, 2, (0, 0, 0, 0)), (22, .invokevirtual 182, 3, (0, 0, 0, 0)), (25, .aload_n 0, 1, (0, 0, 0, 0)), (26, .getfield 50, 3, (12, 1206, 2, 0)), (29, .getfield 188, 3, (9, 901, 0, 0)), (32, .ireturn, 1, (0, 0, 0, 0))]
set_option maxRecDepth 100000 in
theorem tk_X11_feed : TOK RX11 false cX11_feed tb_X11_feed := chkT_ok ft_X11 (by decide +kernel)
theorem rw_X11_1456 : Row RX11 (.invokevirtual 182) 3 2 0 0 2 sp_X8_takeBytes := row_V (n := 1) (ci := 8) c_X8_takeBytes ⟨TBL_in 896 (by decide +kernel) rfl, TBL_in 899 (by decide +kernel) rfl, TBL_in 119 (by decide +kernel) rfl, by decide +kernel, by decide⟩ (by decide) rfl (TBL_in 897 (by decide +kernel) rfl) (TBL_in 898 (by decide +kernel) rfl) rc_X8_takeBytes
def mt_X11_feed : List (Nat × Mt) := [(1456, 2, 0, 0, 2, sp_X8_takeBytes)]
theorem em_X11_feed : mt_X11_feed.lookup 1456 = some (2, 0, 0, 2, sp_X8_takeBytes) := rfl
theorem mk_X11_feed : MOK RX11 mt_X11_feed := by
  intro q hq
  simp only [mt_X11_feed, List.mem_cons, List.not_mem_nil, or_false] at hq
  rcases hq with rfl
  · exact rw_X11_1456
noncomputable def xe_X11_feed (ct : Nat → Bool) (K : Kt) (R : Option AV → Hp → Prop) (n : Nat) : Kt := exS 7 3 0 0 1 tb_X11_feed mt_X11_feed ct K R n
noncomputable def xk_X11_feed (ct : Nat → Bool) (K : Kt) (R : Option AV → Hp → Prop) (n : Nat) : Kt := exkS 7 3 0 0 1 tb_X11_feed mt_X11_feed ct K R n
theorem xt_X11_feed {ct : Nat → Bool} {K : Kt} {R : Option AV → Hp → Prop} {n pc : Nat} {ls : List (Option AV)} {st : List AV} {σ : Hp} {k : Nat × Nat} (h : ct pc = true) : xk_X11_feed ct K R n pc ls st σ k = K pc ls st σ k := by unfold xk_X11_feed exkS; rw [h]
theorem xf_X11_feed {ct : Nat → Bool} {K : Kt} {R : Option AV → Hp → Prop} {n pc : Nat} {ls : List (Option AV)} {st : List AV} {σ : Hp} {k : Nat × Nat} (h : ct pc = false) : xk_X11_feed ct K R n pc ls st σ k = xe_X11_feed ct K R n pc ls st σ k := by unfold xk_X11_feed exkS xe_X11_feed; rw [h]
theorem ev_X11_feed_0 {ct : Nat → Bool} {K : Kt} {R : Option AV → Hp → Prop} {n : Nat} {ls : List (Option AV)} {st : List AV} {σ : Hp} {k : Nat × Nat} : xe_X11_feed ct K R (n + 1) 0 ls st σ k = (lR ls 0 fun x => xk_X11_feed ct K R n 1 ls (vr x :: st) σ k) := exS_step.trans rfl
theorem ev_X11_feed_1 {ct : Nat → Bool} {K : Kt} {R : Option AV → Hp → Prop} {n : Nat} {ls : List (Option AV)} {st : List AV} {σ : Hp} {k : Nat × Nat} : xe_X11_feed ct K R (n + 1) 1 ls st σ k = (oR st fun x st => kd σ x = 12 ∧ xk_X11_feed ct K R n 4 ls (vr (fR σ 1206 x) :: st) σ k) := exS_step.trans rfl
theorem ev_X11_feed_4 {ct : Nat → Bool} {K : Kt} {R : Option AV → Hp → Prop} {n : Nat} {ls : List (Option AV)} {st : List AV} {σ : Hp} {k : Nat × Nat} : xe_X11_feed ct K R (n + 1) 4 ls st σ k = (lL ls 1 fun x => xk_X11_feed ct K R n 5 ls (vl x :: st) σ k) := exS_step.trans rfl
theorem ev_X11_feed_5 {ct : Nat → Bool} {K : Kt} {R : Option AV → Hp → Prop} {n : Nat} {ls : List (Option AV)} {st : List AV} {σ : Hp} {k : Nat × Nat} : xe_X11_feed ct K R (n + 1) 5 ls st σ k = (popN 2 st [] fun av rest => (catS rest ≤ 8 ∧ 2 < 3 ∧ k.1 + 0 ≤ 0 ∧ k.2 + 0 ≤ 0) ∧ (sp_X8_takeBytes) av σ fun v σ' => xk_X11_feed ct K R n 8 ls (v.toList ++ rest) σ' (k.1 + 0, k.2 + 0)) := exS_step.trans rfl
theorem ev_X11_feed_8 {ct : Nat → Bool} {K : Kt} {R : Option AV → Hp → Prop} {n : Nat} {ls : List (Option AV)} {st : List AV} {σ : Hp} {k : Nat × Nat} : xe_X11_feed ct K R (n + 1) 8 ls st σ k = (lR ls 0 fun x => xk_X11_feed ct K R n 9 ls (vr x :: st) σ k) := exS_step.trans rfl
theorem ev_X11_feed_9 {ct : Nat → Bool} {K : Kt} {R : Option AV → Hp → Prop} {n : Nat} {ls : List (Option AV)} {st : List AV} {σ : Hp} {k : Nat × Nat} : xe_X11_feed ct K R (n + 1) 9 ls st σ k = (oR st fun x st => kd σ x = 12 ∧ xk_X11_feed ct K R n 12 ls (vr (fR σ 1206 x) :: st) σ k) := exS_step.trans rfl
theorem ev_X11_feed_12 {ct : Nat → Bool} {K : Kt} {R : Option AV → Hp → Prop} {n : Nat} {ls : List (Option AV)} {st : List AV} {σ : Hp} {k : Nat × Nat} : xe_X11_feed ct K R (n + 1) 12 ls st σ k = (lL ls 3 fun x => xk_X11_feed ct K R n 13 ls (vl x :: st) σ k) := exS_step.trans rfl
theorem ev_X11_feed_13 {ct : Nat → Bool} {K : Kt} {R : Option AV → Hp → Prop} {n : Nat} {ls : List (Option AV)} {st : List AV} {σ : Hp} {k : Nat × Nat} : xe_X11_feed ct K R (n + 1) 13 ls st σ k = (popN 2 st [] fun av rest => (catS rest ≤ 8 ∧ 2 < 3 ∧ k.1 + 0 ≤ 0 ∧ k.2 + 0 ≤ 0) ∧ (sp_X8_takeBytes) av σ fun v σ' => xk_X11_feed ct K R n 16 ls (v.toList ++ rest) σ' (k.1 + 0, k.2 + 0)) := exS_step.trans rfl
theorem ev_X11_feed_16 {ct : Nat → Bool} {K : Kt} {R : Option AV → Hp → Prop} {n : Nat} {ls : List (Option AV)} {st : List AV} {σ : Hp} {k : Nat × Nat} : xe_X11_feed ct K R (n + 1) 16 ls st σ k = (lR ls 0 fun x => xk_X11_feed ct K R n 17 ls (vr x :: st) σ k) := exS_step.trans rfl
theorem ev_X11_feed_17 {ct : Nat → Bool} {K : Kt} {R : Option AV → Hp → Prop} {n : Nat} {ls : List (Option AV)} {st : List AV} {σ : Hp} {k : Nat × Nat} : xe_X11_feed ct K R (n + 1) 17 ls st σ k = (oR st fun x st => kd σ x = 12 ∧ xk_X11_feed ct K R n 20 ls (vr (fR σ 1206 x) :: st) σ k) := exS_step.trans rfl
theorem ev_X11_feed_20 {ct : Nat → Bool} {K : Kt} {R : Option AV → Hp → Prop} {n : Nat} {ls : List (Option AV)} {st : List AV} {σ : Hp} {k : Nat × Nat} : xe_X11_feed ct K R (n + 1) 20 ls st σ k = (lL ls 5 fun x => xk_X11_feed ct K R n 22 ls (vl x :: st) σ k) := exS_step.trans rfl
theorem ev_X11_feed_22 {ct : Nat → Bool} {K : Kt} {R : Option AV → Hp → Prop} {n : Nat} {ls : List (Option AV)} {st : List AV} {σ : Hp} {k : Nat × Nat} : xe_X11_feed ct K R (n + 1) 22 ls st σ k = (popN 2 st [] fun av rest => (catS rest ≤ 8 ∧ 2 < 3 ∧ k.1 + 0 ≤ 0 ∧ k.2 + 0 ≤ 0) ∧ (sp_X8_takeBytes) av σ fun v σ' => xk_X11_feed ct K R n 25 ls (v.toList ++ rest) σ' (k.1 + 0, k.2 + 0)) := exS_step.trans rfl
theorem ev_X11_feed_25 {ct : Nat → Bool} {K : Kt} {R : Option AV → Hp → Prop} {n : Nat} {ls : List (Option AV)} {st : List AV} {σ : Hp} {k : Nat × Nat} : xe_X11_feed ct K R (n + 1) 25 ls st σ k = (lR ls 0 fun x => xk_X11_feed ct K R n 26 ls (vr x :: st) σ k) := exS_step.trans rfl
theorem ev_X11_feed_26 {ct : Nat → Bool} {K : Kt} {R : Option AV → Hp → Prop} {n : Nat} {ls : List (Option AV)} {st : List AV} {σ : Hp} {k : Nat × Nat} : xe_X11_feed ct K R (n + 1) 26 ls st σ k = (oR st fun x st => kd σ x = 12 ∧ xk_X11_feed ct K R n 29 ls (vr (fR σ 1206 x) :: st) σ k) := exS_step.trans rfl
theorem ev_X11_feed_29 {ct : Nat → Bool} {K : Kt} {R : Option AV → Hp → Prop} {n : Nat} {ls : List (Option AV)} {st : List AV} {σ : Hp} {k : Nat × Nat} : xe_X11_feed ct K R (n + 1) 29 ls st σ k = (oR st fun x st => kd σ x = 9 ∧ xk_X11_feed ct K R n 32 ls (vi (fI σ 901 x) :: st) σ k) := exS_step.trans rfl
theorem ev_X11_feed_32 {ct : Nat → Bool} {K : Kt} {R : Option AV → Hp → Prop} {n : Nat} {ls : List (Option AV)} {st : List AV} {σ : Hp} {k : Nat × Nat} : xe_X11_feed ct K R (n + 1) 32 ls st σ k = (oI st fun x st => st = [] ∧ True ∧ R (some (vi x)) σ) := exS_step.trans rfl
def M_X11_feed : Md := (yX11_feed, cX11_feed, 7, (some FieldType.int), 3, 0, 0, 1, false, tb_X11_feed, mt_X11_feed)
theorem mm_X11_feed : MMOK M_X11_feed := ⟨by decide +kernel, tk_X11_feed, mk_X11_feed, rfl, fun h => by cases h⟩
theorem go_X11_feed {Q : Option AV → Hp → Prop} {ct : Nat → Bool} {pc : Nat} {ls : List (Option AV)} {st : List AV} {σ : Hp} {k : Nat × Nat} (n : Nat) (h : xe_X11_feed ct (Go M_X11_feed Q) Q n pc ls st σ k) : Go M_X11_feed Q pc ls st σ k := Go.exS mm_X11_feed h

set_option maxRecDepth 20000 in
theorem c_X11_feed : Ct yX11_feed cX11_feed 7 ((some FieldType.int)) 3 0 0 sp_X11_feed := by
  refine Ct.go (M := M_X11_feed) mm_X11_feed fun av σ Q h0 => ?_
  obtain ⟨this, a, b, c, rfl, hk, h⟩ := el_X11_feed h0
  clear h0
  refine ⟨Nat.le_of_ble_eq_true rfl, ?_⟩
  show Go M_X11_feed Q 0 [some (vr this), some (vl a), none, some (vl b), none, some (vl c), none] [] σ (0, 0)
  obtain ⟨rfl, hC, hh, h⟩ := h
  have C1 := CLay_cBs hC a 8
  have H1 := (cBs_s σ a 8).2 hh
  have C2 := CLay_cBs C1 b 8
  have H2 := (cBs_s (cBs σ a 8) b 8).2 H1
  have C3 := CLay_cBs C2 c 8
  have k1 : kd (cBs σ a 8) 1 = 12 := by simp only [C1.eqs]
  have k2 : kd (cBs (cBs σ a 8) b 8) 1 = 12 := by simp only [C2.eqs]
  have k3 : kd (cBs (cBs (cBs σ a 8) b 8) c 8) 1 = 12 := by simp only [C3.eqs]
  have l1 : kd (cBs σ a 8) 24 = 9 := by simp only [C1.eqs]
  have l2 : kd (cBs (cBs σ a 8) b 8) 24 = 9 := by simp only [C2.eqs]
  have l3 : kd (cBs (cBs (cBs σ a 8) b 8) c 8) 24 = 9 := by simp only [C3.eqs]
  have r1 : fR (cBs σ a 8) 1206 1 = 24 := by simp only [C1.eqs]
  have r2 : fR (cBs (cBs σ a 8) b 8) 1206 1 = 24 := by simp only [C2.eqs]
  have r3 : fR (cBs (cBs (cBs σ a 8) b 8) c 8) 1206 1 = 24 := by simp only [C3.eqs]
  generalize hρ2 : cBs (cBs σ a 8) b 8 = ρ2 at *
  generalize hρ3 : cBs ρ2 c 8 = ρ3 at *
  generalize hρ1 : cBs σ a 8 = ρ1 at *
  refine go_X11_feed (ct := fun p => p == 99) 40 ?_
  simp only [oI, oL, oR, o1, lI, lL, lR, popN, catS, gv, stL, stL2, swt, cnd, spObj, List.getElem?_cons_zero, List.getElem?_cons_succ, List.getD_cons_zero, List.getD_cons_succ, List.set_cons_zero, List.set_cons_succ, List.nil_append, List.cons_append, Option.toList, Bool.or_false, Bool.false_or, Bool.or_true, Bool.true_or, Nat.reduceBEq, Nat.reduceAdd, Nat.reduceLT, Nat.reduceLeDiff, Int.reduceAdd, Int.reduceToNat, true_and, and_true, Fin.isValue, Fin.val_zero, Fin.val_one, Fin.val_two, Fin.reduceFinMk, eq_self, Int.reduceNeg, imp_self, Nat.reduceMul, Nat.le_refl, not_true_eq_false, not_false_eq_true, List.getElem?_nil, reduceCtorEq, true_or, or_true, Classical.not_not, implies_true, or_self, wI_0, wI_1, wI_m1, b2i_w, b2i_eq0, b2i_eq1, b2i_bool, nor_self, nx_pI, kd_pI, ln_pI, fI_pI, fL_pI, fR_pI, aI_pI, aL_pI, aR_pI, nx_pL, kd_pL, ln_pL, fI_pL, fL_pL, fR_pL, aI_pL, aL_pL, aR_pL, nx_pR, kd_pR, ln_pR, fI_pR, fL_pR, fR_pR, aI_pR, aL_pR, aR_pR, nx_qI, kd_qI, ln_qI, fI_qI, fL_qI, fR_qI, aI_qI, aL_qI, aR_qI, nx_qL, kd_qL, ln_qL, fI_qL, fL_qL, fR_qL, aI_qL, aL_qL, aR_qL, nx_qR, kd_qR, ln_qR, fI_qR, fL_qR, fR_qR, aI_qR, aL_qR, aR_qR, nx_mk, kd_mk, ln_mk, fI_mk, fL_mk, fR_mk, aI_mk, aL_mk, aR_mk, false_and, and_false, if_false, if_true, and_self, Int.reduceEq, Nat.reduceEqDiff, ite_self, MLay_pI, MLay_pL, MLay_qI, MLay_qL, ev_X11_feed_0, ev_X11_feed_1, ev_X11_feed_4, ev_X11_feed_5, ev_X11_feed_8, ev_X11_feed_9, ev_X11_feed_12, ev_X11_feed_13, ev_X11_feed_16, ev_X11_feed_17, ev_X11_feed_20, ev_X11_feed_22, ev_X11_feed_25, ev_X11_feed_26, ev_X11_feed_29, ev_X11_feed_32, xt_X11_feed, xf_X11_feed, us_X8_takeBytes, hC, hC.eqs, hh, hρ1, C1, H1, k1, l1, r1, hρ2, C2, H2, k2, l2, r2, hρ3, k3, l3, r3]
  repeat' (first | intro z | apply And.intro)
  all_goals try omega
  all_goals try contradiction
  all_goals exact h

theorem AL.k {σ τ : Hp} (h : AL σ τ) {a : Int} (h0 : 0 ≤ a) (h1 : a < fI τ 1371 61) : kd σ (lat σ 28 a) = 1 := h.1.2.2.2.2.2 a h0 (by rw [h.2.1]; exact h1)

def sp_X11_sent : Sp := fun av σ Q => oR av fun this av => oI av fun a av => oI av fun i av => av = [] ∧ kd σ this = 12 ∧ (this = 1 ∧ CLay σ ∧ inR a ∧ inR i ∧ ∃ τ, AL σ τ ∧ MI τ ∧ Q (some (vi (if (0 ≤ a ∧ a < fI τ 1371 61) ∧ 0 ≤ i ∧ i < aI τ 115 a then aI τ 116 (20 * a + i) else -1))) σ)
theorem us_X11_sent (this : Int) (a : Int) (i : Int) (σ : Hp) (Q : Option AV → Hp → Prop) : sp_X11_sent [vr this, vi a, vi i] σ Q = (kd σ this = 12 ∧ (this = 1 ∧ CLay σ ∧ inR a ∧ inR i ∧ ∃ τ, AL σ τ ∧ MI τ ∧ Q (some (vi (if (0 ≤ a ∧ a < fI τ 1371 61) ∧ 0 ≤ i ∧ i < aI τ 115 a then aI τ 116 (20 * a + i) else -1))) σ)) := propext ⟨fun h => h.2, fun h => ⟨rfl, h⟩⟩
theorem el_X11_sent {av : List AV} {σ : Hp} {Q : Option AV → Hp → Prop} (h : sp_X11_sent av σ Q) : ∃ (this : Int) (a : Int) (i : Int), av = [vr this, vi a, vi i] ∧ (kd σ this = 12 ∧ (this = 1 ∧ CLay σ ∧ inR a ∧ inR i ∧ ∃ τ, AL σ τ ∧ MI τ ∧ Q (some (vi (if (0 ≤ a ∧ a < fI τ 1371 61) ∧ 0 ≤ i ∧ i < aI τ 115 a then aI τ 116 (20 * a + i) else -1))) σ)) := by
  obtain ⟨this, a0, rfl, h0⟩ := oR_s h
  obtain ⟨a, a1, rfl, h1⟩ := oI_s h0
  obtain ⟨i, a2, rfl, h2⟩ := oI_s h1
  obtain ⟨rfl, hz⟩ := h2
  exact ⟨this, a, i, rfl, hz⟩
theorem rc_X11_sent : ∀ (av : List AV) (σ : Hp) (Q : Option AV → Hp → Prop), sp_X11_sent av σ Q → ∃ r tl, av = vr r :: tl ∧ kd σ r = 11 + 1 := fun av σ Q h => by
  obtain ⟨this, a, i, rfl, hz, -⟩ := el_X11_sent h
  exact ⟨this, _, rfl, hz⟩

def tb_X11_sent : Tab := [(0, .aload_n 0, 1, (0, 0, 0, 0)), (1, .getfield 54, 3, (12, 1207, 2, 0)), (4, .iload_n 1, 1, (0, 0, 0, 0)), (5, .invokevirtual 213, 3, (0, 0, 0, 0)), (8, .astore_n 3, 1, (0, 0, 0, 0)), (9, .aload_n 3, 1, (0, 0, 0, 0)), (10, .ifnonnull 7, 3, (0, 0, 0, 0)), (13, .iconst (-1), 1, (0, 0, 0, 0)), (14, .goto 8, 3, (0, 0, 0, 0)), (17, .aload_n 3, 1, (0, 0, 0, 0)), (18, .iload_n 2, 1, (0, 0, 0, 0)), (19, .invokevirtual 223, 3, (0, 0, 0, 0)), (22, .ireturn, 1, (0, 0, 0, 0))]
set_option maxRecDepth 100000 in
theorem tk_X11_sent : TOK RX11 false cX11_sent tb_X11_sent := chkT_ok ft_X11 (by decide +kernel)
theorem rw_X11_1704 : Row RX11 (.invokevirtual 213) 3 2 0 0 4 sp_X1_alarmOf := row_V (n := 1) (ci := 1) c_X1_alarmOf ⟨TBL_in 1264 (by decide +kernel) rfl, TBL_in 1205 (by decide +kernel) rfl, TBL_in 121 (by decide +kernel) rfl, by decide +kernel, by decide⟩ (by decide) rfl (TBL_in 1203 (by decide +kernel) rfl) (TBL_in 1204 (by decide +kernel) rfl) rc_X1_alarmOf
theorem rw_X11_1784 : Row RX11 (.invokevirtual 223) 3 2 0 0 1 sp_X0_companyAt := row_V (n := 1) (ci := 0) c_X0_companyAt ⟨TBL_in 1269 (by decide +kernel) rfl, TBL_in 1272 (by decide +kernel) rfl, TBL_in 137 (by decide +kernel) rfl, by decide +kernel, by decide⟩ (by decide) rfl (TBL_in 1270 (by decide +kernel) rfl) (TBL_in 1271 (by decide +kernel) rfl) rc_X0_companyAt
def mt_X11_sent : List (Nat × Mt) := [(1704, 2, 0, 0, 4, sp_X1_alarmOf), (1784, 2, 0, 0, 1, sp_X0_companyAt)]
theorem em_X11_sent : mt_X11_sent.lookup 1704 = some (2, 0, 0, 4, sp_X1_alarmOf) ∧ mt_X11_sent.lookup 1784 = some (2, 0, 0, 1, sp_X0_companyAt) := ⟨rfl, rfl⟩
theorem mk_X11_sent : MOK RX11 mt_X11_sent := by
  intro q hq
  simp only [mt_X11_sent, List.mem_cons, List.not_mem_nil, or_false] at hq
  rcases hq with rfl | rfl
  · exact rw_X11_1704
  · exact rw_X11_1784
noncomputable def xe_X11_sent (ct : Nat → Bool) (K : Kt) (R : Option AV → Hp → Prop) (n : Nat) : Kt := exS 4 5 0 0 1 tb_X11_sent mt_X11_sent ct K R n
noncomputable def xk_X11_sent (ct : Nat → Bool) (K : Kt) (R : Option AV → Hp → Prop) (n : Nat) : Kt := exkS 4 5 0 0 1 tb_X11_sent mt_X11_sent ct K R n
theorem xt_X11_sent {ct : Nat → Bool} {K : Kt} {R : Option AV → Hp → Prop} {n pc : Nat} {ls : List (Option AV)} {st : List AV} {σ : Hp} {k : Nat × Nat} (h : ct pc = true) : xk_X11_sent ct K R n pc ls st σ k = K pc ls st σ k := by unfold xk_X11_sent exkS; rw [h]
theorem xf_X11_sent {ct : Nat → Bool} {K : Kt} {R : Option AV → Hp → Prop} {n pc : Nat} {ls : List (Option AV)} {st : List AV} {σ : Hp} {k : Nat × Nat} (h : ct pc = false) : xk_X11_sent ct K R n pc ls st σ k = xe_X11_sent ct K R n pc ls st σ k := by unfold xk_X11_sent exkS xe_X11_sent; rw [h]
theorem ev_X11_sent_0 {ct : Nat → Bool} {K : Kt} {R : Option AV → Hp → Prop} {n : Nat} {ls : List (Option AV)} {st : List AV} {σ : Hp} {k : Nat × Nat} : xe_X11_sent ct K R (n + 1) 0 ls st σ k = (lR ls 0 fun x => xk_X11_sent ct K R n 1 ls (vr x :: st) σ k) := exS_step.trans rfl
theorem ev_X11_sent_1 {ct : Nat → Bool} {K : Kt} {R : Option AV → Hp → Prop} {n : Nat} {ls : List (Option AV)} {st : List AV} {σ : Hp} {k : Nat × Nat} : xe_X11_sent ct K R (n + 1) 1 ls st σ k = (oR st fun x st => kd σ x = 12 ∧ xk_X11_sent ct K R n 4 ls (vr (fR σ 1207 x) :: st) σ k) := exS_step.trans rfl
theorem ev_X11_sent_4 {ct : Nat → Bool} {K : Kt} {R : Option AV → Hp → Prop} {n : Nat} {ls : List (Option AV)} {st : List AV} {σ : Hp} {k : Nat × Nat} : xe_X11_sent ct K R (n + 1) 4 ls st σ k = (lI ls 1 fun x => xk_X11_sent ct K R n 5 ls (vi x :: st) σ k) := exS_step.trans rfl
theorem ev_X11_sent_5 {ct : Nat → Bool} {K : Kt} {R : Option AV → Hp → Prop} {n : Nat} {ls : List (Option AV)} {st : List AV} {σ : Hp} {k : Nat × Nat} : xe_X11_sent ct K R (n + 1) 5 ls st σ k = (popN 2 st [] fun av rest => (catS rest ≤ 8 ∧ 4 < 5 ∧ k.1 + 0 ≤ 0 ∧ k.2 + 0 ≤ 0) ∧ (sp_X1_alarmOf) av σ fun v σ' => xk_X11_sent ct K R n 8 ls (v.toList ++ rest) σ' (k.1 + 0, k.2 + 0)) := exS_step.trans rfl
theorem ev_X11_sent_8 {ct : Nat → Bool} {K : Kt} {R : Option AV → Hp → Prop} {n : Nat} {ls : List (Option AV)} {st : List AV} {σ : Hp} {k : Nat × Nat} : xe_X11_sent ct K R (n + 1) 8 ls st σ k = (oR st fun x st => 3 < 4 ∧ xk_X11_sent ct K R n 9 (stL ls 3 (vr x)) st σ k) := exS_step.trans rfl
theorem ev_X11_sent_9 {ct : Nat → Bool} {K : Kt} {R : Option AV → Hp → Prop} {n : Nat} {ls : List (Option AV)} {st : List AV} {σ : Hp} {k : Nat × Nat} : xe_X11_sent ct K R (n + 1) 9 ls st σ k = (lR ls 3 fun x => xk_X11_sent ct K R n 10 ls (vr x :: st) σ k) := exS_step.trans rfl
theorem ev_X11_sent_10 {ct : Nat → Bool} {K : Kt} {R : Option AV → Hp → Prop} {n : Nat} {ls : List (Option AV)} {st : List AV} {σ : Hp} {k : Nat × Nat} : xe_X11_sent ct K R (n + 1) 10 ls st σ k = (oR st fun x st => (¬ x = 0 → xk_X11_sent ct K R n 17 ls st σ k) ∧ (x = 0 → xk_X11_sent ct K R n 13 ls st σ k)) := exS_step.trans rfl
theorem ev_X11_sent_13 {ct : Nat → Bool} {K : Kt} {R : Option AV → Hp → Prop} {n : Nat} {ls : List (Option AV)} {st : List AV} {σ : Hp} {k : Nat × Nat} : xe_X11_sent ct K R (n + 1) 13 ls st σ k = (xk_X11_sent ct K R n 14 ls (vi (-1) :: st) σ k) := exS_step.trans rfl
theorem ev_X11_sent_14 {ct : Nat → Bool} {K : Kt} {R : Option AV → Hp → Prop} {n : Nat} {ls : List (Option AV)} {st : List AV} {σ : Hp} {k : Nat × Nat} : xe_X11_sent ct K R (n + 1) 14 ls st σ k = (xk_X11_sent ct K R n 22 ls st σ k) := exS_step.trans rfl
theorem ev_X11_sent_17 {ct : Nat → Bool} {K : Kt} {R : Option AV → Hp → Prop} {n : Nat} {ls : List (Option AV)} {st : List AV} {σ : Hp} {k : Nat × Nat} : xe_X11_sent ct K R (n + 1) 17 ls st σ k = (lR ls 3 fun x => xk_X11_sent ct K R n 18 ls (vr x :: st) σ k) := exS_step.trans rfl
theorem ev_X11_sent_18 {ct : Nat → Bool} {K : Kt} {R : Option AV → Hp → Prop} {n : Nat} {ls : List (Option AV)} {st : List AV} {σ : Hp} {k : Nat × Nat} : xe_X11_sent ct K R (n + 1) 18 ls st σ k = (lI ls 2 fun x => xk_X11_sent ct K R n 19 ls (vi x :: st) σ k) := exS_step.trans rfl
theorem ev_X11_sent_19 {ct : Nat → Bool} {K : Kt} {R : Option AV → Hp → Prop} {n : Nat} {ls : List (Option AV)} {st : List AV} {σ : Hp} {k : Nat × Nat} : xe_X11_sent ct K R (n + 1) 19 ls st σ k = (popN 2 st [] fun av rest => (catS rest ≤ 8 ∧ 1 < 5 ∧ k.1 + 0 ≤ 0 ∧ k.2 + 0 ≤ 0) ∧ (sp_X0_companyAt) av σ fun v σ' => xk_X11_sent ct K R n 22 ls (v.toList ++ rest) σ' (k.1 + 0, k.2 + 0)) := exS_step.trans rfl
theorem ev_X11_sent_22 {ct : Nat → Bool} {K : Kt} {R : Option AV → Hp → Prop} {n : Nat} {ls : List (Option AV)} {st : List AV} {σ : Hp} {k : Nat × Nat} : xe_X11_sent ct K R (n + 1) 22 ls st σ k = (oI st fun x st => st = [] ∧ True ∧ R (some (vi x)) σ) := exS_step.trans rfl
def M_X11_sent : Md := (yX11_sent, cX11_sent, 4, (some FieldType.int), 5, 0, 0, 1, false, tb_X11_sent, mt_X11_sent)
theorem mm_X11_sent : MMOK M_X11_sent := ⟨by decide +kernel, tk_X11_sent, mk_X11_sent, rfl, fun h => by cases h⟩
theorem go_X11_sent {Q : Option AV → Hp → Prop} {ct : Nat → Bool} {pc : Nat} {ls : List (Option AV)} {st : List AV} {σ : Hp} {k : Nat × Nat} (n : Nat) (h : xe_X11_sent ct (Go M_X11_sent Q) Q n pc ls st σ k) : Go M_X11_sent Q pc ls st σ k := Go.exS mm_X11_sent h

set_option maxRecDepth 20000 in
theorem c_X11_sent : Ct yX11_sent cX11_sent 4 ((some FieldType.int)) 5 0 0 sp_X11_sent := by
  refine Ct.go (M := M_X11_sent) mm_X11_sent fun av σ Q h0 => ?_
  obtain ⟨this, a, i, rfl, hk, h⟩ := el_X11_sent h0
  clear h0
  refine ⟨Nat.le_of_ble_eq_true rfl, ?_⟩
  show Go M_X11_sent Q 0 [some (vr this), some (vi a), some (vi i), none] [] σ (0, 0)
  obtain ⟨rfl, hC, ha, hi, τ, hA, hI, h⟩ := h
  have hL := hA.1
  have hsz := hA.2.1
  by_cases c : 0 ≤ a ∧ a < fI τ 1371 61
  · have e : (if 0 ≤ a ∧ a < fI τ 1371 61 then lat σ 28 a else 0) = lat σ 28 a := if_pos c
    have hk1 := hA.k c.1 c.2
    obtain ⟨g0, -, -, g3, g4, g5, g6, g7, -⟩ := hA.2.2.1 a c.1 c.2
    have hs := hI.sentMany_ a
    have hp0 : ¬ lat σ 28 a = 0 := by omega
    have e2 : (if 0 ≤ i ∧ i < aI τ 115 a then aI σ (lat σ 28 a + 1) i else -1) = (if (0 ≤ a ∧ a < fI τ 1371 61) ∧ 0 ≤ i ∧ i < aI τ 115 a then aI τ 116 (20 * a + i) else -1) := by
      by_cases c2 : 0 ≤ i ∧ i < aI τ 115 a
      · rw [if_pos c2, if_pos ⟨c, c2⟩, g7 i c2.1 c2.2]
      · rw [if_neg c2, if_neg (fun z => c2 z.2)]
    rw [← e2] at h
    clear hA e2 g7
    refine go_X11_sent (ct := fun p => p == 13) 40 ?_
    simp only [oI, oL, oR, o1, lI, lL, lR, popN, catS, gv, stL, stL2, swt, cnd, spObj, List.getElem?_cons_zero, List.getElem?_cons_succ, List.getD_cons_zero, List.getD_cons_succ, List.set_cons_zero, List.set_cons_succ, List.nil_append, List.cons_append, Option.toList, Bool.or_false, Bool.false_or, Bool.or_true, Bool.true_or, Nat.reduceBEq, Nat.reduceAdd, Nat.reduceLT, Nat.reduceLeDiff, Int.reduceAdd, Int.reduceToNat, true_and, and_true, Fin.isValue, Fin.val_zero, Fin.val_one, Fin.val_two, Fin.reduceFinMk, eq_self, Int.reduceNeg, imp_self, Nat.reduceMul, Nat.le_refl, not_true_eq_false, not_false_eq_true, List.getElem?_nil, reduceCtorEq, true_or, or_true, Classical.not_not, implies_true, or_self, wI_0, wI_1, wI_m1, b2i_w, b2i_eq0, b2i_eq1, b2i_bool, nor_self, nx_pI, kd_pI, ln_pI, fI_pI, fL_pI, fR_pI, aI_pI, aL_pI, aR_pI, nx_pL, kd_pL, ln_pL, fI_pL, fL_pL, fR_pL, aI_pL, aL_pL, aR_pL, nx_pR, kd_pR, ln_pR, fI_pR, fL_pR, fR_pR, aI_pR, aL_pR, aR_pR, nx_qI, kd_qI, ln_qI, fI_qI, fL_qI, fR_qI, aI_qI, aL_qI, aR_qI, nx_qL, kd_qL, ln_qL, fI_qL, fL_qL, fR_qL, aI_qL, aL_qL, aR_qL, nx_qR, kd_qR, ln_qR, fI_qR, fL_qR, fR_qR, aI_qR, aL_qR, aR_qR, nx_mk, kd_mk, ln_mk, fI_mk, fL_mk, fR_mk, aI_mk, aL_mk, aR_mk, false_and, and_false, if_false, if_true, and_self, Int.reduceEq, Nat.reduceEqDiff, ite_self, MLay_pI, MLay_pL, MLay_qI, MLay_qL, ev_X11_sent_0, ev_X11_sent_1, ev_X11_sent_4, ev_X11_sent_5, ev_X11_sent_8, ev_X11_sent_9, ev_X11_sent_10, ev_X11_sent_13, ev_X11_sent_14, ev_X11_sent_17, ev_X11_sent_18, ev_X11_sent_19, ev_X11_sent_22, xt_X11_sent, xf_X11_sent, us_X1_alarmOf, us_X0_companyAt, hC, hC.eqs, hL, hsz, ha, hi, e, hk1, g3, g4, g5, g6, hs, hp0]
    repeat' (first | intro z | apply And.intro)
    all_goals try omega
    all_goals try contradiction
    all_goals exact h
  · have e : (if 0 ≤ a ∧ a < fI τ 1371 61 then lat σ 28 a else 0) = 0 := if_neg c
    rw [if_neg (fun z => c z.1)] at h
    clear hA
    refine go_X11_sent (ct := fun p => p == 17) 40 ?_
    simp only [oI, oL, oR, o1, lI, lL, lR, popN, catS, gv, stL, stL2, swt, cnd, spObj, List.getElem?_cons_zero, List.getElem?_cons_succ, List.getD_cons_zero, List.getD_cons_succ, List.set_cons_zero, List.set_cons_succ, List.nil_append, List.cons_append, Option.toList, Bool.or_false, Bool.false_or, Bool.or_true, Bool.true_or, Nat.reduceBEq, Nat.reduceAdd, Nat.reduceLT, Nat.reduceLeDiff, Int.reduceAdd, Int.reduceToNat, true_and, and_true, Fin.isValue, Fin.val_zero, Fin.val_one, Fin.val_two, Fin.reduceFinMk, eq_self, Int.reduceNeg, imp_self, Nat.reduceMul, Nat.le_refl, not_true_eq_false, not_false_eq_true, List.getElem?_nil, reduceCtorEq, true_or, or_true, Classical.not_not, implies_true, or_self, wI_0, wI_1, wI_m1, b2i_w, b2i_eq0, b2i_eq1, b2i_bool, nor_self, nx_pI, kd_pI, ln_pI, fI_pI, fL_pI, fR_pI, aI_pI, aL_pI, aR_pI, nx_pL, kd_pL, ln_pL, fI_pL, fL_pL, fR_pL, aI_pL, aL_pL, aR_pL, nx_pR, kd_pR, ln_pR, fI_pR, fL_pR, fR_pR, aI_pR, aL_pR, aR_pR, nx_qI, kd_qI, ln_qI, fI_qI, fL_qI, fR_qI, aI_qI, aL_qI, aR_qI, nx_qL, kd_qL, ln_qL, fI_qL, fL_qL, fR_qL, aI_qL, aL_qL, aR_qL, nx_qR, kd_qR, ln_qR, fI_qR, fL_qR, fR_qR, aI_qR, aL_qR, aR_qR, nx_mk, kd_mk, ln_mk, fI_mk, fL_mk, fR_mk, aI_mk, aL_mk, aR_mk, false_and, and_false, if_false, if_true, and_self, Int.reduceEq, Nat.reduceEqDiff, ite_self, MLay_pI, MLay_pL, MLay_qI, MLay_qL, ev_X11_sent_0, ev_X11_sent_1, ev_X11_sent_4, ev_X11_sent_5, ev_X11_sent_8, ev_X11_sent_9, ev_X11_sent_10, ev_X11_sent_13, ev_X11_sent_14, ev_X11_sent_17, ev_X11_sent_18, ev_X11_sent_19, ev_X11_sent_22, xt_X11_sent, xf_X11_sent, us_X1_alarmOf, us_X0_companyAt, hC, hC.eqs, hL, hsz, ha, e]
    repeat' (first | intro z | apply And.intro)
    all_goals try omega
    all_goals try contradiction
    all_goals exact h
/-! an alarm is over: what the class writes -/

def cOv1 (σ : Hp) (p v t : Int) : Hp := pI (pI (pI σ 105 p 1) 106 p v) 107 p t

def sp_X11_over : Sp := fun av σ Q => oR av fun this av => oI av fun a av => oI av fun v av => av = [] ∧ kd σ this = 12 ∧ (this = 1 ∧ CLay σ ∧ inR a ∧ (v = 0 ∨ v = 1) ∧ (0 ≤ fI σ 1210 1 ∧ fI σ 1210 1 ≤ 999999) ∧ LOk σ 18 5 ∧ ∃ τ, AL σ τ ∧ MI τ ∧ (∀ i, (0 ≤ a ∧ a < fI τ 1371 61) → 0 ≤ i → i < aI τ 115 a → aI τ 116 (20 * a + i) < fI σ 1402 18) ∧   (((0 ≤ a ∧ a < fI τ 1371 61) ∧ aI τ 112 a = 0) → Q (some (vi 1)) (cHm (cOv1 σ (lat σ 28 a) v (fI σ 1210 1 / 86400)) (lat σ 28 a) (aI τ 115 a).toNat)) ∧ (¬ ((0 ≤ a ∧ a < fI τ 1371 61) ∧ aI τ 112 a = 0) → Q (some (vi 0)) σ))
theorem us_X11_over (this : Int) (a : Int) (v : Int) (σ : Hp) (Q : Option AV → Hp → Prop) : sp_X11_over [vr this, vi a, vi v] σ Q = (kd σ this = 12 ∧ (this = 1 ∧ CLay σ ∧ inR a ∧ (v = 0 ∨ v = 1) ∧ (0 ≤ fI σ 1210 1 ∧ fI σ 1210 1 ≤ 999999) ∧ LOk σ 18 5 ∧ ∃ τ, AL σ τ ∧ MI τ ∧ (∀ i, (0 ≤ a ∧ a < fI τ 1371 61) → 0 ≤ i → i < aI τ 115 a → aI τ 116 (20 * a + i) < fI σ 1402 18) ∧   (((0 ≤ a ∧ a < fI τ 1371 61) ∧ aI τ 112 a = 0) → Q (some (vi 1)) (cHm (cOv1 σ (lat σ 28 a) v (fI σ 1210 1 / 86400)) (lat σ 28 a) (aI τ 115 a).toNat)) ∧ (¬ ((0 ≤ a ∧ a < fI τ 1371 61) ∧ aI τ 112 a = 0) → Q (some (vi 0)) σ))) := propext ⟨fun h => h.2, fun h => ⟨rfl, h⟩⟩
theorem el_X11_over {av : List AV} {σ : Hp} {Q : Option AV → Hp → Prop} (h : sp_X11_over av σ Q) : ∃ (this : Int) (a : Int) (v : Int), av = [vr this, vi a, vi v] ∧ (kd σ this = 12 ∧ (this = 1 ∧ CLay σ ∧ inR a ∧ (v = 0 ∨ v = 1) ∧ (0 ≤ fI σ 1210 1 ∧ fI σ 1210 1 ≤ 999999) ∧ LOk σ 18 5 ∧ ∃ τ, AL σ τ ∧ MI τ ∧ (∀ i, (0 ≤ a ∧ a < fI τ 1371 61) → 0 ≤ i → i < aI τ 115 a → aI τ 116 (20 * a + i) < fI σ 1402 18) ∧   (((0 ≤ a ∧ a < fI τ 1371 61) ∧ aI τ 112 a = 0) → Q (some (vi 1)) (cHm (cOv1 σ (lat σ 28 a) v (fI σ 1210 1 / 86400)) (lat σ 28 a) (aI τ 115 a).toNat)) ∧ (¬ ((0 ≤ a ∧ a < fI τ 1371 61) ∧ aI τ 112 a = 0) → Q (some (vi 0)) σ))) := by
  obtain ⟨this, a0, rfl, h0⟩ := oR_s h
  obtain ⟨a, a1, rfl, h1⟩ := oI_s h0
  obtain ⟨v, a2, rfl, h2⟩ := oI_s h1
  obtain ⟨rfl, hz⟩ := h2
  exact ⟨this, a, v, rfl, hz⟩
theorem rc_X11_over : ∀ (av : List AV) (σ : Hp) (Q : Option AV → Hp → Prop), sp_X11_over av σ Q → ∃ r tl, av = vr r :: tl ∧ kd σ r = 11 + 1 := fun av σ Q h => by
  obtain ⟨this, a, v, rfl, hz, -⟩ := el_X11_over h
  exact ⟨this, _, rfl, hz⟩

def tb_X11_over : Tab := [(0, .aload_n 0, 1, (0, 0, 0, 0)), (1, .getfield 54, 3, (12, 1207, 2, 0)), (4, .iload_n 1, 1, (0, 0, 0, 0)), (5, .invokevirtual 213, 3, (0, 0, 0, 0)), (8, .astore_n 3, 1, (0, 0, 0, 0)), (9, .aload_n 3, 1, (0, 0, 0, 0)), (10, .ifnull 10, 3, (0, 0, 0, 0)), (13, .aload_n 3, 1, (0, 0, 0, 0)), (14, .getfield 217, 3, (1, 105, 0, 0)), (17, .ifCond .eq 5, 3, (0, 0, 0, 0)), (20, .iconst 0, 1, (0, 0, 0, 0)), (21, .ireturn, 1, (0, 0, 0, 0)), (22, .aload_n 3, 1, (0, 0, 0, 0)), (23, .iconst 1, 1, (0, 0, 0, 0)), (24, .putfield 217, 3, (1, 105, 3, 0)), (27, .aload_n 3, 1, (0, 0, 0, 0)), (28, .iload_n 2, 1, (0, 0, 0, 0)), (29, .putfield 227, 3, (1, 106, 3, 0)), (32, .aload_n 3, 1, (0, 0, 0, 0)), (33, .aload_n 0, 1, (0, 0, 0, 0)), (34, .invokevirtual 203, 3, (0, 0, 0, 0)), (37, .putfield 230, 3, (1, 107, 0, 0)), (40, .aload_n 0, 1, (0, 0, 0, 0)), (41, .getfield 38, 3, (12, 1204, 2, 0)), (44, .aload_n 3, 1, (0, 0, 0, 0)), (45, .invokevirtual 233, 3, (0, 0, 0, 0)), (48, .iconst 1, 1, (0, 0, 0, 0)), (49, .ireturn, 1, (0, 0, 0, 0))]
set_option maxRecDepth 100000 in
theorem tk_X11_over : TOK RX11 false cX11_over tb_X11_over := chkT_ok ft_X11 (by decide +kernel)
theorem rw_X11_1864 : Row RX11 (.invokevirtual 233) 3 2 0 0 5 sp_X3_bringHome := row_V (n := 1) (ci := 3) c_X3_bringHome ⟨TBL_in 1277 (by decide +kernel) rfl, TBL_in 1280 (by decide +kernel) rfl, TBL_in 117 (by decide +kernel) rfl, by decide +kernel, by decide⟩ (by decide) rfl (TBL_in 1278 (by decide +kernel) rfl) (TBL_in 1279 (by decide +kernel) rfl) rc_X3_bringHome
def mt_X11_over : List (Nat × Mt) := [(1704, 2, 0, 0, 4, sp_X1_alarmOf), (1624, 1, 0, 0, 1, sp_X11_today), (1864, 2, 0, 0, 5, sp_X3_bringHome)]
theorem em_X11_over : mt_X11_over.lookup 1704 = some (2, 0, 0, 4, sp_X1_alarmOf) ∧ mt_X11_over.lookup 1624 = some (1, 0, 0, 1, sp_X11_today) ∧ mt_X11_over.lookup 1864 = some (2, 0, 0, 5, sp_X3_bringHome) := ⟨rfl, rfl, rfl⟩
theorem mk_X11_over : MOK RX11 mt_X11_over := by
  intro q hq
  simp only [mt_X11_over, List.mem_cons, List.not_mem_nil, or_false] at hq
  rcases hq with rfl | rfl | rfl
  · exact rw_X11_1704
  · exact rw_X11_1624
  · exact rw_X11_1864
noncomputable def xe_X11_over (ct : Nat → Bool) (K : Kt) (R : Option AV → Hp → Prop) (n : Nat) : Kt := exS 4 6 0 0 2 tb_X11_over mt_X11_over ct K R n
noncomputable def xk_X11_over (ct : Nat → Bool) (K : Kt) (R : Option AV → Hp → Prop) (n : Nat) : Kt := exkS 4 6 0 0 2 tb_X11_over mt_X11_over ct K R n
theorem xt_X11_over {ct : Nat → Bool} {K : Kt} {R : Option AV → Hp → Prop} {n pc : Nat} {ls : List (Option AV)} {st : List AV} {σ : Hp} {k : Nat × Nat} (h : ct pc = true) : xk_X11_over ct K R n pc ls st σ k = K pc ls st σ k := by unfold xk_X11_over exkS; rw [h]
theorem xf_X11_over {ct : Nat → Bool} {K : Kt} {R : Option AV → Hp → Prop} {n pc : Nat} {ls : List (Option AV)} {st : List AV} {σ : Hp} {k : Nat × Nat} (h : ct pc = false) : xk_X11_over ct K R n pc ls st σ k = xe_X11_over ct K R n pc ls st σ k := by unfold xk_X11_over exkS xe_X11_over; rw [h]
theorem ev_X11_over_0 {ct : Nat → Bool} {K : Kt} {R : Option AV → Hp → Prop} {n : Nat} {ls : List (Option AV)} {st : List AV} {σ : Hp} {k : Nat × Nat} : xe_X11_over ct K R (n + 1) 0 ls st σ k = (lR ls 0 fun x => xk_X11_over ct K R n 1 ls (vr x :: st) σ k) := exS_step.trans rfl
theorem ev_X11_over_1 {ct : Nat → Bool} {K : Kt} {R : Option AV → Hp → Prop} {n : Nat} {ls : List (Option AV)} {st : List AV} {σ : Hp} {k : Nat × Nat} : xe_X11_over ct K R (n + 1) 1 ls st σ k = (oR st fun x st => kd σ x = 12 ∧ xk_X11_over ct K R n 4 ls (vr (fR σ 1207 x) :: st) σ k) := exS_step.trans rfl
theorem ev_X11_over_4 {ct : Nat → Bool} {K : Kt} {R : Option AV → Hp → Prop} {n : Nat} {ls : List (Option AV)} {st : List AV} {σ : Hp} {k : Nat × Nat} : xe_X11_over ct K R (n + 1) 4 ls st σ k = (lI ls 1 fun x => xk_X11_over ct K R n 5 ls (vi x :: st) σ k) := exS_step.trans rfl
theorem ev_X11_over_5 {ct : Nat → Bool} {K : Kt} {R : Option AV → Hp → Prop} {n : Nat} {ls : List (Option AV)} {st : List AV} {σ : Hp} {k : Nat × Nat} : xe_X11_over ct K R (n + 1) 5 ls st σ k = (popN 2 st [] fun av rest => (catS rest ≤ 8 ∧ 4 < 6 ∧ k.1 + 0 ≤ 0 ∧ k.2 + 0 ≤ 0) ∧ (sp_X1_alarmOf) av σ fun v σ' => xk_X11_over ct K R n 8 ls (v.toList ++ rest) σ' (k.1 + 0, k.2 + 0)) := exS_step.trans rfl
theorem ev_X11_over_8 {ct : Nat → Bool} {K : Kt} {R : Option AV → Hp → Prop} {n : Nat} {ls : List (Option AV)} {st : List AV} {σ : Hp} {k : Nat × Nat} : xe_X11_over ct K R (n + 1) 8 ls st σ k = (oR st fun x st => 3 < 4 ∧ xk_X11_over ct K R n 9 (stL ls 3 (vr x)) st σ k) := exS_step.trans rfl
theorem ev_X11_over_9 {ct : Nat → Bool} {K : Kt} {R : Option AV → Hp → Prop} {n : Nat} {ls : List (Option AV)} {st : List AV} {σ : Hp} {k : Nat × Nat} : xe_X11_over ct K R (n + 1) 9 ls st σ k = (lR ls 3 fun x => xk_X11_over ct K R n 10 ls (vr x :: st) σ k) := exS_step.trans rfl
theorem ev_X11_over_10 {ct : Nat → Bool} {K : Kt} {R : Option AV → Hp → Prop} {n : Nat} {ls : List (Option AV)} {st : List AV} {σ : Hp} {k : Nat × Nat} : xe_X11_over ct K R (n + 1) 10 ls st σ k = (oR st fun x st => (x = 0 → xk_X11_over ct K R n 20 ls st σ k) ∧ (¬ x = 0 → xk_X11_over ct K R n 13 ls st σ k)) := exS_step.trans rfl
theorem ev_X11_over_13 {ct : Nat → Bool} {K : Kt} {R : Option AV → Hp → Prop} {n : Nat} {ls : List (Option AV)} {st : List AV} {σ : Hp} {k : Nat × Nat} : xe_X11_over ct K R (n + 1) 13 ls st σ k = (lR ls 3 fun x => xk_X11_over ct K R n 14 ls (vr x :: st) σ k) := exS_step.trans rfl
theorem ev_X11_over_14 {ct : Nat → Bool} {K : Kt} {R : Option AV → Hp → Prop} {n : Nat} {ls : List (Option AV)} {st : List AV} {σ : Hp} {k : Nat × Nat} : xe_X11_over ct K R (n + 1) 14 ls st σ k = (oR st fun x st => kd σ x = 1 ∧ xk_X11_over ct K R n 17 ls (vi (fI σ 105 x) :: st) σ k) := exS_step.trans rfl
theorem ev_X11_over_17 {ct : Nat → Bool} {K : Kt} {R : Option AV → Hp → Prop} {n : Nat} {ls : List (Option AV)} {st : List AV} {σ : Hp} {k : Nat × Nat} : xe_X11_over ct K R (n + 1) 17 ls st σ k = (oI st fun x st => (wI x = wI 0 → xk_X11_over ct K R n 22 ls st σ k) ∧ (¬ (wI x = wI 0) → xk_X11_over ct K R n 20 ls st σ k)) := exS_step.trans rfl
theorem ev_X11_over_20 {ct : Nat → Bool} {K : Kt} {R : Option AV → Hp → Prop} {n : Nat} {ls : List (Option AV)} {st : List AV} {σ : Hp} {k : Nat × Nat} : xe_X11_over ct K R (n + 1) 20 ls st σ k = (xk_X11_over ct K R n 21 ls (vi (0) :: st) σ k) := exS_step.trans rfl
theorem ev_X11_over_21 {ct : Nat → Bool} {K : Kt} {R : Option AV → Hp → Prop} {n : Nat} {ls : List (Option AV)} {st : List AV} {σ : Hp} {k : Nat × Nat} : xe_X11_over ct K R (n + 1) 21 ls st σ k = (oI st fun x st => st = [] ∧ (x = 0 ∨ x = 1) ∧ R (some (vi x)) σ) := exS_step.trans rfl
theorem ev_X11_over_22 {ct : Nat → Bool} {K : Kt} {R : Option AV → Hp → Prop} {n : Nat} {ls : List (Option AV)} {st : List AV} {σ : Hp} {k : Nat × Nat} : xe_X11_over ct K R (n + 1) 22 ls st σ k = (lR ls 3 fun x => xk_X11_over ct K R n 23 ls (vr x :: st) σ k) := exS_step.trans rfl
theorem ev_X11_over_23 {ct : Nat → Bool} {K : Kt} {R : Option AV → Hp → Prop} {n : Nat} {ls : List (Option AV)} {st : List AV} {σ : Hp} {k : Nat × Nat} : xe_X11_over ct K R (n + 1) 23 ls st σ k = (xk_X11_over ct K R n 24 ls (vi (1) :: st) σ k) := exS_step.trans rfl
theorem ev_X11_over_24 {ct : Nat → Bool} {K : Kt} {R : Option AV → Hp → Prop} {n : Nat} {ls : List (Option AV)} {st : List AV} {σ : Hp} {k : Nat × Nat} : xe_X11_over ct K R (n + 1) 24 ls st σ k = (oI st fun v st => oR st fun x st => kd σ x = 1 ∧ (v = 0 ∨ v = 1) ∧ xk_X11_over ct K R n 27 ls st (pI σ 105 x v) k) := exS_step.trans rfl
theorem ev_X11_over_27 {ct : Nat → Bool} {K : Kt} {R : Option AV → Hp → Prop} {n : Nat} {ls : List (Option AV)} {st : List AV} {σ : Hp} {k : Nat × Nat} : xe_X11_over ct K R (n + 1) 27 ls st σ k = (lR ls 3 fun x => xk_X11_over ct K R n 28 ls (vr x :: st) σ k) := exS_step.trans rfl
theorem ev_X11_over_28 {ct : Nat → Bool} {K : Kt} {R : Option AV → Hp → Prop} {n : Nat} {ls : List (Option AV)} {st : List AV} {σ : Hp} {k : Nat × Nat} : xe_X11_over ct K R (n + 1) 28 ls st σ k = (lI ls 2 fun x => xk_X11_over ct K R n 29 ls (vi x :: st) σ k) := exS_step.trans rfl
theorem ev_X11_over_29 {ct : Nat → Bool} {K : Kt} {R : Option AV → Hp → Prop} {n : Nat} {ls : List (Option AV)} {st : List AV} {σ : Hp} {k : Nat × Nat} : xe_X11_over ct K R (n + 1) 29 ls st σ k = (oI st fun v st => oR st fun x st => kd σ x = 1 ∧ (v = 0 ∨ v = 1) ∧ xk_X11_over ct K R n 32 ls st (pI σ 106 x v) k) := exS_step.trans rfl
theorem ev_X11_over_32 {ct : Nat → Bool} {K : Kt} {R : Option AV → Hp → Prop} {n : Nat} {ls : List (Option AV)} {st : List AV} {σ : Hp} {k : Nat × Nat} : xe_X11_over ct K R (n + 1) 32 ls st σ k = (lR ls 3 fun x => xk_X11_over ct K R n 33 ls (vr x :: st) σ k) := exS_step.trans rfl
theorem ev_X11_over_33 {ct : Nat → Bool} {K : Kt} {R : Option AV → Hp → Prop} {n : Nat} {ls : List (Option AV)} {st : List AV} {σ : Hp} {k : Nat × Nat} : xe_X11_over ct K R (n + 1) 33 ls st σ k = (lR ls 0 fun x => xk_X11_over ct K R n 34 ls (vr x :: st) σ k) := exS_step.trans rfl
theorem ev_X11_over_34 {ct : Nat → Bool} {K : Kt} {R : Option AV → Hp → Prop} {n : Nat} {ls : List (Option AV)} {st : List AV} {σ : Hp} {k : Nat × Nat} : xe_X11_over ct K R (n + 1) 34 ls st σ k = (popN 1 st [] fun av rest => (catS rest ≤ 8 ∧ 1 < 6 ∧ k.1 + 0 ≤ 0 ∧ k.2 + 0 ≤ 0) ∧ (sp_X11_today) av σ fun v σ' => xk_X11_over ct K R n 37 ls (v.toList ++ rest) σ' (k.1 + 0, k.2 + 0)) := exS_step.trans rfl
theorem ev_X11_over_37 {ct : Nat → Bool} {K : Kt} {R : Option AV → Hp → Prop} {n : Nat} {ls : List (Option AV)} {st : List AV} {σ : Hp} {k : Nat × Nat} : xe_X11_over ct K R (n + 1) 37 ls st σ k = (oI st fun v st => oR st fun x st => kd σ x = 1 ∧ xk_X11_over ct K R n 40 ls st (pI σ 107 x v) k) := exS_step.trans rfl
theorem ev_X11_over_40 {ct : Nat → Bool} {K : Kt} {R : Option AV → Hp → Prop} {n : Nat} {ls : List (Option AV)} {st : List AV} {σ : Hp} {k : Nat × Nat} : xe_X11_over ct K R (n + 1) 40 ls st σ k = (lR ls 0 fun x => xk_X11_over ct K R n 41 ls (vr x :: st) σ k) := exS_step.trans rfl
theorem ev_X11_over_41 {ct : Nat → Bool} {K : Kt} {R : Option AV → Hp → Prop} {n : Nat} {ls : List (Option AV)} {st : List AV} {σ : Hp} {k : Nat × Nat} : xe_X11_over ct K R (n + 1) 41 ls st σ k = (oR st fun x st => kd σ x = 12 ∧ xk_X11_over ct K R n 44 ls (vr (fR σ 1204 x) :: st) σ k) := exS_step.trans rfl
theorem ev_X11_over_44 {ct : Nat → Bool} {K : Kt} {R : Option AV → Hp → Prop} {n : Nat} {ls : List (Option AV)} {st : List AV} {σ : Hp} {k : Nat × Nat} : xe_X11_over ct K R (n + 1) 44 ls st σ k = (lR ls 3 fun x => xk_X11_over ct K R n 45 ls (vr x :: st) σ k) := exS_step.trans rfl
theorem ev_X11_over_45 {ct : Nat → Bool} {K : Kt} {R : Option AV → Hp → Prop} {n : Nat} {ls : List (Option AV)} {st : List AV} {σ : Hp} {k : Nat × Nat} : xe_X11_over ct K R (n + 1) 45 ls st σ k = (popN 2 st [] fun av rest => (catS rest ≤ 8 ∧ 5 < 6 ∧ k.1 + 0 ≤ 0 ∧ k.2 + 0 ≤ 0) ∧ (sp_X3_bringHome) av σ fun v σ' => xk_X11_over ct K R n 48 ls (v.toList ++ rest) σ' (k.1 + 0, k.2 + 0)) := exS_step.trans rfl
theorem ev_X11_over_48 {ct : Nat → Bool} {K : Kt} {R : Option AV → Hp → Prop} {n : Nat} {ls : List (Option AV)} {st : List AV} {σ : Hp} {k : Nat × Nat} : xe_X11_over ct K R (n + 1) 48 ls st σ k = (xk_X11_over ct K R n 49 ls (vi (1) :: st) σ k) := exS_step.trans rfl
theorem ev_X11_over_49 {ct : Nat → Bool} {K : Kt} {R : Option AV → Hp → Prop} {n : Nat} {ls : List (Option AV)} {st : List AV} {σ : Hp} {k : Nat × Nat} : xe_X11_over ct K R (n + 1) 49 ls st σ k = (oI st fun x st => st = [] ∧ (x = 0 ∨ x = 1) ∧ R (some (vi x)) σ) := exS_step.trans rfl
def M_X11_over : Md := (yX11_over, cX11_over, 4, (some FieldType.boolean), 6, 0, 0, 2, false, tb_X11_over, mt_X11_over)
theorem mm_X11_over : MMOK M_X11_over := ⟨by decide +kernel, tk_X11_over, mk_X11_over, rfl, fun h => by cases h⟩
theorem go_X11_over {Q : Option AV → Hp → Prop} {ct : Nat → Bool} {pc : Nat} {ls : List (Option AV)} {st : List AV} {σ : Hp} {k : Nat × Nat} (n : Nat) (h : xe_X11_over ct (Go M_X11_over Q) Q n pc ls st σ k) : Go M_X11_over Q pc ls st σ k := Go.exS mm_X11_over h

set_option maxRecDepth 20000 in
theorem c_X11_over : Ct yX11_over cX11_over 4 ((some FieldType.boolean)) 6 0 0 sp_X11_over := by
  refine Ct.go (M := M_X11_over) mm_X11_over fun av σ Q h0 => ?_
  obtain ⟨this, a, v, rfl, hk, h⟩ := el_X11_over h0
  clear h0
  refine ⟨Nat.le_of_ble_eq_true rfl, ?_⟩
  show Go M_X11_over Q 0 [some (vr this), some (vi a), some (vi v), none] [] σ (0, 0)
  obtain ⟨rfl, hC, ha, hv, hnw, hL18, τ, hA, hI, hrow, h1, h2⟩ := h
  have hL := hA.1
  have hsz := hA.2.1
  by_cases c : 0 ≤ a ∧ a < fI τ 1371 61
  · have e : (if 0 ≤ a ∧ a < fI τ 1371 61 then lat σ 28 a else 0) = lat σ 28 a := if_pos c
    have hk1 := hA.k c.1 c.2
    obtain ⟨g0, -, -, g3, g4, g5, g6, g7, -, g9, -⟩ := hA.2.2.1 a c.1 c.2
    have hs := hI.sentMany_ a
    have hp0 : ¬ lat σ 28 a = 0 := by omega
    have hov := hI.isOver_ a
    by_cases c2 : aI τ 112 a = 0
    · have h1 := h1 ⟨c, c2⟩
      have hz : Fz [105, 106, 107] noR noR σ (cOv1 σ (lat σ 28 a) v (fI σ 1210 1 / 86400)) := Fz.tr (Fz_pI (fs := [105, 106, 107]) (f := 105) _ _ _ (by decide)) (Fz.tr (Fz_pI (fs := [105, 106, 107]) (f := 106) _ _ _ (by decide)) (Fz_pI (fs := [105, 106, 107]) (f := 107) _ _ _ (by decide)))
      have C2 := hC.fz hz (by decide)
      have L2 := hL18.fz hz (by decide) (by decide) (by decide)
      have k1 : kd (cOv1 σ (lat σ 28 a) v (fI σ 1210 1 / 86400)) (lat σ 28 a) = 1 := by rw [hz.kd]; exact hk1
      have k2 : kd (cOv1 σ (lat σ 28 a) v (fI σ 1210 1 / 86400)) (lat σ 28 a + 1) = 101 := by rw [hz.kd]; exact g4
      have k3 : ln (cOv1 σ (lat σ 28 a) v (fI σ 1210 1 / 86400)) (lat σ 28 a + 1) = 20 := by rw [hz.ln]; exact g5
      have k4 : fR (cOv1 σ (lat σ 28 a) v (fI σ 1210 1 / 86400)) 102 (lat σ 28 a) = lat σ 28 a + 1 := by rw [hz.fR (by decide)]; exact g3
      have k5 : fI (cOv1 σ (lat σ 28 a) v (fI σ 1210 1 / 86400)) 103 (lat σ 28 a) = aI τ 115 a := by rw [hz.fI (by decide)]; exact g6
      have k6 : ∀ i, 0 ≤ i → i < aI τ 115 a → 0 ≤ aI (cOv1 σ (lat σ 28 a) v (fI σ 1210 1 / 86400)) (lat σ 28 a + 1) i ∧ aI (cOv1 σ (lat σ 28 a) v (fI σ 1210 1 / 86400)) (lat σ 28 a + 1) i < fI (cOv1 σ (lat σ 28 a) v (fI σ 1210 1 / 86400)) 1402 18 := fun i q1 q2 => by
        rw [hz.aI (fun z => z), hz.fI (by decide), g7 i q1 q2]
        exact ⟨(hI.sentRow_ _).1, hrow i c q1 q2⟩
      have k7 : kd (cOv1 σ (lat σ 28 a) v (fI σ 1210 1 / 86400)) 1 = 12 := by simp only [C2.eqs]
      have w40 : Go M_X11_over Q 40 [some (vr 1), some (vi a), some (vi v), some (vr (lat σ 28 a))] [] (cOv1 σ (lat σ 28 a) v (fI σ 1210 1 / 86400)) (0, 0) := by
        generalize cOv1 σ (lat σ 28 a) v (fI σ 1210 1 / 86400) = ρ at *
        clear h2 hA hrow hz
        refine go_X11_over (ct := fun p => p == 0) 40 ?_
        simp only [oI, oL, oR, o1, lI, lL, lR, popN, catS, gv, stL, stL2, swt, cnd, spObj, List.getElem?_cons_zero, List.getElem?_cons_succ, List.getD_cons_zero, List.getD_cons_succ, List.set_cons_zero, List.set_cons_succ, List.nil_append, List.cons_append, Option.toList, Bool.or_false, Bool.false_or, Bool.or_true, Bool.true_or, Nat.reduceBEq, Nat.reduceAdd, Nat.reduceLT, Nat.reduceLeDiff, Int.reduceAdd, Int.reduceToNat, true_and, and_true, Fin.isValue, Fin.val_zero, Fin.val_one, Fin.val_two, Fin.reduceFinMk, eq_self, Int.reduceNeg, imp_self, Nat.reduceMul, Nat.le_refl, not_true_eq_false, not_false_eq_true, List.getElem?_nil, reduceCtorEq, true_or, or_true, Classical.not_not, implies_true, or_self, wI_0, wI_1, wI_m1, b2i_w, b2i_eq0, b2i_eq1, b2i_bool, nor_self, nx_pI, kd_pI, ln_pI, fI_pI, fL_pI, fR_pI, aI_pI, aL_pI, aR_pI, nx_pL, kd_pL, ln_pL, fI_pL, fL_pL, fR_pL, aI_pL, aL_pL, aR_pL, nx_pR, kd_pR, ln_pR, fI_pR, fL_pR, fR_pR, aI_pR, aL_pR, aR_pR, nx_qI, kd_qI, ln_qI, fI_qI, fL_qI, fR_qI, aI_qI, aL_qI, aR_qI, nx_qL, kd_qL, ln_qL, fI_qL, fL_qL, fR_qL, aI_qL, aL_qL, aR_qL, nx_qR, kd_qR, ln_qR, fI_qR, fL_qR, fR_qR, aI_qR, aL_qR, aR_qR, nx_mk, kd_mk, ln_mk, fI_mk, fL_mk, fR_mk, aI_mk, aL_mk, aR_mk, false_and, and_false, if_false, if_true, and_self, Int.reduceEq, Nat.reduceEqDiff, ite_self, MLay_pI, MLay_pL, MLay_qI, MLay_qL, ev_X11_over_40, ev_X11_over_41, ev_X11_over_44, ev_X11_over_45, ev_X11_over_48, ev_X11_over_49, xt_X11_over, xf_X11_over, us_X1_alarmOf, us_X11_today, us_X3_bringHome, C2, C2.eqs, L2, k1, k2, k3, k4, k5, k7, hs]
        repeat' (first | intro z | apply And.intro)
        all_goals try omega
        all_goals try contradiction
        all_goals first | exact h1 | (exact (k6 _ (by assumption) (by assumption)).1) | (exact (k6 _ (by assumption) (by assumption)).2)
      unfold cOv1 at w40
      clear h1 h2 hA hrow hz C2 L2 k1 k2 k3 k4 k5 k6 k7
      refine go_X11_over (ct := fun p => p == 20 || p == 40) 40 ?_
      simp only [oI, oL, oR, o1, lI, lL, lR, popN, catS, gv, stL, stL2, swt, cnd, spObj, List.getElem?_cons_zero, List.getElem?_cons_succ, List.getD_cons_zero, List.getD_cons_succ, List.set_cons_zero, List.set_cons_succ, List.nil_append, List.cons_append, Option.toList, Bool.or_false, Bool.false_or, Bool.or_true, Bool.true_or, Nat.reduceBEq, Nat.reduceAdd, Nat.reduceLT, Nat.reduceLeDiff, Int.reduceAdd, Int.reduceToNat, true_and, and_true, Fin.isValue, Fin.val_zero, Fin.val_one, Fin.val_two, Fin.reduceFinMk, eq_self, Int.reduceNeg, imp_self, Nat.reduceMul, Nat.le_refl, not_true_eq_false, not_false_eq_true, List.getElem?_nil, reduceCtorEq, true_or, or_true, Classical.not_not, implies_true, or_self, wI_0, wI_1, wI_m1, b2i_w, b2i_eq0, b2i_eq1, b2i_bool, nor_self, nx_pI, kd_pI, ln_pI, fI_pI, fL_pI, fR_pI, aI_pI, aL_pI, aR_pI, nx_pL, kd_pL, ln_pL, fI_pL, fL_pL, fR_pL, aI_pL, aL_pL, aR_pL, nx_pR, kd_pR, ln_pR, fI_pR, fL_pR, fR_pR, aI_pR, aL_pR, aR_pR, nx_qI, kd_qI, ln_qI, fI_qI, fL_qI, fR_qI, aI_qI, aL_qI, aR_qI, nx_qL, kd_qL, ln_qL, fI_qL, fL_qL, fR_qL, aI_qL, aL_qL, aR_qL, nx_qR, kd_qR, ln_qR, fI_qR, fL_qR, fR_qR, aI_qR, aL_qR, aR_qR, nx_mk, kd_mk, ln_mk, fI_mk, fL_mk, fR_mk, aI_mk, aL_mk, aR_mk, false_and, and_false, if_false, if_true, and_self, Int.reduceEq, Nat.reduceEqDiff, ite_self, MLay_pI, MLay_pL, MLay_qI, MLay_qL, ev_X11_over_0, ev_X11_over_1, ev_X11_over_4, ev_X11_over_5, ev_X11_over_8, ev_X11_over_9, ev_X11_over_10, ev_X11_over_13, ev_X11_over_14, ev_X11_over_17, ev_X11_over_20, ev_X11_over_21, ev_X11_over_22, ev_X11_over_23, ev_X11_over_24, ev_X11_over_27, ev_X11_over_28, ev_X11_over_29, ev_X11_over_32, ev_X11_over_33, ev_X11_over_34, ev_X11_over_37, xt_X11_over, xf_X11_over, us_X1_alarmOf, us_X11_today, us_X3_bringHome, hC, hC.eqs, hL, hsz, ha, e, hk1, hp0, g9, c2, hv, hnw]
      try simp (disch := omega) only [wI_id, dv_nn, rm_nn]
      repeat' (first | intro z | apply And.intro)
      all_goals try omega
      all_goals try contradiction
      all_goals exact w40
    · have h2 := h2 (fun z => c2 z.2)
      clear h1 hA hrow
      refine go_X11_over (ct := fun p => p == 22) 40 ?_
      simp only [oI, oL, oR, o1, lI, lL, lR, popN, catS, gv, stL, stL2, swt, cnd, spObj, List.getElem?_cons_zero, List.getElem?_cons_succ, List.getD_cons_zero, List.getD_cons_succ, List.set_cons_zero, List.set_cons_succ, List.nil_append, List.cons_append, Option.toList, Bool.or_false, Bool.false_or, Bool.or_true, Bool.true_or, Nat.reduceBEq, Nat.reduceAdd, Nat.reduceLT, Nat.reduceLeDiff, Int.reduceAdd, Int.reduceToNat, true_and, and_true, Fin.isValue, Fin.val_zero, Fin.val_one, Fin.val_two, Fin.reduceFinMk, eq_self, Int.reduceNeg, imp_self, Nat.reduceMul, Nat.le_refl, not_true_eq_false, not_false_eq_true, List.getElem?_nil, reduceCtorEq, true_or, or_true, Classical.not_not, implies_true, or_self, wI_0, wI_1, wI_m1, b2i_w, b2i_eq0, b2i_eq1, b2i_bool, nor_self, nx_pI, kd_pI, ln_pI, fI_pI, fL_pI, fR_pI, aI_pI, aL_pI, aR_pI, nx_pL, kd_pL, ln_pL, fI_pL, fL_pL, fR_pL, aI_pL, aL_pL, aR_pL, nx_pR, kd_pR, ln_pR, fI_pR, fL_pR, fR_pR, aI_pR, aL_pR, aR_pR, nx_qI, kd_qI, ln_qI, fI_qI, fL_qI, fR_qI, aI_qI, aL_qI, aR_qI, nx_qL, kd_qL, ln_qL, fI_qL, fL_qL, fR_qL, aI_qL, aL_qL, aR_qL, nx_qR, kd_qR, ln_qR, fI_qR, fL_qR, fR_qR, aI_qR, aL_qR, aR_qR, nx_mk, kd_mk, ln_mk, fI_mk, fL_mk, fR_mk, aI_mk, aL_mk, aR_mk, false_and, and_false, if_false, if_true, and_self, Int.reduceEq, Nat.reduceEqDiff, ite_self, MLay_pI, MLay_pL, MLay_qI, MLay_qL, ev_X11_over_0, ev_X11_over_1, ev_X11_over_4, ev_X11_over_5, ev_X11_over_8, ev_X11_over_9, ev_X11_over_10, ev_X11_over_13, ev_X11_over_14, ev_X11_over_17, ev_X11_over_20, ev_X11_over_21, xt_X11_over, xf_X11_over, us_X1_alarmOf, us_X11_today, us_X3_bringHome, hC, hC.eqs, hL, hsz, ha, e, hk1, hp0, g9]
      try simp (disch := omega) only [wI_id, dv_nn, rm_nn]
      repeat' (first | intro z | apply And.intro)
      all_goals try omega
      all_goals try contradiction
      all_goals exact h2
  · have e : (if 0 ≤ a ∧ a < fI τ 1371 61 then lat σ 28 a else 0) = 0 := if_neg c
    have h2 := h2 (fun z => c z.1)
    clear h1 hA hrow
    refine go_X11_over (ct := fun p => p == 13) 40 ?_
    simp only [oI, oL, oR, o1, lI, lL, lR, popN, catS, gv, stL, stL2, swt, cnd, spObj, List.getElem?_cons_zero, List.getElem?_cons_succ, List.getD_cons_zero, List.getD_cons_succ, List.set_cons_zero, List.set_cons_succ, List.nil_append, List.cons_append, Option.toList, Bool.or_false, Bool.false_or, Bool.or_true, Bool.true_or, Nat.reduceBEq, Nat.reduceAdd, Nat.reduceLT, Nat.reduceLeDiff, Int.reduceAdd, Int.reduceToNat, true_and, and_true, Fin.isValue, Fin.val_zero, Fin.val_one, Fin.val_two, Fin.reduceFinMk, eq_self, Int.reduceNeg, imp_self, Nat.reduceMul, Nat.le_refl, not_true_eq_false, not_false_eq_true, List.getElem?_nil, reduceCtorEq, true_or, or_true, Classical.not_not, implies_true, or_self, wI_0, wI_1, wI_m1, b2i_w, b2i_eq0, b2i_eq1, b2i_bool, nor_self, nx_pI, kd_pI, ln_pI, fI_pI, fL_pI, fR_pI, aI_pI, aL_pI, aR_pI, nx_pL, kd_pL, ln_pL, fI_pL, fL_pL, fR_pL, aI_pL, aL_pL, aR_pL, nx_pR, kd_pR, ln_pR, fI_pR, fL_pR, fR_pR, aI_pR, aL_pR, aR_pR, nx_qI, kd_qI, ln_qI, fI_qI, fL_qI, fR_qI, aI_qI, aL_qI, aR_qI, nx_qL, kd_qL, ln_qL, fI_qL, fL_qL, fR_qL, aI_qL, aL_qL, aR_qL, nx_qR, kd_qR, ln_qR, fI_qR, fL_qR, fR_qR, aI_qR, aL_qR, aR_qR, nx_mk, kd_mk, ln_mk, fI_mk, fL_mk, fR_mk, aI_mk, aL_mk, aR_mk, false_and, and_false, if_false, if_true, and_self, Int.reduceEq, Nat.reduceEqDiff, ite_self, MLay_pI, MLay_pL, MLay_qI, MLay_qL, ev_X11_over_0, ev_X11_over_1, ev_X11_over_4, ev_X11_over_5, ev_X11_over_8, ev_X11_over_9, ev_X11_over_10, ev_X11_over_13, ev_X11_over_14, ev_X11_over_17, ev_X11_over_20, ev_X11_over_21, xt_X11_over, xf_X11_over, us_X1_alarmOf, us_X11_today, us_X3_bringHome, hC, hC.eqs, hL, hsz, ha, e]
    repeat' (first | intro z | apply And.intro)
    all_goals try omega
    all_goals try contradiction
    all_goals exact h2

theorem BG.k {σ τ : Hp} (h : BG σ τ) {c : Int} (h0 : 0 ≤ c) (h1 : c < fI τ 1335 61) : kd σ (lat σ 18 c) = 6 := h.1.2.2.2.2.2 c h0 (by rw [h.2.1]; exact h1)

def sp_X11_at : Sp := fun av σ Q => oR av fun this av => oI av fun c av => av = [] ∧ kd σ this = 12 ∧ (this = 1 ∧ CLay σ ∧ inR c ∧ ∃ τ, BG σ τ ∧ MI τ ∧ Q (some (vi (if 0 ≤ c ∧ c < fI τ 1335 61 then aI τ 89 c else -1))) σ)
theorem us_X11_at (this : Int) (c : Int) (σ : Hp) (Q : Option AV → Hp → Prop) : sp_X11_at [vr this, vi c] σ Q = (kd σ this = 12 ∧ (this = 1 ∧ CLay σ ∧ inR c ∧ ∃ τ, BG σ τ ∧ MI τ ∧ Q (some (vi (if 0 ≤ c ∧ c < fI τ 1335 61 then aI τ 89 c else -1))) σ)) := propext ⟨fun h => h.2, fun h => ⟨rfl, h⟩⟩
theorem el_X11_at {av : List AV} {σ : Hp} {Q : Option AV → Hp → Prop} (h : sp_X11_at av σ Q) : ∃ (this : Int) (c : Int), av = [vr this, vi c] ∧ (kd σ this = 12 ∧ (this = 1 ∧ CLay σ ∧ inR c ∧ ∃ τ, BG σ τ ∧ MI τ ∧ Q (some (vi (if 0 ≤ c ∧ c < fI τ 1335 61 then aI τ 89 c else -1))) σ)) := by
  obtain ⟨this, a0, rfl, h0⟩ := oR_s h
  obtain ⟨c, a1, rfl, h1⟩ := oI_s h0
  obtain ⟨rfl, hz⟩ := h1
  exact ⟨this, c, rfl, hz⟩
theorem rc_X11_at : ∀ (av : List AV) (σ : Hp) (Q : Option AV → Hp → Prop), sp_X11_at av σ Q → ∃ r tl, av = vr r :: tl ∧ kd σ r = 11 + 1 := fun av σ Q h => by
  obtain ⟨this, c, rfl, hz, -⟩ := el_X11_at h
  exact ⟨this, _, rfl, hz⟩

def tb_X11_at : Tab := [(0, .aload_n 0, 1, (0, 0, 0, 0)), (1, .getfield 38, 3, (12, 1204, 2, 0)), (4, .iload_n 1, 1, (0, 0, 0, 0)), (5, .invokevirtual 236, 3, (0, 0, 0, 0)), (8, .astore_n 2, 1, (0, 0, 0, 0)), (9, .aload_n 2, 1, (0, 0, 0, 0)), (10, .ifnull 10, 3, (0, 0, 0, 0)), (13, .aload_n 2, 1, (0, 0, 0, 0)), (14, .getfield 240, 3, (6, 603, 0, 0)), (17, .ifCond .eq 7, 3, (0, 0, 0, 0)), (20, .iconst (-1), 1, (0, 0, 0, 0)), (21, .goto 7, 3, (0, 0, 0, 0)), (24, .aload_n 2, 1, (0, 0, 0, 0)), (25, .getfield 245, 3, (6, 602, 0, 0)), (28, .ireturn, 1, (0, 0, 0, 0))]
set_option maxRecDepth 100000 in
theorem tk_X11_at : TOK RX11 false cX11_at tb_X11_at := chkT_ok ft_X11 (by decide +kernel)
theorem rw_X11_1888 : Row RX11 (.invokevirtual 236) 3 2 0 0 4 sp_X3_companyOf := row_V (n := 1) (ci := 3) c_X3_companyOf ⟨TBL_in 1286 (by decide +kernel) rfl, TBL_in 1251 (by decide +kernel) rfl, TBL_in 117 (by decide +kernel) rfl, by decide +kernel, by decide⟩ (by decide) rfl (TBL_in 1249 (by decide +kernel) rfl) (TBL_in 1250 (by decide +kernel) rfl) rc_X3_companyOf
def mt_X11_at : List (Nat × Mt) := [(1888, 2, 0, 0, 4, sp_X3_companyOf)]
theorem em_X11_at : mt_X11_at.lookup 1888 = some (2, 0, 0, 4, sp_X3_companyOf) := rfl
theorem mk_X11_at : MOK RX11 mt_X11_at := by
  intro q hq
  simp only [mt_X11_at, List.mem_cons, List.not_mem_nil, or_false] at hq
  rcases hq with rfl
  · exact rw_X11_1888
noncomputable def xe_X11_at (ct : Nat → Bool) (K : Kt) (R : Option AV → Hp → Prop) (n : Nat) : Kt := exS 3 5 0 0 1 tb_X11_at mt_X11_at ct K R n
noncomputable def xk_X11_at (ct : Nat → Bool) (K : Kt) (R : Option AV → Hp → Prop) (n : Nat) : Kt := exkS 3 5 0 0 1 tb_X11_at mt_X11_at ct K R n
theorem xt_X11_at {ct : Nat → Bool} {K : Kt} {R : Option AV → Hp → Prop} {n pc : Nat} {ls : List (Option AV)} {st : List AV} {σ : Hp} {k : Nat × Nat} (h : ct pc = true) : xk_X11_at ct K R n pc ls st σ k = K pc ls st σ k := by unfold xk_X11_at exkS; rw [h]
theorem xf_X11_at {ct : Nat → Bool} {K : Kt} {R : Option AV → Hp → Prop} {n pc : Nat} {ls : List (Option AV)} {st : List AV} {σ : Hp} {k : Nat × Nat} (h : ct pc = false) : xk_X11_at ct K R n pc ls st σ k = xe_X11_at ct K R n pc ls st σ k := by unfold xk_X11_at exkS xe_X11_at; rw [h]
theorem ev_X11_at_0 {ct : Nat → Bool} {K : Kt} {R : Option AV → Hp → Prop} {n : Nat} {ls : List (Option AV)} {st : List AV} {σ : Hp} {k : Nat × Nat} : xe_X11_at ct K R (n + 1) 0 ls st σ k = (lR ls 0 fun x => xk_X11_at ct K R n 1 ls (vr x :: st) σ k) := exS_step.trans rfl
theorem ev_X11_at_1 {ct : Nat → Bool} {K : Kt} {R : Option AV → Hp → Prop} {n : Nat} {ls : List (Option AV)} {st : List AV} {σ : Hp} {k : Nat × Nat} : xe_X11_at ct K R (n + 1) 1 ls st σ k = (oR st fun x st => kd σ x = 12 ∧ xk_X11_at ct K R n 4 ls (vr (fR σ 1204 x) :: st) σ k) := exS_step.trans rfl
theorem ev_X11_at_4 {ct : Nat → Bool} {K : Kt} {R : Option AV → Hp → Prop} {n : Nat} {ls : List (Option AV)} {st : List AV} {σ : Hp} {k : Nat × Nat} : xe_X11_at ct K R (n + 1) 4 ls st σ k = (lI ls 1 fun x => xk_X11_at ct K R n 5 ls (vi x :: st) σ k) := exS_step.trans rfl
theorem ev_X11_at_5 {ct : Nat → Bool} {K : Kt} {R : Option AV → Hp → Prop} {n : Nat} {ls : List (Option AV)} {st : List AV} {σ : Hp} {k : Nat × Nat} : xe_X11_at ct K R (n + 1) 5 ls st σ k = (popN 2 st [] fun av rest => (catS rest ≤ 8 ∧ 4 < 5 ∧ k.1 + 0 ≤ 0 ∧ k.2 + 0 ≤ 0) ∧ (sp_X3_companyOf) av σ fun v σ' => xk_X11_at ct K R n 8 ls (v.toList ++ rest) σ' (k.1 + 0, k.2 + 0)) := exS_step.trans rfl
theorem ev_X11_at_8 {ct : Nat → Bool} {K : Kt} {R : Option AV → Hp → Prop} {n : Nat} {ls : List (Option AV)} {st : List AV} {σ : Hp} {k : Nat × Nat} : xe_X11_at ct K R (n + 1) 8 ls st σ k = (oR st fun x st => 2 < 3 ∧ xk_X11_at ct K R n 9 (stL ls 2 (vr x)) st σ k) := exS_step.trans rfl
theorem ev_X11_at_9 {ct : Nat → Bool} {K : Kt} {R : Option AV → Hp → Prop} {n : Nat} {ls : List (Option AV)} {st : List AV} {σ : Hp} {k : Nat × Nat} : xe_X11_at ct K R (n + 1) 9 ls st σ k = (lR ls 2 fun x => xk_X11_at ct K R n 10 ls (vr x :: st) σ k) := exS_step.trans rfl
theorem ev_X11_at_10 {ct : Nat → Bool} {K : Kt} {R : Option AV → Hp → Prop} {n : Nat} {ls : List (Option AV)} {st : List AV} {σ : Hp} {k : Nat × Nat} : xe_X11_at ct K R (n + 1) 10 ls st σ k = (oR st fun x st => (x = 0 → xk_X11_at ct K R n 20 ls st σ k) ∧ (¬ x = 0 → xk_X11_at ct K R n 13 ls st σ k)) := exS_step.trans rfl
theorem ev_X11_at_13 {ct : Nat → Bool} {K : Kt} {R : Option AV → Hp → Prop} {n : Nat} {ls : List (Option AV)} {st : List AV} {σ : Hp} {k : Nat × Nat} : xe_X11_at ct K R (n + 1) 13 ls st σ k = (lR ls 2 fun x => xk_X11_at ct K R n 14 ls (vr x :: st) σ k) := exS_step.trans rfl
theorem ev_X11_at_14 {ct : Nat → Bool} {K : Kt} {R : Option AV → Hp → Prop} {n : Nat} {ls : List (Option AV)} {st : List AV} {σ : Hp} {k : Nat × Nat} : xe_X11_at ct K R (n + 1) 14 ls st σ k = (oR st fun x st => kd σ x = 6 ∧ xk_X11_at ct K R n 17 ls (vi (fI σ 603 x) :: st) σ k) := exS_step.trans rfl
theorem ev_X11_at_17 {ct : Nat → Bool} {K : Kt} {R : Option AV → Hp → Prop} {n : Nat} {ls : List (Option AV)} {st : List AV} {σ : Hp} {k : Nat × Nat} : xe_X11_at ct K R (n + 1) 17 ls st σ k = (oI st fun x st => (wI x = wI 0 → xk_X11_at ct K R n 24 ls st σ k) ∧ (¬ (wI x = wI 0) → xk_X11_at ct K R n 20 ls st σ k)) := exS_step.trans rfl
theorem ev_X11_at_20 {ct : Nat → Bool} {K : Kt} {R : Option AV → Hp → Prop} {n : Nat} {ls : List (Option AV)} {st : List AV} {σ : Hp} {k : Nat × Nat} : xe_X11_at ct K R (n + 1) 20 ls st σ k = (xk_X11_at ct K R n 21 ls (vi (-1) :: st) σ k) := exS_step.trans rfl
theorem ev_X11_at_21 {ct : Nat → Bool} {K : Kt} {R : Option AV → Hp → Prop} {n : Nat} {ls : List (Option AV)} {st : List AV} {σ : Hp} {k : Nat × Nat} : xe_X11_at ct K R (n + 1) 21 ls st σ k = (xk_X11_at ct K R n 28 ls st σ k) := exS_step.trans rfl
theorem ev_X11_at_24 {ct : Nat → Bool} {K : Kt} {R : Option AV → Hp → Prop} {n : Nat} {ls : List (Option AV)} {st : List AV} {σ : Hp} {k : Nat × Nat} : xe_X11_at ct K R (n + 1) 24 ls st σ k = (lR ls 2 fun x => xk_X11_at ct K R n 25 ls (vr x :: st) σ k) := exS_step.trans rfl
theorem ev_X11_at_25 {ct : Nat → Bool} {K : Kt} {R : Option AV → Hp → Prop} {n : Nat} {ls : List (Option AV)} {st : List AV} {σ : Hp} {k : Nat × Nat} : xe_X11_at ct K R (n + 1) 25 ls st σ k = (oR st fun x st => kd σ x = 6 ∧ xk_X11_at ct K R n 28 ls (vi (fI σ 602 x) :: st) σ k) := exS_step.trans rfl
theorem ev_X11_at_28 {ct : Nat → Bool} {K : Kt} {R : Option AV → Hp → Prop} {n : Nat} {ls : List (Option AV)} {st : List AV} {σ : Hp} {k : Nat × Nat} : xe_X11_at ct K R (n + 1) 28 ls st σ k = (oI st fun x st => st = [] ∧ True ∧ R (some (vi x)) σ) := exS_step.trans rfl
def M_X11_at : Md := (yX11_at, cX11_at, 3, (some FieldType.int), 5, 0, 0, 1, false, tb_X11_at, mt_X11_at)
theorem mm_X11_at : MMOK M_X11_at := ⟨by decide +kernel, tk_X11_at, mk_X11_at, rfl, fun h => by cases h⟩
theorem go_X11_at {Q : Option AV → Hp → Prop} {ct : Nat → Bool} {pc : Nat} {ls : List (Option AV)} {st : List AV} {σ : Hp} {k : Nat × Nat} (n : Nat) (h : xe_X11_at ct (Go M_X11_at Q) Q n pc ls st σ k) : Go M_X11_at Q pc ls st σ k := Go.exS mm_X11_at h

set_option maxRecDepth 20000 in
theorem c_X11_at : Ct yX11_at cX11_at 3 ((some FieldType.int)) 5 0 0 sp_X11_at := by
  refine Ct.go (M := M_X11_at) mm_X11_at fun av σ Q h0 => ?_
  obtain ⟨this, c, rfl, hk, h⟩ := el_X11_at h0
  clear h0
  refine ⟨Nat.le_of_ble_eq_true rfl, ?_⟩
  show Go M_X11_at Q 0 [some (vr this), some (vi c), none] [] σ (0, 0)
  obtain ⟨rfl, hC, hc, τ, hG, hI, h⟩ := h
  have hL := hG.1
  have hsz := hG.2.1
  by_cases y : 0 ≤ c ∧ c < fI τ 1335 61
  · have e : (if 0 ≤ c ∧ c < fI τ 1335 61 then lat σ 18 c else 0) = lat σ 18 c := if_pos y
    have hkc := hG.k y.1 y.2
    obtain ⟨p1, -, -, p4, p5, p6⟩ := hG.2.2.1 c y.1 y.2
    have hp0 : ¬ lat σ 18 c = 0 := by omega
    have hr := hI.isAt_ c
    rw [if_pos y] at h
    clear hG
    by_cases z : aI τ 89 c < 0
    · have q := (p4 z).1
      have e1 : aI τ 89 c = -1 := by omega
      rw [e1] at h
      clear p4 p5
      refine go_X11_at (ct := fun p => p == 24) 40 ?_
      simp only [oI, oL, oR, o1, lI, lL, lR, popN, catS, gv, stL, stL2, swt, cnd, spObj, List.getElem?_cons_zero, List.getElem?_cons_succ, List.getD_cons_zero, List.getD_cons_succ, List.set_cons_zero, List.set_cons_succ, List.nil_append, List.cons_append, Option.toList, Bool.or_false, Bool.false_or, Bool.or_true, Bool.true_or, Nat.reduceBEq, Nat.reduceAdd, Nat.reduceLT, Nat.reduceLeDiff, Int.reduceAdd, Int.reduceToNat, true_and, and_true, Fin.isValue, Fin.val_zero, Fin.val_one, Fin.val_two, Fin.reduceFinMk, eq_self, Int.reduceNeg, imp_self, Nat.reduceMul, Nat.le_refl, not_true_eq_false, not_false_eq_true, List.getElem?_nil, reduceCtorEq, true_or, or_true, Classical.not_not, implies_true, or_self, wI_0, wI_1, wI_m1, b2i_w, b2i_eq0, b2i_eq1, b2i_bool, nor_self, nx_pI, kd_pI, ln_pI, fI_pI, fL_pI, fR_pI, aI_pI, aL_pI, aR_pI, nx_pL, kd_pL, ln_pL, fI_pL, fL_pL, fR_pL, aI_pL, aL_pL, aR_pL, nx_pR, kd_pR, ln_pR, fI_pR, fL_pR, fR_pR, aI_pR, aL_pR, aR_pR, nx_qI, kd_qI, ln_qI, fI_qI, fL_qI, fR_qI, aI_qI, aL_qI, aR_qI, nx_qL, kd_qL, ln_qL, fI_qL, fL_qL, fR_qL, aI_qL, aL_qL, aR_qL, nx_qR, kd_qR, ln_qR, fI_qR, fL_qR, fR_qR, aI_qR, aL_qR, aR_qR, nx_mk, kd_mk, ln_mk, fI_mk, fL_mk, fR_mk, aI_mk, aL_mk, aR_mk, false_and, and_false, if_false, if_true, and_self, Int.reduceEq, Nat.reduceEqDiff, ite_self, MLay_pI, MLay_pL, MLay_qI, MLay_qL, ev_X11_at_0, ev_X11_at_1, ev_X11_at_4, ev_X11_at_5, ev_X11_at_8, ev_X11_at_9, ev_X11_at_10, ev_X11_at_13, ev_X11_at_14, ev_X11_at_17, ev_X11_at_20, ev_X11_at_21, ev_X11_at_24, ev_X11_at_25, ev_X11_at_28, xt_X11_at, xf_X11_at, us_X3_companyOf, hC, hC.eqs, hL, hsz, hc, e, hkc, hp0, q]
      try simp (disch := omega) only [wI_id, dv_nn, rm_nn]
      repeat' (first | intro z | apply And.intro)
      all_goals try omega
      all_goals try contradiction
      all_goals exact h
    · have q := p5 (by omega)
      clear p4 p5
      refine go_X11_at (ct := fun p => p == 20) 40 ?_
      simp only [oI, oL, oR, o1, lI, lL, lR, popN, catS, gv, stL, stL2, swt, cnd, spObj, List.getElem?_cons_zero, List.getElem?_cons_succ, List.getD_cons_zero, List.getD_cons_succ, List.set_cons_zero, List.set_cons_succ, List.nil_append, List.cons_append, Option.toList, Bool.or_false, Bool.false_or, Bool.or_true, Bool.true_or, Nat.reduceBEq, Nat.reduceAdd, Nat.reduceLT, Nat.reduceLeDiff, Int.reduceAdd, Int.reduceToNat, true_and, and_true, Fin.isValue, Fin.val_zero, Fin.val_one, Fin.val_two, Fin.reduceFinMk, eq_self, Int.reduceNeg, imp_self, Nat.reduceMul, Nat.le_refl, not_true_eq_false, not_false_eq_true, List.getElem?_nil, reduceCtorEq, true_or, or_true, Classical.not_not, implies_true, or_self, wI_0, wI_1, wI_m1, b2i_w, b2i_eq0, b2i_eq1, b2i_bool, nor_self, nx_pI, kd_pI, ln_pI, fI_pI, fL_pI, fR_pI, aI_pI, aL_pI, aR_pI, nx_pL, kd_pL, ln_pL, fI_pL, fL_pL, fR_pL, aI_pL, aL_pL, aR_pL, nx_pR, kd_pR, ln_pR, fI_pR, fL_pR, fR_pR, aI_pR, aL_pR, aR_pR, nx_qI, kd_qI, ln_qI, fI_qI, fL_qI, fR_qI, aI_qI, aL_qI, aR_qI, nx_qL, kd_qL, ln_qL, fI_qL, fL_qL, fR_qL, aI_qL, aL_qL, aR_qL, nx_qR, kd_qR, ln_qR, fI_qR, fL_qR, fR_qR, aI_qR, aL_qR, aR_qR, nx_mk, kd_mk, ln_mk, fI_mk, fL_mk, fR_mk, aI_mk, aL_mk, aR_mk, false_and, and_false, if_false, if_true, and_self, Int.reduceEq, Nat.reduceEqDiff, ite_self, MLay_pI, MLay_pL, MLay_qI, MLay_qL, ev_X11_at_0, ev_X11_at_1, ev_X11_at_4, ev_X11_at_5, ev_X11_at_8, ev_X11_at_9, ev_X11_at_10, ev_X11_at_13, ev_X11_at_14, ev_X11_at_17, ev_X11_at_20, ev_X11_at_21, ev_X11_at_24, ev_X11_at_25, ev_X11_at_28, xt_X11_at, xf_X11_at, us_X3_companyOf, hC, hC.eqs, hL, hsz, hc, e, hkc, hp0, q]
      try simp (disch := omega) only [wI_id, dv_nn, rm_nn]
      repeat' (first | intro z | apply And.intro)
      all_goals try omega
      all_goals try contradiction
      all_goals exact h
  · have e : (if 0 ≤ c ∧ c < fI τ 1335 61 then lat σ 18 c else 0) = 0 := if_neg y
    rw [if_neg y] at h
    clear hG
    refine go_X11_at (ct := fun p => p == 13) 40 ?_
    simp only [oI, oL, oR, o1, lI, lL, lR, popN, catS, gv, stL, stL2, swt, cnd, spObj, List.getElem?_cons_zero, List.getElem?_cons_succ, List.getD_cons_zero, List.getD_cons_succ, List.set_cons_zero, List.set_cons_succ, List.nil_append, List.cons_append, Option.toList, Bool.or_false, Bool.false_or, Bool.or_true, Bool.true_or, Nat.reduceBEq, Nat.reduceAdd, Nat.reduceLT, Nat.reduceLeDiff, Int.reduceAdd, Int.reduceToNat, true_and, and_true, Fin.isValue, Fin.val_zero, Fin.val_one, Fin.val_two, Fin.reduceFinMk, eq_self, Int.reduceNeg, imp_self, Nat.reduceMul, Nat.le_refl, not_true_eq_false, not_false_eq_true, List.getElem?_nil, reduceCtorEq, true_or, or_true, Classical.not_not, implies_true, or_self, wI_0, wI_1, wI_m1, b2i_w, b2i_eq0, b2i_eq1, b2i_bool, nor_self, nx_pI, kd_pI, ln_pI, fI_pI, fL_pI, fR_pI, aI_pI, aL_pI, aR_pI, nx_pL, kd_pL, ln_pL, fI_pL, fL_pL, fR_pL, aI_pL, aL_pL, aR_pL, nx_pR, kd_pR, ln_pR, fI_pR, fL_pR, fR_pR, aI_pR, aL_pR, aR_pR, nx_qI, kd_qI, ln_qI, fI_qI, fL_qI, fR_qI, aI_qI, aL_qI, aR_qI, nx_qL, kd_qL, ln_qL, fI_qL, fL_qL, fR_qL, aI_qL, aL_qL, aR_qL, nx_qR, kd_qR, ln_qR, fI_qR, fL_qR, fR_qR, aI_qR, aL_qR, aR_qR, nx_mk, kd_mk, ln_mk, fI_mk, fL_mk, fR_mk, aI_mk, aL_mk, aR_mk, false_and, and_false, if_false, if_true, and_self, Int.reduceEq, Nat.reduceEqDiff, ite_self, MLay_pI, MLay_pL, MLay_qI, MLay_qL, ev_X11_at_0, ev_X11_at_1, ev_X11_at_4, ev_X11_at_5, ev_X11_at_8, ev_X11_at_9, ev_X11_at_10, ev_X11_at_13, ev_X11_at_14, ev_X11_at_17, ev_X11_at_20, ev_X11_at_21, ev_X11_at_24, ev_X11_at_25, ev_X11_at_28, xt_X11_at, xf_X11_at, us_X3_companyOf, hC, hC.eqs, hL, hsz, hc, e]
    repeat' (first | intro z | apply And.intro)
    all_goals try omega
    all_goals try contradiction
    all_goals exact h

def sp_X11_there : Sp := fun av σ Q => oR av fun this av => oI av fun c av => av = [] ∧ kd σ this = 12 ∧ (this = 1 ∧ CLay σ ∧ inR c ∧ ∃ τ, BG σ τ ∧ MI τ ∧ Q (some (vi (if (0 ≤ c ∧ c < fI τ 1335 61) ∧ aI τ 89 c < 0 then aI τ 91 c else -1))) σ)
theorem us_X11_there (this : Int) (c : Int) (σ : Hp) (Q : Option AV → Hp → Prop) : sp_X11_there [vr this, vi c] σ Q = (kd σ this = 12 ∧ (this = 1 ∧ CLay σ ∧ inR c ∧ ∃ τ, BG σ τ ∧ MI τ ∧ Q (some (vi (if (0 ≤ c ∧ c < fI τ 1335 61) ∧ aI τ 89 c < 0 then aI τ 91 c else -1))) σ)) := propext ⟨fun h => h.2, fun h => ⟨rfl, h⟩⟩
theorem el_X11_there {av : List AV} {σ : Hp} {Q : Option AV → Hp → Prop} (h : sp_X11_there av σ Q) : ∃ (this : Int) (c : Int), av = [vr this, vi c] ∧ (kd σ this = 12 ∧ (this = 1 ∧ CLay σ ∧ inR c ∧ ∃ τ, BG σ τ ∧ MI τ ∧ Q (some (vi (if (0 ≤ c ∧ c < fI τ 1335 61) ∧ aI τ 89 c < 0 then aI τ 91 c else -1))) σ)) := by
  obtain ⟨this, a0, rfl, h0⟩ := oR_s h
  obtain ⟨c, a1, rfl, h1⟩ := oI_s h0
  obtain ⟨rfl, hz⟩ := h1
  exact ⟨this, c, rfl, hz⟩
theorem rc_X11_there : ∀ (av : List AV) (σ : Hp) (Q : Option AV → Hp → Prop), sp_X11_there av σ Q → ∃ r tl, av = vr r :: tl ∧ kd σ r = 11 + 1 := fun av σ Q h => by
  obtain ⟨this, c, rfl, hz, -⟩ := el_X11_there h
  exact ⟨this, _, rfl, hz⟩

def tb_X11_there : Tab := [(0, .aload_n 0, 1, (0, 0, 0, 0)), (1, .getfield 38, 3, (12, 1204, 2, 0)), (4, .iload_n 1, 1, (0, 0, 0, 0)), (5, .invokevirtual 236, 3, (0, 0, 0, 0)), (8, .astore_n 2, 1, (0, 0, 0, 0)), (9, .aload_n 2, 1, (0, 0, 0, 0)), (10, .ifnull 10, 3, (0, 0, 0, 0)), (13, .aload_n 2, 1, (0, 0, 0, 0)), (14, .getfield 240, 3, (6, 603, 0, 0)), (17, .ifCond .ne 7, 3, (0, 0, 0, 0)), (20, .iconst (-1), 1, (0, 0, 0, 0)), (21, .goto 7, 3, (0, 0, 0, 0)), (24, .aload_n 2, 1, (0, 0, 0, 0)), (25, .getfield 248, 3, (6, 604, 0, 0)), (28, .ireturn, 1, (0, 0, 0, 0))]
set_option maxRecDepth 100000 in
theorem tk_X11_there : TOK RX11 false cX11_there tb_X11_there := chkT_ok ft_X11 (by decide +kernel)
def mt_X11_there : List (Nat × Mt) := [(1888, 2, 0, 0, 4, sp_X3_companyOf)]
theorem em_X11_there : mt_X11_there.lookup 1888 = some (2, 0, 0, 4, sp_X3_companyOf) := rfl
theorem mk_X11_there : MOK RX11 mt_X11_there := by
  intro q hq
  simp only [mt_X11_there, List.mem_cons, List.not_mem_nil, or_false] at hq
  rcases hq with rfl
  · exact rw_X11_1888
noncomputable def xe_X11_there (ct : Nat → Bool) (K : Kt) (R : Option AV → Hp → Prop) (n : Nat) : Kt := exS 3 5 0 0 1 tb_X11_there mt_X11_there ct K R n
noncomputable def xk_X11_there (ct : Nat → Bool) (K : Kt) (R : Option AV → Hp → Prop) (n : Nat) : Kt := exkS 3 5 0 0 1 tb_X11_there mt_X11_there ct K R n
theorem xt_X11_there {ct : Nat → Bool} {K : Kt} {R : Option AV → Hp → Prop} {n pc : Nat} {ls : List (Option AV)} {st : List AV} {σ : Hp} {k : Nat × Nat} (h : ct pc = true) : xk_X11_there ct K R n pc ls st σ k = K pc ls st σ k := by unfold xk_X11_there exkS; rw [h]
theorem xf_X11_there {ct : Nat → Bool} {K : Kt} {R : Option AV → Hp → Prop} {n pc : Nat} {ls : List (Option AV)} {st : List AV} {σ : Hp} {k : Nat × Nat} (h : ct pc = false) : xk_X11_there ct K R n pc ls st σ k = xe_X11_there ct K R n pc ls st σ k := by unfold xk_X11_there exkS xe_X11_there; rw [h]
theorem ev_X11_there_0 {ct : Nat → Bool} {K : Kt} {R : Option AV → Hp → Prop} {n : Nat} {ls : List (Option AV)} {st : List AV} {σ : Hp} {k : Nat × Nat} : xe_X11_there ct K R (n + 1) 0 ls st σ k = (lR ls 0 fun x => xk_X11_there ct K R n 1 ls (vr x :: st) σ k) := exS_step.trans rfl
theorem ev_X11_there_1 {ct : Nat → Bool} {K : Kt} {R : Option AV → Hp → Prop} {n : Nat} {ls : List (Option AV)} {st : List AV} {σ : Hp} {k : Nat × Nat} : xe_X11_there ct K R (n + 1) 1 ls st σ k = (oR st fun x st => kd σ x = 12 ∧ xk_X11_there ct K R n 4 ls (vr (fR σ 1204 x) :: st) σ k) := exS_step.trans rfl
theorem ev_X11_there_4 {ct : Nat → Bool} {K : Kt} {R : Option AV → Hp → Prop} {n : Nat} {ls : List (Option AV)} {st : List AV} {σ : Hp} {k : Nat × Nat} : xe_X11_there ct K R (n + 1) 4 ls st σ k = (lI ls 1 fun x => xk_X11_there ct K R n 5 ls (vi x :: st) σ k) := exS_step.trans rfl
theorem ev_X11_there_5 {ct : Nat → Bool} {K : Kt} {R : Option AV → Hp → Prop} {n : Nat} {ls : List (Option AV)} {st : List AV} {σ : Hp} {k : Nat × Nat} : xe_X11_there ct K R (n + 1) 5 ls st σ k = (popN 2 st [] fun av rest => (catS rest ≤ 8 ∧ 4 < 5 ∧ k.1 + 0 ≤ 0 ∧ k.2 + 0 ≤ 0) ∧ (sp_X3_companyOf) av σ fun v σ' => xk_X11_there ct K R n 8 ls (v.toList ++ rest) σ' (k.1 + 0, k.2 + 0)) := exS_step.trans rfl
theorem ev_X11_there_8 {ct : Nat → Bool} {K : Kt} {R : Option AV → Hp → Prop} {n : Nat} {ls : List (Option AV)} {st : List AV} {σ : Hp} {k : Nat × Nat} : xe_X11_there ct K R (n + 1) 8 ls st σ k = (oR st fun x st => 2 < 3 ∧ xk_X11_there ct K R n 9 (stL ls 2 (vr x)) st σ k) := exS_step.trans rfl
theorem ev_X11_there_9 {ct : Nat → Bool} {K : Kt} {R : Option AV → Hp → Prop} {n : Nat} {ls : List (Option AV)} {st : List AV} {σ : Hp} {k : Nat × Nat} : xe_X11_there ct K R (n + 1) 9 ls st σ k = (lR ls 2 fun x => xk_X11_there ct K R n 10 ls (vr x :: st) σ k) := exS_step.trans rfl
theorem ev_X11_there_10 {ct : Nat → Bool} {K : Kt} {R : Option AV → Hp → Prop} {n : Nat} {ls : List (Option AV)} {st : List AV} {σ : Hp} {k : Nat × Nat} : xe_X11_there ct K R (n + 1) 10 ls st σ k = (oR st fun x st => (x = 0 → xk_X11_there ct K R n 20 ls st σ k) ∧ (¬ x = 0 → xk_X11_there ct K R n 13 ls st σ k)) := exS_step.trans rfl
theorem ev_X11_there_13 {ct : Nat → Bool} {K : Kt} {R : Option AV → Hp → Prop} {n : Nat} {ls : List (Option AV)} {st : List AV} {σ : Hp} {k : Nat × Nat} : xe_X11_there ct K R (n + 1) 13 ls st σ k = (lR ls 2 fun x => xk_X11_there ct K R n 14 ls (vr x :: st) σ k) := exS_step.trans rfl
theorem ev_X11_there_14 {ct : Nat → Bool} {K : Kt} {R : Option AV → Hp → Prop} {n : Nat} {ls : List (Option AV)} {st : List AV} {σ : Hp} {k : Nat × Nat} : xe_X11_there ct K R (n + 1) 14 ls st σ k = (oR st fun x st => kd σ x = 6 ∧ xk_X11_there ct K R n 17 ls (vi (fI σ 603 x) :: st) σ k) := exS_step.trans rfl
theorem ev_X11_there_17 {ct : Nat → Bool} {K : Kt} {R : Option AV → Hp → Prop} {n : Nat} {ls : List (Option AV)} {st : List AV} {σ : Hp} {k : Nat × Nat} : xe_X11_there ct K R (n + 1) 17 ls st σ k = (oI st fun x st => (¬ wI x = wI 0 → xk_X11_there ct K R n 24 ls st σ k) ∧ (¬ (¬ wI x = wI 0) → xk_X11_there ct K R n 20 ls st σ k)) := exS_step.trans rfl
theorem ev_X11_there_20 {ct : Nat → Bool} {K : Kt} {R : Option AV → Hp → Prop} {n : Nat} {ls : List (Option AV)} {st : List AV} {σ : Hp} {k : Nat × Nat} : xe_X11_there ct K R (n + 1) 20 ls st σ k = (xk_X11_there ct K R n 21 ls (vi (-1) :: st) σ k) := exS_step.trans rfl
theorem ev_X11_there_21 {ct : Nat → Bool} {K : Kt} {R : Option AV → Hp → Prop} {n : Nat} {ls : List (Option AV)} {st : List AV} {σ : Hp} {k : Nat × Nat} : xe_X11_there ct K R (n + 1) 21 ls st σ k = (xk_X11_there ct K R n 28 ls st σ k) := exS_step.trans rfl
theorem ev_X11_there_24 {ct : Nat → Bool} {K : Kt} {R : Option AV → Hp → Prop} {n : Nat} {ls : List (Option AV)} {st : List AV} {σ : Hp} {k : Nat × Nat} : xe_X11_there ct K R (n + 1) 24 ls st σ k = (lR ls 2 fun x => xk_X11_there ct K R n 25 ls (vr x :: st) σ k) := exS_step.trans rfl
theorem ev_X11_there_25 {ct : Nat → Bool} {K : Kt} {R : Option AV → Hp → Prop} {n : Nat} {ls : List (Option AV)} {st : List AV} {σ : Hp} {k : Nat × Nat} : xe_X11_there ct K R (n + 1) 25 ls st σ k = (oR st fun x st => kd σ x = 6 ∧ xk_X11_there ct K R n 28 ls (vi (fI σ 604 x) :: st) σ k) := exS_step.trans rfl
theorem ev_X11_there_28 {ct : Nat → Bool} {K : Kt} {R : Option AV → Hp → Prop} {n : Nat} {ls : List (Option AV)} {st : List AV} {σ : Hp} {k : Nat × Nat} : xe_X11_there ct K R (n + 1) 28 ls st σ k = (oI st fun x st => st = [] ∧ True ∧ R (some (vi x)) σ) := exS_step.trans rfl
def M_X11_there : Md := (yX11_there, cX11_there, 3, (some FieldType.int), 5, 0, 0, 1, false, tb_X11_there, mt_X11_there)
theorem mm_X11_there : MMOK M_X11_there := ⟨by decide +kernel, tk_X11_there, mk_X11_there, rfl, fun h => by cases h⟩
theorem go_X11_there {Q : Option AV → Hp → Prop} {ct : Nat → Bool} {pc : Nat} {ls : List (Option AV)} {st : List AV} {σ : Hp} {k : Nat × Nat} (n : Nat) (h : xe_X11_there ct (Go M_X11_there Q) Q n pc ls st σ k) : Go M_X11_there Q pc ls st σ k := Go.exS mm_X11_there h

set_option maxRecDepth 20000 in
theorem c_X11_there : Ct yX11_there cX11_there 3 ((some FieldType.int)) 5 0 0 sp_X11_there := by
  refine Ct.go (M := M_X11_there) mm_X11_there fun av σ Q h0 => ?_
  obtain ⟨this, c, rfl, hk, h⟩ := el_X11_there h0
  clear h0
  refine ⟨Nat.le_of_ble_eq_true rfl, ?_⟩
  show Go M_X11_there Q 0 [some (vr this), some (vi c), none] [] σ (0, 0)
  obtain ⟨rfl, hC, hc, τ, hG, hI, h⟩ := h
  have hL := hG.1
  have hsz := hG.2.1
  by_cases y : 0 ≤ c ∧ c < fI τ 1335 61
  · have e : (if 0 ≤ c ∧ c < fI τ 1335 61 then lat σ 18 c else 0) = lat σ 18 c := if_pos y
    have hkc := hG.k y.1 y.2
    obtain ⟨p1, -, -, p4, p5, p6⟩ := hG.2.2.1 c y.1 y.2
    have hp0 : ¬ lat σ 18 c = 0 := by omega
    clear hG
    by_cases z : aI τ 89 c < 0
    · have q := p4 z
      rw [if_pos ⟨y, z⟩] at h
      clear p4 p5
      refine go_X11_there (ct := fun p => p == 20) 40 ?_
      simp only [oI, oL, oR, o1, lI, lL, lR, popN, catS, gv, stL, stL2, swt, cnd, spObj, List.getElem?_cons_zero, List.getElem?_cons_succ, List.getD_cons_zero, List.getD_cons_succ, List.set_cons_zero, List.set_cons_succ, List.nil_append, List.cons_append, Option.toList, Bool.or_false, Bool.false_or, Bool.or_true, Bool.true_or, Nat.reduceBEq, Nat.reduceAdd, Nat.reduceLT, Nat.reduceLeDiff, Int.reduceAdd, Int.reduceToNat, true_and, and_true, Fin.isValue, Fin.val_zero, Fin.val_one, Fin.val_two, Fin.reduceFinMk, eq_self, Int.reduceNeg, imp_self, Nat.reduceMul, Nat.le_refl, not_true_eq_false, not_false_eq_true, List.getElem?_nil, reduceCtorEq, true_or, or_true, Classical.not_not, implies_true, or_self, wI_0, wI_1, wI_m1, b2i_w, b2i_eq0, b2i_eq1, b2i_bool, nor_self, nx_pI, kd_pI, ln_pI, fI_pI, fL_pI, fR_pI, aI_pI, aL_pI, aR_pI, nx_pL, kd_pL, ln_pL, fI_pL, fL_pL, fR_pL, aI_pL, aL_pL, aR_pL, nx_pR, kd_pR, ln_pR, fI_pR, fL_pR, fR_pR, aI_pR, aL_pR, aR_pR, nx_qI, kd_qI, ln_qI, fI_qI, fL_qI, fR_qI, aI_qI, aL_qI, aR_qI, nx_qL, kd_qL, ln_qL, fI_qL, fL_qL, fR_qL, aI_qL, aL_qL, aR_qL, nx_qR, kd_qR, ln_qR, fI_qR, fL_qR, fR_qR, aI_qR, aL_qR, aR_qR, nx_mk, kd_mk, ln_mk, fI_mk, fL_mk, fR_mk, aI_mk, aL_mk, aR_mk, false_and, and_false, if_false, if_true, and_self, Int.reduceEq, Nat.reduceEqDiff, ite_self, MLay_pI, MLay_pL, MLay_qI, MLay_qL, ev_X11_there_0, ev_X11_there_1, ev_X11_there_4, ev_X11_there_5, ev_X11_there_8, ev_X11_there_9, ev_X11_there_10, ev_X11_there_13, ev_X11_there_14, ev_X11_there_17, ev_X11_there_20, ev_X11_there_21, ev_X11_there_24, ev_X11_there_25, ev_X11_there_28, xt_X11_there, xf_X11_there, us_X3_companyOf, hC, hC.eqs, hL, hsz, hc, e, hkc, hp0, q]
      try simp (disch := omega) only [wI_id, dv_nn, rm_nn]
      repeat' (first | intro z | apply And.intro)
      all_goals try omega
      all_goals try contradiction
      all_goals exact h
    · have q := (p5 (by omega)).1
      rw [if_neg (fun x => z x.2)] at h
      clear p4 p5
      refine go_X11_there (ct := fun p => p == 24) 40 ?_
      simp only [oI, oL, oR, o1, lI, lL, lR, popN, catS, gv, stL, stL2, swt, cnd, spObj, List.getElem?_cons_zero, List.getElem?_cons_succ, List.getD_cons_zero, List.getD_cons_succ, List.set_cons_zero, List.set_cons_succ, List.nil_append, List.cons_append, Option.toList, Bool.or_false, Bool.false_or, Bool.or_true, Bool.true_or, Nat.reduceBEq, Nat.reduceAdd, Nat.reduceLT, Nat.reduceLeDiff, Int.reduceAdd, Int.reduceToNat, true_and, and_true, Fin.isValue, Fin.val_zero, Fin.val_one, Fin.val_two, Fin.reduceFinMk, eq_self, Int.reduceNeg, imp_self, Nat.reduceMul, Nat.le_refl, not_true_eq_false, not_false_eq_true, List.getElem?_nil, reduceCtorEq, true_or, or_true, Classical.not_not, implies_true, or_self, wI_0, wI_1, wI_m1, b2i_w, b2i_eq0, b2i_eq1, b2i_bool, nor_self, nx_pI, kd_pI, ln_pI, fI_pI, fL_pI, fR_pI, aI_pI, aL_pI, aR_pI, nx_pL, kd_pL, ln_pL, fI_pL, fL_pL, fR_pL, aI_pL, aL_pL, aR_pL, nx_pR, kd_pR, ln_pR, fI_pR, fL_pR, fR_pR, aI_pR, aL_pR, aR_pR, nx_qI, kd_qI, ln_qI, fI_qI, fL_qI, fR_qI, aI_qI, aL_qI, aR_qI, nx_qL, kd_qL, ln_qL, fI_qL, fL_qL, fR_qL, aI_qL, aL_qL, aR_qL, nx_qR, kd_qR, ln_qR, fI_qR, fL_qR, fR_qR, aI_qR, aL_qR, aR_qR, nx_mk, kd_mk, ln_mk, fI_mk, fL_mk, fR_mk, aI_mk, aL_mk, aR_mk, false_and, and_false, if_false, if_true, and_self, Int.reduceEq, Nat.reduceEqDiff, ite_self, MLay_pI, MLay_pL, MLay_qI, MLay_qL, ev_X11_there_0, ev_X11_there_1, ev_X11_there_4, ev_X11_there_5, ev_X11_there_8, ev_X11_there_9, ev_X11_there_10, ev_X11_there_13, ev_X11_there_14, ev_X11_there_17, ev_X11_there_20, ev_X11_there_21, ev_X11_there_24, ev_X11_there_25, ev_X11_there_28, xt_X11_there, xf_X11_there, us_X3_companyOf, hC, hC.eqs, hL, hsz, hc, e, hkc, hp0, q]
      try simp (disch := omega) only [wI_id, dv_nn, rm_nn]
      repeat' (first | intro z | apply And.intro)
      all_goals try omega
      all_goals try contradiction
      all_goals exact h
  · have e : (if 0 ≤ c ∧ c < fI τ 1335 61 then lat σ 18 c else 0) = 0 := if_neg y
    rw [if_neg (fun x => y x.1)] at h
    clear hG
    refine go_X11_there (ct := fun p => p == 13) 40 ?_
    simp only [oI, oL, oR, o1, lI, lL, lR, popN, catS, gv, stL, stL2, swt, cnd, spObj, List.getElem?_cons_zero, List.getElem?_cons_succ, List.getD_cons_zero, List.getD_cons_succ, List.set_cons_zero, List.set_cons_succ, List.nil_append, List.cons_append, Option.toList, Bool.or_false, Bool.false_or, Bool.or_true, Bool.true_or, Nat.reduceBEq, Nat.reduceAdd, Nat.reduceLT, Nat.reduceLeDiff, Int.reduceAdd, Int.reduceToNat, true_and, and_true, Fin.isValue, Fin.val_zero, Fin.val_one, Fin.val_two, Fin.reduceFinMk, eq_self, Int.reduceNeg, imp_self, Nat.reduceMul, Nat.le_refl, not_true_eq_false, not_false_eq_true, List.getElem?_nil, reduceCtorEq, true_or, or_true, Classical.not_not, implies_true, or_self, wI_0, wI_1, wI_m1, b2i_w, b2i_eq0, b2i_eq1, b2i_bool, nor_self, nx_pI, kd_pI, ln_pI, fI_pI, fL_pI, fR_pI, aI_pI, aL_pI, aR_pI, nx_pL, kd_pL, ln_pL, fI_pL, fL_pL, fR_pL, aI_pL, aL_pL, aR_pL, nx_pR, kd_pR, ln_pR, fI_pR, fL_pR, fR_pR, aI_pR, aL_pR, aR_pR, nx_qI, kd_qI, ln_qI, fI_qI, fL_qI, fR_qI, aI_qI, aL_qI, aR_qI, nx_qL, kd_qL, ln_qL, fI_qL, fL_qL, fR_qL, aI_qL, aL_qL, aR_qL, nx_qR, kd_qR, ln_qR, fI_qR, fL_qR, fR_qR, aI_qR, aL_qR, aR_qR, nx_mk, kd_mk, ln_mk, fI_mk, fL_mk, fR_mk, aI_mk, aL_mk, aR_mk, false_and, and_false, if_false, if_true, and_self, Int.reduceEq, Nat.reduceEqDiff, ite_self, MLay_pI, MLay_pL, MLay_qI, MLay_qL, ev_X11_there_0, ev_X11_there_1, ev_X11_there_4, ev_X11_there_5, ev_X11_there_8, ev_X11_there_9, ev_X11_there_10, ev_X11_there_13, ev_X11_there_14, ev_X11_there_17, ev_X11_there_20, ev_X11_there_21, ev_X11_there_24, ev_X11_there_25, ev_X11_there_28, xt_X11_there, xf_X11_there, us_X3_companyOf, hC, hC.eqs, hL, hsz, hc, e]
    repeat' (first | intro z | apply And.intro)
    all_goals try omega
    all_goals try contradiction
    all_goals exact h

def sp_X11_word : Sp := fun av σ Q => oR av fun this av => oI av fun a av => oI av fun v av => av = [] ∧ kd σ this = 12 ∧ (this = 1 ∧ CLay σ ∧ inR a ∧ (v = 0 ∨ v = 1) ∧ (0 ≤ fI σ 1210 1 ∧ fI σ 1210 1 ≤ 999999) ∧ ∃ τ, AL σ τ ∧ MI τ ∧   (((0 ≤ a ∧ a < fI τ 1371 61) ∧ ¬ aI τ 112 a = 0 ∧ ¬ fI τ 1380 61 = 200) → Q (some (vi 1)) (pI (qI (qI (qI σ 29 (fI τ 1380 61) a) 30 (fI τ 1380 61) (fI σ 1210 1 / 86400)) 31 (fI τ 1380 61) v) 204 27 (fI τ 1380 61 + 1))) ∧ (¬ ((0 ≤ a ∧ a < fI τ 1371 61) ∧ ¬ aI τ 112 a = 0 ∧ ¬ fI τ 1380 61 = 200) → Q (some (vi 0)) σ))
theorem us_X11_word (this : Int) (a : Int) (v : Int) (σ : Hp) (Q : Option AV → Hp → Prop) : sp_X11_word [vr this, vi a, vi v] σ Q = (kd σ this = 12 ∧ (this = 1 ∧ CLay σ ∧ inR a ∧ (v = 0 ∨ v = 1) ∧ (0 ≤ fI σ 1210 1 ∧ fI σ 1210 1 ≤ 999999) ∧ ∃ τ, AL σ τ ∧ MI τ ∧   (((0 ≤ a ∧ a < fI τ 1371 61) ∧ ¬ aI τ 112 a = 0 ∧ ¬ fI τ 1380 61 = 200) → Q (some (vi 1)) (pI (qI (qI (qI σ 29 (fI τ 1380 61) a) 30 (fI τ 1380 61) (fI σ 1210 1 / 86400)) 31 (fI τ 1380 61) v) 204 27 (fI τ 1380 61 + 1))) ∧ (¬ ((0 ≤ a ∧ a < fI τ 1371 61) ∧ ¬ aI τ 112 a = 0 ∧ ¬ fI τ 1380 61 = 200) → Q (some (vi 0)) σ))) := propext ⟨fun h => h.2, fun h => ⟨rfl, h⟩⟩
theorem el_X11_word {av : List AV} {σ : Hp} {Q : Option AV → Hp → Prop} (h : sp_X11_word av σ Q) : ∃ (this : Int) (a : Int) (v : Int), av = [vr this, vi a, vi v] ∧ (kd σ this = 12 ∧ (this = 1 ∧ CLay σ ∧ inR a ∧ (v = 0 ∨ v = 1) ∧ (0 ≤ fI σ 1210 1 ∧ fI σ 1210 1 ≤ 999999) ∧ ∃ τ, AL σ τ ∧ MI τ ∧   (((0 ≤ a ∧ a < fI τ 1371 61) ∧ ¬ aI τ 112 a = 0 ∧ ¬ fI τ 1380 61 = 200) → Q (some (vi 1)) (pI (qI (qI (qI σ 29 (fI τ 1380 61) a) 30 (fI τ 1380 61) (fI σ 1210 1 / 86400)) 31 (fI τ 1380 61) v) 204 27 (fI τ 1380 61 + 1))) ∧ (¬ ((0 ≤ a ∧ a < fI τ 1371 61) ∧ ¬ aI τ 112 a = 0 ∧ ¬ fI τ 1380 61 = 200) → Q (some (vi 0)) σ))) := by
  obtain ⟨this, a0, rfl, h0⟩ := oR_s h
  obtain ⟨a, a1, rfl, h1⟩ := oI_s h0
  obtain ⟨v, a2, rfl, h2⟩ := oI_s h1
  obtain ⟨rfl, hz⟩ := h2
  exact ⟨this, a, v, rfl, hz⟩
theorem rc_X11_word : ∀ (av : List AV) (σ : Hp) (Q : Option AV → Hp → Prop), sp_X11_word av σ Q → ∃ r tl, av = vr r :: tl ∧ kd σ r = 11 + 1 := fun av σ Q h => by
  obtain ⟨this, a, v, rfl, hz, -⟩ := el_X11_word h
  exact ⟨this, _, rfl, hz⟩

def tb_X11_word : Tab := [(0, .aload_n 0, 1, (0, 0, 0, 0)), (1, .getfield 54, 3, (12, 1207, 2, 0)), (4, .iload_n 1, 1, (0, 0, 0, 0)), (5, .invokevirtual 213, 3, (0, 0, 0, 0)), (8, .astore_n 3, 1, (0, 0, 0, 0)), (9, .aload_n 3, 1, (0, 0, 0, 0)), (10, .ifnull 30, 3, (0, 0, 0, 0)), (13, .aload_n 3, 1, (0, 0, 0, 0)), (14, .getfield 217, 3, (1, 105, 0, 0)), (17, .ifCond .eq 23, 3, (0, 0, 0, 0)), (20, .aload_n 0, 1, (0, 0, 0, 0)), (21, .getfield 54, 3, (12, 1207, 2, 0)), (24, .iload_n 1, 1, (0, 0, 0, 0)), (25, .aload_n 0, 1, (0, 0, 0, 0)), (26, .invokevirtual 203, 3, (0, 0, 0, 0)), (29, .iload_n 2, 1, (0, 0, 0, 0)), (30, .invokevirtual 267, 3, (0, 0, 0, 0)), (33, .ifCond .eq 7, 3, (0, 0, 0, 0)), (36, .iconst 1, 1, (0, 0, 0, 0)), (37, .goto 4, 3, (0, 0, 0, 0)), (40, .iconst 0, 1, (0, 0, 0, 0)), (41, .ireturn, 1, (0, 0, 0, 0))]
set_option maxRecDepth 100000 in
theorem tk_X11_word : TOK RX11 false cX11_word tb_X11_word := chkT_ok ft_X11 (by decide +kernel)
theorem rw_X11_2136 : Row RX11 (.invokevirtual 267) 3 4 0 0 1 sp_X1_addWord := row_V (n := 3) (ci := 1) c_X1_addWord ⟨TBL_in 1373 (by decide +kernel) rfl, TBL_in 1376 (by decide +kernel) rfl, TBL_in 121 (by decide +kernel) rfl, by decide +kernel, by decide⟩ (by decide) rfl (TBL_in 1374 (by decide +kernel) rfl) (TBL_in 1375 (by decide +kernel) rfl) rc_X1_addWord
def mt_X11_word : List (Nat × Mt) := [(1704, 2, 0, 0, 4, sp_X1_alarmOf), (1624, 1, 0, 0, 1, sp_X11_today), (2136, 4, 0, 0, 1, sp_X1_addWord)]
theorem em_X11_word : mt_X11_word.lookup 1704 = some (2, 0, 0, 4, sp_X1_alarmOf) ∧ mt_X11_word.lookup 1624 = some (1, 0, 0, 1, sp_X11_today) ∧ mt_X11_word.lookup 2136 = some (4, 0, 0, 1, sp_X1_addWord) := ⟨rfl, rfl, rfl⟩
theorem mk_X11_word : MOK RX11 mt_X11_word := by
  intro q hq
  simp only [mt_X11_word, List.mem_cons, List.not_mem_nil, or_false] at hq
  rcases hq with rfl | rfl | rfl
  · exact rw_X11_1704
  · exact rw_X11_1624
  · exact rw_X11_2136
noncomputable def xe_X11_word (ct : Nat → Bool) (K : Kt) (R : Option AV → Hp → Prop) (n : Nat) : Kt := exS 4 5 0 0 2 tb_X11_word mt_X11_word ct K R n
noncomputable def xk_X11_word (ct : Nat → Bool) (K : Kt) (R : Option AV → Hp → Prop) (n : Nat) : Kt := exkS 4 5 0 0 2 tb_X11_word mt_X11_word ct K R n
theorem xt_X11_word {ct : Nat → Bool} {K : Kt} {R : Option AV → Hp → Prop} {n pc : Nat} {ls : List (Option AV)} {st : List AV} {σ : Hp} {k : Nat × Nat} (h : ct pc = true) : xk_X11_word ct K R n pc ls st σ k = K pc ls st σ k := by unfold xk_X11_word exkS; rw [h]
theorem xf_X11_word {ct : Nat → Bool} {K : Kt} {R : Option AV → Hp → Prop} {n pc : Nat} {ls : List (Option AV)} {st : List AV} {σ : Hp} {k : Nat × Nat} (h : ct pc = false) : xk_X11_word ct K R n pc ls st σ k = xe_X11_word ct K R n pc ls st σ k := by unfold xk_X11_word exkS xe_X11_word; rw [h]
theorem ev_X11_word_0 {ct : Nat → Bool} {K : Kt} {R : Option AV → Hp → Prop} {n : Nat} {ls : List (Option AV)} {st : List AV} {σ : Hp} {k : Nat × Nat} : xe_X11_word ct K R (n + 1) 0 ls st σ k = (lR ls 0 fun x => xk_X11_word ct K R n 1 ls (vr x :: st) σ k) := exS_step.trans rfl
theorem ev_X11_word_1 {ct : Nat → Bool} {K : Kt} {R : Option AV → Hp → Prop} {n : Nat} {ls : List (Option AV)} {st : List AV} {σ : Hp} {k : Nat × Nat} : xe_X11_word ct K R (n + 1) 1 ls st σ k = (oR st fun x st => kd σ x = 12 ∧ xk_X11_word ct K R n 4 ls (vr (fR σ 1207 x) :: st) σ k) := exS_step.trans rfl
theorem ev_X11_word_4 {ct : Nat → Bool} {K : Kt} {R : Option AV → Hp → Prop} {n : Nat} {ls : List (Option AV)} {st : List AV} {σ : Hp} {k : Nat × Nat} : xe_X11_word ct K R (n + 1) 4 ls st σ k = (lI ls 1 fun x => xk_X11_word ct K R n 5 ls (vi x :: st) σ k) := exS_step.trans rfl
theorem ev_X11_word_5 {ct : Nat → Bool} {K : Kt} {R : Option AV → Hp → Prop} {n : Nat} {ls : List (Option AV)} {st : List AV} {σ : Hp} {k : Nat × Nat} : xe_X11_word ct K R (n + 1) 5 ls st σ k = (popN 2 st [] fun av rest => (catS rest ≤ 8 ∧ 4 < 5 ∧ k.1 + 0 ≤ 0 ∧ k.2 + 0 ≤ 0) ∧ (sp_X1_alarmOf) av σ fun v σ' => xk_X11_word ct K R n 8 ls (v.toList ++ rest) σ' (k.1 + 0, k.2 + 0)) := exS_step.trans rfl
theorem ev_X11_word_8 {ct : Nat → Bool} {K : Kt} {R : Option AV → Hp → Prop} {n : Nat} {ls : List (Option AV)} {st : List AV} {σ : Hp} {k : Nat × Nat} : xe_X11_word ct K R (n + 1) 8 ls st σ k = (oR st fun x st => 3 < 4 ∧ xk_X11_word ct K R n 9 (stL ls 3 (vr x)) st σ k) := exS_step.trans rfl
theorem ev_X11_word_9 {ct : Nat → Bool} {K : Kt} {R : Option AV → Hp → Prop} {n : Nat} {ls : List (Option AV)} {st : List AV} {σ : Hp} {k : Nat × Nat} : xe_X11_word ct K R (n + 1) 9 ls st σ k = (lR ls 3 fun x => xk_X11_word ct K R n 10 ls (vr x :: st) σ k) := exS_step.trans rfl
theorem ev_X11_word_10 {ct : Nat → Bool} {K : Kt} {R : Option AV → Hp → Prop} {n : Nat} {ls : List (Option AV)} {st : List AV} {σ : Hp} {k : Nat × Nat} : xe_X11_word ct K R (n + 1) 10 ls st σ k = (oR st fun x st => (x = 0 → xk_X11_word ct K R n 40 ls st σ k) ∧ (¬ x = 0 → xk_X11_word ct K R n 13 ls st σ k)) := exS_step.trans rfl
theorem ev_X11_word_13 {ct : Nat → Bool} {K : Kt} {R : Option AV → Hp → Prop} {n : Nat} {ls : List (Option AV)} {st : List AV} {σ : Hp} {k : Nat × Nat} : xe_X11_word ct K R (n + 1) 13 ls st σ k = (lR ls 3 fun x => xk_X11_word ct K R n 14 ls (vr x :: st) σ k) := exS_step.trans rfl
theorem ev_X11_word_14 {ct : Nat → Bool} {K : Kt} {R : Option AV → Hp → Prop} {n : Nat} {ls : List (Option AV)} {st : List AV} {σ : Hp} {k : Nat × Nat} : xe_X11_word ct K R (n + 1) 14 ls st σ k = (oR st fun x st => kd σ x = 1 ∧ xk_X11_word ct K R n 17 ls (vi (fI σ 105 x) :: st) σ k) := exS_step.trans rfl
theorem ev_X11_word_17 {ct : Nat → Bool} {K : Kt} {R : Option AV → Hp → Prop} {n : Nat} {ls : List (Option AV)} {st : List AV} {σ : Hp} {k : Nat × Nat} : xe_X11_word ct K R (n + 1) 17 ls st σ k = (oI st fun x st => (wI x = wI 0 → xk_X11_word ct K R n 40 ls st σ k) ∧ (¬ (wI x = wI 0) → xk_X11_word ct K R n 20 ls st σ k)) := exS_step.trans rfl
theorem ev_X11_word_20 {ct : Nat → Bool} {K : Kt} {R : Option AV → Hp → Prop} {n : Nat} {ls : List (Option AV)} {st : List AV} {σ : Hp} {k : Nat × Nat} : xe_X11_word ct K R (n + 1) 20 ls st σ k = (lR ls 0 fun x => xk_X11_word ct K R n 21 ls (vr x :: st) σ k) := exS_step.trans rfl
theorem ev_X11_word_21 {ct : Nat → Bool} {K : Kt} {R : Option AV → Hp → Prop} {n : Nat} {ls : List (Option AV)} {st : List AV} {σ : Hp} {k : Nat × Nat} : xe_X11_word ct K R (n + 1) 21 ls st σ k = (oR st fun x st => kd σ x = 12 ∧ xk_X11_word ct K R n 24 ls (vr (fR σ 1207 x) :: st) σ k) := exS_step.trans rfl
theorem ev_X11_word_24 {ct : Nat → Bool} {K : Kt} {R : Option AV → Hp → Prop} {n : Nat} {ls : List (Option AV)} {st : List AV} {σ : Hp} {k : Nat × Nat} : xe_X11_word ct K R (n + 1) 24 ls st σ k = (lI ls 1 fun x => xk_X11_word ct K R n 25 ls (vi x :: st) σ k) := exS_step.trans rfl
theorem ev_X11_word_25 {ct : Nat → Bool} {K : Kt} {R : Option AV → Hp → Prop} {n : Nat} {ls : List (Option AV)} {st : List AV} {σ : Hp} {k : Nat × Nat} : xe_X11_word ct K R (n + 1) 25 ls st σ k = (lR ls 0 fun x => xk_X11_word ct K R n 26 ls (vr x :: st) σ k) := exS_step.trans rfl
theorem ev_X11_word_26 {ct : Nat → Bool} {K : Kt} {R : Option AV → Hp → Prop} {n : Nat} {ls : List (Option AV)} {st : List AV} {σ : Hp} {k : Nat × Nat} : xe_X11_word ct K R (n + 1) 26 ls st σ k = (popN 1 st [] fun av rest => (catS rest ≤ 8 ∧ 1 < 5 ∧ k.1 + 0 ≤ 0 ∧ k.2 + 0 ≤ 0) ∧ (sp_X11_today) av σ fun v σ' => xk_X11_word ct K R n 29 ls (v.toList ++ rest) σ' (k.1 + 0, k.2 + 0)) := exS_step.trans rfl
theorem ev_X11_word_29 {ct : Nat → Bool} {K : Kt} {R : Option AV → Hp → Prop} {n : Nat} {ls : List (Option AV)} {st : List AV} {σ : Hp} {k : Nat × Nat} : xe_X11_word ct K R (n + 1) 29 ls st σ k = (lI ls 2 fun x => xk_X11_word ct K R n 30 ls (vi x :: st) σ k) := exS_step.trans rfl
theorem ev_X11_word_30 {ct : Nat → Bool} {K : Kt} {R : Option AV → Hp → Prop} {n : Nat} {ls : List (Option AV)} {st : List AV} {σ : Hp} {k : Nat × Nat} : xe_X11_word ct K R (n + 1) 30 ls st σ k = (popN 4 st [] fun av rest => (catS rest ≤ 8 ∧ 1 < 5 ∧ k.1 + 0 ≤ 0 ∧ k.2 + 0 ≤ 0) ∧ (sp_X1_addWord) av σ fun v σ' => xk_X11_word ct K R n 33 ls (v.toList ++ rest) σ' (k.1 + 0, k.2 + 0)) := exS_step.trans rfl
theorem ev_X11_word_33 {ct : Nat → Bool} {K : Kt} {R : Option AV → Hp → Prop} {n : Nat} {ls : List (Option AV)} {st : List AV} {σ : Hp} {k : Nat × Nat} : xe_X11_word ct K R (n + 1) 33 ls st σ k = (oI st fun x st => (wI x = wI 0 → xk_X11_word ct K R n 40 ls st σ k) ∧ (¬ (wI x = wI 0) → xk_X11_word ct K R n 36 ls st σ k)) := exS_step.trans rfl
theorem ev_X11_word_36 {ct : Nat → Bool} {K : Kt} {R : Option AV → Hp → Prop} {n : Nat} {ls : List (Option AV)} {st : List AV} {σ : Hp} {k : Nat × Nat} : xe_X11_word ct K R (n + 1) 36 ls st σ k = (xk_X11_word ct K R n 37 ls (vi (1) :: st) σ k) := exS_step.trans rfl
theorem ev_X11_word_37 {ct : Nat → Bool} {K : Kt} {R : Option AV → Hp → Prop} {n : Nat} {ls : List (Option AV)} {st : List AV} {σ : Hp} {k : Nat × Nat} : xe_X11_word ct K R (n + 1) 37 ls st σ k = (xk_X11_word ct K R n 41 ls st σ k) := exS_step.trans rfl
theorem ev_X11_word_40 {ct : Nat → Bool} {K : Kt} {R : Option AV → Hp → Prop} {n : Nat} {ls : List (Option AV)} {st : List AV} {σ : Hp} {k : Nat × Nat} : xe_X11_word ct K R (n + 1) 40 ls st σ k = (xk_X11_word ct K R n 41 ls (vi (0) :: st) σ k) := exS_step.trans rfl
theorem ev_X11_word_41 {ct : Nat → Bool} {K : Kt} {R : Option AV → Hp → Prop} {n : Nat} {ls : List (Option AV)} {st : List AV} {σ : Hp} {k : Nat × Nat} : xe_X11_word ct K R (n + 1) 41 ls st σ k = (oI st fun x st => st = [] ∧ (x = 0 ∨ x = 1) ∧ R (some (vi x)) σ) := exS_step.trans rfl
def M_X11_word : Md := (yX11_word, cX11_word, 4, (some FieldType.boolean), 5, 0, 0, 2, false, tb_X11_word, mt_X11_word)
theorem mm_X11_word : MMOK M_X11_word := ⟨by decide +kernel, tk_X11_word, mk_X11_word, rfl, fun h => by cases h⟩
theorem go_X11_word {Q : Option AV → Hp → Prop} {ct : Nat → Bool} {pc : Nat} {ls : List (Option AV)} {st : List AV} {σ : Hp} {k : Nat × Nat} (n : Nat) (h : xe_X11_word ct (Go M_X11_word Q) Q n pc ls st σ k) : Go M_X11_word Q pc ls st σ k := Go.exS mm_X11_word h

set_option maxRecDepth 20000 in
theorem c_X11_word : Ct yX11_word cX11_word 4 ((some FieldType.boolean)) 5 0 0 sp_X11_word := by
  refine Ct.go (M := M_X11_word) mm_X11_word fun av σ Q h0 => ?_
  obtain ⟨this, a, v, rfl, hk, h⟩ := el_X11_word h0
  clear h0
  refine ⟨Nat.le_of_ble_eq_true rfl, ?_⟩
  show Go M_X11_word Q 0 [some (vr this), some (vi a), some (vi v), none] [] σ (0, 0)
  obtain ⟨rfl, hC, ha, hv, hnw, τ, hA, hI, h1, h2⟩ := h
  have hL := hA.1
  have hsz := hA.2.1
  have hwn := hA.2.2.2.2.2
  have hws := hI.words_s
  by_cases c : 0 ≤ a ∧ a < fI τ 1371 61
  · have e : (if 0 ≤ a ∧ a < fI τ 1371 61 then lat σ 28 a else 0) = lat σ 28 a := if_pos c
    have hk1 := hA.k c.1 c.2
    obtain ⟨g0, -, -, g3, g4, g5, g6, g7, -, g9, -⟩ := hA.2.2.1 a c.1 c.2
    have hp0 : ¬ lat σ 28 a = 0 := by omega
    have hov := hI.isOver_ a
    by_cases c2 : aI τ 112 a = 0
    · have h2 := h2 (fun z => z.2.1 c2)
      clear h1 hA
      refine go_X11_word (ct := fun p => p == 20) 40 ?_
      simp only [oI, oL, oR, o1, lI, lL, lR, popN, catS, gv, stL, stL2, swt, cnd, spObj, List.getElem?_cons_zero, List.getElem?_cons_succ, List.getD_cons_zero, List.getD_cons_succ, List.set_cons_zero, List.set_cons_succ, List.nil_append, List.cons_append, Option.toList, Bool.or_false, Bool.false_or, Bool.or_true, Bool.true_or, Nat.reduceBEq, Nat.reduceAdd, Nat.reduceLT, Nat.reduceLeDiff, Int.reduceAdd, Int.reduceToNat, true_and, and_true, Fin.isValue, Fin.val_zero, Fin.val_one, Fin.val_two, Fin.reduceFinMk, eq_self, Int.reduceNeg, imp_self, Nat.reduceMul, Nat.le_refl, not_true_eq_false, not_false_eq_true, List.getElem?_nil, reduceCtorEq, true_or, or_true, Classical.not_not, implies_true, or_self, wI_0, wI_1, wI_m1, b2i_w, b2i_eq0, b2i_eq1, b2i_bool, nor_self, nx_pI, kd_pI, ln_pI, fI_pI, fL_pI, fR_pI, aI_pI, aL_pI, aR_pI, nx_pL, kd_pL, ln_pL, fI_pL, fL_pL, fR_pL, aI_pL, aL_pL, aR_pL, nx_pR, kd_pR, ln_pR, fI_pR, fL_pR, fR_pR, aI_pR, aL_pR, aR_pR, nx_qI, kd_qI, ln_qI, fI_qI, fL_qI, fR_qI, aI_qI, aL_qI, aR_qI, nx_qL, kd_qL, ln_qL, fI_qL, fL_qL, fR_qL, aI_qL, aL_qL, aR_qL, nx_qR, kd_qR, ln_qR, fI_qR, fL_qR, fR_qR, aI_qR, aL_qR, aR_qR, nx_mk, kd_mk, ln_mk, fI_mk, fL_mk, fR_mk, aI_mk, aL_mk, aR_mk, false_and, and_false, if_false, if_true, and_self, Int.reduceEq, Nat.reduceEqDiff, ite_self, MLay_pI, MLay_pL, MLay_qI, MLay_qL, ev_X11_word_0, ev_X11_word_1, ev_X11_word_4, ev_X11_word_5, ev_X11_word_8, ev_X11_word_9, ev_X11_word_10, ev_X11_word_13, ev_X11_word_14, ev_X11_word_17, ev_X11_word_20, ev_X11_word_21, ev_X11_word_24, ev_X11_word_25, ev_X11_word_26, ev_X11_word_29, ev_X11_word_30, ev_X11_word_33, ev_X11_word_36, ev_X11_word_37, ev_X11_word_40, ev_X11_word_41, xt_X11_word, xf_X11_word, us_X1_alarmOf, us_X11_today, us_X1_addWord, hC, hC.eqs, hL, hsz, ha, e, hk1, hp0, g9, c2]
      try simp (disch := omega) only [wI_id, dv_nn, rm_nn]
      repeat' (first | intro z | apply And.intro)
      all_goals try omega
      all_goals try contradiction
      all_goals exact h2
    · by_cases c3 : fI τ 1380 61 = 200
      · have h2 := h2 (fun z => z.2.2 c3)
        have hlt : ¬ (200 : Int) < 200 := by omega
        clear h1 hA
        refine go_X11_word (ct := fun p => p == 36) 40 ?_
        simp only [oI, oL, oR, o1, lI, lL, lR, popN, catS, gv, stL, stL2, swt, cnd, spObj, List.getElem?_cons_zero, List.getElem?_cons_succ, List.getD_cons_zero, List.getD_cons_succ, List.set_cons_zero, List.set_cons_succ, List.nil_append, List.cons_append, Option.toList, Bool.or_false, Bool.false_or, Bool.or_true, Bool.true_or, Nat.reduceBEq, Nat.reduceAdd, Nat.reduceLT, Nat.reduceLeDiff, Int.reduceAdd, Int.reduceToNat, true_and, and_true, Fin.isValue, Fin.val_zero, Fin.val_one, Fin.val_two, Fin.reduceFinMk, eq_self, Int.reduceNeg, imp_self, Nat.reduceMul, Nat.le_refl, not_true_eq_false, not_false_eq_true, List.getElem?_nil, reduceCtorEq, true_or, or_true, Classical.not_not, implies_true, or_self, wI_0, wI_1, wI_m1, b2i_w, b2i_eq0, b2i_eq1, b2i_bool, nor_self, nx_pI, kd_pI, ln_pI, fI_pI, fL_pI, fR_pI, aI_pI, aL_pI, aR_pI, nx_pL, kd_pL, ln_pL, fI_pL, fL_pL, fR_pL, aI_pL, aL_pL, aR_pL, nx_pR, kd_pR, ln_pR, fI_pR, fL_pR, fR_pR, aI_pR, aL_pR, aR_pR, nx_qI, kd_qI, ln_qI, fI_qI, fL_qI, fR_qI, aI_qI, aL_qI, aR_qI, nx_qL, kd_qL, ln_qL, fI_qL, fL_qL, fR_qL, aI_qL, aL_qL, aR_qL, nx_qR, kd_qR, ln_qR, fI_qR, fL_qR, fR_qR, aI_qR, aL_qR, aR_qR, nx_mk, kd_mk, ln_mk, fI_mk, fL_mk, fR_mk, aI_mk, aL_mk, aR_mk, false_and, and_false, if_false, if_true, and_self, Int.reduceEq, Nat.reduceEqDiff, ite_self, MLay_pI, MLay_pL, MLay_qI, MLay_qL, ev_X11_word_0, ev_X11_word_1, ev_X11_word_4, ev_X11_word_5, ev_X11_word_8, ev_X11_word_9, ev_X11_word_10, ev_X11_word_13, ev_X11_word_14, ev_X11_word_17, ev_X11_word_20, ev_X11_word_21, ev_X11_word_24, ev_X11_word_25, ev_X11_word_26, ev_X11_word_29, ev_X11_word_30, ev_X11_word_33, ev_X11_word_36, ev_X11_word_37, ev_X11_word_40, ev_X11_word_41, xt_X11_word, xf_X11_word, us_X1_alarmOf, us_X11_today, us_X1_addWord, hC, hC.eqs, hL, hsz, ha, e, hk1, hp0, g9, hv, hnw, hwn, c3, hlt]
        try simp (disch := omega) only [wI_id, dv_nn, rm_nn]
        repeat' (first | intro z | apply And.intro)
        all_goals try omega
        all_goals try contradiction
        all_goals exact h2
      · have h1 := h1 ⟨c, c2, c3⟩
        have hlt : fI τ 1380 61 < 200 := by omega
        clear h2 hA
        refine go_X11_word (ct := fun p => p == 40) 40 ?_
        simp only [oI, oL, oR, o1, lI, lL, lR, popN, catS, gv, stL, stL2, swt, cnd, spObj, List.getElem?_cons_zero, List.getElem?_cons_succ, List.getD_cons_zero, List.getD_cons_succ, List.set_cons_zero, List.set_cons_succ, List.nil_append, List.cons_append, Option.toList, Bool.or_false, Bool.false_or, Bool.or_true, Bool.true_or, Nat.reduceBEq, Nat.reduceAdd, Nat.reduceLT, Nat.reduceLeDiff, Int.reduceAdd, Int.reduceToNat, true_and, and_true, Fin.isValue, Fin.val_zero, Fin.val_one, Fin.val_two, Fin.reduceFinMk, eq_self, Int.reduceNeg, imp_self, Nat.reduceMul, Nat.le_refl, not_true_eq_false, not_false_eq_true, List.getElem?_nil, reduceCtorEq, true_or, or_true, Classical.not_not, implies_true, or_self, wI_0, wI_1, wI_m1, b2i_w, b2i_eq0, b2i_eq1, b2i_bool, nor_self, nx_pI, kd_pI, ln_pI, fI_pI, fL_pI, fR_pI, aI_pI, aL_pI, aR_pI, nx_pL, kd_pL, ln_pL, fI_pL, fL_pL, fR_pL, aI_pL, aL_pL, aR_pL, nx_pR, kd_pR, ln_pR, fI_pR, fL_pR, fR_pR, aI_pR, aL_pR, aR_pR, nx_qI, kd_qI, ln_qI, fI_qI, fL_qI, fR_qI, aI_qI, aL_qI, aR_qI, nx_qL, kd_qL, ln_qL, fI_qL, fL_qL, fR_qL, aI_qL, aL_qL, aR_qL, nx_qR, kd_qR, ln_qR, fI_qR, fL_qR, fR_qR, aI_qR, aL_qR, aR_qR, nx_mk, kd_mk, ln_mk, fI_mk, fL_mk, fR_mk, aI_mk, aL_mk, aR_mk, false_and, and_false, if_false, if_true, and_self, Int.reduceEq, Nat.reduceEqDiff, ite_self, MLay_pI, MLay_pL, MLay_qI, MLay_qL, ev_X11_word_0, ev_X11_word_1, ev_X11_word_4, ev_X11_word_5, ev_X11_word_8, ev_X11_word_9, ev_X11_word_10, ev_X11_word_13, ev_X11_word_14, ev_X11_word_17, ev_X11_word_20, ev_X11_word_21, ev_X11_word_24, ev_X11_word_25, ev_X11_word_26, ev_X11_word_29, ev_X11_word_30, ev_X11_word_33, ev_X11_word_36, ev_X11_word_37, ev_X11_word_40, ev_X11_word_41, xt_X11_word, xf_X11_word, us_X1_alarmOf, us_X11_today, us_X1_addWord, hC, hC.eqs, hL, hsz, ha, e, hk1, hp0, g9, hv, hnw, hwn, hws, c3, hlt]
        try simp (disch := omega) only [wI_id, dv_nn, rm_nn]
        repeat' (first | intro z | apply And.intro)
        all_goals try omega
        all_goals try contradiction
        all_goals exact h1
  · have e : (if 0 ≤ a ∧ a < fI τ 1371 61 then lat σ 28 a else 0) = 0 := if_neg c
    have h2 := h2 (fun z => c z.1)
    clear h1 hA
    refine go_X11_word (ct := fun p => p == 13) 40 ?_
    simp only [oI, oL, oR, o1, lI, lL, lR, popN, catS, gv, stL, stL2, swt, cnd, spObj, List.getElem?_cons_zero, List.getElem?_cons_succ, List.getD_cons_zero, List.getD_cons_succ, List.set_cons_zero, List.set_cons_succ, List.nil_append, List.cons_append, Option.toList, Bool.or_false, Bool.false_or, Bool.or_true, Bool.true_or, Nat.reduceBEq, Nat.reduceAdd, Nat.reduceLT, Nat.reduceLeDiff, Int.reduceAdd, Int.reduceToNat, true_and, and_true, Fin.isValue, Fin.val_zero, Fin.val_one, Fin.val_two, Fin.reduceFinMk, eq_self, Int.reduceNeg, imp_self, Nat.reduceMul, Nat.le_refl, not_true_eq_false, not_false_eq_true, List.getElem?_nil, reduceCtorEq, true_or, or_true, Classical.not_not, implies_true, or_self, wI_0, wI_1, wI_m1, b2i_w, b2i_eq0, b2i_eq1, b2i_bool, nor_self, nx_pI, kd_pI, ln_pI, fI_pI, fL_pI, fR_pI, aI_pI, aL_pI, aR_pI, nx_pL, kd_pL, ln_pL, fI_pL, fL_pL, fR_pL, aI_pL, aL_pL, aR_pL, nx_pR, kd_pR, ln_pR, fI_pR, fL_pR, fR_pR, aI_pR, aL_pR, aR_pR, nx_qI, kd_qI, ln_qI, fI_qI, fL_qI, fR_qI, aI_qI, aL_qI, aR_qI, nx_qL, kd_qL, ln_qL, fI_qL, fL_qL, fR_qL, aI_qL, aL_qL, aR_qL, nx_qR, kd_qR, ln_qR, fI_qR, fL_qR, fR_qR, aI_qR, aL_qR, aR_qR, nx_mk, kd_mk, ln_mk, fI_mk, fL_mk, fR_mk, aI_mk, aL_mk, aR_mk, false_and, and_false, if_false, if_true, and_self, Int.reduceEq, Nat.reduceEqDiff, ite_self, MLay_pI, MLay_pL, MLay_qI, MLay_qL, ev_X11_word_0, ev_X11_word_1, ev_X11_word_4, ev_X11_word_5, ev_X11_word_8, ev_X11_word_9, ev_X11_word_10, ev_X11_word_13, ev_X11_word_14, ev_X11_word_17, ev_X11_word_20, ev_X11_word_21, ev_X11_word_24, ev_X11_word_25, ev_X11_word_26, ev_X11_word_29, ev_X11_word_30, ev_X11_word_33, ev_X11_word_36, ev_X11_word_37, ev_X11_word_40, ev_X11_word_41, xt_X11_word, xf_X11_word, us_X1_alarmOf, us_X11_today, us_X1_addWord, hC, hC.eqs, hL, hsz, ha, e]
    repeat' (first | intro z | apply And.intro)
    all_goals try omega
    all_goals try contradiction
    all_goals exact h2

def sp_X11_known : Sp := fun av σ Q => oR av fun this av => oI av fun a av => oI av fun w av => av = [] ∧ kd σ this = 12 ∧ (this = 1 ∧ CLay σ ∧ inR a ∧ inR w ∧ (0 ≤ fI σ 1210 1 ∧ fI σ 1210 1 ≤ 999999) ∧ ∃ τ, AL σ τ ∧ MI τ ∧ WI τ ∧ Q (some (vi (if 0 ≤ w ∧ w ≤ fI σ 1210 1 / 86400 then cKnw τ a w else -1))) σ)
theorem us_X11_known (this : Int) (a : Int) (w : Int) (σ : Hp) (Q : Option AV → Hp → Prop) : sp_X11_known [vr this, vi a, vi w] σ Q = (kd σ this = 12 ∧ (this = 1 ∧ CLay σ ∧ inR a ∧ inR w ∧ (0 ≤ fI σ 1210 1 ∧ fI σ 1210 1 ≤ 999999) ∧ ∃ τ, AL σ τ ∧ MI τ ∧ WI τ ∧ Q (some (vi (if 0 ≤ w ∧ w ≤ fI σ 1210 1 / 86400 then cKnw τ a w else -1))) σ)) := propext ⟨fun h => h.2, fun h => ⟨rfl, h⟩⟩
theorem el_X11_known {av : List AV} {σ : Hp} {Q : Option AV → Hp → Prop} (h : sp_X11_known av σ Q) : ∃ (this : Int) (a : Int) (w : Int), av = [vr this, vi a, vi w] ∧ (kd σ this = 12 ∧ (this = 1 ∧ CLay σ ∧ inR a ∧ inR w ∧ (0 ≤ fI σ 1210 1 ∧ fI σ 1210 1 ≤ 999999) ∧ ∃ τ, AL σ τ ∧ MI τ ∧ WI τ ∧ Q (some (vi (if 0 ≤ w ∧ w ≤ fI σ 1210 1 / 86400 then cKnw τ a w else -1))) σ)) := by
  obtain ⟨this, a0, rfl, h0⟩ := oR_s h
  obtain ⟨a, a1, rfl, h1⟩ := oI_s h0
  obtain ⟨w, a2, rfl, h2⟩ := oI_s h1
  obtain ⟨rfl, hz⟩ := h2
  exact ⟨this, a, w, rfl, hz⟩
theorem rc_X11_known : ∀ (av : List AV) (σ : Hp) (Q : Option AV → Hp → Prop), sp_X11_known av σ Q → ∃ r tl, av = vr r :: tl ∧ kd σ r = 11 + 1 := fun av σ Q h => by
  obtain ⟨this, a, w, rfl, hz, -⟩ := el_X11_known h
  exact ⟨this, _, rfl, hz⟩

def tb_X11_known : Tab := [(0, .aload_n 0, 1, (0, 0, 0, 0)), (1, .iload_n 2, 1, (0, 0, 0, 0)), (2, .invokevirtual 271, 3, (0, 0, 0, 0)), (5, .ifCond .eq 15, 3, (0, 0, 0, 0)), (8, .aload_n 0, 1, (0, 0, 0, 0)), (9, .getfield 54, 3, (12, 1207, 2, 0)), (12, .iload_n 1, 1, (0, 0, 0, 0)), (13, .iload_n 2, 1, (0, 0, 0, 0)), (14, .invokevirtual 274, 3, (0, 0, 0, 0)), (17, .goto 4, 3, (0, 0, 0, 0)), (20, .iconst (-1), 1, (0, 0, 0, 0)), (21, .ireturn, 1, (0, 0, 0, 0))]
set_option maxRecDepth 100000 in
theorem tk_X11_known : TOK RX11 false cX11_known tb_X11_known := chkT_ok ft_X11 (by decide +kernel)
theorem rw_X11_2168 : Row RX11 (.invokevirtual 271) 3 2 0 0 2 sp_X11_isDay := row_V (n := 1) (ci := 11) c_X11_isDay ⟨TBL_in 1381 (by decide +kernel) rfl, TBL_in 1384 (by decide +kernel) rfl, TBL_in 111 (by decide +kernel) rfl, by decide +kernel, by decide⟩ (by decide) rfl (TBL_in 1383 (by decide +kernel) rfl) (TBL_in 59 (by decide +kernel) rfl) rc_X11_isDay
theorem rw_X11_2192 : Row RX11 (.invokevirtual 274) 3 3 0 0 5 sp_X1_wordOn := row_V (n := 2) (ci := 1) c_X1_wordOn ⟨TBL_in 1385 (by decide +kernel) rfl, TBL_in 1201 (by decide +kernel) rfl, TBL_in 121 (by decide +kernel) rfl, by decide +kernel, by decide⟩ (by decide) rfl (TBL_in 1199 (by decide +kernel) rfl) (TBL_in 1200 (by decide +kernel) rfl) rc_X1_wordOn
def mt_X11_known : List (Nat × Mt) := [(2168, 2, 0, 0, 2, sp_X11_isDay), (2192, 3, 0, 0, 5, sp_X1_wordOn)]
theorem em_X11_known : mt_X11_known.lookup 2168 = some (2, 0, 0, 2, sp_X11_isDay) ∧ mt_X11_known.lookup 2192 = some (3, 0, 0, 5, sp_X1_wordOn) := ⟨rfl, rfl⟩
theorem mk_X11_known : MOK RX11 mt_X11_known := by
  intro q hq
  simp only [mt_X11_known, List.mem_cons, List.not_mem_nil, or_false] at hq
  rcases hq with rfl | rfl
  · exact rw_X11_2168
  · exact rw_X11_2192
noncomputable def xe_X11_known (ct : Nat → Bool) (K : Kt) (R : Option AV → Hp → Prop) (n : Nat) : Kt := exS 3 6 0 0 1 tb_X11_known mt_X11_known ct K R n
noncomputable def xk_X11_known (ct : Nat → Bool) (K : Kt) (R : Option AV → Hp → Prop) (n : Nat) : Kt := exkS 3 6 0 0 1 tb_X11_known mt_X11_known ct K R n
theorem xt_X11_known {ct : Nat → Bool} {K : Kt} {R : Option AV → Hp → Prop} {n pc : Nat} {ls : List (Option AV)} {st : List AV} {σ : Hp} {k : Nat × Nat} (h : ct pc = true) : xk_X11_known ct K R n pc ls st σ k = K pc ls st σ k := by unfold xk_X11_known exkS; rw [h]
theorem xf_X11_known {ct : Nat → Bool} {K : Kt} {R : Option AV → Hp → Prop} {n pc : Nat} {ls : List (Option AV)} {st : List AV} {σ : Hp} {k : Nat × Nat} (h : ct pc = false) : xk_X11_known ct K R n pc ls st σ k = xe_X11_known ct K R n pc ls st σ k := by unfold xk_X11_known exkS xe_X11_known; rw [h]
theorem ev_X11_known_0 {ct : Nat → Bool} {K : Kt} {R : Option AV → Hp → Prop} {n : Nat} {ls : List (Option AV)} {st : List AV} {σ : Hp} {k : Nat × Nat} : xe_X11_known ct K R (n + 1) 0 ls st σ k = (lR ls 0 fun x => xk_X11_known ct K R n 1 ls (vr x :: st) σ k) := exS_step.trans rfl
theorem ev_X11_known_1 {ct : Nat → Bool} {K : Kt} {R : Option AV → Hp → Prop} {n : Nat} {ls : List (Option AV)} {st : List AV} {σ : Hp} {k : Nat × Nat} : xe_X11_known ct K R (n + 1) 1 ls st σ k = (lI ls 2 fun x => xk_X11_known ct K R n 2 ls (vi x :: st) σ k) := exS_step.trans rfl
theorem ev_X11_known_2 {ct : Nat → Bool} {K : Kt} {R : Option AV → Hp → Prop} {n : Nat} {ls : List (Option AV)} {st : List AV} {σ : Hp} {k : Nat × Nat} : xe_X11_known ct K R (n + 1) 2 ls st σ k = (popN 2 st [] fun av rest => (catS rest ≤ 8 ∧ 2 < 6 ∧ k.1 + 0 ≤ 0 ∧ k.2 + 0 ≤ 0) ∧ (sp_X11_isDay) av σ fun v σ' => xk_X11_known ct K R n 5 ls (v.toList ++ rest) σ' (k.1 + 0, k.2 + 0)) := exS_step.trans rfl
theorem ev_X11_known_5 {ct : Nat → Bool} {K : Kt} {R : Option AV → Hp → Prop} {n : Nat} {ls : List (Option AV)} {st : List AV} {σ : Hp} {k : Nat × Nat} : xe_X11_known ct K R (n + 1) 5 ls st σ k = (oI st fun x st => (wI x = wI 0 → xk_X11_known ct K R n 20 ls st σ k) ∧ (¬ (wI x = wI 0) → xk_X11_known ct K R n 8 ls st σ k)) := exS_step.trans rfl
theorem ev_X11_known_8 {ct : Nat → Bool} {K : Kt} {R : Option AV → Hp → Prop} {n : Nat} {ls : List (Option AV)} {st : List AV} {σ : Hp} {k : Nat × Nat} : xe_X11_known ct K R (n + 1) 8 ls st σ k = (lR ls 0 fun x => xk_X11_known ct K R n 9 ls (vr x :: st) σ k) := exS_step.trans rfl
theorem ev_X11_known_9 {ct : Nat → Bool} {K : Kt} {R : Option AV → Hp → Prop} {n : Nat} {ls : List (Option AV)} {st : List AV} {σ : Hp} {k : Nat × Nat} : xe_X11_known ct K R (n + 1) 9 ls st σ k = (oR st fun x st => kd σ x = 12 ∧ xk_X11_known ct K R n 12 ls (vr (fR σ 1207 x) :: st) σ k) := exS_step.trans rfl
theorem ev_X11_known_12 {ct : Nat → Bool} {K : Kt} {R : Option AV → Hp → Prop} {n : Nat} {ls : List (Option AV)} {st : List AV} {σ : Hp} {k : Nat × Nat} : xe_X11_known ct K R (n + 1) 12 ls st σ k = (lI ls 1 fun x => xk_X11_known ct K R n 13 ls (vi x :: st) σ k) := exS_step.trans rfl
theorem ev_X11_known_13 {ct : Nat → Bool} {K : Kt} {R : Option AV → Hp → Prop} {n : Nat} {ls : List (Option AV)} {st : List AV} {σ : Hp} {k : Nat × Nat} : xe_X11_known ct K R (n + 1) 13 ls st σ k = (lI ls 2 fun x => xk_X11_known ct K R n 14 ls (vi x :: st) σ k) := exS_step.trans rfl
theorem ev_X11_known_14 {ct : Nat → Bool} {K : Kt} {R : Option AV → Hp → Prop} {n : Nat} {ls : List (Option AV)} {st : List AV} {σ : Hp} {k : Nat × Nat} : xe_X11_known ct K R (n + 1) 14 ls st σ k = (popN 3 st [] fun av rest => (catS rest ≤ 8 ∧ 5 < 6 ∧ k.1 + 0 ≤ 0 ∧ k.2 + 0 ≤ 0) ∧ (sp_X1_wordOn) av σ fun v σ' => xk_X11_known ct K R n 17 ls (v.toList ++ rest) σ' (k.1 + 0, k.2 + 0)) := exS_step.trans rfl
theorem ev_X11_known_17 {ct : Nat → Bool} {K : Kt} {R : Option AV → Hp → Prop} {n : Nat} {ls : List (Option AV)} {st : List AV} {σ : Hp} {k : Nat × Nat} : xe_X11_known ct K R (n + 1) 17 ls st σ k = (xk_X11_known ct K R n 21 ls st σ k) := exS_step.trans rfl
theorem ev_X11_known_20 {ct : Nat → Bool} {K : Kt} {R : Option AV → Hp → Prop} {n : Nat} {ls : List (Option AV)} {st : List AV} {σ : Hp} {k : Nat × Nat} : xe_X11_known ct K R (n + 1) 20 ls st σ k = (xk_X11_known ct K R n 21 ls (vi (-1) :: st) σ k) := exS_step.trans rfl
theorem ev_X11_known_21 {ct : Nat → Bool} {K : Kt} {R : Option AV → Hp → Prop} {n : Nat} {ls : List (Option AV)} {st : List AV} {σ : Hp} {k : Nat × Nat} : xe_X11_known ct K R (n + 1) 21 ls st σ k = (oI st fun x st => st = [] ∧ True ∧ R (some (vi x)) σ) := exS_step.trans rfl
def M_X11_known : Md := (yX11_known, cX11_known, 3, (some FieldType.int), 6, 0, 0, 1, false, tb_X11_known, mt_X11_known)
theorem mm_X11_known : MMOK M_X11_known := ⟨by decide +kernel, tk_X11_known, mk_X11_known, rfl, fun h => by cases h⟩
theorem go_X11_known {Q : Option AV → Hp → Prop} {ct : Nat → Bool} {pc : Nat} {ls : List (Option AV)} {st : List AV} {σ : Hp} {k : Nat × Nat} (n : Nat) (h : xe_X11_known ct (Go M_X11_known Q) Q n pc ls st σ k) : Go M_X11_known Q pc ls st σ k := Go.exS mm_X11_known h

set_option maxRecDepth 20000 in
theorem c_X11_known : Ct yX11_known cX11_known 3 ((some FieldType.int)) 6 0 0 sp_X11_known := by
  refine Ct.go (M := M_X11_known) mm_X11_known fun av σ Q h0 => ?_
  obtain ⟨this, a, w, rfl, hk, h⟩ := el_X11_known h0
  clear h0
  refine ⟨Nat.le_of_ble_eq_true rfl, ?_⟩
  show Go M_X11_known Q 0 [some (vr this), some (vi a), some (vi w)] [] σ (0, 0)
  obtain ⟨rfl, hC, ha, hw, hnw, τ, hA, hI, hW, h⟩ := h
  by_cases c : 0 ≤ w ∧ w ≤ fI σ 1210 1 / 86400
  · rw [if_pos c] at h
    refine go_X11_known (ct := fun p => p == 20) 40 ?_
    simp only [oI, oL, oR, o1, lI, lL, lR, popN, catS, gv, stL, stL2, swt, cnd, spObj, List.getElem?_cons_zero, List.getElem?_cons_succ, List.getD_cons_zero, List.getD_cons_succ, List.set_cons_zero, List.set_cons_succ, List.nil_append, List.cons_append, Option.toList, Bool.or_false, Bool.false_or, Bool.or_true, Bool.true_or, Nat.reduceBEq, Nat.reduceAdd, Nat.reduceLT, Nat.reduceLeDiff, Int.reduceAdd, Int.reduceToNat, true_and, and_true, Fin.isValue, Fin.val_zero, Fin.val_one, Fin.val_two, Fin.reduceFinMk, eq_self, Int.reduceNeg, imp_self, Nat.reduceMul, Nat.le_refl, not_true_eq_false, not_false_eq_true, List.getElem?_nil, reduceCtorEq, true_or, or_true, Classical.not_not, implies_true, or_self, wI_0, wI_1, wI_m1, b2i_w, b2i_eq0, b2i_eq1, b2i_bool, nor_self, nx_pI, kd_pI, ln_pI, fI_pI, fL_pI, fR_pI, aI_pI, aL_pI, aR_pI, nx_pL, kd_pL, ln_pL, fI_pL, fL_pL, fR_pL, aI_pL, aL_pL, aR_pL, nx_pR, kd_pR, ln_pR, fI_pR, fL_pR, fR_pR, aI_pR, aL_pR, aR_pR, nx_qI, kd_qI, ln_qI, fI_qI, fL_qI, fR_qI, aI_qI, aL_qI, aR_qI, nx_qL, kd_qL, ln_qL, fI_qL, fL_qL, fR_qL, aI_qL, aL_qL, aR_qL, nx_qR, kd_qR, ln_qR, fI_qR, fL_qR, fR_qR, aI_qR, aL_qR, aR_qR, nx_mk, kd_mk, ln_mk, fI_mk, fL_mk, fR_mk, aI_mk, aL_mk, aR_mk, false_and, and_false, if_false, if_true, and_self, Int.reduceEq, Nat.reduceEqDiff, ite_self, MLay_pI, MLay_pL, MLay_qI, MLay_qL, ev_X11_known_0, ev_X11_known_1, ev_X11_known_2, ev_X11_known_5, ev_X11_known_8, ev_X11_known_9, ev_X11_known_12, ev_X11_known_13, ev_X11_known_14, ev_X11_known_17, ev_X11_known_20, ev_X11_known_21, xt_X11_known, xf_X11_known, us_X11_isDay, us_X1_wordOn, hC, hC.eqs, ha, hw, hnw, c]
    exact ⟨fun z => z.elim, fun _ => ⟨τ, hA, hI, hW, h⟩⟩
  · rw [if_neg c] at h
    refine go_X11_known (ct := fun p => p == 8) 40 ?_
    simp only [oI, oL, oR, o1, lI, lL, lR, popN, catS, gv, stL, stL2, swt, cnd, spObj, List.getElem?_cons_zero, List.getElem?_cons_succ, List.getD_cons_zero, List.getD_cons_succ, List.set_cons_zero, List.set_cons_succ, List.nil_append, List.cons_append, Option.toList, Bool.or_false, Bool.false_or, Bool.or_true, Bool.true_or, Nat.reduceBEq, Nat.reduceAdd, Nat.reduceLT, Nat.reduceLeDiff, Int.reduceAdd, Int.reduceToNat, true_and, and_true, Fin.isValue, Fin.val_zero, Fin.val_one, Fin.val_two, Fin.reduceFinMk, eq_self, Int.reduceNeg, imp_self, Nat.reduceMul, Nat.le_refl, not_true_eq_false, not_false_eq_true, List.getElem?_nil, reduceCtorEq, true_or, or_true, Classical.not_not, implies_true, or_self, wI_0, wI_1, wI_m1, b2i_w, b2i_eq0, b2i_eq1, b2i_bool, nor_self, nx_pI, kd_pI, ln_pI, fI_pI, fL_pI, fR_pI, aI_pI, aL_pI, aR_pI, nx_pL, kd_pL, ln_pL, fI_pL, fL_pL, fR_pL, aI_pL, aL_pL, aR_pL, nx_pR, kd_pR, ln_pR, fI_pR, fL_pR, fR_pR, aI_pR, aL_pR, aR_pR, nx_qI, kd_qI, ln_qI, fI_qI, fL_qI, fR_qI, aI_qI, aL_qI, aR_qI, nx_qL, kd_qL, ln_qL, fI_qL, fL_qL, fR_qL, aI_qL, aL_qL, aR_qL, nx_qR, kd_qR, ln_qR, fI_qR, fL_qR, fR_qR, aI_qR, aL_qR, aR_qR, nx_mk, kd_mk, ln_mk, fI_mk, fL_mk, fR_mk, aI_mk, aL_mk, aR_mk, false_and, and_false, if_false, if_true, and_self, Int.reduceEq, Nat.reduceEqDiff, ite_self, MLay_pI, MLay_pL, MLay_qI, MLay_qL, ev_X11_known_0, ev_X11_known_1, ev_X11_known_2, ev_X11_known_5, ev_X11_known_8, ev_X11_known_9, ev_X11_known_12, ev_X11_known_13, ev_X11_known_14, ev_X11_known_17, ev_X11_known_20, ev_X11_known_21, xt_X11_known, xf_X11_known, us_X11_isDay, us_X1_wordOn, hC, hC.eqs, hw, hnw, c]
    repeat' (first | intro z | apply And.intro)
    all_goals try omega
    all_goals try contradiction
    all_goals exact h

def sp_X11_rate : Sp := fun av σ Q => oR av fun this av => oI av fun b av => oI av fun w av => av = [] ∧ kd σ this = 12 ∧ (this = 1 ∧ CLay σ ∧ inR b ∧ inR w ∧ (0 ≤ fI σ 1210 1 ∧ fI σ 1210 1 ≤ 999999) ∧ ∃ τ, AL σ τ ∧ BX σ τ ∧ MI τ ∧ WI τ ∧ AB τ ∧ Q (some (vi (if (0 ≤ b ∧ b < fI τ 1302 61) ∧ 0 ≤ w ∧ w ≤ fI σ 1210 1 / 86400 then mRate τ b w else -1))) σ)
theorem us_X11_rate (this : Int) (b : Int) (w : Int) (σ : Hp) (Q : Option AV → Hp → Prop) : sp_X11_rate [vr this, vi b, vi w] σ Q = (kd σ this = 12 ∧ (this = 1 ∧ CLay σ ∧ inR b ∧ inR w ∧ (0 ≤ fI σ 1210 1 ∧ fI σ 1210 1 ≤ 999999) ∧ ∃ τ, AL σ τ ∧ BX σ τ ∧ MI τ ∧ WI τ ∧ AB τ ∧ Q (some (vi (if (0 ≤ b ∧ b < fI τ 1302 61) ∧ 0 ≤ w ∧ w ≤ fI σ 1210 1 / 86400 then mRate τ b w else -1))) σ)) := propext ⟨fun h => h.2, fun h => ⟨rfl, h⟩⟩
theorem el_X11_rate {av : List AV} {σ : Hp} {Q : Option AV → Hp → Prop} (h : sp_X11_rate av σ Q) : ∃ (this : Int) (b : Int) (w : Int), av = [vr this, vi b, vi w] ∧ (kd σ this = 12 ∧ (this = 1 ∧ CLay σ ∧ inR b ∧ inR w ∧ (0 ≤ fI σ 1210 1 ∧ fI σ 1210 1 ≤ 999999) ∧ ∃ τ, AL σ τ ∧ BX σ τ ∧ MI τ ∧ WI τ ∧ AB τ ∧ Q (some (vi (if (0 ≤ b ∧ b < fI τ 1302 61) ∧ 0 ≤ w ∧ w ≤ fI σ 1210 1 / 86400 then mRate τ b w else -1))) σ)) := by
  obtain ⟨this, a0, rfl, h0⟩ := oR_s h
  obtain ⟨b, a1, rfl, h1⟩ := oI_s h0
  obtain ⟨w, a2, rfl, h2⟩ := oI_s h1
  obtain ⟨rfl, hz⟩ := h2
  exact ⟨this, b, w, rfl, hz⟩
theorem rc_X11_rate : ∀ (av : List AV) (σ : Hp) (Q : Option AV → Hp → Prop), sp_X11_rate av σ Q → ∃ r tl, av = vr r :: tl ∧ kd σ r = 11 + 1 := fun av σ Q h => by
  obtain ⟨this, b, w, rfl, hz, -⟩ := el_X11_rate h
  exact ⟨this, _, rfl, hz⟩

def tb_X11_rate : Tab := [(0, .aload_n 0, 1, (0, 0, 0, 0)), (1, .iload_n 1, 1, (0, 0, 0, 0)), (2, .invokevirtual 122, 3, (0, 0, 0, 0)), (5, .astore_n 3, 1, (0, 0, 0, 0)), (6, .aload_n 3, 1, (0, 0, 0, 0)), (7, .ifnull 11, 3, (0, 0, 0, 0)), (10, .aload_n 0, 1, (0, 0, 0, 0)), (11, .iload_n 2, 1, (0, 0, 0, 0)), (12, .invokevirtual 271, 3, (0, 0, 0, 0)), (15, .ifCond .ne 7, 3, (0, 0, 0, 0)), (18, .iconst (-1), 1, (0, 0, 0, 0)), (19, .goto 12, 3, (0, 0, 0, 0)), (22, .aload_n 0, 1, (0, 0, 0, 0)), (23, .getfield 54, 3, (12, 1207, 2, 0)), (26, .aload_n 3, 1, (0, 0, 0, 0)), (27, .iload_n 2, 1, (0, 0, 0, 0)), (28, .invokevirtual 277, 3, (0, 0, 0, 0)), (31, .ireturn, 1, (0, 0, 0, 0))]
set_option maxRecDepth 100000 in
theorem tk_X11_rate : TOK RX11 false cX11_rate tb_X11_rate := chkT_ok ft_X11 (by decide +kernel)
theorem rw_X11_2216 : Row RX11 (.invokevirtual 277) 3 3 0 0 6 sp_X1_rateOn := row_V (n := 2) (ci := 1) c_X1_rateOn ⟨TBL_in 1191 (by decide +kernel) rfl, TBL_in 1194 (by decide +kernel) rfl, TBL_in 121 (by decide +kernel) rfl, by decide +kernel, by decide⟩ (by decide) rfl (TBL_in 1192 (by decide +kernel) rfl) (TBL_in 1193 (by decide +kernel) rfl) rc_X1_rateOn
def mt_X11_rate : List (Nat × Mt) := [(976, 2, 0, 0, 4, sp_X11_boxOf), (2168, 2, 0, 0, 2, sp_X11_isDay), (2216, 3, 0, 0, 6, sp_X1_rateOn)]
theorem em_X11_rate : mt_X11_rate.lookup 976 = some (2, 0, 0, 4, sp_X11_boxOf) ∧ mt_X11_rate.lookup 2168 = some (2, 0, 0, 2, sp_X11_isDay) ∧ mt_X11_rate.lookup 2216 = some (3, 0, 0, 6, sp_X1_rateOn) := ⟨rfl, rfl, rfl⟩
theorem mk_X11_rate : MOK RX11 mt_X11_rate := by
  intro q hq
  simp only [mt_X11_rate, List.mem_cons, List.not_mem_nil, or_false] at hq
  rcases hq with rfl | rfl | rfl
  · exact rw_X11_976
  · exact rw_X11_2168
  · exact rw_X11_2216
noncomputable def xe_X11_rate (ct : Nat → Bool) (K : Kt) (R : Option AV → Hp → Prop) (n : Nat) : Kt := exS 4 7 0 0 1 tb_X11_rate mt_X11_rate ct K R n
noncomputable def xk_X11_rate (ct : Nat → Bool) (K : Kt) (R : Option AV → Hp → Prop) (n : Nat) : Kt := exkS 4 7 0 0 1 tb_X11_rate mt_X11_rate ct K R n
theorem xt_X11_rate {ct : Nat → Bool} {K : Kt} {R : Option AV → Hp → Prop} {n pc : Nat} {ls : List (Option AV)} {st : List AV} {σ : Hp} {k : Nat × Nat} (h : ct pc = true) : xk_X11_rate ct K R n pc ls st σ k = K pc ls st σ k := by unfold xk_X11_rate exkS; rw [h]
theorem xf_X11_rate {ct : Nat → Bool} {K : Kt} {R : Option AV → Hp → Prop} {n pc : Nat} {ls : List (Option AV)} {st : List AV} {σ : Hp} {k : Nat × Nat} (h : ct pc = false) : xk_X11_rate ct K R n pc ls st σ k = xe_X11_rate ct K R n pc ls st σ k := by unfold xk_X11_rate exkS xe_X11_rate; rw [h]
theorem ev_X11_rate_0 {ct : Nat → Bool} {K : Kt} {R : Option AV → Hp → Prop} {n : Nat} {ls : List (Option AV)} {st : List AV} {σ : Hp} {k : Nat × Nat} : xe_X11_rate ct K R (n + 1) 0 ls st σ k = (lR ls 0 fun x => xk_X11_rate ct K R n 1 ls (vr x :: st) σ k) := exS_step.trans rfl
theorem ev_X11_rate_1 {ct : Nat → Bool} {K : Kt} {R : Option AV → Hp → Prop} {n : Nat} {ls : List (Option AV)} {st : List AV} {σ : Hp} {k : Nat × Nat} : xe_X11_rate ct K R (n + 1) 1 ls st σ k = (lI ls 1 fun x => xk_X11_rate ct K R n 2 ls (vi x :: st) σ k) := exS_step.trans rfl
theorem ev_X11_rate_2 {ct : Nat → Bool} {K : Kt} {R : Option AV → Hp → Prop} {n : Nat} {ls : List (Option AV)} {st : List AV} {σ : Hp} {k : Nat × Nat} : xe_X11_rate ct K R (n + 1) 2 ls st σ k = (popN 2 st [] fun av rest => (catS rest ≤ 8 ∧ 4 < 7 ∧ k.1 + 0 ≤ 0 ∧ k.2 + 0 ≤ 0) ∧ (sp_X11_boxOf) av σ fun v σ' => xk_X11_rate ct K R n 5 ls (v.toList ++ rest) σ' (k.1 + 0, k.2 + 0)) := exS_step.trans rfl
theorem ev_X11_rate_5 {ct : Nat → Bool} {K : Kt} {R : Option AV → Hp → Prop} {n : Nat} {ls : List (Option AV)} {st : List AV} {σ : Hp} {k : Nat × Nat} : xe_X11_rate ct K R (n + 1) 5 ls st σ k = (oR st fun x st => 3 < 4 ∧ xk_X11_rate ct K R n 6 (stL ls 3 (vr x)) st σ k) := exS_step.trans rfl
theorem ev_X11_rate_6 {ct : Nat → Bool} {K : Kt} {R : Option AV → Hp → Prop} {n : Nat} {ls : List (Option AV)} {st : List AV} {σ : Hp} {k : Nat × Nat} : xe_X11_rate ct K R (n + 1) 6 ls st σ k = (lR ls 3 fun x => xk_X11_rate ct K R n 7 ls (vr x :: st) σ k) := exS_step.trans rfl
theorem ev_X11_rate_7 {ct : Nat → Bool} {K : Kt} {R : Option AV → Hp → Prop} {n : Nat} {ls : List (Option AV)} {st : List AV} {σ : Hp} {k : Nat × Nat} : xe_X11_rate ct K R (n + 1) 7 ls st σ k = (oR st fun x st => (x = 0 → xk_X11_rate ct K R n 18 ls st σ k) ∧ (¬ x = 0 → xk_X11_rate ct K R n 10 ls st σ k)) := exS_step.trans rfl
theorem ev_X11_rate_10 {ct : Nat → Bool} {K : Kt} {R : Option AV → Hp → Prop} {n : Nat} {ls : List (Option AV)} {st : List AV} {σ : Hp} {k : Nat × Nat} : xe_X11_rate ct K R (n + 1) 10 ls st σ k = (lR ls 0 fun x => xk_X11_rate ct K R n 11 ls (vr x :: st) σ k) := exS_step.trans rfl
theorem ev_X11_rate_11 {ct : Nat → Bool} {K : Kt} {R : Option AV → Hp → Prop} {n : Nat} {ls : List (Option AV)} {st : List AV} {σ : Hp} {k : Nat × Nat} : xe_X11_rate ct K R (n + 1) 11 ls st σ k = (lI ls 2 fun x => xk_X11_rate ct K R n 12 ls (vi x :: st) σ k) := exS_step.trans rfl
theorem ev_X11_rate_12 {ct : Nat → Bool} {K : Kt} {R : Option AV → Hp → Prop} {n : Nat} {ls : List (Option AV)} {st : List AV} {σ : Hp} {k : Nat × Nat} : xe_X11_rate ct K R (n + 1) 12 ls st σ k = (popN 2 st [] fun av rest => (catS rest ≤ 8 ∧ 2 < 7 ∧ k.1 + 0 ≤ 0 ∧ k.2 + 0 ≤ 0) ∧ (sp_X11_isDay) av σ fun v σ' => xk_X11_rate ct K R n 15 ls (v.toList ++ rest) σ' (k.1 + 0, k.2 + 0)) := exS_step.trans rfl
theorem ev_X11_rate_15 {ct : Nat → Bool} {K : Kt} {R : Option AV → Hp → Prop} {n : Nat} {ls : List (Option AV)} {st : List AV} {σ : Hp} {k : Nat × Nat} : xe_X11_rate ct K R (n + 1) 15 ls st σ k = (oI st fun x st => (¬ wI x = wI 0 → xk_X11_rate ct K R n 22 ls st σ k) ∧ (¬ (¬ wI x = wI 0) → xk_X11_rate ct K R n 18 ls st σ k)) := exS_step.trans rfl
theorem ev_X11_rate_18 {ct : Nat → Bool} {K : Kt} {R : Option AV → Hp → Prop} {n : Nat} {ls : List (Option AV)} {st : List AV} {σ : Hp} {k : Nat × Nat} : xe_X11_rate ct K R (n + 1) 18 ls st σ k = (xk_X11_rate ct K R n 19 ls (vi (-1) :: st) σ k) := exS_step.trans rfl
theorem ev_X11_rate_19 {ct : Nat → Bool} {K : Kt} {R : Option AV → Hp → Prop} {n : Nat} {ls : List (Option AV)} {st : List AV} {σ : Hp} {k : Nat × Nat} : xe_X11_rate ct K R (n + 1) 19 ls st σ k = (xk_X11_rate ct K R n 31 ls st σ k) := exS_step.trans rfl
theorem ev_X11_rate_22 {ct : Nat → Bool} {K : Kt} {R : Option AV → Hp → Prop} {n : Nat} {ls : List (Option AV)} {st : List AV} {σ : Hp} {k : Nat × Nat} : xe_X11_rate ct K R (n + 1) 22 ls st σ k = (lR ls 0 fun x => xk_X11_rate ct K R n 23 ls (vr x :: st) σ k) := exS_step.trans rfl
theorem ev_X11_rate_23 {ct : Nat → Bool} {K : Kt} {R : Option AV → Hp → Prop} {n : Nat} {ls : List (Option AV)} {st : List AV} {σ : Hp} {k : Nat × Nat} : xe_X11_rate ct K R (n + 1) 23 ls st σ k = (oR st fun x st => kd σ x = 12 ∧ xk_X11_rate ct K R n 26 ls (vr (fR σ 1207 x) :: st) σ k) := exS_step.trans rfl
theorem ev_X11_rate_26 {ct : Nat → Bool} {K : Kt} {R : Option AV → Hp → Prop} {n : Nat} {ls : List (Option AV)} {st : List AV} {σ : Hp} {k : Nat × Nat} : xe_X11_rate ct K R (n + 1) 26 ls st σ k = (lR ls 3 fun x => xk_X11_rate ct K R n 27 ls (vr x :: st) σ k) := exS_step.trans rfl
theorem ev_X11_rate_27 {ct : Nat → Bool} {K : Kt} {R : Option AV → Hp → Prop} {n : Nat} {ls : List (Option AV)} {st : List AV} {σ : Hp} {k : Nat × Nat} : xe_X11_rate ct K R (n + 1) 27 ls st σ k = (lI ls 2 fun x => xk_X11_rate ct K R n 28 ls (vi x :: st) σ k) := exS_step.trans rfl
theorem ev_X11_rate_28 {ct : Nat → Bool} {K : Kt} {R : Option AV → Hp → Prop} {n : Nat} {ls : List (Option AV)} {st : List AV} {σ : Hp} {k : Nat × Nat} : xe_X11_rate ct K R (n + 1) 28 ls st σ k = (popN 3 st [] fun av rest => (catS rest ≤ 8 ∧ 6 < 7 ∧ k.1 + 0 ≤ 0 ∧ k.2 + 0 ≤ 0) ∧ (sp_X1_rateOn) av σ fun v σ' => xk_X11_rate ct K R n 31 ls (v.toList ++ rest) σ' (k.1 + 0, k.2 + 0)) := exS_step.trans rfl
theorem ev_X11_rate_31 {ct : Nat → Bool} {K : Kt} {R : Option AV → Hp → Prop} {n : Nat} {ls : List (Option AV)} {st : List AV} {σ : Hp} {k : Nat × Nat} : xe_X11_rate ct K R (n + 1) 31 ls st σ k = (oI st fun x st => st = [] ∧ True ∧ R (some (vi x)) σ) := exS_step.trans rfl
def M_X11_rate : Md := (yX11_rate, cX11_rate, 4, (some FieldType.int), 7, 0, 0, 1, false, tb_X11_rate, mt_X11_rate)
theorem mm_X11_rate : MMOK M_X11_rate := ⟨by decide +kernel, tk_X11_rate, mk_X11_rate, rfl, fun h => by cases h⟩
theorem go_X11_rate {Q : Option AV → Hp → Prop} {ct : Nat → Bool} {pc : Nat} {ls : List (Option AV)} {st : List AV} {σ : Hp} {k : Nat × Nat} (n : Nat) (h : xe_X11_rate ct (Go M_X11_rate Q) Q n pc ls st σ k) : Go M_X11_rate Q pc ls st σ k := Go.exS mm_X11_rate h

set_option maxRecDepth 20000 in
theorem c_X11_rate : Ct yX11_rate cX11_rate 4 ((some FieldType.int)) 7 0 0 sp_X11_rate := by
  refine Ct.go (M := M_X11_rate) mm_X11_rate fun av σ Q h0 => ?_
  obtain ⟨this, b, w, rfl, hk, h⟩ := el_X11_rate h0
  clear h0
  refine ⟨Nat.le_of_ble_eq_true rfl, ?_⟩
  show Go M_X11_rate Q 0 [some (vr this), some (vi b), some (vi w), none] [] σ (0, 0)
  obtain ⟨rfl, hC, hb, hw, hnw, τ, hA, hB, hI, hW, hAB, h⟩ := h
  have hL := hB.1
  have hsz := hB.2.1
  by_cases y : 0 ≤ b ∧ b < fI τ 1302 61
  · have e : (if 0 ≤ b ∧ b < fI τ 1302 61 then lat σ 3 b else 0) = lat σ 3 b := if_pos y
    have hp0 : ¬ lat σ 3 b = 0 := by have := (hB.2.2 b y.1 y.2).1; omega
    by_cases c : 0 ≤ w ∧ w ≤ fI σ 1210 1 / 86400
    · rw [if_pos ⟨y, c⟩] at h
      refine go_X11_rate (ct := fun p => p == 18) 40 ?_
      simp only [oI, oL, oR, o1, lI, lL, lR, popN, catS, gv, stL, stL2, swt, cnd, spObj, List.getElem?_cons_zero, List.getElem?_cons_succ, List.getD_cons_zero, List.getD_cons_succ, List.set_cons_zero, List.set_cons_succ, List.nil_append, List.cons_append, Option.toList, Bool.or_false, Bool.false_or, Bool.or_true, Bool.true_or, Nat.reduceBEq, Nat.reduceAdd, Nat.reduceLT, Nat.reduceLeDiff, Int.reduceAdd, Int.reduceToNat, true_and, and_true, Fin.isValue, Fin.val_zero, Fin.val_one, Fin.val_two, Fin.reduceFinMk, eq_self, Int.reduceNeg, imp_self, Nat.reduceMul, Nat.le_refl, not_true_eq_false, not_false_eq_true, List.getElem?_nil, reduceCtorEq, true_or, or_true, Classical.not_not, implies_true, or_self, wI_0, wI_1, wI_m1, b2i_w, b2i_eq0, b2i_eq1, b2i_bool, nor_self, nx_pI, kd_pI, ln_pI, fI_pI, fL_pI, fR_pI, aI_pI, aL_pI, aR_pI, nx_pL, kd_pL, ln_pL, fI_pL, fL_pL, fR_pL, aI_pL, aL_pL, aR_pL, nx_pR, kd_pR, ln_pR, fI_pR, fL_pR, fR_pR, aI_pR, aL_pR, aR_pR, nx_qI, kd_qI, ln_qI, fI_qI, fL_qI, fR_qI, aI_qI, aL_qI, aR_qI, nx_qL, kd_qL, ln_qL, fI_qL, fL_qL, fR_qL, aI_qL, aL_qL, aR_qL, nx_qR, kd_qR, ln_qR, fI_qR, fL_qR, fR_qR, aI_qR, aL_qR, aR_qR, nx_mk, kd_mk, ln_mk, fI_mk, fL_mk, fR_mk, aI_mk, aL_mk, aR_mk, false_and, and_false, if_false, if_true, and_self, Int.reduceEq, Nat.reduceEqDiff, ite_self, MLay_pI, MLay_pL, MLay_qI, MLay_qL, ev_X11_rate_0, ev_X11_rate_1, ev_X11_rate_2, ev_X11_rate_5, ev_X11_rate_6, ev_X11_rate_7, ev_X11_rate_10, ev_X11_rate_11, ev_X11_rate_12, ev_X11_rate_15, ev_X11_rate_18, ev_X11_rate_19, ev_X11_rate_22, ev_X11_rate_23, ev_X11_rate_26, ev_X11_rate_27, ev_X11_rate_28, ev_X11_rate_31, xt_X11_rate, xf_X11_rate, us_X11_boxOf, us_X11_isDay, us_X1_rateOn, hC, hC.eqs, hL, hsz, hb, e, hp0, hw, hnw, c]
      exact ⟨fun z => z.elim, fun _ => ⟨fun _ => ⟨τ, b, hA, hB, hI, hW, hAB, y, rfl, h⟩, fun z => by first | exact z.elim | exact absurd trivial z⟩⟩
    · rw [if_neg (fun z => c z.2)] at h
      refine go_X11_rate (ct := fun p => p == 22) 40 ?_
      simp only [oI, oL, oR, o1, lI, lL, lR, popN, catS, gv, stL, stL2, swt, cnd, spObj, List.getElem?_cons_zero, List.getElem?_cons_succ, List.getD_cons_zero, List.getD_cons_succ, List.set_cons_zero, List.set_cons_succ, List.nil_append, List.cons_append, Option.toList, Bool.or_false, Bool.false_or, Bool.or_true, Bool.true_or, Nat.reduceBEq, Nat.reduceAdd, Nat.reduceLT, Nat.reduceLeDiff, Int.reduceAdd, Int.reduceToNat, true_and, and_true, Fin.isValue, Fin.val_zero, Fin.val_one, Fin.val_two, Fin.reduceFinMk, eq_self, Int.reduceNeg, imp_self, Nat.reduceMul, Nat.le_refl, not_true_eq_false, not_false_eq_true, List.getElem?_nil, reduceCtorEq, true_or, or_true, Classical.not_not, implies_true, or_self, wI_0, wI_1, wI_m1, b2i_w, b2i_eq0, b2i_eq1, b2i_bool, nor_self, nx_pI, kd_pI, ln_pI, fI_pI, fL_pI, fR_pI, aI_pI, aL_pI, aR_pI, nx_pL, kd_pL, ln_pL, fI_pL, fL_pL, fR_pL, aI_pL, aL_pL, aR_pL, nx_pR, kd_pR, ln_pR, fI_pR, fL_pR, fR_pR, aI_pR, aL_pR, aR_pR, nx_qI, kd_qI, ln_qI, fI_qI, fL_qI, fR_qI, aI_qI, aL_qI, aR_qI, nx_qL, kd_qL, ln_qL, fI_qL, fL_qL, fR_qL, aI_qL, aL_qL, aR_qL, nx_qR, kd_qR, ln_qR, fI_qR, fL_qR, fR_qR, aI_qR, aL_qR, aR_qR, nx_mk, kd_mk, ln_mk, fI_mk, fL_mk, fR_mk, aI_mk, aL_mk, aR_mk, false_and, and_false, if_false, if_true, and_self, Int.reduceEq, Nat.reduceEqDiff, ite_self, MLay_pI, MLay_pL, MLay_qI, MLay_qL, ev_X11_rate_0, ev_X11_rate_1, ev_X11_rate_2, ev_X11_rate_5, ev_X11_rate_6, ev_X11_rate_7, ev_X11_rate_10, ev_X11_rate_11, ev_X11_rate_12, ev_X11_rate_15, ev_X11_rate_18, ev_X11_rate_19, ev_X11_rate_22, ev_X11_rate_23, ev_X11_rate_26, ev_X11_rate_27, ev_X11_rate_28, ev_X11_rate_31, xt_X11_rate, xf_X11_rate, us_X11_boxOf, us_X11_isDay, us_X1_rateOn, hC, hC.eqs, hL, hsz, hb, e, hp0, hw, hnw, c]
      repeat' (first | intro z | apply And.intro)
      all_goals try omega
      all_goals try contradiction
      all_goals exact h
  · have e : (if 0 ≤ b ∧ b < fI τ 1302 61 then lat σ 3 b else 0) = 0 := if_neg y
    rw [if_neg (fun z => y z.1)] at h
    refine go_X11_rate (ct := fun p => p == 10) 40 ?_
    simp only [oI, oL, oR, o1, lI, lL, lR, popN, catS, gv, stL, stL2, swt, cnd, spObj, List.getElem?_cons_zero, List.getElem?_cons_succ, List.getD_cons_zero, List.getD_cons_succ, List.set_cons_zero, List.set_cons_succ, List.nil_append, List.cons_append, Option.toList, Bool.or_false, Bool.false_or, Bool.or_true, Bool.true_or, Nat.reduceBEq, Nat.reduceAdd, Nat.reduceLT, Nat.reduceLeDiff, Int.reduceAdd, Int.reduceToNat, true_and, and_true, Fin.isValue, Fin.val_zero, Fin.val_one, Fin.val_two, Fin.reduceFinMk, eq_self, Int.reduceNeg, imp_self, Nat.reduceMul, Nat.le_refl, not_true_eq_false, not_false_eq_true, List.getElem?_nil, reduceCtorEq, true_or, or_true, Classical.not_not, implies_true, or_self, wI_0, wI_1, wI_m1, b2i_w, b2i_eq0, b2i_eq1, b2i_bool, nor_self, nx_pI, kd_pI, ln_pI, fI_pI, fL_pI, fR_pI, aI_pI, aL_pI, aR_pI, nx_pL, kd_pL, ln_pL, fI_pL, fL_pL, fR_pL, aI_pL, aL_pL, aR_pL, nx_pR, kd_pR, ln_pR, fI_pR, fL_pR, fR_pR, aI_pR, aL_pR, aR_pR, nx_qI, kd_qI, ln_qI, fI_qI, fL_qI, fR_qI, aI_qI, aL_qI, aR_qI, nx_qL, kd_qL, ln_qL, fI_qL, fL_qL, fR_qL, aI_qL, aL_qL, aR_qL, nx_qR, kd_qR, ln_qR, fI_qR, fL_qR, fR_qR, aI_qR, aL_qR, aR_qR, nx_mk, kd_mk, ln_mk, fI_mk, fL_mk, fR_mk, aI_mk, aL_mk, aR_mk, false_and, and_false, if_false, if_true, and_self, Int.reduceEq, Nat.reduceEqDiff, ite_self, MLay_pI, MLay_pL, MLay_qI, MLay_qL, ev_X11_rate_0, ev_X11_rate_1, ev_X11_rate_2, ev_X11_rate_5, ev_X11_rate_6, ev_X11_rate_7, ev_X11_rate_10, ev_X11_rate_11, ev_X11_rate_12, ev_X11_rate_15, ev_X11_rate_18, ev_X11_rate_19, ev_X11_rate_22, ev_X11_rate_23, ev_X11_rate_26, ev_X11_rate_27, ev_X11_rate_28, ev_X11_rate_31, xt_X11_rate, xf_X11_rate, us_X11_boxOf, us_X11_isDay, us_X1_rateOn, hC, hC.eqs, hL, hsz, hb, e]
    repeat' (first | intro z | apply And.intro)
    all_goals try omega
    all_goals try contradiction
    all_goals exact h
