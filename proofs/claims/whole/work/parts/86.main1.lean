/-! the class itself: what its calls lean on -/

def sp_X11_loopOf : Sp := fun av σ Q => oR av fun this av => oI av fun l av => av = [] ∧ kd σ this = 12 ∧ (this = 1 ∧ CLay σ ∧ inR l ∧ Q (some (vr (if 0 ≤ l ∧ l < 4 then 45 + 4 * l else 0))) σ)
theorem us_X11_loopOf (this : Int) (l : Int) (σ : Hp) (Q : Option AV → Hp → Prop) : sp_X11_loopOf [vr this, vi l] σ Q = (kd σ this = 12 ∧ (this = 1 ∧ CLay σ ∧ inR l ∧ Q (some (vr (if 0 ≤ l ∧ l < 4 then 45 + 4 * l else 0))) σ)) := propext ⟨fun h => h.2, fun h => ⟨rfl, h⟩⟩
theorem el_X11_loopOf {av : List AV} {σ : Hp} {Q : Option AV → Hp → Prop} (h : sp_X11_loopOf av σ Q) : ∃ (this : Int) (l : Int), av = [vr this, vi l] ∧ (kd σ this = 12 ∧ (this = 1 ∧ CLay σ ∧ inR l ∧ Q (some (vr (if 0 ≤ l ∧ l < 4 then 45 + 4 * l else 0))) σ)) := by
  obtain ⟨this, a0, rfl, h0⟩ := oR_s h
  obtain ⟨l, a1, rfl, h1⟩ := oI_s h0
  obtain ⟨rfl, hz⟩ := h1
  exact ⟨this, l, rfl, hz⟩
theorem rc_X11_loopOf : ∀ (av : List AV) (σ : Hp) (Q : Option AV → Hp → Prop), sp_X11_loopOf av σ Q → ∃ r tl, av = vr r :: tl ∧ kd σ r = 11 + 1 := fun av σ Q h => by
  obtain ⟨this, l, rfl, hz, -⟩ := el_X11_loopOf h
  exact ⟨this, _, rfl, hz⟩

def tb_X11_loopOf : Tab := [(0, .iload_n 1, 1, (0, 0, 0, 0)), (1, .ifCond .lt 21, 3, (0, 0, 0, 0)), (4, .iload_n 1, 1, (0, 0, 0, 0)), (5, .aload_n 0, 1, (0, 0, 0, 0)), (6, .getfield 11, 3, (12, 1200, 2, 0)), (9, .arraylength, 1, (0, 0, 0, 0)), (10, .if_icmp .ge 12, 3, (0, 0, 0, 0)), (13, .aload_n 0, 1, (0, 0, 0, 0)), (14, .getfield 11, 3, (12, 1200, 2, 0)), (17, .iload_n 1, 1, (0, 0, 0, 0)), (18, .aaload, 1, (0, 0, 0, 0)), (19, .goto 4, 3, (0, 0, 0, 0)), (22, .aconst_null, 1, (0, 0, 0, 0)), (23, .areturn, 1, (0, 0, 0, 0))]
set_option maxRecDepth 100000 in
theorem tk_X11_loopOf : TOK RX11 false cX11_loopOf tb_X11_loopOf := chkT_ok ft_X11 (by decide +kernel)
def mt_X11_loopOf : List (Nat × Mt) := []
theorem mk_X11_loopOf : MOK RX11 mt_X11_loopOf := fun q hq => by cases hq
noncomputable def xe_X11_loopOf (ct : Nat → Bool) (K : Kt) (R : Option AV → Hp → Prop) (n : Nat) : Kt := exS 2 1 0 0 5 tb_X11_loopOf mt_X11_loopOf ct K R n
noncomputable def xk_X11_loopOf (ct : Nat → Bool) (K : Kt) (R : Option AV → Hp → Prop) (n : Nat) : Kt := exkS 2 1 0 0 5 tb_X11_loopOf mt_X11_loopOf ct K R n
theorem xt_X11_loopOf {ct : Nat → Bool} {K : Kt} {R : Option AV → Hp → Prop} {n pc : Nat} {ls : List (Option AV)} {st : List AV} {σ : Hp} {k : Nat × Nat} (h : ct pc = true) : xk_X11_loopOf ct K R n pc ls st σ k = K pc ls st σ k := by unfold xk_X11_loopOf exkS; rw [h]
theorem xf_X11_loopOf {ct : Nat → Bool} {K : Kt} {R : Option AV → Hp → Prop} {n pc : Nat} {ls : List (Option AV)} {st : List AV} {σ : Hp} {k : Nat × Nat} (h : ct pc = false) : xk_X11_loopOf ct K R n pc ls st σ k = xe_X11_loopOf ct K R n pc ls st σ k := by unfold xk_X11_loopOf exkS xe_X11_loopOf; rw [h]
theorem ev_X11_loopOf_0 {ct : Nat → Bool} {K : Kt} {R : Option AV → Hp → Prop} {n : Nat} {ls : List (Option AV)} {st : List AV} {σ : Hp} {k : Nat × Nat} : xe_X11_loopOf ct K R (n + 1) 0 ls st σ k = (lI ls 1 fun x => xk_X11_loopOf ct K R n 1 ls (vi x :: st) σ k) := exS_step.trans rfl
theorem ev_X11_loopOf_1 {ct : Nat → Bool} {K : Kt} {R : Option AV → Hp → Prop} {n : Nat} {ls : List (Option AV)} {st : List AV} {σ : Hp} {k : Nat × Nat} : xe_X11_loopOf ct K R (n + 1) 1 ls st σ k = (oI st fun x st => (wI x < wI 0 → xk_X11_loopOf ct K R n 22 ls st σ k) ∧ (¬ (wI x < wI 0) → xk_X11_loopOf ct K R n 4 ls st σ k)) := exS_step.trans rfl
theorem ev_X11_loopOf_4 {ct : Nat → Bool} {K : Kt} {R : Option AV → Hp → Prop} {n : Nat} {ls : List (Option AV)} {st : List AV} {σ : Hp} {k : Nat × Nat} : xe_X11_loopOf ct K R (n + 1) 4 ls st σ k = (lI ls 1 fun x => xk_X11_loopOf ct K R n 5 ls (vi x :: st) σ k) := exS_step.trans rfl
theorem ev_X11_loopOf_5 {ct : Nat → Bool} {K : Kt} {R : Option AV → Hp → Prop} {n : Nat} {ls : List (Option AV)} {st : List AV} {σ : Hp} {k : Nat × Nat} : xe_X11_loopOf ct K R (n + 1) 5 ls st σ k = (lR ls 0 fun x => xk_X11_loopOf ct K R n 6 ls (vr x :: st) σ k) := exS_step.trans rfl
theorem ev_X11_loopOf_6 {ct : Nat → Bool} {K : Kt} {R : Option AV → Hp → Prop} {n : Nat} {ls : List (Option AV)} {st : List AV} {σ : Hp} {k : Nat × Nat} : xe_X11_loopOf ct K R (n + 1) 6 ls st σ k = (oR st fun x st => kd σ x = 12 ∧ xk_X11_loopOf ct K R n 9 ls (vr (fR σ 1200 x) :: st) σ k) := exS_step.trans rfl
theorem ev_X11_loopOf_9 {ct : Nat → Bool} {K : Kt} {R : Option AV → Hp → Prop} {n : Nat} {ls : List (Option AV)} {st : List AV} {σ : Hp} {k : Nat × Nat} : xe_X11_loopOf ct K R (n + 1) 9 ls st σ k = (oR st fun x st => (101 ≤ kd σ x ∨ kd σ x = 21) ∧ xk_X11_loopOf ct K R n 10 ls (vi (ln σ x) :: st) σ k) := exS_step.trans rfl
theorem ev_X11_loopOf_10 {ct : Nat → Bool} {K : Kt} {R : Option AV → Hp → Prop} {n : Nat} {ls : List (Option AV)} {st : List AV} {σ : Hp} {k : Nat × Nat} : xe_X11_loopOf ct K R (n + 1) 10 ls st σ k = (oI st fun y st => oI st fun x st => (wI y ≤ wI x → xk_X11_loopOf ct K R n 22 ls st σ k) ∧ (¬ (wI y ≤ wI x) → xk_X11_loopOf ct K R n 13 ls st σ k)) := exS_step.trans rfl
theorem ev_X11_loopOf_13 {ct : Nat → Bool} {K : Kt} {R : Option AV → Hp → Prop} {n : Nat} {ls : List (Option AV)} {st : List AV} {σ : Hp} {k : Nat × Nat} : xe_X11_loopOf ct K R (n + 1) 13 ls st σ k = (lR ls 0 fun x => xk_X11_loopOf ct K R n 14 ls (vr x :: st) σ k) := exS_step.trans rfl
theorem ev_X11_loopOf_14 {ct : Nat → Bool} {K : Kt} {R : Option AV → Hp → Prop} {n : Nat} {ls : List (Option AV)} {st : List AV} {σ : Hp} {k : Nat × Nat} : xe_X11_loopOf ct K R (n + 1) 14 ls st σ k = (oR st fun x st => kd σ x = 12 ∧ xk_X11_loopOf ct K R n 17 ls (vr (fR σ 1200 x) :: st) σ k) := exS_step.trans rfl
theorem ev_X11_loopOf_17 {ct : Nat → Bool} {K : Kt} {R : Option AV → Hp → Prop} {n : Nat} {ls : List (Option AV)} {st : List AV} {σ : Hp} {k : Nat × Nat} : xe_X11_loopOf ct K R (n + 1) 17 ls st σ k = (lI ls 1 fun x => xk_X11_loopOf ct K R n 18 ls (vi x :: st) σ k) := exS_step.trans rfl
theorem ev_X11_loopOf_18 {ct : Nat → Bool} {K : Kt} {R : Option AV → Hp → Prop} {n : Nat} {ls : List (Option AV)} {st : List AV} {σ : Hp} {k : Nat × Nat} : xe_X11_loopOf ct K R (n + 1) 18 ls st σ k = (oI st fun j st => oR st fun x st => (kd σ x = 105 ∨ kd σ x = 106 ∨ kd σ x = 107) ∧ (0 ≤ j ∧ j < ln σ x) ∧ xk_X11_loopOf ct K R n 19 ls (vr (aR σ x j) :: st) σ k) := exS_step.trans rfl
theorem ev_X11_loopOf_19 {ct : Nat → Bool} {K : Kt} {R : Option AV → Hp → Prop} {n : Nat} {ls : List (Option AV)} {st : List AV} {σ : Hp} {k : Nat × Nat} : xe_X11_loopOf ct K R (n + 1) 19 ls st σ k = (xk_X11_loopOf ct K R n 23 ls st σ k) := exS_step.trans rfl
theorem ev_X11_loopOf_22 {ct : Nat → Bool} {K : Kt} {R : Option AV → Hp → Prop} {n : Nat} {ls : List (Option AV)} {st : List AV} {σ : Hp} {k : Nat × Nat} : xe_X11_loopOf ct K R (n + 1) 22 ls st σ k = (xk_X11_loopOf ct K R n 23 ls (vr 0 :: st) σ k) := exS_step.trans rfl
theorem ev_X11_loopOf_23 {ct : Nat → Bool} {K : Kt} {R : Option AV → Hp → Prop} {n : Nat} {ls : List (Option AV)} {st : List AV} {σ : Hp} {k : Nat × Nat} : xe_X11_loopOf ct K R (n + 1) 23 ls st σ k = (oR st fun x st => st = [] ∧ 5 = 5 ∧ R (some (vr x)) σ) := exS_step.trans rfl
def M_X11_loopOf : Md := (yX11_loopOf, cX11_loopOf, 2, (some (FieldType.object "AlarmBoxes$Loop")), 1, 0, 0, 5, false, tb_X11_loopOf, mt_X11_loopOf)
theorem mm_X11_loopOf : MMOK M_X11_loopOf := ⟨by decide +kernel, tk_X11_loopOf, mk_X11_loopOf, Or.inl ⟨_, rfl⟩, fun h => by cases h⟩
theorem go_X11_loopOf {Q : Option AV → Hp → Prop} {ct : Nat → Bool} {pc : Nat} {ls : List (Option AV)} {st : List AV} {σ : Hp} {k : Nat × Nat} (n : Nat) (h : xe_X11_loopOf ct (Go M_X11_loopOf Q) Q n pc ls st σ k) : Go M_X11_loopOf Q pc ls st σ k := Go.exS mm_X11_loopOf h

set_option maxRecDepth 20000 in
theorem c_X11_loopOf : Ct yX11_loopOf cX11_loopOf 2 ((some (FieldType.object "AlarmBoxes$Loop"))) 1 0 0 sp_X11_loopOf := by
  refine Ct.go (M := M_X11_loopOf) mm_X11_loopOf fun av σ Q h0 => ?_
  obtain ⟨this, l, rfl, hk, h⟩ := el_X11_loopOf h0
  clear h0
  refine ⟨Nat.le_of_ble_eq_true rfl, ?_⟩
  show Go M_X11_loopOf Q 0 [some (vr this), some (vi l)] [] σ (0, 0)
  obtain ⟨rfl, hC, hl, h⟩ := h
  unfold inR at hl
  by_cases c : 0 ≤ l ∧ l < 4
  · rw [if_pos c] at h
    have e : aR σ 2 l = 45 + 4 * l := by
      have : l = 0 ∨ l = 1 ∨ l = 2 ∨ l = 3 := by omega
      rcases this with rfl | rfl | rfl | rfl <;> simp only [hC.eqs, Int.reduceAdd, Int.reduceMul]
    refine go_X11_loopOf (ct := fun p => p == 22) 40 ?_
    simp only [oI, oL, oR, o1, lI, lL, lR, popN, catS, gv, stL, stL2, swt, cnd, spObj, List.getElem?_cons_zero, List.getElem?_cons_succ, List.getD_cons_zero, List.getD_cons_succ, List.set_cons_zero, List.set_cons_succ, List.nil_append, List.cons_append, Option.toList, Bool.or_false, Bool.false_or, Bool.or_true, Bool.true_or, Nat.reduceBEq, Nat.reduceAdd, Nat.reduceLT, Nat.reduceLeDiff, Int.reduceAdd, Int.reduceToNat, true_and, and_true, Fin.isValue, Fin.val_zero, Fin.val_one, Fin.val_two, Fin.reduceFinMk, eq_self, Int.reduceNeg, imp_self, Nat.reduceMul, Nat.le_refl, not_true_eq_false, not_false_eq_true, List.getElem?_nil, reduceCtorEq, true_or, or_true, Classical.not_not, implies_true, or_self, wI_0, wI_1, wI_m1, b2i_w, b2i_eq0, b2i_eq1, b2i_bool, nor_self, nx_pI, kd_pI, ln_pI, fI_pI, fL_pI, fR_pI, aI_pI, aL_pI, aR_pI, nx_pL, kd_pL, ln_pL, fI_pL, fL_pL, fR_pL, aI_pL, aL_pL, aR_pL, nx_pR, kd_pR, ln_pR, fI_pR, fL_pR, fR_pR, aI_pR, aL_pR, aR_pR, nx_qI, kd_qI, ln_qI, fI_qI, fL_qI, fR_qI, aI_qI, aL_qI, aR_qI, nx_qL, kd_qL, ln_qL, fI_qL, fL_qL, fR_qL, aI_qL, aL_qL, aR_qL, nx_qR, kd_qR, ln_qR, fI_qR, fL_qR, fR_qR, aI_qR, aL_qR, aR_qR, nx_mk, kd_mk, ln_mk, fI_mk, fL_mk, fR_mk, aI_mk, aL_mk, aR_mk, false_and, and_false, if_false, if_true, and_self, Int.reduceEq, Nat.reduceEqDiff, ite_self, MLay_pI, MLay_pL, MLay_qI, MLay_qL, ev_X11_loopOf_0, ev_X11_loopOf_1, ev_X11_loopOf_4, ev_X11_loopOf_5, ev_X11_loopOf_6, ev_X11_loopOf_9, ev_X11_loopOf_10, ev_X11_loopOf_13, ev_X11_loopOf_14, ev_X11_loopOf_17, ev_X11_loopOf_18, ev_X11_loopOf_19, ev_X11_loopOf_22, ev_X11_loopOf_23, xt_X11_loopOf, xf_X11_loopOf, hC.eqs, e]
    try simp (disch := omega) only [wI_id, dv_nn, rm_nn]
    repeat' (first | intro z | apply And.intro)
    all_goals try omega
    all_goals try contradiction
    all_goals exact h
  · rw [if_neg c] at h
    refine go_X11_loopOf (ct := fun p => p == 13) 40 ?_
    simp only [oI, oL, oR, o1, lI, lL, lR, popN, catS, gv, stL, stL2, swt, cnd, spObj, List.getElem?_cons_zero, List.getElem?_cons_succ, List.getD_cons_zero, List.getD_cons_succ, List.set_cons_zero, List.set_cons_succ, List.nil_append, List.cons_append, Option.toList, Bool.or_false, Bool.false_or, Bool.or_true, Bool.true_or, Nat.reduceBEq, Nat.reduceAdd, Nat.reduceLT, Nat.reduceLeDiff, Int.reduceAdd, Int.reduceToNat, true_and, and_true, Fin.isValue, Fin.val_zero, Fin.val_one, Fin.val_two, Fin.reduceFinMk, eq_self, Int.reduceNeg, imp_self, Nat.reduceMul, Nat.le_refl, not_true_eq_false, not_false_eq_true, List.getElem?_nil, reduceCtorEq, true_or, or_true, Classical.not_not, implies_true, or_self, wI_0, wI_1, wI_m1, b2i_w, b2i_eq0, b2i_eq1, b2i_bool, nor_self, nx_pI, kd_pI, ln_pI, fI_pI, fL_pI, fR_pI, aI_pI, aL_pI, aR_pI, nx_pL, kd_pL, ln_pL, fI_pL, fL_pL, fR_pL, aI_pL, aL_pL, aR_pL, nx_pR, kd_pR, ln_pR, fI_pR, fL_pR, fR_pR, aI_pR, aL_pR, aR_pR, nx_qI, kd_qI, ln_qI, fI_qI, fL_qI, fR_qI, aI_qI, aL_qI, aR_qI, nx_qL, kd_qL, ln_qL, fI_qL, fL_qL, fR_qL, aI_qL, aL_qL, aR_qL, nx_qR, kd_qR, ln_qR, fI_qR, fL_qR, fR_qR, aI_qR, aL_qR, aR_qR, nx_mk, kd_mk, ln_mk, fI_mk, fL_mk, fR_mk, aI_mk, aL_mk, aR_mk, false_and, and_false, if_false, if_true, and_self, Int.reduceEq, Nat.reduceEqDiff, ite_self, MLay_pI, MLay_pL, MLay_qI, MLay_qL, ev_X11_loopOf_0, ev_X11_loopOf_1, ev_X11_loopOf_4, ev_X11_loopOf_5, ev_X11_loopOf_6, ev_X11_loopOf_9, ev_X11_loopOf_10, ev_X11_loopOf_13, ev_X11_loopOf_14, ev_X11_loopOf_17, ev_X11_loopOf_18, ev_X11_loopOf_19, ev_X11_loopOf_22, ev_X11_loopOf_23, xt_X11_loopOf, xf_X11_loopOf, hC.eqs]
    try simp (disch := omega) only [wI_id, dv_nn, rm_nn]
    repeat' (first | intro z | apply And.intro)
    all_goals try omega
    all_goals try contradiction
    all_goals exact h

def sp_X11_boxOf : Sp := fun av σ Q => oR av fun this av => oI av fun b av => av = [] ∧ kd σ this = 12 ∧ (this = 1 ∧ CLay σ ∧ LOk σ 3 2 ∧ inR b ∧ Q (some (vr (if 0 ≤ b ∧ b < fI σ 1402 3 then lat σ 3 b else 0))) σ)
theorem us_X11_boxOf (this : Int) (b : Int) (σ : Hp) (Q : Option AV → Hp → Prop) : sp_X11_boxOf [vr this, vi b] σ Q = (kd σ this = 12 ∧ (this = 1 ∧ CLay σ ∧ LOk σ 3 2 ∧ inR b ∧ Q (some (vr (if 0 ≤ b ∧ b < fI σ 1402 3 then lat σ 3 b else 0))) σ)) := propext ⟨fun h => h.2, fun h => ⟨rfl, h⟩⟩
theorem el_X11_boxOf {av : List AV} {σ : Hp} {Q : Option AV → Hp → Prop} (h : sp_X11_boxOf av σ Q) : ∃ (this : Int) (b : Int), av = [vr this, vi b] ∧ (kd σ this = 12 ∧ (this = 1 ∧ CLay σ ∧ LOk σ 3 2 ∧ inR b ∧ Q (some (vr (if 0 ≤ b ∧ b < fI σ 1402 3 then lat σ 3 b else 0))) σ)) := by
  obtain ⟨this, a0, rfl, h0⟩ := oR_s h
  obtain ⟨b, a1, rfl, h1⟩ := oI_s h0
  obtain ⟨rfl, hz⟩ := h1
  exact ⟨this, b, rfl, hz⟩
theorem rc_X11_boxOf : ∀ (av : List AV) (σ : Hp) (Q : Option AV → Hp → Prop), sp_X11_boxOf av σ Q → ∃ r tl, av = vr r :: tl ∧ kd σ r = 11 + 1 := fun av σ Q h => by
  obtain ⟨this, b, rfl, hz, -⟩ := el_X11_boxOf h
  exact ⟨this, _, rfl, hz⟩

def tb_X11_boxOf : Tab := [(0, .iload_n 1, 1, (0, 0, 0, 0)), (1, .ifCond .lt 28, 3, (0, 0, 0, 0)), (4, .iload_n 1, 1, (0, 0, 0, 0)), (5, .aload_n 0, 1, (0, 0, 0, 0)), (6, .getfield 33, 3, (12, 1203, 2, 0)), (9, .invokevirtual 83, 3, (0, 0, 0, 0)), (12, .if_icmp .ge 17, 3, (0, 0, 0, 0)), (15, .aload_n 0, 1, (0, 0, 0, 0)), (16, .getfield 33, 3, (12, 1203, 2, 0)), (19, .iload_n 1, 1, (0, 0, 0, 0)), (20, .invokevirtual 281, 3, (0, 0, 0, 0)), (23, .checkcast 103, 3, (3, 0, 0, 0)), (26, .goto 4, 3, (0, 0, 0, 0)), (29, .aconst_null, 1, (0, 0, 0, 0)), (30, .areturn, 1, (0, 0, 0, 0))]
set_option maxRecDepth 100000 in
theorem tk_X11_boxOf : TOK RX11 false cX11_boxOf tb_X11_boxOf := chkT_ok ft_X11 (by decide +kernel)
theorem rw_X11_664 : Row RX11 (.invokevirtual 83) 3 1 0 0 1 sp_Jx4a65c_size_8abf5 := row_V (n := 0) (ci := 13) c_Jx4a65c_size_8abf5 ⟨TBL_in 533 (by decide +kernel) rfl, TBL_in 485 (by decide +kernel) rfl, TBL_in 115 (by decide +kernel) rfl, by decide +kernel, by decide⟩ (by decide) rfl (TBL_in 483 (by decide +kernel) rfl) (TBL_in 484 (by decide +kernel) rfl) rc_Jx4a65c_size_8abf5
theorem rw_X11_2248 : Row RX11 (.invokevirtual 281) 3 2 0 0 3 sp_Jx4a65c_get_915e3 := row_V (n := 1) (ci := 13) c_Jx4a65c_get_915e3 ⟨TBL_in 701 (by decide +kernel) rfl, TBL_in 489 (by decide +kernel) rfl, TBL_in 115 (by decide +kernel) rfl, by decide +kernel, by decide⟩ (by decide) rfl (TBL_in 487 (by decide +kernel) rfl) (TBL_in 488 (by decide +kernel) rfl) rc_Jx4a65c_get_915e3
def mt_X11_boxOf : List (Nat × Mt) := [(664, 1, 0, 0, 1, sp_Jx4a65c_size_8abf5), (2248, 2, 0, 0, 3, sp_Jx4a65c_get_915e3)]
theorem em_X11_boxOf : mt_X11_boxOf.lookup 664 = some (1, 0, 0, 1, sp_Jx4a65c_size_8abf5) ∧ mt_X11_boxOf.lookup 2248 = some (2, 0, 0, 3, sp_Jx4a65c_get_915e3) := ⟨rfl, rfl⟩
theorem mk_X11_boxOf : MOK RX11 mt_X11_boxOf := by
  intro q hq
  simp only [mt_X11_boxOf, List.mem_cons, List.not_mem_nil, or_false] at hq
  rcases hq with rfl | rfl
  · exact rw_X11_664
  · exact rw_X11_2248
noncomputable def xe_X11_boxOf (ct : Nat → Bool) (K : Kt) (R : Option AV → Hp → Prop) (n : Nat) : Kt := exS 2 4 0 0 5 tb_X11_boxOf mt_X11_boxOf ct K R n
noncomputable def xk_X11_boxOf (ct : Nat → Bool) (K : Kt) (R : Option AV → Hp → Prop) (n : Nat) : Kt := exkS 2 4 0 0 5 tb_X11_boxOf mt_X11_boxOf ct K R n
theorem xt_X11_boxOf {ct : Nat → Bool} {K : Kt} {R : Option AV → Hp → Prop} {n pc : Nat} {ls : List (Option AV)} {st : List AV} {σ : Hp} {k : Nat × Nat} (h : ct pc = true) : xk_X11_boxOf ct K R n pc ls st σ k = K pc ls st σ k := by unfold xk_X11_boxOf exkS; rw [h]
theorem xf_X11_boxOf {ct : Nat → Bool} {K : Kt} {R : Option AV → Hp → Prop} {n pc : Nat} {ls : List (Option AV)} {st : List AV} {σ : Hp} {k : Nat × Nat} (h : ct pc = false) : xk_X11_boxOf ct K R n pc ls st σ k = xe_X11_boxOf ct K R n pc ls st σ k := by unfold xk_X11_boxOf exkS xe_X11_boxOf; rw [h]
theorem ev_X11_boxOf_0 {ct : Nat → Bool} {K : Kt} {R : Option AV → Hp → Prop} {n : Nat} {ls : List (Option AV)} {st : List AV} {σ : Hp} {k : Nat × Nat} : xe_X11_boxOf ct K R (n + 1) 0 ls st σ k = (lI ls 1 fun x => xk_X11_boxOf ct K R n 1 ls (vi x :: st) σ k) := exS_step.trans rfl
theorem ev_X11_boxOf_1 {ct : Nat → Bool} {K : Kt} {R : Option AV → Hp → Prop} {n : Nat} {ls : List (Option AV)} {st : List AV} {σ : Hp} {k : Nat × Nat} : xe_X11_boxOf ct K R (n + 1) 1 ls st σ k = (oI st fun x st => (wI x < wI 0 → xk_X11_boxOf ct K R n 29 ls st σ k) ∧ (¬ (wI x < wI 0) → xk_X11_boxOf ct K R n 4 ls st σ k)) := exS_step.trans rfl
theorem ev_X11_boxOf_4 {ct : Nat → Bool} {K : Kt} {R : Option AV → Hp → Prop} {n : Nat} {ls : List (Option AV)} {st : List AV} {σ : Hp} {k : Nat × Nat} : xe_X11_boxOf ct K R (n + 1) 4 ls st σ k = (lI ls 1 fun x => xk_X11_boxOf ct K R n 5 ls (vi x :: st) σ k) := exS_step.trans rfl
theorem ev_X11_boxOf_5 {ct : Nat → Bool} {K : Kt} {R : Option AV → Hp → Prop} {n : Nat} {ls : List (Option AV)} {st : List AV} {σ : Hp} {k : Nat × Nat} : xe_X11_boxOf ct K R (n + 1) 5 ls st σ k = (lR ls 0 fun x => xk_X11_boxOf ct K R n 6 ls (vr x :: st) σ k) := exS_step.trans rfl
theorem ev_X11_boxOf_6 {ct : Nat → Bool} {K : Kt} {R : Option AV → Hp → Prop} {n : Nat} {ls : List (Option AV)} {st : List AV} {σ : Hp} {k : Nat × Nat} : xe_X11_boxOf ct K R (n + 1) 6 ls st σ k = (oR st fun x st => kd σ x = 12 ∧ xk_X11_boxOf ct K R n 9 ls (vr (fR σ 1203 x) :: st) σ k) := exS_step.trans rfl
theorem ev_X11_boxOf_9 {ct : Nat → Bool} {K : Kt} {R : Option AV → Hp → Prop} {n : Nat} {ls : List (Option AV)} {st : List AV} {σ : Hp} {k : Nat × Nat} : xe_X11_boxOf ct K R (n + 1) 9 ls st σ k = (popN 1 st [] fun av rest => (catS rest ≤ 8 ∧ 1 < 4 ∧ k.1 + 0 ≤ 0 ∧ k.2 + 0 ≤ 0) ∧ (sp_Jx4a65c_size_8abf5) av σ fun v σ' => xk_X11_boxOf ct K R n 12 ls (v.toList ++ rest) σ' (k.1 + 0, k.2 + 0)) := exS_step.trans rfl
theorem ev_X11_boxOf_12 {ct : Nat → Bool} {K : Kt} {R : Option AV → Hp → Prop} {n : Nat} {ls : List (Option AV)} {st : List AV} {σ : Hp} {k : Nat × Nat} : xe_X11_boxOf ct K R (n + 1) 12 ls st σ k = (oI st fun y st => oI st fun x st => (wI y ≤ wI x → xk_X11_boxOf ct K R n 29 ls st σ k) ∧ (¬ (wI y ≤ wI x) → xk_X11_boxOf ct K R n 15 ls st σ k)) := exS_step.trans rfl
theorem ev_X11_boxOf_15 {ct : Nat → Bool} {K : Kt} {R : Option AV → Hp → Prop} {n : Nat} {ls : List (Option AV)} {st : List AV} {σ : Hp} {k : Nat × Nat} : xe_X11_boxOf ct K R (n + 1) 15 ls st σ k = (lR ls 0 fun x => xk_X11_boxOf ct K R n 16 ls (vr x :: st) σ k) := exS_step.trans rfl
theorem ev_X11_boxOf_16 {ct : Nat → Bool} {K : Kt} {R : Option AV → Hp → Prop} {n : Nat} {ls : List (Option AV)} {st : List AV} {σ : Hp} {k : Nat × Nat} : xe_X11_boxOf ct K R (n + 1) 16 ls st σ k = (oR st fun x st => kd σ x = 12 ∧ xk_X11_boxOf ct K R n 19 ls (vr (fR σ 1203 x) :: st) σ k) := exS_step.trans rfl
theorem ev_X11_boxOf_19 {ct : Nat → Bool} {K : Kt} {R : Option AV → Hp → Prop} {n : Nat} {ls : List (Option AV)} {st : List AV} {σ : Hp} {k : Nat × Nat} : xe_X11_boxOf ct K R (n + 1) 19 ls st σ k = (lI ls 1 fun x => xk_X11_boxOf ct K R n 20 ls (vi x :: st) σ k) := exS_step.trans rfl
theorem ev_X11_boxOf_20 {ct : Nat → Bool} {K : Kt} {R : Option AV → Hp → Prop} {n : Nat} {ls : List (Option AV)} {st : List AV} {σ : Hp} {k : Nat × Nat} : xe_X11_boxOf ct K R (n + 1) 20 ls st σ k = (popN 2 st [] fun av rest => (catS rest ≤ 8 ∧ 3 < 4 ∧ k.1 + 0 ≤ 0 ∧ k.2 + 0 ≤ 0) ∧ (sp_Jx4a65c_get_915e3) av σ fun v σ' => xk_X11_boxOf ct K R n 23 ls (v.toList ++ rest) σ' (k.1 + 0, k.2 + 0)) := exS_step.trans rfl
theorem ev_X11_boxOf_23 {ct : Nat → Bool} {K : Kt} {R : Option AV → Hp → Prop} {n : Nat} {ls : List (Option AV)} {st : List AV} {σ : Hp} {k : Nat × Nat} : xe_X11_boxOf ct K R (n + 1) 23 ls st σ k = (oR st fun x st => kd σ x = 3 ∧ xk_X11_boxOf ct K R n 26 ls (vr x :: st) σ k) := exS_step.trans rfl
theorem ev_X11_boxOf_26 {ct : Nat → Bool} {K : Kt} {R : Option AV → Hp → Prop} {n : Nat} {ls : List (Option AV)} {st : List AV} {σ : Hp} {k : Nat × Nat} : xe_X11_boxOf ct K R (n + 1) 26 ls st σ k = (xk_X11_boxOf ct K R n 30 ls st σ k) := exS_step.trans rfl
theorem ev_X11_boxOf_29 {ct : Nat → Bool} {K : Kt} {R : Option AV → Hp → Prop} {n : Nat} {ls : List (Option AV)} {st : List AV} {σ : Hp} {k : Nat × Nat} : xe_X11_boxOf ct K R (n + 1) 29 ls st σ k = (xk_X11_boxOf ct K R n 30 ls (vr 0 :: st) σ k) := exS_step.trans rfl
theorem ev_X11_boxOf_30 {ct : Nat → Bool} {K : Kt} {R : Option AV → Hp → Prop} {n : Nat} {ls : List (Option AV)} {st : List AV} {σ : Hp} {k : Nat × Nat} : xe_X11_boxOf ct K R (n + 1) 30 ls st σ k = (oR st fun x st => st = [] ∧ 5 = 5 ∧ R (some (vr x)) σ) := exS_step.trans rfl
def M_X11_boxOf : Md := (yX11_boxOf, cX11_boxOf, 2, (some (FieldType.object "AlarmBoxes$Box")), 4, 0, 0, 5, false, tb_X11_boxOf, mt_X11_boxOf)
theorem mm_X11_boxOf : MMOK M_X11_boxOf := ⟨by decide +kernel, tk_X11_boxOf, mk_X11_boxOf, Or.inl ⟨_, rfl⟩, fun h => by cases h⟩
theorem go_X11_boxOf {Q : Option AV → Hp → Prop} {ct : Nat → Bool} {pc : Nat} {ls : List (Option AV)} {st : List AV} {σ : Hp} {k : Nat × Nat} (n : Nat) (h : xe_X11_boxOf ct (Go M_X11_boxOf Q) Q n pc ls st σ k) : Go M_X11_boxOf Q pc ls st σ k := Go.exS mm_X11_boxOf h

set_option maxRecDepth 20000 in
theorem c_X11_boxOf : Ct yX11_boxOf cX11_boxOf 2 ((some (FieldType.object "AlarmBoxes$Box"))) 4 0 0 sp_X11_boxOf := by
  refine Ct.go (M := M_X11_boxOf) mm_X11_boxOf fun av σ Q h0 => ?_
  obtain ⟨this, b, rfl, hk, h⟩ := el_X11_boxOf h0
  clear h0
  refine ⟨Nat.le_of_ble_eq_true rfl, ?_⟩
  show Go M_X11_boxOf Q 0 [some (vr this), some (vi b)] [] σ (0, 0)
  obtain ⟨rfl, hC, hL, hc, h⟩ := h
  unfold inR at hc
  have hLe : ∃ ci, LOk σ 3 ci := ⟨2, hL⟩
  have hn : 0 ≤ fI σ 1402 3 ∧ fI σ 1402 3 ≤ 150 := by have := hL.2.2; omega
  by_cases c1 : 0 ≤ b ∧ b < fI σ 1402 3
  · rw [if_pos c1] at h
    have hkc : kd σ (lat σ 3 b) = 3 := hL.2.2.2.2.2 b c1.1 c1.2
    refine go_X11_boxOf (ct := fun p => p == 29) 60 ?_
    simp only [oI, oL, oR, o1, lI, lL, lR, popN, catS, gv, stL, stL2, swt, cnd, spObj, List.getElem?_cons_zero, List.getElem?_cons_succ, List.getD_cons_zero, List.getD_cons_succ, List.set_cons_zero, List.set_cons_succ, List.nil_append, List.cons_append, Option.toList, Bool.or_false, Bool.false_or, Bool.or_true, Bool.true_or, Nat.reduceBEq, Nat.reduceAdd, Nat.reduceLT, Nat.reduceLeDiff, Int.reduceAdd, Int.reduceToNat, true_and, and_true, Fin.isValue, Fin.val_zero, Fin.val_one, Fin.val_two, Fin.reduceFinMk, eq_self, Int.reduceNeg, imp_self, Nat.reduceMul, Nat.le_refl, not_true_eq_false, not_false_eq_true, List.getElem?_nil, reduceCtorEq, true_or, or_true, Classical.not_not, implies_true, or_self, wI_0, wI_1, wI_m1, b2i_w, b2i_eq0, b2i_eq1, b2i_bool, nor_self, nx_pI, kd_pI, ln_pI, fI_pI, fL_pI, fR_pI, aI_pI, aL_pI, aR_pI, nx_pL, kd_pL, ln_pL, fI_pL, fL_pL, fR_pL, aI_pL, aL_pL, aR_pL, nx_pR, kd_pR, ln_pR, fI_pR, fL_pR, fR_pR, aI_pR, aL_pR, aR_pR, nx_qI, kd_qI, ln_qI, fI_qI, fL_qI, fR_qI, aI_qI, aL_qI, aR_qI, nx_qL, kd_qL, ln_qL, fI_qL, fL_qL, fR_qL, aI_qL, aL_qL, aR_qL, nx_qR, kd_qR, ln_qR, fI_qR, fL_qR, fR_qR, aI_qR, aL_qR, aR_qR, nx_mk, kd_mk, ln_mk, fI_mk, fL_mk, fR_mk, aI_mk, aL_mk, aR_mk, false_and, and_false, if_false, if_true, and_self, Int.reduceEq, Nat.reduceEqDiff, ite_self, MLay_pI, MLay_pL, MLay_qI, MLay_qL, ev_X11_boxOf_0, ev_X11_boxOf_1, ev_X11_boxOf_4, ev_X11_boxOf_5, ev_X11_boxOf_6, ev_X11_boxOf_9, ev_X11_boxOf_12, ev_X11_boxOf_15, ev_X11_boxOf_16, ev_X11_boxOf_19, ev_X11_boxOf_20, ev_X11_boxOf_23, ev_X11_boxOf_26, ev_X11_boxOf_29, ev_X11_boxOf_30, xt_X11_boxOf, xf_X11_boxOf, us_Jx4a65c_size_8abf5, us_Jx4a65c_get_915e3, hC.eqs, hLe, hkc]
    try simp (disch := omega) only [wI_id, dv_nn, rm_nn]
    repeat' (first | intro z | apply And.intro)
    all_goals try omega
    all_goals try contradiction
    all_goals exact h
  · rw [if_neg c1] at h
    refine go_X11_boxOf (ct := fun p => p == 15) 60 ?_
    simp only [oI, oL, oR, o1, lI, lL, lR, popN, catS, gv, stL, stL2, swt, cnd, spObj, List.getElem?_cons_zero, List.getElem?_cons_succ, List.getD_cons_zero, List.getD_cons_succ, List.set_cons_zero, List.set_cons_succ, List.nil_append, List.cons_append, Option.toList, Bool.or_false, Bool.false_or, Bool.or_true, Bool.true_or, Nat.reduceBEq, Nat.reduceAdd, Nat.reduceLT, Nat.reduceLeDiff, Int.reduceAdd, Int.reduceToNat, true_and, and_true, Fin.isValue, Fin.val_zero, Fin.val_one, Fin.val_two, Fin.reduceFinMk, eq_self, Int.reduceNeg, imp_self, Nat.reduceMul, Nat.le_refl, not_true_eq_false, not_false_eq_true, List.getElem?_nil, reduceCtorEq, true_or, or_true, Classical.not_not, implies_true, or_self, wI_0, wI_1, wI_m1, b2i_w, b2i_eq0, b2i_eq1, b2i_bool, nor_self, nx_pI, kd_pI, ln_pI, fI_pI, fL_pI, fR_pI, aI_pI, aL_pI, aR_pI, nx_pL, kd_pL, ln_pL, fI_pL, fL_pL, fR_pL, aI_pL, aL_pL, aR_pL, nx_pR, kd_pR, ln_pR, fI_pR, fL_pR, fR_pR, aI_pR, aL_pR, aR_pR, nx_qI, kd_qI, ln_qI, fI_qI, fL_qI, fR_qI, aI_qI, aL_qI, aR_qI, nx_qL, kd_qL, ln_qL, fI_qL, fL_qL, fR_qL, aI_qL, aL_qL, aR_qL, nx_qR, kd_qR, ln_qR, fI_qR, fL_qR, fR_qR, aI_qR, aL_qR, aR_qR, nx_mk, kd_mk, ln_mk, fI_mk, fL_mk, fR_mk, aI_mk, aL_mk, aR_mk, false_and, and_false, if_false, if_true, and_self, Int.reduceEq, Nat.reduceEqDiff, ite_self, MLay_pI, MLay_pL, MLay_qI, MLay_qL, ev_X11_boxOf_0, ev_X11_boxOf_1, ev_X11_boxOf_4, ev_X11_boxOf_5, ev_X11_boxOf_6, ev_X11_boxOf_9, ev_X11_boxOf_12, ev_X11_boxOf_15, ev_X11_boxOf_16, ev_X11_boxOf_19, ev_X11_boxOf_20, ev_X11_boxOf_23, ev_X11_boxOf_26, ev_X11_boxOf_29, ev_X11_boxOf_30, xt_X11_boxOf, xf_X11_boxOf, us_Jx4a65c_size_8abf5, us_Jx4a65c_get_915e3, hC.eqs]
    try simp (disch := omega) only [wI_id, dv_nn, rm_nn]
    repeat' (first | intro z | apply And.intro)
    all_goals try omega
    all_goals try contradiction
    all_goals exact h

def sp_X11_today : Sp := fun av σ Q => oR av fun this av => av = [] ∧ kd σ this = 12 ∧ (this = 1 ∧ (0 ≤ fI σ 1210 1 ∧ fI σ 1210 1 ≤ 999999) ∧ Q (some (vi (fI σ 1210 1 / 86400))) σ)
theorem us_X11_today (this : Int) (σ : Hp) (Q : Option AV → Hp → Prop) : sp_X11_today [vr this] σ Q = (kd σ this = 12 ∧ (this = 1 ∧ (0 ≤ fI σ 1210 1 ∧ fI σ 1210 1 ≤ 999999) ∧ Q (some (vi (fI σ 1210 1 / 86400))) σ)) := propext ⟨fun h => h.2, fun h => ⟨rfl, h⟩⟩
theorem el_X11_today {av : List AV} {σ : Hp} {Q : Option AV → Hp → Prop} (h : sp_X11_today av σ Q) : ∃ (this : Int), av = [vr this] ∧ (kd σ this = 12 ∧ (this = 1 ∧ (0 ≤ fI σ 1210 1 ∧ fI σ 1210 1 ≤ 999999) ∧ Q (some (vi (fI σ 1210 1 / 86400))) σ)) := by
  obtain ⟨this, a0, rfl, h0⟩ := oR_s h
  obtain ⟨rfl, hz⟩ := h0
  exact ⟨this, rfl, hz⟩
theorem rc_X11_today : ∀ (av : List AV) (σ : Hp) (Q : Option AV → Hp → Prop), sp_X11_today av σ Q → ∃ r tl, av = vr r :: tl ∧ kd σ r = 11 + 1 := fun av σ Q h => by
  obtain ⟨this, rfl, hz, -⟩ := el_X11_today h
  exact ⟨this, _, rfl, hz⟩

def tb_X11_today : Tab := [(0, .aload_n 0, 1, (0, 0, 0, 0)), (1, .getfield 69, 3, (12, 1210, 0, 0)), (4, .ldc_w 334, 3, (1, 0, 0, 86400)), (7, .idiv, 1, (0, 0, 0, 0)), (8, .ireturn, 1, (0, 0, 0, 0))]
set_option maxRecDepth 100000 in
theorem tk_X11_today : TOK RX11 false cX11_today tb_X11_today := chkT_ok ft_X11 (by decide +kernel)
def mt_X11_today : List (Nat × Mt) := []
theorem mk_X11_today : MOK RX11 mt_X11_today := fun q hq => by cases hq
noncomputable def xe_X11_today (ct : Nat → Bool) (K : Kt) (R : Option AV → Hp → Prop) (n : Nat) : Kt := exS 1 1 0 0 1 tb_X11_today mt_X11_today ct K R n
noncomputable def xk_X11_today (ct : Nat → Bool) (K : Kt) (R : Option AV → Hp → Prop) (n : Nat) : Kt := exkS 1 1 0 0 1 tb_X11_today mt_X11_today ct K R n
theorem xt_X11_today {ct : Nat → Bool} {K : Kt} {R : Option AV → Hp → Prop} {n pc : Nat} {ls : List (Option AV)} {st : List AV} {σ : Hp} {k : Nat × Nat} (h : ct pc = true) : xk_X11_today ct K R n pc ls st σ k = K pc ls st σ k := by unfold xk_X11_today exkS; rw [h]
theorem xf_X11_today {ct : Nat → Bool} {K : Kt} {R : Option AV → Hp → Prop} {n pc : Nat} {ls : List (Option AV)} {st : List AV} {σ : Hp} {k : Nat × Nat} (h : ct pc = false) : xk_X11_today ct K R n pc ls st σ k = xe_X11_today ct K R n pc ls st σ k := by unfold xk_X11_today exkS xe_X11_today; rw [h]
theorem ev_X11_today_0 {ct : Nat → Bool} {K : Kt} {R : Option AV → Hp → Prop} {n : Nat} {ls : List (Option AV)} {st : List AV} {σ : Hp} {k : Nat × Nat} : xe_X11_today ct K R (n + 1) 0 ls st σ k = (lR ls 0 fun x => xk_X11_today ct K R n 1 ls (vr x :: st) σ k) := exS_step.trans rfl
theorem ev_X11_today_1 {ct : Nat → Bool} {K : Kt} {R : Option AV → Hp → Prop} {n : Nat} {ls : List (Option AV)} {st : List AV} {σ : Hp} {k : Nat × Nat} : xe_X11_today ct K R (n + 1) 1 ls st σ k = (oR st fun x st => kd σ x = 12 ∧ xk_X11_today ct K R n 4 ls (vi (fI σ 1210 x) :: st) σ k) := exS_step.trans rfl
theorem ev_X11_today_4 {ct : Nat → Bool} {K : Kt} {R : Option AV → Hp → Prop} {n : Nat} {ls : List (Option AV)} {st : List AV} {σ : Hp} {k : Nat × Nat} : xe_X11_today ct K R (n + 1) 4 ls st σ k = (xk_X11_today ct K R n 7 ls (vi (86400) :: st) σ k) := exS_step.trans rfl
theorem ev_X11_today_7 {ct : Nat → Bool} {K : Kt} {R : Option AV → Hp → Prop} {n : Nat} {ls : List (Option AV)} {st : List AV} {σ : Hp} {k : Nat × Nat} : xe_X11_today ct K R (n + 1) 7 ls st σ k = (oI st fun y st => oI st fun x st => ¬ wI y = 0 ∧ xk_X11_today ct K R n 8 ls (vi (dvI x y) :: st) σ k) := exS_step.trans rfl
theorem ev_X11_today_8 {ct : Nat → Bool} {K : Kt} {R : Option AV → Hp → Prop} {n : Nat} {ls : List (Option AV)} {st : List AV} {σ : Hp} {k : Nat × Nat} : xe_X11_today ct K R (n + 1) 8 ls st σ k = (oI st fun x st => st = [] ∧ True ∧ R (some (vi x)) σ) := exS_step.trans rfl
def M_X11_today : Md := (yX11_today, cX11_today, 1, (some FieldType.int), 1, 0, 0, 1, false, tb_X11_today, mt_X11_today)
theorem mm_X11_today : MMOK M_X11_today := ⟨by decide +kernel, tk_X11_today, mk_X11_today, rfl, fun h => by cases h⟩
theorem go_X11_today {Q : Option AV → Hp → Prop} {ct : Nat → Bool} {pc : Nat} {ls : List (Option AV)} {st : List AV} {σ : Hp} {k : Nat × Nat} (n : Nat) (h : xe_X11_today ct (Go M_X11_today Q) Q n pc ls st σ k) : Go M_X11_today Q pc ls st σ k := Go.exS mm_X11_today h

set_option maxRecDepth 20000 in
theorem c_X11_today : Ct yX11_today cX11_today 1 ((some FieldType.int)) 1 0 0 sp_X11_today := by
  refine Ct.go (M := M_X11_today) mm_X11_today fun av σ Q h0 => ?_
  obtain ⟨this, rfl, hk, h⟩ := el_X11_today h0
  clear h0
  refine ⟨Nat.le_of_ble_eq_true rfl, ?_⟩
  show Go M_X11_today Q 0 [some (vr this)] [] σ (0, 0)
  obtain ⟨rfl, hn, h⟩ := h
  refine go_X11_today (ct := fun p => p == 99) 20 ?_
  simp only [oI, oL, oR, o1, lI, lL, lR, popN, catS, gv, stL, stL2, swt, cnd, spObj, List.getElem?_cons_zero, List.getElem?_cons_succ, List.getD_cons_zero, List.getD_cons_succ, List.set_cons_zero, List.set_cons_succ, List.nil_append, List.cons_append, Option.toList, Bool.or_false, Bool.false_or, Bool.or_true, Bool.true_or, Nat.reduceBEq, Nat.reduceAdd, Nat.reduceLT, Nat.reduceLeDiff, Int.reduceAdd, Int.reduceToNat, true_and, and_true, Fin.isValue, Fin.val_zero, Fin.val_one, Fin.val_two, Fin.reduceFinMk, eq_self, Int.reduceNeg, imp_self, Nat.reduceMul, Nat.le_refl, not_true_eq_false, not_false_eq_true, List.getElem?_nil, reduceCtorEq, true_or, or_true, Classical.not_not, implies_true, or_self, wI_0, wI_1, wI_m1, b2i_w, b2i_eq0, b2i_eq1, b2i_bool, nor_self, nx_pI, kd_pI, ln_pI, fI_pI, fL_pI, fR_pI, aI_pI, aL_pI, aR_pI, nx_pL, kd_pL, ln_pL, fI_pL, fL_pL, fR_pL, aI_pL, aL_pL, aR_pL, nx_pR, kd_pR, ln_pR, fI_pR, fL_pR, fR_pR, aI_pR, aL_pR, aR_pR, nx_qI, kd_qI, ln_qI, fI_qI, fL_qI, fR_qI, aI_qI, aL_qI, aR_qI, nx_qL, kd_qL, ln_qL, fI_qL, fL_qL, fR_qL, aI_qL, aL_qL, aR_qL, nx_qR, kd_qR, ln_qR, fI_qR, fL_qR, fR_qR, aI_qR, aL_qR, aR_qR, nx_mk, kd_mk, ln_mk, fI_mk, fL_mk, fR_mk, aI_mk, aL_mk, aR_mk, false_and, and_false, if_false, if_true, and_self, Int.reduceEq, Nat.reduceEqDiff, ite_self, MLay_pI, MLay_pL, MLay_qI, MLay_qL, ev_X11_today_0, ev_X11_today_1, ev_X11_today_4, ev_X11_today_7, ev_X11_today_8, xt_X11_today, xf_X11_today, hk]
  try simp (disch := omega) only [wI_id, dv_nn, rm_nn]
  repeat' (first | intro z | apply And.intro)
  all_goals try omega
  all_goals try contradiction
  all_goals exact h

def sp_X11_isDay : Sp := fun av σ Q => oR av fun this av => oI av fun w av => av = [] ∧ kd σ this = 12 ∧ (this = 1 ∧ (0 ≤ fI σ 1210 1 ∧ fI σ 1210 1 ≤ 999999) ∧ inR w ∧ Q (some (vi (b2i (0 ≤ w ∧ w ≤ fI σ 1210 1 / 86400)))) σ)
theorem us_X11_isDay (this : Int) (w : Int) (σ : Hp) (Q : Option AV → Hp → Prop) : sp_X11_isDay [vr this, vi w] σ Q = (kd σ this = 12 ∧ (this = 1 ∧ (0 ≤ fI σ 1210 1 ∧ fI σ 1210 1 ≤ 999999) ∧ inR w ∧ Q (some (vi (b2i (0 ≤ w ∧ w ≤ fI σ 1210 1 / 86400)))) σ)) := propext ⟨fun h => h.2, fun h => ⟨rfl, h⟩⟩
theorem el_X11_isDay {av : List AV} {σ : Hp} {Q : Option AV → Hp → Prop} (h : sp_X11_isDay av σ Q) : ∃ (this : Int) (w : Int), av = [vr this, vi w] ∧ (kd σ this = 12 ∧ (this = 1 ∧ (0 ≤ fI σ 1210 1 ∧ fI σ 1210 1 ≤ 999999) ∧ inR w ∧ Q (some (vi (b2i (0 ≤ w ∧ w ≤ fI σ 1210 1 / 86400)))) σ)) := by
  obtain ⟨this, a0, rfl, h0⟩ := oR_s h
  obtain ⟨w, a1, rfl, h1⟩ := oI_s h0
  obtain ⟨rfl, hz⟩ := h1
  exact ⟨this, w, rfl, hz⟩
theorem rc_X11_isDay : ∀ (av : List AV) (σ : Hp) (Q : Option AV → Hp → Prop), sp_X11_isDay av σ Q → ∃ r tl, av = vr r :: tl ∧ kd σ r = 11 + 1 := fun av σ Q h => by
  obtain ⟨this, w, rfl, hz, -⟩ := el_X11_isDay h
  exact ⟨this, _, rfl, hz⟩

def tb_X11_isDay : Tab := [(0, .iload_n 1, 1, (0, 0, 0, 0)), (1, .ifCond .lt 15, 3, (0, 0, 0, 0)), (4, .iload_n 1, 1, (0, 0, 0, 0)), (5, .aload_n 0, 1, (0, 0, 0, 0)), (6, .invokevirtual 203, 3, (0, 0, 0, 0)), (9, .if_icmp .gt 7, 3, (0, 0, 0, 0)), (12, .iconst 1, 1, (0, 0, 0, 0)), (13, .goto 4, 3, (0, 0, 0, 0)), (16, .iconst 0, 1, (0, 0, 0, 0)), (17, .ireturn, 1, (0, 0, 0, 0))]
set_option maxRecDepth 100000 in
theorem tk_X11_isDay : TOK RX11 false cX11_isDay tb_X11_isDay := chkT_ok ft_X11 (by decide +kernel)
theorem rw_X11_1624 : Row RX11 (.invokevirtual 203) 3 1 0 0 1 sp_X11_today := row_V (n := 0) (ci := 11) c_X11_today ⟨TBL_in 1132 (by decide +kernel) rfl, TBL_in 1135 (by decide +kernel) rfl, TBL_in 111 (by decide +kernel) rfl, by decide +kernel, by decide⟩ (by decide) rfl (TBL_in 1134 (by decide +kernel) rfl) (TBL_in 44 (by decide +kernel) rfl) rc_X11_today
def mt_X11_isDay : List (Nat × Mt) := [(1624, 1, 0, 0, 1, sp_X11_today)]
theorem em_X11_isDay : mt_X11_isDay.lookup 1624 = some (1, 0, 0, 1, sp_X11_today) := rfl
theorem mk_X11_isDay : MOK RX11 mt_X11_isDay := by
  intro q hq
  simp only [mt_X11_isDay, List.mem_cons, List.not_mem_nil, or_false] at hq
  rcases hq with rfl
  · exact rw_X11_1624
noncomputable def xe_X11_isDay (ct : Nat → Bool) (K : Kt) (R : Option AV → Hp → Prop) (n : Nat) : Kt := exS 2 2 0 0 2 tb_X11_isDay mt_X11_isDay ct K R n
noncomputable def xk_X11_isDay (ct : Nat → Bool) (K : Kt) (R : Option AV → Hp → Prop) (n : Nat) : Kt := exkS 2 2 0 0 2 tb_X11_isDay mt_X11_isDay ct K R n
theorem xt_X11_isDay {ct : Nat → Bool} {K : Kt} {R : Option AV → Hp → Prop} {n pc : Nat} {ls : List (Option AV)} {st : List AV} {σ : Hp} {k : Nat × Nat} (h : ct pc = true) : xk_X11_isDay ct K R n pc ls st σ k = K pc ls st σ k := by unfold xk_X11_isDay exkS; rw [h]
theorem xf_X11_isDay {ct : Nat → Bool} {K : Kt} {R : Option AV → Hp → Prop} {n pc : Nat} {ls : List (Option AV)} {st : List AV} {σ : Hp} {k : Nat × Nat} (h : ct pc = false) : xk_X11_isDay ct K R n pc ls st σ k = xe_X11_isDay ct K R n pc ls st σ k := by unfold xk_X11_isDay exkS xe_X11_isDay; rw [h]
theorem ev_X11_isDay_0 {ct : Nat → Bool} {K : Kt} {R : Option AV → Hp → Prop} {n : Nat} {ls : List (Option AV)} {st : List AV} {σ : Hp} {k : Nat × Nat} : xe_X11_isDay ct K R (n + 1) 0 ls st σ k = (lI ls 1 fun x => xk_X11_isDay ct K R n 1 ls (vi x :: st) σ k) := exS_step.trans rfl
theorem ev_X11_isDay_1 {ct : Nat → Bool} {K : Kt} {R : Option AV → Hp → Prop} {n : Nat} {ls : List (Option AV)} {st : List AV} {σ : Hp} {k : Nat × Nat} : xe_X11_isDay ct K R (n + 1) 1 ls st σ k = (oI st fun x st => (wI x < wI 0 → xk_X11_isDay ct K R n 16 ls st σ k) ∧ (¬ (wI x < wI 0) → xk_X11_isDay ct K R n 4 ls st σ k)) := exS_step.trans rfl
theorem ev_X11_isDay_4 {ct : Nat → Bool} {K : Kt} {R : Option AV → Hp → Prop} {n : Nat} {ls : List (Option AV)} {st : List AV} {σ : Hp} {k : Nat × Nat} : xe_X11_isDay ct K R (n + 1) 4 ls st σ k = (lI ls 1 fun x => xk_X11_isDay ct K R n 5 ls (vi x :: st) σ k) := exS_step.trans rfl
theorem ev_X11_isDay_5 {ct : Nat → Bool} {K : Kt} {R : Option AV → Hp → Prop} {n : Nat} {ls : List (Option AV)} {st : List AV} {σ : Hp} {k : Nat × Nat} : xe_X11_isDay ct K R (n + 1) 5 ls st σ k = (lR ls 0 fun x => xk_X11_isDay ct K R n 6 ls (vr x :: st) σ k) := exS_step.trans rfl
theorem ev_X11_isDay_6 {ct : Nat → Bool} {K : Kt} {R : Option AV → Hp → Prop} {n : Nat} {ls : List (Option AV)} {st : List AV} {σ : Hp} {k : Nat × Nat} : xe_X11_isDay ct K R (n + 1) 6 ls st σ k = (popN 1 st [] fun av rest => (catS rest ≤ 8 ∧ 1 < 2 ∧ k.1 + 0 ≤ 0 ∧ k.2 + 0 ≤ 0) ∧ (sp_X11_today) av σ fun v σ' => xk_X11_isDay ct K R n 9 ls (v.toList ++ rest) σ' (k.1 + 0, k.2 + 0)) := exS_step.trans rfl
theorem ev_X11_isDay_9 {ct : Nat → Bool} {K : Kt} {R : Option AV → Hp → Prop} {n : Nat} {ls : List (Option AV)} {st : List AV} {σ : Hp} {k : Nat × Nat} : xe_X11_isDay ct K R (n + 1) 9 ls st σ k = (oI st fun y st => oI st fun x st => (wI y < wI x → xk_X11_isDay ct K R n 16 ls st σ k) ∧ (¬ (wI y < wI x) → xk_X11_isDay ct K R n 12 ls st σ k)) := exS_step.trans rfl
theorem ev_X11_isDay_12 {ct : Nat → Bool} {K : Kt} {R : Option AV → Hp → Prop} {n : Nat} {ls : List (Option AV)} {st : List AV} {σ : Hp} {k : Nat × Nat} : xe_X11_isDay ct K R (n + 1) 12 ls st σ k = (xk_X11_isDay ct K R n 13 ls (vi (1) :: st) σ k) := exS_step.trans rfl
theorem ev_X11_isDay_13 {ct : Nat → Bool} {K : Kt} {R : Option AV → Hp → Prop} {n : Nat} {ls : List (Option AV)} {st : List AV} {σ : Hp} {k : Nat × Nat} : xe_X11_isDay ct K R (n + 1) 13 ls st σ k = (xk_X11_isDay ct K R n 17 ls st σ k) := exS_step.trans rfl
theorem ev_X11_isDay_16 {ct : Nat → Bool} {K : Kt} {R : Option AV → Hp → Prop} {n : Nat} {ls : List (Option AV)} {st : List AV} {σ : Hp} {k : Nat × Nat} : xe_X11_isDay ct K R (n + 1) 16 ls st σ k = (xk_X11_isDay ct K R n 17 ls (vi (0) :: st) σ k) := exS_step.trans rfl
theorem ev_X11_isDay_17 {ct : Nat → Bool} {K : Kt} {R : Option AV → Hp → Prop} {n : Nat} {ls : List (Option AV)} {st : List AV} {σ : Hp} {k : Nat × Nat} : xe_X11_isDay ct K R (n + 1) 17 ls st σ k = (oI st fun x st => st = [] ∧ (x = 0 ∨ x = 1) ∧ R (some (vi x)) σ) := exS_step.trans rfl
def M_X11_isDay : Md := (yX11_isDay, cX11_isDay, 2, (some FieldType.boolean), 2, 0, 0, 2, false, tb_X11_isDay, mt_X11_isDay)
theorem mm_X11_isDay : MMOK M_X11_isDay := ⟨by decide +kernel, tk_X11_isDay, mk_X11_isDay, rfl, fun h => by cases h⟩
theorem go_X11_isDay {Q : Option AV → Hp → Prop} {ct : Nat → Bool} {pc : Nat} {ls : List (Option AV)} {st : List AV} {σ : Hp} {k : Nat × Nat} (n : Nat) (h : xe_X11_isDay ct (Go M_X11_isDay Q) Q n pc ls st σ k) : Go M_X11_isDay Q pc ls st σ k := Go.exS mm_X11_isDay h

set_option maxRecDepth 20000 in
theorem c_X11_isDay : Ct yX11_isDay cX11_isDay 2 ((some FieldType.boolean)) 2 0 0 sp_X11_isDay := by
  refine Ct.go (M := M_X11_isDay) mm_X11_isDay fun av σ Q h0 => ?_
  obtain ⟨this, w, rfl, hk, h⟩ := el_X11_isDay h0
  clear h0
  refine ⟨Nat.le_of_ble_eq_true rfl, ?_⟩
  show Go M_X11_isDay Q 0 [some (vr this), some (vi w)] [] σ (0, 0)
  obtain ⟨rfl, hn, hw, h⟩ := h
  unfold inR at hw
  by_cases c : 0 ≤ w ∧ w ≤ fI σ 1210 1 / 86400
  · rw [b2i_t c] at h
    refine go_X11_isDay (ct := fun p => p == 16) 20 ?_
    simp only [oI, oL, oR, o1, lI, lL, lR, popN, catS, gv, stL, stL2, swt, cnd, spObj, List.getElem?_cons_zero, List.getElem?_cons_succ, List.getD_cons_zero, List.getD_cons_succ, List.set_cons_zero, List.set_cons_succ, List.nil_append, List.cons_append, Option.toList, Bool.or_false, Bool.false_or, Bool.or_true, Bool.true_or, Nat.reduceBEq, Nat.reduceAdd, Nat.reduceLT, Nat.reduceLeDiff, Int.reduceAdd, Int.reduceToNat, true_and, and_true, Fin.isValue, Fin.val_zero, Fin.val_one, Fin.val_two, Fin.reduceFinMk, eq_self, Int.reduceNeg, imp_self, Nat.reduceMul, Nat.le_refl, not_true_eq_false, not_false_eq_true, List.getElem?_nil, reduceCtorEq, true_or, or_true, Classical.not_not, implies_true, or_self, wI_0, wI_1, wI_m1, b2i_w, b2i_eq0, b2i_eq1, b2i_bool, nor_self, nx_pI, kd_pI, ln_pI, fI_pI, fL_pI, fR_pI, aI_pI, aL_pI, aR_pI, nx_pL, kd_pL, ln_pL, fI_pL, fL_pL, fR_pL, aI_pL, aL_pL, aR_pL, nx_pR, kd_pR, ln_pR, fI_pR, fL_pR, fR_pR, aI_pR, aL_pR, aR_pR, nx_qI, kd_qI, ln_qI, fI_qI, fL_qI, fR_qI, aI_qI, aL_qI, aR_qI, nx_qL, kd_qL, ln_qL, fI_qL, fL_qL, fR_qL, aI_qL, aL_qL, aR_qL, nx_qR, kd_qR, ln_qR, fI_qR, fL_qR, fR_qR, aI_qR, aL_qR, aR_qR, nx_mk, kd_mk, ln_mk, fI_mk, fL_mk, fR_mk, aI_mk, aL_mk, aR_mk, false_and, and_false, if_false, if_true, and_self, Int.reduceEq, Nat.reduceEqDiff, ite_self, MLay_pI, MLay_pL, MLay_qI, MLay_qL, ev_X11_isDay_0, ev_X11_isDay_1, ev_X11_isDay_4, ev_X11_isDay_5, ev_X11_isDay_6, ev_X11_isDay_9, ev_X11_isDay_12, ev_X11_isDay_13, ev_X11_isDay_16, ev_X11_isDay_17, xt_X11_isDay, xf_X11_isDay, us_X11_today, hk]
    try simp (disch := omega) only [wI_id, dv_nn, rm_nn]
    repeat' (first | intro z | apply And.intro)
    all_goals try omega
    all_goals try contradiction
    all_goals exact h
  · rw [b2i_f c] at h
    refine go_X11_isDay (ct := fun p => p == 12) 20 ?_
    simp only [oI, oL, oR, o1, lI, lL, lR, popN, catS, gv, stL, stL2, swt, cnd, spObj, List.getElem?_cons_zero, List.getElem?_cons_succ, List.getD_cons_zero, List.getD_cons_succ, List.set_cons_zero, List.set_cons_succ, List.nil_append, List.cons_append, Option.toList, Bool.or_false, Bool.false_or, Bool.or_true, Bool.true_or, Nat.reduceBEq, Nat.reduceAdd, Nat.reduceLT, Nat.reduceLeDiff, Int.reduceAdd, Int.reduceToNat, true_and, and_true, Fin.isValue, Fin.val_zero, Fin.val_one, Fin.val_two, Fin.reduceFinMk, eq_self, Int.reduceNeg, imp_self, Nat.reduceMul, Nat.le_refl, not_true_eq_false, not_false_eq_true, List.getElem?_nil, reduceCtorEq, true_or, or_true, Classical.not_not, implies_true, or_self, wI_0, wI_1, wI_m1, b2i_w, b2i_eq0, b2i_eq1, b2i_bool, nor_self, nx_pI, kd_pI, ln_pI, fI_pI, fL_pI, fR_pI, aI_pI, aL_pI, aR_pI, nx_pL, kd_pL, ln_pL, fI_pL, fL_pL, fR_pL, aI_pL, aL_pL, aR_pL, nx_pR, kd_pR, ln_pR, fI_pR, fL_pR, fR_pR, aI_pR, aL_pR, aR_pR, nx_qI, kd_qI, ln_qI, fI_qI, fL_qI, fR_qI, aI_qI, aL_qI, aR_qI, nx_qL, kd_qL, ln_qL, fI_qL, fL_qL, fR_qL, aI_qL, aL_qL, aR_qL, nx_qR, kd_qR, ln_qR, fI_qR, fL_qR, fR_qR, aI_qR, aL_qR, aR_qR, nx_mk, kd_mk, ln_mk, fI_mk, fL_mk, fR_mk, aI_mk, aL_mk, aR_mk, false_and, and_false, if_false, if_true, and_self, Int.reduceEq, Nat.reduceEqDiff, ite_self, MLay_pI, MLay_pL, MLay_qI, MLay_qL, ev_X11_isDay_0, ev_X11_isDay_1, ev_X11_isDay_4, ev_X11_isDay_5, ev_X11_isDay_6, ev_X11_isDay_9, ev_X11_isDay_12, ev_X11_isDay_13, ev_X11_isDay_16, ev_X11_isDay_17, xt_X11_isDay, xf_X11_isDay, us_X11_today, hk]
    try simp (disch := omega) only [wI_id, dv_nn, rm_nn]
    repeat' (first | intro z | apply And.intro)
    all_goals try omega
    all_goals try contradiction
    all_goals exact h

def sp_X11_isPlace : Sp := fun av σ Q => oI av fun x av => oI av fun y av => av = [] ∧ (inR x ∧ inR y ∧ Q (some (vi (b2i ((0 ≤ x ∧ x ≤ 99) ∧ 0 ≤ y ∧ y ≤ 99)))) σ)
theorem us_X11_isPlace (x : Int) (y : Int) (σ : Hp) (Q : Option AV → Hp → Prop) : sp_X11_isPlace [vi x, vi y] σ Q = ((inR x ∧ inR y ∧ Q (some (vi (b2i ((0 ≤ x ∧ x ≤ 99) ∧ 0 ≤ y ∧ y ≤ 99)))) σ)) := propext ⟨fun h => h.2, fun h => ⟨rfl, h⟩⟩
theorem el_X11_isPlace {av : List AV} {σ : Hp} {Q : Option AV → Hp → Prop} (h : sp_X11_isPlace av σ Q) : ∃ (x : Int) (y : Int), av = [vi x, vi y] ∧ ((inR x ∧ inR y ∧ Q (some (vi (b2i ((0 ≤ x ∧ x ≤ 99) ∧ 0 ≤ y ∧ y ≤ 99)))) σ)) := by
  obtain ⟨x, a0, rfl, h0⟩ := oI_s h
  obtain ⟨y, a1, rfl, h1⟩ := oI_s h0
  obtain ⟨rfl, hz⟩ := h1
  exact ⟨x, y, rfl, hz⟩

def tb_X11_isPlace : Tab := [(0, .iload_n 0, 1, (0, 0, 0, 0)), (1, .ifCond .lt 23, 3, (0, 0, 0, 0)), (4, .iload_n 0, 1, (0, 0, 0, 0)), (5, .bipush 100, 2, (0, 0, 0, 0)), (7, .if_icmp .ge 17, 3, (0, 0, 0, 0)), (10, .iload_n 1, 1, (0, 0, 0, 0)), (11, .ifCond .lt 13, 3, (0, 0, 0, 0)), (14, .iload_n 1, 1, (0, 0, 0, 0)), (15, .bipush 100, 2, (0, 0, 0, 0)), (17, .if_icmp .ge 7, 3, (0, 0, 0, 0)), (20, .iconst 1, 1, (0, 0, 0, 0)), (21, .goto 4, 3, (0, 0, 0, 0)), (24, .iconst 0, 1, (0, 0, 0, 0)), (25, .ireturn, 1, (0, 0, 0, 0))]
set_option maxRecDepth 100000 in
theorem tk_X11_isPlace : TOK RX11 false cX11_isPlace tb_X11_isPlace := chkT_ok ft_X11 (by decide +kernel)
def mt_X11_isPlace : List (Nat × Mt) := []
theorem mk_X11_isPlace : MOK RX11 mt_X11_isPlace := fun q hq => by cases hq
noncomputable def xe_X11_isPlace (ct : Nat → Bool) (K : Kt) (R : Option AV → Hp → Prop) (n : Nat) : Kt := exS 2 1 0 0 2 tb_X11_isPlace mt_X11_isPlace ct K R n
noncomputable def xk_X11_isPlace (ct : Nat → Bool) (K : Kt) (R : Option AV → Hp → Prop) (n : Nat) : Kt := exkS 2 1 0 0 2 tb_X11_isPlace mt_X11_isPlace ct K R n
theorem xt_X11_isPlace {ct : Nat → Bool} {K : Kt} {R : Option AV → Hp → Prop} {n pc : Nat} {ls : List (Option AV)} {st : List AV} {σ : Hp} {k : Nat × Nat} (h : ct pc = true) : xk_X11_isPlace ct K R n pc ls st σ k = K pc ls st σ k := by unfold xk_X11_isPlace exkS; rw [h]
theorem xf_X11_isPlace {ct : Nat → Bool} {K : Kt} {R : Option AV → Hp → Prop} {n pc : Nat} {ls : List (Option AV)} {st : List AV} {σ : Hp} {k : Nat × Nat} (h : ct pc = false) : xk_X11_isPlace ct K R n pc ls st σ k = xe_X11_isPlace ct K R n pc ls st σ k := by unfold xk_X11_isPlace exkS xe_X11_isPlace; rw [h]
theorem ev_X11_isPlace_0 {ct : Nat → Bool} {K : Kt} {R : Option AV → Hp → Prop} {n : Nat} {ls : List (Option AV)} {st : List AV} {σ : Hp} {k : Nat × Nat} : xe_X11_isPlace ct K R (n + 1) 0 ls st σ k = (lI ls 0 fun x => xk_X11_isPlace ct K R n 1 ls (vi x :: st) σ k) := exS_step.trans rfl
theorem ev_X11_isPlace_1 {ct : Nat → Bool} {K : Kt} {R : Option AV → Hp → Prop} {n : Nat} {ls : List (Option AV)} {st : List AV} {σ : Hp} {k : Nat × Nat} : xe_X11_isPlace ct K R (n + 1) 1 ls st σ k = (oI st fun x st => (wI x < wI 0 → xk_X11_isPlace ct K R n 24 ls st σ k) ∧ (¬ (wI x < wI 0) → xk_X11_isPlace ct K R n 4 ls st σ k)) := exS_step.trans rfl
theorem ev_X11_isPlace_4 {ct : Nat → Bool} {K : Kt} {R : Option AV → Hp → Prop} {n : Nat} {ls : List (Option AV)} {st : List AV} {σ : Hp} {k : Nat × Nat} : xe_X11_isPlace ct K R (n + 1) 4 ls st σ k = (lI ls 0 fun x => xk_X11_isPlace ct K R n 5 ls (vi x :: st) σ k) := exS_step.trans rfl
theorem ev_X11_isPlace_5 {ct : Nat → Bool} {K : Kt} {R : Option AV → Hp → Prop} {n : Nat} {ls : List (Option AV)} {st : List AV} {σ : Hp} {k : Nat × Nat} : xe_X11_isPlace ct K R (n + 1) 5 ls st σ k = (xk_X11_isPlace ct K R n 7 ls (vi (100) :: st) σ k) := exS_step.trans rfl
theorem ev_X11_isPlace_7 {ct : Nat → Bool} {K : Kt} {R : Option AV → Hp → Prop} {n : Nat} {ls : List (Option AV)} {st : List AV} {σ : Hp} {k : Nat × Nat} : xe_X11_isPlace ct K R (n + 1) 7 ls st σ k = (oI st fun y st => oI st fun x st => (wI y ≤ wI x → xk_X11_isPlace ct K R n 24 ls st σ k) ∧ (¬ (wI y ≤ wI x) → xk_X11_isPlace ct K R n 10 ls st σ k)) := exS_step.trans rfl
theorem ev_X11_isPlace_10 {ct : Nat → Bool} {K : Kt} {R : Option AV → Hp → Prop} {n : Nat} {ls : List (Option AV)} {st : List AV} {σ : Hp} {k : Nat × Nat} : xe_X11_isPlace ct K R (n + 1) 10 ls st σ k = (lI ls 1 fun x => xk_X11_isPlace ct K R n 11 ls (vi x :: st) σ k) := exS_step.trans rfl
theorem ev_X11_isPlace_11 {ct : Nat → Bool} {K : Kt} {R : Option AV → Hp → Prop} {n : Nat} {ls : List (Option AV)} {st : List AV} {σ : Hp} {k : Nat × Nat} : xe_X11_isPlace ct K R (n + 1) 11 ls st σ k = (oI st fun x st => (wI x < wI 0 → xk_X11_isPlace ct K R n 24 ls st σ k) ∧ (¬ (wI x < wI 0) → xk_X11_isPlace ct K R n 14 ls st σ k)) := exS_step.trans rfl
theorem ev_X11_isPlace_14 {ct : Nat → Bool} {K : Kt} {R : Option AV → Hp → Prop} {n : Nat} {ls : List (Option AV)} {st : List AV} {σ : Hp} {k : Nat × Nat} : xe_X11_isPlace ct K R (n + 1) 14 ls st σ k = (lI ls 1 fun x => xk_X11_isPlace ct K R n 15 ls (vi x :: st) σ k) := exS_step.trans rfl
theorem ev_X11_isPlace_15 {ct : Nat → Bool} {K : Kt} {R : Option AV → Hp → Prop} {n : Nat} {ls : List (Option AV)} {st : List AV} {σ : Hp} {k : Nat × Nat} : xe_X11_isPlace ct K R (n + 1) 15 ls st σ k = (xk_X11_isPlace ct K R n 17 ls (vi (100) :: st) σ k) := exS_step.trans rfl
theorem ev_X11_isPlace_17 {ct : Nat → Bool} {K : Kt} {R : Option AV → Hp → Prop} {n : Nat} {ls : List (Option AV)} {st : List AV} {σ : Hp} {k : Nat × Nat} : xe_X11_isPlace ct K R (n + 1) 17 ls st σ k = (oI st fun y st => oI st fun x st => (wI y ≤ wI x → xk_X11_isPlace ct K R n 24 ls st σ k) ∧ (¬ (wI y ≤ wI x) → xk_X11_isPlace ct K R n 20 ls st σ k)) := exS_step.trans rfl
theorem ev_X11_isPlace_20 {ct : Nat → Bool} {K : Kt} {R : Option AV → Hp → Prop} {n : Nat} {ls : List (Option AV)} {st : List AV} {σ : Hp} {k : Nat × Nat} : xe_X11_isPlace ct K R (n + 1) 20 ls st σ k = (xk_X11_isPlace ct K R n 21 ls (vi (1) :: st) σ k) := exS_step.trans rfl
theorem ev_X11_isPlace_21 {ct : Nat → Bool} {K : Kt} {R : Option AV → Hp → Prop} {n : Nat} {ls : List (Option AV)} {st : List AV} {σ : Hp} {k : Nat × Nat} : xe_X11_isPlace ct K R (n + 1) 21 ls st σ k = (xk_X11_isPlace ct K R n 25 ls st σ k) := exS_step.trans rfl
theorem ev_X11_isPlace_24 {ct : Nat → Bool} {K : Kt} {R : Option AV → Hp → Prop} {n : Nat} {ls : List (Option AV)} {st : List AV} {σ : Hp} {k : Nat × Nat} : xe_X11_isPlace ct K R (n + 1) 24 ls st σ k = (xk_X11_isPlace ct K R n 25 ls (vi (0) :: st) σ k) := exS_step.trans rfl
theorem ev_X11_isPlace_25 {ct : Nat → Bool} {K : Kt} {R : Option AV → Hp → Prop} {n : Nat} {ls : List (Option AV)} {st : List AV} {σ : Hp} {k : Nat × Nat} : xe_X11_isPlace ct K R (n + 1) 25 ls st σ k = (oI st fun x st => st = [] ∧ (x = 0 ∨ x = 1) ∧ R (some (vi x)) σ) := exS_step.trans rfl
def M_X11_isPlace : Md := (yX11_isPlace, cX11_isPlace, 2, (some FieldType.boolean), 1, 0, 0, 2, false, tb_X11_isPlace, mt_X11_isPlace)
theorem mm_X11_isPlace : MMOK M_X11_isPlace := ⟨by decide +kernel, tk_X11_isPlace, mk_X11_isPlace, rfl, fun h => by cases h⟩
theorem go_X11_isPlace {Q : Option AV → Hp → Prop} {ct : Nat → Bool} {pc : Nat} {ls : List (Option AV)} {st : List AV} {σ : Hp} {k : Nat × Nat} (n : Nat) (h : xe_X11_isPlace ct (Go M_X11_isPlace Q) Q n pc ls st σ k) : Go M_X11_isPlace Q pc ls st σ k := Go.exS mm_X11_isPlace h

set_option maxRecDepth 20000 in
theorem c_X11_isPlace : Ct yX11_isPlace cX11_isPlace 2 ((some FieldType.boolean)) 1 0 0 sp_X11_isPlace := by
  refine Ct.go (M := M_X11_isPlace) mm_X11_isPlace fun av σ Q h0 => ?_
  obtain ⟨x, y, rfl, h⟩ := el_X11_isPlace h0
  clear h0
  refine ⟨Nat.le_of_ble_eq_true rfl, ?_⟩
  show Go M_X11_isPlace Q 0 [some (vi x), some (vi y)] [] σ (0, 0)
  obtain ⟨hx, hy, h⟩ := h
  unfold inR at hx hy
  by_cases c : (0 ≤ x ∧ x ≤ 99) ∧ 0 ≤ y ∧ y ≤ 99
  · rw [b2i_t c] at h
    refine go_X11_isPlace (ct := fun p => p == 24) 20 ?_
    simp only [oI, oL, oR, o1, lI, lL, lR, popN, catS, gv, stL, stL2, swt, cnd, spObj, List.getElem?_cons_zero, List.getElem?_cons_succ, List.getD_cons_zero, List.getD_cons_succ, List.set_cons_zero, List.set_cons_succ, List.nil_append, List.cons_append, Option.toList, Bool.or_false, Bool.false_or, Bool.or_true, Bool.true_or, Nat.reduceBEq, Nat.reduceAdd, Nat.reduceLT, Nat.reduceLeDiff, Int.reduceAdd, Int.reduceToNat, true_and, and_true, Fin.isValue, Fin.val_zero, Fin.val_one, Fin.val_two, Fin.reduceFinMk, eq_self, Int.reduceNeg, imp_self, Nat.reduceMul, Nat.le_refl, not_true_eq_false, not_false_eq_true, List.getElem?_nil, reduceCtorEq, true_or, or_true, Classical.not_not, implies_true, or_self, wI_0, wI_1, wI_m1, b2i_w, b2i_eq0, b2i_eq1, b2i_bool, nor_self, nx_pI, kd_pI, ln_pI, fI_pI, fL_pI, fR_pI, aI_pI, aL_pI, aR_pI, nx_pL, kd_pL, ln_pL, fI_pL, fL_pL, fR_pL, aI_pL, aL_pL, aR_pL, nx_pR, kd_pR, ln_pR, fI_pR, fL_pR, fR_pR, aI_pR, aL_pR, aR_pR, nx_qI, kd_qI, ln_qI, fI_qI, fL_qI, fR_qI, aI_qI, aL_qI, aR_qI, nx_qL, kd_qL, ln_qL, fI_qL, fL_qL, fR_qL, aI_qL, aL_qL, aR_qL, nx_qR, kd_qR, ln_qR, fI_qR, fL_qR, fR_qR, aI_qR, aL_qR, aR_qR, nx_mk, kd_mk, ln_mk, fI_mk, fL_mk, fR_mk, aI_mk, aL_mk, aR_mk, false_and, and_false, if_false, if_true, and_self, Int.reduceEq, Nat.reduceEqDiff, ite_self, MLay_pI, MLay_pL, MLay_qI, MLay_qL, ev_X11_isPlace_0, ev_X11_isPlace_1, ev_X11_isPlace_4, ev_X11_isPlace_5, ev_X11_isPlace_7, ev_X11_isPlace_10, ev_X11_isPlace_11, ev_X11_isPlace_14, ev_X11_isPlace_15, ev_X11_isPlace_17, ev_X11_isPlace_20, ev_X11_isPlace_21, ev_X11_isPlace_24, ev_X11_isPlace_25, xt_X11_isPlace, xf_X11_isPlace]
    try simp (disch := omega) only [wI_id, dv_nn, rm_nn]
    repeat' (first | intro z | apply And.intro)
    all_goals try omega
    all_goals try contradiction
    all_goals exact h
  · rw [b2i_f c] at h
    refine go_X11_isPlace (ct := fun p => p == 20) 20 ?_
    simp only [oI, oL, oR, o1, lI, lL, lR, popN, catS, gv, stL, stL2, swt, cnd, spObj, List.getElem?_cons_zero, List.getElem?_cons_succ, List.getD_cons_zero, List.getD_cons_succ, List.set_cons_zero, List.set_cons_succ, List.nil_append, List.cons_append, Option.toList, Bool.or_false, Bool.false_or, Bool.or_true, Bool.true_or, Nat.reduceBEq, Nat.reduceAdd, Nat.reduceLT, Nat.reduceLeDiff, Int.reduceAdd, Int.reduceToNat, true_and, and_true, Fin.isValue, Fin.val_zero, Fin.val_one, Fin.val_two, Fin.reduceFinMk, eq_self, Int.reduceNeg, imp_self, Nat.reduceMul, Nat.le_refl, not_true_eq_false, not_false_eq_true, List.getElem?_nil, reduceCtorEq, true_or, or_true, Classical.not_not, implies_true, or_self, wI_0, wI_1, wI_m1, b2i_w, b2i_eq0, b2i_eq1, b2i_bool, nor_self, nx_pI, kd_pI, ln_pI, fI_pI, fL_pI, fR_pI, aI_pI, aL_pI, aR_pI, nx_pL, kd_pL, ln_pL, fI_pL, fL_pL, fR_pL, aI_pL, aL_pL, aR_pL, nx_pR, kd_pR, ln_pR, fI_pR, fL_pR, fR_pR, aI_pR, aL_pR, aR_pR, nx_qI, kd_qI, ln_qI, fI_qI, fL_qI, fR_qI, aI_qI, aL_qI, aR_qI, nx_qL, kd_qL, ln_qL, fI_qL, fL_qL, fR_qL, aI_qL, aL_qL, aR_qL, nx_qR, kd_qR, ln_qR, fI_qR, fL_qR, fR_qR, aI_qR, aL_qR, aR_qR, nx_mk, kd_mk, ln_mk, fI_mk, fL_mk, fR_mk, aI_mk, aL_mk, aR_mk, false_and, and_false, if_false, if_true, and_self, Int.reduceEq, Nat.reduceEqDiff, ite_self, MLay_pI, MLay_pL, MLay_qI, MLay_qL, ev_X11_isPlace_0, ev_X11_isPlace_1, ev_X11_isPlace_4, ev_X11_isPlace_5, ev_X11_isPlace_7, ev_X11_isPlace_10, ev_X11_isPlace_11, ev_X11_isPlace_14, ev_X11_isPlace_15, ev_X11_isPlace_17, ev_X11_isPlace_20, ev_X11_isPlace_21, ev_X11_isPlace_24, ev_X11_isPlace_25, xt_X11_isPlace, xf_X11_isPlace]
    try simp (disch := omega) only [wI_id, dv_nn, rm_nn]
    repeat' (first | intro z | apply And.intro)
    all_goals try omega
    all_goals try contradiction
    all_goals exact h

def sp_X11_isWard : Sp := fun av σ Q => oI av fun w av => av = [] ∧ (inR w ∧ Q (some (vi (b2i (0 ≤ w ∧ w ≤ 7)))) σ)
theorem us_X11_isWard (w : Int) (σ : Hp) (Q : Option AV → Hp → Prop) : sp_X11_isWard [vi w] σ Q = ((inR w ∧ Q (some (vi (b2i (0 ≤ w ∧ w ≤ 7)))) σ)) := propext ⟨fun h => h.2, fun h => ⟨rfl, h⟩⟩
theorem el_X11_isWard {av : List AV} {σ : Hp} {Q : Option AV → Hp → Prop} (h : sp_X11_isWard av σ Q) : ∃ (w : Int), av = [vi w] ∧ ((inR w ∧ Q (some (vi (b2i (0 ≤ w ∧ w ≤ 7)))) σ)) := by
  obtain ⟨w, a0, rfl, h0⟩ := oI_s h
  obtain ⟨rfl, hz⟩ := h0
  exact ⟨w, rfl, hz⟩

def tb_X11_isWard : Tab := [(0, .iload_n 0, 1, (0, 0, 0, 0)), (1, .ifCond .lt 13, 3, (0, 0, 0, 0)), (4, .iload_n 0, 1, (0, 0, 0, 0)), (5, .bipush 8, 2, (0, 0, 0, 0)), (7, .if_icmp .ge 7, 3, (0, 0, 0, 0)), (10, .iconst 1, 1, (0, 0, 0, 0)), (11, .goto 4, 3, (0, 0, 0, 0)), (14, .iconst 0, 1, (0, 0, 0, 0)), (15, .ireturn, 1, (0, 0, 0, 0))]
set_option maxRecDepth 100000 in
theorem tk_X11_isWard : TOK RX11 false cX11_isWard tb_X11_isWard := chkT_ok ft_X11 (by decide +kernel)
def mt_X11_isWard : List (Nat × Mt) := []
theorem mk_X11_isWard : MOK RX11 mt_X11_isWard := fun q hq => by cases hq
noncomputable def xe_X11_isWard (ct : Nat → Bool) (K : Kt) (R : Option AV → Hp → Prop) (n : Nat) : Kt := exS 1 1 0 0 2 tb_X11_isWard mt_X11_isWard ct K R n
noncomputable def xk_X11_isWard (ct : Nat → Bool) (K : Kt) (R : Option AV → Hp → Prop) (n : Nat) : Kt := exkS 1 1 0 0 2 tb_X11_isWard mt_X11_isWard ct K R n
theorem xt_X11_isWard {ct : Nat → Bool} {K : Kt} {R : Option AV → Hp → Prop} {n pc : Nat} {ls : List (Option AV)} {st : List AV} {σ : Hp} {k : Nat × Nat} (h : ct pc = true) : xk_X11_isWard ct K R n pc ls st σ k = K pc ls st σ k := by unfold xk_X11_isWard exkS; rw [h]
theorem xf_X11_isWard {ct : Nat → Bool} {K : Kt} {R : Option AV → Hp → Prop} {n pc : Nat} {ls : List (Option AV)} {st : List AV} {σ : Hp} {k : Nat × Nat} (h : ct pc = false) : xk_X11_isWard ct K R n pc ls st σ k = xe_X11_isWard ct K R n pc ls st σ k := by unfold xk_X11_isWard exkS xe_X11_isWard; rw [h]
theorem ev_X11_isWard_0 {ct : Nat → Bool} {K : Kt} {R : Option AV → Hp → Prop} {n : Nat} {ls : List (Option AV)} {st : List AV} {σ : Hp} {k : Nat × Nat} : xe_X11_isWard ct K R (n + 1) 0 ls st σ k = (lI ls 0 fun x => xk_X11_isWard ct K R n 1 ls (vi x :: st) σ k) := exS_step.trans rfl
theorem ev_X11_isWard_1 {ct : Nat → Bool} {K : Kt} {R : Option AV → Hp → Prop} {n : Nat} {ls : List (Option AV)} {st : List AV} {σ : Hp} {k : Nat × Nat} : xe_X11_isWard ct K R (n + 1) 1 ls st σ k = (oI st fun x st => (wI x < wI 0 → xk_X11_isWard ct K R n 14 ls st σ k) ∧ (¬ (wI x < wI 0) → xk_X11_isWard ct K R n 4 ls st σ k)) := exS_step.trans rfl
theorem ev_X11_isWard_4 {ct : Nat → Bool} {K : Kt} {R : Option AV → Hp → Prop} {n : Nat} {ls : List (Option AV)} {st : List AV} {σ : Hp} {k : Nat × Nat} : xe_X11_isWard ct K R (n + 1) 4 ls st σ k = (lI ls 0 fun x => xk_X11_isWard ct K R n 5 ls (vi x :: st) σ k) := exS_step.trans rfl
theorem ev_X11_isWard_5 {ct : Nat → Bool} {K : Kt} {R : Option AV → Hp → Prop} {n : Nat} {ls : List (Option AV)} {st : List AV} {σ : Hp} {k : Nat × Nat} : xe_X11_isWard ct K R (n + 1) 5 ls st σ k = (xk_X11_isWard ct K R n 7 ls (vi (8) :: st) σ k) := exS_step.trans rfl
theorem ev_X11_isWard_7 {ct : Nat → Bool} {K : Kt} {R : Option AV → Hp → Prop} {n : Nat} {ls : List (Option AV)} {st : List AV} {σ : Hp} {k : Nat × Nat} : xe_X11_isWard ct K R (n + 1) 7 ls st σ k = (oI st fun y st => oI st fun x st => (wI y ≤ wI x → xk_X11_isWard ct K R n 14 ls st σ k) ∧ (¬ (wI y ≤ wI x) → xk_X11_isWard ct K R n 10 ls st σ k)) := exS_step.trans rfl
theorem ev_X11_isWard_10 {ct : Nat → Bool} {K : Kt} {R : Option AV → Hp → Prop} {n : Nat} {ls : List (Option AV)} {st : List AV} {σ : Hp} {k : Nat × Nat} : xe_X11_isWard ct K R (n + 1) 10 ls st σ k = (xk_X11_isWard ct K R n 11 ls (vi (1) :: st) σ k) := exS_step.trans rfl
theorem ev_X11_isWard_11 {ct : Nat → Bool} {K : Kt} {R : Option AV → Hp → Prop} {n : Nat} {ls : List (Option AV)} {st : List AV} {σ : Hp} {k : Nat × Nat} : xe_X11_isWard ct K R (n + 1) 11 ls st σ k = (xk_X11_isWard ct K R n 15 ls st σ k) := exS_step.trans rfl
theorem ev_X11_isWard_14 {ct : Nat → Bool} {K : Kt} {R : Option AV → Hp → Prop} {n : Nat} {ls : List (Option AV)} {st : List AV} {σ : Hp} {k : Nat × Nat} : xe_X11_isWard ct K R (n + 1) 14 ls st σ k = (xk_X11_isWard ct K R n 15 ls (vi (0) :: st) σ k) := exS_step.trans rfl
theorem ev_X11_isWard_15 {ct : Nat → Bool} {K : Kt} {R : Option AV → Hp → Prop} {n : Nat} {ls : List (Option AV)} {st : List AV} {σ : Hp} {k : Nat × Nat} : xe_X11_isWard ct K R (n + 1) 15 ls st σ k = (oI st fun x st => st = [] ∧ (x = 0 ∨ x = 1) ∧ R (some (vi x)) σ) := exS_step.trans rfl
def M_X11_isWard : Md := (yX11_isWard, cX11_isWard, 1, (some FieldType.boolean), 1, 0, 0, 2, false, tb_X11_isWard, mt_X11_isWard)
theorem mm_X11_isWard : MMOK M_X11_isWard := ⟨by decide +kernel, tk_X11_isWard, mk_X11_isWard, rfl, fun h => by cases h⟩
theorem go_X11_isWard {Q : Option AV → Hp → Prop} {ct : Nat → Bool} {pc : Nat} {ls : List (Option AV)} {st : List AV} {σ : Hp} {k : Nat × Nat} (n : Nat) (h : xe_X11_isWard ct (Go M_X11_isWard Q) Q n pc ls st σ k) : Go M_X11_isWard Q pc ls st σ k := Go.exS mm_X11_isWard h

set_option maxRecDepth 20000 in
theorem c_X11_isWard : Ct yX11_isWard cX11_isWard 1 ((some FieldType.boolean)) 1 0 0 sp_X11_isWard := by
  refine Ct.go (M := M_X11_isWard) mm_X11_isWard fun av σ Q h0 => ?_
  obtain ⟨w, rfl, h⟩ := el_X11_isWard h0
  clear h0
  refine ⟨Nat.le_of_ble_eq_true rfl, ?_⟩
  show Go M_X11_isWard Q 0 [some (vi w)] [] σ (0, 0)
  obtain ⟨hx, h⟩ := h
  unfold inR at hx
  by_cases c : 0 ≤ w ∧ w ≤ 7
  · rw [b2i_t c] at h
    refine go_X11_isWard (ct := fun p => p == 14) 20 ?_
    simp only [oI, oL, oR, o1, lI, lL, lR, popN, catS, gv, stL, stL2, swt, cnd, spObj, List.getElem?_cons_zero, List.getElem?_cons_succ, List.getD_cons_zero, List.getD_cons_succ, List.set_cons_zero, List.set_cons_succ, List.nil_append, List.cons_append, Option.toList, Bool.or_false, Bool.false_or, Bool.or_true, Bool.true_or, Nat.reduceBEq, Nat.reduceAdd, Nat.reduceLT, Nat.reduceLeDiff, Int.reduceAdd, Int.reduceToNat, true_and, and_true, Fin.isValue, Fin.val_zero, Fin.val_one, Fin.val_two, Fin.reduceFinMk, eq_self, Int.reduceNeg, imp_self, Nat.reduceMul, Nat.le_refl, not_true_eq_false, not_false_eq_true, List.getElem?_nil, reduceCtorEq, true_or, or_true, Classical.not_not, implies_true, or_self, wI_0, wI_1, wI_m1, b2i_w, b2i_eq0, b2i_eq1, b2i_bool, nor_self, nx_pI, kd_pI, ln_pI, fI_pI, fL_pI, fR_pI, aI_pI, aL_pI, aR_pI, nx_pL, kd_pL, ln_pL, fI_pL, fL_pL, fR_pL, aI_pL, aL_pL, aR_pL, nx_pR, kd_pR, ln_pR, fI_pR, fL_pR, fR_pR, aI_pR, aL_pR, aR_pR, nx_qI, kd_qI, ln_qI, fI_qI, fL_qI, fR_qI, aI_qI, aL_qI, aR_qI, nx_qL, kd_qL, ln_qL, fI_qL, fL_qL, fR_qL, aI_qL, aL_qL, aR_qL, nx_qR, kd_qR, ln_qR, fI_qR, fL_qR, fR_qR, aI_qR, aL_qR, aR_qR, nx_mk, kd_mk, ln_mk, fI_mk, fL_mk, fR_mk, aI_mk, aL_mk, aR_mk, false_and, and_false, if_false, if_true, and_self, Int.reduceEq, Nat.reduceEqDiff, ite_self, MLay_pI, MLay_pL, MLay_qI, MLay_qL, ev_X11_isWard_0, ev_X11_isWard_1, ev_X11_isWard_4, ev_X11_isWard_5, ev_X11_isWard_7, ev_X11_isWard_10, ev_X11_isWard_11, ev_X11_isWard_14, ev_X11_isWard_15, xt_X11_isWard, xf_X11_isWard]
    try simp (disch := omega) only [wI_id, dv_nn, rm_nn]
    repeat' (first | intro z | apply And.intro)
    all_goals try omega
    all_goals try contradiction
    all_goals exact h
  · rw [b2i_f c] at h
    refine go_X11_isWard (ct := fun p => p == 10) 20 ?_
    simp only [oI, oL, oR, o1, lI, lL, lR, popN, catS, gv, stL, stL2, swt, cnd, spObj, List.getElem?_cons_zero, List.getElem?_cons_succ, List.getD_cons_zero, List.getD_cons_succ, List.set_cons_zero, List.set_cons_succ, List.nil_append, List.cons_append, Option.toList, Bool.or_false, Bool.false_or, Bool.or_true, Bool.true_or, Nat.reduceBEq, Nat.reduceAdd, Nat.reduceLT, Nat.reduceLeDiff, Int.reduceAdd, Int.reduceToNat, true_and, and_true, Fin.isValue, Fin.val_zero, Fin.val_one, Fin.val_two, Fin.reduceFinMk, eq_self, Int.reduceNeg, imp_self, Nat.reduceMul, Nat.le_refl, not_true_eq_false, not_false_eq_true, List.getElem?_nil, reduceCtorEq, true_or, or_true, Classical.not_not, implies_true, or_self, wI_0, wI_1, wI_m1, b2i_w, b2i_eq0, b2i_eq1, b2i_bool, nor_self, nx_pI, kd_pI, ln_pI, fI_pI, fL_pI, fR_pI, aI_pI, aL_pI, aR_pI, nx_pL, kd_pL, ln_pL, fI_pL, fL_pL, fR_pL, aI_pL, aL_pL, aR_pL, nx_pR, kd_pR, ln_pR, fI_pR, fL_pR, fR_pR, aI_pR, aL_pR, aR_pR, nx_qI, kd_qI, ln_qI, fI_qI, fL_qI, fR_qI, aI_qI, aL_qI, aR_qI, nx_qL, kd_qL, ln_qL, fI_qL, fL_qL, fR_qL, aI_qL, aL_qL, aR_qL, nx_qR, kd_qR, ln_qR, fI_qR, fL_qR, fR_qR, aI_qR, aL_qR, aR_qR, nx_mk, kd_mk, ln_mk, fI_mk, fL_mk, fR_mk, aI_mk, aL_mk, aR_mk, false_and, and_false, if_false, if_true, and_self, Int.reduceEq, Nat.reduceEqDiff, ite_self, MLay_pI, MLay_pL, MLay_qI, MLay_qL, ev_X11_isWard_0, ev_X11_isWard_1, ev_X11_isWard_4, ev_X11_isWard_5, ev_X11_isWard_7, ev_X11_isWard_10, ev_X11_isWard_11, ev_X11_isWard_14, ev_X11_isWard_15, xt_X11_isWard, xf_X11_isWard]
    try simp (disch := omega) only [wI_id, dv_nn, rm_nn]
    repeat' (first | intro z | apply And.intro)
    all_goals try omega
    all_goals try contradiction
    all_goals exact h

def sp_X11_isDigit : Sp := fun av σ Q => oI av fun w av => av = [] ∧ ((-100 ≤ w ∧ w ≤ 100) ∧ Q (some (vi (b2i (1 ≤ w ∧ w ≤ 5)))) σ)
theorem us_X11_isDigit (w : Int) (σ : Hp) (Q : Option AV → Hp → Prop) : sp_X11_isDigit [vi w] σ Q = (((-100 ≤ w ∧ w ≤ 100) ∧ Q (some (vi (b2i (1 ≤ w ∧ w ≤ 5)))) σ)) := propext ⟨fun h => h.2, fun h => ⟨rfl, h⟩⟩
theorem el_X11_isDigit {av : List AV} {σ : Hp} {Q : Option AV → Hp → Prop} (h : sp_X11_isDigit av σ Q) : ∃ (w : Int), av = [vi w] ∧ (((-100 ≤ w ∧ w ≤ 100) ∧ Q (some (vi (b2i (1 ≤ w ∧ w ≤ 5)))) σ)) := by
  obtain ⟨w, a0, rfl, h0⟩ := oI_s h
  obtain ⟨rfl, hz⟩ := h0
  exact ⟨w, rfl, hz⟩

def tb_X11_isDigit : Tab := [(0, .iload_n 0, 1, (0, 0, 0, 0)), (1, .iconst 1, 1, (0, 0, 0, 0)), (2, .if_icmp .lt 12, 3, (0, 0, 0, 0)), (5, .iload_n 0, 1, (0, 0, 0, 0)), (6, .iconst 5, 1, (0, 0, 0, 0)), (7, .if_icmp .gt 7, 3, (0, 0, 0, 0)), (10, .iconst 1, 1, (0, 0, 0, 0)), (11, .goto 4, 3, (0, 0, 0, 0)), (14, .iconst 0, 1, (0, 0, 0, 0)), (15, .ireturn, 1, (0, 0, 0, 0))]
set_option maxRecDepth 100000 in
theorem tk_X11_isDigit : TOK RX11 false cX11_isDigit tb_X11_isDigit := chkT_ok ft_X11 (by decide +kernel)
def mt_X11_isDigit : List (Nat × Mt) := []
theorem mk_X11_isDigit : MOK RX11 mt_X11_isDigit := fun q hq => by cases hq
noncomputable def xe_X11_isDigit (ct : Nat → Bool) (K : Kt) (R : Option AV → Hp → Prop) (n : Nat) : Kt := exS 1 1 0 0 2 tb_X11_isDigit mt_X11_isDigit ct K R n
noncomputable def xk_X11_isDigit (ct : Nat → Bool) (K : Kt) (R : Option AV → Hp → Prop) (n : Nat) : Kt := exkS 1 1 0 0 2 tb_X11_isDigit mt_X11_isDigit ct K R n
theorem xt_X11_isDigit {ct : Nat → Bool} {K : Kt} {R : Option AV → Hp → Prop} {n pc : Nat} {ls : List (Option AV)} {st : List AV} {σ : Hp} {k : Nat × Nat} (h : ct pc = true) : xk_X11_isDigit ct K R n pc ls st σ k = K pc ls st σ k := by unfold xk_X11_isDigit exkS; rw [h]
theorem xf_X11_isDigit {ct : Nat → Bool} {K : Kt} {R : Option AV → Hp → Prop} {n pc : Nat} {ls : List (Option AV)} {st : List AV} {σ : Hp} {k : Nat × Nat} (h : ct pc = false) : xk_X11_isDigit ct K R n pc ls st σ k = xe_X11_isDigit ct K R n pc ls st σ k := by unfold xk_X11_isDigit exkS xe_X11_isDigit; rw [h]
theorem ev_X11_isDigit_0 {ct : Nat → Bool} {K : Kt} {R : Option AV → Hp → Prop} {n : Nat} {ls : List (Option AV)} {st : List AV} {σ : Hp} {k : Nat × Nat} : xe_X11_isDigit ct K R (n + 1) 0 ls st σ k = (lI ls 0 fun x => xk_X11_isDigit ct K R n 1 ls (vi x :: st) σ k) := exS_step.trans rfl
theorem ev_X11_isDigit_1 {ct : Nat → Bool} {K : Kt} {R : Option AV → Hp → Prop} {n : Nat} {ls : List (Option AV)} {st : List AV} {σ : Hp} {k : Nat × Nat} : xe_X11_isDigit ct K R (n + 1) 1 ls st σ k = (xk_X11_isDigit ct K R n 2 ls (vi (1) :: st) σ k) := exS_step.trans rfl
theorem ev_X11_isDigit_2 {ct : Nat → Bool} {K : Kt} {R : Option AV → Hp → Prop} {n : Nat} {ls : List (Option AV)} {st : List AV} {σ : Hp} {k : Nat × Nat} : xe_X11_isDigit ct K R (n + 1) 2 ls st σ k = (oI st fun y st => oI st fun x st => (wI x < wI y → xk_X11_isDigit ct K R n 14 ls st σ k) ∧ (¬ (wI x < wI y) → xk_X11_isDigit ct K R n 5 ls st σ k)) := exS_step.trans rfl
theorem ev_X11_isDigit_5 {ct : Nat → Bool} {K : Kt} {R : Option AV → Hp → Prop} {n : Nat} {ls : List (Option AV)} {st : List AV} {σ : Hp} {k : Nat × Nat} : xe_X11_isDigit ct K R (n + 1) 5 ls st σ k = (lI ls 0 fun x => xk_X11_isDigit ct K R n 6 ls (vi x :: st) σ k) := exS_step.trans rfl
theorem ev_X11_isDigit_6 {ct : Nat → Bool} {K : Kt} {R : Option AV → Hp → Prop} {n : Nat} {ls : List (Option AV)} {st : List AV} {σ : Hp} {k : Nat × Nat} : xe_X11_isDigit ct K R (n + 1) 6 ls st σ k = (xk_X11_isDigit ct K R n 7 ls (vi (5) :: st) σ k) := exS_step.trans rfl
theorem ev_X11_isDigit_7 {ct : Nat → Bool} {K : Kt} {R : Option AV → Hp → Prop} {n : Nat} {ls : List (Option AV)} {st : List AV} {σ : Hp} {k : Nat × Nat} : xe_X11_isDigit ct K R (n + 1) 7 ls st σ k = (oI st fun y st => oI st fun x st => (wI y < wI x → xk_X11_isDigit ct K R n 14 ls st σ k) ∧ (¬ (wI y < wI x) → xk_X11_isDigit ct K R n 10 ls st σ k)) := exS_step.trans rfl
theorem ev_X11_isDigit_10 {ct : Nat → Bool} {K : Kt} {R : Option AV → Hp → Prop} {n : Nat} {ls : List (Option AV)} {st : List AV} {σ : Hp} {k : Nat × Nat} : xe_X11_isDigit ct K R (n + 1) 10 ls st σ k = (xk_X11_isDigit ct K R n 11 ls (vi (1) :: st) σ k) := exS_step.trans rfl
theorem ev_X11_isDigit_11 {ct : Nat → Bool} {K : Kt} {R : Option AV → Hp → Prop} {n : Nat} {ls : List (Option AV)} {st : List AV} {σ : Hp} {k : Nat × Nat} : xe_X11_isDigit ct K R (n + 1) 11 ls st σ k = (xk_X11_isDigit ct K R n 15 ls st σ k) := exS_step.trans rfl
theorem ev_X11_isDigit_14 {ct : Nat → Bool} {K : Kt} {R : Option AV → Hp → Prop} {n : Nat} {ls : List (Option AV)} {st : List AV} {σ : Hp} {k : Nat × Nat} : xe_X11_isDigit ct K R (n + 1) 14 ls st σ k = (xk_X11_isDigit ct K R n 15 ls (vi (0) :: st) σ k) := exS_step.trans rfl
theorem ev_X11_isDigit_15 {ct : Nat → Bool} {K : Kt} {R : Option AV → Hp → Prop} {n : Nat} {ls : List (Option AV)} {st : List AV} {σ : Hp} {k : Nat × Nat} : xe_X11_isDigit ct K R (n + 1) 15 ls st σ k = (oI st fun x st => st = [] ∧ (x = 0 ∨ x = 1) ∧ R (some (vi x)) σ) := exS_step.trans rfl
def M_X11_isDigit : Md := (yX11_isDigit, cX11_isDigit, 1, (some FieldType.boolean), 1, 0, 0, 2, false, tb_X11_isDigit, mt_X11_isDigit)
theorem mm_X11_isDigit : MMOK M_X11_isDigit := ⟨by decide +kernel, tk_X11_isDigit, mk_X11_isDigit, rfl, fun h => by cases h⟩
theorem go_X11_isDigit {Q : Option AV → Hp → Prop} {ct : Nat → Bool} {pc : Nat} {ls : List (Option AV)} {st : List AV} {σ : Hp} {k : Nat × Nat} (n : Nat) (h : xe_X11_isDigit ct (Go M_X11_isDigit Q) Q n pc ls st σ k) : Go M_X11_isDigit Q pc ls st σ k := Go.exS mm_X11_isDigit h

set_option maxRecDepth 20000 in
theorem c_X11_isDigit : Ct yX11_isDigit cX11_isDigit 1 ((some FieldType.boolean)) 1 0 0 sp_X11_isDigit := by
  refine Ct.go (M := M_X11_isDigit) mm_X11_isDigit fun av σ Q h0 => ?_
  obtain ⟨w, rfl, h⟩ := el_X11_isDigit h0
  clear h0
  refine ⟨Nat.le_of_ble_eq_true rfl, ?_⟩
  show Go M_X11_isDigit Q 0 [some (vi w)] [] σ (0, 0)
  obtain ⟨hx, h⟩ := h
  by_cases c : 1 ≤ w ∧ w ≤ 5
  · rw [b2i_t c] at h
    refine go_X11_isDigit (ct := fun p => p == 14) 20 ?_
    simp only [oI, oL, oR, o1, lI, lL, lR, popN, catS, gv, stL, stL2, swt, cnd, spObj, List.getElem?_cons_zero, List.getElem?_cons_succ, List.getD_cons_zero, List.getD_cons_succ, List.set_cons_zero, List.set_cons_succ, List.nil_append, List.cons_append, Option.toList, Bool.or_false, Bool.false_or, Bool.or_true, Bool.true_or, Nat.reduceBEq, Nat.reduceAdd, Nat.reduceLT, Nat.reduceLeDiff, Int.reduceAdd, Int.reduceToNat, true_and, and_true, Fin.isValue, Fin.val_zero, Fin.val_one, Fin.val_two, Fin.reduceFinMk, eq_self, Int.reduceNeg, imp_self, Nat.reduceMul, Nat.le_refl, not_true_eq_false, not_false_eq_true, List.getElem?_nil, reduceCtorEq, true_or, or_true, Classical.not_not, implies_true, or_self, wI_0, wI_1, wI_m1, b2i_w, b2i_eq0, b2i_eq1, b2i_bool, nor_self, nx_pI, kd_pI, ln_pI, fI_pI, fL_pI, fR_pI, aI_pI, aL_pI, aR_pI, nx_pL, kd_pL, ln_pL, fI_pL, fL_pL, fR_pL, aI_pL, aL_pL, aR_pL, nx_pR, kd_pR, ln_pR, fI_pR, fL_pR, fR_pR, aI_pR, aL_pR, aR_pR, nx_qI, kd_qI, ln_qI, fI_qI, fL_qI, fR_qI, aI_qI, aL_qI, aR_qI, nx_qL, kd_qL, ln_qL, fI_qL, fL_qL, fR_qL, aI_qL, aL_qL, aR_qL, nx_qR, kd_qR, ln_qR, fI_qR, fL_qR, fR_qR, aI_qR, aL_qR, aR_qR, nx_mk, kd_mk, ln_mk, fI_mk, fL_mk, fR_mk, aI_mk, aL_mk, aR_mk, false_and, and_false, if_false, if_true, and_self, Int.reduceEq, Nat.reduceEqDiff, ite_self, MLay_pI, MLay_pL, MLay_qI, MLay_qL, ev_X11_isDigit_0, ev_X11_isDigit_1, ev_X11_isDigit_2, ev_X11_isDigit_5, ev_X11_isDigit_6, ev_X11_isDigit_7, ev_X11_isDigit_10, ev_X11_isDigit_11, ev_X11_isDigit_14, ev_X11_isDigit_15, xt_X11_isDigit, xf_X11_isDigit]
    try simp (disch := omega) only [wI_id, dv_nn, rm_nn]
    repeat' (first | intro z | apply And.intro)
    all_goals try omega
    all_goals try contradiction
    all_goals exact h
  · rw [b2i_f c] at h
    refine go_X11_isDigit (ct := fun p => p == 10) 20 ?_
    simp only [oI, oL, oR, o1, lI, lL, lR, popN, catS, gv, stL, stL2, swt, cnd, spObj, List.getElem?_cons_zero, List.getElem?_cons_succ, List.getD_cons_zero, List.getD_cons_succ, List.set_cons_zero, List.set_cons_succ, List.nil_append, List.cons_append, Option.toList, Bool.or_false, Bool.false_or, Bool.or_true, Bool.true_or, Nat.reduceBEq, Nat.reduceAdd, Nat.reduceLT, Nat.reduceLeDiff, Int.reduceAdd, Int.reduceToNat, true_and, and_true, Fin.isValue, Fin.val_zero, Fin.val_one, Fin.val_two, Fin.reduceFinMk, eq_self, Int.reduceNeg, imp_self, Nat.reduceMul, Nat.le_refl, not_true_eq_false, not_false_eq_true, List.getElem?_nil, reduceCtorEq, true_or, or_true, Classical.not_not, implies_true, or_self, wI_0, wI_1, wI_m1, b2i_w, b2i_eq0, b2i_eq1, b2i_bool, nor_self, nx_pI, kd_pI, ln_pI, fI_pI, fL_pI, fR_pI, aI_pI, aL_pI, aR_pI, nx_pL, kd_pL, ln_pL, fI_pL, fL_pL, fR_pL, aI_pL, aL_pL, aR_pL, nx_pR, kd_pR, ln_pR, fI_pR, fL_pR, fR_pR, aI_pR, aL_pR, aR_pR, nx_qI, kd_qI, ln_qI, fI_qI, fL_qI, fR_qI, aI_qI, aL_qI, aR_qI, nx_qL, kd_qL, ln_qL, fI_qL, fL_qL, fR_qL, aI_qL, aL_qL, aR_qL, nx_qR, kd_qR, ln_qR, fI_qR, fL_qR, fR_qR, aI_qR, aL_qR, aR_qR, nx_mk, kd_mk, ln_mk, fI_mk, fL_mk, fR_mk, aI_mk, aL_mk, aR_mk, false_and, and_false, if_false, if_true, and_self, Int.reduceEq, Nat.reduceEqDiff, ite_self, MLay_pI, MLay_pL, MLay_qI, MLay_qL, ev_X11_isDigit_0, ev_X11_isDigit_1, ev_X11_isDigit_2, ev_X11_isDigit_5, ev_X11_isDigit_6, ev_X11_isDigit_7, ev_X11_isDigit_10, ev_X11_isDigit_11, ev_X11_isDigit_14, ev_X11_isDigit_15, xt_X11_isDigit, xf_X11_isDigit]
    try simp (disch := omega) only [wI_id, dv_nn, rm_nn]
    repeat' (first | intro z | apply And.intro)
    all_goals try omega
    all_goals try contradiction
    all_goals exact h

theorem okNum_is {n : Int} (h : 11 ≤ n ∧ n ≤ 555) : okNum n ↔ ((1 ≤ n / 10 % 10 ∧ n / 10 % 10 ≤ 5) ∧ (1 ≤ n % 10 ∧ n % 10 ≤ 5)) := by
  simp only [okNum, digs, and_true]
  omega
theorem okNum_r {n : Int} (h : okNum n) : 11 ≤ n ∧ n ≤ 555 := by
  have := h.1
  omega

def sp_X11_isBoxNumber : Sp := fun av σ Q => oI av fun n av => av = [] ∧ (inR n ∧ Q (some (vi (b2i (okNum n)))) σ)
theorem us_X11_isBoxNumber (n : Int) (σ : Hp) (Q : Option AV → Hp → Prop) : sp_X11_isBoxNumber [vi n] σ Q = ((inR n ∧ Q (some (vi (b2i (okNum n)))) σ)) := propext ⟨fun h => h.2, fun h => ⟨rfl, h⟩⟩
theorem el_X11_isBoxNumber {av : List AV} {σ : Hp} {Q : Option AV → Hp → Prop} (h : sp_X11_isBoxNumber av σ Q) : ∃ (n : Int), av = [vi n] ∧ ((inR n ∧ Q (some (vi (b2i (okNum n)))) σ)) := by
  obtain ⟨n, a0, rfl, h0⟩ := oI_s h
  obtain ⟨rfl, hz⟩ := h0
  exact ⟨n, rfl, hz⟩

def tb_X11_isBoxNumber : Tab := [(0, .iload_n 0, 1, (0, 0, 0, 0)), (1, .bipush 11, 2, (0, 0, 0, 0)), (3, .if_icmp .lt 10, 3, (0, 0, 0, 0)), (6, .iload_n 0, 1, (0, 0, 0, 0)), (7, .sipush 555, 3, (0, 0, 0, 0)), (10, .if_icmp .le 5, 3, (0, 0, 0, 0)), (13, .iconst 0, 1, (0, 0, 0, 0)), (14, .ireturn, 1, (0, 0, 0, 0)), (15, .iload_n 0, 1, (0, 0, 0, 0)), (16, .bipush 100, 2, (0, 0, 0, 0)), (18, .idiv, 1, (0, 0, 0, 0)), (19, .istore_n 1, 1, (0, 0, 0, 0)), (20, .iload_n 1, 1, (0, 0, 0, 0)), (21, .iconst 5, 1, (0, 0, 0, 0)), (22, .if_icmp .gt 30, 3, (0, 0, 0, 0)), (25, .iload_n 0, 1, (0, 0, 0, 0)), (26, .bipush 10, 2, (0, 0, 0, 0)), (28, .idiv, 1, (0, 0, 0, 0)), (29, .bipush 10, 2, (0, 0, 0, 0)), (31, .irem, 1, (0, 0, 0, 0)), (32, .invokestatic 362, 3, (0, 0, 0, 0)), (35, .ifCond .eq 17, 3, (0, 0, 0, 0)), (38, .iload_n 0, 1, (0, 0, 0, 0)), (39, .bipush 10, 2, (0, 0, 0, 0)), (41, .irem, 1, (0, 0, 0, 0)), (42, .invokestatic 362, 3, (0, 0, 0, 0)), (45, .ifCond .eq 7, 3, (0, 0, 0, 0)), (48, .iconst 1, 1, (0, 0, 0, 0)), (49, .goto 4, 3, (0, 0, 0, 0)), (52, .iconst 0, 1, (0, 0, 0, 0)), (53, .ireturn, 1, (0, 0, 0, 0))]
set_option maxRecDepth 100000 in
theorem tk_X11_isBoxNumber : TOK RX11 false cX11_isBoxNumber tb_X11_isBoxNumber := chkT_ok ft_X11 (by decide +kernel)
theorem rw_X11_2897 : Row RX11 (.invokestatic 362) 3 1 0 0 1 sp_X11_isDigit := row_S c_X11_isDigit ⟨TBL_in 543 (by decide +kernel) rfl, TBL_in 545 (by decide +kernel) rfl, TBL_in 111 (by decide +kernel) rfl, by decide +kernel, by decide⟩ (TBL_in 544 (by decide +kernel) rfl)
def mt_X11_isBoxNumber : List (Nat × Mt) := [(2897, 1, 0, 0, 1, sp_X11_isDigit)]
theorem em_X11_isBoxNumber : mt_X11_isBoxNumber.lookup 2897 = some (1, 0, 0, 1, sp_X11_isDigit) := rfl
theorem mk_X11_isBoxNumber : MOK RX11 mt_X11_isBoxNumber := by
  intro q hq
  simp only [mt_X11_isBoxNumber, List.mem_cons, List.not_mem_nil, or_false] at hq
  rcases hq with rfl
  · exact rw_X11_2897
noncomputable def xe_X11_isBoxNumber (ct : Nat → Bool) (K : Kt) (R : Option AV → Hp → Prop) (n : Nat) : Kt := exS 2 2 0 0 2 tb_X11_isBoxNumber mt_X11_isBoxNumber ct K R n
noncomputable def xk_X11_isBoxNumber (ct : Nat → Bool) (K : Kt) (R : Option AV → Hp → Prop) (n : Nat) : Kt := exkS 2 2 0 0 2 tb_X11_isBoxNumber mt_X11_isBoxNumber ct K R n
theorem xt_X11_isBoxNumber {ct : Nat → Bool} {K : Kt} {R : Option AV → Hp → Prop} {n pc : Nat} {ls : List (Option AV)} {st : List AV} {σ : Hp} {k : Nat × Nat} (h : ct pc = true) : xk_X11_isBoxNumber ct K R n pc ls st σ k = K pc ls st σ k := by unfold xk_X11_isBoxNumber exkS; rw [h]
theorem xf_X11_isBoxNumber {ct : Nat → Bool} {K : Kt} {R : Option AV → Hp → Prop} {n pc : Nat} {ls : List (Option AV)} {st : List AV} {σ : Hp} {k : Nat × Nat} (h : ct pc = false) : xk_X11_isBoxNumber ct K R n pc ls st σ k = xe_X11_isBoxNumber ct K R n pc ls st σ k := by unfold xk_X11_isBoxNumber exkS xe_X11_isBoxNumber; rw [h]
theorem ev_X11_isBoxNumber_0 {ct : Nat → Bool} {K : Kt} {R : Option AV → Hp → Prop} {n : Nat} {ls : List (Option AV)} {st : List AV} {σ : Hp} {k : Nat × Nat} : xe_X11_isBoxNumber ct K R (n + 1) 0 ls st σ k = (lI ls 0 fun x => xk_X11_isBoxNumber ct K R n 1 ls (vi x :: st) σ k) := exS_step.trans rfl
theorem ev_X11_isBoxNumber_1 {ct : Nat → Bool} {K : Kt} {R : Option AV → Hp → Prop} {n : Nat} {ls : List (Option AV)} {st : List AV} {σ : Hp} {k : Nat × Nat} : xe_X11_isBoxNumber ct K R (n + 1) 1 ls st σ k = (xk_X11_isBoxNumber ct K R n 3 ls (vi (11) :: st) σ k) := exS_step.trans rfl
theorem ev_X11_isBoxNumber_3 {ct : Nat → Bool} {K : Kt} {R : Option AV → Hp → Prop} {n : Nat} {ls : List (Option AV)} {st : List AV} {σ : Hp} {k : Nat × Nat} : xe_X11_isBoxNumber ct K R (n + 1) 3 ls st σ k = (oI st fun y st => oI st fun x st => (wI x < wI y → xk_X11_isBoxNumber ct K R n 13 ls st σ k) ∧ (¬ (wI x < wI y) → xk_X11_isBoxNumber ct K R n 6 ls st σ k)) := exS_step.trans rfl
theorem ev_X11_isBoxNumber_6 {ct : Nat → Bool} {K : Kt} {R : Option AV → Hp → Prop} {n : Nat} {ls : List (Option AV)} {st : List AV} {σ : Hp} {k : Nat × Nat} : xe_X11_isBoxNumber ct K R (n + 1) 6 ls st σ k = (lI ls 0 fun x => xk_X11_isBoxNumber ct K R n 7 ls (vi x :: st) σ k) := exS_step.trans rfl
theorem ev_X11_isBoxNumber_7 {ct : Nat → Bool} {K : Kt} {R : Option AV → Hp → Prop} {n : Nat} {ls : List (Option AV)} {st : List AV} {σ : Hp} {k : Nat × Nat} : xe_X11_isBoxNumber ct K R (n + 1) 7 ls st σ k = (xk_X11_isBoxNumber ct K R n 10 ls (vi (555) :: st) σ k) := exS_step.trans rfl
theorem ev_X11_isBoxNumber_10 {ct : Nat → Bool} {K : Kt} {R : Option AV → Hp → Prop} {n : Nat} {ls : List (Option AV)} {st : List AV} {σ : Hp} {k : Nat × Nat} : xe_X11_isBoxNumber ct K R (n + 1) 10 ls st σ k = (oI st fun y st => oI st fun x st => (wI x ≤ wI y → xk_X11_isBoxNumber ct K R n 15 ls st σ k) ∧ (¬ (wI x ≤ wI y) → xk_X11_isBoxNumber ct K R n 13 ls st σ k)) := exS_step.trans rfl
theorem ev_X11_isBoxNumber_13 {ct : Nat → Bool} {K : Kt} {R : Option AV → Hp → Prop} {n : Nat} {ls : List (Option AV)} {st : List AV} {σ : Hp} {k : Nat × Nat} : xe_X11_isBoxNumber ct K R (n + 1) 13 ls st σ k = (xk_X11_isBoxNumber ct K R n 14 ls (vi (0) :: st) σ k) := exS_step.trans rfl
theorem ev_X11_isBoxNumber_14 {ct : Nat → Bool} {K : Kt} {R : Option AV → Hp → Prop} {n : Nat} {ls : List (Option AV)} {st : List AV} {σ : Hp} {k : Nat × Nat} : xe_X11_isBoxNumber ct K R (n + 1) 14 ls st σ k = (oI st fun x st => st = [] ∧ (x = 0 ∨ x = 1) ∧ R (some (vi x)) σ) := exS_step.trans rfl
theorem ev_X11_isBoxNumber_15 {ct : Nat → Bool} {K : Kt} {R : Option AV → Hp → Prop} {n : Nat} {ls : List (Option AV)} {st : List AV} {σ : Hp} {k : Nat × Nat} : xe_X11_isBoxNumber ct K R (n + 1) 15 ls st σ k = (lI ls 0 fun x => xk_X11_isBoxNumber ct K R n 16 ls (vi x :: st) σ k) := exS_step.trans rfl
theorem ev_X11_isBoxNumber_16 {ct : Nat → Bool} {K : Kt} {R : Option AV → Hp → Prop} {n : Nat} {ls : List (Option AV)} {st : List AV} {σ : Hp} {k : Nat × Nat} : xe_X11_isBoxNumber ct K R (n + 1) 16 ls st σ k = (xk_X11_isBoxNumber ct K R n 18 ls (vi (100) :: st) σ k) := exS_step.trans rfl
theorem ev_X11_isBoxNumber_18 {ct : Nat → Bool} {K : Kt} {R : Option AV → Hp → Prop} {n : Nat} {ls : List (Option AV)} {st : List AV} {σ : Hp} {k : Nat × Nat} : xe_X11_isBoxNumber ct K R (n + 1) 18 ls st σ k = (oI st fun y st => oI st fun x st => ¬ wI y = 0 ∧ xk_X11_isBoxNumber ct K R n 19 ls (vi (dvI x y) :: st) σ k) := exS_step.trans rfl
theorem ev_X11_isBoxNumber_19 {ct : Nat → Bool} {K : Kt} {R : Option AV → Hp → Prop} {n : Nat} {ls : List (Option AV)} {st : List AV} {σ : Hp} {k : Nat × Nat} : xe_X11_isBoxNumber ct K R (n + 1) 19 ls st σ k = (oI st fun x st => 1 < 2 ∧ xk_X11_isBoxNumber ct K R n 20 (stL ls 1 (vi x)) st σ k) := exS_step.trans rfl
theorem ev_X11_isBoxNumber_20 {ct : Nat → Bool} {K : Kt} {R : Option AV → Hp → Prop} {n : Nat} {ls : List (Option AV)} {st : List AV} {σ : Hp} {k : Nat × Nat} : xe_X11_isBoxNumber ct K R (n + 1) 20 ls st σ k = (lI ls 1 fun x => xk_X11_isBoxNumber ct K R n 21 ls (vi x :: st) σ k) := exS_step.trans rfl
theorem ev_X11_isBoxNumber_21 {ct : Nat → Bool} {K : Kt} {R : Option AV → Hp → Prop} {n : Nat} {ls : List (Option AV)} {st : List AV} {σ : Hp} {k : Nat × Nat} : xe_X11_isBoxNumber ct K R (n + 1) 21 ls st σ k = (xk_X11_isBoxNumber ct K R n 22 ls (vi (5) :: st) σ k) := exS_step.trans rfl
theorem ev_X11_isBoxNumber_22 {ct : Nat → Bool} {K : Kt} {R : Option AV → Hp → Prop} {n : Nat} {ls : List (Option AV)} {st : List AV} {σ : Hp} {k : Nat × Nat} : xe_X11_isBoxNumber ct K R (n + 1) 22 ls st σ k = (oI st fun y st => oI st fun x st => (wI y < wI x → xk_X11_isBoxNumber ct K R n 52 ls st σ k) ∧ (¬ (wI y < wI x) → xk_X11_isBoxNumber ct K R n 25 ls st σ k)) := exS_step.trans rfl
theorem ev_X11_isBoxNumber_25 {ct : Nat → Bool} {K : Kt} {R : Option AV → Hp → Prop} {n : Nat} {ls : List (Option AV)} {st : List AV} {σ : Hp} {k : Nat × Nat} : xe_X11_isBoxNumber ct K R (n + 1) 25 ls st σ k = (lI ls 0 fun x => xk_X11_isBoxNumber ct K R n 26 ls (vi x :: st) σ k) := exS_step.trans rfl
theorem ev_X11_isBoxNumber_26 {ct : Nat → Bool} {K : Kt} {R : Option AV → Hp → Prop} {n : Nat} {ls : List (Option AV)} {st : List AV} {σ : Hp} {k : Nat × Nat} : xe_X11_isBoxNumber ct K R (n + 1) 26 ls st σ k = (xk_X11_isBoxNumber ct K R n 28 ls (vi (10) :: st) σ k) := exS_step.trans rfl
theorem ev_X11_isBoxNumber_28 {ct : Nat → Bool} {K : Kt} {R : Option AV → Hp → Prop} {n : Nat} {ls : List (Option AV)} {st : List AV} {σ : Hp} {k : Nat × Nat} : xe_X11_isBoxNumber ct K R (n + 1) 28 ls st σ k = (oI st fun y st => oI st fun x st => ¬ wI y = 0 ∧ xk_X11_isBoxNumber ct K R n 29 ls (vi (dvI x y) :: st) σ k) := exS_step.trans rfl
theorem ev_X11_isBoxNumber_29 {ct : Nat → Bool} {K : Kt} {R : Option AV → Hp → Prop} {n : Nat} {ls : List (Option AV)} {st : List AV} {σ : Hp} {k : Nat × Nat} : xe_X11_isBoxNumber ct K R (n + 1) 29 ls st σ k = (xk_X11_isBoxNumber ct K R n 31 ls (vi (10) :: st) σ k) := exS_step.trans rfl
theorem ev_X11_isBoxNumber_31 {ct : Nat → Bool} {K : Kt} {R : Option AV → Hp → Prop} {n : Nat} {ls : List (Option AV)} {st : List AV} {σ : Hp} {k : Nat × Nat} : xe_X11_isBoxNumber ct K R (n + 1) 31 ls st σ k = (oI st fun y st => oI st fun x st => ¬ wI y = 0 ∧ xk_X11_isBoxNumber ct K R n 32 ls (vi (rmI x y) :: st) σ k) := exS_step.trans rfl
theorem ev_X11_isBoxNumber_32 {ct : Nat → Bool} {K : Kt} {R : Option AV → Hp → Prop} {n : Nat} {ls : List (Option AV)} {st : List AV} {σ : Hp} {k : Nat × Nat} : xe_X11_isBoxNumber ct K R (n + 1) 32 ls st σ k = (popN 1 st [] fun av rest => (catS rest ≤ 8 ∧ 1 < 2 ∧ k.1 + 0 ≤ 0 ∧ k.2 + 0 ≤ 0) ∧ (sp_X11_isDigit) av σ fun v σ' => xk_X11_isBoxNumber ct K R n 35 ls (v.toList ++ rest) σ' (k.1 + 0, k.2 + 0)) := exS_step.trans rfl
theorem ev_X11_isBoxNumber_35 {ct : Nat → Bool} {K : Kt} {R : Option AV → Hp → Prop} {n : Nat} {ls : List (Option AV)} {st : List AV} {σ : Hp} {k : Nat × Nat} : xe_X11_isBoxNumber ct K R (n + 1) 35 ls st σ k = (oI st fun x st => (wI x = wI 0 → xk_X11_isBoxNumber ct K R n 52 ls st σ k) ∧ (¬ (wI x = wI 0) → xk_X11_isBoxNumber ct K R n 38 ls st σ k)) := exS_step.trans rfl
theorem ev_X11_isBoxNumber_38 {ct : Nat → Bool} {K : Kt} {R : Option AV → Hp → Prop} {n : Nat} {ls : List (Option AV)} {st : List AV} {σ : Hp} {k : Nat × Nat} : xe_X11_isBoxNumber ct K R (n + 1) 38 ls st σ k = (lI ls 0 fun x => xk_X11_isBoxNumber ct K R n 39 ls (vi x :: st) σ k) := exS_step.trans rfl
theorem ev_X11_isBoxNumber_39 {ct : Nat → Bool} {K : Kt} {R : Option AV → Hp → Prop} {n : Nat} {ls : List (Option AV)} {st : List AV} {σ : Hp} {k : Nat × Nat} : xe_X11_isBoxNumber ct K R (n + 1) 39 ls st σ k = (xk_X11_isBoxNumber ct K R n 41 ls (vi (10) :: st) σ k) := exS_step.trans rfl
theorem ev_X11_isBoxNumber_41 {ct : Nat → Bool} {K : Kt} {R : Option AV → Hp → Prop} {n : Nat} {ls : List (Option AV)} {st : List AV} {σ : Hp} {k : Nat × Nat} : xe_X11_isBoxNumber ct K R (n + 1) 41 ls st σ k = (oI st fun y st => oI st fun x st => ¬ wI y = 0 ∧ xk_X11_isBoxNumber ct K R n 42 ls (vi (rmI x y) :: st) σ k) := exS_step.trans rfl
theorem ev_X11_isBoxNumber_42 {ct : Nat → Bool} {K : Kt} {R : Option AV → Hp → Prop} {n : Nat} {ls : List (Option AV)} {st : List AV} {σ : Hp} {k : Nat × Nat} : xe_X11_isBoxNumber ct K R (n + 1) 42 ls st σ k = (popN 1 st [] fun av rest => (catS rest ≤ 8 ∧ 1 < 2 ∧ k.1 + 0 ≤ 0 ∧ k.2 + 0 ≤ 0) ∧ (sp_X11_isDigit) av σ fun v σ' => xk_X11_isBoxNumber ct K R n 45 ls (v.toList ++ rest) σ' (k.1 + 0, k.2 + 0)) := exS_step.trans rfl
theorem ev_X11_isBoxNumber_45 {ct : Nat → Bool} {K : Kt} {R : Option AV → Hp → Prop} {n : Nat} {ls : List (Option AV)} {st : List AV} {σ : Hp} {k : Nat × Nat} : xe_X11_isBoxNumber ct K R (n + 1) 45 ls st σ k = (oI st fun x st => (wI x = wI 0 → xk_X11_isBoxNumber ct K R n 52 ls st σ k) ∧ (¬ (wI x = wI 0) → xk_X11_isBoxNumber ct K R n 48 ls st σ k)) := exS_step.trans rfl
theorem ev_X11_isBoxNumber_48 {ct : Nat → Bool} {K : Kt} {R : Option AV → Hp → Prop} {n : Nat} {ls : List (Option AV)} {st : List AV} {σ : Hp} {k : Nat × Nat} : xe_X11_isBoxNumber ct K R (n + 1) 48 ls st σ k = (xk_X11_isBoxNumber ct K R n 49 ls (vi (1) :: st) σ k) := exS_step.trans rfl
theorem ev_X11_isBoxNumber_49 {ct : Nat → Bool} {K : Kt} {R : Option AV → Hp → Prop} {n : Nat} {ls : List (Option AV)} {st : List AV} {σ : Hp} {k : Nat × Nat} : xe_X11_isBoxNumber ct K R (n + 1) 49 ls st σ k = (xk_X11_isBoxNumber ct K R n 53 ls st σ k) := exS_step.trans rfl
theorem ev_X11_isBoxNumber_52 {ct : Nat → Bool} {K : Kt} {R : Option AV → Hp → Prop} {n : Nat} {ls : List (Option AV)} {st : List AV} {σ : Hp} {k : Nat × Nat} : xe_X11_isBoxNumber ct K R (n + 1) 52 ls st σ k = (xk_X11_isBoxNumber ct K R n 53 ls (vi (0) :: st) σ k) := exS_step.trans rfl
theorem ev_X11_isBoxNumber_53 {ct : Nat → Bool} {K : Kt} {R : Option AV → Hp → Prop} {n : Nat} {ls : List (Option AV)} {st : List AV} {σ : Hp} {k : Nat × Nat} : xe_X11_isBoxNumber ct K R (n + 1) 53 ls st σ k = (oI st fun x st => st = [] ∧ (x = 0 ∨ x = 1) ∧ R (some (vi x)) σ) := exS_step.trans rfl
def M_X11_isBoxNumber : Md := (yX11_isBoxNumber, cX11_isBoxNumber, 2, (some FieldType.boolean), 2, 0, 0, 2, false, tb_X11_isBoxNumber, mt_X11_isBoxNumber)
theorem mm_X11_isBoxNumber : MMOK M_X11_isBoxNumber := ⟨by decide +kernel, tk_X11_isBoxNumber, mk_X11_isBoxNumber, rfl, fun h => by cases h⟩
theorem go_X11_isBoxNumber {Q : Option AV → Hp → Prop} {ct : Nat → Bool} {pc : Nat} {ls : List (Option AV)} {st : List AV} {σ : Hp} {k : Nat × Nat} (n : Nat) (h : xe_X11_isBoxNumber ct (Go M_X11_isBoxNumber Q) Q n pc ls st σ k) : Go M_X11_isBoxNumber Q pc ls st σ k := Go.exS mm_X11_isBoxNumber h

set_option maxRecDepth 20000 in
theorem c_X11_isBoxNumber : Ct yX11_isBoxNumber cX11_isBoxNumber 2 ((some FieldType.boolean)) 2 0 0 sp_X11_isBoxNumber := by
  refine Ct.go (M := M_X11_isBoxNumber) mm_X11_isBoxNumber fun av σ Q h0 => ?_
  obtain ⟨n, rfl, h⟩ := el_X11_isBoxNumber h0
  clear h0
  refine ⟨Nat.le_of_ble_eq_true rfl, ?_⟩
  show Go M_X11_isBoxNumber Q 0 [some (vi n), none] [] σ (0, 0)
  obtain ⟨hn, h⟩ := h
  unfold inR at hn
  by_cases r : 11 ≤ n ∧ n ≤ 555
  · have hi := okNum_is r
    by_cases c1 : 1 ≤ n / 10 % 10 ∧ n / 10 % 10 ≤ 5
    · by_cases c2 : 1 ≤ n % 10 ∧ n % 10 ≤ 5
      · rw [b2i_t (hi.mpr ⟨c1, c2⟩)] at h
        clear hi
        refine go_X11_isBoxNumber (ct := fun p => p == 13 || p == 52) 60 ?_
        simp only [oI, oL, oR, o1, lI, lL, lR, popN, catS, gv, stL, stL2, swt, cnd, spObj, List.getElem?_cons_zero, List.getElem?_cons_succ, List.getD_cons_zero, List.getD_cons_succ, List.set_cons_zero, List.set_cons_succ, List.nil_append, List.cons_append, Option.toList, Bool.or_false, Bool.false_or, Bool.or_true, Bool.true_or, Nat.reduceBEq, Nat.reduceAdd, Nat.reduceLT, Nat.reduceLeDiff, Int.reduceAdd, Int.reduceToNat, true_and, and_true, Fin.isValue, Fin.val_zero, Fin.val_one, Fin.val_two, Fin.reduceFinMk, eq_self, Int.reduceNeg, imp_self, Nat.reduceMul, Nat.le_refl, not_true_eq_false, not_false_eq_true, List.getElem?_nil, reduceCtorEq, true_or, or_true, Classical.not_not, implies_true, or_self, wI_0, wI_1, wI_m1, b2i_w, b2i_eq0, b2i_eq1, b2i_bool, nor_self, nx_pI, kd_pI, ln_pI, fI_pI, fL_pI, fR_pI, aI_pI, aL_pI, aR_pI, nx_pL, kd_pL, ln_pL, fI_pL, fL_pL, fR_pL, aI_pL, aL_pL, aR_pL, nx_pR, kd_pR, ln_pR, fI_pR, fL_pR, fR_pR, aI_pR, aL_pR, aR_pR, nx_qI, kd_qI, ln_qI, fI_qI, fL_qI, fR_qI, aI_qI, aL_qI, aR_qI, nx_qL, kd_qL, ln_qL, fI_qL, fL_qL, fR_qL, aI_qL, aL_qL, aR_qL, nx_qR, kd_qR, ln_qR, fI_qR, fL_qR, fR_qR, aI_qR, aL_qR, aR_qR, nx_mk, kd_mk, ln_mk, fI_mk, fL_mk, fR_mk, aI_mk, aL_mk, aR_mk, false_and, and_false, if_false, if_true, and_self, Int.reduceEq, Nat.reduceEqDiff, ite_self, MLay_pI, MLay_pL, MLay_qI, MLay_qL, ev_X11_isBoxNumber_0, ev_X11_isBoxNumber_1, ev_X11_isBoxNumber_3, ev_X11_isBoxNumber_6, ev_X11_isBoxNumber_7, ev_X11_isBoxNumber_10, ev_X11_isBoxNumber_13, ev_X11_isBoxNumber_14, ev_X11_isBoxNumber_15, ev_X11_isBoxNumber_16, ev_X11_isBoxNumber_18, ev_X11_isBoxNumber_19, ev_X11_isBoxNumber_20, ev_X11_isBoxNumber_21, ev_X11_isBoxNumber_22, ev_X11_isBoxNumber_25, ev_X11_isBoxNumber_26, ev_X11_isBoxNumber_28, ev_X11_isBoxNumber_29, ev_X11_isBoxNumber_31, ev_X11_isBoxNumber_32, ev_X11_isBoxNumber_35, ev_X11_isBoxNumber_38, ev_X11_isBoxNumber_39, ev_X11_isBoxNumber_41, ev_X11_isBoxNumber_42, ev_X11_isBoxNumber_45, ev_X11_isBoxNumber_48, ev_X11_isBoxNumber_49, ev_X11_isBoxNumber_52, ev_X11_isBoxNumber_53, xt_X11_isBoxNumber, xf_X11_isBoxNumber, us_X11_isDigit]
        try simp (disch := omega) only [wI_id, dv_nn, rm_nn]
        simp only [c1, c2]
        repeat' (first | intro z | apply And.intro)
        all_goals try omega
        all_goals try contradiction
        all_goals exact h
      · rw [b2i_f (fun z => c2 (hi.mp z).2)] at h
        clear hi
        refine go_X11_isBoxNumber (ct := fun p => p == 13 || p == 48) 60 ?_
        simp only [oI, oL, oR, o1, lI, lL, lR, popN, catS, gv, stL, stL2, swt, cnd, spObj, List.getElem?_cons_zero, List.getElem?_cons_succ, List.getD_cons_zero, List.getD_cons_succ, List.set_cons_zero, List.set_cons_succ, List.nil_append, List.cons_append, Option.toList, Bool.or_false, Bool.false_or, Bool.or_true, Bool.true_or, Nat.reduceBEq, Nat.reduceAdd, Nat.reduceLT, Nat.reduceLeDiff, Int.reduceAdd, Int.reduceToNat, true_and, and_true, Fin.isValue, Fin.val_zero, Fin.val_one, Fin.val_two, Fin.reduceFinMk, eq_self, Int.reduceNeg, imp_self, Nat.reduceMul, Nat.le_refl, not_true_eq_false, not_false_eq_true, List.getElem?_nil, reduceCtorEq, true_or, or_true, Classical.not_not, implies_true, or_self, wI_0, wI_1, wI_m1, b2i_w, b2i_eq0, b2i_eq1, b2i_bool, nor_self, nx_pI, kd_pI, ln_pI, fI_pI, fL_pI, fR_pI, aI_pI, aL_pI, aR_pI, nx_pL, kd_pL, ln_pL, fI_pL, fL_pL, fR_pL, aI_pL, aL_pL, aR_pL, nx_pR, kd_pR, ln_pR, fI_pR, fL_pR, fR_pR, aI_pR, aL_pR, aR_pR, nx_qI, kd_qI, ln_qI, fI_qI, fL_qI, fR_qI, aI_qI, aL_qI, aR_qI, nx_qL, kd_qL, ln_qL, fI_qL, fL_qL, fR_qL, aI_qL, aL_qL, aR_qL, nx_qR, kd_qR, ln_qR, fI_qR, fL_qR, fR_qR, aI_qR, aL_qR, aR_qR, nx_mk, kd_mk, ln_mk, fI_mk, fL_mk, fR_mk, aI_mk, aL_mk, aR_mk, false_and, and_false, if_false, if_true, and_self, Int.reduceEq, Nat.reduceEqDiff, ite_self, MLay_pI, MLay_pL, MLay_qI, MLay_qL, ev_X11_isBoxNumber_0, ev_X11_isBoxNumber_1, ev_X11_isBoxNumber_3, ev_X11_isBoxNumber_6, ev_X11_isBoxNumber_7, ev_X11_isBoxNumber_10, ev_X11_isBoxNumber_13, ev_X11_isBoxNumber_14, ev_X11_isBoxNumber_15, ev_X11_isBoxNumber_16, ev_X11_isBoxNumber_18, ev_X11_isBoxNumber_19, ev_X11_isBoxNumber_20, ev_X11_isBoxNumber_21, ev_X11_isBoxNumber_22, ev_X11_isBoxNumber_25, ev_X11_isBoxNumber_26, ev_X11_isBoxNumber_28, ev_X11_isBoxNumber_29, ev_X11_isBoxNumber_31, ev_X11_isBoxNumber_32, ev_X11_isBoxNumber_35, ev_X11_isBoxNumber_38, ev_X11_isBoxNumber_39, ev_X11_isBoxNumber_41, ev_X11_isBoxNumber_42, ev_X11_isBoxNumber_45, ev_X11_isBoxNumber_48, ev_X11_isBoxNumber_49, ev_X11_isBoxNumber_52, ev_X11_isBoxNumber_53, xt_X11_isBoxNumber, xf_X11_isBoxNumber, us_X11_isDigit]
        try simp (disch := omega) only [wI_id, dv_nn, rm_nn]
        simp only [c1, c2]
        repeat' (first | intro z | apply And.intro)
        all_goals try omega
        all_goals try contradiction
        all_goals exact h
    · rw [b2i_f (fun z => c1 (hi.mp z).1)] at h
      clear hi
      refine go_X11_isBoxNumber (ct := fun p => p == 13 || p == 48 || p == 38) 60 ?_
      simp only [oI, oL, oR, o1, lI, lL, lR, popN, catS, gv, stL, stL2, swt, cnd, spObj, List.getElem?_cons_zero, List.getElem?_cons_succ, List.getD_cons_zero, List.getD_cons_succ, List.set_cons_zero, List.set_cons_succ, List.nil_append, List.cons_append, Option.toList, Bool.or_false, Bool.false_or, Bool.or_true, Bool.true_or, Nat.reduceBEq, Nat.reduceAdd, Nat.reduceLT, Nat.reduceLeDiff, Int.reduceAdd, Int.reduceToNat, true_and, and_true, Fin.isValue, Fin.val_zero, Fin.val_one, Fin.val_two, Fin.reduceFinMk, eq_self, Int.reduceNeg, imp_self, Nat.reduceMul, Nat.le_refl, not_true_eq_false, not_false_eq_true, List.getElem?_nil, reduceCtorEq, true_or, or_true, Classical.not_not, implies_true, or_self, wI_0, wI_1, wI_m1, b2i_w, b2i_eq0, b2i_eq1, b2i_bool, nor_self, nx_pI, kd_pI, ln_pI, fI_pI, fL_pI, fR_pI, aI_pI, aL_pI, aR_pI, nx_pL, kd_pL, ln_pL, fI_pL, fL_pL, fR_pL, aI_pL, aL_pL, aR_pL, nx_pR, kd_pR, ln_pR, fI_pR, fL_pR, fR_pR, aI_pR, aL_pR, aR_pR, nx_qI, kd_qI, ln_qI, fI_qI, fL_qI, fR_qI, aI_qI, aL_qI, aR_qI, nx_qL, kd_qL, ln_qL, fI_qL, fL_qL, fR_qL, aI_qL, aL_qL, aR_qL, nx_qR, kd_qR, ln_qR, fI_qR, fL_qR, fR_qR, aI_qR, aL_qR, aR_qR, nx_mk, kd_mk, ln_mk, fI_mk, fL_mk, fR_mk, aI_mk, aL_mk, aR_mk, false_and, and_false, if_false, if_true, and_self, Int.reduceEq, Nat.reduceEqDiff, ite_self, MLay_pI, MLay_pL, MLay_qI, MLay_qL, ev_X11_isBoxNumber_0, ev_X11_isBoxNumber_1, ev_X11_isBoxNumber_3, ev_X11_isBoxNumber_6, ev_X11_isBoxNumber_7, ev_X11_isBoxNumber_10, ev_X11_isBoxNumber_13, ev_X11_isBoxNumber_14, ev_X11_isBoxNumber_15, ev_X11_isBoxNumber_16, ev_X11_isBoxNumber_18, ev_X11_isBoxNumber_19, ev_X11_isBoxNumber_20, ev_X11_isBoxNumber_21, ev_X11_isBoxNumber_22, ev_X11_isBoxNumber_25, ev_X11_isBoxNumber_26, ev_X11_isBoxNumber_28, ev_X11_isBoxNumber_29, ev_X11_isBoxNumber_31, ev_X11_isBoxNumber_32, ev_X11_isBoxNumber_35, ev_X11_isBoxNumber_38, ev_X11_isBoxNumber_39, ev_X11_isBoxNumber_41, ev_X11_isBoxNumber_42, ev_X11_isBoxNumber_45, ev_X11_isBoxNumber_48, ev_X11_isBoxNumber_49, ev_X11_isBoxNumber_52, ev_X11_isBoxNumber_53, xt_X11_isBoxNumber, xf_X11_isBoxNumber, us_X11_isDigit]
      try simp (disch := omega) only [wI_id, dv_nn, rm_nn]
      simp only [c1]
      repeat' (first | intro z | apply And.intro)
      all_goals try omega
      all_goals try contradiction
      all_goals exact h
  · rw [b2i_f (fun z => r (okNum_r z))] at h
    refine go_X11_isBoxNumber (ct := fun p => p == 15) 60 ?_
    simp only [oI, oL, oR, o1, lI, lL, lR, popN, catS, gv, stL, stL2, swt, cnd, spObj, List.getElem?_cons_zero, List.getElem?_cons_succ, List.getD_cons_zero, List.getD_cons_succ, List.set_cons_zero, List.set_cons_succ, List.nil_append, List.cons_append, Option.toList, Bool.or_false, Bool.false_or, Bool.or_true, Bool.true_or, Nat.reduceBEq, Nat.reduceAdd, Nat.reduceLT, Nat.reduceLeDiff, Int.reduceAdd, Int.reduceToNat, true_and, and_true, Fin.isValue, Fin.val_zero, Fin.val_one, Fin.val_two, Fin.reduceFinMk, eq_self, Int.reduceNeg, imp_self, Nat.reduceMul, Nat.le_refl, not_true_eq_false, not_false_eq_true, List.getElem?_nil, reduceCtorEq, true_or, or_true, Classical.not_not, implies_true, or_self, wI_0, wI_1, wI_m1, b2i_w, b2i_eq0, b2i_eq1, b2i_bool, nor_self, nx_pI, kd_pI, ln_pI, fI_pI, fL_pI, fR_pI, aI_pI, aL_pI, aR_pI, nx_pL, kd_pL, ln_pL, fI_pL, fL_pL, fR_pL, aI_pL, aL_pL, aR_pL, nx_pR, kd_pR, ln_pR, fI_pR, fL_pR, fR_pR, aI_pR, aL_pR, aR_pR, nx_qI, kd_qI, ln_qI, fI_qI, fL_qI, fR_qI, aI_qI, aL_qI, aR_qI, nx_qL, kd_qL, ln_qL, fI_qL, fL_qL, fR_qL, aI_qL, aL_qL, aR_qL, nx_qR, kd_qR, ln_qR, fI_qR, fL_qR, fR_qR, aI_qR, aL_qR, aR_qR, nx_mk, kd_mk, ln_mk, fI_mk, fL_mk, fR_mk, aI_mk, aL_mk, aR_mk, false_and, and_false, if_false, if_true, and_self, Int.reduceEq, Nat.reduceEqDiff, ite_self, MLay_pI, MLay_pL, MLay_qI, MLay_qL, ev_X11_isBoxNumber_0, ev_X11_isBoxNumber_1, ev_X11_isBoxNumber_3, ev_X11_isBoxNumber_6, ev_X11_isBoxNumber_7, ev_X11_isBoxNumber_10, ev_X11_isBoxNumber_13, ev_X11_isBoxNumber_14, ev_X11_isBoxNumber_15, ev_X11_isBoxNumber_16, ev_X11_isBoxNumber_18, ev_X11_isBoxNumber_19, ev_X11_isBoxNumber_20, ev_X11_isBoxNumber_21, ev_X11_isBoxNumber_22, ev_X11_isBoxNumber_25, ev_X11_isBoxNumber_26, ev_X11_isBoxNumber_28, ev_X11_isBoxNumber_29, ev_X11_isBoxNumber_31, ev_X11_isBoxNumber_32, ev_X11_isBoxNumber_35, ev_X11_isBoxNumber_38, ev_X11_isBoxNumber_39, ev_X11_isBoxNumber_41, ev_X11_isBoxNumber_42, ev_X11_isBoxNumber_45, ev_X11_isBoxNumber_48, ev_X11_isBoxNumber_49, ev_X11_isBoxNumber_52, ev_X11_isBoxNumber_53, xt_X11_isBoxNumber, xf_X11_isBoxNumber, us_X11_isDigit]
    try simp (disch := omega) only [wI_id, dv_nn, rm_nn]
    repeat' (first | intro z | apply And.intro)
    all_goals try omega
    all_goals try contradiction
    all_goals exact h

/-- the boxes as the class keeps them, with what all its calls ask -/
theorem BX.le {σ τ : Hp} (h : BX σ τ) : ∃ ci, LOk σ 3 ci := ⟨2, h.1⟩
theorem BX.k {σ τ : Hp} (h : BX σ τ) {i : Int} (a : 0 ≤ i) (b : i < fI τ 1302 61) : kd σ (lat σ 3 i) = 3 := h.1.2.2.2.2.2 i a (by rw [h.2.1]; exact b)
theorem BX.r {σ τ : Hp} (h : BX σ τ) (hI : MI τ) {i : Int} (a : 0 ≤ i) (b : i < fI τ 1302 61) : BxR σ (lat σ 3 i) := by
  have hk := h.k a b
  obtain ⟨-, h1, h2, h3, h4, h5, h6, h7, h8, h9, h10, h11, h12, -⟩ := h.2.2 i a b
  have r1 := hI.number_ i
  have r2 := hI.kind_ i
  have r4 := hI.loop_ i
  have r5 := hI.along_ i
  have r6 := hI.x_ i
  have r7 := hI.y_ i
  have r8 := hI.ward_ i
  have r9 := hI.knocks_ i
  have r10 := hI.lastOf_ i
  have r11 := hI.waits_ i
  have r12 := hI.began_ i
  have r13 := hI.boxes_s
  unfold BxR
  refine ⟨hk, ?_, ?_, ?_, ?_, ?_, ?_, ?_, ?_, ?_, ?_, ?_, ?_⟩ <;> omega

def sp_X11_hasBoxes : Sp := fun av σ Q => oR av fun this av => oI av fun w av => av = [] ∧ kd σ this = 12 ∧ (this = 1 ∧ CLay σ ∧ inR w ∧ ∃ τ, BX σ τ ∧ MI τ ∧ Q (some (vi (b2i (mHas τ w)))) σ)
theorem us_X11_hasBoxes (this : Int) (w : Int) (σ : Hp) (Q : Option AV → Hp → Prop) : sp_X11_hasBoxes [vr this, vi w] σ Q = (kd σ this = 12 ∧ (this = 1 ∧ CLay σ ∧ inR w ∧ ∃ τ, BX σ τ ∧ MI τ ∧ Q (some (vi (b2i (mHas τ w)))) σ)) := propext ⟨fun h => h.2, fun h => ⟨rfl, h⟩⟩
theorem el_X11_hasBoxes {av : List AV} {σ : Hp} {Q : Option AV → Hp → Prop} (h : sp_X11_hasBoxes av σ Q) : ∃ (this : Int) (w : Int), av = [vr this, vi w] ∧ (kd σ this = 12 ∧ (this = 1 ∧ CLay σ ∧ inR w ∧ ∃ τ, BX σ τ ∧ MI τ ∧ Q (some (vi (b2i (mHas τ w)))) σ)) := by
  obtain ⟨this, a0, rfl, h0⟩ := oR_s h
  obtain ⟨w, a1, rfl, h1⟩ := oI_s h0
  obtain ⟨rfl, hz⟩ := h1
  exact ⟨this, w, rfl, hz⟩
theorem rc_X11_hasBoxes : ∀ (av : List AV) (σ : Hp) (Q : Option AV → Hp → Prop), sp_X11_hasBoxes av σ Q → ∃ r tl, av = vr r :: tl ∧ kd σ r = 11 + 1 := fun av σ Q h => by
  obtain ⟨this, w, rfl, hz, -⟩ := el_X11_hasBoxes h
  exact ⟨this, _, rfl, hz⟩

def tb_X11_hasBoxes : Tab := [(0, .iconst 0, 1, (0, 0, 0, 0)), (1, .istore_n 2, 1, (0, 0, 0, 0)), (2, .iload_n 2, 1, (0, 0, 0, 0)), (3, .aload_n 0, 1, (0, 0, 0, 0)), (4, .getfield 33, 3, (12, 1203, 2, 0)), (7, .invokevirtual 83, 3, (0, 0, 0, 0)), (10, .if_icmp .ge 29, 3, (0, 0, 0, 0)), (13, .aload_n 0, 1, (0, 0, 0, 0)), (14, .getfield 33, 3, (12, 1203, 2, 0)), (17, .iload_n 2, 1, (0, 0, 0, 0)), (18, .invokevirtual 281, 3, (0, 0, 0, 0)), (21, .checkcast 103, 3, (3, 0, 0, 0)), (24, .getfield 285, 3, (3, 307, 0, 0)), (27, .iload_n 1, 1, (0, 0, 0, 0)), (28, .if_icmp .ne 5, 3, (0, 0, 0, 0)), (31, .iconst 1, 1, (0, 0, 0, 0)), (32, .ireturn, 1, (0, 0, 0, 0)), (33, .iinc 2 1, 3, (0, 0, 0, 0)), (36, .goto (-34), 3, (0, 0, 0, 0)), (39, .iconst 0, 1, (0, 0, 0, 0)), (40, .ireturn, 1, (0, 0, 0, 0))]
set_option maxRecDepth 100000 in
theorem tk_X11_hasBoxes : TOK RX11 false cX11_hasBoxes tb_X11_hasBoxes := chkT_ok ft_X11 (by decide +kernel)
def mt_X11_hasBoxes : List (Nat × Mt) := [(664, 1, 0, 0, 1, sp_Jx4a65c_size_8abf5), (2248, 2, 0, 0, 3, sp_Jx4a65c_get_915e3)]
theorem em_X11_hasBoxes : mt_X11_hasBoxes.lookup 664 = some (1, 0, 0, 1, sp_Jx4a65c_size_8abf5) ∧ mt_X11_hasBoxes.lookup 2248 = some (2, 0, 0, 3, sp_Jx4a65c_get_915e3) := ⟨rfl, rfl⟩
theorem mk_X11_hasBoxes : MOK RX11 mt_X11_hasBoxes := by
  intro q hq
  simp only [mt_X11_hasBoxes, List.mem_cons, List.not_mem_nil, or_false] at hq
  rcases hq with rfl | rfl
  · exact rw_X11_664
  · exact rw_X11_2248
noncomputable def xe_X11_hasBoxes (ct : Nat → Bool) (K : Kt) (R : Option AV → Hp → Prop) (n : Nat) : Kt := exS 3 4 0 0 2 tb_X11_hasBoxes mt_X11_hasBoxes ct K R n
noncomputable def xk_X11_hasBoxes (ct : Nat → Bool) (K : Kt) (R : Option AV → Hp → Prop) (n : Nat) : Kt := exkS 3 4 0 0 2 tb_X11_hasBoxes mt_X11_hasBoxes ct K R n
theorem xt_X11_hasBoxes {ct : Nat → Bool} {K : Kt} {R : Option AV → Hp → Prop} {n pc : Nat} {ls : List (Option AV)} {st : List AV} {σ : Hp} {k : Nat × Nat} (h : ct pc = true) : xk_X11_hasBoxes ct K R n pc ls st σ k = K pc ls st σ k := by unfold xk_X11_hasBoxes exkS; rw [h]
theorem xf_X11_hasBoxes {ct : Nat → Bool} {K : Kt} {R : Option AV → Hp → Prop} {n pc : Nat} {ls : List (Option AV)} {st : List AV} {σ : Hp} {k : Nat × Nat} (h : ct pc = false) : xk_X11_hasBoxes ct K R n pc ls st σ k = xe_X11_hasBoxes ct K R n pc ls st σ k := by unfold xk_X11_hasBoxes exkS xe_X11_hasBoxes; rw [h]
theorem ev_X11_hasBoxes_0 {ct : Nat → Bool} {K : Kt} {R : Option AV → Hp → Prop} {n : Nat} {ls : List (Option AV)} {st : List AV} {σ : Hp} {k : Nat × Nat} : xe_X11_hasBoxes ct K R (n + 1) 0 ls st σ k = (xk_X11_hasBoxes ct K R n 1 ls (vi (0) :: st) σ k) := exS_step.trans rfl
theorem ev_X11_hasBoxes_1 {ct : Nat → Bool} {K : Kt} {R : Option AV → Hp → Prop} {n : Nat} {ls : List (Option AV)} {st : List AV} {σ : Hp} {k : Nat × Nat} : xe_X11_hasBoxes ct K R (n + 1) 1 ls st σ k = (oI st fun x st => 2 < 3 ∧ xk_X11_hasBoxes ct K R n 2 (stL ls 2 (vi x)) st σ k) := exS_step.trans rfl
theorem ev_X11_hasBoxes_2 {ct : Nat → Bool} {K : Kt} {R : Option AV → Hp → Prop} {n : Nat} {ls : List (Option AV)} {st : List AV} {σ : Hp} {k : Nat × Nat} : xe_X11_hasBoxes ct K R (n + 1) 2 ls st σ k = (lI ls 2 fun x => xk_X11_hasBoxes ct K R n 3 ls (vi x :: st) σ k) := exS_step.trans rfl
theorem ev_X11_hasBoxes_3 {ct : Nat → Bool} {K : Kt} {R : Option AV → Hp → Prop} {n : Nat} {ls : List (Option AV)} {st : List AV} {σ : Hp} {k : Nat × Nat} : xe_X11_hasBoxes ct K R (n + 1) 3 ls st σ k = (lR ls 0 fun x => xk_X11_hasBoxes ct K R n 4 ls (vr x :: st) σ k) := exS_step.trans rfl
theorem ev_X11_hasBoxes_4 {ct : Nat → Bool} {K : Kt} {R : Option AV → Hp → Prop} {n : Nat} {ls : List (Option AV)} {st : List AV} {σ : Hp} {k : Nat × Nat} : xe_X11_hasBoxes ct K R (n + 1) 4 ls st σ k = (oR st fun x st => kd σ x = 12 ∧ xk_X11_hasBoxes ct K R n 7 ls (vr (fR σ 1203 x) :: st) σ k) := exS_step.trans rfl
theorem ev_X11_hasBoxes_7 {ct : Nat → Bool} {K : Kt} {R : Option AV → Hp → Prop} {n : Nat} {ls : List (Option AV)} {st : List AV} {σ : Hp} {k : Nat × Nat} : xe_X11_hasBoxes ct K R (n + 1) 7 ls st σ k = (popN 1 st [] fun av rest => (catS rest ≤ 8 ∧ 1 < 4 ∧ k.1 + 0 ≤ 0 ∧ k.2 + 0 ≤ 0) ∧ (sp_Jx4a65c_size_8abf5) av σ fun v σ' => xk_X11_hasBoxes ct K R n 10 ls (v.toList ++ rest) σ' (k.1 + 0, k.2 + 0)) := exS_step.trans rfl
theorem ev_X11_hasBoxes_10 {ct : Nat → Bool} {K : Kt} {R : Option AV → Hp → Prop} {n : Nat} {ls : List (Option AV)} {st : List AV} {σ : Hp} {k : Nat × Nat} : xe_X11_hasBoxes ct K R (n + 1) 10 ls st σ k = (oI st fun y st => oI st fun x st => (wI y ≤ wI x → xk_X11_hasBoxes ct K R n 39 ls st σ k) ∧ (¬ (wI y ≤ wI x) → xk_X11_hasBoxes ct K R n 13 ls st σ k)) := exS_step.trans rfl
theorem ev_X11_hasBoxes_13 {ct : Nat → Bool} {K : Kt} {R : Option AV → Hp → Prop} {n : Nat} {ls : List (Option AV)} {st : List AV} {σ : Hp} {k : Nat × Nat} : xe_X11_hasBoxes ct K R (n + 1) 13 ls st σ k = (lR ls 0 fun x => xk_X11_hasBoxes ct K R n 14 ls (vr x :: st) σ k) := exS_step.trans rfl
theorem ev_X11_hasBoxes_14 {ct : Nat → Bool} {K : Kt} {R : Option AV → Hp → Prop} {n : Nat} {ls : List (Option AV)} {st : List AV} {σ : Hp} {k : Nat × Nat} : xe_X11_hasBoxes ct K R (n + 1) 14 ls st σ k = (oR st fun x st => kd σ x = 12 ∧ xk_X11_hasBoxes ct K R n 17 ls (vr (fR σ 1203 x) :: st) σ k) := exS_step.trans rfl
theorem ev_X11_hasBoxes_17 {ct : Nat → Bool} {K : Kt} {R : Option AV → Hp → Prop} {n : Nat} {ls : List (Option AV)} {st : List AV} {σ : Hp} {k : Nat × Nat} : xe_X11_hasBoxes ct K R (n + 1) 17 ls st σ k = (lI ls 2 fun x => xk_X11_hasBoxes ct K R n 18 ls (vi x :: st) σ k) := exS_step.trans rfl
theorem ev_X11_hasBoxes_18 {ct : Nat → Bool} {K : Kt} {R : Option AV → Hp → Prop} {n : Nat} {ls : List (Option AV)} {st : List AV} {σ : Hp} {k : Nat × Nat} : xe_X11_hasBoxes ct K R (n + 1) 18 ls st σ k = (popN 2 st [] fun av rest => (catS rest ≤ 8 ∧ 3 < 4 ∧ k.1 + 0 ≤ 0 ∧ k.2 + 0 ≤ 0) ∧ (sp_Jx4a65c_get_915e3) av σ fun v σ' => xk_X11_hasBoxes ct K R n 21 ls (v.toList ++ rest) σ' (k.1 + 0, k.2 + 0)) := exS_step.trans rfl
theorem ev_X11_hasBoxes_21 {ct : Nat → Bool} {K : Kt} {R : Option AV → Hp → Prop} {n : Nat} {ls : List (Option AV)} {st : List AV} {σ : Hp} {k : Nat × Nat} : xe_X11_hasBoxes ct K R (n + 1) 21 ls st σ k = (oR st fun x st => kd σ x = 3 ∧ xk_X11_hasBoxes ct K R n 24 ls (vr x :: st) σ k) := exS_step.trans rfl
theorem ev_X11_hasBoxes_24 {ct : Nat → Bool} {K : Kt} {R : Option AV → Hp → Prop} {n : Nat} {ls : List (Option AV)} {st : List AV} {σ : Hp} {k : Nat × Nat} : xe_X11_hasBoxes ct K R (n + 1) 24 ls st σ k = (oR st fun x st => kd σ x = 3 ∧ xk_X11_hasBoxes ct K R n 27 ls (vi (fI σ 307 x) :: st) σ k) := exS_step.trans rfl
theorem ev_X11_hasBoxes_27 {ct : Nat → Bool} {K : Kt} {R : Option AV → Hp → Prop} {n : Nat} {ls : List (Option AV)} {st : List AV} {σ : Hp} {k : Nat × Nat} : xe_X11_hasBoxes ct K R (n + 1) 27 ls st σ k = (lI ls 1 fun x => xk_X11_hasBoxes ct K R n 28 ls (vi x :: st) σ k) := exS_step.trans rfl
theorem ev_X11_hasBoxes_28 {ct : Nat → Bool} {K : Kt} {R : Option AV → Hp → Prop} {n : Nat} {ls : List (Option AV)} {st : List AV} {σ : Hp} {k : Nat × Nat} : xe_X11_hasBoxes ct K R (n + 1) 28 ls st σ k = (oI st fun y st => oI st fun x st => (¬ wI x = wI y → xk_X11_hasBoxes ct K R n 33 ls st σ k) ∧ (¬ (¬ wI x = wI y) → xk_X11_hasBoxes ct K R n 31 ls st σ k)) := exS_step.trans rfl
theorem ev_X11_hasBoxes_31 {ct : Nat → Bool} {K : Kt} {R : Option AV → Hp → Prop} {n : Nat} {ls : List (Option AV)} {st : List AV} {σ : Hp} {k : Nat × Nat} : xe_X11_hasBoxes ct K R (n + 1) 31 ls st σ k = (xk_X11_hasBoxes ct K R n 32 ls (vi (1) :: st) σ k) := exS_step.trans rfl
theorem ev_X11_hasBoxes_32 {ct : Nat → Bool} {K : Kt} {R : Option AV → Hp → Prop} {n : Nat} {ls : List (Option AV)} {st : List AV} {σ : Hp} {k : Nat × Nat} : xe_X11_hasBoxes ct K R (n + 1) 32 ls st σ k = (oI st fun x st => st = [] ∧ (x = 0 ∨ x = 1) ∧ R (some (vi x)) σ) := exS_step.trans rfl
theorem ev_X11_hasBoxes_33 {ct : Nat → Bool} {K : Kt} {R : Option AV → Hp → Prop} {n : Nat} {ls : List (Option AV)} {st : List AV} {σ : Hp} {k : Nat × Nat} : xe_X11_hasBoxes ct K R (n + 1) 33 ls st σ k = (lI ls 2 fun x => 2 < 3 ∧ xk_X11_hasBoxes ct K R n 36 (stL ls 2 (vi (x + (1)))) st σ k) := exS_step.trans rfl
theorem ev_X11_hasBoxes_36 {ct : Nat → Bool} {K : Kt} {R : Option AV → Hp → Prop} {n : Nat} {ls : List (Option AV)} {st : List AV} {σ : Hp} {k : Nat × Nat} : xe_X11_hasBoxes ct K R (n + 1) 36 ls st σ k = (xk_X11_hasBoxes ct K R n 2 ls st σ k) := exS_step.trans rfl
theorem ev_X11_hasBoxes_39 {ct : Nat → Bool} {K : Kt} {R : Option AV → Hp → Prop} {n : Nat} {ls : List (Option AV)} {st : List AV} {σ : Hp} {k : Nat × Nat} : xe_X11_hasBoxes ct K R (n + 1) 39 ls st σ k = (xk_X11_hasBoxes ct K R n 40 ls (vi (0) :: st) σ k) := exS_step.trans rfl
theorem ev_X11_hasBoxes_40 {ct : Nat → Bool} {K : Kt} {R : Option AV → Hp → Prop} {n : Nat} {ls : List (Option AV)} {st : List AV} {σ : Hp} {k : Nat × Nat} : xe_X11_hasBoxes ct K R (n + 1) 40 ls st σ k = (oI st fun x st => st = [] ∧ (x = 0 ∨ x = 1) ∧ R (some (vi x)) σ) := exS_step.trans rfl
def M_X11_hasBoxes : Md := (yX11_hasBoxes, cX11_hasBoxes, 3, (some FieldType.boolean), 4, 0, 0, 2, false, tb_X11_hasBoxes, mt_X11_hasBoxes)
theorem mm_X11_hasBoxes : MMOK M_X11_hasBoxes := ⟨by decide +kernel, tk_X11_hasBoxes, mk_X11_hasBoxes, rfl, fun h => by cases h⟩
theorem go_X11_hasBoxes {Q : Option AV → Hp → Prop} {ct : Nat → Bool} {pc : Nat} {ls : List (Option AV)} {st : List AV} {σ : Hp} {k : Nat × Nat} (n : Nat) (h : xe_X11_hasBoxes ct (Go M_X11_hasBoxes Q) Q n pc ls st σ k) : Go M_X11_hasBoxes Q pc ls st σ k := Go.exS mm_X11_hasBoxes h

set_option maxRecDepth 20000 in
theorem c_X11_hasBoxes : Ct yX11_hasBoxes cX11_hasBoxes 3 ((some FieldType.boolean)) 4 0 0 sp_X11_hasBoxes := by
  refine Ct.go (M := M_X11_hasBoxes) mm_X11_hasBoxes fun av σ Q h0 => ?_
  obtain ⟨this, w, rfl, hk, h⟩ := el_X11_hasBoxes h0
  clear h0
  refine ⟨Nat.le_of_ble_eq_true rfl, ?_⟩
  show Go M_X11_hasBoxes Q 0 [some (vr this), some (vi w), none] [] σ (0, 0)
  obtain ⟨rfl, hC, hw, τ, hB, hI, h⟩ := h
  unfold inR at hw
  have hsz := hB.2.1
  have hLe := hB.le
  have hn := hI.boxes_s
  have loop : ∀ (m : Nat) (i : Int), 0 ≤ i → i + m = fI τ 1302 61 → (∀ j, 0 ≤ j → j < i → ¬ aI τ 67 j = w) → Go M_X11_hasBoxes Q 2 [some (vr 1), some (vi w), some (vi i)] [] σ (0, 0) := by
    intro m
    induction m with
    | zero =>
      intro i h0 h1 hno
      rw [b2i_f (fun ⟨j, a, b, c⟩ => hno j a (by omega) c)] at h
      clear hno hB
      refine go_X11_hasBoxes (ct := fun p => p == 13) 40 ?_
      simp only [oI, oL, oR, o1, lI, lL, lR, popN, catS, gv, stL, stL2, swt, cnd, spObj, List.getElem?_cons_zero, List.getElem?_cons_succ, List.getD_cons_zero, List.getD_cons_succ, List.set_cons_zero, List.set_cons_succ, List.nil_append, List.cons_append, Option.toList, Bool.or_false, Bool.false_or, Bool.or_true, Bool.true_or, Nat.reduceBEq, Nat.reduceAdd, Nat.reduceLT, Nat.reduceLeDiff, Int.reduceAdd, Int.reduceToNat, true_and, and_true, Fin.isValue, Fin.val_zero, Fin.val_one, Fin.val_two, Fin.reduceFinMk, eq_self, Int.reduceNeg, imp_self, Nat.reduceMul, Nat.le_refl, not_true_eq_false, not_false_eq_true, List.getElem?_nil, reduceCtorEq, true_or, or_true, Classical.not_not, implies_true, or_self, wI_0, wI_1, wI_m1, b2i_w, b2i_eq0, b2i_eq1, b2i_bool, nor_self, nx_pI, kd_pI, ln_pI, fI_pI, fL_pI, fR_pI, aI_pI, aL_pI, aR_pI, nx_pL, kd_pL, ln_pL, fI_pL, fL_pL, fR_pL, aI_pL, aL_pL, aR_pL, nx_pR, kd_pR, ln_pR, fI_pR, fL_pR, fR_pR, aI_pR, aL_pR, aR_pR, nx_qI, kd_qI, ln_qI, fI_qI, fL_qI, fR_qI, aI_qI, aL_qI, aR_qI, nx_qL, kd_qL, ln_qL, fI_qL, fL_qL, fR_qL, aI_qL, aL_qL, aR_qL, nx_qR, kd_qR, ln_qR, fI_qR, fL_qR, fR_qR, aI_qR, aL_qR, aR_qR, nx_mk, kd_mk, ln_mk, fI_mk, fL_mk, fR_mk, aI_mk, aL_mk, aR_mk, false_and, and_false, if_false, if_true, and_self, Int.reduceEq, Nat.reduceEqDiff, ite_self, MLay_pI, MLay_pL, MLay_qI, MLay_qL, ev_X11_hasBoxes_0, ev_X11_hasBoxes_1, ev_X11_hasBoxes_2, ev_X11_hasBoxes_3, ev_X11_hasBoxes_4, ev_X11_hasBoxes_7, ev_X11_hasBoxes_10, ev_X11_hasBoxes_13, ev_X11_hasBoxes_14, ev_X11_hasBoxes_17, ev_X11_hasBoxes_18, ev_X11_hasBoxes_21, ev_X11_hasBoxes_24, ev_X11_hasBoxes_27, ev_X11_hasBoxes_28, ev_X11_hasBoxes_31, ev_X11_hasBoxes_32, ev_X11_hasBoxes_33, ev_X11_hasBoxes_36, ev_X11_hasBoxes_39, ev_X11_hasBoxes_40, xt_X11_hasBoxes, xf_X11_hasBoxes, us_Jx4a65c_size_8abf5, us_Jx4a65c_get_915e3, hC.eqs, hsz]
      try simp (disch := omega) only [wI_id, dv_nn, rm_nn]
      repeat' (first | intro z | apply And.intro)
      all_goals try omega
      all_goals try contradiction
      all_goals exact h
    | succ m ih =>
      intro i h0 h1 hno
      have hbk := hB.k h0 (by omega)
      have hwd : fI σ 307 (lat σ 3 i) = aI τ 67 i := (hB.2.2 i h0 (by omega)).2.2.2.2.2.2.2.2.1
      have hwr := hI.ward_ i
      by_cases c : aI τ 67 i = w
      · rw [b2i_t ⟨i, h0, by omega, c⟩] at h
        clear ih hno hB
        refine go_X11_hasBoxes (ct := fun p => p == 39 || p == 33) 40 ?_
        simp only [oI, oL, oR, o1, lI, lL, lR, popN, catS, gv, stL, stL2, swt, cnd, spObj, List.getElem?_cons_zero, List.getElem?_cons_succ, List.getD_cons_zero, List.getD_cons_succ, List.set_cons_zero, List.set_cons_succ, List.nil_append, List.cons_append, Option.toList, Bool.or_false, Bool.false_or, Bool.or_true, Bool.true_or, Nat.reduceBEq, Nat.reduceAdd, Nat.reduceLT, Nat.reduceLeDiff, Int.reduceAdd, Int.reduceToNat, true_and, and_true, Fin.isValue, Fin.val_zero, Fin.val_one, Fin.val_two, Fin.reduceFinMk, eq_self, Int.reduceNeg, imp_self, Nat.reduceMul, Nat.le_refl, not_true_eq_false, not_false_eq_true, List.getElem?_nil, reduceCtorEq, true_or, or_true, Classical.not_not, implies_true, or_self, wI_0, wI_1, wI_m1, b2i_w, b2i_eq0, b2i_eq1, b2i_bool, nor_self, nx_pI, kd_pI, ln_pI, fI_pI, fL_pI, fR_pI, aI_pI, aL_pI, aR_pI, nx_pL, kd_pL, ln_pL, fI_pL, fL_pL, fR_pL, aI_pL, aL_pL, aR_pL, nx_pR, kd_pR, ln_pR, fI_pR, fL_pR, fR_pR, aI_pR, aL_pR, aR_pR, nx_qI, kd_qI, ln_qI, fI_qI, fL_qI, fR_qI, aI_qI, aL_qI, aR_qI, nx_qL, kd_qL, ln_qL, fI_qL, fL_qL, fR_qL, aI_qL, aL_qL, aR_qL, nx_qR, kd_qR, ln_qR, fI_qR, fL_qR, fR_qR, aI_qR, aL_qR, aR_qR, nx_mk, kd_mk, ln_mk, fI_mk, fL_mk, fR_mk, aI_mk, aL_mk, aR_mk, false_and, and_false, if_false, if_true, and_self, Int.reduceEq, Nat.reduceEqDiff, ite_self, MLay_pI, MLay_pL, MLay_qI, MLay_qL, ev_X11_hasBoxes_0, ev_X11_hasBoxes_1, ev_X11_hasBoxes_2, ev_X11_hasBoxes_3, ev_X11_hasBoxes_4, ev_X11_hasBoxes_7, ev_X11_hasBoxes_10, ev_X11_hasBoxes_13, ev_X11_hasBoxes_14, ev_X11_hasBoxes_17, ev_X11_hasBoxes_18, ev_X11_hasBoxes_21, ev_X11_hasBoxes_24, ev_X11_hasBoxes_27, ev_X11_hasBoxes_28, ev_X11_hasBoxes_31, ev_X11_hasBoxes_32, ev_X11_hasBoxes_33, ev_X11_hasBoxes_36, ev_X11_hasBoxes_39, ev_X11_hasBoxes_40, xt_X11_hasBoxes, xf_X11_hasBoxes, us_Jx4a65c_size_8abf5, us_Jx4a65c_get_915e3, hC.eqs, hsz, hLe, hbk, hwd]
        try simp (disch := omega) only [wI_id, dv_nn, rm_nn]
        repeat' (first | intro z | apply And.intro)
        all_goals try omega
        all_goals try contradiction
        all_goals exact h
      · have w := ih (i + 1) (by omega) (by omega) (fun j a b => by
          by_cases e : j = i
          · rw [e]; exact c
          · exact hno j a (by omega))
        clear ih hno hB h
        refine go_X11_hasBoxes (ct := fun p => p == 39 || p == 31 || p == 2) 40 ?_
        simp only [oI, oL, oR, o1, lI, lL, lR, popN, catS, gv, stL, stL2, swt, cnd, spObj, List.getElem?_cons_zero, List.getElem?_cons_succ, List.getD_cons_zero, List.getD_cons_succ, List.set_cons_zero, List.set_cons_succ, List.nil_append, List.cons_append, Option.toList, Bool.or_false, Bool.false_or, Bool.or_true, Bool.true_or, Nat.reduceBEq, Nat.reduceAdd, Nat.reduceLT, Nat.reduceLeDiff, Int.reduceAdd, Int.reduceToNat, true_and, and_true, Fin.isValue, Fin.val_zero, Fin.val_one, Fin.val_two, Fin.reduceFinMk, eq_self, Int.reduceNeg, imp_self, Nat.reduceMul, Nat.le_refl, not_true_eq_false, not_false_eq_true, List.getElem?_nil, reduceCtorEq, true_or, or_true, Classical.not_not, implies_true, or_self, wI_0, wI_1, wI_m1, b2i_w, b2i_eq0, b2i_eq1, b2i_bool, nor_self, nx_pI, kd_pI, ln_pI, fI_pI, fL_pI, fR_pI, aI_pI, aL_pI, aR_pI, nx_pL, kd_pL, ln_pL, fI_pL, fL_pL, fR_pL, aI_pL, aL_pL, aR_pL, nx_pR, kd_pR, ln_pR, fI_pR, fL_pR, fR_pR, aI_pR, aL_pR, aR_pR, nx_qI, kd_qI, ln_qI, fI_qI, fL_qI, fR_qI, aI_qI, aL_qI, aR_qI, nx_qL, kd_qL, ln_qL, fI_qL, fL_qL, fR_qL, aI_qL, aL_qL, aR_qL, nx_qR, kd_qR, ln_qR, fI_qR, fL_qR, fR_qR, aI_qR, aL_qR, aR_qR, nx_mk, kd_mk, ln_mk, fI_mk, fL_mk, fR_mk, aI_mk, aL_mk, aR_mk, false_and, and_false, if_false, if_true, and_self, Int.reduceEq, Nat.reduceEqDiff, ite_self, MLay_pI, MLay_pL, MLay_qI, MLay_qL, ev_X11_hasBoxes_0, ev_X11_hasBoxes_1, ev_X11_hasBoxes_2, ev_X11_hasBoxes_3, ev_X11_hasBoxes_4, ev_X11_hasBoxes_7, ev_X11_hasBoxes_10, ev_X11_hasBoxes_13, ev_X11_hasBoxes_14, ev_X11_hasBoxes_17, ev_X11_hasBoxes_18, ev_X11_hasBoxes_21, ev_X11_hasBoxes_24, ev_X11_hasBoxes_27, ev_X11_hasBoxes_28, ev_X11_hasBoxes_31, ev_X11_hasBoxes_32, ev_X11_hasBoxes_33, ev_X11_hasBoxes_36, ev_X11_hasBoxes_39, ev_X11_hasBoxes_40, xt_X11_hasBoxes, xf_X11_hasBoxes, us_Jx4a65c_size_8abf5, us_Jx4a65c_get_915e3, hC.eqs, hsz, hLe, hbk, hwd]
        try simp (disch := omega) only [wI_id, dv_nn, rm_nn]
        repeat' (first | intro z | apply And.intro)
        all_goals try omega
        all_goals try contradiction
        all_goals exact w
  have w := loop (fI τ 1302 61).toNat 0 (Int.le_refl 0) (by omega) (fun j a b => by omega)
  refine go_X11_hasBoxes (ct := fun p => p == 2) 20 ?_
  simp only [oI, oL, oR, o1, lI, lL, lR, popN, catS, gv, stL, stL2, swt, cnd, spObj, List.getElem?_cons_zero, List.getElem?_cons_succ, List.getD_cons_zero, List.getD_cons_succ, List.set_cons_zero, List.set_cons_succ, List.nil_append, List.cons_append, Option.toList, Bool.or_false, Bool.false_or, Bool.or_true, Bool.true_or, Nat.reduceBEq, Nat.reduceAdd, Nat.reduceLT, Nat.reduceLeDiff, Int.reduceAdd, Int.reduceToNat, true_and, and_true, Fin.isValue, Fin.val_zero, Fin.val_one, Fin.val_two, Fin.reduceFinMk, eq_self, Int.reduceNeg, imp_self, Nat.reduceMul, Nat.le_refl, not_true_eq_false, not_false_eq_true, List.getElem?_nil, reduceCtorEq, true_or, or_true, Classical.not_not, implies_true, or_self, wI_0, wI_1, wI_m1, b2i_w, b2i_eq0, b2i_eq1, b2i_bool, nor_self, nx_pI, kd_pI, ln_pI, fI_pI, fL_pI, fR_pI, aI_pI, aL_pI, aR_pI, nx_pL, kd_pL, ln_pL, fI_pL, fL_pL, fR_pL, aI_pL, aL_pL, aR_pL, nx_pR, kd_pR, ln_pR, fI_pR, fL_pR, fR_pR, aI_pR, aL_pR, aR_pR, nx_qI, kd_qI, ln_qI, fI_qI, fL_qI, fR_qI, aI_qI, aL_qI, aR_qI, nx_qL, kd_qL, ln_qL, fI_qL, fL_qL, fR_qL, aI_qL, aL_qL, aR_qL, nx_qR, kd_qR, ln_qR, fI_qR, fL_qR, fR_qR, aI_qR, aL_qR, aR_qR, nx_mk, kd_mk, ln_mk, fI_mk, fL_mk, fR_mk, aI_mk, aL_mk, aR_mk, false_and, and_false, if_false, if_true, and_self, Int.reduceEq, Nat.reduceEqDiff, ite_self, MLay_pI, MLay_pL, MLay_qI, MLay_qL, ev_X11_hasBoxes_0, ev_X11_hasBoxes_1, xt_X11_hasBoxes, xf_X11_hasBoxes, us_Jx4a65c_size_8abf5, us_Jx4a65c_get_915e3]
  exact w

/-- a box's state -/
noncomputable def cSta (σ : Hp) (p t : Int) : Int := if ¬ fI σ 312 p = 0 then 1 else 2 * b2i (cGo σ p t)

def sp_X11_countBoxes : Sp := fun av σ Q => oR av fun this av => oI av fun s av => av = [] ∧ kd σ this = 12 ∧ (this = 1 ∧ CLay σ ∧ (0 ≤ s ∧ s ≤ 3) ∧ (0 ≤ fI σ 1210 1 ∧ fI σ 1210 1 ≤ 999999) ∧ ∃ τ, BX σ τ ∧ MI τ ∧ Q (some (vi (hwM (fun i => cSta σ (lat σ 3 i) (fI σ 1210 1) = s) (fI τ 1302 61).toNat))) σ)
theorem us_X11_countBoxes (this : Int) (s : Int) (σ : Hp) (Q : Option AV → Hp → Prop) : sp_X11_countBoxes [vr this, vi s] σ Q = (kd σ this = 12 ∧ (this = 1 ∧ CLay σ ∧ (0 ≤ s ∧ s ≤ 3) ∧ (0 ≤ fI σ 1210 1 ∧ fI σ 1210 1 ≤ 999999) ∧ ∃ τ, BX σ τ ∧ MI τ ∧ Q (some (vi (hwM (fun i => cSta σ (lat σ 3 i) (fI σ 1210 1) = s) (fI τ 1302 61).toNat))) σ)) := propext ⟨fun h => h.2, fun h => ⟨rfl, h⟩⟩
theorem el_X11_countBoxes {av : List AV} {σ : Hp} {Q : Option AV → Hp → Prop} (h : sp_X11_countBoxes av σ Q) : ∃ (this : Int) (s : Int), av = [vr this, vi s] ∧ (kd σ this = 12 ∧ (this = 1 ∧ CLay σ ∧ (0 ≤ s ∧ s ≤ 3) ∧ (0 ≤ fI σ 1210 1 ∧ fI σ 1210 1 ≤ 999999) ∧ ∃ τ, BX σ τ ∧ MI τ ∧ Q (some (vi (hwM (fun i => cSta σ (lat σ 3 i) (fI σ 1210 1) = s) (fI τ 1302 61).toNat))) σ)) := by
  obtain ⟨this, a0, rfl, h0⟩ := oR_s h
  obtain ⟨s, a1, rfl, h1⟩ := oI_s h0
  obtain ⟨rfl, hz⟩ := h1
  exact ⟨this, s, rfl, hz⟩
theorem rc_X11_countBoxes : ∀ (av : List AV) (σ : Hp) (Q : Option AV → Hp → Prop), sp_X11_countBoxes av σ Q → ∃ r tl, av = vr r :: tl ∧ kd σ r = 11 + 1 := fun av σ Q h => by
  obtain ⟨this, s, rfl, hz, -⟩ := el_X11_countBoxes h
  exact ⟨this, _, rfl, hz⟩

def tb_X11_countBoxes : Tab := [(0, .iconst 0, 1, (0, 0, 0, 0)), (1, .istore_n 2, 1, (0, 0, 0, 0)), (2, .iconst 0, 1, (0, 0, 0, 0)), (3, .istore_n 3, 1, (0, 0, 0, 0)), (4, .iload_n 3, 1, (0, 0, 0, 0)), (5, .aload_n 0, 1, (0, 0, 0, 0)), (6, .getfield 33, 3, (12, 1203, 2, 0)), (9, .invokevirtual 83, 3, (0, 0, 0, 0)), (12, .if_icmp .ge 34, 3, (0, 0, 0, 0)), (15, .aload_n 0, 1, (0, 0, 0, 0)), (16, .getfield 33, 3, (12, 1203, 2, 0)), (19, .iload_n 3, 1, (0, 0, 0, 0)), (20, .invokevirtual 281, 3, (0, 0, 0, 0)), (23, .checkcast 103, 3, (3, 0, 0, 0)), (26, .aload_n 0, 1, (0, 0, 0, 0)), (27, .getfield 69, 3, (12, 1210, 0, 0)), (30, .invokevirtual 297, 3, (0, 0, 0, 0)), (33, .iload_n 1, 1, (0, 0, 0, 0)), (34, .if_icmp .ne 6, 3, (0, 0, 0, 0)), (37, .iinc 2 1, 3, (0, 0, 0, 0)), (40, .iinc 3 1, 3, (0, 0, 0, 0)), (43, .goto (-39), 3, (0, 0, 0, 0)), (46, .iload_n 2, 1, (0, 0, 0, 0)), (47, .ireturn, 1, (0, 0, 0, 0))]
set_option maxRecDepth 100000 in
theorem tk_X11_countBoxes : TOK RX11 false cX11_countBoxes tb_X11_countBoxes := chkT_ok ft_X11 (by decide +kernel)
theorem rw_X11_2376 : Row RX11 (.invokevirtual 297) 3 2 0 0 2 sp_X2_stateAt := row_V (n := 1) (ci := 2) c_X2_stateAt ⟨TBL_in 1406 (by decide +kernel) rfl, TBL_in 1409 (by decide +kernel) rfl, TBL_in 126 (by decide +kernel) rfl, by decide +kernel, by decide⟩ (by decide) rfl (TBL_in 1407 (by decide +kernel) rfl) (TBL_in 1408 (by decide +kernel) rfl) rc_X2_stateAt
def mt_X11_countBoxes : List (Nat × Mt) := [(664, 1, 0, 0, 1, sp_Jx4a65c_size_8abf5), (2248, 2, 0, 0, 3, sp_Jx4a65c_get_915e3), (2376, 2, 0, 0, 2, sp_X2_stateAt)]
theorem em_X11_countBoxes : mt_X11_countBoxes.lookup 664 = some (1, 0, 0, 1, sp_Jx4a65c_size_8abf5) ∧ mt_X11_countBoxes.lookup 2248 = some (2, 0, 0, 3, sp_Jx4a65c_get_915e3) ∧ mt_X11_countBoxes.lookup 2376 = some (2, 0, 0, 2, sp_X2_stateAt) := ⟨rfl, rfl, rfl⟩
theorem mk_X11_countBoxes : MOK RX11 mt_X11_countBoxes := by
  intro q hq
  simp only [mt_X11_countBoxes, List.mem_cons, List.not_mem_nil, or_false] at hq
  rcases hq with rfl | rfl | rfl
  · exact rw_X11_664
  · exact rw_X11_2248
  · exact rw_X11_2376
noncomputable def xe_X11_countBoxes (ct : Nat → Bool) (K : Kt) (R : Option AV → Hp → Prop) (n : Nat) : Kt := exS 4 4 0 0 1 tb_X11_countBoxes mt_X11_countBoxes ct K R n
noncomputable def xk_X11_countBoxes (ct : Nat → Bool) (K : Kt) (R : Option AV → Hp → Prop) (n : Nat) : Kt := exkS 4 4 0 0 1 tb_X11_countBoxes mt_X11_countBoxes ct K R n
theorem xt_X11_countBoxes {ct : Nat → Bool} {K : Kt} {R : Option AV → Hp → Prop} {n pc : Nat} {ls : List (Option AV)} {st : List AV} {σ : Hp} {k : Nat × Nat} (h : ct pc = true) : xk_X11_countBoxes ct K R n pc ls st σ k = K pc ls st σ k := by unfold xk_X11_countBoxes exkS; rw [h]
theorem xf_X11_countBoxes {ct : Nat → Bool} {K : Kt} {R : Option AV → Hp → Prop} {n pc : Nat} {ls : List (Option AV)} {st : List AV} {σ : Hp} {k : Nat × Nat} (h : ct pc = false) : xk_X11_countBoxes ct K R n pc ls st σ k = xe_X11_countBoxes ct K R n pc ls st σ k := by unfold xk_X11_countBoxes exkS xe_X11_countBoxes; rw [h]
theorem ev_X11_countBoxes_0 {ct : Nat → Bool} {K : Kt} {R : Option AV → Hp → Prop} {n : Nat} {ls : List (Option AV)} {st : List AV} {σ : Hp} {k : Nat × Nat} : xe_X11_countBoxes ct K R (n + 1) 0 ls st σ k = (xk_X11_countBoxes ct K R n 1 ls (vi (0) :: st) σ k) := exS_step.trans rfl
theorem ev_X11_countBoxes_1 {ct : Nat → Bool} {K : Kt} {R : Option AV → Hp → Prop} {n : Nat} {ls : List (Option AV)} {st : List AV} {σ : Hp} {k : Nat × Nat} : xe_X11_countBoxes ct K R (n + 1) 1 ls st σ k = (oI st fun x st => 2 < 4 ∧ xk_X11_countBoxes ct K R n 2 (stL ls 2 (vi x)) st σ k) := exS_step.trans rfl
theorem ev_X11_countBoxes_2 {ct : Nat → Bool} {K : Kt} {R : Option AV → Hp → Prop} {n : Nat} {ls : List (Option AV)} {st : List AV} {σ : Hp} {k : Nat × Nat} : xe_X11_countBoxes ct K R (n + 1) 2 ls st σ k = (xk_X11_countBoxes ct K R n 3 ls (vi (0) :: st) σ k) := exS_step.trans rfl
theorem ev_X11_countBoxes_3 {ct : Nat → Bool} {K : Kt} {R : Option AV → Hp → Prop} {n : Nat} {ls : List (Option AV)} {st : List AV} {σ : Hp} {k : Nat × Nat} : xe_X11_countBoxes ct K R (n + 1) 3 ls st σ k = (oI st fun x st => 3 < 4 ∧ xk_X11_countBoxes ct K R n 4 (stL ls 3 (vi x)) st σ k) := exS_step.trans rfl
theorem ev_X11_countBoxes_4 {ct : Nat → Bool} {K : Kt} {R : Option AV → Hp → Prop} {n : Nat} {ls : List (Option AV)} {st : List AV} {σ : Hp} {k : Nat × Nat} : xe_X11_countBoxes ct K R (n + 1) 4 ls st σ k = (lI ls 3 fun x => xk_X11_countBoxes ct K R n 5 ls (vi x :: st) σ k) := exS_step.trans rfl
theorem ev_X11_countBoxes_5 {ct : Nat → Bool} {K : Kt} {R : Option AV → Hp → Prop} {n : Nat} {ls : List (Option AV)} {st : List AV} {σ : Hp} {k : Nat × Nat} : xe_X11_countBoxes ct K R (n + 1) 5 ls st σ k = (lR ls 0 fun x => xk_X11_countBoxes ct K R n 6 ls (vr x :: st) σ k) := exS_step.trans rfl
theorem ev_X11_countBoxes_6 {ct : Nat → Bool} {K : Kt} {R : Option AV → Hp → Prop} {n : Nat} {ls : List (Option AV)} {st : List AV} {σ : Hp} {k : Nat × Nat} : xe_X11_countBoxes ct K R (n + 1) 6 ls st σ k = (oR st fun x st => kd σ x = 12 ∧ xk_X11_countBoxes ct K R n 9 ls (vr (fR σ 1203 x) :: st) σ k) := exS_step.trans rfl
theorem ev_X11_countBoxes_9 {ct : Nat → Bool} {K : Kt} {R : Option AV → Hp → Prop} {n : Nat} {ls : List (Option AV)} {st : List AV} {σ : Hp} {k : Nat × Nat} : xe_X11_countBoxes ct K R (n + 1) 9 ls st σ k = (popN 1 st [] fun av rest => (catS rest ≤ 8 ∧ 1 < 4 ∧ k.1 + 0 ≤ 0 ∧ k.2 + 0 ≤ 0) ∧ (sp_Jx4a65c_size_8abf5) av σ fun v σ' => xk_X11_countBoxes ct K R n 12 ls (v.toList ++ rest) σ' (k.1 + 0, k.2 + 0)) := exS_step.trans rfl
theorem ev_X11_countBoxes_12 {ct : Nat → Bool} {K : Kt} {R : Option AV → Hp → Prop} {n : Nat} {ls : List (Option AV)} {st : List AV} {σ : Hp} {k : Nat × Nat} : xe_X11_countBoxes ct K R (n + 1) 12 ls st σ k = (oI st fun y st => oI st fun x st => (wI y ≤ wI x → xk_X11_countBoxes ct K R n 46 ls st σ k) ∧ (¬ (wI y ≤ wI x) → xk_X11_countBoxes ct K R n 15 ls st σ k)) := exS_step.trans rfl
theorem ev_X11_countBoxes_15 {ct : Nat → Bool} {K : Kt} {R : Option AV → Hp → Prop} {n : Nat} {ls : List (Option AV)} {st : List AV} {σ : Hp} {k : Nat × Nat} : xe_X11_countBoxes ct K R (n + 1) 15 ls st σ k = (lR ls 0 fun x => xk_X11_countBoxes ct K R n 16 ls (vr x :: st) σ k) := exS_step.trans rfl
theorem ev_X11_countBoxes_16 {ct : Nat → Bool} {K : Kt} {R : Option AV → Hp → Prop} {n : Nat} {ls : List (Option AV)} {st : List AV} {σ : Hp} {k : Nat × Nat} : xe_X11_countBoxes ct K R (n + 1) 16 ls st σ k = (oR st fun x st => kd σ x = 12 ∧ xk_X11_countBoxes ct K R n 19 ls (vr (fR σ 1203 x) :: st) σ k) := exS_step.trans rfl
theorem ev_X11_countBoxes_19 {ct : Nat → Bool} {K : Kt} {R : Option AV → Hp → Prop} {n : Nat} {ls : List (Option AV)} {st : List AV} {σ : Hp} {k : Nat × Nat} : xe_X11_countBoxes ct K R (n + 1) 19 ls st σ k = (lI ls 3 fun x => xk_X11_countBoxes ct K R n 20 ls (vi x :: st) σ k) := exS_step.trans rfl
theorem ev_X11_countBoxes_20 {ct : Nat → Bool} {K : Kt} {R : Option AV → Hp → Prop} {n : Nat} {ls : List (Option AV)} {st : List AV} {σ : Hp} {k : Nat × Nat} : xe_X11_countBoxes ct K R (n + 1) 20 ls st σ k = (popN 2 st [] fun av rest => (catS rest ≤ 8 ∧ 3 < 4 ∧ k.1 + 0 ≤ 0 ∧ k.2 + 0 ≤ 0) ∧ (sp_Jx4a65c_get_915e3) av σ fun v σ' => xk_X11_countBoxes ct K R n 23 ls (v.toList ++ rest) σ' (k.1 + 0, k.2 + 0)) := exS_step.trans rfl
theorem ev_X11_countBoxes_23 {ct : Nat → Bool} {K : Kt} {R : Option AV → Hp → Prop} {n : Nat} {ls : List (Option AV)} {st : List AV} {σ : Hp} {k : Nat × Nat} : xe_X11_countBoxes ct K R (n + 1) 23 ls st σ k = (oR st fun x st => kd σ x = 3 ∧ xk_X11_countBoxes ct K R n 26 ls (vr x :: st) σ k) := exS_step.trans rfl
theorem ev_X11_countBoxes_26 {ct : Nat → Bool} {K : Kt} {R : Option AV → Hp → Prop} {n : Nat} {ls : List (Option AV)} {st : List AV} {σ : Hp} {k : Nat × Nat} : xe_X11_countBoxes ct K R (n + 1) 26 ls st σ k = (lR ls 0 fun x => xk_X11_countBoxes ct K R n 27 ls (vr x :: st) σ k) := exS_step.trans rfl
theorem ev_X11_countBoxes_27 {ct : Nat → Bool} {K : Kt} {R : Option AV → Hp → Prop} {n : Nat} {ls : List (Option AV)} {st : List AV} {σ : Hp} {k : Nat × Nat} : xe_X11_countBoxes ct K R (n + 1) 27 ls st σ k = (oR st fun x st => kd σ x = 12 ∧ xk_X11_countBoxes ct K R n 30 ls (vi (fI σ 1210 x) :: st) σ k) := exS_step.trans rfl
theorem ev_X11_countBoxes_30 {ct : Nat → Bool} {K : Kt} {R : Option AV → Hp → Prop} {n : Nat} {ls : List (Option AV)} {st : List AV} {σ : Hp} {k : Nat × Nat} : xe_X11_countBoxes ct K R (n + 1) 30 ls st σ k = (popN 2 st [] fun av rest => (catS rest ≤ 8 ∧ 2 < 4 ∧ k.1 + 0 ≤ 0 ∧ k.2 + 0 ≤ 0) ∧ (sp_X2_stateAt) av σ fun v σ' => xk_X11_countBoxes ct K R n 33 ls (v.toList ++ rest) σ' (k.1 + 0, k.2 + 0)) := exS_step.trans rfl
theorem ev_X11_countBoxes_33 {ct : Nat → Bool} {K : Kt} {R : Option AV → Hp → Prop} {n : Nat} {ls : List (Option AV)} {st : List AV} {σ : Hp} {k : Nat × Nat} : xe_X11_countBoxes ct K R (n + 1) 33 ls st σ k = (lI ls 1 fun x => xk_X11_countBoxes ct K R n 34 ls (vi x :: st) σ k) := exS_step.trans rfl
theorem ev_X11_countBoxes_34 {ct : Nat → Bool} {K : Kt} {R : Option AV → Hp → Prop} {n : Nat} {ls : List (Option AV)} {st : List AV} {σ : Hp} {k : Nat × Nat} : xe_X11_countBoxes ct K R (n + 1) 34 ls st σ k = (oI st fun y st => oI st fun x st => (¬ wI x = wI y → xk_X11_countBoxes ct K R n 40 ls st σ k) ∧ (¬ (¬ wI x = wI y) → xk_X11_countBoxes ct K R n 37 ls st σ k)) := exS_step.trans rfl
theorem ev_X11_countBoxes_37 {ct : Nat → Bool} {K : Kt} {R : Option AV → Hp → Prop} {n : Nat} {ls : List (Option AV)} {st : List AV} {σ : Hp} {k : Nat × Nat} : xe_X11_countBoxes ct K R (n + 1) 37 ls st σ k = (lI ls 2 fun x => 2 < 4 ∧ xk_X11_countBoxes ct K R n 40 (stL ls 2 (vi (x + (1)))) st σ k) := exS_step.trans rfl
theorem ev_X11_countBoxes_40 {ct : Nat → Bool} {K : Kt} {R : Option AV → Hp → Prop} {n : Nat} {ls : List (Option AV)} {st : List AV} {σ : Hp} {k : Nat × Nat} : xe_X11_countBoxes ct K R (n + 1) 40 ls st σ k = (lI ls 3 fun x => 3 < 4 ∧ xk_X11_countBoxes ct K R n 43 (stL ls 3 (vi (x + (1)))) st σ k) := exS_step.trans rfl
theorem ev_X11_countBoxes_43 {ct : Nat → Bool} {K : Kt} {R : Option AV → Hp → Prop} {n : Nat} {ls : List (Option AV)} {st : List AV} {σ : Hp} {k : Nat × Nat} : xe_X11_countBoxes ct K R (n + 1) 43 ls st σ k = (xk_X11_countBoxes ct K R n 4 ls st σ k) := exS_step.trans rfl
theorem ev_X11_countBoxes_46 {ct : Nat → Bool} {K : Kt} {R : Option AV → Hp → Prop} {n : Nat} {ls : List (Option AV)} {st : List AV} {σ : Hp} {k : Nat × Nat} : xe_X11_countBoxes ct K R (n + 1) 46 ls st σ k = (lI ls 2 fun x => xk_X11_countBoxes ct K R n 47 ls (vi x :: st) σ k) := exS_step.trans rfl
theorem ev_X11_countBoxes_47 {ct : Nat → Bool} {K : Kt} {R : Option AV → Hp → Prop} {n : Nat} {ls : List (Option AV)} {st : List AV} {σ : Hp} {k : Nat × Nat} : xe_X11_countBoxes ct K R (n + 1) 47 ls st σ k = (oI st fun x st => st = [] ∧ True ∧ R (some (vi x)) σ) := exS_step.trans rfl
def M_X11_countBoxes : Md := (yX11_countBoxes, cX11_countBoxes, 4, (some FieldType.int), 4, 0, 0, 1, false, tb_X11_countBoxes, mt_X11_countBoxes)
theorem mm_X11_countBoxes : MMOK M_X11_countBoxes := ⟨by decide +kernel, tk_X11_countBoxes, mk_X11_countBoxes, rfl, fun h => by cases h⟩
theorem go_X11_countBoxes {Q : Option AV → Hp → Prop} {ct : Nat → Bool} {pc : Nat} {ls : List (Option AV)} {st : List AV} {σ : Hp} {k : Nat × Nat} (n : Nat) (h : xe_X11_countBoxes ct (Go M_X11_countBoxes Q) Q n pc ls st σ k) : Go M_X11_countBoxes Q pc ls st σ k := Go.exS mm_X11_countBoxes h

set_option maxRecDepth 20000 in
theorem c_X11_countBoxes : Ct yX11_countBoxes cX11_countBoxes 4 ((some FieldType.int)) 4 0 0 sp_X11_countBoxes := by
  refine Ct.go (M := M_X11_countBoxes) mm_X11_countBoxes fun av σ Q h0 => ?_
  obtain ⟨this, s, rfl, hk, h⟩ := el_X11_countBoxes h0
  clear h0
  refine ⟨Nat.le_of_ble_eq_true rfl, ?_⟩
  show Go M_X11_countBoxes Q 0 [some (vr this), some (vi s), none, none] [] σ (0, 0)
  obtain ⟨rfl, hC, hs, hn9, τ, hB, hI, h⟩ := h
  have hsz := hB.2.1
  have hLe := hB.le
  have hn := hI.boxes_s
  have loop : ∀ (m k : Nat), (k : Int) + m = fI τ 1302 61 → Go M_X11_countBoxes Q 4 [some (vr 1), some (vi s), some (vi (hwM (fun i => cSta σ (lat σ 3 i) (fI σ 1210 1) = s) k)), some (vi k)] [] σ (0, 0) := by
    intro m
    induction m with
    | zero =>
      intro k hk2
      have e : (fI τ 1302 61).toNat = k := by omega
      rw [e] at h
      clear hB
      refine go_X11_countBoxes (ct := fun p => p == 15) 40 ?_
      simp only [oI, oL, oR, o1, lI, lL, lR, popN, catS, gv, stL, stL2, swt, cnd, spObj, List.getElem?_cons_zero, List.getElem?_cons_succ, List.getD_cons_zero, List.getD_cons_succ, List.set_cons_zero, List.set_cons_succ, List.nil_append, List.cons_append, Option.toList, Bool.or_false, Bool.false_or, Bool.or_true, Bool.true_or, Nat.reduceBEq, Nat.reduceAdd, Nat.reduceLT, Nat.reduceLeDiff, Int.reduceAdd, Int.reduceToNat, true_and, and_true, Fin.isValue, Fin.val_zero, Fin.val_one, Fin.val_two, Fin.reduceFinMk, eq_self, Int.reduceNeg, imp_self, Nat.reduceMul, Nat.le_refl, not_true_eq_false, not_false_eq_true, List.getElem?_nil, reduceCtorEq, true_or, or_true, Classical.not_not, implies_true, or_self, wI_0, wI_1, wI_m1, b2i_w, b2i_eq0, b2i_eq1, b2i_bool, nor_self, nx_pI, kd_pI, ln_pI, fI_pI, fL_pI, fR_pI, aI_pI, aL_pI, aR_pI, nx_pL, kd_pL, ln_pL, fI_pL, fL_pL, fR_pL, aI_pL, aL_pL, aR_pL, nx_pR, kd_pR, ln_pR, fI_pR, fL_pR, fR_pR, aI_pR, aL_pR, aR_pR, nx_qI, kd_qI, ln_qI, fI_qI, fL_qI, fR_qI, aI_qI, aL_qI, aR_qI, nx_qL, kd_qL, ln_qL, fI_qL, fL_qL, fR_qL, aI_qL, aL_qL, aR_qL, nx_qR, kd_qR, ln_qR, fI_qR, fL_qR, fR_qR, aI_qR, aL_qR, aR_qR, nx_mk, kd_mk, ln_mk, fI_mk, fL_mk, fR_mk, aI_mk, aL_mk, aR_mk, false_and, and_false, if_false, if_true, and_self, Int.reduceEq, Nat.reduceEqDiff, ite_self, MLay_pI, MLay_pL, MLay_qI, MLay_qL, ev_X11_countBoxes_0, ev_X11_countBoxes_1, ev_X11_countBoxes_2, ev_X11_countBoxes_3, ev_X11_countBoxes_4, ev_X11_countBoxes_5, ev_X11_countBoxes_6, ev_X11_countBoxes_9, ev_X11_countBoxes_12, ev_X11_countBoxes_15, ev_X11_countBoxes_16, ev_X11_countBoxes_19, ev_X11_countBoxes_20, ev_X11_countBoxes_23, ev_X11_countBoxes_26, ev_X11_countBoxes_27, ev_X11_countBoxes_30, ev_X11_countBoxes_33, ev_X11_countBoxes_34, ev_X11_countBoxes_37, ev_X11_countBoxes_40, ev_X11_countBoxes_43, ev_X11_countBoxes_46, ev_X11_countBoxes_47, xt_X11_countBoxes, xf_X11_countBoxes, us_Jx4a65c_size_8abf5, us_Jx4a65c_get_915e3, us_X2_stateAt, hC.eqs, hsz]
      try simp (disch := omega) only [wI_id, dv_nn, rm_nn]
      repeat' (first | intro z | apply And.intro)
      all_goals try omega
      all_goals try contradiction
      all_goals exact h
    | succ m ih =>
      intro k hk2
      have w := ih (k + 1) (by omega)
      have hbk := hB.k (i := k) (by omega) (by omega)
      have hbt := (hB.r hI (i := k) (by omega) (by omega)).t
      have e : (if ¬ fI σ 312 (lat σ 3 k) = 0 then 1 else 2 * b2i (cGo σ (lat σ 3 k) (fI σ 1210 1))) = cSta σ (lat σ 3 k) (fI σ 1210 1) := rfl
      have hr : 0 ≤ cSta σ (lat σ 3 k) (fI σ 1210 1) ∧ cSta σ (lat σ 3 k) (fI σ 1210 1) ≤ 2 := by
        unfold cSta
        split
        · omega
        · by_cases z : cGo σ (lat σ 3 k) (fI σ 1210 1)
          · rw [b2i_t z]; omega
          · rw [b2i_f z]; omega
      have w40 : ∀ x, Go M_X11_countBoxes Q 4 [some (vr 1), some (vi s), some (vi x), some (vi (k + 1))] [] σ (0, 0) → Go M_X11_countBoxes Q 40 [some (vr 1), some (vi s), some (vi x), some (vi k)] [] σ (0, 0) := fun x hx => by
        clear hB h ih w
        refine go_X11_countBoxes (ct := fun p => p == 4) 20 ?_
        simp only [oI, oL, oR, o1, lI, lL, lR, popN, catS, gv, stL, stL2, swt, cnd, spObj, List.getElem?_cons_zero, List.getElem?_cons_succ, List.getD_cons_zero, List.getD_cons_succ, List.set_cons_zero, List.set_cons_succ, List.nil_append, List.cons_append, Option.toList, Bool.or_false, Bool.false_or, Bool.or_true, Bool.true_or, Nat.reduceBEq, Nat.reduceAdd, Nat.reduceLT, Nat.reduceLeDiff, Int.reduceAdd, Int.reduceToNat, true_and, and_true, Fin.isValue, Fin.val_zero, Fin.val_one, Fin.val_two, Fin.reduceFinMk, eq_self, Int.reduceNeg, imp_self, Nat.reduceMul, Nat.le_refl, not_true_eq_false, not_false_eq_true, List.getElem?_nil, reduceCtorEq, true_or, or_true, Classical.not_not, implies_true, or_self, wI_0, wI_1, wI_m1, b2i_w, b2i_eq0, b2i_eq1, b2i_bool, nor_self, nx_pI, kd_pI, ln_pI, fI_pI, fL_pI, fR_pI, aI_pI, aL_pI, aR_pI, nx_pL, kd_pL, ln_pL, fI_pL, fL_pL, fR_pL, aI_pL, aL_pL, aR_pL, nx_pR, kd_pR, ln_pR, fI_pR, fL_pR, fR_pR, aI_pR, aL_pR, aR_pR, nx_qI, kd_qI, ln_qI, fI_qI, fL_qI, fR_qI, aI_qI, aL_qI, aR_qI, nx_qL, kd_qL, ln_qL, fI_qL, fL_qL, fR_qL, aI_qL, aL_qL, aR_qL, nx_qR, kd_qR, ln_qR, fI_qR, fL_qR, fR_qR, aI_qR, aL_qR, aR_qR, nx_mk, kd_mk, ln_mk, fI_mk, fL_mk, fR_mk, aI_mk, aL_mk, aR_mk, false_and, and_false, if_false, if_true, and_self, Int.reduceEq, Nat.reduceEqDiff, ite_self, MLay_pI, MLay_pL, MLay_qI, MLay_qL, ev_X11_countBoxes_40, ev_X11_countBoxes_43, xt_X11_countBoxes, xf_X11_countBoxes, us_Jx4a65c_size_8abf5, us_Jx4a65c_get_915e3, us_X2_stateAt]
        exact hx
      have w34 : Go M_X11_countBoxes Q 34 [some (vr 1), some (vi s), some (vi (hwM (fun i => cSta σ (lat σ 3 i) (fI σ 1210 1) = s) k)), some (vi k)] [vi s, vi (cSta σ (lat σ 3 k) (fI σ 1210 1))] σ (0, 0) := by
        clear h ih hB e
        by_cases c : cSta σ (lat σ 3 k) (fI σ 1210 1) = s
        · rw [hwM_t c] at w
          have w40 := w40 _ w
          generalize hwM (fun i => cSta σ (lat σ 3 i) (fI σ 1210 1) = s) k = x at *
          refine go_X11_countBoxes (ct := fun p => p == 40) 20 ?_
          simp only [oI, oL, oR, o1, lI, lL, lR, popN, catS, gv, stL, stL2, swt, cnd, spObj, List.getElem?_cons_zero, List.getElem?_cons_succ, List.getD_cons_zero, List.getD_cons_succ, List.set_cons_zero, List.set_cons_succ, List.nil_append, List.cons_append, Option.toList, Bool.or_false, Bool.false_or, Bool.or_true, Bool.true_or, Nat.reduceBEq, Nat.reduceAdd, Nat.reduceLT, Nat.reduceLeDiff, Int.reduceAdd, Int.reduceToNat, true_and, and_true, Fin.isValue, Fin.val_zero, Fin.val_one, Fin.val_two, Fin.reduceFinMk, eq_self, Int.reduceNeg, imp_self, Nat.reduceMul, Nat.le_refl, not_true_eq_false, not_false_eq_true, List.getElem?_nil, reduceCtorEq, true_or, or_true, Classical.not_not, implies_true, or_self, wI_0, wI_1, wI_m1, b2i_w, b2i_eq0, b2i_eq1, b2i_bool, nor_self, nx_pI, kd_pI, ln_pI, fI_pI, fL_pI, fR_pI, aI_pI, aL_pI, aR_pI, nx_pL, kd_pL, ln_pL, fI_pL, fL_pL, fR_pL, aI_pL, aL_pL, aR_pL, nx_pR, kd_pR, ln_pR, fI_pR, fL_pR, fR_pR, aI_pR, aL_pR, aR_pR, nx_qI, kd_qI, ln_qI, fI_qI, fL_qI, fR_qI, aI_qI, aL_qI, aR_qI, nx_qL, kd_qL, ln_qL, fI_qL, fL_qL, fR_qL, aI_qL, aL_qL, aR_qL, nx_qR, kd_qR, ln_qR, fI_qR, fL_qR, fR_qR, aI_qR, aL_qR, aR_qR, nx_mk, kd_mk, ln_mk, fI_mk, fL_mk, fR_mk, aI_mk, aL_mk, aR_mk, false_and, and_false, if_false, if_true, and_self, Int.reduceEq, Nat.reduceEqDiff, ite_self, MLay_pI, MLay_pL, MLay_qI, MLay_qL, ev_X11_countBoxes_34, ev_X11_countBoxes_37, xt_X11_countBoxes, xf_X11_countBoxes, us_Jx4a65c_size_8abf5, us_Jx4a65c_get_915e3, us_X2_stateAt]
          try simp (disch := omega) only [wI_id, dv_nn, rm_nn]
          repeat' (first | intro z | apply And.intro)
          all_goals try omega
          all_goals try contradiction
          all_goals exact w40
        · rw [hwM_f c] at w
          have w40 := w40 _ w
          generalize hwM (fun i => cSta σ (lat σ 3 i) (fI σ 1210 1) = s) k = x at *
          refine go_X11_countBoxes (ct := fun p => p == 40 || p == 37) 20 ?_
          simp only [oI, oL, oR, o1, lI, lL, lR, popN, catS, gv, stL, stL2, swt, cnd, spObj, List.getElem?_cons_zero, List.getElem?_cons_succ, List.getD_cons_zero, List.getD_cons_succ, List.set_cons_zero, List.set_cons_succ, List.nil_append, List.cons_append, Option.toList, Bool.or_false, Bool.false_or, Bool.or_true, Bool.true_or, Nat.reduceBEq, Nat.reduceAdd, Nat.reduceLT, Nat.reduceLeDiff, Int.reduceAdd, Int.reduceToNat, true_and, and_true, Fin.isValue, Fin.val_zero, Fin.val_one, Fin.val_two, Fin.reduceFinMk, eq_self, Int.reduceNeg, imp_self, Nat.reduceMul, Nat.le_refl, not_true_eq_false, not_false_eq_true, List.getElem?_nil, reduceCtorEq, true_or, or_true, Classical.not_not, implies_true, or_self, wI_0, wI_1, wI_m1, b2i_w, b2i_eq0, b2i_eq1, b2i_bool, nor_self, nx_pI, kd_pI, ln_pI, fI_pI, fL_pI, fR_pI, aI_pI, aL_pI, aR_pI, nx_pL, kd_pL, ln_pL, fI_pL, fL_pL, fR_pL, aI_pL, aL_pL, aR_pL, nx_pR, kd_pR, ln_pR, fI_pR, fL_pR, fR_pR, aI_pR, aL_pR, aR_pR, nx_qI, kd_qI, ln_qI, fI_qI, fL_qI, fR_qI, aI_qI, aL_qI, aR_qI, nx_qL, kd_qL, ln_qL, fI_qL, fL_qL, fR_qL, aI_qL, aL_qL, aR_qL, nx_qR, kd_qR, ln_qR, fI_qR, fL_qR, fR_qR, aI_qR, aL_qR, aR_qR, nx_mk, kd_mk, ln_mk, fI_mk, fL_mk, fR_mk, aI_mk, aL_mk, aR_mk, false_and, and_false, if_false, if_true, and_self, Int.reduceEq, Nat.reduceEqDiff, ite_self, MLay_pI, MLay_pL, MLay_qI, MLay_qL, ev_X11_countBoxes_34, ev_X11_countBoxes_37, xt_X11_countBoxes, xf_X11_countBoxes, us_Jx4a65c_size_8abf5, us_Jx4a65c_get_915e3, us_X2_stateAt]
          try simp (disch := omega) only [wI_id, dv_nn, rm_nn]
          repeat' (first | intro z | apply And.intro)
          all_goals try omega
          all_goals try contradiction
          all_goals exact w40
      clear w w40 ih h hB hr
      refine go_X11_countBoxes (ct := fun p => p == 46 || p == 34) 60 ?_
      simp only [oI, oL, oR, o1, lI, lL, lR, popN, catS, gv, stL, stL2, swt, cnd, spObj, List.getElem?_cons_zero, List.getElem?_cons_succ, List.getD_cons_zero, List.getD_cons_succ, List.set_cons_zero, List.set_cons_succ, List.nil_append, List.cons_append, Option.toList, Bool.or_false, Bool.false_or, Bool.or_true, Bool.true_or, Nat.reduceBEq, Nat.reduceAdd, Nat.reduceLT, Nat.reduceLeDiff, Int.reduceAdd, Int.reduceToNat, true_and, and_true, Fin.isValue, Fin.val_zero, Fin.val_one, Fin.val_two, Fin.reduceFinMk, eq_self, Int.reduceNeg, imp_self, Nat.reduceMul, Nat.le_refl, not_true_eq_false, not_false_eq_true, List.getElem?_nil, reduceCtorEq, true_or, or_true, Classical.not_not, implies_true, or_self, wI_0, wI_1, wI_m1, b2i_w, b2i_eq0, b2i_eq1, b2i_bool, nor_self, nx_pI, kd_pI, ln_pI, fI_pI, fL_pI, fR_pI, aI_pI, aL_pI, aR_pI, nx_pL, kd_pL, ln_pL, fI_pL, fL_pL, fR_pL, aI_pL, aL_pL, aR_pL, nx_pR, kd_pR, ln_pR, fI_pR, fL_pR, fR_pR, aI_pR, aL_pR, aR_pR, nx_qI, kd_qI, ln_qI, fI_qI, fL_qI, fR_qI, aI_qI, aL_qI, aR_qI, nx_qL, kd_qL, ln_qL, fI_qL, fL_qL, fR_qL, aI_qL, aL_qL, aR_qL, nx_qR, kd_qR, ln_qR, fI_qR, fL_qR, fR_qR, aI_qR, aL_qR, aR_qR, nx_mk, kd_mk, ln_mk, fI_mk, fL_mk, fR_mk, aI_mk, aL_mk, aR_mk, false_and, and_false, if_false, if_true, and_self, Int.reduceEq, Nat.reduceEqDiff, ite_self, MLay_pI, MLay_pL, MLay_qI, MLay_qL, ev_X11_countBoxes_4, ev_X11_countBoxes_5, ev_X11_countBoxes_6, ev_X11_countBoxes_9, ev_X11_countBoxes_12, ev_X11_countBoxes_15, ev_X11_countBoxes_16, ev_X11_countBoxes_19, ev_X11_countBoxes_20, ev_X11_countBoxes_23, ev_X11_countBoxes_26, ev_X11_countBoxes_27, ev_X11_countBoxes_30, ev_X11_countBoxes_33, xt_X11_countBoxes, xf_X11_countBoxes, us_Jx4a65c_size_8abf5, us_Jx4a65c_get_915e3, us_X2_stateAt, hC.eqs, hsz, hLe, hbk, hbt]
      try simp (disch := omega) only [wI_id, dv_nn, rm_nn]
      repeat' (first | intro z | apply And.intro)
      all_goals try omega
      all_goals try contradiction
      all_goals first | exact w34 | (rw [← e] at w34; exact w34)
  have w := loop (fI τ 1302 61).toNat 0 (by omega)
  refine go_X11_countBoxes (ct := fun p => p == 4) 20 ?_
  simp only [oI, oL, oR, o1, lI, lL, lR, popN, catS, gv, stL, stL2, swt, cnd, spObj, List.getElem?_cons_zero, List.getElem?_cons_succ, List.getD_cons_zero, List.getD_cons_succ, List.set_cons_zero, List.set_cons_succ, List.nil_append, List.cons_append, Option.toList, Bool.or_false, Bool.false_or, Bool.or_true, Bool.true_or, Nat.reduceBEq, Nat.reduceAdd, Nat.reduceLT, Nat.reduceLeDiff, Int.reduceAdd, Int.reduceToNat, true_and, and_true, Fin.isValue, Fin.val_zero, Fin.val_one, Fin.val_two, Fin.reduceFinMk, eq_self, Int.reduceNeg, imp_self, Nat.reduceMul, Nat.le_refl, not_true_eq_false, not_false_eq_true, List.getElem?_nil, reduceCtorEq, true_or, or_true, Classical.not_not, implies_true, or_self, wI_0, wI_1, wI_m1, b2i_w, b2i_eq0, b2i_eq1, b2i_bool, nor_self, nx_pI, kd_pI, ln_pI, fI_pI, fL_pI, fR_pI, aI_pI, aL_pI, aR_pI, nx_pL, kd_pL, ln_pL, fI_pL, fL_pL, fR_pL, aI_pL, aL_pL, aR_pL, nx_pR, kd_pR, ln_pR, fI_pR, fL_pR, fR_pR, aI_pR, aL_pR, aR_pR, nx_qI, kd_qI, ln_qI, fI_qI, fL_qI, fR_qI, aI_qI, aL_qI, aR_qI, nx_qL, kd_qL, ln_qL, fI_qL, fL_qL, fR_qL, aI_qL, aL_qL, aR_qL, nx_qR, kd_qR, ln_qR, fI_qR, fL_qR, fR_qR, aI_qR, aL_qR, aR_qR, nx_mk, kd_mk, ln_mk, fI_mk, fL_mk, fR_mk, aI_mk, aL_mk, aR_mk, false_and, and_false, if_false, if_true, and_self, Int.reduceEq, Nat.reduceEqDiff, ite_self, MLay_pI, MLay_pL, MLay_qI, MLay_qL, ev_X11_countBoxes_0, ev_X11_countBoxes_1, ev_X11_countBoxes_2, ev_X11_countBoxes_3, xt_X11_countBoxes, xf_X11_countBoxes, us_Jx4a65c_size_8abf5, us_Jx4a65c_get_915e3, us_X2_stateAt]
  exact w

def sp_X11_isDumb : Sp := fun av σ Q => oR av fun this av => oR av fun p av => av = [] ∧ kd σ this = 12 ∧ (this = 1 ∧ CLay σ ∧ kd σ p = 3 ∧ (0 ≤ fI σ 303 p ∧ fI σ 303 p ≤ 3) ∧ (0 ≤ fI σ 304 p ∧ fI σ 304 p ≤ 11) ∧ (-1 ≤ fI σ 1006 ((45 + 4 * fI σ 303 p)) ∧ fI σ 1006 ((45 + 4 * fI σ 303 p)) ≤ 12) ∧ (-1 ≤ fI σ 1007 ((45 + 4 * fI σ 303 p)) ∧ fI σ 1007 ((45 + 4 * fI σ 303 p)) ≤ 12) ∧ Q (some (vi (b2i (cSil σ (45 + 4 * fI σ 303 p) (fI σ 304 p))))) σ)
theorem us_X11_isDumb (this : Int) (p : Int) (σ : Hp) (Q : Option AV → Hp → Prop) : sp_X11_isDumb [vr this, vr p] σ Q = (kd σ this = 12 ∧ (this = 1 ∧ CLay σ ∧ kd σ p = 3 ∧ (0 ≤ fI σ 303 p ∧ fI σ 303 p ≤ 3) ∧ (0 ≤ fI σ 304 p ∧ fI σ 304 p ≤ 11) ∧ (-1 ≤ fI σ 1006 ((45 + 4 * fI σ 303 p)) ∧ fI σ 1006 ((45 + 4 * fI σ 303 p)) ≤ 12) ∧ (-1 ≤ fI σ 1007 ((45 + 4 * fI σ 303 p)) ∧ fI σ 1007 ((45 + 4 * fI σ 303 p)) ≤ 12) ∧ Q (some (vi (b2i (cSil σ (45 + 4 * fI σ 303 p) (fI σ 304 p))))) σ)) := propext ⟨fun h => h.2, fun h => ⟨rfl, h⟩⟩
theorem el_X11_isDumb {av : List AV} {σ : Hp} {Q : Option AV → Hp → Prop} (h : sp_X11_isDumb av σ Q) : ∃ (this : Int) (p : Int), av = [vr this, vr p] ∧ (kd σ this = 12 ∧ (this = 1 ∧ CLay σ ∧ kd σ p = 3 ∧ (0 ≤ fI σ 303 p ∧ fI σ 303 p ≤ 3) ∧ (0 ≤ fI σ 304 p ∧ fI σ 304 p ≤ 11) ∧ (-1 ≤ fI σ 1006 ((45 + 4 * fI σ 303 p)) ∧ fI σ 1006 ((45 + 4 * fI σ 303 p)) ≤ 12) ∧ (-1 ≤ fI σ 1007 ((45 + 4 * fI σ 303 p)) ∧ fI σ 1007 ((45 + 4 * fI σ 303 p)) ≤ 12) ∧ Q (some (vi (b2i (cSil σ (45 + 4 * fI σ 303 p) (fI σ 304 p))))) σ)) := by
  obtain ⟨this, a0, rfl, h0⟩ := oR_s h
  obtain ⟨p, a1, rfl, h1⟩ := oR_s h0
  obtain ⟨rfl, hz⟩ := h1
  exact ⟨this, p, rfl, hz⟩
theorem rc_X11_isDumb : ∀ (av : List AV) (σ : Hp) (Q : Option AV → Hp → Prop), sp_X11_isDumb av σ Q → ∃ r tl, av = vr r :: tl ∧ kd σ r = 11 + 1 := fun av σ Q h => by
  obtain ⟨this, p, rfl, hz, -⟩ := el_X11_isDumb h
  exact ⟨this, _, rfl, hz⟩

def tb_X11_isDumb : Tab := [(0, .aload_n 0, 1, (0, 0, 0, 0)), (1, .aload_n 1, 1, (0, 0, 0, 0)), (2, .getfield 291, 3, (3, 303, 0, 0)), (5, .invokevirtual 79, 3, (0, 0, 0, 0)), (8, .astore_n 2, 1, (0, 0, 0, 0)), (9, .aload_n 2, 1, (0, 0, 0, 0)), (10, .ifnull 18, 3, (0, 0, 0, 0)), (13, .aload_n 2, 1, (0, 0, 0, 0)), (14, .aload_n 1, 1, (0, 0, 0, 0)), (15, .getfield 304, 3, (3, 304, 0, 0)), (18, .invokevirtual 335, 3, (0, 0, 0, 0)), (21, .ifCond .eq 7, 3, (0, 0, 0, 0)), (24, .iconst 1, 1, (0, 0, 0, 0)), (25, .goto 4, 3, (0, 0, 0, 0)), (28, .iconst 0, 1, (0, 0, 0, 0)), (29, .ireturn, 1, (0, 0, 0, 0))]
set_option maxRecDepth 100000 in
theorem tk_X11_isDumb : TOK RX11 false cX11_isDumb tb_X11_isDumb := chkT_ok ft_X11 (by decide +kernel)
theorem rw_X11_632 : Row RX11 (.invokevirtual 79) 3 2 0 0 1 sp_X11_loopOf := row_V (n := 1) (ci := 11) c_X11_loopOf ⟨TBL_in 529 (by decide +kernel) rfl, TBL_in 532 (by decide +kernel) rfl, TBL_in 111 (by decide +kernel) rfl, by decide +kernel, by decide⟩ (by decide) rfl (TBL_in 531 (by decide +kernel) rfl) (TBL_in 4 (by decide +kernel) rfl) rc_X11_loopOf
theorem rw_X11_2680 : Row RX11 (.invokevirtual 335) 3 2 0 0 1 sp_X9_silences := row_V (n := 1) (ci := 9) c_X9_silences ⟨TBL_in 1492 (by decide +kernel) rfl, TBL_in 520 (by decide +kernel) rfl, TBL_in 122 (by decide +kernel) rfl, by decide +kernel, by decide⟩ (by decide) rfl (TBL_in 518 (by decide +kernel) rfl) (TBL_in 519 (by decide +kernel) rfl) rc_X9_silences
def mt_X11_isDumb : List (Nat × Mt) := [(632, 2, 0, 0, 1, sp_X11_loopOf), (2680, 2, 0, 0, 1, sp_X9_silences)]
theorem em_X11_isDumb : mt_X11_isDumb.lookup 632 = some (2, 0, 0, 1, sp_X11_loopOf) ∧ mt_X11_isDumb.lookup 2680 = some (2, 0, 0, 1, sp_X9_silences) := ⟨rfl, rfl⟩
theorem mk_X11_isDumb : MOK RX11 mt_X11_isDumb := by
  intro q hq
  simp only [mt_X11_isDumb, List.mem_cons, List.not_mem_nil, or_false] at hq
  rcases hq with rfl | rfl
  · exact rw_X11_632
  · exact rw_X11_2680
noncomputable def xe_X11_isDumb (ct : Nat → Bool) (K : Kt) (R : Option AV → Hp → Prop) (n : Nat) : Kt := exS 3 2 0 0 2 tb_X11_isDumb mt_X11_isDumb ct K R n
noncomputable def xk_X11_isDumb (ct : Nat → Bool) (K : Kt) (R : Option AV → Hp → Prop) (n : Nat) : Kt := exkS 3 2 0 0 2 tb_X11_isDumb mt_X11_isDumb ct K R n
theorem xt_X11_isDumb {ct : Nat → Bool} {K : Kt} {R : Option AV → Hp → Prop} {n pc : Nat} {ls : List (Option AV)} {st : List AV} {σ : Hp} {k : Nat × Nat} (h : ct pc = true) : xk_X11_isDumb ct K R n pc ls st σ k = K pc ls st σ k := by unfold xk_X11_isDumb exkS; rw [h]
theorem xf_X11_isDumb {ct : Nat → Bool} {K : Kt} {R : Option AV → Hp → Prop} {n pc : Nat} {ls : List (Option AV)} {st : List AV} {σ : Hp} {k : Nat × Nat} (h : ct pc = false) : xk_X11_isDumb ct K R n pc ls st σ k = xe_X11_isDumb ct K R n pc ls st σ k := by unfold xk_X11_isDumb exkS xe_X11_isDumb; rw [h]
theorem ev_X11_isDumb_0 {ct : Nat → Bool} {K : Kt} {R : Option AV → Hp → Prop} {n : Nat} {ls : List (Option AV)} {st : List AV} {σ : Hp} {k : Nat × Nat} : xe_X11_isDumb ct K R (n + 1) 0 ls st σ k = (lR ls 0 fun x => xk_X11_isDumb ct K R n 1 ls (vr x :: st) σ k) := exS_step.trans rfl
theorem ev_X11_isDumb_1 {ct : Nat → Bool} {K : Kt} {R : Option AV → Hp → Prop} {n : Nat} {ls : List (Option AV)} {st : List AV} {σ : Hp} {k : Nat × Nat} : xe_X11_isDumb ct K R (n + 1) 1 ls st σ k = (lR ls 1 fun x => xk_X11_isDumb ct K R n 2 ls (vr x :: st) σ k) := exS_step.trans rfl
theorem ev_X11_isDumb_2 {ct : Nat → Bool} {K : Kt} {R : Option AV → Hp → Prop} {n : Nat} {ls : List (Option AV)} {st : List AV} {σ : Hp} {k : Nat × Nat} : xe_X11_isDumb ct K R (n + 1) 2 ls st σ k = (oR st fun x st => kd σ x = 3 ∧ xk_X11_isDumb ct K R n 5 ls (vi (fI σ 303 x) :: st) σ k) := exS_step.trans rfl
theorem ev_X11_isDumb_5 {ct : Nat → Bool} {K : Kt} {R : Option AV → Hp → Prop} {n : Nat} {ls : List (Option AV)} {st : List AV} {σ : Hp} {k : Nat × Nat} : xe_X11_isDumb ct K R (n + 1) 5 ls st σ k = (popN 2 st [] fun av rest => (catS rest ≤ 8 ∧ 1 < 2 ∧ k.1 + 0 ≤ 0 ∧ k.2 + 0 ≤ 0) ∧ (sp_X11_loopOf) av σ fun v σ' => xk_X11_isDumb ct K R n 8 ls (v.toList ++ rest) σ' (k.1 + 0, k.2 + 0)) := exS_step.trans rfl
theorem ev_X11_isDumb_8 {ct : Nat → Bool} {K : Kt} {R : Option AV → Hp → Prop} {n : Nat} {ls : List (Option AV)} {st : List AV} {σ : Hp} {k : Nat × Nat} : xe_X11_isDumb ct K R (n + 1) 8 ls st σ k = (oR st fun x st => 2 < 3 ∧ xk_X11_isDumb ct K R n 9 (stL ls 2 (vr x)) st σ k) := exS_step.trans rfl
theorem ev_X11_isDumb_9 {ct : Nat → Bool} {K : Kt} {R : Option AV → Hp → Prop} {n : Nat} {ls : List (Option AV)} {st : List AV} {σ : Hp} {k : Nat × Nat} : xe_X11_isDumb ct K R (n + 1) 9 ls st σ k = (lR ls 2 fun x => xk_X11_isDumb ct K R n 10 ls (vr x :: st) σ k) := exS_step.trans rfl
theorem ev_X11_isDumb_10 {ct : Nat → Bool} {K : Kt} {R : Option AV → Hp → Prop} {n : Nat} {ls : List (Option AV)} {st : List AV} {σ : Hp} {k : Nat × Nat} : xe_X11_isDumb ct K R (n + 1) 10 ls st σ k = (oR st fun x st => (x = 0 → xk_X11_isDumb ct K R n 28 ls st σ k) ∧ (¬ x = 0 → xk_X11_isDumb ct K R n 13 ls st σ k)) := exS_step.trans rfl
theorem ev_X11_isDumb_13 {ct : Nat → Bool} {K : Kt} {R : Option AV → Hp → Prop} {n : Nat} {ls : List (Option AV)} {st : List AV} {σ : Hp} {k : Nat × Nat} : xe_X11_isDumb ct K R (n + 1) 13 ls st σ k = (lR ls 2 fun x => xk_X11_isDumb ct K R n 14 ls (vr x :: st) σ k) := exS_step.trans rfl
theorem ev_X11_isDumb_14 {ct : Nat → Bool} {K : Kt} {R : Option AV → Hp → Prop} {n : Nat} {ls : List (Option AV)} {st : List AV} {σ : Hp} {k : Nat × Nat} : xe_X11_isDumb ct K R (n + 1) 14 ls st σ k = (lR ls 1 fun x => xk_X11_isDumb ct K R n 15 ls (vr x :: st) σ k) := exS_step.trans rfl
theorem ev_X11_isDumb_15 {ct : Nat → Bool} {K : Kt} {R : Option AV → Hp → Prop} {n : Nat} {ls : List (Option AV)} {st : List AV} {σ : Hp} {k : Nat × Nat} : xe_X11_isDumb ct K R (n + 1) 15 ls st σ k = (oR st fun x st => kd σ x = 3 ∧ xk_X11_isDumb ct K R n 18 ls (vi (fI σ 304 x) :: st) σ k) := exS_step.trans rfl
theorem ev_X11_isDumb_18 {ct : Nat → Bool} {K : Kt} {R : Option AV → Hp → Prop} {n : Nat} {ls : List (Option AV)} {st : List AV} {σ : Hp} {k : Nat × Nat} : xe_X11_isDumb ct K R (n + 1) 18 ls st σ k = (popN 2 st [] fun av rest => (catS rest ≤ 8 ∧ 1 < 2 ∧ k.1 + 0 ≤ 0 ∧ k.2 + 0 ≤ 0) ∧ (sp_X9_silences) av σ fun v σ' => xk_X11_isDumb ct K R n 21 ls (v.toList ++ rest) σ' (k.1 + 0, k.2 + 0)) := exS_step.trans rfl
theorem ev_X11_isDumb_21 {ct : Nat → Bool} {K : Kt} {R : Option AV → Hp → Prop} {n : Nat} {ls : List (Option AV)} {st : List AV} {σ : Hp} {k : Nat × Nat} : xe_X11_isDumb ct K R (n + 1) 21 ls st σ k = (oI st fun x st => (wI x = wI 0 → xk_X11_isDumb ct K R n 28 ls st σ k) ∧ (¬ (wI x = wI 0) → xk_X11_isDumb ct K R n 24 ls st σ k)) := exS_step.trans rfl
theorem ev_X11_isDumb_24 {ct : Nat → Bool} {K : Kt} {R : Option AV → Hp → Prop} {n : Nat} {ls : List (Option AV)} {st : List AV} {σ : Hp} {k : Nat × Nat} : xe_X11_isDumb ct K R (n + 1) 24 ls st σ k = (xk_X11_isDumb ct K R n 25 ls (vi (1) :: st) σ k) := exS_step.trans rfl
theorem ev_X11_isDumb_25 {ct : Nat → Bool} {K : Kt} {R : Option AV → Hp → Prop} {n : Nat} {ls : List (Option AV)} {st : List AV} {σ : Hp} {k : Nat × Nat} : xe_X11_isDumb ct K R (n + 1) 25 ls st σ k = (xk_X11_isDumb ct K R n 29 ls st σ k) := exS_step.trans rfl
theorem ev_X11_isDumb_28 {ct : Nat → Bool} {K : Kt} {R : Option AV → Hp → Prop} {n : Nat} {ls : List (Option AV)} {st : List AV} {σ : Hp} {k : Nat × Nat} : xe_X11_isDumb ct K R (n + 1) 28 ls st σ k = (xk_X11_isDumb ct K R n 29 ls (vi (0) :: st) σ k) := exS_step.trans rfl
theorem ev_X11_isDumb_29 {ct : Nat → Bool} {K : Kt} {R : Option AV → Hp → Prop} {n : Nat} {ls : List (Option AV)} {st : List AV} {σ : Hp} {k : Nat × Nat} : xe_X11_isDumb ct K R (n + 1) 29 ls st σ k = (oI st fun x st => st = [] ∧ (x = 0 ∨ x = 1) ∧ R (some (vi x)) σ) := exS_step.trans rfl
def M_X11_isDumb : Md := (yX11_isDumb, cX11_isDumb, 3, (some FieldType.boolean), 2, 0, 0, 2, false, tb_X11_isDumb, mt_X11_isDumb)
theorem mm_X11_isDumb : MMOK M_X11_isDumb := ⟨by decide +kernel, tk_X11_isDumb, mk_X11_isDumb, rfl, fun h => by cases h⟩
theorem go_X11_isDumb {Q : Option AV → Hp → Prop} {ct : Nat → Bool} {pc : Nat} {ls : List (Option AV)} {st : List AV} {σ : Hp} {k : Nat × Nat} (n : Nat) (h : xe_X11_isDumb ct (Go M_X11_isDumb Q) Q n pc ls st σ k) : Go M_X11_isDumb Q pc ls st σ k := Go.exS mm_X11_isDumb h

set_option maxRecDepth 20000 in
theorem c_X11_isDumb : Ct yX11_isDumb cX11_isDumb 3 ((some FieldType.boolean)) 2 0 0 sp_X11_isDumb := by
  refine Ct.go (M := M_X11_isDumb) mm_X11_isDumb fun av σ Q h0 => ?_
  obtain ⟨this, p, rfl, hk, h⟩ := el_X11_isDumb h0
  clear h0
  refine ⟨Nat.le_of_ble_eq_true rfl, ?_⟩
  show Go M_X11_isDumb Q 0 [some (vr this), some (vr p), none] [] σ (0, 0)
  obtain ⟨rfl, hC, hp, hl, ha, h1, h2, h⟩ := h
  have hr : inR (fI σ 303 p) := by unfold inR; omega
  have e : (if 0 ≤ fI σ 303 p ∧ fI σ 303 p < 4 then 45 + 4 * fI σ 303 p else 0) = 45 + 4 * fI σ 303 p := if_pos (by omega)
  have hkl : kd σ (45 + 4 * fI σ 303 p) = 10 := by
    have : fI σ 303 p = 0 ∨ fI σ 303 p = 1 ∨ fI σ 303 p = 2 ∨ fI σ 303 p = 3 := by omega
    rcases this with z | z | z | z <;> rw [z] <;> simp only [hC.eqs, Int.reduceAdd, Int.reduceMul]
  have hne : ¬ 45 + 4 * fI σ 303 p = 0 := by omega
  by_cases c : cSil σ (45 + 4 * fI σ 303 p) (fI σ 304 p)
  · rw [b2i_t c] at h
    refine go_X11_isDumb (ct := fun p => p == 28) 40 ?_
    simp only [oI, oL, oR, o1, lI, lL, lR, popN, catS, gv, stL, stL2, swt, cnd, spObj, List.getElem?_cons_zero, List.getElem?_cons_succ, List.getD_cons_zero, List.getD_cons_succ, List.set_cons_zero, List.set_cons_succ, List.nil_append, List.cons_append, Option.toList, Bool.or_false, Bool.false_or, Bool.or_true, Bool.true_or, Nat.reduceBEq, Nat.reduceAdd, Nat.reduceLT, Nat.reduceLeDiff, Int.reduceAdd, Int.reduceToNat, true_and, and_true, Fin.isValue, Fin.val_zero, Fin.val_one, Fin.val_two, Fin.reduceFinMk, eq_self, Int.reduceNeg, imp_self, Nat.reduceMul, Nat.le_refl, not_true_eq_false, not_false_eq_true, List.getElem?_nil, reduceCtorEq, true_or, or_true, Classical.not_not, implies_true, or_self, wI_0, wI_1, wI_m1, b2i_w, b2i_eq0, b2i_eq1, b2i_bool, nor_self, nx_pI, kd_pI, ln_pI, fI_pI, fL_pI, fR_pI, aI_pI, aL_pI, aR_pI, nx_pL, kd_pL, ln_pL, fI_pL, fL_pL, fR_pL, aI_pL, aL_pL, aR_pL, nx_pR, kd_pR, ln_pR, fI_pR, fL_pR, fR_pR, aI_pR, aL_pR, aR_pR, nx_qI, kd_qI, ln_qI, fI_qI, fL_qI, fR_qI, aI_qI, aL_qI, aR_qI, nx_qL, kd_qL, ln_qL, fI_qL, fL_qL, fR_qL, aI_qL, aL_qL, aR_qL, nx_qR, kd_qR, ln_qR, fI_qR, fL_qR, fR_qR, aI_qR, aL_qR, aR_qR, nx_mk, kd_mk, ln_mk, fI_mk, fL_mk, fR_mk, aI_mk, aL_mk, aR_mk, false_and, and_false, if_false, if_true, and_self, Int.reduceEq, Nat.reduceEqDiff, ite_self, MLay_pI, MLay_pL, MLay_qI, MLay_qL, ev_X11_isDumb_0, ev_X11_isDumb_1, ev_X11_isDumb_2, ev_X11_isDumb_5, ev_X11_isDumb_8, ev_X11_isDumb_9, ev_X11_isDumb_10, ev_X11_isDumb_13, ev_X11_isDumb_14, ev_X11_isDumb_15, ev_X11_isDumb_18, ev_X11_isDumb_21, ev_X11_isDumb_24, ev_X11_isDumb_25, ev_X11_isDumb_28, ev_X11_isDumb_29, xt_X11_isDumb, xf_X11_isDumb, us_X11_loopOf, us_X9_silences, hC, hk, hp, hr, e, hkl, hne, h1, h2, c]
    repeat' (first | intro z | apply And.intro)
    all_goals try omega
    all_goals try contradiction
    all_goals exact h
  · rw [b2i_f c] at h
    refine go_X11_isDumb (ct := fun p => p == 24) 40 ?_
    simp only [oI, oL, oR, o1, lI, lL, lR, popN, catS, gv, stL, stL2, swt, cnd, spObj, List.getElem?_cons_zero, List.getElem?_cons_succ, List.getD_cons_zero, List.getD_cons_succ, List.set_cons_zero, List.set_cons_succ, List.nil_append, List.cons_append, Option.toList, Bool.or_false, Bool.false_or, Bool.or_true, Bool.true_or, Nat.reduceBEq, Nat.reduceAdd, Nat.reduceLT, Nat.reduceLeDiff, Int.reduceAdd, Int.reduceToNat, true_and, and_true, Fin.isValue, Fin.val_zero, Fin.val_one, Fin.val_two, Fin.reduceFinMk, eq_self, Int.reduceNeg, imp_self, Nat.reduceMul, Nat.le_refl, not_true_eq_false, not_false_eq_true, List.getElem?_nil, reduceCtorEq, true_or, or_true, Classical.not_not, implies_true, or_self, wI_0, wI_1, wI_m1, b2i_w, b2i_eq0, b2i_eq1, b2i_bool, nor_self, nx_pI, kd_pI, ln_pI, fI_pI, fL_pI, fR_pI, aI_pI, aL_pI, aR_pI, nx_pL, kd_pL, ln_pL, fI_pL, fL_pL, fR_pL, aI_pL, aL_pL, aR_pL, nx_pR, kd_pR, ln_pR, fI_pR, fL_pR, fR_pR, aI_pR, aL_pR, aR_pR, nx_qI, kd_qI, ln_qI, fI_qI, fL_qI, fR_qI, aI_qI, aL_qI, aR_qI, nx_qL, kd_qL, ln_qL, fI_qL, fL_qL, fR_qL, aI_qL, aL_qL, aR_qL, nx_qR, kd_qR, ln_qR, fI_qR, fL_qR, fR_qR, aI_qR, aL_qR, aR_qR, nx_mk, kd_mk, ln_mk, fI_mk, fL_mk, fR_mk, aI_mk, aL_mk, aR_mk, false_and, and_false, if_false, if_true, and_self, Int.reduceEq, Nat.reduceEqDiff, ite_self, MLay_pI, MLay_pL, MLay_qI, MLay_qL, ev_X11_isDumb_0, ev_X11_isDumb_1, ev_X11_isDumb_2, ev_X11_isDumb_5, ev_X11_isDumb_8, ev_X11_isDumb_9, ev_X11_isDumb_10, ev_X11_isDumb_13, ev_X11_isDumb_14, ev_X11_isDumb_15, ev_X11_isDumb_18, ev_X11_isDumb_21, ev_X11_isDumb_24, ev_X11_isDumb_25, ev_X11_isDumb_28, ev_X11_isDumb_29, xt_X11_isDumb, xf_X11_isDumb, us_X11_loopOf, us_X9_silences, hC, hk, hp, hr, e, hkl, hne, h1, h2, c]
    repeat' (first | intro z | apply And.intro)
    all_goals try omega
    all_goals try contradiction
    all_goals exact h

theorem LoP.k {σ : Hp} (hC : CLay σ) {l : Int} (hl : 0 ≤ l ∧ l < 4) : kd σ (45 + 4 * l) = 10 ∧ aR σ 2 l = 45 + 4 * l ∧ fR σ 1000 (45 + 4 * l) = 46 + 4 * l ∧ fR σ 1001 (45 + 4 * l) = 47 + 4 * l ∧ fR σ 1002 (45 + 4 * l) = 48 + 4 * l ∧ kd σ (47 + 4 * l) = 103 ∧ ln σ (47 + 4 * l) = 13 ∧ kd σ (48 + 4 * l) = 101 ∧ ln σ (48 + 4 * l) = 500 := by
  have : l = 0 ∨ l = 1 ∨ l = 2 ∨ l = 3 := by omega
  rcases this with rfl | rfl | rfl | rfl <;> simp only [hC.eqs, Int.reduceAdd, Int.reduceMul, and_self]
/-- a loop by the relation is one as an object -/
theorem LoP.o {σ τ : Hp} (hC : CLay σ) (hB : BX σ τ) (hI : MI τ) {l : Int} (hl : 0 ≤ l ∧ l < 4) (h : LoP σ τ l) (h7k : -7 ≤ fI σ 1005 ((45 + 4 * l))) (hat : ∀ k, 0 ≤ k → k < aI τ 74 l → aI τ 75 (12 * l + k) < fI τ 1302 61) : LpO σ (45 + 4 * l) := by
  obtain ⟨k1, -, k3, k4, k5, k6, k7, k8, k9⟩ := LoP.k hC hl
  obtain ⟨h1, h2, h3, h4, -, -, h7, h8, -, h10, h11, h12, h13⟩ := h
  have hm := hI.many_ l
  have ht := hI.taped_ l
  have hlk := hI.lastKnock_ l
  unfold LpO
  rw [k3, k4, k5]
  refine ⟨k1, h1, by omega, fun k a b => ?_, ⟨k6, k7⟩, ⟨k8, k9⟩, h4, h8, by omega, by omega, by omega, ?_, ?_⟩
  · rw [h2] at b
    rw [h3 k a b]
    exact hB.r hI (hI.boxAt_ _).1 (hat k a b)
  · rcases h7 with ⟨q1, q2, -⟩ | ⟨q1, -⟩ <;> omega
  · rcases h7 with ⟨q1, q2, -⟩ | ⟨q1, -⟩ <;> omega

def sp_X11_countCutWires : Sp := fun av σ Q => oR av fun this av => av = [] ∧ kd σ this = 12 ∧ (this = 1 ∧ CLay σ ∧ (∀ l, 0 ≤ l → l < 4 → LpO σ (45 + 4 * l)) ∧ Q (some (vi (0 + hwM (fun w => ¬ aI σ 47 w = 0) 13 + hwM (fun w => ¬ aI σ 51 w = 0) 13 + hwM (fun w => ¬ aI σ 55 w = 0) 13 + hwM (fun w => ¬ aI σ 59 w = 0) 13))) σ)
theorem us_X11_countCutWires (this : Int) (σ : Hp) (Q : Option AV → Hp → Prop) : sp_X11_countCutWires [vr this] σ Q = (kd σ this = 12 ∧ (this = 1 ∧ CLay σ ∧ (∀ l, 0 ≤ l → l < 4 → LpO σ (45 + 4 * l)) ∧ Q (some (vi (0 + hwM (fun w => ¬ aI σ 47 w = 0) 13 + hwM (fun w => ¬ aI σ 51 w = 0) 13 + hwM (fun w => ¬ aI σ 55 w = 0) 13 + hwM (fun w => ¬ aI σ 59 w = 0) 13))) σ)) := propext ⟨fun h => h.2, fun h => ⟨rfl, h⟩⟩
theorem el_X11_countCutWires {av : List AV} {σ : Hp} {Q : Option AV → Hp → Prop} (h : sp_X11_countCutWires av σ Q) : ∃ (this : Int), av = [vr this] ∧ (kd σ this = 12 ∧ (this = 1 ∧ CLay σ ∧ (∀ l, 0 ≤ l → l < 4 → LpO σ (45 + 4 * l)) ∧ Q (some (vi (0 + hwM (fun w => ¬ aI σ 47 w = 0) 13 + hwM (fun w => ¬ aI σ 51 w = 0) 13 + hwM (fun w => ¬ aI σ 55 w = 0) 13 + hwM (fun w => ¬ aI σ 59 w = 0) 13))) σ)) := by
  obtain ⟨this, a0, rfl, h0⟩ := oR_s h
  obtain ⟨rfl, hz⟩ := h0
  exact ⟨this, rfl, hz⟩
theorem rc_X11_countCutWires : ∀ (av : List AV) (σ : Hp) (Q : Option AV → Hp → Prop), sp_X11_countCutWires av σ Q → ∃ r tl, av = vr r :: tl ∧ kd σ r = 11 + 1 := fun av σ Q h => by
  obtain ⟨this, rfl, hz, -⟩ := el_X11_countCutWires h
  exact ⟨this, _, rfl, hz⟩

def tb_X11_countCutWires : Tab := [(0, .iconst 0, 1, (0, 0, 0, 0)), (1, .istore_n 1, 1, (0, 0, 0, 0)), (2, .iconst 0, 1, (0, 0, 0, 0)), (3, .istore_n 2, 1, (0, 0, 0, 0)), (4, .iload_n 2, 1, (0, 0, 0, 0)), (5, .aload_n 0, 1, (0, 0, 0, 0)), (6, .getfield 11, 3, (12, 1200, 2, 0)), (9, .arraylength, 1, (0, 0, 0, 0)), (10, .if_icmp .ge 21, 3, (0, 0, 0, 0)), (13, .iload_n 1, 1, (0, 0, 0, 0)), (14, .aload_n 0, 1, (0, 0, 0, 0)), (15, .getfield 11, 3, (12, 1200, 2, 0)), (18, .iload_n 2, 1, (0, 0, 0, 0)), (19, .aaload, 1, (0, 0, 0, 0)), (20, .invokevirtual 338, 3, (0, 0, 0, 0)), (23, .iadd, 1, (0, 0, 0, 0)), (24, .istore_n 1, 1, (0, 0, 0, 0)), (25, .iinc 2 1, 3, (0, 0, 0, 0)), (28, .goto (-24), 3, (0, 0, 0, 0)), (31, .iload_n 1, 1, (0, 0, 0, 0)), (32, .ireturn, 1, (0, 0, 0, 0))]
set_option maxRecDepth 100000 in
theorem tk_X11_countCutWires : TOK RX11 false cX11_countCutWires tb_X11_countCutWires := chkT_ok ft_X11 (by decide +kernel)
theorem rw_X11_2704 : Row RX11 (.invokevirtual 338) 3 1 0 0 1 sp_X9_countCuts := row_V (n := 0) (ci := 9) c_X9_countCuts ⟨TBL_in 1415 (by decide +kernel) rfl, TBL_in 1418 (by decide +kernel) rfl, TBL_in 122 (by decide +kernel) rfl, by decide +kernel, by decide⟩ (by decide) rfl (TBL_in 1416 (by decide +kernel) rfl) (TBL_in 1417 (by decide +kernel) rfl) rc_X9_countCuts
def mt_X11_countCutWires : List (Nat × Mt) := [(2704, 1, 0, 0, 1, sp_X9_countCuts)]
theorem em_X11_countCutWires : mt_X11_countCutWires.lookup 2704 = some (1, 0, 0, 1, sp_X9_countCuts) := rfl
theorem mk_X11_countCutWires : MOK RX11 mt_X11_countCutWires := by
  intro q hq
  simp only [mt_X11_countCutWires, List.mem_cons, List.not_mem_nil, or_false] at hq
  rcases hq with rfl
  · exact rw_X11_2704
noncomputable def xe_X11_countCutWires (ct : Nat → Bool) (K : Kt) (R : Option AV → Hp → Prop) (n : Nat) : Kt := exS 3 2 0 0 1 tb_X11_countCutWires mt_X11_countCutWires ct K R n
noncomputable def xk_X11_countCutWires (ct : Nat → Bool) (K : Kt) (R : Option AV → Hp → Prop) (n : Nat) : Kt := exkS 3 2 0 0 1 tb_X11_countCutWires mt_X11_countCutWires ct K R n
theorem xt_X11_countCutWires {ct : Nat → Bool} {K : Kt} {R : Option AV → Hp → Prop} {n pc : Nat} {ls : List (Option AV)} {st : List AV} {σ : Hp} {k : Nat × Nat} (h : ct pc = true) : xk_X11_countCutWires ct K R n pc ls st σ k = K pc ls st σ k := by unfold xk_X11_countCutWires exkS; rw [h]
theorem xf_X11_countCutWires {ct : Nat → Bool} {K : Kt} {R : Option AV → Hp → Prop} {n pc : Nat} {ls : List (Option AV)} {st : List AV} {σ : Hp} {k : Nat × Nat} (h : ct pc = false) : xk_X11_countCutWires ct K R n pc ls st σ k = xe_X11_countCutWires ct K R n pc ls st σ k := by unfold xk_X11_countCutWires exkS xe_X11_countCutWires; rw [h]
theorem ev_X11_countCutWires_0 {ct : Nat → Bool} {K : Kt} {R : Option AV → Hp → Prop} {n : Nat} {ls : List (Option AV)} {st : List AV} {σ : Hp} {k : Nat × Nat} : xe_X11_countCutWires ct K R (n + 1) 0 ls st σ k = (xk_X11_countCutWires ct K R n 1 ls (vi (0) :: st) σ k) := exS_step.trans rfl
theorem ev_X11_countCutWires_1 {ct : Nat → Bool} {K : Kt} {R : Option AV → Hp → Prop} {n : Nat} {ls : List (Option AV)} {st : List AV} {σ : Hp} {k : Nat × Nat} : xe_X11_countCutWires ct K R (n + 1) 1 ls st σ k = (oI st fun x st => 1 < 3 ∧ xk_X11_countCutWires ct K R n 2 (stL ls 1 (vi x)) st σ k) := exS_step.trans rfl
theorem ev_X11_countCutWires_2 {ct : Nat → Bool} {K : Kt} {R : Option AV → Hp → Prop} {n : Nat} {ls : List (Option AV)} {st : List AV} {σ : Hp} {k : Nat × Nat} : xe_X11_countCutWires ct K R (n + 1) 2 ls st σ k = (xk_X11_countCutWires ct K R n 3 ls (vi (0) :: st) σ k) := exS_step.trans rfl
theorem ev_X11_countCutWires_3 {ct : Nat → Bool} {K : Kt} {R : Option AV → Hp → Prop} {n : Nat} {ls : List (Option AV)} {st : List AV} {σ : Hp} {k : Nat × Nat} : xe_X11_countCutWires ct K R (n + 1) 3 ls st σ k = (oI st fun x st => 2 < 3 ∧ xk_X11_countCutWires ct K R n 4 (stL ls 2 (vi x)) st σ k) := exS_step.trans rfl
theorem ev_X11_countCutWires_4 {ct : Nat → Bool} {K : Kt} {R : Option AV → Hp → Prop} {n : Nat} {ls : List (Option AV)} {st : List AV} {σ : Hp} {k : Nat × Nat} : xe_X11_countCutWires ct K R (n + 1) 4 ls st σ k = (lI ls 2 fun x => xk_X11_countCutWires ct K R n 5 ls (vi x :: st) σ k) := exS_step.trans rfl
theorem ev_X11_countCutWires_5 {ct : Nat → Bool} {K : Kt} {R : Option AV → Hp → Prop} {n : Nat} {ls : List (Option AV)} {st : List AV} {σ : Hp} {k : Nat × Nat} : xe_X11_countCutWires ct K R (n + 1) 5 ls st σ k = (lR ls 0 fun x => xk_X11_countCutWires ct K R n 6 ls (vr x :: st) σ k) := exS_step.trans rfl
theorem ev_X11_countCutWires_6 {ct : Nat → Bool} {K : Kt} {R : Option AV → Hp → Prop} {n : Nat} {ls : List (Option AV)} {st : List AV} {σ : Hp} {k : Nat × Nat} : xe_X11_countCutWires ct K R (n + 1) 6 ls st σ k = (oR st fun x st => kd σ x = 12 ∧ xk_X11_countCutWires ct K R n 9 ls (vr (fR σ 1200 x) :: st) σ k) := exS_step.trans rfl
theorem ev_X11_countCutWires_9 {ct : Nat → Bool} {K : Kt} {R : Option AV → Hp → Prop} {n : Nat} {ls : List (Option AV)} {st : List AV} {σ : Hp} {k : Nat × Nat} : xe_X11_countCutWires ct K R (n + 1) 9 ls st σ k = (oR st fun x st => (101 ≤ kd σ x ∨ kd σ x = 21) ∧ xk_X11_countCutWires ct K R n 10 ls (vi (ln σ x) :: st) σ k) := exS_step.trans rfl
theorem ev_X11_countCutWires_10 {ct : Nat → Bool} {K : Kt} {R : Option AV → Hp → Prop} {n : Nat} {ls : List (Option AV)} {st : List AV} {σ : Hp} {k : Nat × Nat} : xe_X11_countCutWires ct K R (n + 1) 10 ls st σ k = (oI st fun y st => oI st fun x st => (wI y ≤ wI x → xk_X11_countCutWires ct K R n 31 ls st σ k) ∧ (¬ (wI y ≤ wI x) → xk_X11_countCutWires ct K R n 13 ls st σ k)) := exS_step.trans rfl
theorem ev_X11_countCutWires_13 {ct : Nat → Bool} {K : Kt} {R : Option AV → Hp → Prop} {n : Nat} {ls : List (Option AV)} {st : List AV} {σ : Hp} {k : Nat × Nat} : xe_X11_countCutWires ct K R (n + 1) 13 ls st σ k = (lI ls 1 fun x => xk_X11_countCutWires ct K R n 14 ls (vi x :: st) σ k) := exS_step.trans rfl
theorem ev_X11_countCutWires_14 {ct : Nat → Bool} {K : Kt} {R : Option AV → Hp → Prop} {n : Nat} {ls : List (Option AV)} {st : List AV} {σ : Hp} {k : Nat × Nat} : xe_X11_countCutWires ct K R (n + 1) 14 ls st σ k = (lR ls 0 fun x => xk_X11_countCutWires ct K R n 15 ls (vr x :: st) σ k) := exS_step.trans rfl
theorem ev_X11_countCutWires_15 {ct : Nat → Bool} {K : Kt} {R : Option AV → Hp → Prop} {n : Nat} {ls : List (Option AV)} {st : List AV} {σ : Hp} {k : Nat × Nat} : xe_X11_countCutWires ct K R (n + 1) 15 ls st σ k = (oR st fun x st => kd σ x = 12 ∧ xk_X11_countCutWires ct K R n 18 ls (vr (fR σ 1200 x) :: st) σ k) := exS_step.trans rfl
theorem ev_X11_countCutWires_18 {ct : Nat → Bool} {K : Kt} {R : Option AV → Hp → Prop} {n : Nat} {ls : List (Option AV)} {st : List AV} {σ : Hp} {k : Nat × Nat} : xe_X11_countCutWires ct K R (n + 1) 18 ls st σ k = (lI ls 2 fun x => xk_X11_countCutWires ct K R n 19 ls (vi x :: st) σ k) := exS_step.trans rfl
theorem ev_X11_countCutWires_19 {ct : Nat → Bool} {K : Kt} {R : Option AV → Hp → Prop} {n : Nat} {ls : List (Option AV)} {st : List AV} {σ : Hp} {k : Nat × Nat} : xe_X11_countCutWires ct K R (n + 1) 19 ls st σ k = (oI st fun j st => oR st fun x st => (kd σ x = 105 ∨ kd σ x = 106 ∨ kd σ x = 107) ∧ (0 ≤ j ∧ j < ln σ x) ∧ xk_X11_countCutWires ct K R n 20 ls (vr (aR σ x j) :: st) σ k) := exS_step.trans rfl
theorem ev_X11_countCutWires_20 {ct : Nat → Bool} {K : Kt} {R : Option AV → Hp → Prop} {n : Nat} {ls : List (Option AV)} {st : List AV} {σ : Hp} {k : Nat × Nat} : xe_X11_countCutWires ct K R (n + 1) 20 ls st σ k = (popN 1 st [] fun av rest => (catS rest ≤ 8 ∧ 1 < 2 ∧ k.1 + 0 ≤ 0 ∧ k.2 + 0 ≤ 0) ∧ (sp_X9_countCuts) av σ fun v σ' => xk_X11_countCutWires ct K R n 23 ls (v.toList ++ rest) σ' (k.1 + 0, k.2 + 0)) := exS_step.trans rfl
theorem ev_X11_countCutWires_23 {ct : Nat → Bool} {K : Kt} {R : Option AV → Hp → Prop} {n : Nat} {ls : List (Option AV)} {st : List AV} {σ : Hp} {k : Nat × Nat} : xe_X11_countCutWires ct K R (n + 1) 23 ls st σ k = (oI st fun y st => oI st fun x st => xk_X11_countCutWires ct K R n 24 ls (vi (x + y) :: st) σ k) := exS_step.trans rfl
theorem ev_X11_countCutWires_24 {ct : Nat → Bool} {K : Kt} {R : Option AV → Hp → Prop} {n : Nat} {ls : List (Option AV)} {st : List AV} {σ : Hp} {k : Nat × Nat} : xe_X11_countCutWires ct K R (n + 1) 24 ls st σ k = (oI st fun x st => 1 < 3 ∧ xk_X11_countCutWires ct K R n 25 (stL ls 1 (vi x)) st σ k) := exS_step.trans rfl
theorem ev_X11_countCutWires_25 {ct : Nat → Bool} {K : Kt} {R : Option AV → Hp → Prop} {n : Nat} {ls : List (Option AV)} {st : List AV} {σ : Hp} {k : Nat × Nat} : xe_X11_countCutWires ct K R (n + 1) 25 ls st σ k = (lI ls 2 fun x => 2 < 3 ∧ xk_X11_countCutWires ct K R n 28 (stL ls 2 (vi (x + (1)))) st σ k) := exS_step.trans rfl
theorem ev_X11_countCutWires_28 {ct : Nat → Bool} {K : Kt} {R : Option AV → Hp → Prop} {n : Nat} {ls : List (Option AV)} {st : List AV} {σ : Hp} {k : Nat × Nat} : xe_X11_countCutWires ct K R (n + 1) 28 ls st σ k = (xk_X11_countCutWires ct K R n 4 ls st σ k) := exS_step.trans rfl
theorem ev_X11_countCutWires_31 {ct : Nat → Bool} {K : Kt} {R : Option AV → Hp → Prop} {n : Nat} {ls : List (Option AV)} {st : List AV} {σ : Hp} {k : Nat × Nat} : xe_X11_countCutWires ct K R (n + 1) 31 ls st σ k = (lI ls 1 fun x => xk_X11_countCutWires ct K R n 32 ls (vi x :: st) σ k) := exS_step.trans rfl
theorem ev_X11_countCutWires_32 {ct : Nat → Bool} {K : Kt} {R : Option AV → Hp → Prop} {n : Nat} {ls : List (Option AV)} {st : List AV} {σ : Hp} {k : Nat × Nat} : xe_X11_countCutWires ct K R (n + 1) 32 ls st σ k = (oI st fun x st => st = [] ∧ True ∧ R (some (vi x)) σ) := exS_step.trans rfl
def M_X11_countCutWires : Md := (yX11_countCutWires, cX11_countCutWires, 3, (some FieldType.int), 2, 0, 0, 1, false, tb_X11_countCutWires, mt_X11_countCutWires)
theorem mm_X11_countCutWires : MMOK M_X11_countCutWires := ⟨by decide +kernel, tk_X11_countCutWires, mk_X11_countCutWires, rfl, fun h => by cases h⟩
theorem go_X11_countCutWires {Q : Option AV → Hp → Prop} {ct : Nat → Bool} {pc : Nat} {ls : List (Option AV)} {st : List AV} {σ : Hp} {k : Nat × Nat} (n : Nat) (h : xe_X11_countCutWires ct (Go M_X11_countCutWires Q) Q n pc ls st σ k) : Go M_X11_countCutWires Q pc ls st σ k := Go.exS mm_X11_countCutWires h

set_option maxRecDepth 20000 in
theorem c_X11_countCutWires : Ct yX11_countCutWires cX11_countCutWires 3 ((some FieldType.int)) 2 0 0 sp_X11_countCutWires := by
  refine Ct.go (M := M_X11_countCutWires) mm_X11_countCutWires fun av σ Q h0 => ?_
  obtain ⟨this, rfl, hk, h⟩ := el_X11_countCutWires h0
  clear h0
  refine ⟨Nat.le_of_ble_eq_true rfl, ?_⟩
  show Go M_X11_countCutWires Q 0 [some (vr this), none, none] [] σ (0, 0)
  obtain ⟨rfl, hC, hL, h⟩ := h
  have o0 : LpO σ 45 := hL 0 (by omega) (by omega)
  have o1 : LpO σ 49 := hL 1 (by omega) (by omega)
  have o2 : LpO σ 53 := hL 2 (by omega) (by omega)
  have o3 : LpO σ 57 := hL 3 (by omega) (by omega)
  have w4 : ∀ x, Q (some (vi x)) σ → Go M_X11_countCutWires Q 4 [some (vr 1), some (vi x), some (vi 4)] [] σ (0, 0) := fun x hx => by
    clear h
    refine go_X11_countCutWires (ct := fun p => p == 13) 20 ?_
    simp only [oI, oL, oR, o1, lI, lL, lR, popN, catS, gv, stL, stL2, swt, cnd, spObj, List.getElem?_cons_zero, List.getElem?_cons_succ, List.getD_cons_zero, List.getD_cons_succ, List.set_cons_zero, List.set_cons_succ, List.nil_append, List.cons_append, Option.toList, Bool.or_false, Bool.false_or, Bool.or_true, Bool.true_or, Nat.reduceBEq, Nat.reduceAdd, Nat.reduceLT, Nat.reduceLeDiff, Int.reduceAdd, Int.reduceToNat, true_and, and_true, Fin.isValue, Fin.val_zero, Fin.val_one, Fin.val_two, Fin.reduceFinMk, eq_self, Int.reduceNeg, imp_self, Nat.reduceMul, Nat.le_refl, not_true_eq_false, not_false_eq_true, List.getElem?_nil, reduceCtorEq, true_or, or_true, Classical.not_not, implies_true, or_self, wI_0, wI_1, wI_m1, b2i_w, b2i_eq0, b2i_eq1, b2i_bool, nor_self, nx_pI, kd_pI, ln_pI, fI_pI, fL_pI, fR_pI, aI_pI, aL_pI, aR_pI, nx_pL, kd_pL, ln_pL, fI_pL, fL_pL, fR_pL, aI_pL, aL_pL, aR_pL, nx_pR, kd_pR, ln_pR, fI_pR, fL_pR, fR_pR, aI_pR, aL_pR, aR_pR, nx_qI, kd_qI, ln_qI, fI_qI, fL_qI, fR_qI, aI_qI, aL_qI, aR_qI, nx_qL, kd_qL, ln_qL, fI_qL, fL_qL, fR_qL, aI_qL, aL_qL, aR_qL, nx_qR, kd_qR, ln_qR, fI_qR, fL_qR, fR_qR, aI_qR, aL_qR, aR_qR, nx_mk, kd_mk, ln_mk, fI_mk, fL_mk, fR_mk, aI_mk, aL_mk, aR_mk, false_and, and_false, if_false, if_true, and_self, Int.reduceEq, Nat.reduceEqDiff, ite_self, MLay_pI, MLay_pL, MLay_qI, MLay_qL, ev_X11_countCutWires_0, ev_X11_countCutWires_1, ev_X11_countCutWires_2, ev_X11_countCutWires_3, ev_X11_countCutWires_4, ev_X11_countCutWires_5, ev_X11_countCutWires_6, ev_X11_countCutWires_9, ev_X11_countCutWires_10, ev_X11_countCutWires_13, ev_X11_countCutWires_14, ev_X11_countCutWires_15, ev_X11_countCutWires_18, ev_X11_countCutWires_19, ev_X11_countCutWires_20, ev_X11_countCutWires_23, ev_X11_countCutWires_24, ev_X11_countCutWires_25, ev_X11_countCutWires_28, ev_X11_countCutWires_31, ev_X11_countCutWires_32, xt_X11_countCutWires, xf_X11_countCutWires, us_X9_countCuts, hC.eqs]
    try simp (disch := omega) only [wI_id, dv_nn, rm_nn]
    repeat' (first | intro z | apply And.intro)
    all_goals try omega
    all_goals try contradiction
    all_goals exact hx
  have st : ∀ (i q : Int) (a : Int) (x : Int), (i = 0 ∧ q = 45 ∧ a = 47 ∨ i = 1 ∧ q = 49 ∧ a = 51 ∨ i = 2 ∧ q = 53 ∧ a = 55 ∨ i = 3 ∧ q = 57 ∧ a = 59) → Go M_X11_countCutWires Q 4 [some (vr 1), some (vi (x + hwM (fun w => ¬ aI σ a w = 0) 13)), some (vi (i + 1))] [] σ (0, 0) → Go M_X11_countCutWires Q 4 [some (vr 1), some (vi x), some (vi i)] [] σ (0, 0) := fun i q a x hi hx => by
    have e1 : aR σ 2 i = q := by rcases hi with ⟨rfl, rfl, rfl⟩ | ⟨rfl, rfl, rfl⟩ | ⟨rfl, rfl, rfl⟩ | ⟨rfl, rfl, rfl⟩ <;> simp only [hC.eqs]
    have e2 : LpO σ q := by rcases hi with ⟨rfl, rfl, rfl⟩ | ⟨rfl, rfl, rfl⟩ | ⟨rfl, rfl, rfl⟩ | ⟨rfl, rfl, rfl⟩ <;> assumption
    have e3 : fR σ 1001 q = a := by rcases hi with ⟨rfl, rfl, rfl⟩ | ⟨rfl, rfl, rfl⟩ | ⟨rfl, rfl, rfl⟩ | ⟨rfl, rfl, rfl⟩ <;> simp only [hC.eqs]
    have hq := e2.k
    have hi4 : 0 ≤ i ∧ i < 4 := by omega
    generalize hx9 : hwM (fun w => ¬ aI σ a w = 0) 13 = y at *
    clear hi h w4
    refine go_X11_countCutWires (ct := fun p => p == 4 || p == 31) 40 ?_
    simp only [oI, oL, oR, o1, lI, lL, lR, popN, catS, gv, stL, stL2, swt, cnd, spObj, List.getElem?_cons_zero, List.getElem?_cons_succ, List.getD_cons_zero, List.getD_cons_succ, List.set_cons_zero, List.set_cons_succ, List.nil_append, List.cons_append, Option.toList, Bool.or_false, Bool.false_or, Bool.or_true, Bool.true_or, Nat.reduceBEq, Nat.reduceAdd, Nat.reduceLT, Nat.reduceLeDiff, Int.reduceAdd, Int.reduceToNat, true_and, and_true, Fin.isValue, Fin.val_zero, Fin.val_one, Fin.val_two, Fin.reduceFinMk, eq_self, Int.reduceNeg, imp_self, Nat.reduceMul, Nat.le_refl, not_true_eq_false, not_false_eq_true, List.getElem?_nil, reduceCtorEq, true_or, or_true, Classical.not_not, implies_true, or_self, wI_0, wI_1, wI_m1, b2i_w, b2i_eq0, b2i_eq1, b2i_bool, nor_self, nx_pI, kd_pI, ln_pI, fI_pI, fL_pI, fR_pI, aI_pI, aL_pI, aR_pI, nx_pL, kd_pL, ln_pL, fI_pL, fL_pL, fR_pL, aI_pL, aL_pL, aR_pL, nx_pR, kd_pR, ln_pR, fI_pR, fL_pR, fR_pR, aI_pR, aL_pR, aR_pR, nx_qI, kd_qI, ln_qI, fI_qI, fL_qI, fR_qI, aI_qI, aL_qI, aR_qI, nx_qL, kd_qL, ln_qL, fI_qL, fL_qL, fR_qL, aI_qL, aL_qL, aR_qL, nx_qR, kd_qR, ln_qR, fI_qR, fL_qR, fR_qR, aI_qR, aL_qR, aR_qR, nx_mk, kd_mk, ln_mk, fI_mk, fL_mk, fR_mk, aI_mk, aL_mk, aR_mk, false_and, and_false, if_false, if_true, and_self, Int.reduceEq, Nat.reduceEqDiff, ite_self, MLay_pI, MLay_pL, MLay_qI, MLay_qL, ev_X11_countCutWires_0, ev_X11_countCutWires_1, ev_X11_countCutWires_2, ev_X11_countCutWires_3, ev_X11_countCutWires_4, ev_X11_countCutWires_5, ev_X11_countCutWires_6, ev_X11_countCutWires_9, ev_X11_countCutWires_10, ev_X11_countCutWires_13, ev_X11_countCutWires_14, ev_X11_countCutWires_15, ev_X11_countCutWires_18, ev_X11_countCutWires_19, ev_X11_countCutWires_20, ev_X11_countCutWires_23, ev_X11_countCutWires_24, ev_X11_countCutWires_25, ev_X11_countCutWires_28, ev_X11_countCutWires_31, ev_X11_countCutWires_32, xt_X11_countCutWires, xf_X11_countCutWires, us_X9_countCuts, hC.eqs, e1, e2, e3, hq, hx9]
    try simp (disch := omega) only [wI_id, dv_nn, rm_nn]
    repeat' (first | intro z | apply And.intro)
    all_goals try omega
    all_goals try contradiction
    all_goals exact hx
  have w := st 0 45 47 0 (by omega) (st 1 49 51 _ (by omega) (st 2 53 55 _ (by omega) (st 3 57 59 _ (by omega) (w4 _ h))))
  refine go_X11_countCutWires (ct := fun p => p == 4) 20 ?_
  simp only [oI, oL, oR, o1, lI, lL, lR, popN, catS, gv, stL, stL2, swt, cnd, spObj, List.getElem?_cons_zero, List.getElem?_cons_succ, List.getD_cons_zero, List.getD_cons_succ, List.set_cons_zero, List.set_cons_succ, List.nil_append, List.cons_append, Option.toList, Bool.or_false, Bool.false_or, Bool.or_true, Bool.true_or, Nat.reduceBEq, Nat.reduceAdd, Nat.reduceLT, Nat.reduceLeDiff, Int.reduceAdd, Int.reduceToNat, true_and, and_true, Fin.isValue, Fin.val_zero, Fin.val_one, Fin.val_two, Fin.reduceFinMk, eq_self, Int.reduceNeg, imp_self, Nat.reduceMul, Nat.le_refl, not_true_eq_false, not_false_eq_true, List.getElem?_nil, reduceCtorEq, true_or, or_true, Classical.not_not, implies_true, or_self, wI_0, wI_1, wI_m1, b2i_w, b2i_eq0, b2i_eq1, b2i_bool, nor_self, nx_pI, kd_pI, ln_pI, fI_pI, fL_pI, fR_pI, aI_pI, aL_pI, aR_pI, nx_pL, kd_pL, ln_pL, fI_pL, fL_pL, fR_pL, aI_pL, aL_pL, aR_pL, nx_pR, kd_pR, ln_pR, fI_pR, fL_pR, fR_pR, aI_pR, aL_pR, aR_pR, nx_qI, kd_qI, ln_qI, fI_qI, fL_qI, fR_qI, aI_qI, aL_qI, aR_qI, nx_qL, kd_qL, ln_qL, fI_qL, fL_qL, fR_qL, aI_qL, aL_qL, aR_qL, nx_qR, kd_qR, ln_qR, fI_qR, fL_qR, fR_qR, aI_qR, aL_qR, aR_qR, nx_mk, kd_mk, ln_mk, fI_mk, fL_mk, fR_mk, aI_mk, aL_mk, aR_mk, false_and, and_false, if_false, if_true, and_self, Int.reduceEq, Nat.reduceEqDiff, ite_self, MLay_pI, MLay_pL, MLay_qI, MLay_qL, ev_X11_countCutWires_0, ev_X11_countCutWires_1, ev_X11_countCutWires_2, ev_X11_countCutWires_3, xt_X11_countCutWires, xf_X11_countCutWires, us_X9_countCuts]
  exact w
