/-! the JDK's own methods: lists -/

def sp_Jxa1e45_init_da8c8 : Sp := fun av σ Q => oR av fun this av => av = [] ∧ kd σ this = 14 ∧ (Q none σ)
theorem us_Jxa1e45_init_da8c8 (this : Int) (σ : Hp) (Q : Option AV → Hp → Prop) : sp_Jxa1e45_init_da8c8 [vr this] σ Q = (kd σ this = 14 ∧ (Q none σ)) := propext ⟨fun h => h.2, fun h => ⟨rfl, h⟩⟩
theorem el_Jxa1e45_init_da8c8 {av : List AV} {σ : Hp} {Q : Option AV → Hp → Prop} (h : sp_Jxa1e45_init_da8c8 av σ Q) : ∃ (this : Int), av = [vr this] ∧ (kd σ this = 14 ∧ (Q none σ)) := by
  obtain ⟨this, a0, rfl, h0⟩ := oR_s h
  obtain ⟨rfl, hz⟩ := h0
  exact ⟨this, rfl, hz⟩
theorem rc_Jxa1e45_init_da8c8 : ∀ (av : List AV) (σ : Hp) (Q : Option AV → Hp → Prop), sp_Jxa1e45_init_da8c8 av σ Q → ∃ r tl, av = vr r :: tl ∧ kd σ r = 13 + 1 := fun av σ Q h => by
  obtain ⟨this, rfl, hz, -⟩ := el_Jxa1e45_init_da8c8 h
  exact ⟨this, _, rfl, hz⟩
theorem rcn_Jxa1e45_init_da8c8 : ∀ (av : List AV) (σ : Hp) (Q : Option AV → Hp → Prop), sp_Jxa1e45_init_da8c8 av σ Q → ∃ r tl, av = vr r :: tl ∧ kd σ r ≠ 0 := fun av σ Q h => by
  obtain ⟨r, tl, e, hz⟩ := rc_Jxa1e45_init_da8c8 av σ Q h
  exact ⟨r, tl, e, by omega⟩

def tb_Jxa1e45_init_da8c8 : Tab := [(0, .aload_n 0, 1, (0, 0, 0, 0)), (1, .invokespecial 1, 3, (0, 0, 0, 0)), (4, .return_, 1, (0, 0, 0, 0))]
set_option maxRecDepth 100000 in
theorem tk_Jxa1e45_init_da8c8 : TOK RJxa1e45 true cJxa1e45_init_da8c8 tb_Jxa1e45_init_da8c8 := chkT_ok ft_Jxa1e45 (by decide +kernel)
theorem rw_Jxa1e45_10 : Row RJxa1e45 (.invokespecial 1) 3 1 0 0 0 spObj := row_obj (TBL_in 171 (by decide +kernel) rfl) (TBL_in 148 (by decide +kernel) rfl) (TBL_in 149 (by decide +kernel) rfl)
def mt_Jxa1e45_init_da8c8 : List (Nat × Mt) := [(10, 1, 0, 0, 0, spObj)]
theorem em_Jxa1e45_init_da8c8 : mt_Jxa1e45_init_da8c8.lookup 10 = some (1, 0, 0, 0, spObj) := rfl
theorem mk_Jxa1e45_init_da8c8 : MOK RJxa1e45 mt_Jxa1e45_init_da8c8 := by
  intro q hq
  simp only [mt_Jxa1e45_init_da8c8, List.mem_cons, List.not_mem_nil, or_false] at hq
  rcases hq with rfl
  · exact rw_Jxa1e45_10
noncomputable def xe_Jxa1e45_init_da8c8 (ct : Nat → Bool) (K : Kt) (R : Option AV → Hp → Prop) (n : Nat) : Kt := exS 1 1 0 0 0 tb_Jxa1e45_init_da8c8 mt_Jxa1e45_init_da8c8 ct K R n
noncomputable def xk_Jxa1e45_init_da8c8 (ct : Nat → Bool) (K : Kt) (R : Option AV → Hp → Prop) (n : Nat) : Kt := exkS 1 1 0 0 0 tb_Jxa1e45_init_da8c8 mt_Jxa1e45_init_da8c8 ct K R n
theorem xt_Jxa1e45_init_da8c8 {ct : Nat → Bool} {K : Kt} {R : Option AV → Hp → Prop} {n pc : Nat} {ls : List (Option AV)} {st : List AV} {σ : Hp} {k : Nat × Nat} (h : ct pc = true) : xk_Jxa1e45_init_da8c8 ct K R n pc ls st σ k = K pc ls st σ k := by unfold xk_Jxa1e45_init_da8c8 exkS; rw [h]
theorem xf_Jxa1e45_init_da8c8 {ct : Nat → Bool} {K : Kt} {R : Option AV → Hp → Prop} {n pc : Nat} {ls : List (Option AV)} {st : List AV} {σ : Hp} {k : Nat × Nat} (h : ct pc = false) : xk_Jxa1e45_init_da8c8 ct K R n pc ls st σ k = xe_Jxa1e45_init_da8c8 ct K R n pc ls st σ k := by unfold xk_Jxa1e45_init_da8c8 exkS xe_Jxa1e45_init_da8c8; rw [h]
theorem ev_Jxa1e45_init_da8c8_0 {ct : Nat → Bool} {K : Kt} {R : Option AV → Hp → Prop} {n : Nat} {ls : List (Option AV)} {st : List AV} {σ : Hp} {k : Nat × Nat} : xe_Jxa1e45_init_da8c8 ct K R (n + 1) 0 ls st σ k = (lR ls 0 fun x => xk_Jxa1e45_init_da8c8 ct K R n 1 ls (vr x :: st) σ k) := exS_step.trans rfl
theorem ev_Jxa1e45_init_da8c8_1 {ct : Nat → Bool} {K : Kt} {R : Option AV → Hp → Prop} {n : Nat} {ls : List (Option AV)} {st : List AV} {σ : Hp} {k : Nat × Nat} : xe_Jxa1e45_init_da8c8 ct K R (n + 1) 1 ls st σ k = (popN 1 st [] fun av rest => (catS rest ≤ 8 ∧ 0 < 1 ∧ k.1 + 0 ≤ 0 ∧ k.2 + 0 ≤ 0) ∧ (spObj) av σ fun v σ' => xk_Jxa1e45_init_da8c8 ct K R n 4 ls (v.toList ++ rest) σ' (k.1 + 0, k.2 + 0)) := exS_step.trans rfl
theorem ev_Jxa1e45_init_da8c8_4 {ct : Nat → Bool} {K : Kt} {R : Option AV → Hp → Prop} {n : Nat} {ls : List (Option AV)} {st : List AV} {σ : Hp} {k : Nat × Nat} : xe_Jxa1e45_init_da8c8 ct K R (n + 1) 4 ls st σ k = (st = [] ∧ 0 = 0 ∧ R none σ) := exS_step.trans rfl
def M_Jxa1e45_init_da8c8 : Md := (yJxa1e45_init_da8c8, cJxa1e45_init_da8c8, 1, (none : Option FieldType), 1, 0, 0, 0, true, tb_Jxa1e45_init_da8c8, mt_Jxa1e45_init_da8c8)
theorem mm_Jxa1e45_init_da8c8 : MMOK M_Jxa1e45_init_da8c8 := ⟨by decide +kernel, tk_Jxa1e45_init_da8c8, mk_Jxa1e45_init_da8c8, rfl, fun _ => rfl⟩
theorem go_Jxa1e45_init_da8c8 {Q : Option AV → Hp → Prop} {ct : Nat → Bool} {pc : Nat} {ls : List (Option AV)} {st : List AV} {σ : Hp} {k : Nat × Nat} (n : Nat) (h : xe_Jxa1e45_init_da8c8 ct (Go M_Jxa1e45_init_da8c8 Q) Q n pc ls st σ k) : Go M_Jxa1e45_init_da8c8 Q pc ls st σ k := Go.exS mm_Jxa1e45_init_da8c8 h

set_option maxRecDepth 20000 in
theorem c_Jxa1e45_init_da8c8 : Ct yJxa1e45_init_da8c8 cJxa1e45_init_da8c8 1 ((none : Option FieldType)) 1 0 0 sp_Jxa1e45_init_da8c8 := by
  refine Ct.go (M := M_Jxa1e45_init_da8c8) mm_Jxa1e45_init_da8c8 fun av σ Q h0 => ?_
  obtain ⟨this, rfl, hk, h⟩ := el_Jxa1e45_init_da8c8 h0
  clear h0
  refine ⟨Nat.le_of_ble_eq_true rfl, ?_⟩
  show Go M_Jxa1e45_init_da8c8 Q 0 [some (vr this)] [] σ (0, 0)
  refine Go.wf fun hw => ?_
  have h0 : ¬ this = 0 := (hw.2.1 this (by omega)).1
  refine go_Jxa1e45_init_da8c8 (ct := fun p => p == 99) 10 ?_
  simp only [oI, oL, oR, o1, lI, lL, lR, popN, catS, gv, stL, stL2, swt, cnd, spObj, List.getElem?_cons_zero, List.getElem?_cons_succ, List.getD_cons_zero, List.getD_cons_succ, List.set_cons_zero, List.set_cons_succ, List.nil_append, List.cons_append, Option.toList, Bool.or_false, Bool.false_or, Bool.or_true, Bool.true_or, Nat.reduceBEq, Nat.reduceAdd, Nat.reduceLT, Nat.reduceLeDiff, Int.reduceAdd, Int.reduceToNat, true_and, and_true, Fin.isValue, Fin.val_zero, Fin.val_one, Fin.val_two, Fin.reduceFinMk, eq_self, Int.reduceNeg, imp_self, Nat.reduceMul, Nat.le_refl, not_true_eq_false, not_false_eq_true, List.getElem?_nil, reduceCtorEq, true_or, or_true, Classical.not_not, implies_true, or_self, wI_0, wI_1, wI_m1, b2i_w, b2i_eq0, b2i_eq1, b2i_bool, nor_self, nx_pI, kd_pI, ln_pI, fI_pI, fL_pI, fR_pI, aI_pI, aL_pI, aR_pI, nx_pL, kd_pL, ln_pL, fI_pL, fL_pL, fR_pL, aI_pL, aL_pL, aR_pL, nx_pR, kd_pR, ln_pR, fI_pR, fL_pR, fR_pR, aI_pR, aL_pR, aR_pR, nx_qI, kd_qI, ln_qI, fI_qI, fL_qI, fR_qI, aI_qI, aL_qI, aR_qI, nx_qL, kd_qL, ln_qL, fI_qL, fL_qL, fR_qL, aI_qL, aL_qL, aR_qL, nx_qR, kd_qR, ln_qR, fI_qR, fL_qR, fR_qR, aI_qR, aL_qR, aR_qR, nx_mk, kd_mk, ln_mk, fI_mk, fL_mk, fR_mk, aI_mk, aL_mk, aR_mk, false_and, and_false, if_false, if_true, and_self, Int.reduceEq, Nat.reduceEqDiff, ite_self, MLay_pI, MLay_pL, MLay_qI, MLay_qL, ev_Jxa1e45_init_da8c8_0, ev_Jxa1e45_init_da8c8_1, ev_Jxa1e45_init_da8c8_4, xt_Jxa1e45_init_da8c8, xf_Jxa1e45_init_da8c8]
  repeat' (first | intro z | apply And.intro)
  all_goals try omega
  all_goals try contradiction
  all_goals first | exact h | exact h0

def sp_Jxc12de_init_da8c8 : Sp := fun av σ Q => oR av fun this av => av = [] ∧ kd σ this = 14 ∧ (Q none (pI σ 1400 this 0))
theorem us_Jxc12de_init_da8c8 (this : Int) (σ : Hp) (Q : Option AV → Hp → Prop) : sp_Jxc12de_init_da8c8 [vr this] σ Q = (kd σ this = 14 ∧ (Q none (pI σ 1400 this 0))) := propext ⟨fun h => h.2, fun h => ⟨rfl, h⟩⟩
theorem el_Jxc12de_init_da8c8 {av : List AV} {σ : Hp} {Q : Option AV → Hp → Prop} (h : sp_Jxc12de_init_da8c8 av σ Q) : ∃ (this : Int), av = [vr this] ∧ (kd σ this = 14 ∧ (Q none (pI σ 1400 this 0))) := by
  obtain ⟨this, a0, rfl, h0⟩ := oR_s h
  obtain ⟨rfl, hz⟩ := h0
  exact ⟨this, rfl, hz⟩
theorem rc_Jxc12de_init_da8c8 : ∀ (av : List AV) (σ : Hp) (Q : Option AV → Hp → Prop), sp_Jxc12de_init_da8c8 av σ Q → ∃ r tl, av = vr r :: tl ∧ kd σ r = 13 + 1 := fun av σ Q h => by
  obtain ⟨this, rfl, hz, -⟩ := el_Jxc12de_init_da8c8 h
  exact ⟨this, _, rfl, hz⟩
theorem rcn_Jxc12de_init_da8c8 : ∀ (av : List AV) (σ : Hp) (Q : Option AV → Hp → Prop), sp_Jxc12de_init_da8c8 av σ Q → ∃ r tl, av = vr r :: tl ∧ kd σ r ≠ 0 := fun av σ Q h => by
  obtain ⟨r, tl, e, hz⟩ := rc_Jxc12de_init_da8c8 av σ Q h
  exact ⟨r, tl, e, by omega⟩

def tb_Jxc12de_init_da8c8 : Tab := [(0, .aload_n 0, 1, (0, 0, 0, 0)), (1, .invokespecial 1, 3, (0, 0, 0, 0)), (4, .aload_n 0, 1, (0, 0, 0, 0)), (5, .iconst 0, 1, (0, 0, 0, 0)), (6, .putfield 7, 3, (14, 1400, 0, 0)), (9, .return_, 1, (0, 0, 0, 0))]
set_option maxRecDepth 100000 in
theorem tk_Jxc12de_init_da8c8 : TOK RJxc12de true cJxc12de_init_da8c8 tb_Jxc12de_init_da8c8 := chkT_ok ft_Jxc12de (by decide +kernel)
theorem rw_Jxc12de_10 : Row RJxc12de (.invokespecial 1) 3 1 0 0 1 sp_Jxa1e45_init_da8c8 := row_I (n := 0) c_Jxa1e45_init_da8c8 ⟨TBL_in 168 (by decide +kernel) rfl, TBL_in 170 (by decide +kernel) rfl, TBL_in 113 (by decide +kernel) rfl, by decide +kernel, by decide⟩ (TBL_in 169 (by decide +kernel) rfl) rfl (rcn_Jxa1e45_init_da8c8)
def mt_Jxc12de_init_da8c8 : List (Nat × Mt) := [(10, 1, 0, 0, 1, sp_Jxa1e45_init_da8c8)]
theorem em_Jxc12de_init_da8c8 : mt_Jxc12de_init_da8c8.lookup 10 = some (1, 0, 0, 1, sp_Jxa1e45_init_da8c8) := rfl
theorem mk_Jxc12de_init_da8c8 : MOK RJxc12de mt_Jxc12de_init_da8c8 := by
  intro q hq
  simp only [mt_Jxc12de_init_da8c8, List.mem_cons, List.not_mem_nil, or_false] at hq
  rcases hq with rfl
  · exact rw_Jxc12de_10
noncomputable def xe_Jxc12de_init_da8c8 (ct : Nat → Bool) (K : Kt) (R : Option AV → Hp → Prop) (n : Nat) : Kt := exS 1 2 0 0 0 tb_Jxc12de_init_da8c8 mt_Jxc12de_init_da8c8 ct K R n
noncomputable def xk_Jxc12de_init_da8c8 (ct : Nat → Bool) (K : Kt) (R : Option AV → Hp → Prop) (n : Nat) : Kt := exkS 1 2 0 0 0 tb_Jxc12de_init_da8c8 mt_Jxc12de_init_da8c8 ct K R n
theorem xt_Jxc12de_init_da8c8 {ct : Nat → Bool} {K : Kt} {R : Option AV → Hp → Prop} {n pc : Nat} {ls : List (Option AV)} {st : List AV} {σ : Hp} {k : Nat × Nat} (h : ct pc = true) : xk_Jxc12de_init_da8c8 ct K R n pc ls st σ k = K pc ls st σ k := by unfold xk_Jxc12de_init_da8c8 exkS; rw [h]
theorem xf_Jxc12de_init_da8c8 {ct : Nat → Bool} {K : Kt} {R : Option AV → Hp → Prop} {n pc : Nat} {ls : List (Option AV)} {st : List AV} {σ : Hp} {k : Nat × Nat} (h : ct pc = false) : xk_Jxc12de_init_da8c8 ct K R n pc ls st σ k = xe_Jxc12de_init_da8c8 ct K R n pc ls st σ k := by unfold xk_Jxc12de_init_da8c8 exkS xe_Jxc12de_init_da8c8; rw [h]
theorem ev_Jxc12de_init_da8c8_0 {ct : Nat → Bool} {K : Kt} {R : Option AV → Hp → Prop} {n : Nat} {ls : List (Option AV)} {st : List AV} {σ : Hp} {k : Nat × Nat} : xe_Jxc12de_init_da8c8 ct K R (n + 1) 0 ls st σ k = (lR ls 0 fun x => xk_Jxc12de_init_da8c8 ct K R n 1 ls (vr x :: st) σ k) := exS_step.trans rfl
theorem ev_Jxc12de_init_da8c8_1 {ct : Nat → Bool} {K : Kt} {R : Option AV → Hp → Prop} {n : Nat} {ls : List (Option AV)} {st : List AV} {σ : Hp} {k : Nat × Nat} : xe_Jxc12de_init_da8c8 ct K R (n + 1) 1 ls st σ k = (popN 1 st [] fun av rest => (catS rest ≤ 8 ∧ 1 < 2 ∧ k.1 + 0 ≤ 0 ∧ k.2 + 0 ≤ 0) ∧ (sp_Jxa1e45_init_da8c8) av σ fun v σ' => xk_Jxc12de_init_da8c8 ct K R n 4 ls (v.toList ++ rest) σ' (k.1 + 0, k.2 + 0)) := exS_step.trans rfl
theorem ev_Jxc12de_init_da8c8_4 {ct : Nat → Bool} {K : Kt} {R : Option AV → Hp → Prop} {n : Nat} {ls : List (Option AV)} {st : List AV} {σ : Hp} {k : Nat × Nat} : xe_Jxc12de_init_da8c8 ct K R (n + 1) 4 ls st σ k = (lR ls 0 fun x => xk_Jxc12de_init_da8c8 ct K R n 5 ls (vr x :: st) σ k) := exS_step.trans rfl
theorem ev_Jxc12de_init_da8c8_5 {ct : Nat → Bool} {K : Kt} {R : Option AV → Hp → Prop} {n : Nat} {ls : List (Option AV)} {st : List AV} {σ : Hp} {k : Nat × Nat} : xe_Jxc12de_init_da8c8 ct K R (n + 1) 5 ls st σ k = (xk_Jxc12de_init_da8c8 ct K R n 6 ls (vi (0) :: st) σ k) := exS_step.trans rfl
theorem ev_Jxc12de_init_da8c8_6 {ct : Nat → Bool} {K : Kt} {R : Option AV → Hp → Prop} {n : Nat} {ls : List (Option AV)} {st : List AV} {σ : Hp} {k : Nat × Nat} : xe_Jxc12de_init_da8c8 ct K R (n + 1) 6 ls st σ k = (oI st fun v st => oR st fun x st => kd σ x = 14 ∧ xk_Jxc12de_init_da8c8 ct K R n 9 ls st (pI σ 1400 x v) k) := exS_step.trans rfl
theorem ev_Jxc12de_init_da8c8_9 {ct : Nat → Bool} {K : Kt} {R : Option AV → Hp → Prop} {n : Nat} {ls : List (Option AV)} {st : List AV} {σ : Hp} {k : Nat × Nat} : xe_Jxc12de_init_da8c8 ct K R (n + 1) 9 ls st σ k = (st = [] ∧ 0 = 0 ∧ R none σ) := exS_step.trans rfl
def M_Jxc12de_init_da8c8 : Md := (yJxc12de_init_da8c8, cJxc12de_init_da8c8, 1, (none : Option FieldType), 2, 0, 0, 0, true, tb_Jxc12de_init_da8c8, mt_Jxc12de_init_da8c8)
theorem mm_Jxc12de_init_da8c8 : MMOK M_Jxc12de_init_da8c8 := ⟨by decide +kernel, tk_Jxc12de_init_da8c8, mk_Jxc12de_init_da8c8, rfl, fun _ => rfl⟩
theorem go_Jxc12de_init_da8c8 {Q : Option AV → Hp → Prop} {ct : Nat → Bool} {pc : Nat} {ls : List (Option AV)} {st : List AV} {σ : Hp} {k : Nat × Nat} (n : Nat) (h : xe_Jxc12de_init_da8c8 ct (Go M_Jxc12de_init_da8c8 Q) Q n pc ls st σ k) : Go M_Jxc12de_init_da8c8 Q pc ls st σ k := Go.exS mm_Jxc12de_init_da8c8 h

set_option maxRecDepth 20000 in
theorem c_Jxc12de_init_da8c8 : Ct yJxc12de_init_da8c8 cJxc12de_init_da8c8 1 ((none : Option FieldType)) 2 0 0 sp_Jxc12de_init_da8c8 := by
  refine Ct.go (M := M_Jxc12de_init_da8c8) mm_Jxc12de_init_da8c8 fun av σ Q h0 => ?_
  obtain ⟨this, rfl, hk, h⟩ := el_Jxc12de_init_da8c8 h0
  clear h0
  refine ⟨Nat.le_of_ble_eq_true rfl, ?_⟩
  show Go M_Jxc12de_init_da8c8 Q 0 [some (vr this)] [] σ (0, 0)
  refine go_Jxc12de_init_da8c8 (ct := fun p => p == 99) 10 ?_
  simp only [oI, oL, oR, o1, lI, lL, lR, popN, catS, gv, stL, stL2, swt, cnd, spObj, List.getElem?_cons_zero, List.getElem?_cons_succ, List.getD_cons_zero, List.getD_cons_succ, List.set_cons_zero, List.set_cons_succ, List.nil_append, List.cons_append, Option.toList, Bool.or_false, Bool.false_or, Bool.or_true, Bool.true_or, Nat.reduceBEq, Nat.reduceAdd, Nat.reduceLT, Nat.reduceLeDiff, Int.reduceAdd, Int.reduceToNat, true_and, and_true, Fin.isValue, Fin.val_zero, Fin.val_one, Fin.val_two, Fin.reduceFinMk, eq_self, Int.reduceNeg, imp_self, Nat.reduceMul, Nat.le_refl, not_true_eq_false, not_false_eq_true, List.getElem?_nil, reduceCtorEq, true_or, or_true, Classical.not_not, implies_true, or_self, wI_0, wI_1, wI_m1, b2i_w, b2i_eq0, b2i_eq1, b2i_bool, nor_self, nx_pI, kd_pI, ln_pI, fI_pI, fL_pI, fR_pI, aI_pI, aL_pI, aR_pI, nx_pL, kd_pL, ln_pL, fI_pL, fL_pL, fR_pL, aI_pL, aL_pL, aR_pL, nx_pR, kd_pR, ln_pR, fI_pR, fL_pR, fR_pR, aI_pR, aL_pR, aR_pR, nx_qI, kd_qI, ln_qI, fI_qI, fL_qI, fR_qI, aI_qI, aL_qI, aR_qI, nx_qL, kd_qL, ln_qL, fI_qL, fL_qL, fR_qL, aI_qL, aL_qL, aR_qL, nx_qR, kd_qR, ln_qR, fI_qR, fL_qR, fR_qR, aI_qR, aL_qR, aR_qR, nx_mk, kd_mk, ln_mk, fI_mk, fL_mk, fR_mk, aI_mk, aL_mk, aR_mk, false_and, and_false, if_false, if_true, and_self, Int.reduceEq, Nat.reduceEqDiff, ite_self, MLay_pI, MLay_pL, MLay_qI, MLay_qL, ev_Jxc12de_init_da8c8_0, ev_Jxc12de_init_da8c8_1, ev_Jxc12de_init_da8c8_4, ev_Jxc12de_init_da8c8_5, ev_Jxc12de_init_da8c8_6, ev_Jxc12de_init_da8c8_9, xt_Jxc12de_init_da8c8, xf_Jxc12de_init_da8c8, us_Jxa1e45_init_da8c8, hk]
  repeat' (first | intro z | apply And.intro)
  all_goals try omega
  all_goals try contradiction
  all_goals exact h

def sp_Jx4a65c_init_da8c8 : Sp := fun av σ Q => oR av fun this av => av = [] ∧ kd σ this = 14 ∧ (Q none (pR (pI σ 1400 this 0) 1401 this (fR σ 3000 0)))
theorem us_Jx4a65c_init_da8c8 (this : Int) (σ : Hp) (Q : Option AV → Hp → Prop) : sp_Jx4a65c_init_da8c8 [vr this] σ Q = (kd σ this = 14 ∧ (Q none (pR (pI σ 1400 this 0) 1401 this (fR σ 3000 0)))) := propext ⟨fun h => h.2, fun h => ⟨rfl, h⟩⟩
theorem el_Jx4a65c_init_da8c8 {av : List AV} {σ : Hp} {Q : Option AV → Hp → Prop} (h : sp_Jx4a65c_init_da8c8 av σ Q) : ∃ (this : Int), av = [vr this] ∧ (kd σ this = 14 ∧ (Q none (pR (pI σ 1400 this 0) 1401 this (fR σ 3000 0)))) := by
  obtain ⟨this, a0, rfl, h0⟩ := oR_s h
  obtain ⟨rfl, hz⟩ := h0
  exact ⟨this, rfl, hz⟩
theorem rc_Jx4a65c_init_da8c8 : ∀ (av : List AV) (σ : Hp) (Q : Option AV → Hp → Prop), sp_Jx4a65c_init_da8c8 av σ Q → ∃ r tl, av = vr r :: tl ∧ kd σ r = 13 + 1 := fun av σ Q h => by
  obtain ⟨this, rfl, hz, -⟩ := el_Jx4a65c_init_da8c8 h
  exact ⟨this, _, rfl, hz⟩
theorem rcn_Jx4a65c_init_da8c8 : ∀ (av : List AV) (σ : Hp) (Q : Option AV → Hp → Prop), sp_Jx4a65c_init_da8c8 av σ Q → ∃ r tl, av = vr r :: tl ∧ kd σ r ≠ 0 := fun av σ Q h => by
  obtain ⟨r, tl, e, hz⟩ := rc_Jx4a65c_init_da8c8 av σ Q h
  exact ⟨r, tl, e, by omega⟩

def tb_Jx4a65c_init_da8c8 : Tab := [(0, .aload_n 0, 1, (0, 0, 0, 0)), (1, .invokespecial 1, 3, (0, 0, 0, 0)), (4, .aload_n 0, 1, (0, 0, 0, 0)), (5, .getstatic 39, 3, (0, 0, 0, 0)), (8, .putfield 9, 3, (14, 1401, 2, 0)), (11, .return_, 1, (0, 0, 0, 0))]
set_option maxRecDepth 100000 in
theorem tk_Jx4a65c_init_da8c8 : TOK RJx4a65c true cJx4a65c_init_da8c8 tb_Jx4a65c_init_da8c8 := chkT_ok ft_Jx4a65c (by decide +kernel)
theorem rw_Jx4a65c_10 : Row RJx4a65c (.invokespecial 1) 3 1 0 0 2 sp_Jxc12de_init_da8c8 := row_I (n := 0) c_Jxc12de_init_da8c8 ⟨TBL_in 165 (by decide +kernel) rfl, TBL_in 167 (by decide +kernel) rfl, TBL_in 114 (by decide +kernel) rfl, by decide +kernel, by decide⟩ (TBL_in 166 (by decide +kernel) rfl) rfl (rcn_Jxc12de_init_da8c8)
def mt_Jx4a65c_init_da8c8 : List (Nat × Mt) := [(10, 1, 0, 0, 2, sp_Jxc12de_init_da8c8), (315, 0, 0, 0, 0, spGsR 3000)]
theorem em_Jx4a65c_init_da8c8 : mt_Jx4a65c_init_da8c8.lookup 10 = some (1, 0, 0, 2, sp_Jxc12de_init_da8c8) ∧ mt_Jx4a65c_init_da8c8.lookup 315 = some (0, 0, 0, 0, spGsR 3000) := ⟨rfl, rfl⟩
theorem mk_Jx4a65c_init_da8c8 : MOK RJx4a65c mt_Jx4a65c_init_da8c8 := by
  intro q hq
  simp only [mt_Jx4a65c_init_da8c8, List.mem_cons, List.not_mem_nil, or_false] at hq
  rcases hq with rfl | rfl
  · exact rw_Jx4a65c_10
  · exact row_gsE (TBL_in 172 (by decide +kernel) rfl)
noncomputable def xe_Jx4a65c_init_da8c8 (ct : Nat → Bool) (K : Kt) (R : Option AV → Hp → Prop) (n : Nat) : Kt := exS 1 3 0 0 0 tb_Jx4a65c_init_da8c8 mt_Jx4a65c_init_da8c8 ct K R n
noncomputable def xk_Jx4a65c_init_da8c8 (ct : Nat → Bool) (K : Kt) (R : Option AV → Hp → Prop) (n : Nat) : Kt := exkS 1 3 0 0 0 tb_Jx4a65c_init_da8c8 mt_Jx4a65c_init_da8c8 ct K R n
theorem xt_Jx4a65c_init_da8c8 {ct : Nat → Bool} {K : Kt} {R : Option AV → Hp → Prop} {n pc : Nat} {ls : List (Option AV)} {st : List AV} {σ : Hp} {k : Nat × Nat} (h : ct pc = true) : xk_Jx4a65c_init_da8c8 ct K R n pc ls st σ k = K pc ls st σ k := by unfold xk_Jx4a65c_init_da8c8 exkS; rw [h]
theorem xf_Jx4a65c_init_da8c8 {ct : Nat → Bool} {K : Kt} {R : Option AV → Hp → Prop} {n pc : Nat} {ls : List (Option AV)} {st : List AV} {σ : Hp} {k : Nat × Nat} (h : ct pc = false) : xk_Jx4a65c_init_da8c8 ct K R n pc ls st σ k = xe_Jx4a65c_init_da8c8 ct K R n pc ls st σ k := by unfold xk_Jx4a65c_init_da8c8 exkS xe_Jx4a65c_init_da8c8; rw [h]
theorem ev_Jx4a65c_init_da8c8_0 {ct : Nat → Bool} {K : Kt} {R : Option AV → Hp → Prop} {n : Nat} {ls : List (Option AV)} {st : List AV} {σ : Hp} {k : Nat × Nat} : xe_Jx4a65c_init_da8c8 ct K R (n + 1) 0 ls st σ k = (lR ls 0 fun x => xk_Jx4a65c_init_da8c8 ct K R n 1 ls (vr x :: st) σ k) := exS_step.trans rfl
theorem ev_Jx4a65c_init_da8c8_1 {ct : Nat → Bool} {K : Kt} {R : Option AV → Hp → Prop} {n : Nat} {ls : List (Option AV)} {st : List AV} {σ : Hp} {k : Nat × Nat} : xe_Jx4a65c_init_da8c8 ct K R (n + 1) 1 ls st σ k = (popN 1 st [] fun av rest => (catS rest ≤ 8 ∧ 2 < 3 ∧ k.1 + 0 ≤ 0 ∧ k.2 + 0 ≤ 0) ∧ (sp_Jxc12de_init_da8c8) av σ fun v σ' => xk_Jx4a65c_init_da8c8 ct K R n 4 ls (v.toList ++ rest) σ' (k.1 + 0, k.2 + 0)) := exS_step.trans rfl
theorem ev_Jx4a65c_init_da8c8_4 {ct : Nat → Bool} {K : Kt} {R : Option AV → Hp → Prop} {n : Nat} {ls : List (Option AV)} {st : List AV} {σ : Hp} {k : Nat × Nat} : xe_Jx4a65c_init_da8c8 ct K R (n + 1) 4 ls st σ k = (lR ls 0 fun x => xk_Jx4a65c_init_da8c8 ct K R n 5 ls (vr x :: st) σ k) := exS_step.trans rfl
theorem ev_Jx4a65c_init_da8c8_5 {ct : Nat → Bool} {K : Kt} {R : Option AV → Hp → Prop} {n : Nat} {ls : List (Option AV)} {st : List AV} {σ : Hp} {k : Nat × Nat} : xe_Jx4a65c_init_da8c8 ct K R (n + 1) 5 ls st σ k = (popN 0 st [] fun av rest => (catS rest ≤ 8 ∧ 0 < 3 ∧ k.1 + 0 ≤ 0 ∧ k.2 + 0 ≤ 0) ∧ (spGsR 3000) av σ fun v σ' => xk_Jx4a65c_init_da8c8 ct K R n 8 ls (v.toList ++ rest) σ' (k.1 + 0, k.2 + 0)) := exS_step.trans rfl
theorem ev_Jx4a65c_init_da8c8_8 {ct : Nat → Bool} {K : Kt} {R : Option AV → Hp → Prop} {n : Nat} {ls : List (Option AV)} {st : List AV} {σ : Hp} {k : Nat × Nat} : xe_Jx4a65c_init_da8c8 ct K R (n + 1) 8 ls st σ k = (oR st fun v st => oR st fun x st => kd σ x = 14 ∧ xk_Jx4a65c_init_da8c8 ct K R n 11 ls st (pR σ 1401 x v) k) := exS_step.trans rfl
theorem ev_Jx4a65c_init_da8c8_11 {ct : Nat → Bool} {K : Kt} {R : Option AV → Hp → Prop} {n : Nat} {ls : List (Option AV)} {st : List AV} {σ : Hp} {k : Nat × Nat} : xe_Jx4a65c_init_da8c8 ct K R (n + 1) 11 ls st σ k = (st = [] ∧ 0 = 0 ∧ R none σ) := exS_step.trans rfl
def M_Jx4a65c_init_da8c8 : Md := (yJx4a65c_init_da8c8, cJx4a65c_init_da8c8, 1, (none : Option FieldType), 3, 0, 0, 0, true, tb_Jx4a65c_init_da8c8, mt_Jx4a65c_init_da8c8)
theorem mm_Jx4a65c_init_da8c8 : MMOK M_Jx4a65c_init_da8c8 := ⟨by decide +kernel, tk_Jx4a65c_init_da8c8, mk_Jx4a65c_init_da8c8, rfl, fun _ => rfl⟩
theorem go_Jx4a65c_init_da8c8 {Q : Option AV → Hp → Prop} {ct : Nat → Bool} {pc : Nat} {ls : List (Option AV)} {st : List AV} {σ : Hp} {k : Nat × Nat} (n : Nat) (h : xe_Jx4a65c_init_da8c8 ct (Go M_Jx4a65c_init_da8c8 Q) Q n pc ls st σ k) : Go M_Jx4a65c_init_da8c8 Q pc ls st σ k := Go.exS mm_Jx4a65c_init_da8c8 h

set_option maxRecDepth 20000 in
theorem c_Jx4a65c_init_da8c8 : Ct yJx4a65c_init_da8c8 cJx4a65c_init_da8c8 1 ((none : Option FieldType)) 3 0 0 sp_Jx4a65c_init_da8c8 := by
  refine Ct.go (M := M_Jx4a65c_init_da8c8) mm_Jx4a65c_init_da8c8 fun av σ Q h0 => ?_
  obtain ⟨this, rfl, hk, h⟩ := el_Jx4a65c_init_da8c8 h0
  clear h0
  refine ⟨Nat.le_of_ble_eq_true rfl, ?_⟩
  show Go M_Jx4a65c_init_da8c8 Q 0 [some (vr this)] [] σ (0, 0)
  refine go_Jx4a65c_init_da8c8 (ct := fun p => p == 99) 10 ?_
  simp only [oI, oL, oR, o1, lI, lL, lR, popN, catS, gv, stL, stL2, swt, cnd, spObj, List.getElem?_cons_zero, List.getElem?_cons_succ, List.getD_cons_zero, List.getD_cons_succ, List.set_cons_zero, List.set_cons_succ, List.nil_append, List.cons_append, Option.toList, Bool.or_false, Bool.false_or, Bool.or_true, Bool.true_or, Nat.reduceBEq, Nat.reduceAdd, Nat.reduceLT, Nat.reduceLeDiff, Int.reduceAdd, Int.reduceToNat, true_and, and_true, Fin.isValue, Fin.val_zero, Fin.val_one, Fin.val_two, Fin.reduceFinMk, eq_self, Int.reduceNeg, imp_self, Nat.reduceMul, Nat.le_refl, not_true_eq_false, not_false_eq_true, List.getElem?_nil, reduceCtorEq, true_or, or_true, Classical.not_not, implies_true, or_self, wI_0, wI_1, wI_m1, b2i_w, b2i_eq0, b2i_eq1, b2i_bool, nor_self, nx_pI, kd_pI, ln_pI, fI_pI, fL_pI, fR_pI, aI_pI, aL_pI, aR_pI, nx_pL, kd_pL, ln_pL, fI_pL, fL_pL, fR_pL, aI_pL, aL_pL, aR_pL, nx_pR, kd_pR, ln_pR, fI_pR, fL_pR, fR_pR, aI_pR, aL_pR, aR_pR, nx_qI, kd_qI, ln_qI, fI_qI, fL_qI, fR_qI, aI_qI, aL_qI, aR_qI, nx_qL, kd_qL, ln_qL, fI_qL, fL_qL, fR_qL, aI_qL, aL_qL, aR_qL, nx_qR, kd_qR, ln_qR, fI_qR, fL_qR, fR_qR, aI_qR, aL_qR, aR_qR, nx_mk, kd_mk, ln_mk, fI_mk, fL_mk, fR_mk, aI_mk, aL_mk, aR_mk, false_and, and_false, if_false, if_true, and_self, Int.reduceEq, Nat.reduceEqDiff, ite_self, MLay_pI, MLay_pL, MLay_qI, MLay_qL, ev_Jx4a65c_init_da8c8_0, ev_Jx4a65c_init_da8c8_1, ev_Jx4a65c_init_da8c8_4, ev_Jx4a65c_init_da8c8_5, ev_Jx4a65c_init_da8c8_8, ev_Jx4a65c_init_da8c8_11, xt_Jx4a65c_init_da8c8, xf_Jx4a65c_init_da8c8, us_Jxc12de_init_da8c8, us_GsR, hk]
  repeat' (first | intro z | apply And.intro)
  all_goals try omega
  all_goals try contradiction
  all_goals exact h

def sp_Jx4a65c_size_8abf5 : Sp := fun av σ Q => oR av fun this av => av = [] ∧ kd σ this = 14 ∧ (Q (some (vi (fI σ 1402 this))) σ)
theorem us_Jx4a65c_size_8abf5 (this : Int) (σ : Hp) (Q : Option AV → Hp → Prop) : sp_Jx4a65c_size_8abf5 [vr this] σ Q = (kd σ this = 14 ∧ (Q (some (vi (fI σ 1402 this))) σ)) := propext ⟨fun h => h.2, fun h => ⟨rfl, h⟩⟩
theorem el_Jx4a65c_size_8abf5 {av : List AV} {σ : Hp} {Q : Option AV → Hp → Prop} (h : sp_Jx4a65c_size_8abf5 av σ Q) : ∃ (this : Int), av = [vr this] ∧ (kd σ this = 14 ∧ (Q (some (vi (fI σ 1402 this))) σ)) := by
  obtain ⟨this, a0, rfl, h0⟩ := oR_s h
  obtain ⟨rfl, hz⟩ := h0
  exact ⟨this, rfl, hz⟩
theorem rc_Jx4a65c_size_8abf5 : ∀ (av : List AV) (σ : Hp) (Q : Option AV → Hp → Prop), sp_Jx4a65c_size_8abf5 av σ Q → ∃ r tl, av = vr r :: tl ∧ kd σ r = 13 + 1 := fun av σ Q h => by
  obtain ⟨this, rfl, hz, -⟩ := el_Jx4a65c_size_8abf5 h
  exact ⟨this, _, rfl, hz⟩

def tb_Jx4a65c_size_8abf5 : Tab := [(0, .aload_n 0, 1, (0, 0, 0, 0)), (1, .getfield 48, 3, (14, 1402, 0, 0)), (4, .ireturn, 1, (0, 0, 0, 0))]
set_option maxRecDepth 100000 in
theorem tk_Jx4a65c_size_8abf5 : TOK RJx4a65c false cJx4a65c_size_8abf5 tb_Jx4a65c_size_8abf5 := chkT_ok ft_Jx4a65c (by decide +kernel)
def mt_Jx4a65c_size_8abf5 : List (Nat × Mt) := []
theorem mk_Jx4a65c_size_8abf5 : MOK RJx4a65c mt_Jx4a65c_size_8abf5 := fun q hq => by cases hq
noncomputable def xe_Jx4a65c_size_8abf5 (ct : Nat → Bool) (K : Kt) (R : Option AV → Hp → Prop) (n : Nat) : Kt := exS 1 1 0 0 1 tb_Jx4a65c_size_8abf5 mt_Jx4a65c_size_8abf5 ct K R n
noncomputable def xk_Jx4a65c_size_8abf5 (ct : Nat → Bool) (K : Kt) (R : Option AV → Hp → Prop) (n : Nat) : Kt := exkS 1 1 0 0 1 tb_Jx4a65c_size_8abf5 mt_Jx4a65c_size_8abf5 ct K R n
theorem xt_Jx4a65c_size_8abf5 {ct : Nat → Bool} {K : Kt} {R : Option AV → Hp → Prop} {n pc : Nat} {ls : List (Option AV)} {st : List AV} {σ : Hp} {k : Nat × Nat} (h : ct pc = true) : xk_Jx4a65c_size_8abf5 ct K R n pc ls st σ k = K pc ls st σ k := by unfold xk_Jx4a65c_size_8abf5 exkS; rw [h]
theorem xf_Jx4a65c_size_8abf5 {ct : Nat → Bool} {K : Kt} {R : Option AV → Hp → Prop} {n pc : Nat} {ls : List (Option AV)} {st : List AV} {σ : Hp} {k : Nat × Nat} (h : ct pc = false) : xk_Jx4a65c_size_8abf5 ct K R n pc ls st σ k = xe_Jx4a65c_size_8abf5 ct K R n pc ls st σ k := by unfold xk_Jx4a65c_size_8abf5 exkS xe_Jx4a65c_size_8abf5; rw [h]
theorem ev_Jx4a65c_size_8abf5_0 {ct : Nat → Bool} {K : Kt} {R : Option AV → Hp → Prop} {n : Nat} {ls : List (Option AV)} {st : List AV} {σ : Hp} {k : Nat × Nat} : xe_Jx4a65c_size_8abf5 ct K R (n + 1) 0 ls st σ k = (lR ls 0 fun x => xk_Jx4a65c_size_8abf5 ct K R n 1 ls (vr x :: st) σ k) := exS_step.trans rfl
theorem ev_Jx4a65c_size_8abf5_1 {ct : Nat → Bool} {K : Kt} {R : Option AV → Hp → Prop} {n : Nat} {ls : List (Option AV)} {st : List AV} {σ : Hp} {k : Nat × Nat} : xe_Jx4a65c_size_8abf5 ct K R (n + 1) 1 ls st σ k = (oR st fun x st => kd σ x = 14 ∧ xk_Jx4a65c_size_8abf5 ct K R n 4 ls (vi (fI σ 1402 x) :: st) σ k) := exS_step.trans rfl
theorem ev_Jx4a65c_size_8abf5_4 {ct : Nat → Bool} {K : Kt} {R : Option AV → Hp → Prop} {n : Nat} {ls : List (Option AV)} {st : List AV} {σ : Hp} {k : Nat × Nat} : xe_Jx4a65c_size_8abf5 ct K R (n + 1) 4 ls st σ k = (oI st fun x st => st = [] ∧ True ∧ R (some (vi x)) σ) := exS_step.trans rfl
def M_Jx4a65c_size_8abf5 : Md := (yJx4a65c_size_8abf5, cJx4a65c_size_8abf5, 1, (some FieldType.int), 1, 0, 0, 1, false, tb_Jx4a65c_size_8abf5, mt_Jx4a65c_size_8abf5)
theorem mm_Jx4a65c_size_8abf5 : MMOK M_Jx4a65c_size_8abf5 := ⟨by decide +kernel, tk_Jx4a65c_size_8abf5, mk_Jx4a65c_size_8abf5, rfl, fun h => by cases h⟩
theorem go_Jx4a65c_size_8abf5 {Q : Option AV → Hp → Prop} {ct : Nat → Bool} {pc : Nat} {ls : List (Option AV)} {st : List AV} {σ : Hp} {k : Nat × Nat} (n : Nat) (h : xe_Jx4a65c_size_8abf5 ct (Go M_Jx4a65c_size_8abf5 Q) Q n pc ls st σ k) : Go M_Jx4a65c_size_8abf5 Q pc ls st σ k := Go.exS mm_Jx4a65c_size_8abf5 h

set_option maxRecDepth 20000 in
theorem c_Jx4a65c_size_8abf5 : Ct yJx4a65c_size_8abf5 cJx4a65c_size_8abf5 1 ((some FieldType.int)) 1 0 0 sp_Jx4a65c_size_8abf5 := by
  refine Ct.go (M := M_Jx4a65c_size_8abf5) mm_Jx4a65c_size_8abf5 fun av σ Q h0 => ?_
  obtain ⟨this, rfl, hk, h⟩ := el_Jx4a65c_size_8abf5 h0
  clear h0
  refine ⟨Nat.le_of_ble_eq_true rfl, ?_⟩
  show Go M_Jx4a65c_size_8abf5 Q 0 [some (vr this)] [] σ (0, 0)
  refine go_Jx4a65c_size_8abf5 (ct := fun p => p == 99) 10 ?_
  simp only [oI, oL, oR, o1, lI, lL, lR, popN, catS, gv, stL, stL2, swt, cnd, spObj, List.getElem?_cons_zero, List.getElem?_cons_succ, List.getD_cons_zero, List.getD_cons_succ, List.set_cons_zero, List.set_cons_succ, List.nil_append, List.cons_append, Option.toList, Bool.or_false, Bool.false_or, Bool.or_true, Bool.true_or, Nat.reduceBEq, Nat.reduceAdd, Nat.reduceLT, Nat.reduceLeDiff, Int.reduceAdd, Int.reduceToNat, true_and, and_true, Fin.isValue, Fin.val_zero, Fin.val_one, Fin.val_two, Fin.reduceFinMk, eq_self, Int.reduceNeg, imp_self, Nat.reduceMul, Nat.le_refl, not_true_eq_false, not_false_eq_true, List.getElem?_nil, reduceCtorEq, true_or, or_true, Classical.not_not, implies_true, or_self, wI_0, wI_1, wI_m1, b2i_w, b2i_eq0, b2i_eq1, b2i_bool, nor_self, nx_pI, kd_pI, ln_pI, fI_pI, fL_pI, fR_pI, aI_pI, aL_pI, aR_pI, nx_pL, kd_pL, ln_pL, fI_pL, fL_pL, fR_pL, aI_pL, aL_pL, aR_pL, nx_pR, kd_pR, ln_pR, fI_pR, fL_pR, fR_pR, aI_pR, aL_pR, aR_pR, nx_qI, kd_qI, ln_qI, fI_qI, fL_qI, fR_qI, aI_qI, aL_qI, aR_qI, nx_qL, kd_qL, ln_qL, fI_qL, fL_qL, fR_qL, aI_qL, aL_qL, aR_qL, nx_qR, kd_qR, ln_qR, fI_qR, fL_qR, fR_qR, aI_qR, aL_qR, aR_qR, nx_mk, kd_mk, ln_mk, fI_mk, fL_mk, fR_mk, aI_mk, aL_mk, aR_mk, false_and, and_false, if_false, if_true, and_self, Int.reduceEq, Nat.reduceEqDiff, ite_self, MLay_pI, MLay_pL, MLay_qI, MLay_qL, ev_Jx4a65c_size_8abf5_0, ev_Jx4a65c_size_8abf5_1, ev_Jx4a65c_size_8abf5_4, xt_Jx4a65c_size_8abf5, xf_Jx4a65c_size_8abf5, hk]
  exact h

def sp_Jx4a65c_elementData_915e3 : Sp := fun av σ Q => oR av fun this av => oI av fun i av => av = [] ∧ kd σ this = 14 ∧ (kd σ (fR σ 1401 this) = 105 ∧ (0 ≤ i ∧ i < ln σ (fR σ 1401 this)) ∧ Q (some (vr (aR σ (fR σ 1401 this) i))) σ)
theorem us_Jx4a65c_elementData_915e3 (this : Int) (i : Int) (σ : Hp) (Q : Option AV → Hp → Prop) : sp_Jx4a65c_elementData_915e3 [vr this, vi i] σ Q = (kd σ this = 14 ∧ (kd σ (fR σ 1401 this) = 105 ∧ (0 ≤ i ∧ i < ln σ (fR σ 1401 this)) ∧ Q (some (vr (aR σ (fR σ 1401 this) i))) σ)) := propext ⟨fun h => h.2, fun h => ⟨rfl, h⟩⟩
theorem el_Jx4a65c_elementData_915e3 {av : List AV} {σ : Hp} {Q : Option AV → Hp → Prop} (h : sp_Jx4a65c_elementData_915e3 av σ Q) : ∃ (this : Int) (i : Int), av = [vr this, vi i] ∧ (kd σ this = 14 ∧ (kd σ (fR σ 1401 this) = 105 ∧ (0 ≤ i ∧ i < ln σ (fR σ 1401 this)) ∧ Q (some (vr (aR σ (fR σ 1401 this) i))) σ)) := by
  obtain ⟨this, a0, rfl, h0⟩ := oR_s h
  obtain ⟨i, a1, rfl, h1⟩ := oI_s h0
  obtain ⟨rfl, hz⟩ := h1
  exact ⟨this, i, rfl, hz⟩
theorem rc_Jx4a65c_elementData_915e3 : ∀ (av : List AV) (σ : Hp) (Q : Option AV → Hp → Prop), sp_Jx4a65c_elementData_915e3 av σ Q → ∃ r tl, av = vr r :: tl ∧ kd σ r = 13 + 1 := fun av σ Q h => by
  obtain ⟨this, i, rfl, hz, -⟩ := el_Jx4a65c_elementData_915e3 h
  exact ⟨this, _, rfl, hz⟩

def tb_Jx4a65c_elementData_915e3 : Tab := [(0, .aload_n 0, 1, (0, 0, 0, 0)), (1, .getfield 9, 3, (14, 1401, 2, 0)), (4, .iload_n 1, 1, (0, 0, 0, 0)), (5, .aaload, 1, (0, 0, 0, 0)), (6, .areturn, 1, (0, 0, 0, 0))]
set_option maxRecDepth 100000 in
theorem tk_Jx4a65c_elementData_915e3 : TOK RJx4a65c false cJx4a65c_elementData_915e3 tb_Jx4a65c_elementData_915e3 := chkT_ok ft_Jx4a65c (by decide +kernel)
def mt_Jx4a65c_elementData_915e3 : List (Nat × Mt) := []
theorem mk_Jx4a65c_elementData_915e3 : MOK RJx4a65c mt_Jx4a65c_elementData_915e3 := fun q hq => by cases hq
noncomputable def xe_Jx4a65c_elementData_915e3 (ct : Nat → Bool) (K : Kt) (R : Option AV → Hp → Prop) (n : Nat) : Kt := exS 2 1 0 0 5 tb_Jx4a65c_elementData_915e3 mt_Jx4a65c_elementData_915e3 ct K R n
noncomputable def xk_Jx4a65c_elementData_915e3 (ct : Nat → Bool) (K : Kt) (R : Option AV → Hp → Prop) (n : Nat) : Kt := exkS 2 1 0 0 5 tb_Jx4a65c_elementData_915e3 mt_Jx4a65c_elementData_915e3 ct K R n
theorem xt_Jx4a65c_elementData_915e3 {ct : Nat → Bool} {K : Kt} {R : Option AV → Hp → Prop} {n pc : Nat} {ls : List (Option AV)} {st : List AV} {σ : Hp} {k : Nat × Nat} (h : ct pc = true) : xk_Jx4a65c_elementData_915e3 ct K R n pc ls st σ k = K pc ls st σ k := by unfold xk_Jx4a65c_elementData_915e3 exkS; rw [h]
theorem xf_Jx4a65c_elementData_915e3 {ct : Nat → Bool} {K : Kt} {R : Option AV → Hp → Prop} {n pc : Nat} {ls : List (Option AV)} {st : List AV} {σ : Hp} {k : Nat × Nat} (h : ct pc = false) : xk_Jx4a65c_elementData_915e3 ct K R n pc ls st σ k = xe_Jx4a65c_elementData_915e3 ct K R n pc ls st σ k := by unfold xk_Jx4a65c_elementData_915e3 exkS xe_Jx4a65c_elementData_915e3; rw [h]
theorem ev_Jx4a65c_elementData_915e3_0 {ct : Nat → Bool} {K : Kt} {R : Option AV → Hp → Prop} {n : Nat} {ls : List (Option AV)} {st : List AV} {σ : Hp} {k : Nat × Nat} : xe_Jx4a65c_elementData_915e3 ct K R (n + 1) 0 ls st σ k = (lR ls 0 fun x => xk_Jx4a65c_elementData_915e3 ct K R n 1 ls (vr x :: st) σ k) := exS_step.trans rfl
theorem ev_Jx4a65c_elementData_915e3_1 {ct : Nat → Bool} {K : Kt} {R : Option AV → Hp → Prop} {n : Nat} {ls : List (Option AV)} {st : List AV} {σ : Hp} {k : Nat × Nat} : xe_Jx4a65c_elementData_915e3 ct K R (n + 1) 1 ls st σ k = (oR st fun x st => kd σ x = 14 ∧ xk_Jx4a65c_elementData_915e3 ct K R n 4 ls (vr (fR σ 1401 x) :: st) σ k) := exS_step.trans rfl
theorem ev_Jx4a65c_elementData_915e3_4 {ct : Nat → Bool} {K : Kt} {R : Option AV → Hp → Prop} {n : Nat} {ls : List (Option AV)} {st : List AV} {σ : Hp} {k : Nat × Nat} : xe_Jx4a65c_elementData_915e3 ct K R (n + 1) 4 ls st σ k = (lI ls 1 fun x => xk_Jx4a65c_elementData_915e3 ct K R n 5 ls (vi x :: st) σ k) := exS_step.trans rfl
theorem ev_Jx4a65c_elementData_915e3_5 {ct : Nat → Bool} {K : Kt} {R : Option AV → Hp → Prop} {n : Nat} {ls : List (Option AV)} {st : List AV} {σ : Hp} {k : Nat × Nat} : xe_Jx4a65c_elementData_915e3 ct K R (n + 1) 5 ls st σ k = (oI st fun j st => oR st fun x st => (kd σ x = 105 ∨ kd σ x = 106 ∨ kd σ x = 107) ∧ (0 ≤ j ∧ j < ln σ x) ∧ xk_Jx4a65c_elementData_915e3 ct K R n 6 ls (vr (aR σ x j) :: st) σ k) := exS_step.trans rfl
theorem ev_Jx4a65c_elementData_915e3_6 {ct : Nat → Bool} {K : Kt} {R : Option AV → Hp → Prop} {n : Nat} {ls : List (Option AV)} {st : List AV} {σ : Hp} {k : Nat × Nat} : xe_Jx4a65c_elementData_915e3 ct K R (n + 1) 6 ls st σ k = (oR st fun x st => st = [] ∧ 5 = 5 ∧ R (some (vr x)) σ) := exS_step.trans rfl
def M_Jx4a65c_elementData_915e3 : Md := (yJx4a65c_elementData_915e3, cJx4a65c_elementData_915e3, 2, (some (FieldType.object "java/lang/Object")), 1, 0, 0, 5, false, tb_Jx4a65c_elementData_915e3, mt_Jx4a65c_elementData_915e3)
theorem mm_Jx4a65c_elementData_915e3 : MMOK M_Jx4a65c_elementData_915e3 := ⟨by decide +kernel, tk_Jx4a65c_elementData_915e3, mk_Jx4a65c_elementData_915e3, Or.inl ⟨_, rfl⟩, fun h => by cases h⟩
theorem go_Jx4a65c_elementData_915e3 {Q : Option AV → Hp → Prop} {ct : Nat → Bool} {pc : Nat} {ls : List (Option AV)} {st : List AV} {σ : Hp} {k : Nat × Nat} (n : Nat) (h : xe_Jx4a65c_elementData_915e3 ct (Go M_Jx4a65c_elementData_915e3 Q) Q n pc ls st σ k) : Go M_Jx4a65c_elementData_915e3 Q pc ls st σ k := Go.exS mm_Jx4a65c_elementData_915e3 h

set_option maxRecDepth 20000 in
theorem c_Jx4a65c_elementData_915e3 : Ct yJx4a65c_elementData_915e3 cJx4a65c_elementData_915e3 2 ((some (FieldType.object "java/lang/Object"))) 1 0 0 sp_Jx4a65c_elementData_915e3 := by
  refine Ct.go (M := M_Jx4a65c_elementData_915e3) mm_Jx4a65c_elementData_915e3 fun av σ Q h0 => ?_
  obtain ⟨this, i, rfl, hk, h⟩ := el_Jx4a65c_elementData_915e3 h0
  clear h0
  refine ⟨Nat.le_of_ble_eq_true rfl, ?_⟩
  show Go M_Jx4a65c_elementData_915e3 Q 0 [some (vr this), some (vi i)] [] σ (0, 0)
  obtain ⟨h1, h2, h⟩ := h
  refine go_Jx4a65c_elementData_915e3 (ct := fun p => p == 99) 10 ?_
  simp only [oI, oL, oR, o1, lI, lL, lR, popN, catS, gv, stL, stL2, swt, cnd, spObj, List.getElem?_cons_zero, List.getElem?_cons_succ, List.getD_cons_zero, List.getD_cons_succ, List.set_cons_zero, List.set_cons_succ, List.nil_append, List.cons_append, Option.toList, Bool.or_false, Bool.false_or, Bool.or_true, Bool.true_or, Nat.reduceBEq, Nat.reduceAdd, Nat.reduceLT, Nat.reduceLeDiff, Int.reduceAdd, Int.reduceToNat, true_and, and_true, Fin.isValue, Fin.val_zero, Fin.val_one, Fin.val_two, Fin.reduceFinMk, eq_self, Int.reduceNeg, imp_self, Nat.reduceMul, Nat.le_refl, not_true_eq_false, not_false_eq_true, List.getElem?_nil, reduceCtorEq, true_or, or_true, Classical.not_not, implies_true, or_self, wI_0, wI_1, wI_m1, b2i_w, b2i_eq0, b2i_eq1, b2i_bool, nor_self, nx_pI, kd_pI, ln_pI, fI_pI, fL_pI, fR_pI, aI_pI, aL_pI, aR_pI, nx_pL, kd_pL, ln_pL, fI_pL, fL_pL, fR_pL, aI_pL, aL_pL, aR_pL, nx_pR, kd_pR, ln_pR, fI_pR, fL_pR, fR_pR, aI_pR, aL_pR, aR_pR, nx_qI, kd_qI, ln_qI, fI_qI, fL_qI, fR_qI, aI_qI, aL_qI, aR_qI, nx_qL, kd_qL, ln_qL, fI_qL, fL_qL, fR_qL, aI_qL, aL_qL, aR_qL, nx_qR, kd_qR, ln_qR, fI_qR, fL_qR, fR_qR, aI_qR, aL_qR, aR_qR, nx_mk, kd_mk, ln_mk, fI_mk, fL_mk, fR_mk, aI_mk, aL_mk, aR_mk, false_and, and_false, if_false, if_true, and_self, Int.reduceEq, Nat.reduceEqDiff, ite_self, MLay_pI, MLay_pL, MLay_qI, MLay_qL, ev_Jx4a65c_elementData_915e3_0, ev_Jx4a65c_elementData_915e3_1, ev_Jx4a65c_elementData_915e3_4, ev_Jx4a65c_elementData_915e3_5, ev_Jx4a65c_elementData_915e3_6, xt_Jx4a65c_elementData_915e3, xf_Jx4a65c_elementData_915e3, hk, h1]
  repeat' (first | intro z | apply And.intro)
  all_goals try omega
  all_goals try contradiction
  all_goals exact h

def sp_J15_checkIndex_7cf53 : Sp := fun av σ Q => oI av fun i av => oI av fun n av => av = [] ∧ ((0 ≤ i ∧ i < n ∧ n < 2147483648) ∧ Q (some (vi i)) σ)
theorem us_J15_checkIndex_7cf53 (i : Int) (n : Int) (σ : Hp) (Q : Option AV → Hp → Prop) : sp_J15_checkIndex_7cf53 [vi i, vi n] σ Q = (((0 ≤ i ∧ i < n ∧ n < 2147483648) ∧ Q (some (vi i)) σ)) := propext ⟨fun h => h.2, fun h => ⟨rfl, h⟩⟩
theorem el_J15_checkIndex_7cf53 {av : List AV} {σ : Hp} {Q : Option AV → Hp → Prop} (h : sp_J15_checkIndex_7cf53 av σ Q) : ∃ (i : Int) (n : Int), av = [vi i, vi n] ∧ (((0 ≤ i ∧ i < n ∧ n < 2147483648) ∧ Q (some (vi i)) σ)) := by
  obtain ⟨i, a0, rfl, h0⟩ := oI_s h
  obtain ⟨n, a1, rfl, h1⟩ := oI_s h0
  obtain ⟨rfl, hz⟩ := h1
  exact ⟨i, n, rfl, hz⟩

def tb_J15_checkIndex_7cf53 : Tab := [(0, .iload_n 0, 1, (0, 0, 0, 0)), (1, .iload_n 1, 1, (0, 0, 0, 0)), (2, .aconst_null, 1, (0, 0, 0, 0)), (3, .invokestatic 105, 3, (0, 0, 0, 0)), (6, .ireturn, 1, (0, 0, 0, 0))]
set_option maxRecDepth 100000 in
theorem tk_J15_checkIndex_7cf53 : TOK RJ15 false cJ15_checkIndex_7cf53 tb_J15_checkIndex_7cf53 := chkT_ok ft_J15 (by decide +kernel)
theorem rw_J15_841 : Row RJ15 (.invokestatic 105) 3 3 0 0 1 sp_J3_checkIndex_8e157 := row_S c_J3_checkIndex_8e157 ⟨TBL_in 493 (by decide +kernel) rfl, TBL_in 495 (by decide +kernel) rfl, TBL_in 125 (by decide +kernel) rfl, by decide +kernel, by decide⟩ (TBL_in 494 (by decide +kernel) rfl)
def mt_J15_checkIndex_7cf53 : List (Nat × Mt) := [(841, 3, 0, 0, 1, sp_J3_checkIndex_8e157)]
theorem em_J15_checkIndex_7cf53 : mt_J15_checkIndex_7cf53.lookup 841 = some (3, 0, 0, 1, sp_J3_checkIndex_8e157) := rfl
theorem mk_J15_checkIndex_7cf53 : MOK RJ15 mt_J15_checkIndex_7cf53 := by
  intro q hq
  simp only [mt_J15_checkIndex_7cf53, List.mem_cons, List.not_mem_nil, or_false] at hq
  rcases hq with rfl
  · exact rw_J15_841
noncomputable def xe_J15_checkIndex_7cf53 (ct : Nat → Bool) (K : Kt) (R : Option AV → Hp → Prop) (n : Nat) : Kt := exS 2 2 0 0 1 tb_J15_checkIndex_7cf53 mt_J15_checkIndex_7cf53 ct K R n
noncomputable def xk_J15_checkIndex_7cf53 (ct : Nat → Bool) (K : Kt) (R : Option AV → Hp → Prop) (n : Nat) : Kt := exkS 2 2 0 0 1 tb_J15_checkIndex_7cf53 mt_J15_checkIndex_7cf53 ct K R n
theorem xt_J15_checkIndex_7cf53 {ct : Nat → Bool} {K : Kt} {R : Option AV → Hp → Prop} {n pc : Nat} {ls : List (Option AV)} {st : List AV} {σ : Hp} {k : Nat × Nat} (h : ct pc = true) : xk_J15_checkIndex_7cf53 ct K R n pc ls st σ k = K pc ls st σ k := by unfold xk_J15_checkIndex_7cf53 exkS; rw [h]
theorem xf_J15_checkIndex_7cf53 {ct : Nat → Bool} {K : Kt} {R : Option AV → Hp → Prop} {n pc : Nat} {ls : List (Option AV)} {st : List AV} {σ : Hp} {k : Nat × Nat} (h : ct pc = false) : xk_J15_checkIndex_7cf53 ct K R n pc ls st σ k = xe_J15_checkIndex_7cf53 ct K R n pc ls st σ k := by unfold xk_J15_checkIndex_7cf53 exkS xe_J15_checkIndex_7cf53; rw [h]
theorem ev_J15_checkIndex_7cf53_0 {ct : Nat → Bool} {K : Kt} {R : Option AV → Hp → Prop} {n : Nat} {ls : List (Option AV)} {st : List AV} {σ : Hp} {k : Nat × Nat} : xe_J15_checkIndex_7cf53 ct K R (n + 1) 0 ls st σ k = (lI ls 0 fun x => xk_J15_checkIndex_7cf53 ct K R n 1 ls (vi x :: st) σ k) := exS_step.trans rfl
theorem ev_J15_checkIndex_7cf53_1 {ct : Nat → Bool} {K : Kt} {R : Option AV → Hp → Prop} {n : Nat} {ls : List (Option AV)} {st : List AV} {σ : Hp} {k : Nat × Nat} : xe_J15_checkIndex_7cf53 ct K R (n + 1) 1 ls st σ k = (lI ls 1 fun x => xk_J15_checkIndex_7cf53 ct K R n 2 ls (vi x :: st) σ k) := exS_step.trans rfl
theorem ev_J15_checkIndex_7cf53_2 {ct : Nat → Bool} {K : Kt} {R : Option AV → Hp → Prop} {n : Nat} {ls : List (Option AV)} {st : List AV} {σ : Hp} {k : Nat × Nat} : xe_J15_checkIndex_7cf53 ct K R (n + 1) 2 ls st σ k = (xk_J15_checkIndex_7cf53 ct K R n 3 ls (vr 0 :: st) σ k) := exS_step.trans rfl
theorem ev_J15_checkIndex_7cf53_3 {ct : Nat → Bool} {K : Kt} {R : Option AV → Hp → Prop} {n : Nat} {ls : List (Option AV)} {st : List AV} {σ : Hp} {k : Nat × Nat} : xe_J15_checkIndex_7cf53 ct K R (n + 1) 3 ls st σ k = (popN 3 st [] fun av rest => (catS rest ≤ 8 ∧ 1 < 2 ∧ k.1 + 0 ≤ 0 ∧ k.2 + 0 ≤ 0) ∧ (sp_J3_checkIndex_8e157) av σ fun v σ' => xk_J15_checkIndex_7cf53 ct K R n 6 ls (v.toList ++ rest) σ' (k.1 + 0, k.2 + 0)) := exS_step.trans rfl
theorem ev_J15_checkIndex_7cf53_6 {ct : Nat → Bool} {K : Kt} {R : Option AV → Hp → Prop} {n : Nat} {ls : List (Option AV)} {st : List AV} {σ : Hp} {k : Nat × Nat} : xe_J15_checkIndex_7cf53 ct K R (n + 1) 6 ls st σ k = (oI st fun x st => st = [] ∧ True ∧ R (some (vi x)) σ) := exS_step.trans rfl
def M_J15_checkIndex_7cf53 : Md := (yJ15_checkIndex_7cf53, cJ15_checkIndex_7cf53, 2, (some FieldType.int), 2, 0, 0, 1, false, tb_J15_checkIndex_7cf53, mt_J15_checkIndex_7cf53)
theorem mm_J15_checkIndex_7cf53 : MMOK M_J15_checkIndex_7cf53 := ⟨by decide +kernel, tk_J15_checkIndex_7cf53, mk_J15_checkIndex_7cf53, rfl, fun h => by cases h⟩
theorem go_J15_checkIndex_7cf53 {Q : Option AV → Hp → Prop} {ct : Nat → Bool} {pc : Nat} {ls : List (Option AV)} {st : List AV} {σ : Hp} {k : Nat × Nat} (n : Nat) (h : xe_J15_checkIndex_7cf53 ct (Go M_J15_checkIndex_7cf53 Q) Q n pc ls st σ k) : Go M_J15_checkIndex_7cf53 Q pc ls st σ k := Go.exS mm_J15_checkIndex_7cf53 h

set_option maxRecDepth 20000 in
theorem c_J15_checkIndex_7cf53 : Ct yJ15_checkIndex_7cf53 cJ15_checkIndex_7cf53 2 ((some FieldType.int)) 2 0 0 sp_J15_checkIndex_7cf53 := by
  refine Ct.go (M := M_J15_checkIndex_7cf53) mm_J15_checkIndex_7cf53 fun av σ Q h0 => ?_
  obtain ⟨i, n, rfl, h⟩ := el_J15_checkIndex_7cf53 h0
  clear h0
  refine ⟨Nat.le_of_ble_eq_true rfl, ?_⟩
  show Go M_J15_checkIndex_7cf53 Q 0 [some (vi i), some (vi n)] [] σ (0, 0)
  obtain ⟨hi, h⟩ := h
  refine go_J15_checkIndex_7cf53 (ct := fun p => p == 99) 10 ?_
  simp only [oI, oL, oR, o1, lI, lL, lR, popN, catS, gv, stL, stL2, swt, cnd, spObj, List.getElem?_cons_zero, List.getElem?_cons_succ, List.getD_cons_zero, List.getD_cons_succ, List.set_cons_zero, List.set_cons_succ, List.nil_append, List.cons_append, Option.toList, Bool.or_false, Bool.false_or, Bool.or_true, Bool.true_or, Nat.reduceBEq, Nat.reduceAdd, Nat.reduceLT, Nat.reduceLeDiff, Int.reduceAdd, Int.reduceToNat, true_and, and_true, Fin.isValue, Fin.val_zero, Fin.val_one, Fin.val_two, Fin.reduceFinMk, eq_self, Int.reduceNeg, imp_self, Nat.reduceMul, Nat.le_refl, not_true_eq_false, not_false_eq_true, List.getElem?_nil, reduceCtorEq, true_or, or_true, Classical.not_not, implies_true, or_self, wI_0, wI_1, wI_m1, b2i_w, b2i_eq0, b2i_eq1, b2i_bool, nor_self, nx_pI, kd_pI, ln_pI, fI_pI, fL_pI, fR_pI, aI_pI, aL_pI, aR_pI, nx_pL, kd_pL, ln_pL, fI_pL, fL_pL, fR_pL, aI_pL, aL_pL, aR_pL, nx_pR, kd_pR, ln_pR, fI_pR, fL_pR, fR_pR, aI_pR, aL_pR, aR_pR, nx_qI, kd_qI, ln_qI, fI_qI, fL_qI, fR_qI, aI_qI, aL_qI, aR_qI, nx_qL, kd_qL, ln_qL, fI_qL, fL_qL, fR_qL, aI_qL, aL_qL, aR_qL, nx_qR, kd_qR, ln_qR, fI_qR, fL_qR, fR_qR, aI_qR, aL_qR, aR_qR, nx_mk, kd_mk, ln_mk, fI_mk, fL_mk, fR_mk, aI_mk, aL_mk, aR_mk, false_and, and_false, if_false, if_true, and_self, Int.reduceEq, Nat.reduceEqDiff, ite_self, MLay_pI, MLay_pL, MLay_qI, MLay_qL, ev_J15_checkIndex_7cf53_0, ev_J15_checkIndex_7cf53_1, ev_J15_checkIndex_7cf53_2, ev_J15_checkIndex_7cf53_3, ev_J15_checkIndex_7cf53_6, xt_J15_checkIndex_7cf53, xf_J15_checkIndex_7cf53, us_J3_checkIndex_8e157]
  repeat' (first | intro z | apply And.intro)
  all_goals try omega
  all_goals try contradiction
  all_goals exact h

/-- a list at p holds objects of the kind ci + 1 -/
def LOk (σ : Hp) (p : Int) (ci : Nat) : Prop := kd σ p = 14 ∧ kd σ (fR σ 1401 p) = 105 ∧ (0 ≤ fI σ 1402 p ∧ fI σ 1402 p ≤ ln σ (fR σ 1401 p)) ∧ ln σ (fR σ 1401 p) ≤ 150 ∧ (ln σ (fR σ 1401 p) = 0 → fR σ 1401 p = fR σ 3000 0) ∧ ∀ j, 0 ≤ j → j < fI σ 1402 p → kd σ (aR σ (fR σ 1401 p) j) = ci + 1
def lat (σ : Hp) (p i : Int) : Int := aR σ (fR σ 1401 p) i

def sp_Jx4a65c_get_915e3 : Sp := fun av σ Q => oR av fun this av => oI av fun i av => av = [] ∧ kd σ this = 14 ∧ ((0 ≤ i ∧ i < fI σ 1402 this) ∧ (∃ ci, LOk σ this ci) ∧ Q (some (vr (lat σ this i))) σ)
theorem us_Jx4a65c_get_915e3 (this : Int) (i : Int) (σ : Hp) (Q : Option AV → Hp → Prop) : sp_Jx4a65c_get_915e3 [vr this, vi i] σ Q = (kd σ this = 14 ∧ ((0 ≤ i ∧ i < fI σ 1402 this) ∧ (∃ ci, LOk σ this ci) ∧ Q (some (vr (lat σ this i))) σ)) := propext ⟨fun h => h.2, fun h => ⟨rfl, h⟩⟩
theorem el_Jx4a65c_get_915e3 {av : List AV} {σ : Hp} {Q : Option AV → Hp → Prop} (h : sp_Jx4a65c_get_915e3 av σ Q) : ∃ (this : Int) (i : Int), av = [vr this, vi i] ∧ (kd σ this = 14 ∧ ((0 ≤ i ∧ i < fI σ 1402 this) ∧ (∃ ci, LOk σ this ci) ∧ Q (some (vr (lat σ this i))) σ)) := by
  obtain ⟨this, a0, rfl, h0⟩ := oR_s h
  obtain ⟨i, a1, rfl, h1⟩ := oI_s h0
  obtain ⟨rfl, hz⟩ := h1
  exact ⟨this, i, rfl, hz⟩
theorem rc_Jx4a65c_get_915e3 : ∀ (av : List AV) (σ : Hp) (Q : Option AV → Hp → Prop), sp_Jx4a65c_get_915e3 av σ Q → ∃ r tl, av = vr r :: tl ∧ kd σ r = 13 + 1 := fun av σ Q h => by
  obtain ⟨this, i, rfl, hz, -⟩ := el_Jx4a65c_get_915e3 h
  exact ⟨this, _, rfl, hz⟩

def tb_Jx4a65c_get_915e3 : Tab := [(0, .iload_n 1, 1, (0, 0, 0, 0)), (1, .aload_n 0, 1, (0, 0, 0, 0)), (2, .getfield 48, 3, (14, 1402, 0, 0)), (5, .invokestatic 118, 3, (0, 0, 0, 0)), (8, .pop, 1, (0, 0, 0, 0)), (9, .aload_n 0, 1, (0, 0, 0, 0)), (10, .iload_n 1, 1, (0, 0, 0, 0)), (11, .invokevirtual 123, 3, (0, 0, 0, 0)), (14, .areturn, 1, (0, 0, 0, 0))]
set_option maxRecDepth 100000 in
theorem tk_Jx4a65c_get_915e3 : TOK RJx4a65c false cJx4a65c_get_915e3 tb_Jx4a65c_get_915e3 := chkT_ok ft_Jx4a65c (by decide +kernel)
theorem rw_Jx4a65c_945 : Row RJx4a65c (.invokestatic 118) 3 2 0 0 2 sp_J15_checkIndex_7cf53 := row_S c_J15_checkIndex_7cf53 ⟨TBL_in 490 (by decide +kernel) rfl, TBL_in 492 (by decide +kernel) rfl, TBL_in 124 (by decide +kernel) rfl, by decide +kernel, by decide⟩ (TBL_in 491 (by decide +kernel) rfl)
theorem rw_Jx4a65c_984 : Row RJx4a65c (.invokevirtual 123) 3 2 0 0 1 sp_Jx4a65c_elementData_915e3 := row_V (n := 1) (ci := 13) c_Jx4a65c_elementData_915e3 ⟨TBL_in 496 (by decide +kernel) rfl, TBL_in 499 (by decide +kernel) rfl, TBL_in 115 (by decide +kernel) rfl, by decide +kernel, by decide⟩ (by decide) rfl (TBL_in 497 (by decide +kernel) rfl) (TBL_in 498 (by decide +kernel) rfl) rc_Jx4a65c_elementData_915e3
def mt_Jx4a65c_get_915e3 : List (Nat × Mt) := [(945, 2, 0, 0, 2, sp_J15_checkIndex_7cf53), (984, 2, 0, 0, 1, sp_Jx4a65c_elementData_915e3)]
theorem em_Jx4a65c_get_915e3 : mt_Jx4a65c_get_915e3.lookup 945 = some (2, 0, 0, 2, sp_J15_checkIndex_7cf53) ∧ mt_Jx4a65c_get_915e3.lookup 984 = some (2, 0, 0, 1, sp_Jx4a65c_elementData_915e3) := ⟨rfl, rfl⟩
theorem mk_Jx4a65c_get_915e3 : MOK RJx4a65c mt_Jx4a65c_get_915e3 := by
  intro q hq
  simp only [mt_Jx4a65c_get_915e3, List.mem_cons, List.not_mem_nil, or_false] at hq
  rcases hq with rfl | rfl
  · exact rw_Jx4a65c_945
  · exact rw_Jx4a65c_984
noncomputable def xe_Jx4a65c_get_915e3 (ct : Nat → Bool) (K : Kt) (R : Option AV → Hp → Prop) (n : Nat) : Kt := exS 2 3 0 0 5 tb_Jx4a65c_get_915e3 mt_Jx4a65c_get_915e3 ct K R n
noncomputable def xk_Jx4a65c_get_915e3 (ct : Nat → Bool) (K : Kt) (R : Option AV → Hp → Prop) (n : Nat) : Kt := exkS 2 3 0 0 5 tb_Jx4a65c_get_915e3 mt_Jx4a65c_get_915e3 ct K R n
theorem xt_Jx4a65c_get_915e3 {ct : Nat → Bool} {K : Kt} {R : Option AV → Hp → Prop} {n pc : Nat} {ls : List (Option AV)} {st : List AV} {σ : Hp} {k : Nat × Nat} (h : ct pc = true) : xk_Jx4a65c_get_915e3 ct K R n pc ls st σ k = K pc ls st σ k := by unfold xk_Jx4a65c_get_915e3 exkS; rw [h]
theorem xf_Jx4a65c_get_915e3 {ct : Nat → Bool} {K : Kt} {R : Option AV → Hp → Prop} {n pc : Nat} {ls : List (Option AV)} {st : List AV} {σ : Hp} {k : Nat × Nat} (h : ct pc = false) : xk_Jx4a65c_get_915e3 ct K R n pc ls st σ k = xe_Jx4a65c_get_915e3 ct K R n pc ls st σ k := by unfold xk_Jx4a65c_get_915e3 exkS xe_Jx4a65c_get_915e3; rw [h]
theorem ev_Jx4a65c_get_915e3_0 {ct : Nat → Bool} {K : Kt} {R : Option AV → Hp → Prop} {n : Nat} {ls : List (Option AV)} {st : List AV} {σ : Hp} {k : Nat × Nat} : xe_Jx4a65c_get_915e3 ct K R (n + 1) 0 ls st σ k = (lI ls 1 fun x => xk_Jx4a65c_get_915e3 ct K R n 1 ls (vi x :: st) σ k) := exS_step.trans rfl
theorem ev_Jx4a65c_get_915e3_1 {ct : Nat → Bool} {K : Kt} {R : Option AV → Hp → Prop} {n : Nat} {ls : List (Option AV)} {st : List AV} {σ : Hp} {k : Nat × Nat} : xe_Jx4a65c_get_915e3 ct K R (n + 1) 1 ls st σ k = (lR ls 0 fun x => xk_Jx4a65c_get_915e3 ct K R n 2 ls (vr x :: st) σ k) := exS_step.trans rfl
theorem ev_Jx4a65c_get_915e3_2 {ct : Nat → Bool} {K : Kt} {R : Option AV → Hp → Prop} {n : Nat} {ls : List (Option AV)} {st : List AV} {σ : Hp} {k : Nat × Nat} : xe_Jx4a65c_get_915e3 ct K R (n + 1) 2 ls st σ k = (oR st fun x st => kd σ x = 14 ∧ xk_Jx4a65c_get_915e3 ct K R n 5 ls (vi (fI σ 1402 x) :: st) σ k) := exS_step.trans rfl
theorem ev_Jx4a65c_get_915e3_5 {ct : Nat → Bool} {K : Kt} {R : Option AV → Hp → Prop} {n : Nat} {ls : List (Option AV)} {st : List AV} {σ : Hp} {k : Nat × Nat} : xe_Jx4a65c_get_915e3 ct K R (n + 1) 5 ls st σ k = (popN 2 st [] fun av rest => (catS rest ≤ 8 ∧ 2 < 3 ∧ k.1 + 0 ≤ 0 ∧ k.2 + 0 ≤ 0) ∧ (sp_J15_checkIndex_7cf53) av σ fun v σ' => xk_Jx4a65c_get_915e3 ct K R n 8 ls (v.toList ++ rest) σ' (k.1 + 0, k.2 + 0)) := exS_step.trans rfl
theorem ev_Jx4a65c_get_915e3_8 {ct : Nat → Bool} {K : Kt} {R : Option AV → Hp → Prop} {n : Nat} {ls : List (Option AV)} {st : List AV} {σ : Hp} {k : Nat × Nat} : xe_Jx4a65c_get_915e3 ct K R (n + 1) 8 ls st σ k = (o1 st fun _ st => xk_Jx4a65c_get_915e3 ct K R n 9 ls st σ k) := exS_step.trans rfl
theorem ev_Jx4a65c_get_915e3_9 {ct : Nat → Bool} {K : Kt} {R : Option AV → Hp → Prop} {n : Nat} {ls : List (Option AV)} {st : List AV} {σ : Hp} {k : Nat × Nat} : xe_Jx4a65c_get_915e3 ct K R (n + 1) 9 ls st σ k = (lR ls 0 fun x => xk_Jx4a65c_get_915e3 ct K R n 10 ls (vr x :: st) σ k) := exS_step.trans rfl
theorem ev_Jx4a65c_get_915e3_10 {ct : Nat → Bool} {K : Kt} {R : Option AV → Hp → Prop} {n : Nat} {ls : List (Option AV)} {st : List AV} {σ : Hp} {k : Nat × Nat} : xe_Jx4a65c_get_915e3 ct K R (n + 1) 10 ls st σ k = (lI ls 1 fun x => xk_Jx4a65c_get_915e3 ct K R n 11 ls (vi x :: st) σ k) := exS_step.trans rfl
theorem ev_Jx4a65c_get_915e3_11 {ct : Nat → Bool} {K : Kt} {R : Option AV → Hp → Prop} {n : Nat} {ls : List (Option AV)} {st : List AV} {σ : Hp} {k : Nat × Nat} : xe_Jx4a65c_get_915e3 ct K R (n + 1) 11 ls st σ k = (popN 2 st [] fun av rest => (catS rest ≤ 8 ∧ 1 < 3 ∧ k.1 + 0 ≤ 0 ∧ k.2 + 0 ≤ 0) ∧ (sp_Jx4a65c_elementData_915e3) av σ fun v σ' => xk_Jx4a65c_get_915e3 ct K R n 14 ls (v.toList ++ rest) σ' (k.1 + 0, k.2 + 0)) := exS_step.trans rfl
theorem ev_Jx4a65c_get_915e3_14 {ct : Nat → Bool} {K : Kt} {R : Option AV → Hp → Prop} {n : Nat} {ls : List (Option AV)} {st : List AV} {σ : Hp} {k : Nat × Nat} : xe_Jx4a65c_get_915e3 ct K R (n + 1) 14 ls st σ k = (oR st fun x st => st = [] ∧ 5 = 5 ∧ R (some (vr x)) σ) := exS_step.trans rfl
def M_Jx4a65c_get_915e3 : Md := (yJx4a65c_get_915e3, cJx4a65c_get_915e3, 2, (some (FieldType.object "java/lang/Object")), 3, 0, 0, 5, false, tb_Jx4a65c_get_915e3, mt_Jx4a65c_get_915e3)
theorem mm_Jx4a65c_get_915e3 : MMOK M_Jx4a65c_get_915e3 := ⟨by decide +kernel, tk_Jx4a65c_get_915e3, mk_Jx4a65c_get_915e3, Or.inl ⟨_, rfl⟩, fun h => by cases h⟩
theorem go_Jx4a65c_get_915e3 {Q : Option AV → Hp → Prop} {ct : Nat → Bool} {pc : Nat} {ls : List (Option AV)} {st : List AV} {σ : Hp} {k : Nat × Nat} (n : Nat) (h : xe_Jx4a65c_get_915e3 ct (Go M_Jx4a65c_get_915e3 Q) Q n pc ls st σ k) : Go M_Jx4a65c_get_915e3 Q pc ls st σ k := Go.exS mm_Jx4a65c_get_915e3 h

set_option maxRecDepth 20000 in
theorem c_Jx4a65c_get_915e3 : Ct yJx4a65c_get_915e3 cJx4a65c_get_915e3 2 ((some (FieldType.object "java/lang/Object"))) 3 0 0 sp_Jx4a65c_get_915e3 := by
  refine Ct.go (M := M_Jx4a65c_get_915e3) mm_Jx4a65c_get_915e3 fun av σ Q h0 => ?_
  obtain ⟨this, i, rfl, hk, h⟩ := el_Jx4a65c_get_915e3 h0
  clear h0
  refine ⟨Nat.le_of_ble_eq_true rfl, ?_⟩
  show Go M_Jx4a65c_get_915e3 Q 0 [some (vr this), some (vi i)] [] σ (0, 0)
  obtain ⟨hi, ⟨ci, hL⟩, h⟩ := h
  obtain ⟨l1, l2, l3, l4, -, -⟩ := hL
  refine go_Jx4a65c_get_915e3 (ct := fun p => p == 99) 20 ?_
  simp only [oI, oL, oR, o1, lI, lL, lR, popN, catS, gv, stL, stL2, swt, cnd, spObj, List.getElem?_cons_zero, List.getElem?_cons_succ, List.getD_cons_zero, List.getD_cons_succ, List.set_cons_zero, List.set_cons_succ, List.nil_append, List.cons_append, Option.toList, Bool.or_false, Bool.false_or, Bool.or_true, Bool.true_or, Nat.reduceBEq, Nat.reduceAdd, Nat.reduceLT, Nat.reduceLeDiff, Int.reduceAdd, Int.reduceToNat, true_and, and_true, Fin.isValue, Fin.val_zero, Fin.val_one, Fin.val_two, Fin.reduceFinMk, eq_self, Int.reduceNeg, imp_self, Nat.reduceMul, Nat.le_refl, not_true_eq_false, not_false_eq_true, List.getElem?_nil, reduceCtorEq, true_or, or_true, Classical.not_not, implies_true, or_self, wI_0, wI_1, wI_m1, b2i_w, b2i_eq0, b2i_eq1, b2i_bool, nor_self, nx_pI, kd_pI, ln_pI, fI_pI, fL_pI, fR_pI, aI_pI, aL_pI, aR_pI, nx_pL, kd_pL, ln_pL, fI_pL, fL_pL, fR_pL, aI_pL, aL_pL, aR_pL, nx_pR, kd_pR, ln_pR, fI_pR, fL_pR, fR_pR, aI_pR, aL_pR, aR_pR, nx_qI, kd_qI, ln_qI, fI_qI, fL_qI, fR_qI, aI_qI, aL_qI, aR_qI, nx_qL, kd_qL, ln_qL, fI_qL, fL_qL, fR_qL, aI_qL, aL_qL, aR_qL, nx_qR, kd_qR, ln_qR, fI_qR, fL_qR, fR_qR, aI_qR, aL_qR, aR_qR, nx_mk, kd_mk, ln_mk, fI_mk, fL_mk, fR_mk, aI_mk, aL_mk, aR_mk, false_and, and_false, if_false, if_true, and_self, Int.reduceEq, Nat.reduceEqDiff, ite_self, MLay_pI, MLay_pL, MLay_qI, MLay_qL, ev_Jx4a65c_get_915e3_0, ev_Jx4a65c_get_915e3_1, ev_Jx4a65c_get_915e3_2, ev_Jx4a65c_get_915e3_5, ev_Jx4a65c_get_915e3_8, ev_Jx4a65c_get_915e3_9, ev_Jx4a65c_get_915e3_10, ev_Jx4a65c_get_915e3_11, ev_Jx4a65c_get_915e3_14, xt_Jx4a65c_get_915e3, xf_Jx4a65c_get_915e3, us_J15_checkIndex_7cf53, us_Jx4a65c_elementData_915e3, hk, l2]
  repeat' (first | intro z | apply And.intro)
  all_goals try omega
  all_goals try contradiction
  all_goals exact h

def sp_J8_newLength_cabcc : Sp := fun av σ Q => oI av fun a av => oI av fun b av => oI av fun c av => av = [] ∧ ((0 ≤ a ∧ a ≤ 1000) ∧ (1 ≤ b ∧ b ≤ 1000) ∧ (0 ≤ c ∧ c ≤ 1000) ∧ Q (some (vi (a + (if b < c then c else b)))) σ)
theorem us_J8_newLength_cabcc (a : Int) (b : Int) (c : Int) (σ : Hp) (Q : Option AV → Hp → Prop) : sp_J8_newLength_cabcc [vi a, vi b, vi c] σ Q = (((0 ≤ a ∧ a ≤ 1000) ∧ (1 ≤ b ∧ b ≤ 1000) ∧ (0 ≤ c ∧ c ≤ 1000) ∧ Q (some (vi (a + (if b < c then c else b)))) σ)) := propext ⟨fun h => h.2, fun h => ⟨rfl, h⟩⟩
theorem el_J8_newLength_cabcc {av : List AV} {σ : Hp} {Q : Option AV → Hp → Prop} (h : sp_J8_newLength_cabcc av σ Q) : ∃ (a : Int) (b : Int) (c : Int), av = [vi a, vi b, vi c] ∧ (((0 ≤ a ∧ a ≤ 1000) ∧ (1 ≤ b ∧ b ≤ 1000) ∧ (0 ≤ c ∧ c ≤ 1000) ∧ Q (some (vi (a + (if b < c then c else b)))) σ)) := by
  obtain ⟨a, a0, rfl, h0⟩ := oI_s h
  obtain ⟨b, a1, rfl, h1⟩ := oI_s h0
  obtain ⟨c, a2, rfl, h2⟩ := oI_s h1
  obtain ⟨rfl, hz⟩ := h2
  exact ⟨a, b, c, rfl, hz⟩

def tb_J8_newLength_cabcc : Tab := [(0, .iload_n 0, 1, (0, 0, 0, 0)), (1, .iload_n 1, 1, (0, 0, 0, 0)), (2, .iload_n 2, 1, (0, 0, 0, 0)), (3, .invokestatic 194, 3, (0, 0, 0, 0)), (6, .iadd, 1, (0, 0, 0, 0)), (7, .istore_n 3, 1, (0, 0, 0, 0)), (8, .iconst 0, 1, (0, 0, 0, 0)), (9, .iload_n 3, 1, (0, 0, 0, 0)), (10, .if_icmp .ge 11, 3, (0, 0, 0, 0)), (13, .iload_n 3, 1, (0, 0, 0, 0)), (14, .ldc 200, 2, (1, 0, 0, 2147483639)), (16, .if_icmp .gt 5, 3, (0, 0, 0, 0)), (19, .iload_n 3, 1, (0, 0, 0, 0)), (20, .ireturn, 1, (0, 0, 0, 0)), (21, .iload_n 0, 1, (0, 0, 0, 0)), (22, .iload_n 1, 1, (0, 0, 0, 0)), (23, .invokestatic 201, 3, (0, 0, 0, 0)), (26, .ireturn, 1, (0, 0, 0, 0))]
set_option maxRecDepth 100000 in
theorem tk_J8_newLength_cabcc : TOK RJ8 false cJ8_newLength_cabcc tb_J8_newLength_cabcc := chkT_ok ft_J8 (by decide +kernel)
theorem rw_J8_1553 : Row RJ8 (.invokestatic 194) 3 2 0 0 1 sp_J9_max_7cf53 := row_S c_J9_max_7cf53 ⟨TBL_in 650 (by decide +kernel) rfl, TBL_in 652 (by decide +kernel) rfl, TBL_in 128 (by decide +kernel) rfl, by decide +kernel, by decide⟩ (TBL_in 651 (by decide +kernel) rfl)
def mt_J8_newLength_cabcc : List (Nat × Mt) := [(1553, 2, 0, 0, 1, sp_J9_max_7cf53)]
theorem em_J8_newLength_cabcc : mt_J8_newLength_cabcc.lookup 1553 = some (2, 0, 0, 1, sp_J9_max_7cf53) := rfl
theorem mk_J8_newLength_cabcc : MOK RJ8 mt_J8_newLength_cabcc := by
  intro q hq
  simp only [mt_J8_newLength_cabcc, List.mem_cons, List.not_mem_nil, or_false] at hq
  rcases hq with rfl
  · exact rw_J8_1553
noncomputable def xe_J8_newLength_cabcc (ct : Nat → Bool) (K : Kt) (R : Option AV → Hp → Prop) (n : Nat) : Kt := exS 4 2 0 0 1 tb_J8_newLength_cabcc mt_J8_newLength_cabcc ct K R n
noncomputable def xk_J8_newLength_cabcc (ct : Nat → Bool) (K : Kt) (R : Option AV → Hp → Prop) (n : Nat) : Kt := exkS 4 2 0 0 1 tb_J8_newLength_cabcc mt_J8_newLength_cabcc ct K R n
theorem xt_J8_newLength_cabcc {ct : Nat → Bool} {K : Kt} {R : Option AV → Hp → Prop} {n pc : Nat} {ls : List (Option AV)} {st : List AV} {σ : Hp} {k : Nat × Nat} (h : ct pc = true) : xk_J8_newLength_cabcc ct K R n pc ls st σ k = K pc ls st σ k := by unfold xk_J8_newLength_cabcc exkS; rw [h]
theorem xf_J8_newLength_cabcc {ct : Nat → Bool} {K : Kt} {R : Option AV → Hp → Prop} {n pc : Nat} {ls : List (Option AV)} {st : List AV} {σ : Hp} {k : Nat × Nat} (h : ct pc = false) : xk_J8_newLength_cabcc ct K R n pc ls st σ k = xe_J8_newLength_cabcc ct K R n pc ls st σ k := by unfold xk_J8_newLength_cabcc exkS xe_J8_newLength_cabcc; rw [h]
theorem ev_J8_newLength_cabcc_0 {ct : Nat → Bool} {K : Kt} {R : Option AV → Hp → Prop} {n : Nat} {ls : List (Option AV)} {st : List AV} {σ : Hp} {k : Nat × Nat} : xe_J8_newLength_cabcc ct K R (n + 1) 0 ls st σ k = (lI ls 0 fun x => xk_J8_newLength_cabcc ct K R n 1 ls (vi x :: st) σ k) := exS_step.trans rfl
theorem ev_J8_newLength_cabcc_1 {ct : Nat → Bool} {K : Kt} {R : Option AV → Hp → Prop} {n : Nat} {ls : List (Option AV)} {st : List AV} {σ : Hp} {k : Nat × Nat} : xe_J8_newLength_cabcc ct K R (n + 1) 1 ls st σ k = (lI ls 1 fun x => xk_J8_newLength_cabcc ct K R n 2 ls (vi x :: st) σ k) := exS_step.trans rfl
theorem ev_J8_newLength_cabcc_2 {ct : Nat → Bool} {K : Kt} {R : Option AV → Hp → Prop} {n : Nat} {ls : List (Option AV)} {st : List AV} {σ : Hp} {k : Nat × Nat} : xe_J8_newLength_cabcc ct K R (n + 1) 2 ls st σ k = (lI ls 2 fun x => xk_J8_newLength_cabcc ct K R n 3 ls (vi x :: st) σ k) := exS_step.trans rfl
theorem ev_J8_newLength_cabcc_3 {ct : Nat → Bool} {K : Kt} {R : Option AV → Hp → Prop} {n : Nat} {ls : List (Option AV)} {st : List AV} {σ : Hp} {k : Nat × Nat} : xe_J8_newLength_cabcc ct K R (n + 1) 3 ls st σ k = (popN 2 st [] fun av rest => (catS rest ≤ 8 ∧ 1 < 2 ∧ k.1 + 0 ≤ 0 ∧ k.2 + 0 ≤ 0) ∧ (sp_J9_max_7cf53) av σ fun v σ' => xk_J8_newLength_cabcc ct K R n 6 ls (v.toList ++ rest) σ' (k.1 + 0, k.2 + 0)) := exS_step.trans rfl
theorem ev_J8_newLength_cabcc_6 {ct : Nat → Bool} {K : Kt} {R : Option AV → Hp → Prop} {n : Nat} {ls : List (Option AV)} {st : List AV} {σ : Hp} {k : Nat × Nat} : xe_J8_newLength_cabcc ct K R (n + 1) 6 ls st σ k = (oI st fun y st => oI st fun x st => xk_J8_newLength_cabcc ct K R n 7 ls (vi (x + y) :: st) σ k) := exS_step.trans rfl
theorem ev_J8_newLength_cabcc_7 {ct : Nat → Bool} {K : Kt} {R : Option AV → Hp → Prop} {n : Nat} {ls : List (Option AV)} {st : List AV} {σ : Hp} {k : Nat × Nat} : xe_J8_newLength_cabcc ct K R (n + 1) 7 ls st σ k = (oI st fun x st => 3 < 4 ∧ xk_J8_newLength_cabcc ct K R n 8 (stL ls 3 (vi x)) st σ k) := exS_step.trans rfl
theorem ev_J8_newLength_cabcc_8 {ct : Nat → Bool} {K : Kt} {R : Option AV → Hp → Prop} {n : Nat} {ls : List (Option AV)} {st : List AV} {σ : Hp} {k : Nat × Nat} : xe_J8_newLength_cabcc ct K R (n + 1) 8 ls st σ k = (xk_J8_newLength_cabcc ct K R n 9 ls (vi (0) :: st) σ k) := exS_step.trans rfl
theorem ev_J8_newLength_cabcc_9 {ct : Nat → Bool} {K : Kt} {R : Option AV → Hp → Prop} {n : Nat} {ls : List (Option AV)} {st : List AV} {σ : Hp} {k : Nat × Nat} : xe_J8_newLength_cabcc ct K R (n + 1) 9 ls st σ k = (lI ls 3 fun x => xk_J8_newLength_cabcc ct K R n 10 ls (vi x :: st) σ k) := exS_step.trans rfl
theorem ev_J8_newLength_cabcc_10 {ct : Nat → Bool} {K : Kt} {R : Option AV → Hp → Prop} {n : Nat} {ls : List (Option AV)} {st : List AV} {σ : Hp} {k : Nat × Nat} : xe_J8_newLength_cabcc ct K R (n + 1) 10 ls st σ k = (oI st fun y st => oI st fun x st => (wI y ≤ wI x → xk_J8_newLength_cabcc ct K R n 21 ls st σ k) ∧ (¬ (wI y ≤ wI x) → xk_J8_newLength_cabcc ct K R n 13 ls st σ k)) := exS_step.trans rfl
theorem ev_J8_newLength_cabcc_13 {ct : Nat → Bool} {K : Kt} {R : Option AV → Hp → Prop} {n : Nat} {ls : List (Option AV)} {st : List AV} {σ : Hp} {k : Nat × Nat} : xe_J8_newLength_cabcc ct K R (n + 1) 13 ls st σ k = (lI ls 3 fun x => xk_J8_newLength_cabcc ct K R n 14 ls (vi x :: st) σ k) := exS_step.trans rfl
theorem ev_J8_newLength_cabcc_14 {ct : Nat → Bool} {K : Kt} {R : Option AV → Hp → Prop} {n : Nat} {ls : List (Option AV)} {st : List AV} {σ : Hp} {k : Nat × Nat} : xe_J8_newLength_cabcc ct K R (n + 1) 14 ls st σ k = (xk_J8_newLength_cabcc ct K R n 16 ls (vi (2147483639) :: st) σ k) := exS_step.trans rfl
theorem ev_J8_newLength_cabcc_16 {ct : Nat → Bool} {K : Kt} {R : Option AV → Hp → Prop} {n : Nat} {ls : List (Option AV)} {st : List AV} {σ : Hp} {k : Nat × Nat} : xe_J8_newLength_cabcc ct K R (n + 1) 16 ls st σ k = (oI st fun y st => oI st fun x st => (wI y < wI x → xk_J8_newLength_cabcc ct K R n 21 ls st σ k) ∧ (¬ (wI y < wI x) → xk_J8_newLength_cabcc ct K R n 19 ls st σ k)) := exS_step.trans rfl
theorem ev_J8_newLength_cabcc_19 {ct : Nat → Bool} {K : Kt} {R : Option AV → Hp → Prop} {n : Nat} {ls : List (Option AV)} {st : List AV} {σ : Hp} {k : Nat × Nat} : xe_J8_newLength_cabcc ct K R (n + 1) 19 ls st σ k = (lI ls 3 fun x => xk_J8_newLength_cabcc ct K R n 20 ls (vi x :: st) σ k) := exS_step.trans rfl
theorem ev_J8_newLength_cabcc_20 {ct : Nat → Bool} {K : Kt} {R : Option AV → Hp → Prop} {n : Nat} {ls : List (Option AV)} {st : List AV} {σ : Hp} {k : Nat × Nat} : xe_J8_newLength_cabcc ct K R (n + 1) 20 ls st σ k = (oI st fun x st => st = [] ∧ True ∧ R (some (vi x)) σ) := exS_step.trans rfl
theorem ev_J8_newLength_cabcc_21 {ct : Nat → Bool} {K : Kt} {R : Option AV → Hp → Prop} {n : Nat} {ls : List (Option AV)} {st : List AV} {σ : Hp} {k : Nat × Nat} : xe_J8_newLength_cabcc ct K R (n + 1) 21 ls st σ k = (lI ls 0 fun x => xk_J8_newLength_cabcc ct K R n 22 ls (vi x :: st) σ k) := exS_step.trans rfl
theorem ev_J8_newLength_cabcc_22 {ct : Nat → Bool} {K : Kt} {R : Option AV → Hp → Prop} {n : Nat} {ls : List (Option AV)} {st : List AV} {σ : Hp} {k : Nat × Nat} : xe_J8_newLength_cabcc ct K R (n + 1) 22 ls st σ k = (lI ls 1 fun x => xk_J8_newLength_cabcc ct K R n 23 ls (vi x :: st) σ k) := exS_step.trans rfl
theorem ev_J8_newLength_cabcc_23 {ct : Nat → Bool} {K : Kt} {R : Option AV → Hp → Prop} {n : Nat} {ls : List (Option AV)} {st : List AV} {σ : Hp} {k : Nat × Nat} : xe_J8_newLength_cabcc ct K R (n + 1) 23 ls st σ k = (False) := exS_step.trans rfl
theorem ev_J8_newLength_cabcc_26 {ct : Nat → Bool} {K : Kt} {R : Option AV → Hp → Prop} {n : Nat} {ls : List (Option AV)} {st : List AV} {σ : Hp} {k : Nat × Nat} : xe_J8_newLength_cabcc ct K R (n + 1) 26 ls st σ k = (oI st fun x st => st = [] ∧ True ∧ R (some (vi x)) σ) := exS_step.trans rfl
def M_J8_newLength_cabcc : Md := (yJ8_newLength_cabcc, cJ8_newLength_cabcc, 4, (some FieldType.int), 2, 0, 0, 1, false, tb_J8_newLength_cabcc, mt_J8_newLength_cabcc)
theorem mm_J8_newLength_cabcc : MMOK M_J8_newLength_cabcc := ⟨by decide +kernel, tk_J8_newLength_cabcc, mk_J8_newLength_cabcc, rfl, fun h => by cases h⟩
theorem go_J8_newLength_cabcc {Q : Option AV → Hp → Prop} {ct : Nat → Bool} {pc : Nat} {ls : List (Option AV)} {st : List AV} {σ : Hp} {k : Nat × Nat} (n : Nat) (h : xe_J8_newLength_cabcc ct (Go M_J8_newLength_cabcc Q) Q n pc ls st σ k) : Go M_J8_newLength_cabcc Q pc ls st σ k := Go.exS mm_J8_newLength_cabcc h

set_option maxRecDepth 20000 in
theorem c_J8_newLength_cabcc : Ct yJ8_newLength_cabcc cJ8_newLength_cabcc 4 ((some FieldType.int)) 2 0 0 sp_J8_newLength_cabcc := by
  refine Ct.go (M := M_J8_newLength_cabcc) mm_J8_newLength_cabcc fun av σ Q h0 => ?_
  obtain ⟨a, b, c, rfl, h⟩ := el_J8_newLength_cabcc h0
  clear h0
  refine ⟨Nat.le_of_ble_eq_true rfl, ?_⟩
  show Go M_J8_newLength_cabcc Q 0 [some (vi a), some (vi b), some (vi c), none] [] σ (0, 0)
  obtain ⟨ha, hb, hc, h⟩ := h
  have hm : 1 ≤ (if b < c then c else b) ∧ (if b < c then c else b) ≤ 1000 := by split <;> omega
  have ev3 : ∀ x, 1 ≤ x ∧ x ≤ 1000 → Q (some (vi (a + x))) σ → Go M_J8_newLength_cabcc Q 6 [some (vi a), some (vi b), some (vi c), none] [vi x, vi a] σ (0, 0) := fun x hm h => by
    refine go_J8_newLength_cabcc (ct := fun p => p == 21) 20 ?_
    simp only [oI, oL, oR, o1, lI, lL, lR, popN, catS, gv, stL, stL2, swt, cnd, spObj, List.getElem?_cons_zero, List.getElem?_cons_succ, List.getD_cons_zero, List.getD_cons_succ, List.set_cons_zero, List.set_cons_succ, List.nil_append, List.cons_append, Option.toList, Bool.or_false, Bool.false_or, Bool.or_true, Bool.true_or, Nat.reduceBEq, Nat.reduceAdd, Nat.reduceLT, Nat.reduceLeDiff, Int.reduceAdd, Int.reduceToNat, true_and, and_true, Fin.isValue, Fin.val_zero, Fin.val_one, Fin.val_two, Fin.reduceFinMk, eq_self, Int.reduceNeg, imp_self, Nat.reduceMul, Nat.le_refl, not_true_eq_false, not_false_eq_true, List.getElem?_nil, reduceCtorEq, true_or, or_true, Classical.not_not, implies_true, or_self, wI_0, wI_1, wI_m1, b2i_w, b2i_eq0, b2i_eq1, b2i_bool, nor_self, nx_pI, kd_pI, ln_pI, fI_pI, fL_pI, fR_pI, aI_pI, aL_pI, aR_pI, nx_pL, kd_pL, ln_pL, fI_pL, fL_pL, fR_pL, aI_pL, aL_pL, aR_pL, nx_pR, kd_pR, ln_pR, fI_pR, fL_pR, fR_pR, aI_pR, aL_pR, aR_pR, nx_qI, kd_qI, ln_qI, fI_qI, fL_qI, fR_qI, aI_qI, aL_qI, aR_qI, nx_qL, kd_qL, ln_qL, fI_qL, fL_qL, fR_qL, aI_qL, aL_qL, aR_qL, nx_qR, kd_qR, ln_qR, fI_qR, fL_qR, fR_qR, aI_qR, aL_qR, aR_qR, nx_mk, kd_mk, ln_mk, fI_mk, fL_mk, fR_mk, aI_mk, aL_mk, aR_mk, false_and, and_false, if_false, if_true, and_self, Int.reduceEq, Nat.reduceEqDiff, ite_self, MLay_pI, MLay_pL, MLay_qI, MLay_qL, ev_J8_newLength_cabcc_6, ev_J8_newLength_cabcc_7, ev_J8_newLength_cabcc_8, ev_J8_newLength_cabcc_9, ev_J8_newLength_cabcc_10, ev_J8_newLength_cabcc_13, ev_J8_newLength_cabcc_14, ev_J8_newLength_cabcc_16, ev_J8_newLength_cabcc_19, ev_J8_newLength_cabcc_20, xt_J8_newLength_cabcc, xf_J8_newLength_cabcc, us_J9_max_7cf53]
    try simp (disch := omega) only [wI_id, dv_nn, rm_nn]
    repeat' (first | intro z | apply And.intro)
    all_goals try omega
    all_goals try contradiction
    all_goals exact h
  have w := ev3 _ hm h
  clear h ev3 hm
  refine go_J8_newLength_cabcc (ct := fun p => p == 6) 20 ?_
  simp only [oI, oL, oR, o1, lI, lL, lR, popN, catS, gv, stL, stL2, swt, cnd, spObj, List.getElem?_cons_zero, List.getElem?_cons_succ, List.getD_cons_zero, List.getD_cons_succ, List.set_cons_zero, List.set_cons_succ, List.nil_append, List.cons_append, Option.toList, Bool.or_false, Bool.false_or, Bool.or_true, Bool.true_or, Nat.reduceBEq, Nat.reduceAdd, Nat.reduceLT, Nat.reduceLeDiff, Int.reduceAdd, Int.reduceToNat, true_and, and_true, Fin.isValue, Fin.val_zero, Fin.val_one, Fin.val_two, Fin.reduceFinMk, eq_self, Int.reduceNeg, imp_self, Nat.reduceMul, Nat.le_refl, not_true_eq_false, not_false_eq_true, List.getElem?_nil, reduceCtorEq, true_or, or_true, Classical.not_not, implies_true, or_self, wI_0, wI_1, wI_m1, b2i_w, b2i_eq0, b2i_eq1, b2i_bool, nor_self, nx_pI, kd_pI, ln_pI, fI_pI, fL_pI, fR_pI, aI_pI, aL_pI, aR_pI, nx_pL, kd_pL, ln_pL, fI_pL, fL_pL, fR_pL, aI_pL, aL_pL, aR_pL, nx_pR, kd_pR, ln_pR, fI_pR, fL_pR, fR_pR, aI_pR, aL_pR, aR_pR, nx_qI, kd_qI, ln_qI, fI_qI, fL_qI, fR_qI, aI_qI, aL_qI, aR_qI, nx_qL, kd_qL, ln_qL, fI_qL, fL_qL, fR_qL, aI_qL, aL_qL, aR_qL, nx_qR, kd_qR, ln_qR, fI_qR, fL_qR, fR_qR, aI_qR, aL_qR, aR_qR, nx_mk, kd_mk, ln_mk, fI_mk, fL_mk, fR_mk, aI_mk, aL_mk, aR_mk, false_and, and_false, if_false, if_true, and_self, Int.reduceEq, Nat.reduceEqDiff, ite_self, MLay_pI, MLay_pL, MLay_qI, MLay_qL, ev_J8_newLength_cabcc_0, ev_J8_newLength_cabcc_1, ev_J8_newLength_cabcc_2, ev_J8_newLength_cabcc_3, xt_J8_newLength_cabcc, xf_J8_newLength_cabcc, us_J9_max_7cf53]
  repeat' (first | intro z | apply And.intro)
  all_goals try omega
  all_goals try contradiction
  all_goals exact w

theorem shrI_1 {x : Int} (h : 0 ≤ x ∧ x < 2147483648) : shrI x 1 = x / 2 := by
  unfold shrI
  rw [wI_id (by omega) h.2]
  rfl

def sp_J7_copyOf_6403c : Sp := fun av σ Q => oR av fun r av => oI av fun n av => oR av fun c av => av = [] ∧ (c = -16 ∧ kd σ r = 105 ∧ (0 ≤ n ∧ n ≤ 150) ∧ ln σ r ≤ n ∧ (∃ ci, (ci = 0 ∨ ci = 2 ∨ ci = 5) ∧ ∀ j, 0 ≤ j → j < ln σ r → aR σ r j = 0 ∨ kd σ (aR σ r j) = ci + 1) ∧ Q (some (vr (nx σ))) (cpR (mk σ 105 n) r (nx σ) (ln σ r)))
theorem us_J7_copyOf_6403c (r : Int) (n : Int) (c : Int) (σ : Hp) (Q : Option AV → Hp → Prop) : sp_J7_copyOf_6403c [vr r, vi n, vr c] σ Q = ((c = -16 ∧ kd σ r = 105 ∧ (0 ≤ n ∧ n ≤ 150) ∧ ln σ r ≤ n ∧ (∃ ci, (ci = 0 ∨ ci = 2 ∨ ci = 5) ∧ ∀ j, 0 ≤ j → j < ln σ r → aR σ r j = 0 ∨ kd σ (aR σ r j) = ci + 1) ∧ Q (some (vr (nx σ))) (cpR (mk σ 105 n) r (nx σ) (ln σ r)))) := propext ⟨fun h => h.2, fun h => ⟨rfl, h⟩⟩
theorem el_J7_copyOf_6403c {av : List AV} {σ : Hp} {Q : Option AV → Hp → Prop} (h : sp_J7_copyOf_6403c av σ Q) : ∃ (r : Int) (n : Int) (c : Int), av = [vr r, vi n, vr c] ∧ ((c = -16 ∧ kd σ r = 105 ∧ (0 ≤ n ∧ n ≤ 150) ∧ ln σ r ≤ n ∧ (∃ ci, (ci = 0 ∨ ci = 2 ∨ ci = 5) ∧ ∀ j, 0 ≤ j → j < ln σ r → aR σ r j = 0 ∨ kd σ (aR σ r j) = ci + 1) ∧ Q (some (vr (nx σ))) (cpR (mk σ 105 n) r (nx σ) (ln σ r)))) := by
  obtain ⟨r, a0, rfl, h0⟩ := oR_s h
  obtain ⟨n, a1, rfl, h1⟩ := oI_s h0
  obtain ⟨c, a2, rfl, h2⟩ := oR_s h1
  obtain ⟨rfl, hz⟩ := h2
  exact ⟨r, n, c, rfl, hz⟩

def tb_J7_copyOf_6403c : Tab := [(0, .aload_n 2, 1, (0, 0, 0, 0)), (1, .ldc 110, 2, (0, 0, 0, 0)), (3, .if_acmp .ne 10, 3, (0, 0, 0, 0)), (6, .iload_n 1, 1, (0, 0, 0, 0)), (7, .anewarray 2, 3, (0, 0, 0, 0)), (10, .goto 14, 3, (0, 0, 0, 0)), (13, .aload_n 2, 1, (0, 0, 0, 0)), (14, .invokevirtual 90, 3, (0, 0, 0, 0)), (17, .iload_n 1, 1, (0, 0, 0, 0)), (18, .invokestatic 95, 3, (0, 0, 0, 0)), (24, .astore_n 3, 1, (0, 0, 0, 0)), (25, .aload_n 0, 1, (0, 0, 0, 0)), (26, .iconst 0, 1, (0, 0, 0, 0)), (27, .aload_n 3, 1, (0, 0, 0, 0)), (28, .iconst 0, 1, (0, 0, 0, 0)), (29, .aload_n 0, 1, (0, 0, 0, 0)), (30, .arraylength, 1, (0, 0, 0, 0)), (31, .iload_n 1, 1, (0, 0, 0, 0)), (32, .invokestatic 304, 3, (0, 0, 0, 0)), (35, .invokestatic 150, 3, (0, 0, 0, 0)), (38, .aload_n 3, 1, (0, 0, 0, 0)), (39, .areturn, 1, (0, 0, 0, 0))]
set_option maxRecDepth 100000 in
theorem tk_J7_copyOf_6403c : TOK RJ7 false cJ7_copyOf_6403c tb_J7_copyOf_6403c := chkT_ok ft_J7 (by decide +kernel)
theorem rw_J7_2433 : Row RJ7 (.invokestatic 304) 3 2 0 0 1 sp_J9_min_7cf53 := row_S c_J9_min_7cf53 ⟨TBL_in 685 (by decide +kernel) rfl, TBL_in 687 (by decide +kernel) rfl, TBL_in 128 (by decide +kernel) rfl, by decide +kernel, by decide⟩ (TBL_in 686 (by decide +kernel) rfl)
def mt_J7_copyOf_6403c : List (Nat × Mt) := [(884, 0, 0, 0, 0, spMir), (21, 1, 1, 150, 0, spNewq 105 150), (2433, 2, 0, 0, 1, sp_J9_min_7cf53), (1201, 5, 0, 0, 0, spCpy)]
theorem em_J7_copyOf_6403c : mt_J7_copyOf_6403c.lookup 884 = some (0, 0, 0, 0, spMir) ∧ mt_J7_copyOf_6403c.lookup 21 = some (1, 1, 150, 0, spNewq 105 150) ∧ mt_J7_copyOf_6403c.lookup 2433 = some (2, 0, 0, 1, sp_J9_min_7cf53) ∧ mt_J7_copyOf_6403c.lookup 1201 = some (5, 0, 0, 0, spCpy) := ⟨rfl, rfl, rfl, rfl⟩
theorem mk_J7_copyOf_6403c : MOK RJ7 mt_J7_copyOf_6403c := by
  intro q hq
  simp only [mt_J7_copyOf_6403c, List.mem_cons, List.not_mem_nil, or_false] at hq
  rcases hq with rfl | rfl | rfl | rfl
  · exact row_ldcM (TBL_in 682 (by decide +kernel) rfl)
  · exact row_newq (Or.inl ⟨rfl, rfl⟩) (TBL_in 684 (by decide +kernel) rfl) (XW_in 683 (by decide +kernel) rfl) (by decide)
  · exact rw_J7_2433
  · exact row_cpy (TBL_in 688 (by decide +kernel) rfl) (TBL_in 690 (by decide +kernel) rfl) (TBL_in 689 (by decide +kernel) rfl) (TBL_in 130 (by decide +kernel) rfl)
noncomputable def xe_J7_copyOf_6403c (ct : Nat → Bool) (K : Kt) (R : Option AV → Hp → Prop) (n : Nat) : Kt := exS 4 2 1 150 5 tb_J7_copyOf_6403c mt_J7_copyOf_6403c ct K R n
noncomputable def xk_J7_copyOf_6403c (ct : Nat → Bool) (K : Kt) (R : Option AV → Hp → Prop) (n : Nat) : Kt := exkS 4 2 1 150 5 tb_J7_copyOf_6403c mt_J7_copyOf_6403c ct K R n
theorem xt_J7_copyOf_6403c {ct : Nat → Bool} {K : Kt} {R : Option AV → Hp → Prop} {n pc : Nat} {ls : List (Option AV)} {st : List AV} {σ : Hp} {k : Nat × Nat} (h : ct pc = true) : xk_J7_copyOf_6403c ct K R n pc ls st σ k = K pc ls st σ k := by unfold xk_J7_copyOf_6403c exkS; rw [h]
theorem xf_J7_copyOf_6403c {ct : Nat → Bool} {K : Kt} {R : Option AV → Hp → Prop} {n pc : Nat} {ls : List (Option AV)} {st : List AV} {σ : Hp} {k : Nat × Nat} (h : ct pc = false) : xk_J7_copyOf_6403c ct K R n pc ls st σ k = xe_J7_copyOf_6403c ct K R n pc ls st σ k := by unfold xk_J7_copyOf_6403c exkS xe_J7_copyOf_6403c; rw [h]
theorem ev_J7_copyOf_6403c_0 {ct : Nat → Bool} {K : Kt} {R : Option AV → Hp → Prop} {n : Nat} {ls : List (Option AV)} {st : List AV} {σ : Hp} {k : Nat × Nat} : xe_J7_copyOf_6403c ct K R (n + 1) 0 ls st σ k = (lR ls 2 fun x => xk_J7_copyOf_6403c ct K R n 1 ls (vr x :: st) σ k) := exS_step.trans rfl
theorem ev_J7_copyOf_6403c_1 {ct : Nat → Bool} {K : Kt} {R : Option AV → Hp → Prop} {n : Nat} {ls : List (Option AV)} {st : List AV} {σ : Hp} {k : Nat × Nat} : xe_J7_copyOf_6403c ct K R (n + 1) 1 ls st σ k = (popN 0 st [] fun av rest => (catS rest ≤ 8 ∧ 0 < 2 ∧ k.1 + 0 ≤ 1 ∧ k.2 + 0 ≤ 150) ∧ (spMir) av σ fun v σ' => xk_J7_copyOf_6403c ct K R n 3 ls (v.toList ++ rest) σ' (k.1 + 0, k.2 + 0)) := exS_step.trans rfl
theorem ev_J7_copyOf_6403c_3 {ct : Nat → Bool} {K : Kt} {R : Option AV → Hp → Prop} {n : Nat} {ls : List (Option AV)} {st : List AV} {σ : Hp} {k : Nat × Nat} : xe_J7_copyOf_6403c ct K R (n + 1) 3 ls st σ k = (oR st fun y st => oR st fun x st => (0 ≤ x ∧ 0 ≤ y) ∧ (¬ x = y → xk_J7_copyOf_6403c ct K R n 13 ls st σ k) ∧ (x = y → xk_J7_copyOf_6403c ct K R n 6 ls st σ k)) := exS_step.trans rfl
theorem ev_J7_copyOf_6403c_6 {ct : Nat → Bool} {K : Kt} {R : Option AV → Hp → Prop} {n : Nat} {ls : List (Option AV)} {st : List AV} {σ : Hp} {k : Nat × Nat} : xe_J7_copyOf_6403c ct K R (n + 1) 6 ls st σ k = (lI ls 1 fun x => xk_J7_copyOf_6403c ct K R n 7 ls (vi x :: st) σ k) := exS_step.trans rfl
theorem ev_J7_copyOf_6403c_7 {ct : Nat → Bool} {K : Kt} {R : Option AV → Hp → Prop} {n : Nat} {ls : List (Option AV)} {st : List AV} {σ : Hp} {k : Nat × Nat} : xe_J7_copyOf_6403c ct K R (n + 1) 7 ls st σ k = (popN 1 st [] fun av rest => (catS rest ≤ 8 ∧ 0 < 2 ∧ k.1 + 1 ≤ 1 ∧ k.2 + 150 ≤ 150) ∧ (spNewq 105 150) av σ fun v σ' => xk_J7_copyOf_6403c ct K R n 10 ls (v.toList ++ rest) σ' (k.1 + 1, k.2 + 150)) := exS_step.trans rfl
theorem ev_J7_copyOf_6403c_10 {ct : Nat → Bool} {K : Kt} {R : Option AV → Hp → Prop} {n : Nat} {ls : List (Option AV)} {st : List AV} {σ : Hp} {k : Nat × Nat} : xe_J7_copyOf_6403c ct K R (n + 1) 10 ls st σ k = (xk_J7_copyOf_6403c ct K R n 24 ls st σ k) := exS_step.trans rfl
theorem ev_J7_copyOf_6403c_13 {ct : Nat → Bool} {K : Kt} {R : Option AV → Hp → Prop} {n : Nat} {ls : List (Option AV)} {st : List AV} {σ : Hp} {k : Nat × Nat} : xe_J7_copyOf_6403c ct K R (n + 1) 13 ls st σ k = (lR ls 2 fun x => xk_J7_copyOf_6403c ct K R n 14 ls (vr x :: st) σ k) := exS_step.trans rfl
theorem ev_J7_copyOf_6403c_14 {ct : Nat → Bool} {K : Kt} {R : Option AV → Hp → Prop} {n : Nat} {ls : List (Option AV)} {st : List AV} {σ : Hp} {k : Nat × Nat} : xe_J7_copyOf_6403c ct K R (n + 1) 14 ls st σ k = (False) := exS_step.trans rfl
theorem ev_J7_copyOf_6403c_17 {ct : Nat → Bool} {K : Kt} {R : Option AV → Hp → Prop} {n : Nat} {ls : List (Option AV)} {st : List AV} {σ : Hp} {k : Nat × Nat} : xe_J7_copyOf_6403c ct K R (n + 1) 17 ls st σ k = (lI ls 1 fun x => xk_J7_copyOf_6403c ct K R n 18 ls (vi x :: st) σ k) := exS_step.trans rfl
theorem ev_J7_copyOf_6403c_18 {ct : Nat → Bool} {K : Kt} {R : Option AV → Hp → Prop} {n : Nat} {ls : List (Option AV)} {st : List AV} {σ : Hp} {k : Nat × Nat} : xe_J7_copyOf_6403c ct K R (n + 1) 18 ls st σ k = (False) := exS_step.trans rfl
theorem ev_J7_copyOf_6403c_24 {ct : Nat → Bool} {K : Kt} {R : Option AV → Hp → Prop} {n : Nat} {ls : List (Option AV)} {st : List AV} {σ : Hp} {k : Nat × Nat} : xe_J7_copyOf_6403c ct K R (n + 1) 24 ls st σ k = (oR st fun x st => 3 < 4 ∧ xk_J7_copyOf_6403c ct K R n 25 (stL ls 3 (vr x)) st σ k) := exS_step.trans rfl
theorem ev_J7_copyOf_6403c_25 {ct : Nat → Bool} {K : Kt} {R : Option AV → Hp → Prop} {n : Nat} {ls : List (Option AV)} {st : List AV} {σ : Hp} {k : Nat × Nat} : xe_J7_copyOf_6403c ct K R (n + 1) 25 ls st σ k = (lR ls 0 fun x => xk_J7_copyOf_6403c ct K R n 26 ls (vr x :: st) σ k) := exS_step.trans rfl
theorem ev_J7_copyOf_6403c_26 {ct : Nat → Bool} {K : Kt} {R : Option AV → Hp → Prop} {n : Nat} {ls : List (Option AV)} {st : List AV} {σ : Hp} {k : Nat × Nat} : xe_J7_copyOf_6403c ct K R (n + 1) 26 ls st σ k = (xk_J7_copyOf_6403c ct K R n 27 ls (vi (0) :: st) σ k) := exS_step.trans rfl
theorem ev_J7_copyOf_6403c_27 {ct : Nat → Bool} {K : Kt} {R : Option AV → Hp → Prop} {n : Nat} {ls : List (Option AV)} {st : List AV} {σ : Hp} {k : Nat × Nat} : xe_J7_copyOf_6403c ct K R (n + 1) 27 ls st σ k = (lR ls 3 fun x => xk_J7_copyOf_6403c ct K R n 28 ls (vr x :: st) σ k) := exS_step.trans rfl
theorem ev_J7_copyOf_6403c_28 {ct : Nat → Bool} {K : Kt} {R : Option AV → Hp → Prop} {n : Nat} {ls : List (Option AV)} {st : List AV} {σ : Hp} {k : Nat × Nat} : xe_J7_copyOf_6403c ct K R (n + 1) 28 ls st σ k = (xk_J7_copyOf_6403c ct K R n 29 ls (vi (0) :: st) σ k) := exS_step.trans rfl
theorem ev_J7_copyOf_6403c_29 {ct : Nat → Bool} {K : Kt} {R : Option AV → Hp → Prop} {n : Nat} {ls : List (Option AV)} {st : List AV} {σ : Hp} {k : Nat × Nat} : xe_J7_copyOf_6403c ct K R (n + 1) 29 ls st σ k = (lR ls 0 fun x => xk_J7_copyOf_6403c ct K R n 30 ls (vr x :: st) σ k) := exS_step.trans rfl
theorem ev_J7_copyOf_6403c_30 {ct : Nat → Bool} {K : Kt} {R : Option AV → Hp → Prop} {n : Nat} {ls : List (Option AV)} {st : List AV} {σ : Hp} {k : Nat × Nat} : xe_J7_copyOf_6403c ct K R (n + 1) 30 ls st σ k = (oR st fun x st => (101 ≤ kd σ x ∨ kd σ x = 21) ∧ xk_J7_copyOf_6403c ct K R n 31 ls (vi (ln σ x) :: st) σ k) := exS_step.trans rfl
theorem ev_J7_copyOf_6403c_31 {ct : Nat → Bool} {K : Kt} {R : Option AV → Hp → Prop} {n : Nat} {ls : List (Option AV)} {st : List AV} {σ : Hp} {k : Nat × Nat} : xe_J7_copyOf_6403c ct K R (n + 1) 31 ls st σ k = (lI ls 1 fun x => xk_J7_copyOf_6403c ct K R n 32 ls (vi x :: st) σ k) := exS_step.trans rfl
theorem ev_J7_copyOf_6403c_32 {ct : Nat → Bool} {K : Kt} {R : Option AV → Hp → Prop} {n : Nat} {ls : List (Option AV)} {st : List AV} {σ : Hp} {k : Nat × Nat} : xe_J7_copyOf_6403c ct K R (n + 1) 32 ls st σ k = (popN 2 st [] fun av rest => (catS rest ≤ 8 ∧ 1 < 2 ∧ k.1 + 0 ≤ 1 ∧ k.2 + 0 ≤ 150) ∧ (sp_J9_min_7cf53) av σ fun v σ' => xk_J7_copyOf_6403c ct K R n 35 ls (v.toList ++ rest) σ' (k.1 + 0, k.2 + 0)) := exS_step.trans rfl
theorem ev_J7_copyOf_6403c_35 {ct : Nat → Bool} {K : Kt} {R : Option AV → Hp → Prop} {n : Nat} {ls : List (Option AV)} {st : List AV} {σ : Hp} {k : Nat × Nat} : xe_J7_copyOf_6403c ct K R (n + 1) 35 ls st σ k = (popN 5 st [] fun av rest => (catS rest ≤ 8 ∧ 0 < 2 ∧ k.1 + 0 ≤ 1 ∧ k.2 + 0 ≤ 150) ∧ (spCpy) av σ fun v σ' => xk_J7_copyOf_6403c ct K R n 38 ls (v.toList ++ rest) σ' (k.1 + 0, k.2 + 0)) := exS_step.trans rfl
theorem ev_J7_copyOf_6403c_38 {ct : Nat → Bool} {K : Kt} {R : Option AV → Hp → Prop} {n : Nat} {ls : List (Option AV)} {st : List AV} {σ : Hp} {k : Nat × Nat} : xe_J7_copyOf_6403c ct K R (n + 1) 38 ls st σ k = (lR ls 3 fun x => xk_J7_copyOf_6403c ct K R n 39 ls (vr x :: st) σ k) := exS_step.trans rfl
theorem ev_J7_copyOf_6403c_39 {ct : Nat → Bool} {K : Kt} {R : Option AV → Hp → Prop} {n : Nat} {ls : List (Option AV)} {st : List AV} {σ : Hp} {k : Nat × Nat} : xe_J7_copyOf_6403c ct K R (n + 1) 39 ls st σ k = (oR st fun x st => st = [] ∧ 5 = 5 ∧ R (some (vr x)) σ) := exS_step.trans rfl
def M_J7_copyOf_6403c : Md := (yJ7_copyOf_6403c, cJ7_copyOf_6403c, 4, (some (FieldType.array (FieldType.object "java/lang/Object"))), 2, 1, 150, 5, false, tb_J7_copyOf_6403c, mt_J7_copyOf_6403c)
theorem mm_J7_copyOf_6403c : MMOK M_J7_copyOf_6403c := ⟨by decide +kernel, tk_J7_copyOf_6403c, mk_J7_copyOf_6403c, Or.inr ⟨_, rfl⟩, fun h => by cases h⟩
theorem go_J7_copyOf_6403c {Q : Option AV → Hp → Prop} {ct : Nat → Bool} {pc : Nat} {ls : List (Option AV)} {st : List AV} {σ : Hp} {k : Nat × Nat} (n : Nat) (h : xe_J7_copyOf_6403c ct (Go M_J7_copyOf_6403c Q) Q n pc ls st σ k) : Go M_J7_copyOf_6403c Q pc ls st σ k := Go.exS mm_J7_copyOf_6403c h

set_option maxRecDepth 20000 in
theorem c_J7_copyOf_6403c : Ct yJ7_copyOf_6403c cJ7_copyOf_6403c 4 ((some (FieldType.array (FieldType.object "java/lang/Object")))) 2 1 150 sp_J7_copyOf_6403c := by
  refine Ct.go (M := M_J7_copyOf_6403c) mm_J7_copyOf_6403c fun av σ Q h0 => ?_
  obtain ⟨r, n, c, rfl, h⟩ := el_J7_copyOf_6403c h0
  clear h0
  refine ⟨Nat.le_of_ble_eq_true rfl, ?_⟩
  show Go M_J7_copyOf_6403c Q 0 [some (vr r), some (vi n), some (vr c), none] [] σ (0, 0)
  obtain ⟨rfl, hk1, hn, hl, ⟨ci, hci, hel⟩, h⟩ := h
  refine Go.wf fun hw => ?_
  have hnx := hw.1
  have hr := (hw.2.1 r (by omega)).2.1
  have hlr := hw.2.2.1 r
  have e1 : ¬ r = nx σ := by omega
  have hel2 : ∃ ci, (ci = 0 ∨ ci = 2 ∨ ci = 5) ∧ ∀ j, 0 ≤ j → j < ln σ r → aR σ r j = 0 ∨ kd (mk σ 105 n) (aR σ r j) = ci + 1 := ⟨ci, hci, fun j a b => by
    rcases hel j a b with z | z
    · exact Or.inl z
    · right
      have := (hw.2.1 (aR σ r j) (by omega)).2.1
      rw [kd_mk, if_neg (by omega)]
      exact z⟩
  have e2 : (if n < ln σ r then n else ln σ r) = ln σ r := by split <;> omega
  clear hw hel
  have w6 : Go M_J7_copyOf_6403c Q 6 [some (vr r), some (vi n), some (vr (-16)), none] [] σ (0, 0) := by
    refine go_J7_copyOf_6403c (ct := fun p => p == 99) 40 ?_
    simp only [kd_mk] at hel2
    simp only [oI, oL, oR, o1, lI, lL, lR, popN, catS, gv, stL, stL2, swt, cnd, spObj, List.getElem?_cons_zero, List.getElem?_cons_succ, List.getD_cons_zero, List.getD_cons_succ, List.set_cons_zero, List.set_cons_succ, List.nil_append, List.cons_append, Option.toList, Bool.or_false, Bool.false_or, Bool.or_true, Bool.true_or, Nat.reduceBEq, Nat.reduceAdd, Nat.reduceLT, Nat.reduceLeDiff, Int.reduceAdd, Int.reduceToNat, true_and, and_true, Fin.isValue, Fin.val_zero, Fin.val_one, Fin.val_two, Fin.reduceFinMk, eq_self, Int.reduceNeg, imp_self, Nat.reduceMul, Nat.le_refl, not_true_eq_false, not_false_eq_true, List.getElem?_nil, reduceCtorEq, true_or, or_true, Classical.not_not, implies_true, or_self, wI_0, wI_1, wI_m1, b2i_w, b2i_eq0, b2i_eq1, b2i_bool, nor_self, nx_pI, kd_pI, ln_pI, fI_pI, fL_pI, fR_pI, aI_pI, aL_pI, aR_pI, nx_pL, kd_pL, ln_pL, fI_pL, fL_pL, fR_pL, aI_pL, aL_pL, aR_pL, nx_pR, kd_pR, ln_pR, fI_pR, fL_pR, fR_pR, aI_pR, aL_pR, aR_pR, nx_qI, kd_qI, ln_qI, fI_qI, fL_qI, fR_qI, aI_qI, aL_qI, aR_qI, nx_qL, kd_qL, ln_qL, fI_qL, fL_qL, fR_qL, aI_qL, aL_qL, aR_qL, nx_qR, kd_qR, ln_qR, fI_qR, fL_qR, fR_qR, aI_qR, aL_qR, aR_qR, nx_mk, kd_mk, ln_mk, fI_mk, fL_mk, fR_mk, aI_mk, aL_mk, aR_mk, false_and, and_false, if_false, if_true, and_self, Int.reduceEq, Nat.reduceEqDiff, ite_self, MLay_pI, MLay_pL, MLay_qI, MLay_qL, ev_J7_copyOf_6403c_6, ev_J7_copyOf_6403c_7, ev_J7_copyOf_6403c_10, ev_J7_copyOf_6403c_24, ev_J7_copyOf_6403c_25, ev_J7_copyOf_6403c_26, ev_J7_copyOf_6403c_27, ev_J7_copyOf_6403c_28, ev_J7_copyOf_6403c_29, ev_J7_copyOf_6403c_30, ev_J7_copyOf_6403c_31, ev_J7_copyOf_6403c_32, ev_J7_copyOf_6403c_35, ev_J7_copyOf_6403c_38, ev_J7_copyOf_6403c_39, xt_J7_copyOf_6403c, xf_J7_copyOf_6403c, us_J9_min_7cf53, us_Newq, us_Cpy, e1, e2, hk1]
    repeat' (first | intro z | apply And.intro)
    all_goals try omega
    all_goals try contradiction
    all_goals first | exact hel2 | exact h
  have w3 : Go M_J7_copyOf_6403c Q 3 [some (vr r), some (vi n), some (vr (-16)), none] [vr (-16), vr (-16)] σ (0, 0) := go_acmpNe (off := 10) (tgt := 13) (by decide) (by decide +kernel) w6
  refine go_J7_copyOf_6403c (ct := fun p => p == 3) 10 ?_
  simp only [oI, oL, oR, o1, lI, lL, lR, popN, catS, gv, stL, stL2, swt, cnd, spObj, List.getElem?_cons_zero, List.getElem?_cons_succ, List.getD_cons_zero, List.getD_cons_succ, List.set_cons_zero, List.set_cons_succ, List.nil_append, List.cons_append, Option.toList, Bool.or_false, Bool.false_or, Bool.or_true, Bool.true_or, Nat.reduceBEq, Nat.reduceAdd, Nat.reduceLT, Nat.reduceLeDiff, Int.reduceAdd, Int.reduceToNat, true_and, and_true, Fin.isValue, Fin.val_zero, Fin.val_one, Fin.val_two, Fin.reduceFinMk, eq_self, Int.reduceNeg, imp_self, Nat.reduceMul, Nat.le_refl, not_true_eq_false, not_false_eq_true, List.getElem?_nil, reduceCtorEq, true_or, or_true, Classical.not_not, implies_true, or_self, wI_0, wI_1, wI_m1, b2i_w, b2i_eq0, b2i_eq1, b2i_bool, nor_self, nx_pI, kd_pI, ln_pI, fI_pI, fL_pI, fR_pI, aI_pI, aL_pI, aR_pI, nx_pL, kd_pL, ln_pL, fI_pL, fL_pL, fR_pL, aI_pL, aL_pL, aR_pL, nx_pR, kd_pR, ln_pR, fI_pR, fL_pR, fR_pR, aI_pR, aL_pR, aR_pR, nx_qI, kd_qI, ln_qI, fI_qI, fL_qI, fR_qI, aI_qI, aL_qI, aR_qI, nx_qL, kd_qL, ln_qL, fI_qL, fL_qL, fR_qL, aI_qL, aL_qL, aR_qL, nx_qR, kd_qR, ln_qR, fI_qR, fL_qR, fR_qR, aI_qR, aL_qR, aR_qR, nx_mk, kd_mk, ln_mk, fI_mk, fL_mk, fR_mk, aI_mk, aL_mk, aR_mk, false_and, and_false, if_false, if_true, and_self, Int.reduceEq, Nat.reduceEqDiff, ite_self, MLay_pI, MLay_pL, MLay_qI, MLay_qL, ev_J7_copyOf_6403c_0, ev_J7_copyOf_6403c_1, xt_J7_copyOf_6403c, xf_J7_copyOf_6403c, us_J9_min_7cf53, us_Mir]
  repeat' (first | intro z | apply And.intro)
  all_goals try omega
  all_goals try contradiction
  all_goals exact w3

def sp_J7_copyOf_1904c : Sp := fun av σ Q => oR av fun r av => oI av fun n av => av = [] ∧ (kd σ r = 105 ∧ (0 ≤ n ∧ n ≤ 150) ∧ ln σ r ≤ n ∧ (∃ ci, (ci = 0 ∨ ci = 2 ∨ ci = 5) ∧ ∀ j, 0 ≤ j → j < ln σ r → aR σ r j = 0 ∨ kd σ (aR σ r j) = ci + 1) ∧ Q (some (vr (nx σ))) (cpR (mk σ 105 n) r (nx σ) (ln σ r)))
theorem us_J7_copyOf_1904c (r : Int) (n : Int) (σ : Hp) (Q : Option AV → Hp → Prop) : sp_J7_copyOf_1904c [vr r, vi n] σ Q = ((kd σ r = 105 ∧ (0 ≤ n ∧ n ≤ 150) ∧ ln σ r ≤ n ∧ (∃ ci, (ci = 0 ∨ ci = 2 ∨ ci = 5) ∧ ∀ j, 0 ≤ j → j < ln σ r → aR σ r j = 0 ∨ kd σ (aR σ r j) = ci + 1) ∧ Q (some (vr (nx σ))) (cpR (mk σ 105 n) r (nx σ) (ln σ r)))) := propext ⟨fun h => h.2, fun h => ⟨rfl, h⟩⟩
theorem el_J7_copyOf_1904c {av : List AV} {σ : Hp} {Q : Option AV → Hp → Prop} (h : sp_J7_copyOf_1904c av σ Q) : ∃ (r : Int) (n : Int), av = [vr r, vi n] ∧ ((kd σ r = 105 ∧ (0 ≤ n ∧ n ≤ 150) ∧ ln σ r ≤ n ∧ (∃ ci, (ci = 0 ∨ ci = 2 ∨ ci = 5) ∧ ∀ j, 0 ≤ j → j < ln σ r → aR σ r j = 0 ∨ kd σ (aR σ r j) = ci + 1) ∧ Q (some (vr (nx σ))) (cpR (mk σ 105 n) r (nx σ) (ln σ r)))) := by
  obtain ⟨r, a0, rfl, h0⟩ := oR_s h
  obtain ⟨n, a1, rfl, h1⟩ := oI_s h0
  obtain ⟨rfl, hz⟩ := h1
  exact ⟨r, n, rfl, hz⟩

def tb_J7_copyOf_1904c : Tab := [(0, .aload_n 0, 1, (0, 0, 0, 0)), (1, .iload_n 1, 1, (0, 0, 0, 0)), (2, .aload_n 0, 1, (0, 0, 0, 0)), (3, .invokevirtual 86, 3, (0, 0, 0, 0)), (6, .invokestatic 300, 3, (0, 0, 0, 0)), (9, .areturn, 1, (0, 0, 0, 0))]
set_option maxRecDepth 100000 in
theorem tk_J7_copyOf_1904c : TOK RJ7 false cJ7_copyOf_1904c tb_J7_copyOf_1904c := chkT_ok ft_J7 (by decide +kernel)
theorem rw_J7_2401 : Row RJ7 (.invokestatic 300) 3 3 1 150 2 sp_J7_copyOf_6403c := row_S c_J7_copyOf_6403c ⟨TBL_in 679 (by decide +kernel) rfl, TBL_in 681 (by decide +kernel) rfl, TBL_in 129 (by decide +kernel) rfl, by decide +kernel, by decide⟩ (TBL_in 680 (by decide +kernel) rfl)
def mt_J7_copyOf_1904c : List (Nat × Mt) := [(688, 1, 0, 0, 0, spGetC), (2401, 3, 1, 150, 2, sp_J7_copyOf_6403c)]
theorem em_J7_copyOf_1904c : mt_J7_copyOf_1904c.lookup 688 = some (1, 0, 0, 0, spGetC) ∧ mt_J7_copyOf_1904c.lookup 2401 = some (3, 1, 150, 2, sp_J7_copyOf_6403c) := ⟨rfl, rfl⟩
theorem mk_J7_copyOf_1904c : MOK RJ7 mt_J7_copyOf_1904c := by
  intro q hq
  simp only [mt_J7_copyOf_1904c, List.mem_cons, List.not_mem_nil, or_false] at hq
  rcases hq with rfl | rfl
  · exact row_getC (TBL_in 660 (by decide +kernel) rfl) (XW_in 2124 (by decide +kernel) rfl) (TBL_in 2123 (by decide +kernel) rfl) (TBL_in 661 (by decide +kernel) rfl) (TBL_in 678 (by decide +kernel) rfl)
  · exact rw_J7_2401
noncomputable def xe_J7_copyOf_1904c (ct : Nat → Bool) (K : Kt) (R : Option AV → Hp → Prop) (n : Nat) : Kt := exS 2 3 1 150 5 tb_J7_copyOf_1904c mt_J7_copyOf_1904c ct K R n
noncomputable def xk_J7_copyOf_1904c (ct : Nat → Bool) (K : Kt) (R : Option AV → Hp → Prop) (n : Nat) : Kt := exkS 2 3 1 150 5 tb_J7_copyOf_1904c mt_J7_copyOf_1904c ct K R n
theorem xt_J7_copyOf_1904c {ct : Nat → Bool} {K : Kt} {R : Option AV → Hp → Prop} {n pc : Nat} {ls : List (Option AV)} {st : List AV} {σ : Hp} {k : Nat × Nat} (h : ct pc = true) : xk_J7_copyOf_1904c ct K R n pc ls st σ k = K pc ls st σ k := by unfold xk_J7_copyOf_1904c exkS; rw [h]
theorem xf_J7_copyOf_1904c {ct : Nat → Bool} {K : Kt} {R : Option AV → Hp → Prop} {n pc : Nat} {ls : List (Option AV)} {st : List AV} {σ : Hp} {k : Nat × Nat} (h : ct pc = false) : xk_J7_copyOf_1904c ct K R n pc ls st σ k = xe_J7_copyOf_1904c ct K R n pc ls st σ k := by unfold xk_J7_copyOf_1904c exkS xe_J7_copyOf_1904c; rw [h]
theorem ev_J7_copyOf_1904c_0 {ct : Nat → Bool} {K : Kt} {R : Option AV → Hp → Prop} {n : Nat} {ls : List (Option AV)} {st : List AV} {σ : Hp} {k : Nat × Nat} : xe_J7_copyOf_1904c ct K R (n + 1) 0 ls st σ k = (lR ls 0 fun x => xk_J7_copyOf_1904c ct K R n 1 ls (vr x :: st) σ k) := exS_step.trans rfl
theorem ev_J7_copyOf_1904c_1 {ct : Nat → Bool} {K : Kt} {R : Option AV → Hp → Prop} {n : Nat} {ls : List (Option AV)} {st : List AV} {σ : Hp} {k : Nat × Nat} : xe_J7_copyOf_1904c ct K R (n + 1) 1 ls st σ k = (lI ls 1 fun x => xk_J7_copyOf_1904c ct K R n 2 ls (vi x :: st) σ k) := exS_step.trans rfl
theorem ev_J7_copyOf_1904c_2 {ct : Nat → Bool} {K : Kt} {R : Option AV → Hp → Prop} {n : Nat} {ls : List (Option AV)} {st : List AV} {σ : Hp} {k : Nat × Nat} : xe_J7_copyOf_1904c ct K R (n + 1) 2 ls st σ k = (lR ls 0 fun x => xk_J7_copyOf_1904c ct K R n 3 ls (vr x :: st) σ k) := exS_step.trans rfl
theorem ev_J7_copyOf_1904c_3 {ct : Nat → Bool} {K : Kt} {R : Option AV → Hp → Prop} {n : Nat} {ls : List (Option AV)} {st : List AV} {σ : Hp} {k : Nat × Nat} : xe_J7_copyOf_1904c ct K R (n + 1) 3 ls st σ k = (popN 1 st [] fun av rest => (catS rest ≤ 8 ∧ 0 < 3 ∧ k.1 + 0 ≤ 1 ∧ k.2 + 0 ≤ 150) ∧ (spGetC) av σ fun v σ' => xk_J7_copyOf_1904c ct K R n 6 ls (v.toList ++ rest) σ' (k.1 + 0, k.2 + 0)) := exS_step.trans rfl
theorem ev_J7_copyOf_1904c_6 {ct : Nat → Bool} {K : Kt} {R : Option AV → Hp → Prop} {n : Nat} {ls : List (Option AV)} {st : List AV} {σ : Hp} {k : Nat × Nat} : xe_J7_copyOf_1904c ct K R (n + 1) 6 ls st σ k = (popN 3 st [] fun av rest => (catS rest ≤ 8 ∧ 2 < 3 ∧ k.1 + 1 ≤ 1 ∧ k.2 + 150 ≤ 150) ∧ (sp_J7_copyOf_6403c) av σ fun v σ' => xk_J7_copyOf_1904c ct K R n 9 ls (v.toList ++ rest) σ' (k.1 + 1, k.2 + 150)) := exS_step.trans rfl
theorem ev_J7_copyOf_1904c_9 {ct : Nat → Bool} {K : Kt} {R : Option AV → Hp → Prop} {n : Nat} {ls : List (Option AV)} {st : List AV} {σ : Hp} {k : Nat × Nat} : xe_J7_copyOf_1904c ct K R (n + 1) 9 ls st σ k = (oR st fun x st => st = [] ∧ 5 = 5 ∧ R (some (vr x)) σ) := exS_step.trans rfl
def M_J7_copyOf_1904c : Md := (yJ7_copyOf_1904c, cJ7_copyOf_1904c, 2, (some (FieldType.array (FieldType.object "java/lang/Object"))), 3, 1, 150, 5, false, tb_J7_copyOf_1904c, mt_J7_copyOf_1904c)
theorem mm_J7_copyOf_1904c : MMOK M_J7_copyOf_1904c := ⟨by decide +kernel, tk_J7_copyOf_1904c, mk_J7_copyOf_1904c, Or.inr ⟨_, rfl⟩, fun h => by cases h⟩
theorem go_J7_copyOf_1904c {Q : Option AV → Hp → Prop} {ct : Nat → Bool} {pc : Nat} {ls : List (Option AV)} {st : List AV} {σ : Hp} {k : Nat × Nat} (n : Nat) (h : xe_J7_copyOf_1904c ct (Go M_J7_copyOf_1904c Q) Q n pc ls st σ k) : Go M_J7_copyOf_1904c Q pc ls st σ k := Go.exS mm_J7_copyOf_1904c h

set_option maxRecDepth 20000 in
theorem c_J7_copyOf_1904c : Ct yJ7_copyOf_1904c cJ7_copyOf_1904c 2 ((some (FieldType.array (FieldType.object "java/lang/Object")))) 3 1 150 sp_J7_copyOf_1904c := by
  refine Ct.go (M := M_J7_copyOf_1904c) mm_J7_copyOf_1904c fun av σ Q h0 => ?_
  obtain ⟨r, n, rfl, h⟩ := el_J7_copyOf_1904c h0
  clear h0
  refine ⟨Nat.le_of_ble_eq_true rfl, ?_⟩
  show Go M_J7_copyOf_1904c Q 0 [some (vr r), some (vi n)] [] σ (0, 0)
  obtain ⟨hk1, hn, hl, hel, h⟩ := h
  refine go_J7_copyOf_1904c (ct := fun p => p == 99) 20 ?_
  simp only [oI, oL, oR, o1, lI, lL, lR, popN, catS, gv, stL, stL2, swt, cnd, spObj, List.getElem?_cons_zero, List.getElem?_cons_succ, List.getD_cons_zero, List.getD_cons_succ, List.set_cons_zero, List.set_cons_succ, List.nil_append, List.cons_append, Option.toList, Bool.or_false, Bool.false_or, Bool.or_true, Bool.true_or, Nat.reduceBEq, Nat.reduceAdd, Nat.reduceLT, Nat.reduceLeDiff, Int.reduceAdd, Int.reduceToNat, true_and, and_true, Fin.isValue, Fin.val_zero, Fin.val_one, Fin.val_two, Fin.reduceFinMk, eq_self, Int.reduceNeg, imp_self, Nat.reduceMul, Nat.le_refl, not_true_eq_false, not_false_eq_true, List.getElem?_nil, reduceCtorEq, true_or, or_true, Classical.not_not, implies_true, or_self, wI_0, wI_1, wI_m1, b2i_w, b2i_eq0, b2i_eq1, b2i_bool, nor_self, nx_pI, kd_pI, ln_pI, fI_pI, fL_pI, fR_pI, aI_pI, aL_pI, aR_pI, nx_pL, kd_pL, ln_pL, fI_pL, fL_pL, fR_pL, aI_pL, aL_pL, aR_pL, nx_pR, kd_pR, ln_pR, fI_pR, fL_pR, fR_pR, aI_pR, aL_pR, aR_pR, nx_qI, kd_qI, ln_qI, fI_qI, fL_qI, fR_qI, aI_qI, aL_qI, aR_qI, nx_qL, kd_qL, ln_qL, fI_qL, fL_qL, fR_qL, aI_qL, aL_qL, aR_qL, nx_qR, kd_qR, ln_qR, fI_qR, fL_qR, fR_qR, aI_qR, aL_qR, aR_qR, nx_mk, kd_mk, ln_mk, fI_mk, fL_mk, fR_mk, aI_mk, aL_mk, aR_mk, false_and, and_false, if_false, if_true, and_self, Int.reduceEq, Nat.reduceEqDiff, ite_self, MLay_pI, MLay_pL, MLay_qI, MLay_qL, ev_J7_copyOf_1904c_0, ev_J7_copyOf_1904c_1, ev_J7_copyOf_1904c_2, ev_J7_copyOf_1904c_3, ev_J7_copyOf_1904c_6, ev_J7_copyOf_1904c_9, xt_J7_copyOf_1904c, xf_J7_copyOf_1904c, us_J7_copyOf_6403c, us_GetC, hk1]
  repeat' (first | intro z | apply And.intro)
  all_goals try omega
  all_goals try contradiction
  all_goals first | exact hel | exact h

/-- a list, grown -/
def gcap (n : Int) : Int := if 0 < n then n + (if 1 < n / 2 then n / 2 else 1) else 10
def lGrow (σ : Hp) (p : Int) : Hp := pR (cpR (mk σ 105 (gcap (ln σ (fR σ 1401 p)))) (fR σ 1401 p) (nx σ) (ln σ (fR σ 1401 p))) 1401 p (nx σ)
theorem LOk.els {σ : Hp} {p : Int} {ci : Nat} (h : LOk σ p ci) (hf : fI σ 1402 p = ln σ (fR σ 1401 p)) : ∀ j, 0 ≤ j → j < ln σ (fR σ 1401 p) → aR σ (fR σ 1401 p) j = 0 ∨ kd σ (aR σ (fR σ 1401 p) j) = ci + 1 := fun j a b => Or.inr (h.2.2.2.2.2 j a (by omega))

def sp_Jx4a65c_grow_92f84 : Sp := fun av σ Q => oR av fun this av => oI av fun m av => av = [] ∧ kd σ this = 14 ∧ ((∃ ci, (ci = 0 ∨ ci = 2 ∨ ci = 5) ∧ LOk σ this ci) ∧ fI σ 1402 this = ln σ (fR σ 1401 this) ∧ ln σ (fR σ 1401 this) ≤ 100 ∧ m = fI σ 1402 this + 1 ∧ Q (some (vr (nx σ))) (lGrow σ this))
theorem us_Jx4a65c_grow_92f84 (this : Int) (m : Int) (σ : Hp) (Q : Option AV → Hp → Prop) : sp_Jx4a65c_grow_92f84 [vr this, vi m] σ Q = (kd σ this = 14 ∧ ((∃ ci, (ci = 0 ∨ ci = 2 ∨ ci = 5) ∧ LOk σ this ci) ∧ fI σ 1402 this = ln σ (fR σ 1401 this) ∧ ln σ (fR σ 1401 this) ≤ 100 ∧ m = fI σ 1402 this + 1 ∧ Q (some (vr (nx σ))) (lGrow σ this))) := propext ⟨fun h => h.2, fun h => ⟨rfl, h⟩⟩
theorem el_Jx4a65c_grow_92f84 {av : List AV} {σ : Hp} {Q : Option AV → Hp → Prop} (h : sp_Jx4a65c_grow_92f84 av σ Q) : ∃ (this : Int) (m : Int), av = [vr this, vi m] ∧ (kd σ this = 14 ∧ ((∃ ci, (ci = 0 ∨ ci = 2 ∨ ci = 5) ∧ LOk σ this ci) ∧ fI σ 1402 this = ln σ (fR σ 1401 this) ∧ ln σ (fR σ 1401 this) ≤ 100 ∧ m = fI σ 1402 this + 1 ∧ Q (some (vr (nx σ))) (lGrow σ this))) := by
  obtain ⟨this, a0, rfl, h0⟩ := oR_s h
  obtain ⟨m, a1, rfl, h1⟩ := oI_s h0
  obtain ⟨rfl, hz⟩ := h1
  exact ⟨this, m, rfl, hz⟩
theorem rc_Jx4a65c_grow_92f84 : ∀ (av : List AV) (σ : Hp) (Q : Option AV → Hp → Prop), sp_Jx4a65c_grow_92f84 av σ Q → ∃ r tl, av = vr r :: tl ∧ kd σ r = 13 + 1 := fun av σ Q h => by
  obtain ⟨this, m, rfl, hz, -⟩ := el_Jx4a65c_grow_92f84 h
  exact ⟨this, _, rfl, hz⟩

def tb_Jx4a65c_grow_92f84 : Tab := [(0, .aload_n 0, 1, (0, 0, 0, 0)), (1, .getfield 9, 3, (14, 1401, 2, 0)), (4, .arraylength, 1, (0, 0, 0, 0)), (5, .istore_n 2, 1, (0, 0, 0, 0)), (6, .iload_n 2, 1, (0, 0, 0, 0)), (7, .ifCond .gt 13, 3, (0, 0, 0, 0)), (10, .aload_n 0, 1, (0, 0, 0, 0)), (11, .getfield 9, 3, (14, 1401, 2, 0)), (14, .getstatic 39, 3, (0, 0, 0, 0)), (17, .if_acmp .eq 28, 3, (0, 0, 0, 0)), (20, .iload_n 2, 1, (0, 0, 0, 0)), (21, .iload_n 1, 1, (0, 0, 0, 0)), (22, .iload_n 2, 1, (0, 0, 0, 0)), (23, .isub, 1, (0, 0, 0, 0)), (24, .iload_n 2, 1, (0, 0, 0, 0)), (25, .iconst 1, 1, (0, 0, 0, 0)), (26, .ishr, 1, (0, 0, 0, 0)), (27, .invokestatic 73, 3, (0, 0, 0, 0)), (30, .istore_n 3, 1, (0, 0, 0, 0)), (31, .aload_n 0, 1, (0, 0, 0, 0)), (32, .aload_n 0, 1, (0, 0, 0, 0)), (33, .getfield 9, 3, (14, 1401, 2, 0)), (36, .iload_n 3, 1, (0, 0, 0, 0)), (37, .invokestatic 66, 3, (0, 0, 0, 0)), (40, .dup_x1, 1, (0, 0, 0, 0)), (41, .putfield 9, 3, (14, 1401, 2, 0)), (44, .areturn, 1, (0, 0, 0, 0)), (45, .aload_n 0, 1, (0, 0, 0, 0)), (46, .bipush 10, 2, (0, 0, 0, 0)), (48, .iload_n 1, 1, (0, 0, 0, 0)), (49, .invokestatic 79, 3, (0, 0, 0, 0)), (52, .anewarray 7, 3, (0, 0, 0, 0)), (55, .dup_x1, 1, (0, 0, 0, 0)), (56, .putfield 9, 3, (14, 1401, 2, 0)), (59, .areturn, 1, (0, 0, 0, 0))]
set_option maxRecDepth 100000 in
theorem tk_Jx4a65c_grow_92f84 : TOK RJx4a65c false cJx4a65c_grow_92f84 tb_Jx4a65c_grow_92f84 := chkT_ok ft_Jx4a65c (by decide +kernel)
theorem rw_Jx4a65c_585 : Row RJx4a65c (.invokestatic 73) 3 3 0 0 2 sp_J8_newLength_cabcc := row_S c_J8_newLength_cabcc ⟨TBL_in 647 (by decide +kernel) rfl, TBL_in 649 (by decide +kernel) rfl, TBL_in 127 (by decide +kernel) rfl, by decide +kernel, by decide⟩ (TBL_in 648 (by decide +kernel) rfl)
theorem rw_Jx4a65c_529 : Row RJx4a65c (.invokestatic 66) 3 2 1 150 3 sp_J7_copyOf_1904c := row_S c_J7_copyOf_1904c ⟨TBL_in 657 (by decide +kernel) rfl, TBL_in 659 (by decide +kernel) rfl, TBL_in 129 (by decide +kernel) rfl, by decide +kernel, by decide⟩ (TBL_in 658 (by decide +kernel) rfl)
theorem rw_Jx4a65c_633 : Row RJx4a65c (.invokestatic 79) 3 2 0 0 1 sp_J9_max_7cf53 := row_S c_J9_max_7cf53 ⟨TBL_in 691 (by decide +kernel) rfl, TBL_in 652 (by decide +kernel) rfl, TBL_in 128 (by decide +kernel) rfl, by decide +kernel, by decide⟩ (TBL_in 651 (by decide +kernel) rfl)
def mt_Jx4a65c_grow_92f84 : List (Nat × Mt) := [(315, 0, 0, 0, 0, spGsR 3000), (585, 3, 0, 0, 2, sp_J8_newLength_cabcc), (529, 2, 1, 150, 3, sp_J7_copyOf_1904c), (633, 2, 0, 0, 1, sp_J9_max_7cf53), (61, 1, 1, 150, 0, spNewq 105 150)]
theorem em_Jx4a65c_grow_92f84 : mt_Jx4a65c_grow_92f84.lookup 315 = some (0, 0, 0, 0, spGsR 3000) ∧ mt_Jx4a65c_grow_92f84.lookup 585 = some (3, 0, 0, 2, sp_J8_newLength_cabcc) ∧ mt_Jx4a65c_grow_92f84.lookup 529 = some (2, 1, 150, 3, sp_J7_copyOf_1904c) ∧ mt_Jx4a65c_grow_92f84.lookup 633 = some (2, 0, 0, 1, sp_J9_max_7cf53) ∧ mt_Jx4a65c_grow_92f84.lookup 61 = some (1, 1, 150, 0, spNewq 105 150) := ⟨rfl, rfl, rfl, rfl, rfl⟩
theorem mk_Jx4a65c_grow_92f84 : MOK RJx4a65c mt_Jx4a65c_grow_92f84 := by
  intro q hq
  simp only [mt_Jx4a65c_grow_92f84, List.mem_cons, List.not_mem_nil, or_false] at hq
  rcases hq with rfl | rfl | rfl | rfl | rfl
  · exact row_gsE (TBL_in 172 (by decide +kernel) rfl)
  · exact rw_Jx4a65c_585
  · exact rw_Jx4a65c_529
  · exact rw_Jx4a65c_633
  · exact row_newq (Or.inl ⟨rfl, rfl⟩) (TBL_in 692 (by decide +kernel) rfl) (XW_in 683 (by decide +kernel) rfl) (by decide)
noncomputable def xe_Jx4a65c_grow_92f84 (ct : Nat → Bool) (K : Kt) (R : Option AV → Hp → Prop) (n : Nat) : Kt := exS 4 4 1 150 5 tb_Jx4a65c_grow_92f84 mt_Jx4a65c_grow_92f84 ct K R n
noncomputable def xk_Jx4a65c_grow_92f84 (ct : Nat → Bool) (K : Kt) (R : Option AV → Hp → Prop) (n : Nat) : Kt := exkS 4 4 1 150 5 tb_Jx4a65c_grow_92f84 mt_Jx4a65c_grow_92f84 ct K R n
theorem xt_Jx4a65c_grow_92f84 {ct : Nat → Bool} {K : Kt} {R : Option AV → Hp → Prop} {n pc : Nat} {ls : List (Option AV)} {st : List AV} {σ : Hp} {k : Nat × Nat} (h : ct pc = true) : xk_Jx4a65c_grow_92f84 ct K R n pc ls st σ k = K pc ls st σ k := by unfold xk_Jx4a65c_grow_92f84 exkS; rw [h]
theorem xf_Jx4a65c_grow_92f84 {ct : Nat → Bool} {K : Kt} {R : Option AV → Hp → Prop} {n pc : Nat} {ls : List (Option AV)} {st : List AV} {σ : Hp} {k : Nat × Nat} (h : ct pc = false) : xk_Jx4a65c_grow_92f84 ct K R n pc ls st σ k = xe_Jx4a65c_grow_92f84 ct K R n pc ls st σ k := by unfold xk_Jx4a65c_grow_92f84 exkS xe_Jx4a65c_grow_92f84; rw [h]
theorem ev_Jx4a65c_grow_92f84_0 {ct : Nat → Bool} {K : Kt} {R : Option AV → Hp → Prop} {n : Nat} {ls : List (Option AV)} {st : List AV} {σ : Hp} {k : Nat × Nat} : xe_Jx4a65c_grow_92f84 ct K R (n + 1) 0 ls st σ k = (lR ls 0 fun x => xk_Jx4a65c_grow_92f84 ct K R n 1 ls (vr x :: st) σ k) := exS_step.trans rfl
theorem ev_Jx4a65c_grow_92f84_1 {ct : Nat → Bool} {K : Kt} {R : Option AV → Hp → Prop} {n : Nat} {ls : List (Option AV)} {st : List AV} {σ : Hp} {k : Nat × Nat} : xe_Jx4a65c_grow_92f84 ct K R (n + 1) 1 ls st σ k = (oR st fun x st => kd σ x = 14 ∧ xk_Jx4a65c_grow_92f84 ct K R n 4 ls (vr (fR σ 1401 x) :: st) σ k) := exS_step.trans rfl
theorem ev_Jx4a65c_grow_92f84_4 {ct : Nat → Bool} {K : Kt} {R : Option AV → Hp → Prop} {n : Nat} {ls : List (Option AV)} {st : List AV} {σ : Hp} {k : Nat × Nat} : xe_Jx4a65c_grow_92f84 ct K R (n + 1) 4 ls st σ k = (oR st fun x st => (101 ≤ kd σ x ∨ kd σ x = 21) ∧ xk_Jx4a65c_grow_92f84 ct K R n 5 ls (vi (ln σ x) :: st) σ k) := exS_step.trans rfl
theorem ev_Jx4a65c_grow_92f84_5 {ct : Nat → Bool} {K : Kt} {R : Option AV → Hp → Prop} {n : Nat} {ls : List (Option AV)} {st : List AV} {σ : Hp} {k : Nat × Nat} : xe_Jx4a65c_grow_92f84 ct K R (n + 1) 5 ls st σ k = (oI st fun x st => 2 < 4 ∧ xk_Jx4a65c_grow_92f84 ct K R n 6 (stL ls 2 (vi x)) st σ k) := exS_step.trans rfl
theorem ev_Jx4a65c_grow_92f84_6 {ct : Nat → Bool} {K : Kt} {R : Option AV → Hp → Prop} {n : Nat} {ls : List (Option AV)} {st : List AV} {σ : Hp} {k : Nat × Nat} : xe_Jx4a65c_grow_92f84 ct K R (n + 1) 6 ls st σ k = (lI ls 2 fun x => xk_Jx4a65c_grow_92f84 ct K R n 7 ls (vi x :: st) σ k) := exS_step.trans rfl
theorem ev_Jx4a65c_grow_92f84_7 {ct : Nat → Bool} {K : Kt} {R : Option AV → Hp → Prop} {n : Nat} {ls : List (Option AV)} {st : List AV} {σ : Hp} {k : Nat × Nat} : xe_Jx4a65c_grow_92f84 ct K R (n + 1) 7 ls st σ k = (oI st fun x st => (wI 0 < wI x → xk_Jx4a65c_grow_92f84 ct K R n 20 ls st σ k) ∧ (¬ (wI 0 < wI x) → xk_Jx4a65c_grow_92f84 ct K R n 10 ls st σ k)) := exS_step.trans rfl
theorem ev_Jx4a65c_grow_92f84_10 {ct : Nat → Bool} {K : Kt} {R : Option AV → Hp → Prop} {n : Nat} {ls : List (Option AV)} {st : List AV} {σ : Hp} {k : Nat × Nat} : xe_Jx4a65c_grow_92f84 ct K R (n + 1) 10 ls st σ k = (lR ls 0 fun x => xk_Jx4a65c_grow_92f84 ct K R n 11 ls (vr x :: st) σ k) := exS_step.trans rfl
theorem ev_Jx4a65c_grow_92f84_11 {ct : Nat → Bool} {K : Kt} {R : Option AV → Hp → Prop} {n : Nat} {ls : List (Option AV)} {st : List AV} {σ : Hp} {k : Nat × Nat} : xe_Jx4a65c_grow_92f84 ct K R (n + 1) 11 ls st σ k = (oR st fun x st => kd σ x = 14 ∧ xk_Jx4a65c_grow_92f84 ct K R n 14 ls (vr (fR σ 1401 x) :: st) σ k) := exS_step.trans rfl
theorem ev_Jx4a65c_grow_92f84_14 {ct : Nat → Bool} {K : Kt} {R : Option AV → Hp → Prop} {n : Nat} {ls : List (Option AV)} {st : List AV} {σ : Hp} {k : Nat × Nat} : xe_Jx4a65c_grow_92f84 ct K R (n + 1) 14 ls st σ k = (popN 0 st [] fun av rest => (catS rest ≤ 8 ∧ 0 < 4 ∧ k.1 + 0 ≤ 1 ∧ k.2 + 0 ≤ 150) ∧ (spGsR 3000) av σ fun v σ' => xk_Jx4a65c_grow_92f84 ct K R n 17 ls (v.toList ++ rest) σ' (k.1 + 0, k.2 + 0)) := exS_step.trans rfl
theorem ev_Jx4a65c_grow_92f84_17 {ct : Nat → Bool} {K : Kt} {R : Option AV → Hp → Prop} {n : Nat} {ls : List (Option AV)} {st : List AV} {σ : Hp} {k : Nat × Nat} : xe_Jx4a65c_grow_92f84 ct K R (n + 1) 17 ls st σ k = (oR st fun y st => oR st fun x st => (0 ≤ x ∧ 0 ≤ y) ∧ (x = y → xk_Jx4a65c_grow_92f84 ct K R n 45 ls st σ k) ∧ (¬ x = y → xk_Jx4a65c_grow_92f84 ct K R n 20 ls st σ k)) := exS_step.trans rfl
theorem ev_Jx4a65c_grow_92f84_20 {ct : Nat → Bool} {K : Kt} {R : Option AV → Hp → Prop} {n : Nat} {ls : List (Option AV)} {st : List AV} {σ : Hp} {k : Nat × Nat} : xe_Jx4a65c_grow_92f84 ct K R (n + 1) 20 ls st σ k = (lI ls 2 fun x => xk_Jx4a65c_grow_92f84 ct K R n 21 ls (vi x :: st) σ k) := exS_step.trans rfl
theorem ev_Jx4a65c_grow_92f84_21 {ct : Nat → Bool} {K : Kt} {R : Option AV → Hp → Prop} {n : Nat} {ls : List (Option AV)} {st : List AV} {σ : Hp} {k : Nat × Nat} : xe_Jx4a65c_grow_92f84 ct K R (n + 1) 21 ls st σ k = (lI ls 1 fun x => xk_Jx4a65c_grow_92f84 ct K R n 22 ls (vi x :: st) σ k) := exS_step.trans rfl
theorem ev_Jx4a65c_grow_92f84_22 {ct : Nat → Bool} {K : Kt} {R : Option AV → Hp → Prop} {n : Nat} {ls : List (Option AV)} {st : List AV} {σ : Hp} {k : Nat × Nat} : xe_Jx4a65c_grow_92f84 ct K R (n + 1) 22 ls st σ k = (lI ls 2 fun x => xk_Jx4a65c_grow_92f84 ct K R n 23 ls (vi x :: st) σ k) := exS_step.trans rfl
theorem ev_Jx4a65c_grow_92f84_23 {ct : Nat → Bool} {K : Kt} {R : Option AV → Hp → Prop} {n : Nat} {ls : List (Option AV)} {st : List AV} {σ : Hp} {k : Nat × Nat} : xe_Jx4a65c_grow_92f84 ct K R (n + 1) 23 ls st σ k = (oI st fun y st => oI st fun x st => xk_Jx4a65c_grow_92f84 ct K R n 24 ls (vi (x - y) :: st) σ k) := exS_step.trans rfl
theorem ev_Jx4a65c_grow_92f84_24 {ct : Nat → Bool} {K : Kt} {R : Option AV → Hp → Prop} {n : Nat} {ls : List (Option AV)} {st : List AV} {σ : Hp} {k : Nat × Nat} : xe_Jx4a65c_grow_92f84 ct K R (n + 1) 24 ls st σ k = (lI ls 2 fun x => xk_Jx4a65c_grow_92f84 ct K R n 25 ls (vi x :: st) σ k) := exS_step.trans rfl
theorem ev_Jx4a65c_grow_92f84_25 {ct : Nat → Bool} {K : Kt} {R : Option AV → Hp → Prop} {n : Nat} {ls : List (Option AV)} {st : List AV} {σ : Hp} {k : Nat × Nat} : xe_Jx4a65c_grow_92f84 ct K R (n + 1) 25 ls st σ k = (xk_Jx4a65c_grow_92f84 ct K R n 26 ls (vi (1) :: st) σ k) := exS_step.trans rfl
theorem ev_Jx4a65c_grow_92f84_26 {ct : Nat → Bool} {K : Kt} {R : Option AV → Hp → Prop} {n : Nat} {ls : List (Option AV)} {st : List AV} {σ : Hp} {k : Nat × Nat} : xe_Jx4a65c_grow_92f84 ct K R (n + 1) 26 ls st σ k = (oI st fun y st => oI st fun x st => xk_Jx4a65c_grow_92f84 ct K R n 27 ls (vi (shrI x y) :: st) σ k) := exS_step.trans rfl
theorem ev_Jx4a65c_grow_92f84_27 {ct : Nat → Bool} {K : Kt} {R : Option AV → Hp → Prop} {n : Nat} {ls : List (Option AV)} {st : List AV} {σ : Hp} {k : Nat × Nat} : xe_Jx4a65c_grow_92f84 ct K R (n + 1) 27 ls st σ k = (popN 3 st [] fun av rest => (catS rest ≤ 8 ∧ 2 < 4 ∧ k.1 + 0 ≤ 1 ∧ k.2 + 0 ≤ 150) ∧ (sp_J8_newLength_cabcc) av σ fun v σ' => xk_Jx4a65c_grow_92f84 ct K R n 30 ls (v.toList ++ rest) σ' (k.1 + 0, k.2 + 0)) := exS_step.trans rfl
theorem ev_Jx4a65c_grow_92f84_30 {ct : Nat → Bool} {K : Kt} {R : Option AV → Hp → Prop} {n : Nat} {ls : List (Option AV)} {st : List AV} {σ : Hp} {k : Nat × Nat} : xe_Jx4a65c_grow_92f84 ct K R (n + 1) 30 ls st σ k = (oI st fun x st => 3 < 4 ∧ xk_Jx4a65c_grow_92f84 ct K R n 31 (stL ls 3 (vi x)) st σ k) := exS_step.trans rfl
theorem ev_Jx4a65c_grow_92f84_31 {ct : Nat → Bool} {K : Kt} {R : Option AV → Hp → Prop} {n : Nat} {ls : List (Option AV)} {st : List AV} {σ : Hp} {k : Nat × Nat} : xe_Jx4a65c_grow_92f84 ct K R (n + 1) 31 ls st σ k = (lR ls 0 fun x => xk_Jx4a65c_grow_92f84 ct K R n 32 ls (vr x :: st) σ k) := exS_step.trans rfl
theorem ev_Jx4a65c_grow_92f84_32 {ct : Nat → Bool} {K : Kt} {R : Option AV → Hp → Prop} {n : Nat} {ls : List (Option AV)} {st : List AV} {σ : Hp} {k : Nat × Nat} : xe_Jx4a65c_grow_92f84 ct K R (n + 1) 32 ls st σ k = (lR ls 0 fun x => xk_Jx4a65c_grow_92f84 ct K R n 33 ls (vr x :: st) σ k) := exS_step.trans rfl
theorem ev_Jx4a65c_grow_92f84_33 {ct : Nat → Bool} {K : Kt} {R : Option AV → Hp → Prop} {n : Nat} {ls : List (Option AV)} {st : List AV} {σ : Hp} {k : Nat × Nat} : xe_Jx4a65c_grow_92f84 ct K R (n + 1) 33 ls st σ k = (oR st fun x st => kd σ x = 14 ∧ xk_Jx4a65c_grow_92f84 ct K R n 36 ls (vr (fR σ 1401 x) :: st) σ k) := exS_step.trans rfl
theorem ev_Jx4a65c_grow_92f84_36 {ct : Nat → Bool} {K : Kt} {R : Option AV → Hp → Prop} {n : Nat} {ls : List (Option AV)} {st : List AV} {σ : Hp} {k : Nat × Nat} : xe_Jx4a65c_grow_92f84 ct K R (n + 1) 36 ls st σ k = (lI ls 3 fun x => xk_Jx4a65c_grow_92f84 ct K R n 37 ls (vi x :: st) σ k) := exS_step.trans rfl
theorem ev_Jx4a65c_grow_92f84_37 {ct : Nat → Bool} {K : Kt} {R : Option AV → Hp → Prop} {n : Nat} {ls : List (Option AV)} {st : List AV} {σ : Hp} {k : Nat × Nat} : xe_Jx4a65c_grow_92f84 ct K R (n + 1) 37 ls st σ k = (popN 2 st [] fun av rest => (catS rest ≤ 8 ∧ 3 < 4 ∧ k.1 + 1 ≤ 1 ∧ k.2 + 150 ≤ 150) ∧ (sp_J7_copyOf_1904c) av σ fun v σ' => xk_Jx4a65c_grow_92f84 ct K R n 40 ls (v.toList ++ rest) σ' (k.1 + 1, k.2 + 150)) := exS_step.trans rfl
theorem ev_Jx4a65c_grow_92f84_40 {ct : Nat → Bool} {K : Kt} {R : Option AV → Hp → Prop} {n : Nat} {ls : List (Option AV)} {st : List AV} {σ : Hp} {k : Nat × Nat} : xe_Jx4a65c_grow_92f84 ct K R (n + 1) 40 ls st σ k = (o1 st fun v st => o1 st fun u st => xk_Jx4a65c_grow_92f84 ct K R n 41 ls (v :: u :: v :: st) σ k) := exS_step.trans rfl
theorem ev_Jx4a65c_grow_92f84_41 {ct : Nat → Bool} {K : Kt} {R : Option AV → Hp → Prop} {n : Nat} {ls : List (Option AV)} {st : List AV} {σ : Hp} {k : Nat × Nat} : xe_Jx4a65c_grow_92f84 ct K R (n + 1) 41 ls st σ k = (oR st fun v st => oR st fun x st => kd σ x = 14 ∧ xk_Jx4a65c_grow_92f84 ct K R n 44 ls st (pR σ 1401 x v) k) := exS_step.trans rfl
theorem ev_Jx4a65c_grow_92f84_44 {ct : Nat → Bool} {K : Kt} {R : Option AV → Hp → Prop} {n : Nat} {ls : List (Option AV)} {st : List AV} {σ : Hp} {k : Nat × Nat} : xe_Jx4a65c_grow_92f84 ct K R (n + 1) 44 ls st σ k = (oR st fun x st => st = [] ∧ 5 = 5 ∧ R (some (vr x)) σ) := exS_step.trans rfl
theorem ev_Jx4a65c_grow_92f84_45 {ct : Nat → Bool} {K : Kt} {R : Option AV → Hp → Prop} {n : Nat} {ls : List (Option AV)} {st : List AV} {σ : Hp} {k : Nat × Nat} : xe_Jx4a65c_grow_92f84 ct K R (n + 1) 45 ls st σ k = (lR ls 0 fun x => xk_Jx4a65c_grow_92f84 ct K R n 46 ls (vr x :: st) σ k) := exS_step.trans rfl
theorem ev_Jx4a65c_grow_92f84_46 {ct : Nat → Bool} {K : Kt} {R : Option AV → Hp → Prop} {n : Nat} {ls : List (Option AV)} {st : List AV} {σ : Hp} {k : Nat × Nat} : xe_Jx4a65c_grow_92f84 ct K R (n + 1) 46 ls st σ k = (xk_Jx4a65c_grow_92f84 ct K R n 48 ls (vi (10) :: st) σ k) := exS_step.trans rfl
theorem ev_Jx4a65c_grow_92f84_48 {ct : Nat → Bool} {K : Kt} {R : Option AV → Hp → Prop} {n : Nat} {ls : List (Option AV)} {st : List AV} {σ : Hp} {k : Nat × Nat} : xe_Jx4a65c_grow_92f84 ct K R (n + 1) 48 ls st σ k = (lI ls 1 fun x => xk_Jx4a65c_grow_92f84 ct K R n 49 ls (vi x :: st) σ k) := exS_step.trans rfl
theorem ev_Jx4a65c_grow_92f84_49 {ct : Nat → Bool} {K : Kt} {R : Option AV → Hp → Prop} {n : Nat} {ls : List (Option AV)} {st : List AV} {σ : Hp} {k : Nat × Nat} : xe_Jx4a65c_grow_92f84 ct K R (n + 1) 49 ls st σ k = (popN 2 st [] fun av rest => (catS rest ≤ 8 ∧ 1 < 4 ∧ k.1 + 0 ≤ 1 ∧ k.2 + 0 ≤ 150) ∧ (sp_J9_max_7cf53) av σ fun v σ' => xk_Jx4a65c_grow_92f84 ct K R n 52 ls (v.toList ++ rest) σ' (k.1 + 0, k.2 + 0)) := exS_step.trans rfl
theorem ev_Jx4a65c_grow_92f84_52 {ct : Nat → Bool} {K : Kt} {R : Option AV → Hp → Prop} {n : Nat} {ls : List (Option AV)} {st : List AV} {σ : Hp} {k : Nat × Nat} : xe_Jx4a65c_grow_92f84 ct K R (n + 1) 52 ls st σ k = (popN 1 st [] fun av rest => (catS rest ≤ 8 ∧ 0 < 4 ∧ k.1 + 1 ≤ 1 ∧ k.2 + 150 ≤ 150) ∧ (spNewq 105 150) av σ fun v σ' => xk_Jx4a65c_grow_92f84 ct K R n 55 ls (v.toList ++ rest) σ' (k.1 + 1, k.2 + 150)) := exS_step.trans rfl
theorem ev_Jx4a65c_grow_92f84_55 {ct : Nat → Bool} {K : Kt} {R : Option AV → Hp → Prop} {n : Nat} {ls : List (Option AV)} {st : List AV} {σ : Hp} {k : Nat × Nat} : xe_Jx4a65c_grow_92f84 ct K R (n + 1) 55 ls st σ k = (o1 st fun v st => o1 st fun u st => xk_Jx4a65c_grow_92f84 ct K R n 56 ls (v :: u :: v :: st) σ k) := exS_step.trans rfl
theorem ev_Jx4a65c_grow_92f84_56 {ct : Nat → Bool} {K : Kt} {R : Option AV → Hp → Prop} {n : Nat} {ls : List (Option AV)} {st : List AV} {σ : Hp} {k : Nat × Nat} : xe_Jx4a65c_grow_92f84 ct K R (n + 1) 56 ls st σ k = (oR st fun v st => oR st fun x st => kd σ x = 14 ∧ xk_Jx4a65c_grow_92f84 ct K R n 59 ls st (pR σ 1401 x v) k) := exS_step.trans rfl
theorem ev_Jx4a65c_grow_92f84_59 {ct : Nat → Bool} {K : Kt} {R : Option AV → Hp → Prop} {n : Nat} {ls : List (Option AV)} {st : List AV} {σ : Hp} {k : Nat × Nat} : xe_Jx4a65c_grow_92f84 ct K R (n + 1) 59 ls st σ k = (oR st fun x st => st = [] ∧ 5 = 5 ∧ R (some (vr x)) σ) := exS_step.trans rfl
def M_Jx4a65c_grow_92f84 : Md := (yJx4a65c_grow_92f84, cJx4a65c_grow_92f84, 4, (some (FieldType.array (FieldType.object "java/lang/Object"))), 4, 1, 150, 5, false, tb_Jx4a65c_grow_92f84, mt_Jx4a65c_grow_92f84)
theorem mm_Jx4a65c_grow_92f84 : MMOK M_Jx4a65c_grow_92f84 := ⟨by decide +kernel, tk_Jx4a65c_grow_92f84, mk_Jx4a65c_grow_92f84, Or.inr ⟨_, rfl⟩, fun h => by cases h⟩
theorem go_Jx4a65c_grow_92f84 {Q : Option AV → Hp → Prop} {ct : Nat → Bool} {pc : Nat} {ls : List (Option AV)} {st : List AV} {σ : Hp} {k : Nat × Nat} (n : Nat) (h : xe_Jx4a65c_grow_92f84 ct (Go M_Jx4a65c_grow_92f84 Q) Q n pc ls st σ k) : Go M_Jx4a65c_grow_92f84 Q pc ls st σ k := Go.exS mm_Jx4a65c_grow_92f84 h

set_option maxRecDepth 20000 in
theorem c_Jx4a65c_grow_92f84 : Ct yJx4a65c_grow_92f84 cJx4a65c_grow_92f84 4 ((some (FieldType.array (FieldType.object "java/lang/Object")))) 4 1 150 sp_Jx4a65c_grow_92f84 := by
  refine Ct.go (M := M_Jx4a65c_grow_92f84) mm_Jx4a65c_grow_92f84 fun av σ Q h0 => ?_
  obtain ⟨this, m, rfl, hk, h⟩ := el_Jx4a65c_grow_92f84 h0
  clear h0
  refine ⟨Nat.le_of_ble_eq_true rfl, ?_⟩
  show Go M_Jx4a65c_grow_92f84 Q 0 [some (vr this), some (vi m), none, none] [] σ (0, 0)
  obtain ⟨⟨ci, hci, hL⟩, hf, hl, rfl, h⟩ := h
  have hel : ∃ ci, (ci = 0 ∨ ci = 2 ∨ ci = 5) ∧ ∀ j, 0 ≤ j → j < ln σ (fR σ 1401 this) → aR σ (fR σ 1401 this) j = 0 ∨ kd σ (aR σ (fR σ 1401 this) j) = ci + 1 := ⟨ci, hci, hL.els hf⟩
  obtain ⟨l1, l2, l3, l4, l5, -⟩ := hL
  refine Go.wf fun hw => ?_
  have hnx := hw.1
  have ht := (hw.2.1 this (by omega)).2.1
  have e1 : ¬ this = nx σ := by omega
  clear hw
  unfold lGrow gcap at h
  generalize he : ln σ (fR σ 1401 this) = n at *
  rw [hf]
  have es : shrI n 1 = n / 2 := shrI_1 (by omega)
  have em : n + 1 - n = 1 := by omega
  by_cases c : 0 < n
  · have hm : 1 ≤ (if 1 < n / 2 then n / 2 else 1) ∧ (if 1 < n / 2 then n / 2 else 1) ≤ 50 := by split <;> omega
    rw [if_pos c] at h
    have w30 : ∀ y, 1 ≤ y ∧ y ≤ 50 → Q (some (vr (nx σ))) (pR (cpR (mk σ 105 (n + y)) (fR σ 1401 this) (nx σ) n) 1401 this (nx σ)) → Go M_Jx4a65c_grow_92f84 Q 30 [some (vr this), some (vi (n + 1)), some (vi n), none] [vi (n + y)] σ (0, 0) := fun y hy h => by
      clear hm
      refine go_Jx4a65c_grow_92f84 (ct := fun p => p == 99) 40 ?_
      simp only [oI, oL, oR, o1, lI, lL, lR, popN, catS, gv, stL, stL2, swt, cnd, spObj, List.getElem?_cons_zero, List.getElem?_cons_succ, List.getD_cons_zero, List.getD_cons_succ, List.set_cons_zero, List.set_cons_succ, List.nil_append, List.cons_append, Option.toList, Bool.or_false, Bool.false_or, Bool.or_true, Bool.true_or, Nat.reduceBEq, Nat.reduceAdd, Nat.reduceLT, Nat.reduceLeDiff, Int.reduceAdd, Int.reduceToNat, true_and, and_true, Fin.isValue, Fin.val_zero, Fin.val_one, Fin.val_two, Fin.reduceFinMk, eq_self, Int.reduceNeg, imp_self, Nat.reduceMul, Nat.le_refl, not_true_eq_false, not_false_eq_true, List.getElem?_nil, reduceCtorEq, true_or, or_true, Classical.not_not, implies_true, or_self, wI_0, wI_1, wI_m1, b2i_w, b2i_eq0, b2i_eq1, b2i_bool, nor_self, nx_pI, kd_pI, ln_pI, fI_pI, fL_pI, fR_pI, aI_pI, aL_pI, aR_pI, nx_pL, kd_pL, ln_pL, fI_pL, fL_pL, fR_pL, aI_pL, aL_pL, aR_pL, nx_pR, kd_pR, ln_pR, fI_pR, fL_pR, fR_pR, aI_pR, aL_pR, aR_pR, nx_qI, kd_qI, ln_qI, fI_qI, fL_qI, fR_qI, aI_qI, aL_qI, aR_qI, nx_qL, kd_qL, ln_qL, fI_qL, fL_qL, fR_qL, aI_qL, aL_qL, aR_qL, nx_qR, kd_qR, ln_qR, fI_qR, fL_qR, fR_qR, aI_qR, aL_qR, aR_qR, nx_mk, kd_mk, ln_mk, fI_mk, fL_mk, fR_mk, aI_mk, aL_mk, aR_mk, false_and, and_false, if_false, if_true, and_self, Int.reduceEq, Nat.reduceEqDiff, ite_self, MLay_pI, MLay_pL, MLay_qI, MLay_qL, ev_Jx4a65c_grow_92f84_30, ev_Jx4a65c_grow_92f84_31, ev_Jx4a65c_grow_92f84_32, ev_Jx4a65c_grow_92f84_33, ev_Jx4a65c_grow_92f84_36, ev_Jx4a65c_grow_92f84_37, ev_Jx4a65c_grow_92f84_40, ev_Jx4a65c_grow_92f84_41, ev_Jx4a65c_grow_92f84_44, xt_Jx4a65c_grow_92f84, xf_Jx4a65c_grow_92f84, us_J8_newLength_cabcc, us_J7_copyOf_1904c, us_J9_max_7cf53, hk, l2, he, e1, kd_cpR]
      repeat' (first | intro z | apply And.intro)
      all_goals try omega
      all_goals try contradiction
      all_goals first | exact hel | exact h
    have w := w30 _ hm h
    clear h w30 hm hel
    refine go_Jx4a65c_grow_92f84 (ct := fun p => p == 30 || p == 10) 40 ?_
    simp only [oI, oL, oR, o1, lI, lL, lR, popN, catS, gv, stL, stL2, swt, cnd, spObj, List.getElem?_cons_zero, List.getElem?_cons_succ, List.getD_cons_zero, List.getD_cons_succ, List.set_cons_zero, List.set_cons_succ, List.nil_append, List.cons_append, Option.toList, Bool.or_false, Bool.false_or, Bool.or_true, Bool.true_or, Nat.reduceBEq, Nat.reduceAdd, Nat.reduceLT, Nat.reduceLeDiff, Int.reduceAdd, Int.reduceToNat, true_and, and_true, Fin.isValue, Fin.val_zero, Fin.val_one, Fin.val_two, Fin.reduceFinMk, eq_self, Int.reduceNeg, imp_self, Nat.reduceMul, Nat.le_refl, not_true_eq_false, not_false_eq_true, List.getElem?_nil, reduceCtorEq, true_or, or_true, Classical.not_not, implies_true, or_self, wI_0, wI_1, wI_m1, b2i_w, b2i_eq0, b2i_eq1, b2i_bool, nor_self, nx_pI, kd_pI, ln_pI, fI_pI, fL_pI, fR_pI, aI_pI, aL_pI, aR_pI, nx_pL, kd_pL, ln_pL, fI_pL, fL_pL, fR_pL, aI_pL, aL_pL, aR_pL, nx_pR, kd_pR, ln_pR, fI_pR, fL_pR, fR_pR, aI_pR, aL_pR, aR_pR, nx_qI, kd_qI, ln_qI, fI_qI, fL_qI, fR_qI, aI_qI, aL_qI, aR_qI, nx_qL, kd_qL, ln_qL, fI_qL, fL_qL, fR_qL, aI_qL, aL_qL, aR_qL, nx_qR, kd_qR, ln_qR, fI_qR, fL_qR, fR_qR, aI_qR, aL_qR, aR_qR, nx_mk, kd_mk, ln_mk, fI_mk, fL_mk, fR_mk, aI_mk, aL_mk, aR_mk, false_and, and_false, if_false, if_true, and_self, Int.reduceEq, Nat.reduceEqDiff, ite_self, MLay_pI, MLay_pL, MLay_qI, MLay_qL, ev_Jx4a65c_grow_92f84_0, ev_Jx4a65c_grow_92f84_1, ev_Jx4a65c_grow_92f84_4, ev_Jx4a65c_grow_92f84_5, ev_Jx4a65c_grow_92f84_6, ev_Jx4a65c_grow_92f84_7, ev_Jx4a65c_grow_92f84_20, ev_Jx4a65c_grow_92f84_21, ev_Jx4a65c_grow_92f84_22, ev_Jx4a65c_grow_92f84_23, ev_Jx4a65c_grow_92f84_24, ev_Jx4a65c_grow_92f84_25, ev_Jx4a65c_grow_92f84_26, ev_Jx4a65c_grow_92f84_27, xt_Jx4a65c_grow_92f84, xf_Jx4a65c_grow_92f84, us_J8_newLength_cabcc, us_J7_copyOf_1904c, us_J9_max_7cf53, hk, l2, he, es, em]
    try simp (disch := omega) only [wI_id, dv_nn, rm_nn]
    repeat' (first | intro z | apply And.intro)
    all_goals try omega
    all_goals try contradiction
    all_goals exact w
  · have e0 : n = 0 := by omega
    subst e0
    rw [if_neg (by omega), cpR_0] at h
    have l5 := l5 rfl
    have w45 : Go M_Jx4a65c_grow_92f84 Q 45 [some (vr this), some (vi (0 + 1)), some (vi 0), none] [] σ (0, 0) := by
      have e10 : (if (10 : Int) < 0 + 1 then 0 + 1 else 10) = 10 := rfl
      refine go_Jx4a65c_grow_92f84 (ct := fun p => p == 99) 40 ?_
      simp only [oI, oL, oR, o1, lI, lL, lR, popN, catS, gv, stL, stL2, swt, cnd, spObj, List.getElem?_cons_zero, List.getElem?_cons_succ, List.getD_cons_zero, List.getD_cons_succ, List.set_cons_zero, List.set_cons_succ, List.nil_append, List.cons_append, Option.toList, Bool.or_false, Bool.false_or, Bool.or_true, Bool.true_or, Nat.reduceBEq, Nat.reduceAdd, Nat.reduceLT, Nat.reduceLeDiff, Int.reduceAdd, Int.reduceToNat, true_and, and_true, Fin.isValue, Fin.val_zero, Fin.val_one, Fin.val_two, Fin.reduceFinMk, eq_self, Int.reduceNeg, imp_self, Nat.reduceMul, Nat.le_refl, not_true_eq_false, not_false_eq_true, List.getElem?_nil, reduceCtorEq, true_or, or_true, Classical.not_not, implies_true, or_self, wI_0, wI_1, wI_m1, b2i_w, b2i_eq0, b2i_eq1, b2i_bool, nor_self, nx_pI, kd_pI, ln_pI, fI_pI, fL_pI, fR_pI, aI_pI, aL_pI, aR_pI, nx_pL, kd_pL, ln_pL, fI_pL, fL_pL, fR_pL, aI_pL, aL_pL, aR_pL, nx_pR, kd_pR, ln_pR, fI_pR, fL_pR, fR_pR, aI_pR, aL_pR, aR_pR, nx_qI, kd_qI, ln_qI, fI_qI, fL_qI, fR_qI, aI_qI, aL_qI, aR_qI, nx_qL, kd_qL, ln_qL, fI_qL, fL_qL, fR_qL, aI_qL, aL_qL, aR_qL, nx_qR, kd_qR, ln_qR, fI_qR, fL_qR, fR_qR, aI_qR, aL_qR, aR_qR, nx_mk, kd_mk, ln_mk, fI_mk, fL_mk, fR_mk, aI_mk, aL_mk, aR_mk, false_and, and_false, if_false, if_true, and_self, Int.reduceEq, Nat.reduceEqDiff, ite_self, MLay_pI, MLay_pL, MLay_qI, MLay_qL, ev_Jx4a65c_grow_92f84_45, ev_Jx4a65c_grow_92f84_46, ev_Jx4a65c_grow_92f84_48, ev_Jx4a65c_grow_92f84_49, ev_Jx4a65c_grow_92f84_52, ev_Jx4a65c_grow_92f84_55, ev_Jx4a65c_grow_92f84_56, ev_Jx4a65c_grow_92f84_59, xt_Jx4a65c_grow_92f84, xf_Jx4a65c_grow_92f84, us_J8_newLength_cabcc, us_J7_copyOf_1904c, us_J9_max_7cf53, us_Newq, hk, e1]
      repeat' (first | intro z | apply And.intro)
      all_goals try omega
      all_goals try contradiction
      all_goals exact h
    have w17 : Go M_Jx4a65c_grow_92f84 Q 17 [some (vr this), some (vi (0 + 1)), some (vi 0), none] [vr (fR σ 1401 this), vr (fR σ 1401 this)] σ (0, 0) := go_acmpEq (off := 28) (tgt := 45) (by decide) (by decide +kernel) w45
    rw [show (vr (fR σ 1401 this) :: vr (fR σ 1401 this) :: ([] : List AV)) = [vr (fR σ 3000 0), vr (fR σ 1401 this)] by rw [l5]] at w17
    clear h w45 hel
    refine go_Jx4a65c_grow_92f84 (ct := fun p => p == 17 || p == 20) 40 ?_
    simp only [oI, oL, oR, o1, lI, lL, lR, popN, catS, gv, stL, stL2, swt, cnd, spObj, List.getElem?_cons_zero, List.getElem?_cons_succ, List.getD_cons_zero, List.getD_cons_succ, List.set_cons_zero, List.set_cons_succ, List.nil_append, List.cons_append, Option.toList, Bool.or_false, Bool.false_or, Bool.or_true, Bool.true_or, Nat.reduceBEq, Nat.reduceAdd, Nat.reduceLT, Nat.reduceLeDiff, Int.reduceAdd, Int.reduceToNat, true_and, and_true, Fin.isValue, Fin.val_zero, Fin.val_one, Fin.val_two, Fin.reduceFinMk, eq_self, Int.reduceNeg, imp_self, Nat.reduceMul, Nat.le_refl, not_true_eq_false, not_false_eq_true, List.getElem?_nil, reduceCtorEq, true_or, or_true, Classical.not_not, implies_true, or_self, wI_0, wI_1, wI_m1, b2i_w, b2i_eq0, b2i_eq1, b2i_bool, nor_self, nx_pI, kd_pI, ln_pI, fI_pI, fL_pI, fR_pI, aI_pI, aL_pI, aR_pI, nx_pL, kd_pL, ln_pL, fI_pL, fL_pL, fR_pL, aI_pL, aL_pL, aR_pL, nx_pR, kd_pR, ln_pR, fI_pR, fL_pR, fR_pR, aI_pR, aL_pR, aR_pR, nx_qI, kd_qI, ln_qI, fI_qI, fL_qI, fR_qI, aI_qI, aL_qI, aR_qI, nx_qL, kd_qL, ln_qL, fI_qL, fL_qL, fR_qL, aI_qL, aL_qL, aR_qL, nx_qR, kd_qR, ln_qR, fI_qR, fL_qR, fR_qR, aI_qR, aL_qR, aR_qR, nx_mk, kd_mk, ln_mk, fI_mk, fL_mk, fR_mk, aI_mk, aL_mk, aR_mk, false_and, and_false, if_false, if_true, and_self, Int.reduceEq, Nat.reduceEqDiff, ite_self, MLay_pI, MLay_pL, MLay_qI, MLay_qL, ev_Jx4a65c_grow_92f84_0, ev_Jx4a65c_grow_92f84_1, ev_Jx4a65c_grow_92f84_4, ev_Jx4a65c_grow_92f84_5, ev_Jx4a65c_grow_92f84_6, ev_Jx4a65c_grow_92f84_7, ev_Jx4a65c_grow_92f84_10, ev_Jx4a65c_grow_92f84_11, ev_Jx4a65c_grow_92f84_14, xt_Jx4a65c_grow_92f84, xf_Jx4a65c_grow_92f84, us_J8_newLength_cabcc, us_J7_copyOf_1904c, us_J9_max_7cf53, us_GsR, hk, l2, he]
    try simp (disch := omega) only [wI_id, dv_nn, rm_nn]
    repeat' (first | intro z | apply And.intro)
    all_goals try omega
    all_goals try contradiction
    all_goals exact w17

def sp_Jx4a65c_grow_d5877 : Sp := fun av σ Q => oR av fun this av => av = [] ∧ kd σ this = 14 ∧ ((∃ ci, (ci = 0 ∨ ci = 2 ∨ ci = 5) ∧ LOk σ this ci) ∧ fI σ 1402 this = ln σ (fR σ 1401 this) ∧ ln σ (fR σ 1401 this) ≤ 100 ∧ Q (some (vr (nx σ))) (lGrow σ this))
theorem us_Jx4a65c_grow_d5877 (this : Int) (σ : Hp) (Q : Option AV → Hp → Prop) : sp_Jx4a65c_grow_d5877 [vr this] σ Q = (kd σ this = 14 ∧ ((∃ ci, (ci = 0 ∨ ci = 2 ∨ ci = 5) ∧ LOk σ this ci) ∧ fI σ 1402 this = ln σ (fR σ 1401 this) ∧ ln σ (fR σ 1401 this) ≤ 100 ∧ Q (some (vr (nx σ))) (lGrow σ this))) := propext ⟨fun h => h.2, fun h => ⟨rfl, h⟩⟩
theorem el_Jx4a65c_grow_d5877 {av : List AV} {σ : Hp} {Q : Option AV → Hp → Prop} (h : sp_Jx4a65c_grow_d5877 av σ Q) : ∃ (this : Int), av = [vr this] ∧ (kd σ this = 14 ∧ ((∃ ci, (ci = 0 ∨ ci = 2 ∨ ci = 5) ∧ LOk σ this ci) ∧ fI σ 1402 this = ln σ (fR σ 1401 this) ∧ ln σ (fR σ 1401 this) ≤ 100 ∧ Q (some (vr (nx σ))) (lGrow σ this))) := by
  obtain ⟨this, a0, rfl, h0⟩ := oR_s h
  obtain ⟨rfl, hz⟩ := h0
  exact ⟨this, rfl, hz⟩
theorem rc_Jx4a65c_grow_d5877 : ∀ (av : List AV) (σ : Hp) (Q : Option AV → Hp → Prop), sp_Jx4a65c_grow_d5877 av σ Q → ∃ r tl, av = vr r :: tl ∧ kd σ r = 13 + 1 := fun av σ Q h => by
  obtain ⟨this, rfl, hz, -⟩ := el_Jx4a65c_grow_d5877 h
  exact ⟨this, _, rfl, hz⟩

def tb_Jx4a65c_grow_d5877 : Tab := [(0, .aload_n 0, 1, (0, 0, 0, 0)), (1, .aload_n 0, 1, (0, 0, 0, 0)), (2, .getfield 48, 3, (14, 1402, 0, 0)), (5, .iconst 1, 1, (0, 0, 0, 0)), (6, .iadd, 1, (0, 0, 0, 0)), (7, .invokevirtual 69, 3, (0, 0, 0, 0)), (10, .areturn, 1, (0, 0, 0, 0))]
set_option maxRecDepth 100000 in
theorem tk_Jx4a65c_grow_d5877 : TOK RJx4a65c false cJx4a65c_grow_d5877 tb_Jx4a65c_grow_d5877 := chkT_ok ft_Jx4a65c (by decide +kernel)
theorem rw_Jx4a65c_552 : Row RJx4a65c (.invokevirtual 69) 3 2 1 150 4 sp_Jx4a65c_grow_92f84 := row_V (n := 1) (ci := 13) c_Jx4a65c_grow_92f84 ⟨TBL_in 643 (by decide +kernel) rfl, TBL_in 646 (by decide +kernel) rfl, TBL_in 115 (by decide +kernel) rfl, by decide +kernel, by decide⟩ (by decide) rfl (TBL_in 645 (by decide +kernel) rfl) (TBL_in 9 (by decide +kernel) rfl) rc_Jx4a65c_grow_92f84
def mt_Jx4a65c_grow_d5877 : List (Nat × Mt) := [(552, 2, 1, 150, 4, sp_Jx4a65c_grow_92f84)]
theorem em_Jx4a65c_grow_d5877 : mt_Jx4a65c_grow_d5877.lookup 552 = some (2, 1, 150, 4, sp_Jx4a65c_grow_92f84) := rfl
theorem mk_Jx4a65c_grow_d5877 : MOK RJx4a65c mt_Jx4a65c_grow_d5877 := by
  intro q hq
  simp only [mt_Jx4a65c_grow_d5877, List.mem_cons, List.not_mem_nil, or_false] at hq
  rcases hq with rfl
  · exact rw_Jx4a65c_552
noncomputable def xe_Jx4a65c_grow_d5877 (ct : Nat → Bool) (K : Kt) (R : Option AV → Hp → Prop) (n : Nat) : Kt := exS 1 5 1 150 5 tb_Jx4a65c_grow_d5877 mt_Jx4a65c_grow_d5877 ct K R n
noncomputable def xk_Jx4a65c_grow_d5877 (ct : Nat → Bool) (K : Kt) (R : Option AV → Hp → Prop) (n : Nat) : Kt := exkS 1 5 1 150 5 tb_Jx4a65c_grow_d5877 mt_Jx4a65c_grow_d5877 ct K R n
theorem xt_Jx4a65c_grow_d5877 {ct : Nat → Bool} {K : Kt} {R : Option AV → Hp → Prop} {n pc : Nat} {ls : List (Option AV)} {st : List AV} {σ : Hp} {k : Nat × Nat} (h : ct pc = true) : xk_Jx4a65c_grow_d5877 ct K R n pc ls st σ k = K pc ls st σ k := by unfold xk_Jx4a65c_grow_d5877 exkS; rw [h]
theorem xf_Jx4a65c_grow_d5877 {ct : Nat → Bool} {K : Kt} {R : Option AV → Hp → Prop} {n pc : Nat} {ls : List (Option AV)} {st : List AV} {σ : Hp} {k : Nat × Nat} (h : ct pc = false) : xk_Jx4a65c_grow_d5877 ct K R n pc ls st σ k = xe_Jx4a65c_grow_d5877 ct K R n pc ls st σ k := by unfold xk_Jx4a65c_grow_d5877 exkS xe_Jx4a65c_grow_d5877; rw [h]
theorem ev_Jx4a65c_grow_d5877_0 {ct : Nat → Bool} {K : Kt} {R : Option AV → Hp → Prop} {n : Nat} {ls : List (Option AV)} {st : List AV} {σ : Hp} {k : Nat × Nat} : xe_Jx4a65c_grow_d5877 ct K R (n + 1) 0 ls st σ k = (lR ls 0 fun x => xk_Jx4a65c_grow_d5877 ct K R n 1 ls (vr x :: st) σ k) := exS_step.trans rfl
theorem ev_Jx4a65c_grow_d5877_1 {ct : Nat → Bool} {K : Kt} {R : Option AV → Hp → Prop} {n : Nat} {ls : List (Option AV)} {st : List AV} {σ : Hp} {k : Nat × Nat} : xe_Jx4a65c_grow_d5877 ct K R (n + 1) 1 ls st σ k = (lR ls 0 fun x => xk_Jx4a65c_grow_d5877 ct K R n 2 ls (vr x :: st) σ k) := exS_step.trans rfl
theorem ev_Jx4a65c_grow_d5877_2 {ct : Nat → Bool} {K : Kt} {R : Option AV → Hp → Prop} {n : Nat} {ls : List (Option AV)} {st : List AV} {σ : Hp} {k : Nat × Nat} : xe_Jx4a65c_grow_d5877 ct K R (n + 1) 2 ls st σ k = (oR st fun x st => kd σ x = 14 ∧ xk_Jx4a65c_grow_d5877 ct K R n 5 ls (vi (fI σ 1402 x) :: st) σ k) := exS_step.trans rfl
theorem ev_Jx4a65c_grow_d5877_5 {ct : Nat → Bool} {K : Kt} {R : Option AV → Hp → Prop} {n : Nat} {ls : List (Option AV)} {st : List AV} {σ : Hp} {k : Nat × Nat} : xe_Jx4a65c_grow_d5877 ct K R (n + 1) 5 ls st σ k = (xk_Jx4a65c_grow_d5877 ct K R n 6 ls (vi (1) :: st) σ k) := exS_step.trans rfl
theorem ev_Jx4a65c_grow_d5877_6 {ct : Nat → Bool} {K : Kt} {R : Option AV → Hp → Prop} {n : Nat} {ls : List (Option AV)} {st : List AV} {σ : Hp} {k : Nat × Nat} : xe_Jx4a65c_grow_d5877 ct K R (n + 1) 6 ls st σ k = (oI st fun y st => oI st fun x st => xk_Jx4a65c_grow_d5877 ct K R n 7 ls (vi (x + y) :: st) σ k) := exS_step.trans rfl
theorem ev_Jx4a65c_grow_d5877_7 {ct : Nat → Bool} {K : Kt} {R : Option AV → Hp → Prop} {n : Nat} {ls : List (Option AV)} {st : List AV} {σ : Hp} {k : Nat × Nat} : xe_Jx4a65c_grow_d5877 ct K R (n + 1) 7 ls st σ k = (popN 2 st [] fun av rest => (catS rest ≤ 8 ∧ 4 < 5 ∧ k.1 + 1 ≤ 1 ∧ k.2 + 150 ≤ 150) ∧ (sp_Jx4a65c_grow_92f84) av σ fun v σ' => xk_Jx4a65c_grow_d5877 ct K R n 10 ls (v.toList ++ rest) σ' (k.1 + 1, k.2 + 150)) := exS_step.trans rfl
theorem ev_Jx4a65c_grow_d5877_10 {ct : Nat → Bool} {K : Kt} {R : Option AV → Hp → Prop} {n : Nat} {ls : List (Option AV)} {st : List AV} {σ : Hp} {k : Nat × Nat} : xe_Jx4a65c_grow_d5877 ct K R (n + 1) 10 ls st σ k = (oR st fun x st => st = [] ∧ 5 = 5 ∧ R (some (vr x)) σ) := exS_step.trans rfl
def M_Jx4a65c_grow_d5877 : Md := (yJx4a65c_grow_d5877, cJx4a65c_grow_d5877, 1, (some (FieldType.array (FieldType.object "java/lang/Object"))), 5, 1, 150, 5, false, tb_Jx4a65c_grow_d5877, mt_Jx4a65c_grow_d5877)
theorem mm_Jx4a65c_grow_d5877 : MMOK M_Jx4a65c_grow_d5877 := ⟨by decide +kernel, tk_Jx4a65c_grow_d5877, mk_Jx4a65c_grow_d5877, Or.inr ⟨_, rfl⟩, fun h => by cases h⟩
theorem go_Jx4a65c_grow_d5877 {Q : Option AV → Hp → Prop} {ct : Nat → Bool} {pc : Nat} {ls : List (Option AV)} {st : List AV} {σ : Hp} {k : Nat × Nat} (n : Nat) (h : xe_Jx4a65c_grow_d5877 ct (Go M_Jx4a65c_grow_d5877 Q) Q n pc ls st σ k) : Go M_Jx4a65c_grow_d5877 Q pc ls st σ k := Go.exS mm_Jx4a65c_grow_d5877 h

set_option maxRecDepth 20000 in
theorem c_Jx4a65c_grow_d5877 : Ct yJx4a65c_grow_d5877 cJx4a65c_grow_d5877 1 ((some (FieldType.array (FieldType.object "java/lang/Object")))) 5 1 150 sp_Jx4a65c_grow_d5877 := by
  refine Ct.go (M := M_Jx4a65c_grow_d5877) mm_Jx4a65c_grow_d5877 fun av σ Q h0 => ?_
  obtain ⟨this, rfl, hk, h⟩ := el_Jx4a65c_grow_d5877 h0
  clear h0
  refine ⟨Nat.le_of_ble_eq_true rfl, ?_⟩
  show Go M_Jx4a65c_grow_d5877 Q 0 [some (vr this)] [] σ (0, 0)
  obtain ⟨hL, hf, hl, h⟩ := h
  refine go_Jx4a65c_grow_d5877 (ct := fun p => p == 99) 40 ?_
  simp only [oI, oL, oR, o1, lI, lL, lR, popN, catS, gv, stL, stL2, swt, cnd, spObj, List.getElem?_cons_zero, List.getElem?_cons_succ, List.getD_cons_zero, List.getD_cons_succ, List.set_cons_zero, List.set_cons_succ, List.nil_append, List.cons_append, Option.toList, Bool.or_false, Bool.false_or, Bool.or_true, Bool.true_or, Nat.reduceBEq, Nat.reduceAdd, Nat.reduceLT, Nat.reduceLeDiff, Int.reduceAdd, Int.reduceToNat, true_and, and_true, Fin.isValue, Fin.val_zero, Fin.val_one, Fin.val_two, Fin.reduceFinMk, eq_self, Int.reduceNeg, imp_self, Nat.reduceMul, Nat.le_refl, not_true_eq_false, not_false_eq_true, List.getElem?_nil, reduceCtorEq, true_or, or_true, Classical.not_not, implies_true, or_self, wI_0, wI_1, wI_m1, b2i_w, b2i_eq0, b2i_eq1, b2i_bool, nor_self, nx_pI, kd_pI, ln_pI, fI_pI, fL_pI, fR_pI, aI_pI, aL_pI, aR_pI, nx_pL, kd_pL, ln_pL, fI_pL, fL_pL, fR_pL, aI_pL, aL_pL, aR_pL, nx_pR, kd_pR, ln_pR, fI_pR, fL_pR, fR_pR, aI_pR, aL_pR, aR_pR, nx_qI, kd_qI, ln_qI, fI_qI, fL_qI, fR_qI, aI_qI, aL_qI, aR_qI, nx_qL, kd_qL, ln_qL, fI_qL, fL_qL, fR_qL, aI_qL, aL_qL, aR_qL, nx_qR, kd_qR, ln_qR, fI_qR, fL_qR, fR_qR, aI_qR, aL_qR, aR_qR, nx_mk, kd_mk, ln_mk, fI_mk, fL_mk, fR_mk, aI_mk, aL_mk, aR_mk, false_and, and_false, if_false, if_true, and_self, Int.reduceEq, Nat.reduceEqDiff, ite_self, MLay_pI, MLay_pL, MLay_qI, MLay_qL, ev_Jx4a65c_grow_d5877_0, ev_Jx4a65c_grow_d5877_1, ev_Jx4a65c_grow_d5877_2, ev_Jx4a65c_grow_d5877_5, ev_Jx4a65c_grow_d5877_6, ev_Jx4a65c_grow_d5877_7, ev_Jx4a65c_grow_d5877_10, xt_Jx4a65c_grow_d5877, xf_Jx4a65c_grow_d5877, us_Jx4a65c_grow_92f84, hk]
  exact ⟨hL, hf, hl, h⟩
