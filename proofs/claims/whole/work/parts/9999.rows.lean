/-! the class: a reading's rows -/

def sp_X10_openWord : Sp := fun av σ Q => oR av fun this av => oI av fun d av => oI av fun w av => av = [] ∧ kd σ this = 11 ∧ (this = 4 ∧ CLay σ ∧ (0 ≤ d ∧ d < 4) ∧ (0 ≤ w ∧ w < 5) ∧ Q (some (vl (aL σ (8 + d) w))) σ)
theorem us_X10_openWord (this : Int) (d : Int) (w : Int) (σ : Hp) (Q : Option AV → Hp → Prop) : sp_X10_openWord [vr this, vi d, vi w] σ Q = (kd σ this = 11 ∧ (this = 4 ∧ CLay σ ∧ (0 ≤ d ∧ d < 4) ∧ (0 ≤ w ∧ w < 5) ∧ Q (some (vl (aL σ (8 + d) w))) σ)) := propext ⟨fun h => h.2, fun h => ⟨rfl, h⟩⟩
theorem el_X10_openWord {av : List AV} {σ : Hp} {Q : Option AV → Hp → Prop} (h : sp_X10_openWord av σ Q) : ∃ (this : Int) (d : Int) (w : Int), av = [vr this, vi d, vi w] ∧ (kd σ this = 11 ∧ (this = 4 ∧ CLay σ ∧ (0 ≤ d ∧ d < 4) ∧ (0 ≤ w ∧ w < 5) ∧ Q (some (vl (aL σ (8 + d) w))) σ)) := by
  obtain ⟨this, a0, rfl, h0⟩ := oR_s h
  obtain ⟨d, a1, rfl, h1⟩ := oI_s h0
  obtain ⟨w, a2, rfl, h2⟩ := oI_s h1
  obtain ⟨rfl, hz⟩ := h2
  exact ⟨this, d, w, rfl, hz⟩
theorem rc_X10_openWord : ∀ (av : List AV) (σ : Hp) (Q : Option AV → Hp → Prop), sp_X10_openWord av σ Q → ∃ r tl, av = vr r :: tl ∧ kd σ r = 10 + 1 := fun av σ Q h => by
  obtain ⟨this, d, w, rfl, hz, -⟩ := el_X10_openWord h
  exact ⟨this, _, rfl, hz⟩

def tb_X10_openWord : Tab := [(0, .iload_n 1, 1, (0, 0, 0, 0)), (1, .ifCond .lt 32, 3, (0, 0, 0, 0)), (4, .iload_n 1, 1, (0, 0, 0, 0)), (5, .aload_n 0, 1, (0, 0, 0, 0)), (6, .getfield 20, 3, (11, 1102, 2, 0)), (9, .arraylength, 1, (0, 0, 0, 0)), (10, .if_icmp .ge 23, 3, (0, 0, 0, 0)), (13, .iload_n 2, 1, (0, 0, 0, 0)), (14, .ifCond .lt 19, 3, (0, 0, 0, 0)), (17, .iload_n 2, 1, (0, 0, 0, 0)), (18, .iconst 5, 1, (0, 0, 0, 0)), (19, .if_icmp .ge 14, 3, (0, 0, 0, 0)), (22, .aload_n 0, 1, (0, 0, 0, 0)), (23, .getfield 20, 3, (11, 1102, 2, 0)), (26, .iload_n 1, 1, (0, 0, 0, 0)), (27, .aaload, 1, (0, 0, 0, 0)), (28, .iload_n 2, 1, (0, 0, 0, 0)), (29, .laload, 1, (0, 0, 0, 0)), (30, .goto 4, 3, (0, 0, 0, 0)), (33, .lconst 0, 1, (0, 0, 0, 0)), (34, .lreturn, 1, (0, 0, 0, 0))]
set_option maxRecDepth 100000 in
theorem tk_X10_openWord : TOK RX10 false cX10_openWord tb_X10_openWord := chkT_ok ft_X10 (by decide +kernel)
def mt_X10_openWord : List (Nat × Mt) := []
theorem mk_X10_openWord : MOK RX10 mt_X10_openWord := fun q hq => by cases hq
noncomputable def xe_X10_openWord (ct : Nat → Bool) (K : Kt) (R : Option AV → Hp → Prop) (n : Nat) : Kt := exS 3 1 0 0 4 tb_X10_openWord mt_X10_openWord ct K R n
noncomputable def xk_X10_openWord (ct : Nat → Bool) (K : Kt) (R : Option AV → Hp → Prop) (n : Nat) : Kt := exkS 3 1 0 0 4 tb_X10_openWord mt_X10_openWord ct K R n
theorem xt_X10_openWord {ct : Nat → Bool} {K : Kt} {R : Option AV → Hp → Prop} {n pc : Nat} {ls : List (Option AV)} {st : List AV} {σ : Hp} {k : Nat × Nat} (h : ct pc = true) : xk_X10_openWord ct K R n pc ls st σ k = K pc ls st σ k := by unfold xk_X10_openWord exkS; rw [h]
theorem xf_X10_openWord {ct : Nat → Bool} {K : Kt} {R : Option AV → Hp → Prop} {n pc : Nat} {ls : List (Option AV)} {st : List AV} {σ : Hp} {k : Nat × Nat} (h : ct pc = false) : xk_X10_openWord ct K R n pc ls st σ k = xe_X10_openWord ct K R n pc ls st σ k := by unfold xk_X10_openWord exkS xe_X10_openWord; rw [h]
theorem ev_X10_openWord_0 {ct : Nat → Bool} {K : Kt} {R : Option AV → Hp → Prop} {n : Nat} {ls : List (Option AV)} {st : List AV} {σ : Hp} {k : Nat × Nat} : xe_X10_openWord ct K R (n + 1) 0 ls st σ k = (lI ls 1 fun x => xk_X10_openWord ct K R n 1 ls (vi x :: st) σ k) := exS_step.trans rfl
theorem ev_X10_openWord_1 {ct : Nat → Bool} {K : Kt} {R : Option AV → Hp → Prop} {n : Nat} {ls : List (Option AV)} {st : List AV} {σ : Hp} {k : Nat × Nat} : xe_X10_openWord ct K R (n + 1) 1 ls st σ k = (oI st fun x st => (wI x < wI 0 → xk_X10_openWord ct K R n 33 ls st σ k) ∧ (¬ (wI x < wI 0) → xk_X10_openWord ct K R n 4 ls st σ k)) := exS_step.trans rfl
theorem ev_X10_openWord_4 {ct : Nat → Bool} {K : Kt} {R : Option AV → Hp → Prop} {n : Nat} {ls : List (Option AV)} {st : List AV} {σ : Hp} {k : Nat × Nat} : xe_X10_openWord ct K R (n + 1) 4 ls st σ k = (lI ls 1 fun x => xk_X10_openWord ct K R n 5 ls (vi x :: st) σ k) := exS_step.trans rfl
theorem ev_X10_openWord_5 {ct : Nat → Bool} {K : Kt} {R : Option AV → Hp → Prop} {n : Nat} {ls : List (Option AV)} {st : List AV} {σ : Hp} {k : Nat × Nat} : xe_X10_openWord ct K R (n + 1) 5 ls st σ k = (lR ls 0 fun x => xk_X10_openWord ct K R n 6 ls (vr x :: st) σ k) := exS_step.trans rfl
theorem ev_X10_openWord_6 {ct : Nat → Bool} {K : Kt} {R : Option AV → Hp → Prop} {n : Nat} {ls : List (Option AV)} {st : List AV} {σ : Hp} {k : Nat × Nat} : xe_X10_openWord ct K R (n + 1) 6 ls st σ k = (oR st fun x st => kd σ x = 11 ∧ xk_X10_openWord ct K R n 9 ls (vr (fR σ 1102 x) :: st) σ k) := exS_step.trans rfl
theorem ev_X10_openWord_9 {ct : Nat → Bool} {K : Kt} {R : Option AV → Hp → Prop} {n : Nat} {ls : List (Option AV)} {st : List AV} {σ : Hp} {k : Nat × Nat} : xe_X10_openWord ct K R (n + 1) 9 ls st σ k = (oR st fun x st => (101 ≤ kd σ x ∨ kd σ x = 21) ∧ xk_X10_openWord ct K R n 10 ls (vi (ln σ x) :: st) σ k) := exS_step.trans rfl
theorem ev_X10_openWord_10 {ct : Nat → Bool} {K : Kt} {R : Option AV → Hp → Prop} {n : Nat} {ls : List (Option AV)} {st : List AV} {σ : Hp} {k : Nat × Nat} : xe_X10_openWord ct K R (n + 1) 10 ls st σ k = (oI st fun y st => oI st fun x st => (wI y ≤ wI x → xk_X10_openWord ct K R n 33 ls st σ k) ∧ (¬ (wI y ≤ wI x) → xk_X10_openWord ct K R n 13 ls st σ k)) := exS_step.trans rfl
theorem ev_X10_openWord_13 {ct : Nat → Bool} {K : Kt} {R : Option AV → Hp → Prop} {n : Nat} {ls : List (Option AV)} {st : List AV} {σ : Hp} {k : Nat × Nat} : xe_X10_openWord ct K R (n + 1) 13 ls st σ k = (lI ls 2 fun x => xk_X10_openWord ct K R n 14 ls (vi x :: st) σ k) := exS_step.trans rfl
theorem ev_X10_openWord_14 {ct : Nat → Bool} {K : Kt} {R : Option AV → Hp → Prop} {n : Nat} {ls : List (Option AV)} {st : List AV} {σ : Hp} {k : Nat × Nat} : xe_X10_openWord ct K R (n + 1) 14 ls st σ k = (oI st fun x st => (wI x < wI 0 → xk_X10_openWord ct K R n 33 ls st σ k) ∧ (¬ (wI x < wI 0) → xk_X10_openWord ct K R n 17 ls st σ k)) := exS_step.trans rfl
theorem ev_X10_openWord_17 {ct : Nat → Bool} {K : Kt} {R : Option AV → Hp → Prop} {n : Nat} {ls : List (Option AV)} {st : List AV} {σ : Hp} {k : Nat × Nat} : xe_X10_openWord ct K R (n + 1) 17 ls st σ k = (lI ls 2 fun x => xk_X10_openWord ct K R n 18 ls (vi x :: st) σ k) := exS_step.trans rfl
theorem ev_X10_openWord_18 {ct : Nat → Bool} {K : Kt} {R : Option AV → Hp → Prop} {n : Nat} {ls : List (Option AV)} {st : List AV} {σ : Hp} {k : Nat × Nat} : xe_X10_openWord ct K R (n + 1) 18 ls st σ k = (xk_X10_openWord ct K R n 19 ls (vi (5) :: st) σ k) := exS_step.trans rfl
theorem ev_X10_openWord_19 {ct : Nat → Bool} {K : Kt} {R : Option AV → Hp → Prop} {n : Nat} {ls : List (Option AV)} {st : List AV} {σ : Hp} {k : Nat × Nat} : xe_X10_openWord ct K R (n + 1) 19 ls st σ k = (oI st fun y st => oI st fun x st => (wI y ≤ wI x → xk_X10_openWord ct K R n 33 ls st σ k) ∧ (¬ (wI y ≤ wI x) → xk_X10_openWord ct K R n 22 ls st σ k)) := exS_step.trans rfl
theorem ev_X10_openWord_22 {ct : Nat → Bool} {K : Kt} {R : Option AV → Hp → Prop} {n : Nat} {ls : List (Option AV)} {st : List AV} {σ : Hp} {k : Nat × Nat} : xe_X10_openWord ct K R (n + 1) 22 ls st σ k = (lR ls 0 fun x => xk_X10_openWord ct K R n 23 ls (vr x :: st) σ k) := exS_step.trans rfl
theorem ev_X10_openWord_23 {ct : Nat → Bool} {K : Kt} {R : Option AV → Hp → Prop} {n : Nat} {ls : List (Option AV)} {st : List AV} {σ : Hp} {k : Nat × Nat} : xe_X10_openWord ct K R (n + 1) 23 ls st σ k = (oR st fun x st => kd σ x = 11 ∧ xk_X10_openWord ct K R n 26 ls (vr (fR σ 1102 x) :: st) σ k) := exS_step.trans rfl
theorem ev_X10_openWord_26 {ct : Nat → Bool} {K : Kt} {R : Option AV → Hp → Prop} {n : Nat} {ls : List (Option AV)} {st : List AV} {σ : Hp} {k : Nat × Nat} : xe_X10_openWord ct K R (n + 1) 26 ls st σ k = (lI ls 1 fun x => xk_X10_openWord ct K R n 27 ls (vi x :: st) σ k) := exS_step.trans rfl
theorem ev_X10_openWord_27 {ct : Nat → Bool} {K : Kt} {R : Option AV → Hp → Prop} {n : Nat} {ls : List (Option AV)} {st : List AV} {σ : Hp} {k : Nat × Nat} : xe_X10_openWord ct K R (n + 1) 27 ls st σ k = (oI st fun j st => oR st fun x st => (kd σ x = 105 ∨ kd σ x = 106 ∨ kd σ x = 107) ∧ (0 ≤ j ∧ j < ln σ x) ∧ xk_X10_openWord ct K R n 28 ls (vr (aR σ x j) :: st) σ k) := exS_step.trans rfl
theorem ev_X10_openWord_28 {ct : Nat → Bool} {K : Kt} {R : Option AV → Hp → Prop} {n : Nat} {ls : List (Option AV)} {st : List AV} {σ : Hp} {k : Nat × Nat} : xe_X10_openWord ct K R (n + 1) 28 ls st σ k = (lI ls 2 fun x => xk_X10_openWord ct K R n 29 ls (vi x :: st) σ k) := exS_step.trans rfl
theorem ev_X10_openWord_29 {ct : Nat → Bool} {K : Kt} {R : Option AV → Hp → Prop} {n : Nat} {ls : List (Option AV)} {st : List AV} {σ : Hp} {k : Nat × Nat} : xe_X10_openWord ct K R (n + 1) 29 ls st σ k = (oI st fun j st => oR st fun x st => kd σ x = 102 ∧ (0 ≤ j ∧ j < ln σ x) ∧ xk_X10_openWord ct K R n 30 ls (vl (aL σ x j) :: st) σ k) := exS_step.trans rfl
theorem ev_X10_openWord_30 {ct : Nat → Bool} {K : Kt} {R : Option AV → Hp → Prop} {n : Nat} {ls : List (Option AV)} {st : List AV} {σ : Hp} {k : Nat × Nat} : xe_X10_openWord ct K R (n + 1) 30 ls st σ k = (xk_X10_openWord ct K R n 34 ls st σ k) := exS_step.trans rfl
theorem ev_X10_openWord_33 {ct : Nat → Bool} {K : Kt} {R : Option AV → Hp → Prop} {n : Nat} {ls : List (Option AV)} {st : List AV} {σ : Hp} {k : Nat × Nat} : xe_X10_openWord ct K R (n + 1) 33 ls st σ k = (xk_X10_openWord ct K R n 34 ls (vl (BitVec.ofNat 64 0) :: st) σ k) := exS_step.trans rfl
theorem ev_X10_openWord_34 {ct : Nat → Bool} {K : Kt} {R : Option AV → Hp → Prop} {n : Nat} {ls : List (Option AV)} {st : List AV} {σ : Hp} {k : Nat × Nat} : xe_X10_openWord ct K R (n + 1) 34 ls st σ k = (oL st fun x st => st = [] ∧ 4 = 4 ∧ R (some (vl x)) σ) := exS_step.trans rfl
def M_X10_openWord : Md := (yX10_openWord, cX10_openWord, 3, (some FieldType.long), 1, 0, 0, 4, false, tb_X10_openWord, mt_X10_openWord)
theorem mm_X10_openWord : MMOK M_X10_openWord := ⟨by decide +kernel, tk_X10_openWord, mk_X10_openWord, rfl, fun h => by cases h⟩
theorem go_X10_openWord {Q : Option AV → Hp → Prop} {ct : Nat → Bool} {pc : Nat} {ls : List (Option AV)} {st : List AV} {σ : Hp} {k : Nat × Nat} (n : Nat) (h : xe_X10_openWord ct (Go M_X10_openWord Q) Q n pc ls st σ k) : Go M_X10_openWord Q pc ls st σ k := Go.exS mm_X10_openWord h

set_option maxRecDepth 20000 in
theorem c_X10_openWord : Ct yX10_openWord cX10_openWord 3 ((some FieldType.long)) 1 0 0 sp_X10_openWord := by
  refine Ct.go (M := M_X10_openWord) mm_X10_openWord fun av σ Q h0 => ?_
  obtain ⟨this, d, w, rfl, hk, h⟩ := el_X10_openWord h0
  clear h0
  refine ⟨Nat.le_of_ble_eq_true rfl, ?_⟩
  show Go M_X10_openWord Q 0 [some (vr this), some (vi d), some (vi w)] [] σ (0, 0)
  obtain ⟨rfl, hC, hd, hw, h⟩ := h
  have r := row_at hC hd
  have hk2 := r.2.1
  have hl2 := r.2.2
  have hr := r.1
  refine go_X10_openWord (ct := fun p => p == 33) 40 ?_
  simp only [oI, oL, oR, o1, lI, lL, lR, popN, catS, gv, stL, stL2, swt, cnd, spObj, List.getElem?_cons_zero, List.getElem?_cons_succ, List.getD_cons_zero, List.getD_cons_succ, List.set_cons_zero, List.set_cons_succ, List.nil_append, List.cons_append, Option.toList, Bool.or_false, Bool.false_or, Bool.or_true, Bool.true_or, Nat.reduceBEq, Nat.reduceAdd, Nat.reduceLT, Nat.reduceLeDiff, Int.reduceAdd, Int.reduceToNat, true_and, and_true, Fin.isValue, Fin.val_zero, Fin.val_one, Fin.val_two, Fin.reduceFinMk, eq_self, Int.reduceNeg, imp_self, Nat.reduceMul, Nat.le_refl, not_true_eq_false, not_false_eq_true, List.getElem?_nil, reduceCtorEq, true_or, or_true, Classical.not_not, implies_true, or_self, wI_0, wI_1, wI_m1, b2i_w, b2i_eq0, b2i_eq1, b2i_bool, nor_self, nx_pI, kd_pI, ln_pI, fI_pI, fL_pI, fR_pI, aI_pI, aL_pI, aR_pI, nx_pL, kd_pL, ln_pL, fI_pL, fL_pL, fR_pL, aI_pL, aL_pL, aR_pL, nx_pR, kd_pR, ln_pR, fI_pR, fL_pR, fR_pR, aI_pR, aL_pR, aR_pR, nx_qI, kd_qI, ln_qI, fI_qI, fL_qI, fR_qI, aI_qI, aL_qI, aR_qI, nx_qL, kd_qL, ln_qL, fI_qL, fL_qL, fR_qL, aI_qL, aL_qL, aR_qL, nx_qR, kd_qR, ln_qR, fI_qR, fL_qR, fR_qR, aI_qR, aL_qR, aR_qR, nx_mk, kd_mk, ln_mk, fI_mk, fL_mk, fR_mk, aI_mk, aL_mk, aR_mk, false_and, and_false, if_false, if_true, and_self, Int.reduceEq, Nat.reduceEqDiff, ite_self, MLay_pI, MLay_pL, MLay_qI, MLay_qL, ev_X10_openWord_0, ev_X10_openWord_1, ev_X10_openWord_4, ev_X10_openWord_5, ev_X10_openWord_6, ev_X10_openWord_9, ev_X10_openWord_10, ev_X10_openWord_13, ev_X10_openWord_14, ev_X10_openWord_17, ev_X10_openWord_18, ev_X10_openWord_19, ev_X10_openWord_22, ev_X10_openWord_23, ev_X10_openWord_26, ev_X10_openWord_27, ev_X10_openWord_28, ev_X10_openWord_29, ev_X10_openWord_30, ev_X10_openWord_33, ev_X10_openWord_34, xt_X10_openWord, xf_X10_openWord, hk, hC.eqs, hr, hk2, hl2]
  try simp (disch := omega) only [wI_id, dv_nn, rm_nn]
  repeat' (first | intro z | apply And.intro)
  all_goals try omega
  all_goals try contradiction
  all_goals exact h

def sp_X10_firstOpen : Sp := fun av σ Q => oR av fun this av => oI av fun d av => av = [] ∧ kd σ this = 11 ∧ (this = 4 ∧ CLay σ ∧ (0 ≤ d ∧ d < 4) ∧ ∃ P, B64 (aL σ (8 + d)) P ∧ (∀ f, (0 ≤ f ∧ f < 320) → P f → (∀ u, 0 ≤ u → u < f → ¬ P u) → Q (some (vi f)) σ) ∧ ((∀ u, 0 ≤ u → u < 320 → ¬ P u) → Q (some (vi (-1))) σ))
theorem us_X10_firstOpen (this : Int) (d : Int) (σ : Hp) (Q : Option AV → Hp → Prop) : sp_X10_firstOpen [vr this, vi d] σ Q = (kd σ this = 11 ∧ (this = 4 ∧ CLay σ ∧ (0 ≤ d ∧ d < 4) ∧ ∃ P, B64 (aL σ (8 + d)) P ∧ (∀ f, (0 ≤ f ∧ f < 320) → P f → (∀ u, 0 ≤ u → u < f → ¬ P u) → Q (some (vi f)) σ) ∧ ((∀ u, 0 ≤ u → u < 320 → ¬ P u) → Q (some (vi (-1))) σ))) := propext ⟨fun h => h.2, fun h => ⟨rfl, h⟩⟩
theorem el_X10_firstOpen {av : List AV} {σ : Hp} {Q : Option AV → Hp → Prop} (h : sp_X10_firstOpen av σ Q) : ∃ (this : Int) (d : Int), av = [vr this, vi d] ∧ (kd σ this = 11 ∧ (this = 4 ∧ CLay σ ∧ (0 ≤ d ∧ d < 4) ∧ ∃ P, B64 (aL σ (8 + d)) P ∧ (∀ f, (0 ≤ f ∧ f < 320) → P f → (∀ u, 0 ≤ u → u < f → ¬ P u) → Q (some (vi f)) σ) ∧ ((∀ u, 0 ≤ u → u < 320 → ¬ P u) → Q (some (vi (-1))) σ))) := by
  obtain ⟨this, a0, rfl, h0⟩ := oR_s h
  obtain ⟨d, a1, rfl, h1⟩ := oI_s h0
  obtain ⟨rfl, hz⟩ := h1
  exact ⟨this, d, rfl, hz⟩
theorem rc_X10_firstOpen : ∀ (av : List AV) (σ : Hp) (Q : Option AV → Hp → Prop), sp_X10_firstOpen av σ Q → ∃ r tl, av = vr r :: tl ∧ kd σ r = 10 + 1 := fun av σ Q h => by
  obtain ⟨this, d, rfl, hz, -⟩ := el_X10_firstOpen h
  exact ⟨this, _, rfl, hz⟩

def tb_X10_firstOpen : Tab := [(0, .iconst 0, 1, (0, 0, 0, 0)), (1, .istore_n 2, 1, (0, 0, 0, 0)), (2, .iload_n 2, 1, (0, 0, 0, 0)), (3, .iconst 5, 1, (0, 0, 0, 0)), (4, .if_icmp .ge 37, 3, (0, 0, 0, 0)), (7, .aload_n 0, 1, (0, 0, 0, 0)), (8, .iload_n 1, 1, (0, 0, 0, 0)), (9, .iload_n 2, 1, (0, 0, 0, 0)), (10, .invokevirtual 82, 3, (0, 0, 0, 0)), (13, .lstore_n 3, 1, (0, 0, 0, 0)), (14, .lload_n 3, 1, (0, 0, 0, 0)), (15, .lconst 0, 1, (0, 0, 0, 0)), (16, .lcmp, 1, (0, 0, 0, 0)), (17, .ifCond .eq 18, 3, (0, 0, 0, 0)), (20, .bipush 64, 2, (0, 0, 0, 0)), (22, .iload_n 2, 1, (0, 0, 0, 0)), (23, .imul, 1, (0, 0, 0, 0)), (24, .lload_n 3, 1, (0, 0, 0, 0)), (25, .lload_n 3, 1, (0, 0, 0, 0)), (26, .lneg, 1, (0, 0, 0, 0)), (27, .land, 1, (0, 0, 0, 0)), (28, .lconst 1, 1, (0, 0, 0, 0)), (29, .lsub, 1, (0, 0, 0, 0)), (30, .invokestatic 86, 3, (0, 0, 0, 0)), (33, .iadd, 1, (0, 0, 0, 0)), (34, .ireturn, 1, (0, 0, 0, 0)), (35, .iinc 2 1, 3, (0, 0, 0, 0)), (38, .goto (-36), 3, (0, 0, 0, 0)), (41, .iconst (-1), 1, (0, 0, 0, 0)), (42, .ireturn, 1, (0, 0, 0, 0))]
set_option maxRecDepth 100000 in
theorem tk_X10_firstOpen : TOK RX10 false cX10_firstOpen tb_X10_firstOpen := chkT_ok ft_X10 (by decide +kernel)
theorem rw_X10_656 : Row RX10 (.invokevirtual 82) 3 3 0 0 1 sp_X10_openWord := row_V (n := 2) (ci := 10) c_X10_openWord ⟨TBL_in 752 (by decide +kernel) rfl, TBL_in 755 (by decide +kernel) rfl, TBL_in 112 (by decide +kernel) rfl, by decide +kernel, by decide⟩ (by decide) rfl (TBL_in 754 (by decide +kernel) rfl) (TBL_in 16 (by decide +kernel) rfl) rc_X10_openWord
theorem rw_X10_689 : Row RX10 (.invokestatic 86) 3 1 0 0 1 sp_J13_bitCount_95d88 := row_S c_J13_bitCount_95d88 ⟨TBL_in 756 (by decide +kernel) rfl, TBL_in 758 (by decide +kernel) rfl, TBL_in 131 (by decide +kernel) rfl, by decide +kernel, by decide⟩ (TBL_in 757 (by decide +kernel) rfl)
def mt_X10_firstOpen : List (Nat × Mt) := [(656, 3, 0, 0, 1, sp_X10_openWord), (689, 1, 0, 0, 1, sp_J13_bitCount_95d88)]
theorem em_X10_firstOpen : mt_X10_firstOpen.lookup 656 = some (3, 0, 0, 1, sp_X10_openWord) ∧ mt_X10_firstOpen.lookup 689 = some (1, 0, 0, 1, sp_J13_bitCount_95d88) := ⟨rfl, rfl⟩
theorem mk_X10_firstOpen : MOK RX10 mt_X10_firstOpen := by
  intro q hq
  simp only [mt_X10_firstOpen, List.mem_cons, List.not_mem_nil, or_false] at hq
  rcases hq with rfl | rfl
  · exact rw_X10_656
  · exact rw_X10_689
noncomputable def xe_X10_firstOpen (ct : Nat → Bool) (K : Kt) (R : Option AV → Hp → Prop) (n : Nat) : Kt := exS 5 2 0 0 1 tb_X10_firstOpen mt_X10_firstOpen ct K R n
noncomputable def xk_X10_firstOpen (ct : Nat → Bool) (K : Kt) (R : Option AV → Hp → Prop) (n : Nat) : Kt := exkS 5 2 0 0 1 tb_X10_firstOpen mt_X10_firstOpen ct K R n
theorem xt_X10_firstOpen {ct : Nat → Bool} {K : Kt} {R : Option AV → Hp → Prop} {n pc : Nat} {ls : List (Option AV)} {st : List AV} {σ : Hp} {k : Nat × Nat} (h : ct pc = true) : xk_X10_firstOpen ct K R n pc ls st σ k = K pc ls st σ k := by unfold xk_X10_firstOpen exkS; rw [h]
theorem xf_X10_firstOpen {ct : Nat → Bool} {K : Kt} {R : Option AV → Hp → Prop} {n pc : Nat} {ls : List (Option AV)} {st : List AV} {σ : Hp} {k : Nat × Nat} (h : ct pc = false) : xk_X10_firstOpen ct K R n pc ls st σ k = xe_X10_firstOpen ct K R n pc ls st σ k := by unfold xk_X10_firstOpen exkS xe_X10_firstOpen; rw [h]
theorem ev_X10_firstOpen_0 {ct : Nat → Bool} {K : Kt} {R : Option AV → Hp → Prop} {n : Nat} {ls : List (Option AV)} {st : List AV} {σ : Hp} {k : Nat × Nat} : xe_X10_firstOpen ct K R (n + 1) 0 ls st σ k = (xk_X10_firstOpen ct K R n 1 ls (vi (0) :: st) σ k) := exS_step.trans rfl
theorem ev_X10_firstOpen_1 {ct : Nat → Bool} {K : Kt} {R : Option AV → Hp → Prop} {n : Nat} {ls : List (Option AV)} {st : List AV} {σ : Hp} {k : Nat × Nat} : xe_X10_firstOpen ct K R (n + 1) 1 ls st σ k = (oI st fun x st => 2 < 5 ∧ xk_X10_firstOpen ct K R n 2 (stL ls 2 (vi x)) st σ k) := exS_step.trans rfl
theorem ev_X10_firstOpen_2 {ct : Nat → Bool} {K : Kt} {R : Option AV → Hp → Prop} {n : Nat} {ls : List (Option AV)} {st : List AV} {σ : Hp} {k : Nat × Nat} : xe_X10_firstOpen ct K R (n + 1) 2 ls st σ k = (lI ls 2 fun x => xk_X10_firstOpen ct K R n 3 ls (vi x :: st) σ k) := exS_step.trans rfl
theorem ev_X10_firstOpen_3 {ct : Nat → Bool} {K : Kt} {R : Option AV → Hp → Prop} {n : Nat} {ls : List (Option AV)} {st : List AV} {σ : Hp} {k : Nat × Nat} : xe_X10_firstOpen ct K R (n + 1) 3 ls st σ k = (xk_X10_firstOpen ct K R n 4 ls (vi (5) :: st) σ k) := exS_step.trans rfl
theorem ev_X10_firstOpen_4 {ct : Nat → Bool} {K : Kt} {R : Option AV → Hp → Prop} {n : Nat} {ls : List (Option AV)} {st : List AV} {σ : Hp} {k : Nat × Nat} : xe_X10_firstOpen ct K R (n + 1) 4 ls st σ k = (oI st fun y st => oI st fun x st => (wI y ≤ wI x → xk_X10_firstOpen ct K R n 41 ls st σ k) ∧ (¬ (wI y ≤ wI x) → xk_X10_firstOpen ct K R n 7 ls st σ k)) := exS_step.trans rfl
theorem ev_X10_firstOpen_7 {ct : Nat → Bool} {K : Kt} {R : Option AV → Hp → Prop} {n : Nat} {ls : List (Option AV)} {st : List AV} {σ : Hp} {k : Nat × Nat} : xe_X10_firstOpen ct K R (n + 1) 7 ls st σ k = (lR ls 0 fun x => xk_X10_firstOpen ct K R n 8 ls (vr x :: st) σ k) := exS_step.trans rfl
theorem ev_X10_firstOpen_8 {ct : Nat → Bool} {K : Kt} {R : Option AV → Hp → Prop} {n : Nat} {ls : List (Option AV)} {st : List AV} {σ : Hp} {k : Nat × Nat} : xe_X10_firstOpen ct K R (n + 1) 8 ls st σ k = (lI ls 1 fun x => xk_X10_firstOpen ct K R n 9 ls (vi x :: st) σ k) := exS_step.trans rfl
theorem ev_X10_firstOpen_9 {ct : Nat → Bool} {K : Kt} {R : Option AV → Hp → Prop} {n : Nat} {ls : List (Option AV)} {st : List AV} {σ : Hp} {k : Nat × Nat} : xe_X10_firstOpen ct K R (n + 1) 9 ls st σ k = (lI ls 2 fun x => xk_X10_firstOpen ct K R n 10 ls (vi x :: st) σ k) := exS_step.trans rfl
theorem ev_X10_firstOpen_10 {ct : Nat → Bool} {K : Kt} {R : Option AV → Hp → Prop} {n : Nat} {ls : List (Option AV)} {st : List AV} {σ : Hp} {k : Nat × Nat} : xe_X10_firstOpen ct K R (n + 1) 10 ls st σ k = (popN 3 st [] fun av rest => (catS rest ≤ 8 ∧ 1 < 2 ∧ k.1 + 0 ≤ 0 ∧ k.2 + 0 ≤ 0) ∧ (sp_X10_openWord) av σ fun v σ' => xk_X10_firstOpen ct K R n 13 ls (v.toList ++ rest) σ' (k.1 + 0, k.2 + 0)) := exS_step.trans rfl
theorem ev_X10_firstOpen_13 {ct : Nat → Bool} {K : Kt} {R : Option AV → Hp → Prop} {n : Nat} {ls : List (Option AV)} {st : List AV} {σ : Hp} {k : Nat × Nat} : xe_X10_firstOpen ct K R (n + 1) 13 ls st σ k = (oL st fun x st => 3 + 1 < 5 ∧ xk_X10_firstOpen ct K R n 14 (stL2 ls 3 (vl x)) st σ k) := exS_step.trans rfl
theorem ev_X10_firstOpen_14 {ct : Nat → Bool} {K : Kt} {R : Option AV → Hp → Prop} {n : Nat} {ls : List (Option AV)} {st : List AV} {σ : Hp} {k : Nat × Nat} : xe_X10_firstOpen ct K R (n + 1) 14 ls st σ k = (lL ls 3 fun x => xk_X10_firstOpen ct K R n 15 ls (vl x :: st) σ k) := exS_step.trans rfl
theorem ev_X10_firstOpen_15 {ct : Nat → Bool} {K : Kt} {R : Option AV → Hp → Prop} {n : Nat} {ls : List (Option AV)} {st : List AV} {σ : Hp} {k : Nat × Nat} : xe_X10_firstOpen ct K R (n + 1) 15 ls st σ k = (xk_X10_firstOpen ct K R n 16 ls (vl (BitVec.ofNat 64 0) :: st) σ k) := exS_step.trans rfl
theorem ev_X10_firstOpen_16 {ct : Nat → Bool} {K : Kt} {R : Option AV → Hp → Prop} {n : Nat} {ls : List (Option AV)} {st : List AV} {σ : Hp} {k : Nat × Nat} : xe_X10_firstOpen ct K R (n + 1) 16 ls st σ k = (oL st fun y st => oL st fun x st => xk_X10_firstOpen ct K R n 17 ls (vi (cmL x y) :: st) σ k) := exS_step.trans rfl
theorem ev_X10_firstOpen_17 {ct : Nat → Bool} {K : Kt} {R : Option AV → Hp → Prop} {n : Nat} {ls : List (Option AV)} {st : List AV} {σ : Hp} {k : Nat × Nat} : xe_X10_firstOpen ct K R (n + 1) 17 ls st σ k = (oI st fun x st => (wI x = wI 0 → xk_X10_firstOpen ct K R n 35 ls st σ k) ∧ (¬ (wI x = wI 0) → xk_X10_firstOpen ct K R n 20 ls st σ k)) := exS_step.trans rfl
theorem ev_X10_firstOpen_20 {ct : Nat → Bool} {K : Kt} {R : Option AV → Hp → Prop} {n : Nat} {ls : List (Option AV)} {st : List AV} {σ : Hp} {k : Nat × Nat} : xe_X10_firstOpen ct K R (n + 1) 20 ls st σ k = (xk_X10_firstOpen ct K R n 22 ls (vi (64) :: st) σ k) := exS_step.trans rfl
theorem ev_X10_firstOpen_22 {ct : Nat → Bool} {K : Kt} {R : Option AV → Hp → Prop} {n : Nat} {ls : List (Option AV)} {st : List AV} {σ : Hp} {k : Nat × Nat} : xe_X10_firstOpen ct K R (n + 1) 22 ls st σ k = (lI ls 2 fun x => xk_X10_firstOpen ct K R n 23 ls (vi x :: st) σ k) := exS_step.trans rfl
theorem ev_X10_firstOpen_23 {ct : Nat → Bool} {K : Kt} {R : Option AV → Hp → Prop} {n : Nat} {ls : List (Option AV)} {st : List AV} {σ : Hp} {k : Nat × Nat} : xe_X10_firstOpen ct K R (n + 1) 23 ls st σ k = (oI st fun y st => oI st fun x st => xk_X10_firstOpen ct K R n 24 ls (vi (x * y) :: st) σ k) := exS_step.trans rfl
theorem ev_X10_firstOpen_24 {ct : Nat → Bool} {K : Kt} {R : Option AV → Hp → Prop} {n : Nat} {ls : List (Option AV)} {st : List AV} {σ : Hp} {k : Nat × Nat} : xe_X10_firstOpen ct K R (n + 1) 24 ls st σ k = (lL ls 3 fun x => xk_X10_firstOpen ct K R n 25 ls (vl x :: st) σ k) := exS_step.trans rfl
theorem ev_X10_firstOpen_25 {ct : Nat → Bool} {K : Kt} {R : Option AV → Hp → Prop} {n : Nat} {ls : List (Option AV)} {st : List AV} {σ : Hp} {k : Nat × Nat} : xe_X10_firstOpen ct K R (n + 1) 25 ls st σ k = (lL ls 3 fun x => xk_X10_firstOpen ct K R n 26 ls (vl x :: st) σ k) := exS_step.trans rfl
theorem ev_X10_firstOpen_26 {ct : Nat → Bool} {K : Kt} {R : Option AV → Hp → Prop} {n : Nat} {ls : List (Option AV)} {st : List AV} {σ : Hp} {k : Nat × Nat} : xe_X10_firstOpen ct K R (n + 1) 26 ls st σ k = (oL st fun x st => xk_X10_firstOpen ct K R n 27 ls (vl (-x) :: st) σ k) := exS_step.trans rfl
theorem ev_X10_firstOpen_27 {ct : Nat → Bool} {K : Kt} {R : Option AV → Hp → Prop} {n : Nat} {ls : List (Option AV)} {st : List AV} {σ : Hp} {k : Nat × Nat} : xe_X10_firstOpen ct K R (n + 1) 27 ls st σ k = (oL st fun y st => oL st fun x st => xk_X10_firstOpen ct K R n 28 ls (vl (x &&& y) :: st) σ k) := exS_step.trans rfl
theorem ev_X10_firstOpen_28 {ct : Nat → Bool} {K : Kt} {R : Option AV → Hp → Prop} {n : Nat} {ls : List (Option AV)} {st : List AV} {σ : Hp} {k : Nat × Nat} : xe_X10_firstOpen ct K R (n + 1) 28 ls st σ k = (xk_X10_firstOpen ct K R n 29 ls (vl (BitVec.ofNat 64 1) :: st) σ k) := exS_step.trans rfl
theorem ev_X10_firstOpen_29 {ct : Nat → Bool} {K : Kt} {R : Option AV → Hp → Prop} {n : Nat} {ls : List (Option AV)} {st : List AV} {σ : Hp} {k : Nat × Nat} : xe_X10_firstOpen ct K R (n + 1) 29 ls st σ k = (oL st fun y st => oL st fun x st => xk_X10_firstOpen ct K R n 30 ls (vl (x - y) :: st) σ k) := exS_step.trans rfl
theorem ev_X10_firstOpen_30 {ct : Nat → Bool} {K : Kt} {R : Option AV → Hp → Prop} {n : Nat} {ls : List (Option AV)} {st : List AV} {σ : Hp} {k : Nat × Nat} : xe_X10_firstOpen ct K R (n + 1) 30 ls st σ k = (popN 1 st [] fun av rest => (catS rest ≤ 8 ∧ 1 < 2 ∧ k.1 + 0 ≤ 0 ∧ k.2 + 0 ≤ 0) ∧ (sp_J13_bitCount_95d88) av σ fun v σ' => xk_X10_firstOpen ct K R n 33 ls (v.toList ++ rest) σ' (k.1 + 0, k.2 + 0)) := exS_step.trans rfl
theorem ev_X10_firstOpen_33 {ct : Nat → Bool} {K : Kt} {R : Option AV → Hp → Prop} {n : Nat} {ls : List (Option AV)} {st : List AV} {σ : Hp} {k : Nat × Nat} : xe_X10_firstOpen ct K R (n + 1) 33 ls st σ k = (oI st fun y st => oI st fun x st => xk_X10_firstOpen ct K R n 34 ls (vi (x + y) :: st) σ k) := exS_step.trans rfl
theorem ev_X10_firstOpen_34 {ct : Nat → Bool} {K : Kt} {R : Option AV → Hp → Prop} {n : Nat} {ls : List (Option AV)} {st : List AV} {σ : Hp} {k : Nat × Nat} : xe_X10_firstOpen ct K R (n + 1) 34 ls st σ k = (oI st fun x st => st = [] ∧ True ∧ R (some (vi x)) σ) := exS_step.trans rfl
theorem ev_X10_firstOpen_35 {ct : Nat → Bool} {K : Kt} {R : Option AV → Hp → Prop} {n : Nat} {ls : List (Option AV)} {st : List AV} {σ : Hp} {k : Nat × Nat} : xe_X10_firstOpen ct K R (n + 1) 35 ls st σ k = (lI ls 2 fun x => 2 < 5 ∧ xk_X10_firstOpen ct K R n 38 (stL ls 2 (vi (x + (1)))) st σ k) := exS_step.trans rfl
theorem ev_X10_firstOpen_38 {ct : Nat → Bool} {K : Kt} {R : Option AV → Hp → Prop} {n : Nat} {ls : List (Option AV)} {st : List AV} {σ : Hp} {k : Nat × Nat} : xe_X10_firstOpen ct K R (n + 1) 38 ls st σ k = (xk_X10_firstOpen ct K R n 2 ls st σ k) := exS_step.trans rfl
theorem ev_X10_firstOpen_41 {ct : Nat → Bool} {K : Kt} {R : Option AV → Hp → Prop} {n : Nat} {ls : List (Option AV)} {st : List AV} {σ : Hp} {k : Nat × Nat} : xe_X10_firstOpen ct K R (n + 1) 41 ls st σ k = (xk_X10_firstOpen ct K R n 42 ls (vi (-1) :: st) σ k) := exS_step.trans rfl
theorem ev_X10_firstOpen_42 {ct : Nat → Bool} {K : Kt} {R : Option AV → Hp → Prop} {n : Nat} {ls : List (Option AV)} {st : List AV} {σ : Hp} {k : Nat × Nat} : xe_X10_firstOpen ct K R (n + 1) 42 ls st σ k = (oI st fun x st => st = [] ∧ True ∧ R (some (vi x)) σ) := exS_step.trans rfl
def M_X10_firstOpen : Md := (yX10_firstOpen, cX10_firstOpen, 5, (some FieldType.int), 2, 0, 0, 1, false, tb_X10_firstOpen, mt_X10_firstOpen)
theorem mm_X10_firstOpen : MMOK M_X10_firstOpen := ⟨by decide +kernel, tk_X10_firstOpen, mk_X10_firstOpen, rfl, fun h => by cases h⟩
theorem go_X10_firstOpen {Q : Option AV → Hp → Prop} {ct : Nat → Bool} {pc : Nat} {ls : List (Option AV)} {st : List AV} {σ : Hp} {k : Nat × Nat} (n : Nat) (h : xe_X10_firstOpen ct (Go M_X10_firstOpen Q) Q n pc ls st σ k) : Go M_X10_firstOpen Q pc ls st σ k := Go.exS mm_X10_firstOpen h

set_option maxRecDepth 20000 in
theorem c_X10_firstOpen : Ct yX10_firstOpen cX10_firstOpen 5 ((some FieldType.int)) 2 0 0 sp_X10_firstOpen := by
  refine Ct.go (M := M_X10_firstOpen) mm_X10_firstOpen fun av σ Q h0 => ?_
  obtain ⟨this, d, rfl, hk, h⟩ := el_X10_firstOpen h0
  clear h0
  refine ⟨Nat.le_of_ble_eq_true rfl, ?_⟩
  show Go M_X10_firstOpen Q 0 [some (vr this), some (vi d), none, none, none] [] σ (0, 0)
  obtain ⟨rfl, hC, hd, P, hB, h1, h2⟩ := h
  have loop : ∀ (m : Nat) (w : Int) (a3 a4 : Option AV), 0 ≤ w → w + m = 5 → (∀ u, 0 ≤ u → u < 64 * w → ¬ P u) → Go M_X10_firstOpen Q 2 [some (vr 4), some (vi d), some (vi w), a3, a4] [] σ (0, 0) := by
    intro m
    induction m with
    | zero =>
      intro w a3 a4 w0 hw hno
      have h2 := h2 (fun u a b => hno u a (by omega))
      have e5 : w = 5 := by omega
      subst e5
      clear h1 hB hno
      refine go_X10_firstOpen (ct := fun p => p == 7) 20 ?_
      simp only [oI, oL, oR, o1, lI, lL, lR, popN, catS, gv, stL, stL2, swt, cnd, spObj, List.getElem?_cons_zero, List.getElem?_cons_succ, List.getD_cons_zero, List.getD_cons_succ, List.set_cons_zero, List.set_cons_succ, List.nil_append, List.cons_append, Option.toList, Bool.or_false, Bool.false_or, Bool.or_true, Bool.true_or, Nat.reduceBEq, Nat.reduceAdd, Nat.reduceLT, Nat.reduceLeDiff, Int.reduceAdd, Int.reduceToNat, true_and, and_true, Fin.isValue, Fin.val_zero, Fin.val_one, Fin.val_two, Fin.reduceFinMk, eq_self, Int.reduceNeg, imp_self, Nat.reduceMul, Nat.le_refl, not_true_eq_false, not_false_eq_true, List.getElem?_nil, reduceCtorEq, true_or, or_true, Classical.not_not, implies_true, or_self, wI_0, wI_1, wI_m1, b2i_w, b2i_eq0, b2i_eq1, b2i_bool, nor_self, nx_pI, kd_pI, ln_pI, fI_pI, fL_pI, fR_pI, aI_pI, aL_pI, aR_pI, nx_pL, kd_pL, ln_pL, fI_pL, fL_pL, fR_pL, aI_pL, aL_pL, aR_pL, nx_pR, kd_pR, ln_pR, fI_pR, fL_pR, fR_pR, aI_pR, aL_pR, aR_pR, nx_qI, kd_qI, ln_qI, fI_qI, fL_qI, fR_qI, aI_qI, aL_qI, aR_qI, nx_qL, kd_qL, ln_qL, fI_qL, fL_qL, fR_qL, aI_qL, aL_qL, aR_qL, nx_qR, kd_qR, ln_qR, fI_qR, fL_qR, fR_qR, aI_qR, aL_qR, aR_qR, nx_mk, kd_mk, ln_mk, fI_mk, fL_mk, fR_mk, aI_mk, aL_mk, aR_mk, false_and, and_false, if_false, if_true, and_self, Int.reduceEq, Nat.reduceEqDiff, ite_self, MLay_pI, MLay_pL, MLay_qI, MLay_qL, ev_X10_firstOpen_2, ev_X10_firstOpen_3, ev_X10_firstOpen_4, ev_X10_firstOpen_41, ev_X10_firstOpen_42, xt_X10_firstOpen, xf_X10_firstOpen, us_X10_openWord, us_J13_bitCount_95d88]
      try simp (disch := omega) only [wI_id, dv_nn, rm_nn]
      repeat' (first | intro z | apply And.intro)
      all_goals try omega
      all_goals try contradiction
      all_goals exact h2
    | succ m ih =>
      intro w a3 a4 w0 hw hno
      have hw5 : 0 ≤ w ∧ w < 5 := by omega
      have z := hB.zero hw5
      have w13 : ∀ v : BitVec 64, v = aL σ (8 + d) w → Go M_X10_firstOpen Q 13 [some (vr 4), some (vi d), some (vi w), a3, a4] [vl v] σ (0, 0) := fun v ev => by
        by_cases c : v = 0#64
        · have z0 := z.mp (by rw [← ev]; exact c)
          have w2 := ih (w + 1) (some (vl v)) none (by omega) (by omega) (fun u a b => by
            by_cases e : u < 64 * w
            · exact hno u a e
            · have := z0 (u - 64 * w).toNat (by omega)
              rw [show 64 * w + (((u - 64 * w).toNat : Nat) : Int) = u by omega] at this
              exact this)
          have c2 : wI (cmL v (BitVec.ofNat 64 0)) = 0 := (cmL_0 _ _).mpr c
          clear ih h1 h2 hB hno z z0
          refine go_X10_firstOpen (ct := fun p => p == 20 || p == 2) 20 ?_
          simp only [oI, oL, oR, o1, lI, lL, lR, popN, catS, gv, stL, stL2, swt, cnd, spObj, List.getElem?_cons_zero, List.getElem?_cons_succ, List.getD_cons_zero, List.getD_cons_succ, List.set_cons_zero, List.set_cons_succ, List.nil_append, List.cons_append, Option.toList, Bool.or_false, Bool.false_or, Bool.or_true, Bool.true_or, Nat.reduceBEq, Nat.reduceAdd, Nat.reduceLT, Nat.reduceLeDiff, Int.reduceAdd, Int.reduceToNat, true_and, and_true, Fin.isValue, Fin.val_zero, Fin.val_one, Fin.val_two, Fin.reduceFinMk, eq_self, Int.reduceNeg, imp_self, Nat.reduceMul, Nat.le_refl, not_true_eq_false, not_false_eq_true, List.getElem?_nil, reduceCtorEq, true_or, or_true, Classical.not_not, implies_true, or_self, wI_0, wI_1, wI_m1, b2i_w, b2i_eq0, b2i_eq1, b2i_bool, nor_self, nx_pI, kd_pI, ln_pI, fI_pI, fL_pI, fR_pI, aI_pI, aL_pI, aR_pI, nx_pL, kd_pL, ln_pL, fI_pL, fL_pL, fR_pL, aI_pL, aL_pL, aR_pL, nx_pR, kd_pR, ln_pR, fI_pR, fL_pR, fR_pR, aI_pR, aL_pR, aR_pR, nx_qI, kd_qI, ln_qI, fI_qI, fL_qI, fR_qI, aI_qI, aL_qI, aR_qI, nx_qL, kd_qL, ln_qL, fI_qL, fL_qL, fR_qL, aI_qL, aL_qL, aR_qL, nx_qR, kd_qR, ln_qR, fI_qR, fL_qR, fR_qR, aI_qR, aL_qR, aR_qR, nx_mk, kd_mk, ln_mk, fI_mk, fL_mk, fR_mk, aI_mk, aL_mk, aR_mk, false_and, and_false, if_false, if_true, and_self, Int.reduceEq, Nat.reduceEqDiff, ite_self, MLay_pI, MLay_pL, MLay_qI, MLay_qL, ev_X10_firstOpen_13, ev_X10_firstOpen_14, ev_X10_firstOpen_15, ev_X10_firstOpen_16, ev_X10_firstOpen_17, ev_X10_firstOpen_20, ev_X10_firstOpen_22, ev_X10_firstOpen_23, ev_X10_firstOpen_24, ev_X10_firstOpen_25, ev_X10_firstOpen_26, ev_X10_firstOpen_27, ev_X10_firstOpen_28, ev_X10_firstOpen_29, ev_X10_firstOpen_30, ev_X10_firstOpen_33, ev_X10_firstOpen_34, ev_X10_firstOpen_35, ev_X10_firstOpen_38, xt_X10_firstOpen, xf_X10_firstOpen, us_X10_openWord, us_J13_bitCount_95d88, c2]
          repeat' (first | intro z | apply And.intro)
          all_goals try omega
          all_goals try contradiction
          all_goals exact w2
        · obtain ⟨k, hk64, hb1, hb2⟩ := fst_bit c
          have hl := low_and hk64 hb1 hb2
          have hl2 := low_bits ⟨k, hk64⟩
          dsimp only at hl2
          rw [ev] at hb1 hb2
          have p1 := (hB w w0 hw5.2 k hk64).mp hb1
          have h1 := h1 (64 * w + k) (by omega) p1 (fun u a b q => by
            by_cases e : u < 64 * w
            · exact hno u a e q
            · have hq := (hB w w0 hw5.2 (u - 64 * w).toNat (by omega)).mpr (by rw [show 64 * w + (((u - 64 * w).toNat : Nat) : Int) = u by omega]; exact q)
              rw [hb2 _ (by omega)] at hq
              cases hq)
          have c2 : ¬ wI (cmL v (BitVec.ofNat 64 0)) = 0 := fun q => c ((cmL_0 _ _).mp q)
          have w33 : Go M_X10_firstOpen Q 33 [some (vr 4), some (vi d), some (vi w), some (vl v), none] [vi k, vi (64 * w)] σ (0, 0) := by
            clear ih h2 hB hno z hl hl2 c2 hb1 hb2 p1
            refine go_X10_firstOpen (ct := fun p => p == 99) 20 ?_
            simp only [oI, oL, oR, o1, lI, lL, lR, popN, catS, gv, stL, stL2, swt, cnd, spObj, List.getElem?_cons_zero, List.getElem?_cons_succ, List.getD_cons_zero, List.getD_cons_succ, List.set_cons_zero, List.set_cons_succ, List.nil_append, List.cons_append, Option.toList, Bool.or_false, Bool.false_or, Bool.or_true, Bool.true_or, Nat.reduceBEq, Nat.reduceAdd, Nat.reduceLT, Nat.reduceLeDiff, Int.reduceAdd, Int.reduceToNat, true_and, and_true, Fin.isValue, Fin.val_zero, Fin.val_one, Fin.val_two, Fin.reduceFinMk, eq_self, Int.reduceNeg, imp_self, Nat.reduceMul, Nat.le_refl, not_true_eq_false, not_false_eq_true, List.getElem?_nil, reduceCtorEq, true_or, or_true, Classical.not_not, implies_true, or_self, wI_0, wI_1, wI_m1, b2i_w, b2i_eq0, b2i_eq1, b2i_bool, nor_self, nx_pI, kd_pI, ln_pI, fI_pI, fL_pI, fR_pI, aI_pI, aL_pI, aR_pI, nx_pL, kd_pL, ln_pL, fI_pL, fL_pL, fR_pL, aI_pL, aL_pL, aR_pL, nx_pR, kd_pR, ln_pR, fI_pR, fL_pR, fR_pR, aI_pR, aL_pR, aR_pR, nx_qI, kd_qI, ln_qI, fI_qI, fL_qI, fR_qI, aI_qI, aL_qI, aR_qI, nx_qL, kd_qL, ln_qL, fI_qL, fL_qL, fR_qL, aI_qL, aL_qL, aR_qL, nx_qR, kd_qR, ln_qR, fI_qR, fL_qR, fR_qR, aI_qR, aL_qR, aR_qR, nx_mk, kd_mk, ln_mk, fI_mk, fL_mk, fR_mk, aI_mk, aL_mk, aR_mk, false_and, and_false, if_false, if_true, and_self, Int.reduceEq, Nat.reduceEqDiff, ite_self, MLay_pI, MLay_pL, MLay_qI, MLay_qL, ev_X10_firstOpen_33, ev_X10_firstOpen_34, xt_X10_firstOpen, xf_X10_firstOpen, us_X10_openWord, us_J13_bitCount_95d88]
            repeat' (first | intro z | apply And.intro)
            all_goals try omega
            all_goals try contradiction
            all_goals exact h1
          have hl3 : (v &&& -v) - BitVec.ofNat 64 1 = BitVec.ofNat 64 (2 ^ k - 1) := by rw [hl]; exact hl2
          clear ih h1 h2 hB hno z hb1 hb2 p1 hl hl2
          refine go_X10_firstOpen (ct := fun p => p == 33 || p == 35) 20 ?_
          simp only [oI, oL, oR, o1, lI, lL, lR, popN, catS, gv, stL, stL2, swt, cnd, spObj, List.getElem?_cons_zero, List.getElem?_cons_succ, List.getD_cons_zero, List.getD_cons_succ, List.set_cons_zero, List.set_cons_succ, List.nil_append, List.cons_append, Option.toList, Bool.or_false, Bool.false_or, Bool.or_true, Bool.true_or, Nat.reduceBEq, Nat.reduceAdd, Nat.reduceLT, Nat.reduceLeDiff, Int.reduceAdd, Int.reduceToNat, true_and, and_true, Fin.isValue, Fin.val_zero, Fin.val_one, Fin.val_two, Fin.reduceFinMk, eq_self, Int.reduceNeg, imp_self, Nat.reduceMul, Nat.le_refl, not_true_eq_false, not_false_eq_true, List.getElem?_nil, reduceCtorEq, true_or, or_true, Classical.not_not, implies_true, or_self, wI_0, wI_1, wI_m1, b2i_w, b2i_eq0, b2i_eq1, b2i_bool, nor_self, nx_pI, kd_pI, ln_pI, fI_pI, fL_pI, fR_pI, aI_pI, aL_pI, aR_pI, nx_pL, kd_pL, ln_pL, fI_pL, fL_pL, fR_pL, aI_pL, aL_pL, aR_pL, nx_pR, kd_pR, ln_pR, fI_pR, fL_pR, fR_pR, aI_pR, aL_pR, aR_pR, nx_qI, kd_qI, ln_qI, fI_qI, fL_qI, fR_qI, aI_qI, aL_qI, aR_qI, nx_qL, kd_qL, ln_qL, fI_qL, fL_qL, fR_qL, aI_qL, aL_qL, aR_qL, nx_qR, kd_qR, ln_qR, fI_qR, fL_qR, fR_qR, aI_qR, aL_qR, aR_qR, nx_mk, kd_mk, ln_mk, fI_mk, fL_mk, fR_mk, aI_mk, aL_mk, aR_mk, false_and, and_false, if_false, if_true, and_self, Int.reduceEq, Nat.reduceEqDiff, ite_self, MLay_pI, MLay_pL, MLay_qI, MLay_qL, ev_X10_firstOpen_13, ev_X10_firstOpen_14, ev_X10_firstOpen_15, ev_X10_firstOpen_16, ev_X10_firstOpen_17, ev_X10_firstOpen_20, ev_X10_firstOpen_22, ev_X10_firstOpen_23, ev_X10_firstOpen_24, ev_X10_firstOpen_25, ev_X10_firstOpen_26, ev_X10_firstOpen_27, ev_X10_firstOpen_28, ev_X10_firstOpen_29, ev_X10_firstOpen_30, xt_X10_firstOpen, xf_X10_firstOpen, us_X10_openWord, us_J13_bitCount_95d88, c2]
          repeat' (first | intro z | apply And.intro)
          all_goals try omega
          all_goals try contradiction
          all_goals exact ⟨k, hk64, hl3, w33⟩
      have w13 := w13 _ rfl
      clear ih h1 h2 hB hno z
      refine go_X10_firstOpen (ct := fun p => p == 13 || p == 41) 20 ?_
      simp only [oI, oL, oR, o1, lI, lL, lR, popN, catS, gv, stL, stL2, swt, cnd, spObj, List.getElem?_cons_zero, List.getElem?_cons_succ, List.getD_cons_zero, List.getD_cons_succ, List.set_cons_zero, List.set_cons_succ, List.nil_append, List.cons_append, Option.toList, Bool.or_false, Bool.false_or, Bool.or_true, Bool.true_or, Nat.reduceBEq, Nat.reduceAdd, Nat.reduceLT, Nat.reduceLeDiff, Int.reduceAdd, Int.reduceToNat, true_and, and_true, Fin.isValue, Fin.val_zero, Fin.val_one, Fin.val_two, Fin.reduceFinMk, eq_self, Int.reduceNeg, imp_self, Nat.reduceMul, Nat.le_refl, not_true_eq_false, not_false_eq_true, List.getElem?_nil, reduceCtorEq, true_or, or_true, Classical.not_not, implies_true, or_self, wI_0, wI_1, wI_m1, b2i_w, b2i_eq0, b2i_eq1, b2i_bool, nor_self, nx_pI, kd_pI, ln_pI, fI_pI, fL_pI, fR_pI, aI_pI, aL_pI, aR_pI, nx_pL, kd_pL, ln_pL, fI_pL, fL_pL, fR_pL, aI_pL, aL_pL, aR_pL, nx_pR, kd_pR, ln_pR, fI_pR, fL_pR, fR_pR, aI_pR, aL_pR, aR_pR, nx_qI, kd_qI, ln_qI, fI_qI, fL_qI, fR_qI, aI_qI, aL_qI, aR_qI, nx_qL, kd_qL, ln_qL, fI_qL, fL_qL, fR_qL, aI_qL, aL_qL, aR_qL, nx_qR, kd_qR, ln_qR, fI_qR, fL_qR, fR_qR, aI_qR, aL_qR, aR_qR, nx_mk, kd_mk, ln_mk, fI_mk, fL_mk, fR_mk, aI_mk, aL_mk, aR_mk, false_and, and_false, if_false, if_true, and_self, Int.reduceEq, Nat.reduceEqDiff, ite_self, MLay_pI, MLay_pL, MLay_qI, MLay_qL, ev_X10_firstOpen_2, ev_X10_firstOpen_3, ev_X10_firstOpen_4, ev_X10_firstOpen_7, ev_X10_firstOpen_8, ev_X10_firstOpen_9, ev_X10_firstOpen_10, xt_X10_firstOpen, xf_X10_firstOpen, us_X10_openWord, us_J13_bitCount_95d88, hk, hC, hd, hw5]
      try simp (disch := omega) only [wI_id, dv_nn, rm_nn]
      repeat' (first | intro z | apply And.intro)
      all_goals try omega
      all_goals try contradiction
      all_goals exact w13
  have w := loop 5 0 none none (by omega) (by omega) (fun u a b => by omega)
  clear loop h1 h2
  refine go_X10_firstOpen (ct := fun p => p == 2) 20 ?_
  simp only [oI, oL, oR, o1, lI, lL, lR, popN, catS, gv, stL, stL2, swt, cnd, spObj, List.getElem?_cons_zero, List.getElem?_cons_succ, List.getD_cons_zero, List.getD_cons_succ, List.set_cons_zero, List.set_cons_succ, List.nil_append, List.cons_append, Option.toList, Bool.or_false, Bool.false_or, Bool.or_true, Bool.true_or, Nat.reduceBEq, Nat.reduceAdd, Nat.reduceLT, Nat.reduceLeDiff, Int.reduceAdd, Int.reduceToNat, true_and, and_true, Fin.isValue, Fin.val_zero, Fin.val_one, Fin.val_two, Fin.reduceFinMk, eq_self, Int.reduceNeg, imp_self, Nat.reduceMul, Nat.le_refl, not_true_eq_false, not_false_eq_true, List.getElem?_nil, reduceCtorEq, true_or, or_true, Classical.not_not, implies_true, or_self, wI_0, wI_1, wI_m1, b2i_w, b2i_eq0, b2i_eq1, b2i_bool, nor_self, nx_pI, kd_pI, ln_pI, fI_pI, fL_pI, fR_pI, aI_pI, aL_pI, aR_pI, nx_pL, kd_pL, ln_pL, fI_pL, fL_pL, fR_pL, aI_pL, aL_pL, aR_pL, nx_pR, kd_pR, ln_pR, fI_pR, fL_pR, fR_pR, aI_pR, aL_pR, aR_pR, nx_qI, kd_qI, ln_qI, fI_qI, fL_qI, fR_qI, aI_qI, aL_qI, aR_qI, nx_qL, kd_qL, ln_qL, fI_qL, fL_qL, fR_qL, aI_qL, aL_qL, aR_qL, nx_qR, kd_qR, ln_qR, fI_qR, fL_qR, fR_qR, aI_qR, aL_qR, aR_qR, nx_mk, kd_mk, ln_mk, fI_mk, fL_mk, fR_mk, aI_mk, aL_mk, aR_mk, false_and, and_false, if_false, if_true, and_self, Int.reduceEq, Nat.reduceEqDiff, ite_self, MLay_pI, MLay_pL, MLay_qI, MLay_qL, ev_X10_firstOpen_0, ev_X10_firstOpen_1, xt_X10_firstOpen, xf_X10_firstOpen, us_X10_openWord, us_J13_bitCount_95d88]
  exact w

def sp_X10_isExplained : Sp := fun av σ Q => oR av fun this av => oI av fun d av => av = [] ∧ kd σ this = 11 ∧ (this = 4 ∧ CLay σ ∧ (0 ≤ d ∧ d < 4) ∧ ∃ P, B64 (aL σ (8 + d)) P ∧ ((∀ u, 0 ≤ u → u < 320 → ¬ P u) → Q (some (vi 1)) σ) ∧ (¬ (∀ u, 0 ≤ u → u < 320 → ¬ P u) → Q (some (vi 0)) σ))
theorem us_X10_isExplained (this : Int) (d : Int) (σ : Hp) (Q : Option AV → Hp → Prop) : sp_X10_isExplained [vr this, vi d] σ Q = (kd σ this = 11 ∧ (this = 4 ∧ CLay σ ∧ (0 ≤ d ∧ d < 4) ∧ ∃ P, B64 (aL σ (8 + d)) P ∧ ((∀ u, 0 ≤ u → u < 320 → ¬ P u) → Q (some (vi 1)) σ) ∧ (¬ (∀ u, 0 ≤ u → u < 320 → ¬ P u) → Q (some (vi 0)) σ))) := propext ⟨fun h => h.2, fun h => ⟨rfl, h⟩⟩
theorem el_X10_isExplained {av : List AV} {σ : Hp} {Q : Option AV → Hp → Prop} (h : sp_X10_isExplained av σ Q) : ∃ (this : Int) (d : Int), av = [vr this, vi d] ∧ (kd σ this = 11 ∧ (this = 4 ∧ CLay σ ∧ (0 ≤ d ∧ d < 4) ∧ ∃ P, B64 (aL σ (8 + d)) P ∧ ((∀ u, 0 ≤ u → u < 320 → ¬ P u) → Q (some (vi 1)) σ) ∧ (¬ (∀ u, 0 ≤ u → u < 320 → ¬ P u) → Q (some (vi 0)) σ))) := by
  obtain ⟨this, a0, rfl, h0⟩ := oR_s h
  obtain ⟨d, a1, rfl, h1⟩ := oI_s h0
  obtain ⟨rfl, hz⟩ := h1
  exact ⟨this, d, rfl, hz⟩
theorem rc_X10_isExplained : ∀ (av : List AV) (σ : Hp) (Q : Option AV → Hp → Prop), sp_X10_isExplained av σ Q → ∃ r tl, av = vr r :: tl ∧ kd σ r = 10 + 1 := fun av σ Q h => by
  obtain ⟨this, d, rfl, hz, -⟩ := el_X10_isExplained h
  exact ⟨this, _, rfl, hz⟩

def tb_X10_isExplained : Tab := [(0, .aload_n 0, 1, (0, 0, 0, 0)), (1, .iload_n 1, 1, (0, 0, 0, 0)), (2, .invokevirtual 78, 3, (0, 0, 0, 0)), (5, .iconst (-1), 1, (0, 0, 0, 0)), (6, .if_icmp .ne 7, 3, (0, 0, 0, 0)), (9, .iconst 1, 1, (0, 0, 0, 0)), (10, .goto 4, 3, (0, 0, 0, 0)), (13, .iconst 0, 1, (0, 0, 0, 0)), (14, .ireturn, 1, (0, 0, 0, 0))]
set_option maxRecDepth 100000 in
theorem tk_X10_isExplained : TOK RX10 false cX10_isExplained tb_X10_isExplained := chkT_ok ft_X10 (by decide +kernel)
theorem rw_X10_624 : Row RX10 (.invokevirtual 78) 3 2 0 0 2 sp_X10_firstOpen := row_V (n := 1) (ci := 10) c_X10_firstOpen ⟨TBL_in 748 (by decide +kernel) rfl, TBL_in 751 (by decide +kernel) rfl, TBL_in 112 (by decide +kernel) rfl, by decide +kernel, by decide⟩ (by decide) rfl (TBL_in 750 (by decide +kernel) rfl) (TBL_in 15 (by decide +kernel) rfl) rc_X10_firstOpen
def mt_X10_isExplained : List (Nat × Mt) := [(624, 2, 0, 0, 2, sp_X10_firstOpen)]
theorem em_X10_isExplained : mt_X10_isExplained.lookup 624 = some (2, 0, 0, 2, sp_X10_firstOpen) := rfl
theorem mk_X10_isExplained : MOK RX10 mt_X10_isExplained := by
  intro q hq
  simp only [mt_X10_isExplained, List.mem_cons, List.not_mem_nil, or_false] at hq
  rcases hq with rfl
  · exact rw_X10_624
noncomputable def xe_X10_isExplained (ct : Nat → Bool) (K : Kt) (R : Option AV → Hp → Prop) (n : Nat) : Kt := exS 2 3 0 0 2 tb_X10_isExplained mt_X10_isExplained ct K R n
noncomputable def xk_X10_isExplained (ct : Nat → Bool) (K : Kt) (R : Option AV → Hp → Prop) (n : Nat) : Kt := exkS 2 3 0 0 2 tb_X10_isExplained mt_X10_isExplained ct K R n
theorem xt_X10_isExplained {ct : Nat → Bool} {K : Kt} {R : Option AV → Hp → Prop} {n pc : Nat} {ls : List (Option AV)} {st : List AV} {σ : Hp} {k : Nat × Nat} (h : ct pc = true) : xk_X10_isExplained ct K R n pc ls st σ k = K pc ls st σ k := by unfold xk_X10_isExplained exkS; rw [h]
theorem xf_X10_isExplained {ct : Nat → Bool} {K : Kt} {R : Option AV → Hp → Prop} {n pc : Nat} {ls : List (Option AV)} {st : List AV} {σ : Hp} {k : Nat × Nat} (h : ct pc = false) : xk_X10_isExplained ct K R n pc ls st σ k = xe_X10_isExplained ct K R n pc ls st σ k := by unfold xk_X10_isExplained exkS xe_X10_isExplained; rw [h]
theorem ev_X10_isExplained_0 {ct : Nat → Bool} {K : Kt} {R : Option AV → Hp → Prop} {n : Nat} {ls : List (Option AV)} {st : List AV} {σ : Hp} {k : Nat × Nat} : xe_X10_isExplained ct K R (n + 1) 0 ls st σ k = (lR ls 0 fun x => xk_X10_isExplained ct K R n 1 ls (vr x :: st) σ k) := exS_step.trans rfl
theorem ev_X10_isExplained_1 {ct : Nat → Bool} {K : Kt} {R : Option AV → Hp → Prop} {n : Nat} {ls : List (Option AV)} {st : List AV} {σ : Hp} {k : Nat × Nat} : xe_X10_isExplained ct K R (n + 1) 1 ls st σ k = (lI ls 1 fun x => xk_X10_isExplained ct K R n 2 ls (vi x :: st) σ k) := exS_step.trans rfl
theorem ev_X10_isExplained_2 {ct : Nat → Bool} {K : Kt} {R : Option AV → Hp → Prop} {n : Nat} {ls : List (Option AV)} {st : List AV} {σ : Hp} {k : Nat × Nat} : xe_X10_isExplained ct K R (n + 1) 2 ls st σ k = (popN 2 st [] fun av rest => (catS rest ≤ 8 ∧ 2 < 3 ∧ k.1 + 0 ≤ 0 ∧ k.2 + 0 ≤ 0) ∧ (sp_X10_firstOpen) av σ fun v σ' => xk_X10_isExplained ct K R n 5 ls (v.toList ++ rest) σ' (k.1 + 0, k.2 + 0)) := exS_step.trans rfl
theorem ev_X10_isExplained_5 {ct : Nat → Bool} {K : Kt} {R : Option AV → Hp → Prop} {n : Nat} {ls : List (Option AV)} {st : List AV} {σ : Hp} {k : Nat × Nat} : xe_X10_isExplained ct K R (n + 1) 5 ls st σ k = (xk_X10_isExplained ct K R n 6 ls (vi (-1) :: st) σ k) := exS_step.trans rfl
theorem ev_X10_isExplained_6 {ct : Nat → Bool} {K : Kt} {R : Option AV → Hp → Prop} {n : Nat} {ls : List (Option AV)} {st : List AV} {σ : Hp} {k : Nat × Nat} : xe_X10_isExplained ct K R (n + 1) 6 ls st σ k = (oI st fun y st => oI st fun x st => (¬ wI x = wI y → xk_X10_isExplained ct K R n 13 ls st σ k) ∧ (¬ (¬ wI x = wI y) → xk_X10_isExplained ct K R n 9 ls st σ k)) := exS_step.trans rfl
theorem ev_X10_isExplained_9 {ct : Nat → Bool} {K : Kt} {R : Option AV → Hp → Prop} {n : Nat} {ls : List (Option AV)} {st : List AV} {σ : Hp} {k : Nat × Nat} : xe_X10_isExplained ct K R (n + 1) 9 ls st σ k = (xk_X10_isExplained ct K R n 10 ls (vi (1) :: st) σ k) := exS_step.trans rfl
theorem ev_X10_isExplained_10 {ct : Nat → Bool} {K : Kt} {R : Option AV → Hp → Prop} {n : Nat} {ls : List (Option AV)} {st : List AV} {σ : Hp} {k : Nat × Nat} : xe_X10_isExplained ct K R (n + 1) 10 ls st σ k = (xk_X10_isExplained ct K R n 14 ls st σ k) := exS_step.trans rfl
theorem ev_X10_isExplained_13 {ct : Nat → Bool} {K : Kt} {R : Option AV → Hp → Prop} {n : Nat} {ls : List (Option AV)} {st : List AV} {σ : Hp} {k : Nat × Nat} : xe_X10_isExplained ct K R (n + 1) 13 ls st σ k = (xk_X10_isExplained ct K R n 14 ls (vi (0) :: st) σ k) := exS_step.trans rfl
theorem ev_X10_isExplained_14 {ct : Nat → Bool} {K : Kt} {R : Option AV → Hp → Prop} {n : Nat} {ls : List (Option AV)} {st : List AV} {σ : Hp} {k : Nat × Nat} : xe_X10_isExplained ct K R (n + 1) 14 ls st σ k = (oI st fun x st => st = [] ∧ (x = 0 ∨ x = 1) ∧ R (some (vi x)) σ) := exS_step.trans rfl
def M_X10_isExplained : Md := (yX10_isExplained, cX10_isExplained, 2, (some FieldType.boolean), 3, 0, 0, 2, false, tb_X10_isExplained, mt_X10_isExplained)
theorem mm_X10_isExplained : MMOK M_X10_isExplained := ⟨by decide +kernel, tk_X10_isExplained, mk_X10_isExplained, rfl, fun h => by cases h⟩
theorem go_X10_isExplained {Q : Option AV → Hp → Prop} {ct : Nat → Bool} {pc : Nat} {ls : List (Option AV)} {st : List AV} {σ : Hp} {k : Nat × Nat} (n : Nat) (h : xe_X10_isExplained ct (Go M_X10_isExplained Q) Q n pc ls st σ k) : Go M_X10_isExplained Q pc ls st σ k := Go.exS mm_X10_isExplained h

set_option maxRecDepth 20000 in
theorem c_X10_isExplained : Ct yX10_isExplained cX10_isExplained 2 ((some FieldType.boolean)) 3 0 0 sp_X10_isExplained := by
  refine Ct.go (M := M_X10_isExplained) mm_X10_isExplained fun av σ Q h0 => ?_
  obtain ⟨this, d, rfl, hk, h⟩ := el_X10_isExplained h0
  clear h0
  refine ⟨Nat.le_of_ble_eq_true rfl, ?_⟩
  show Go M_X10_isExplained Q 0 [some (vr this), some (vi d)] [] σ (0, 0)
  obtain ⟨rfl, hC, hd, P, hB, h1, h0⟩ := h
  have w5a : ∀ f, (0 ≤ f ∧ f < 320) → P f → (∀ u, 0 ≤ u → u < f → ¬ P u) → Go M_X10_isExplained Q 5 [some (vr 4), some (vi d)] [vi f] σ (0, 0) := fun f hf p1 p2 => by
    have h := h0 (fun z => z f hf.1 hf.2 p1)
    clear h0 h1 hB p1 p2
    refine go_X10_isExplained (ct := fun p => p == 9) 20 ?_
    simp only [oI, oL, oR, o1, lI, lL, lR, popN, catS, gv, stL, stL2, swt, cnd, spObj, List.getElem?_cons_zero, List.getElem?_cons_succ, List.getD_cons_zero, List.getD_cons_succ, List.set_cons_zero, List.set_cons_succ, List.nil_append, List.cons_append, Option.toList, Bool.or_false, Bool.false_or, Bool.or_true, Bool.true_or, Nat.reduceBEq, Nat.reduceAdd, Nat.reduceLT, Nat.reduceLeDiff, Int.reduceAdd, Int.reduceToNat, true_and, and_true, Fin.isValue, Fin.val_zero, Fin.val_one, Fin.val_two, Fin.reduceFinMk, eq_self, Int.reduceNeg, imp_self, Nat.reduceMul, Nat.le_refl, not_true_eq_false, not_false_eq_true, List.getElem?_nil, reduceCtorEq, true_or, or_true, Classical.not_not, implies_true, or_self, wI_0, wI_1, wI_m1, b2i_w, b2i_eq0, b2i_eq1, b2i_bool, nor_self, nx_pI, kd_pI, ln_pI, fI_pI, fL_pI, fR_pI, aI_pI, aL_pI, aR_pI, nx_pL, kd_pL, ln_pL, fI_pL, fL_pL, fR_pL, aI_pL, aL_pL, aR_pL, nx_pR, kd_pR, ln_pR, fI_pR, fL_pR, fR_pR, aI_pR, aL_pR, aR_pR, nx_qI, kd_qI, ln_qI, fI_qI, fL_qI, fR_qI, aI_qI, aL_qI, aR_qI, nx_qL, kd_qL, ln_qL, fI_qL, fL_qL, fR_qL, aI_qL, aL_qL, aR_qL, nx_qR, kd_qR, ln_qR, fI_qR, fL_qR, fR_qR, aI_qR, aL_qR, aR_qR, nx_mk, kd_mk, ln_mk, fI_mk, fL_mk, fR_mk, aI_mk, aL_mk, aR_mk, false_and, and_false, if_false, if_true, and_self, Int.reduceEq, Nat.reduceEqDiff, ite_self, MLay_pI, MLay_pL, MLay_qI, MLay_qL, ev_X10_isExplained_5, ev_X10_isExplained_6, ev_X10_isExplained_9, ev_X10_isExplained_10, ev_X10_isExplained_13, ev_X10_isExplained_14, xt_X10_isExplained, xf_X10_isExplained, us_X10_firstOpen]
    try simp (disch := omega) only [wI_id, dv_nn, rm_nn]
    repeat' (first | intro z | apply And.intro)
    all_goals try omega
    all_goals try contradiction
    all_goals exact h
  have w5b : (∀ u, 0 ≤ u → u < 320 → ¬ P u) → Go M_X10_isExplained Q 5 [some (vr 4), some (vi d)] [vi (-1)] σ (0, 0) := fun q => by
    have h := h1 q
    clear h0 h1 hB q
    refine go_X10_isExplained (ct := fun p => p == 13) 20 ?_
    simp only [oI, oL, oR, o1, lI, lL, lR, popN, catS, gv, stL, stL2, swt, cnd, spObj, List.getElem?_cons_zero, List.getElem?_cons_succ, List.getD_cons_zero, List.getD_cons_succ, List.set_cons_zero, List.set_cons_succ, List.nil_append, List.cons_append, Option.toList, Bool.or_false, Bool.false_or, Bool.or_true, Bool.true_or, Nat.reduceBEq, Nat.reduceAdd, Nat.reduceLT, Nat.reduceLeDiff, Int.reduceAdd, Int.reduceToNat, true_and, and_true, Fin.isValue, Fin.val_zero, Fin.val_one, Fin.val_two, Fin.reduceFinMk, eq_self, Int.reduceNeg, imp_self, Nat.reduceMul, Nat.le_refl, not_true_eq_false, not_false_eq_true, List.getElem?_nil, reduceCtorEq, true_or, or_true, Classical.not_not, implies_true, or_self, wI_0, wI_1, wI_m1, b2i_w, b2i_eq0, b2i_eq1, b2i_bool, nor_self, nx_pI, kd_pI, ln_pI, fI_pI, fL_pI, fR_pI, aI_pI, aL_pI, aR_pI, nx_pL, kd_pL, ln_pL, fI_pL, fL_pL, fR_pL, aI_pL, aL_pL, aR_pL, nx_pR, kd_pR, ln_pR, fI_pR, fL_pR, fR_pR, aI_pR, aL_pR, aR_pR, nx_qI, kd_qI, ln_qI, fI_qI, fL_qI, fR_qI, aI_qI, aL_qI, aR_qI, nx_qL, kd_qL, ln_qL, fI_qL, fL_qL, fR_qL, aI_qL, aL_qL, aR_qL, nx_qR, kd_qR, ln_qR, fI_qR, fL_qR, fR_qR, aI_qR, aL_qR, aR_qR, nx_mk, kd_mk, ln_mk, fI_mk, fL_mk, fR_mk, aI_mk, aL_mk, aR_mk, false_and, and_false, if_false, if_true, and_self, Int.reduceEq, Nat.reduceEqDiff, ite_self, MLay_pI, MLay_pL, MLay_qI, MLay_qL, ev_X10_isExplained_5, ev_X10_isExplained_6, ev_X10_isExplained_9, ev_X10_isExplained_10, ev_X10_isExplained_13, ev_X10_isExplained_14, xt_X10_isExplained, xf_X10_isExplained, us_X10_firstOpen]
    try simp (disch := omega) only [wI_id, dv_nn, rm_nn]
    repeat' (first | intro z | apply And.intro)
    all_goals try omega
    all_goals try contradiction
    all_goals exact h
  clear h0 h1
  refine go_X10_isExplained (ct := fun p => p == 5) 20 ?_
  simp only [oI, oL, oR, o1, lI, lL, lR, popN, catS, gv, stL, stL2, swt, cnd, spObj, List.getElem?_cons_zero, List.getElem?_cons_succ, List.getD_cons_zero, List.getD_cons_succ, List.set_cons_zero, List.set_cons_succ, List.nil_append, List.cons_append, Option.toList, Bool.or_false, Bool.false_or, Bool.or_true, Bool.true_or, Nat.reduceBEq, Nat.reduceAdd, Nat.reduceLT, Nat.reduceLeDiff, Int.reduceAdd, Int.reduceToNat, true_and, and_true, Fin.isValue, Fin.val_zero, Fin.val_one, Fin.val_two, Fin.reduceFinMk, eq_self, Int.reduceNeg, imp_self, Nat.reduceMul, Nat.le_refl, not_true_eq_false, not_false_eq_true, List.getElem?_nil, reduceCtorEq, true_or, or_true, Classical.not_not, implies_true, or_self, wI_0, wI_1, wI_m1, b2i_w, b2i_eq0, b2i_eq1, b2i_bool, nor_self, nx_pI, kd_pI, ln_pI, fI_pI, fL_pI, fR_pI, aI_pI, aL_pI, aR_pI, nx_pL, kd_pL, ln_pL, fI_pL, fL_pL, fR_pL, aI_pL, aL_pL, aR_pL, nx_pR, kd_pR, ln_pR, fI_pR, fL_pR, fR_pR, aI_pR, aL_pR, aR_pR, nx_qI, kd_qI, ln_qI, fI_qI, fL_qI, fR_qI, aI_qI, aL_qI, aR_qI, nx_qL, kd_qL, ln_qL, fI_qL, fL_qL, fR_qL, aI_qL, aL_qL, aR_qL, nx_qR, kd_qR, ln_qR, fI_qR, fL_qR, fR_qR, aI_qR, aL_qR, aR_qR, nx_mk, kd_mk, ln_mk, fI_mk, fL_mk, fR_mk, aI_mk, aL_mk, aR_mk, false_and, and_false, if_false, if_true, and_self, Int.reduceEq, Nat.reduceEqDiff, ite_self, MLay_pI, MLay_pL, MLay_qI, MLay_qL, ev_X10_isExplained_0, ev_X10_isExplained_1, ev_X10_isExplained_2, xt_X10_isExplained, xf_X10_isExplained, us_X10_firstOpen, hk, hC, hd]
  repeat' (first | intro z | apply And.intro)
  all_goals try omega
  all_goals try contradiction
  all_goals exact ⟨P, hB, w5a, w5b⟩

/-- the rows are set out for a range of n ticks -/
def cRg (σ : Hp) (n : Int) : Nat → Hp
  | 0 => σ
  | i + 1 => qL (qL (cRg σ n i) 6 i (if 64 ≤ n - 64 * i then BitVec.ofInt 64 (-1) else if n - 64 * i ≤ 0 then 0#64 else 1#64 <<< (n - 64 * i).toNat - 1#64)) 5 i 0#64
theorem cRg_s (σ : Hp) (n : Int) : ∀ i : Nat, Fz [] noR (fun r => r = 5 ∨ r = 6) σ (cRg σ n i)
  | 0 => Fz.rf σ
  | i + 1 => by
    unfold cRg
    exact ((cRg_s σ n i).tr (Fz_qL _ _ _ (Or.inr rfl))).tr (Fz_qL _ _ _ (Or.inl rfl))

def sp_X10_openRange : Sp := fun av σ Q => oR av fun this av => oI av fun n av => av = [] ∧ kd σ this = 11 ∧ (this = 4 ∧ CLay σ ∧ (1 ≤ n ∧ n ≤ 300) ∧ Q none (cRg σ n 5))
theorem us_X10_openRange (this : Int) (n : Int) (σ : Hp) (Q : Option AV → Hp → Prop) : sp_X10_openRange [vr this, vi n] σ Q = (kd σ this = 11 ∧ (this = 4 ∧ CLay σ ∧ (1 ≤ n ∧ n ≤ 300) ∧ Q none (cRg σ n 5))) := propext ⟨fun h => h.2, fun h => ⟨rfl, h⟩⟩
theorem el_X10_openRange {av : List AV} {σ : Hp} {Q : Option AV → Hp → Prop} (h : sp_X10_openRange av σ Q) : ∃ (this : Int) (n : Int), av = [vr this, vi n] ∧ (kd σ this = 11 ∧ (this = 4 ∧ CLay σ ∧ (1 ≤ n ∧ n ≤ 300) ∧ Q none (cRg σ n 5))) := by
  obtain ⟨this, a0, rfl, h0⟩ := oR_s h
  obtain ⟨n, a1, rfl, h1⟩ := oI_s h0
  obtain ⟨rfl, hz⟩ := h1
  exact ⟨this, n, rfl, hz⟩
theorem rc_X10_openRange : ∀ (av : List AV) (σ : Hp) (Q : Option AV → Hp → Prop), sp_X10_openRange av σ Q → ∃ r tl, av = vr r :: tl ∧ kd σ r = 10 + 1 := fun av σ Q h => by
  obtain ⟨this, n, rfl, hz, -⟩ := el_X10_openRange h
  exact ⟨this, _, rfl, hz⟩

def tb_X10_openRange : Tab := [(0, .iconst 0, 1, (0, 0, 0, 0)), (1, .istore_n 2, 1, (0, 0, 0, 0)), (2, .iload_n 2, 1, (0, 0, 0, 0)), (3, .aload_n 0, 1, (0, 0, 0, 0)), (4, .getfield 15, 3, (11, 1101, 2, 0)), (7, .arraylength, 1, (0, 0, 0, 0)), (8, .if_icmp .ge 63, 3, (0, 0, 0, 0)), (11, .iload_n 2, 1, (0, 0, 0, 0)), (12, .aload_n 0, 1, (0, 0, 0, 0)), (13, .getfield 9, 3, (11, 1100, 2, 0)), (16, .arraylength, 1, (0, 0, 0, 0)), (17, .if_icmp .ge 54, 3, (0, 0, 0, 0)), (20, .iload_n 1, 1, (0, 0, 0, 0)), (21, .bipush 64, 2, (0, 0, 0, 0)), (23, .iload_n 2, 1, (0, 0, 0, 0)), (24, .imul, 1, (0, 0, 0, 0)), (25, .isub, 1, (0, 0, 0, 0)), (26, .istore_n 3, 1, (0, 0, 0, 0)), (27, .aload_n 0, 1, (0, 0, 0, 0)), (28, .getfield 15, 3, (11, 1101, 2, 0)), (31, .iload_n 2, 1, (0, 0, 0, 0)), (32, .iload_n 3, 1, (0, 0, 0, 0)), (33, .bipush 64, 2, (0, 0, 0, 0)), (35, .if_icmp .lt 9, 3, (0, 0, 0, 0)), (38, .ldc2_w 76, 3, (1, 0, 0, -1)), (41, .goto 16, 3, (0, 0, 0, 0)), (44, .iload_n 3, 1, (0, 0, 0, 0)), (45, .ifCond .gt 7, 3, (0, 0, 0, 0)), (48, .lconst 0, 1, (0, 0, 0, 0)), (49, .goto 8, 3, (0, 0, 0, 0)), (52, .lconst 1, 1, (0, 0, 0, 0)), (53, .iload_n 3, 1, (0, 0, 0, 0)), (54, .lshl, 1, (0, 0, 0, 0)), (55, .lconst 1, 1, (0, 0, 0, 0)), (56, .lsub, 1, (0, 0, 0, 0)), (57, .lastore, 1, (0, 0, 0, 0)), (58, .aload_n 0, 1, (0, 0, 0, 0)), (59, .getfield 9, 3, (11, 1100, 2, 0)), (62, .iload_n 2, 1, (0, 0, 0, 0)), (63, .lconst 0, 1, (0, 0, 0, 0)), (64, .lastore, 1, (0, 0, 0, 0)), (65, .iinc 2 1, 3, (0, 0, 0, 0)), (68, .goto (-66), 3, (0, 0, 0, 0)), (71, .return_, 1, (0, 0, 0, 0))]
set_option maxRecDepth 100000 in
theorem tk_X10_openRange : TOK RX10 false cX10_openRange tb_X10_openRange := chkT_ok ft_X10 (by decide +kernel)
def mt_X10_openRange : List (Nat × Mt) := []
theorem mk_X10_openRange : MOK RX10 mt_X10_openRange := fun q hq => by cases hq
noncomputable def xe_X10_openRange (ct : Nat → Bool) (K : Kt) (R : Option AV → Hp → Prop) (n : Nat) : Kt := exS 4 1 0 0 0 tb_X10_openRange mt_X10_openRange ct K R n
noncomputable def xk_X10_openRange (ct : Nat → Bool) (K : Kt) (R : Option AV → Hp → Prop) (n : Nat) : Kt := exkS 4 1 0 0 0 tb_X10_openRange mt_X10_openRange ct K R n
theorem xt_X10_openRange {ct : Nat → Bool} {K : Kt} {R : Option AV → Hp → Prop} {n pc : Nat} {ls : List (Option AV)} {st : List AV} {σ : Hp} {k : Nat × Nat} (h : ct pc = true) : xk_X10_openRange ct K R n pc ls st σ k = K pc ls st σ k := by unfold xk_X10_openRange exkS; rw [h]
theorem xf_X10_openRange {ct : Nat → Bool} {K : Kt} {R : Option AV → Hp → Prop} {n pc : Nat} {ls : List (Option AV)} {st : List AV} {σ : Hp} {k : Nat × Nat} (h : ct pc = false) : xk_X10_openRange ct K R n pc ls st σ k = xe_X10_openRange ct K R n pc ls st σ k := by unfold xk_X10_openRange exkS xe_X10_openRange; rw [h]
theorem ev_X10_openRange_0 {ct : Nat → Bool} {K : Kt} {R : Option AV → Hp → Prop} {n : Nat} {ls : List (Option AV)} {st : List AV} {σ : Hp} {k : Nat × Nat} : xe_X10_openRange ct K R (n + 1) 0 ls st σ k = (xk_X10_openRange ct K R n 1 ls (vi (0) :: st) σ k) := exS_step.trans rfl
theorem ev_X10_openRange_1 {ct : Nat → Bool} {K : Kt} {R : Option AV → Hp → Prop} {n : Nat} {ls : List (Option AV)} {st : List AV} {σ : Hp} {k : Nat × Nat} : xe_X10_openRange ct K R (n + 1) 1 ls st σ k = (oI st fun x st => 2 < 4 ∧ xk_X10_openRange ct K R n 2 (stL ls 2 (vi x)) st σ k) := exS_step.trans rfl
theorem ev_X10_openRange_2 {ct : Nat → Bool} {K : Kt} {R : Option AV → Hp → Prop} {n : Nat} {ls : List (Option AV)} {st : List AV} {σ : Hp} {k : Nat × Nat} : xe_X10_openRange ct K R (n + 1) 2 ls st σ k = (lI ls 2 fun x => xk_X10_openRange ct K R n 3 ls (vi x :: st) σ k) := exS_step.trans rfl
theorem ev_X10_openRange_3 {ct : Nat → Bool} {K : Kt} {R : Option AV → Hp → Prop} {n : Nat} {ls : List (Option AV)} {st : List AV} {σ : Hp} {k : Nat × Nat} : xe_X10_openRange ct K R (n + 1) 3 ls st σ k = (lR ls 0 fun x => xk_X10_openRange ct K R n 4 ls (vr x :: st) σ k) := exS_step.trans rfl
theorem ev_X10_openRange_4 {ct : Nat → Bool} {K : Kt} {R : Option AV → Hp → Prop} {n : Nat} {ls : List (Option AV)} {st : List AV} {σ : Hp} {k : Nat × Nat} : xe_X10_openRange ct K R (n + 1) 4 ls st σ k = (oR st fun x st => kd σ x = 11 ∧ xk_X10_openRange ct K R n 7 ls (vr (fR σ 1101 x) :: st) σ k) := exS_step.trans rfl
theorem ev_X10_openRange_7 {ct : Nat → Bool} {K : Kt} {R : Option AV → Hp → Prop} {n : Nat} {ls : List (Option AV)} {st : List AV} {σ : Hp} {k : Nat × Nat} : xe_X10_openRange ct K R (n + 1) 7 ls st σ k = (oR st fun x st => (101 ≤ kd σ x ∨ kd σ x = 21) ∧ xk_X10_openRange ct K R n 8 ls (vi (ln σ x) :: st) σ k) := exS_step.trans rfl
theorem ev_X10_openRange_8 {ct : Nat → Bool} {K : Kt} {R : Option AV → Hp → Prop} {n : Nat} {ls : List (Option AV)} {st : List AV} {σ : Hp} {k : Nat × Nat} : xe_X10_openRange ct K R (n + 1) 8 ls st σ k = (oI st fun y st => oI st fun x st => (wI y ≤ wI x → xk_X10_openRange ct K R n 71 ls st σ k) ∧ (¬ (wI y ≤ wI x) → xk_X10_openRange ct K R n 11 ls st σ k)) := exS_step.trans rfl
theorem ev_X10_openRange_11 {ct : Nat → Bool} {K : Kt} {R : Option AV → Hp → Prop} {n : Nat} {ls : List (Option AV)} {st : List AV} {σ : Hp} {k : Nat × Nat} : xe_X10_openRange ct K R (n + 1) 11 ls st σ k = (lI ls 2 fun x => xk_X10_openRange ct K R n 12 ls (vi x :: st) σ k) := exS_step.trans rfl
theorem ev_X10_openRange_12 {ct : Nat → Bool} {K : Kt} {R : Option AV → Hp → Prop} {n : Nat} {ls : List (Option AV)} {st : List AV} {σ : Hp} {k : Nat × Nat} : xe_X10_openRange ct K R (n + 1) 12 ls st σ k = (lR ls 0 fun x => xk_X10_openRange ct K R n 13 ls (vr x :: st) σ k) := exS_step.trans rfl
theorem ev_X10_openRange_13 {ct : Nat → Bool} {K : Kt} {R : Option AV → Hp → Prop} {n : Nat} {ls : List (Option AV)} {st : List AV} {σ : Hp} {k : Nat × Nat} : xe_X10_openRange ct K R (n + 1) 13 ls st σ k = (oR st fun x st => kd σ x = 11 ∧ xk_X10_openRange ct K R n 16 ls (vr (fR σ 1100 x) :: st) σ k) := exS_step.trans rfl
theorem ev_X10_openRange_16 {ct : Nat → Bool} {K : Kt} {R : Option AV → Hp → Prop} {n : Nat} {ls : List (Option AV)} {st : List AV} {σ : Hp} {k : Nat × Nat} : xe_X10_openRange ct K R (n + 1) 16 ls st σ k = (oR st fun x st => (101 ≤ kd σ x ∨ kd σ x = 21) ∧ xk_X10_openRange ct K R n 17 ls (vi (ln σ x) :: st) σ k) := exS_step.trans rfl
theorem ev_X10_openRange_17 {ct : Nat → Bool} {K : Kt} {R : Option AV → Hp → Prop} {n : Nat} {ls : List (Option AV)} {st : List AV} {σ : Hp} {k : Nat × Nat} : xe_X10_openRange ct K R (n + 1) 17 ls st σ k = (oI st fun y st => oI st fun x st => (wI y ≤ wI x → xk_X10_openRange ct K R n 71 ls st σ k) ∧ (¬ (wI y ≤ wI x) → xk_X10_openRange ct K R n 20 ls st σ k)) := exS_step.trans rfl
theorem ev_X10_openRange_20 {ct : Nat → Bool} {K : Kt} {R : Option AV → Hp → Prop} {n : Nat} {ls : List (Option AV)} {st : List AV} {σ : Hp} {k : Nat × Nat} : xe_X10_openRange ct K R (n + 1) 20 ls st σ k = (lI ls 1 fun x => xk_X10_openRange ct K R n 21 ls (vi x :: st) σ k) := exS_step.trans rfl
theorem ev_X10_openRange_21 {ct : Nat → Bool} {K : Kt} {R : Option AV → Hp → Prop} {n : Nat} {ls : List (Option AV)} {st : List AV} {σ : Hp} {k : Nat × Nat} : xe_X10_openRange ct K R (n + 1) 21 ls st σ k = (xk_X10_openRange ct K R n 23 ls (vi (64) :: st) σ k) := exS_step.trans rfl
theorem ev_X10_openRange_23 {ct : Nat → Bool} {K : Kt} {R : Option AV → Hp → Prop} {n : Nat} {ls : List (Option AV)} {st : List AV} {σ : Hp} {k : Nat × Nat} : xe_X10_openRange ct K R (n + 1) 23 ls st σ k = (lI ls 2 fun x => xk_X10_openRange ct K R n 24 ls (vi x :: st) σ k) := exS_step.trans rfl
theorem ev_X10_openRange_24 {ct : Nat → Bool} {K : Kt} {R : Option AV → Hp → Prop} {n : Nat} {ls : List (Option AV)} {st : List AV} {σ : Hp} {k : Nat × Nat} : xe_X10_openRange ct K R (n + 1) 24 ls st σ k = (oI st fun y st => oI st fun x st => xk_X10_openRange ct K R n 25 ls (vi (x * y) :: st) σ k) := exS_step.trans rfl
theorem ev_X10_openRange_25 {ct : Nat → Bool} {K : Kt} {R : Option AV → Hp → Prop} {n : Nat} {ls : List (Option AV)} {st : List AV} {σ : Hp} {k : Nat × Nat} : xe_X10_openRange ct K R (n + 1) 25 ls st σ k = (oI st fun y st => oI st fun x st => xk_X10_openRange ct K R n 26 ls (vi (x - y) :: st) σ k) := exS_step.trans rfl
theorem ev_X10_openRange_26 {ct : Nat → Bool} {K : Kt} {R : Option AV → Hp → Prop} {n : Nat} {ls : List (Option AV)} {st : List AV} {σ : Hp} {k : Nat × Nat} : xe_X10_openRange ct K R (n + 1) 26 ls st σ k = (oI st fun x st => 3 < 4 ∧ xk_X10_openRange ct K R n 27 (stL ls 3 (vi x)) st σ k) := exS_step.trans rfl
theorem ev_X10_openRange_27 {ct : Nat → Bool} {K : Kt} {R : Option AV → Hp → Prop} {n : Nat} {ls : List (Option AV)} {st : List AV} {σ : Hp} {k : Nat × Nat} : xe_X10_openRange ct K R (n + 1) 27 ls st σ k = (lR ls 0 fun x => xk_X10_openRange ct K R n 28 ls (vr x :: st) σ k) := exS_step.trans rfl
theorem ev_X10_openRange_28 {ct : Nat → Bool} {K : Kt} {R : Option AV → Hp → Prop} {n : Nat} {ls : List (Option AV)} {st : List AV} {σ : Hp} {k : Nat × Nat} : xe_X10_openRange ct K R (n + 1) 28 ls st σ k = (oR st fun x st => kd σ x = 11 ∧ xk_X10_openRange ct K R n 31 ls (vr (fR σ 1101 x) :: st) σ k) := exS_step.trans rfl
theorem ev_X10_openRange_31 {ct : Nat → Bool} {K : Kt} {R : Option AV → Hp → Prop} {n : Nat} {ls : List (Option AV)} {st : List AV} {σ : Hp} {k : Nat × Nat} : xe_X10_openRange ct K R (n + 1) 31 ls st σ k = (lI ls 2 fun x => xk_X10_openRange ct K R n 32 ls (vi x :: st) σ k) := exS_step.trans rfl
theorem ev_X10_openRange_32 {ct : Nat → Bool} {K : Kt} {R : Option AV → Hp → Prop} {n : Nat} {ls : List (Option AV)} {st : List AV} {σ : Hp} {k : Nat × Nat} : xe_X10_openRange ct K R (n + 1) 32 ls st σ k = (lI ls 3 fun x => xk_X10_openRange ct K R n 33 ls (vi x :: st) σ k) := exS_step.trans rfl
theorem ev_X10_openRange_33 {ct : Nat → Bool} {K : Kt} {R : Option AV → Hp → Prop} {n : Nat} {ls : List (Option AV)} {st : List AV} {σ : Hp} {k : Nat × Nat} : xe_X10_openRange ct K R (n + 1) 33 ls st σ k = (xk_X10_openRange ct K R n 35 ls (vi (64) :: st) σ k) := exS_step.trans rfl
theorem ev_X10_openRange_35 {ct : Nat → Bool} {K : Kt} {R : Option AV → Hp → Prop} {n : Nat} {ls : List (Option AV)} {st : List AV} {σ : Hp} {k : Nat × Nat} : xe_X10_openRange ct K R (n + 1) 35 ls st σ k = (oI st fun y st => oI st fun x st => (wI x < wI y → xk_X10_openRange ct K R n 44 ls st σ k) ∧ (¬ (wI x < wI y) → xk_X10_openRange ct K R n 38 ls st σ k)) := exS_step.trans rfl
theorem ev_X10_openRange_38 {ct : Nat → Bool} {K : Kt} {R : Option AV → Hp → Prop} {n : Nat} {ls : List (Option AV)} {st : List AV} {σ : Hp} {k : Nat × Nat} : xe_X10_openRange ct K R (n + 1) 38 ls st σ k = (xk_X10_openRange ct K R n 41 ls (vl (BitVec.ofInt 64 (-1)) :: st) σ k) := exS_step.trans rfl
theorem ev_X10_openRange_41 {ct : Nat → Bool} {K : Kt} {R : Option AV → Hp → Prop} {n : Nat} {ls : List (Option AV)} {st : List AV} {σ : Hp} {k : Nat × Nat} : xe_X10_openRange ct K R (n + 1) 41 ls st σ k = (xk_X10_openRange ct K R n 57 ls st σ k) := exS_step.trans rfl
theorem ev_X10_openRange_44 {ct : Nat → Bool} {K : Kt} {R : Option AV → Hp → Prop} {n : Nat} {ls : List (Option AV)} {st : List AV} {σ : Hp} {k : Nat × Nat} : xe_X10_openRange ct K R (n + 1) 44 ls st σ k = (lI ls 3 fun x => xk_X10_openRange ct K R n 45 ls (vi x :: st) σ k) := exS_step.trans rfl
theorem ev_X10_openRange_45 {ct : Nat → Bool} {K : Kt} {R : Option AV → Hp → Prop} {n : Nat} {ls : List (Option AV)} {st : List AV} {σ : Hp} {k : Nat × Nat} : xe_X10_openRange ct K R (n + 1) 45 ls st σ k = (oI st fun x st => (wI 0 < wI x → xk_X10_openRange ct K R n 52 ls st σ k) ∧ (¬ (wI 0 < wI x) → xk_X10_openRange ct K R n 48 ls st σ k)) := exS_step.trans rfl
theorem ev_X10_openRange_48 {ct : Nat → Bool} {K : Kt} {R : Option AV → Hp → Prop} {n : Nat} {ls : List (Option AV)} {st : List AV} {σ : Hp} {k : Nat × Nat} : xe_X10_openRange ct K R (n + 1) 48 ls st σ k = (xk_X10_openRange ct K R n 49 ls (vl (BitVec.ofNat 64 0) :: st) σ k) := exS_step.trans rfl
theorem ev_X10_openRange_49 {ct : Nat → Bool} {K : Kt} {R : Option AV → Hp → Prop} {n : Nat} {ls : List (Option AV)} {st : List AV} {σ : Hp} {k : Nat × Nat} : xe_X10_openRange ct K R (n + 1) 49 ls st σ k = (xk_X10_openRange ct K R n 57 ls st σ k) := exS_step.trans rfl
theorem ev_X10_openRange_52 {ct : Nat → Bool} {K : Kt} {R : Option AV → Hp → Prop} {n : Nat} {ls : List (Option AV)} {st : List AV} {σ : Hp} {k : Nat × Nat} : xe_X10_openRange ct K R (n + 1) 52 ls st σ k = (xk_X10_openRange ct K R n 53 ls (vl (BitVec.ofNat 64 1) :: st) σ k) := exS_step.trans rfl
theorem ev_X10_openRange_53 {ct : Nat → Bool} {K : Kt} {R : Option AV → Hp → Prop} {n : Nat} {ls : List (Option AV)} {st : List AV} {σ : Hp} {k : Nat × Nat} : xe_X10_openRange ct K R (n + 1) 53 ls st σ k = (lI ls 3 fun x => xk_X10_openRange ct K R n 54 ls (vi x :: st) σ k) := exS_step.trans rfl
theorem ev_X10_openRange_54 {ct : Nat → Bool} {K : Kt} {R : Option AV → Hp → Prop} {n : Nat} {ls : List (Option AV)} {st : List AV} {σ : Hp} {k : Nat × Nat} : xe_X10_openRange ct K R (n + 1) 54 ls st σ k = (oI st fun y st => oL st fun x st => xk_X10_openRange ct K R n 55 ls (vl (x <<< (y % 64).toNat) :: st) σ k) := exS_step.trans rfl
theorem ev_X10_openRange_55 {ct : Nat → Bool} {K : Kt} {R : Option AV → Hp → Prop} {n : Nat} {ls : List (Option AV)} {st : List AV} {σ : Hp} {k : Nat × Nat} : xe_X10_openRange ct K R (n + 1) 55 ls st σ k = (xk_X10_openRange ct K R n 56 ls (vl (BitVec.ofNat 64 1) :: st) σ k) := exS_step.trans rfl
theorem ev_X10_openRange_56 {ct : Nat → Bool} {K : Kt} {R : Option AV → Hp → Prop} {n : Nat} {ls : List (Option AV)} {st : List AV} {σ : Hp} {k : Nat × Nat} : xe_X10_openRange ct K R (n + 1) 56 ls st σ k = (oL st fun y st => oL st fun x st => xk_X10_openRange ct K R n 57 ls (vl (x - y) :: st) σ k) := exS_step.trans rfl
theorem ev_X10_openRange_57 {ct : Nat → Bool} {K : Kt} {R : Option AV → Hp → Prop} {n : Nat} {ls : List (Option AV)} {st : List AV} {σ : Hp} {k : Nat × Nat} : xe_X10_openRange ct K R (n + 1) 57 ls st σ k = (oL st fun v st => oI st fun j st => oR st fun x st => kd σ x = 102 ∧ (0 ≤ j ∧ j < ln σ x) ∧ xk_X10_openRange ct K R n 58 ls st (qL σ x j v) k) := exS_step.trans rfl
theorem ev_X10_openRange_58 {ct : Nat → Bool} {K : Kt} {R : Option AV → Hp → Prop} {n : Nat} {ls : List (Option AV)} {st : List AV} {σ : Hp} {k : Nat × Nat} : xe_X10_openRange ct K R (n + 1) 58 ls st σ k = (lR ls 0 fun x => xk_X10_openRange ct K R n 59 ls (vr x :: st) σ k) := exS_step.trans rfl
theorem ev_X10_openRange_59 {ct : Nat → Bool} {K : Kt} {R : Option AV → Hp → Prop} {n : Nat} {ls : List (Option AV)} {st : List AV} {σ : Hp} {k : Nat × Nat} : xe_X10_openRange ct K R (n + 1) 59 ls st σ k = (oR st fun x st => kd σ x = 11 ∧ xk_X10_openRange ct K R n 62 ls (vr (fR σ 1100 x) :: st) σ k) := exS_step.trans rfl
theorem ev_X10_openRange_62 {ct : Nat → Bool} {K : Kt} {R : Option AV → Hp → Prop} {n : Nat} {ls : List (Option AV)} {st : List AV} {σ : Hp} {k : Nat × Nat} : xe_X10_openRange ct K R (n + 1) 62 ls st σ k = (lI ls 2 fun x => xk_X10_openRange ct K R n 63 ls (vi x :: st) σ k) := exS_step.trans rfl
theorem ev_X10_openRange_63 {ct : Nat → Bool} {K : Kt} {R : Option AV → Hp → Prop} {n : Nat} {ls : List (Option AV)} {st : List AV} {σ : Hp} {k : Nat × Nat} : xe_X10_openRange ct K R (n + 1) 63 ls st σ k = (xk_X10_openRange ct K R n 64 ls (vl (BitVec.ofNat 64 0) :: st) σ k) := exS_step.trans rfl
theorem ev_X10_openRange_64 {ct : Nat → Bool} {K : Kt} {R : Option AV → Hp → Prop} {n : Nat} {ls : List (Option AV)} {st : List AV} {σ : Hp} {k : Nat × Nat} : xe_X10_openRange ct K R (n + 1) 64 ls st σ k = (oL st fun v st => oI st fun j st => oR st fun x st => kd σ x = 102 ∧ (0 ≤ j ∧ j < ln σ x) ∧ xk_X10_openRange ct K R n 65 ls st (qL σ x j v) k) := exS_step.trans rfl
theorem ev_X10_openRange_65 {ct : Nat → Bool} {K : Kt} {R : Option AV → Hp → Prop} {n : Nat} {ls : List (Option AV)} {st : List AV} {σ : Hp} {k : Nat × Nat} : xe_X10_openRange ct K R (n + 1) 65 ls st σ k = (lI ls 2 fun x => 2 < 4 ∧ xk_X10_openRange ct K R n 68 (stL ls 2 (vi (x + (1)))) st σ k) := exS_step.trans rfl
theorem ev_X10_openRange_68 {ct : Nat → Bool} {K : Kt} {R : Option AV → Hp → Prop} {n : Nat} {ls : List (Option AV)} {st : List AV} {σ : Hp} {k : Nat × Nat} : xe_X10_openRange ct K R (n + 1) 68 ls st σ k = (xk_X10_openRange ct K R n 2 ls st σ k) := exS_step.trans rfl
theorem ev_X10_openRange_71 {ct : Nat → Bool} {K : Kt} {R : Option AV → Hp → Prop} {n : Nat} {ls : List (Option AV)} {st : List AV} {σ : Hp} {k : Nat × Nat} : xe_X10_openRange ct K R (n + 1) 71 ls st σ k = (st = [] ∧ 0 = 0 ∧ R none σ) := exS_step.trans rfl
def M_X10_openRange : Md := (yX10_openRange, cX10_openRange, 4, (none : Option FieldType), 1, 0, 0, 0, false, tb_X10_openRange, mt_X10_openRange)
theorem mm_X10_openRange : MMOK M_X10_openRange := ⟨by decide +kernel, tk_X10_openRange, mk_X10_openRange, rfl, fun h => by cases h⟩
theorem go_X10_openRange {Q : Option AV → Hp → Prop} {ct : Nat → Bool} {pc : Nat} {ls : List (Option AV)} {st : List AV} {σ : Hp} {k : Nat × Nat} (n : Nat) (h : xe_X10_openRange ct (Go M_X10_openRange Q) Q n pc ls st σ k) : Go M_X10_openRange Q pc ls st σ k := Go.exS mm_X10_openRange h

set_option maxRecDepth 20000 in
theorem c_X10_openRange : Ct yX10_openRange cX10_openRange 4 ((none : Option FieldType)) 1 0 0 sp_X10_openRange := by
  refine Ct.go (M := M_X10_openRange) mm_X10_openRange fun av σ Q h0 => ?_
  obtain ⟨this, n, rfl, hk, h⟩ := el_X10_openRange h0
  clear h0
  refine ⟨Nat.le_of_ble_eq_true rfl, ?_⟩
  show Go M_X10_openRange Q 0 [some (vr this), some (vi n), none, none] [] σ (0, 0)
  obtain ⟨rfl, hC, hn, h⟩ := h
  have loop : ∀ (m i : Nat) (a3 : Option AV), i + m = 5 → Go M_X10_openRange Q 2 [some (vr 4), some (vi n), some (vi i), a3] [] (cRg σ n i) (0, 0) := by
    intro m
    induction m with
    | zero =>
      intro i a3 hi
      have C := hC.fz (cRg_s σ n i) (by decide)
      have e : i = 5 := by omega
      subst e
      generalize cRg σ n 5 = ρ at *
      have hk2 : kd ρ 4 = 11 := by simp only [C.eqs]
      refine go_X10_openRange (ct := fun p => p == 11) 20 ?_
      simp only [oI, oL, oR, o1, lI, lL, lR, popN, catS, gv, stL, stL2, swt, cnd, spObj, List.getElem?_cons_zero, List.getElem?_cons_succ, List.getD_cons_zero, List.getD_cons_succ, List.set_cons_zero, List.set_cons_succ, List.nil_append, List.cons_append, Option.toList, Bool.or_false, Bool.false_or, Bool.or_true, Bool.true_or, Nat.reduceBEq, Nat.reduceAdd, Nat.reduceLT, Nat.reduceLeDiff, Int.reduceAdd, Int.reduceToNat, true_and, and_true, Fin.isValue, Fin.val_zero, Fin.val_one, Fin.val_two, Fin.reduceFinMk, eq_self, Int.reduceNeg, imp_self, Nat.reduceMul, Nat.le_refl, not_true_eq_false, not_false_eq_true, List.getElem?_nil, reduceCtorEq, true_or, or_true, Classical.not_not, implies_true, or_self, wI_0, wI_1, wI_m1, b2i_w, b2i_eq0, b2i_eq1, b2i_bool, nor_self, nx_pI, kd_pI, ln_pI, fI_pI, fL_pI, fR_pI, aI_pI, aL_pI, aR_pI, nx_pL, kd_pL, ln_pL, fI_pL, fL_pL, fR_pL, aI_pL, aL_pL, aR_pL, nx_pR, kd_pR, ln_pR, fI_pR, fL_pR, fR_pR, aI_pR, aL_pR, aR_pR, nx_qI, kd_qI, ln_qI, fI_qI, fL_qI, fR_qI, aI_qI, aL_qI, aR_qI, nx_qL, kd_qL, ln_qL, fI_qL, fL_qL, fR_qL, aI_qL, aL_qL, aR_qL, nx_qR, kd_qR, ln_qR, fI_qR, fL_qR, fR_qR, aI_qR, aL_qR, aR_qR, nx_mk, kd_mk, ln_mk, fI_mk, fL_mk, fR_mk, aI_mk, aL_mk, aR_mk, false_and, and_false, if_false, if_true, and_self, Int.reduceEq, Nat.reduceEqDiff, ite_self, MLay_pI, MLay_pL, MLay_qI, MLay_qL, ev_X10_openRange_2, ev_X10_openRange_3, ev_X10_openRange_4, ev_X10_openRange_7, ev_X10_openRange_8, ev_X10_openRange_71, xt_X10_openRange, xf_X10_openRange, hk2, C.eqs]
      try simp (disch := omega) only [wI_id, dv_nn, rm_nn]
      repeat' (first | intro z | apply And.intro)
      all_goals try omega
      all_goals try contradiction
      all_goals exact h
    | succ m ih =>
      intro i a3 hi
      have C := hC.fz (cRg_s σ n i) (by decide)
      have w := ih (i + 1) (some (vi (n - 64 * i))) (by omega)
      rw [Int.natCast_add] at w
      unfold cRg at w
      generalize cRg σ n i = ρ at *
      have hk2 : kd ρ 4 = 11 := by simp only [C.eqs]
      clear ih h
      by_cases c1 : 64 ≤ n - 64 * (i : Int)
      · rw [if_pos c1] at w
        refine go_X10_openRange (ct := fun p => p == 44 || p == 2 || p == 71) 60 ?_
        simp only [oI, oL, oR, o1, lI, lL, lR, popN, catS, gv, stL, stL2, swt, cnd, spObj, List.getElem?_cons_zero, List.getElem?_cons_succ, List.getD_cons_zero, List.getD_cons_succ, List.set_cons_zero, List.set_cons_succ, List.nil_append, List.cons_append, Option.toList, Bool.or_false, Bool.false_or, Bool.or_true, Bool.true_or, Nat.reduceBEq, Nat.reduceAdd, Nat.reduceLT, Nat.reduceLeDiff, Int.reduceAdd, Int.reduceToNat, true_and, and_true, Fin.isValue, Fin.val_zero, Fin.val_one, Fin.val_two, Fin.reduceFinMk, eq_self, Int.reduceNeg, imp_self, Nat.reduceMul, Nat.le_refl, not_true_eq_false, not_false_eq_true, List.getElem?_nil, reduceCtorEq, true_or, or_true, Classical.not_not, implies_true, or_self, wI_0, wI_1, wI_m1, b2i_w, b2i_eq0, b2i_eq1, b2i_bool, nor_self, nx_pI, kd_pI, ln_pI, fI_pI, fL_pI, fR_pI, aI_pI, aL_pI, aR_pI, nx_pL, kd_pL, ln_pL, fI_pL, fL_pL, fR_pL, aI_pL, aL_pL, aR_pL, nx_pR, kd_pR, ln_pR, fI_pR, fL_pR, fR_pR, aI_pR, aL_pR, aR_pR, nx_qI, kd_qI, ln_qI, fI_qI, fL_qI, fR_qI, aI_qI, aL_qI, aR_qI, nx_qL, kd_qL, ln_qL, fI_qL, fL_qL, fR_qL, aI_qL, aL_qL, aR_qL, nx_qR, kd_qR, ln_qR, fI_qR, fL_qR, fR_qR, aI_qR, aL_qR, aR_qR, nx_mk, kd_mk, ln_mk, fI_mk, fL_mk, fR_mk, aI_mk, aL_mk, aR_mk, false_and, and_false, if_false, if_true, and_self, Int.reduceEq, Nat.reduceEqDiff, ite_self, MLay_pI, MLay_pL, MLay_qI, MLay_qL, ev_X10_openRange_2, ev_X10_openRange_3, ev_X10_openRange_4, ev_X10_openRange_7, ev_X10_openRange_8, ev_X10_openRange_11, ev_X10_openRange_12, ev_X10_openRange_13, ev_X10_openRange_16, ev_X10_openRange_17, ev_X10_openRange_20, ev_X10_openRange_21, ev_X10_openRange_23, ev_X10_openRange_24, ev_X10_openRange_25, ev_X10_openRange_26, ev_X10_openRange_27, ev_X10_openRange_28, ev_X10_openRange_31, ev_X10_openRange_32, ev_X10_openRange_33, ev_X10_openRange_35, ev_X10_openRange_38, ev_X10_openRange_41, ev_X10_openRange_44, ev_X10_openRange_45, ev_X10_openRange_48, ev_X10_openRange_49, ev_X10_openRange_52, ev_X10_openRange_53, ev_X10_openRange_54, ev_X10_openRange_55, ev_X10_openRange_56, ev_X10_openRange_57, ev_X10_openRange_58, ev_X10_openRange_59, ev_X10_openRange_62, ev_X10_openRange_63, ev_X10_openRange_64, ev_X10_openRange_65, ev_X10_openRange_68, xt_X10_openRange, xf_X10_openRange, hk2, C.eqs]
        try simp (disch := omega) only [wI_id, dv_nn, rm_nn]
        repeat' (first | intro z | apply And.intro)
        all_goals try omega
        all_goals try contradiction
        all_goals exact w
      · rw [if_neg c1] at w
        by_cases c2 : n - 64 * (i : Int) ≤ 0
        · rw [if_pos c2] at w
          refine go_X10_openRange (ct := fun p => p == 38 || p == 52 || p == 2 || p == 71) 60 ?_
          simp only [oI, oL, oR, o1, lI, lL, lR, popN, catS, gv, stL, stL2, swt, cnd, spObj, List.getElem?_cons_zero, List.getElem?_cons_succ, List.getD_cons_zero, List.getD_cons_succ, List.set_cons_zero, List.set_cons_succ, List.nil_append, List.cons_append, Option.toList, Bool.or_false, Bool.false_or, Bool.or_true, Bool.true_or, Nat.reduceBEq, Nat.reduceAdd, Nat.reduceLT, Nat.reduceLeDiff, Int.reduceAdd, Int.reduceToNat, true_and, and_true, Fin.isValue, Fin.val_zero, Fin.val_one, Fin.val_two, Fin.reduceFinMk, eq_self, Int.reduceNeg, imp_self, Nat.reduceMul, Nat.le_refl, not_true_eq_false, not_false_eq_true, List.getElem?_nil, reduceCtorEq, true_or, or_true, Classical.not_not, implies_true, or_self, wI_0, wI_1, wI_m1, b2i_w, b2i_eq0, b2i_eq1, b2i_bool, nor_self, nx_pI, kd_pI, ln_pI, fI_pI, fL_pI, fR_pI, aI_pI, aL_pI, aR_pI, nx_pL, kd_pL, ln_pL, fI_pL, fL_pL, fR_pL, aI_pL, aL_pL, aR_pL, nx_pR, kd_pR, ln_pR, fI_pR, fL_pR, fR_pR, aI_pR, aL_pR, aR_pR, nx_qI, kd_qI, ln_qI, fI_qI, fL_qI, fR_qI, aI_qI, aL_qI, aR_qI, nx_qL, kd_qL, ln_qL, fI_qL, fL_qL, fR_qL, aI_qL, aL_qL, aR_qL, nx_qR, kd_qR, ln_qR, fI_qR, fL_qR, fR_qR, aI_qR, aL_qR, aR_qR, nx_mk, kd_mk, ln_mk, fI_mk, fL_mk, fR_mk, aI_mk, aL_mk, aR_mk, false_and, and_false, if_false, if_true, and_self, Int.reduceEq, Nat.reduceEqDiff, ite_self, MLay_pI, MLay_pL, MLay_qI, MLay_qL, ev_X10_openRange_2, ev_X10_openRange_3, ev_X10_openRange_4, ev_X10_openRange_7, ev_X10_openRange_8, ev_X10_openRange_11, ev_X10_openRange_12, ev_X10_openRange_13, ev_X10_openRange_16, ev_X10_openRange_17, ev_X10_openRange_20, ev_X10_openRange_21, ev_X10_openRange_23, ev_X10_openRange_24, ev_X10_openRange_25, ev_X10_openRange_26, ev_X10_openRange_27, ev_X10_openRange_28, ev_X10_openRange_31, ev_X10_openRange_32, ev_X10_openRange_33, ev_X10_openRange_35, ev_X10_openRange_38, ev_X10_openRange_41, ev_X10_openRange_44, ev_X10_openRange_45, ev_X10_openRange_48, ev_X10_openRange_49, ev_X10_openRange_52, ev_X10_openRange_53, ev_X10_openRange_54, ev_X10_openRange_55, ev_X10_openRange_56, ev_X10_openRange_57, ev_X10_openRange_58, ev_X10_openRange_59, ev_X10_openRange_62, ev_X10_openRange_63, ev_X10_openRange_64, ev_X10_openRange_65, ev_X10_openRange_68, xt_X10_openRange, xf_X10_openRange, hk2, C.eqs]
          try simp (disch := omega) only [wI_id, dv_nn, rm_nn]
          repeat' (first | intro z | apply And.intro)
          all_goals try omega
          all_goals try contradiction
          all_goals exact w
        · rw [if_neg c2] at w
          have e : (n - 64 * (i : Int)) % 64 = n - 64 * (i : Int) := by omega
          refine go_X10_openRange (ct := fun p => p == 38 || p == 48 || p == 2 || p == 71) 60 ?_
          simp only [oI, oL, oR, o1, lI, lL, lR, popN, catS, gv, stL, stL2, swt, cnd, spObj, List.getElem?_cons_zero, List.getElem?_cons_succ, List.getD_cons_zero, List.getD_cons_succ, List.set_cons_zero, List.set_cons_succ, List.nil_append, List.cons_append, Option.toList, Bool.or_false, Bool.false_or, Bool.or_true, Bool.true_or, Nat.reduceBEq, Nat.reduceAdd, Nat.reduceLT, Nat.reduceLeDiff, Int.reduceAdd, Int.reduceToNat, true_and, and_true, Fin.isValue, Fin.val_zero, Fin.val_one, Fin.val_two, Fin.reduceFinMk, eq_self, Int.reduceNeg, imp_self, Nat.reduceMul, Nat.le_refl, not_true_eq_false, not_false_eq_true, List.getElem?_nil, reduceCtorEq, true_or, or_true, Classical.not_not, implies_true, or_self, wI_0, wI_1, wI_m1, b2i_w, b2i_eq0, b2i_eq1, b2i_bool, nor_self, nx_pI, kd_pI, ln_pI, fI_pI, fL_pI, fR_pI, aI_pI, aL_pI, aR_pI, nx_pL, kd_pL, ln_pL, fI_pL, fL_pL, fR_pL, aI_pL, aL_pL, aR_pL, nx_pR, kd_pR, ln_pR, fI_pR, fL_pR, fR_pR, aI_pR, aL_pR, aR_pR, nx_qI, kd_qI, ln_qI, fI_qI, fL_qI, fR_qI, aI_qI, aL_qI, aR_qI, nx_qL, kd_qL, ln_qL, fI_qL, fL_qL, fR_qL, aI_qL, aL_qL, aR_qL, nx_qR, kd_qR, ln_qR, fI_qR, fL_qR, fR_qR, aI_qR, aL_qR, aR_qR, nx_mk, kd_mk, ln_mk, fI_mk, fL_mk, fR_mk, aI_mk, aL_mk, aR_mk, false_and, and_false, if_false, if_true, and_self, Int.reduceEq, Nat.reduceEqDiff, ite_self, MLay_pI, MLay_pL, MLay_qI, MLay_qL, ev_X10_openRange_2, ev_X10_openRange_3, ev_X10_openRange_4, ev_X10_openRange_7, ev_X10_openRange_8, ev_X10_openRange_11, ev_X10_openRange_12, ev_X10_openRange_13, ev_X10_openRange_16, ev_X10_openRange_17, ev_X10_openRange_20, ev_X10_openRange_21, ev_X10_openRange_23, ev_X10_openRange_24, ev_X10_openRange_25, ev_X10_openRange_26, ev_X10_openRange_27, ev_X10_openRange_28, ev_X10_openRange_31, ev_X10_openRange_32, ev_X10_openRange_33, ev_X10_openRange_35, ev_X10_openRange_38, ev_X10_openRange_41, ev_X10_openRange_44, ev_X10_openRange_45, ev_X10_openRange_48, ev_X10_openRange_49, ev_X10_openRange_52, ev_X10_openRange_53, ev_X10_openRange_54, ev_X10_openRange_55, ev_X10_openRange_56, ev_X10_openRange_57, ev_X10_openRange_58, ev_X10_openRange_59, ev_X10_openRange_62, ev_X10_openRange_63, ev_X10_openRange_64, ev_X10_openRange_65, ev_X10_openRange_68, xt_X10_openRange, xf_X10_openRange, hk2, C.eqs]
          try simp (disch := omega) only [wI_id, dv_nn, rm_nn]
          simp only [e]
          repeat' (first | intro z | apply And.intro)
          all_goals try omega
          all_goals try contradiction
          all_goals exact w
  have w := loop 5 0 none rfl
  refine go_X10_openRange (ct := fun p => p == 2) 20 ?_
  simp only [oI, oL, oR, o1, lI, lL, lR, popN, catS, gv, stL, stL2, swt, cnd, spObj, List.getElem?_cons_zero, List.getElem?_cons_succ, List.getD_cons_zero, List.getD_cons_succ, List.set_cons_zero, List.set_cons_succ, List.nil_append, List.cons_append, Option.toList, Bool.or_false, Bool.false_or, Bool.or_true, Bool.true_or, Nat.reduceBEq, Nat.reduceAdd, Nat.reduceLT, Nat.reduceLeDiff, Int.reduceAdd, Int.reduceToNat, true_and, and_true, Fin.isValue, Fin.val_zero, Fin.val_one, Fin.val_two, Fin.reduceFinMk, eq_self, Int.reduceNeg, imp_self, Nat.reduceMul, Nat.le_refl, not_true_eq_false, not_false_eq_true, List.getElem?_nil, reduceCtorEq, true_or, or_true, Classical.not_not, implies_true, or_self, wI_0, wI_1, wI_m1, b2i_w, b2i_eq0, b2i_eq1, b2i_bool, nor_self, nx_pI, kd_pI, ln_pI, fI_pI, fL_pI, fR_pI, aI_pI, aL_pI, aR_pI, nx_pL, kd_pL, ln_pL, fI_pL, fL_pL, fR_pL, aI_pL, aL_pL, aR_pL, nx_pR, kd_pR, ln_pR, fI_pR, fL_pR, fR_pR, aI_pR, aL_pR, aR_pR, nx_qI, kd_qI, ln_qI, fI_qI, fL_qI, fR_qI, aI_qI, aL_qI, aR_qI, nx_qL, kd_qL, ln_qL, fI_qL, fL_qL, fR_qL, aI_qL, aL_qL, aR_qL, nx_qR, kd_qR, ln_qR, fI_qR, fL_qR, fR_qR, aI_qR, aL_qR, aR_qR, nx_mk, kd_mk, ln_mk, fI_mk, fL_mk, fR_mk, aI_mk, aL_mk, aR_mk, false_and, and_false, if_false, if_true, and_self, Int.reduceEq, Nat.reduceEqDiff, ite_self, MLay_pI, MLay_pL, MLay_qI, MLay_qL, ev_X10_openRange_0, ev_X10_openRange_1, xt_X10_openRange, xf_X10_openRange]
  exact w

theorem shl1_bits : ∀ k : Fin 64, ∀ j : Fin 64, (1#64 <<< k.val - 1#64).getLsbD j.val = decide (j.val < k.val) := by decide +kernel
theorem cRg_at (σ : Hp) (n : Int) : ∀ (i : Nat) (w : Int), 0 ≤ w → w < i → aL (cRg σ n i) 5 w = 0#64 ∧ aL (cRg σ n i) 6 w = (if 64 ≤ n - 64 * w then BitVec.ofInt 64 (-1) else if n - 64 * w ≤ 0 then 0#64 else 1#64 <<< (n - 64 * w).toNat - 1#64)
  | 0, w, a, b => by omega
  | i + 1, w, a, b => by
    unfold cRg
    by_cases e : w = i
    · subst e
      refine ⟨by rw [aL_qL, if_pos ⟨rfl, rfl⟩], by rw [aL_qL, if_neg (by omega), aL_qL, if_pos ⟨rfl, rfl⟩]⟩
    · have ih := cRg_at σ n i w a (by omega)
      refine ⟨by rw [aL_qL, if_neg (by omega), aL_qL, if_neg (by omega)]; exact ih.1, by rw [aL_qL, if_neg (by omega), aL_qL, if_neg (by omega)]; exact ih.2⟩
theorem cRg_in {σ : Hp} {n : Int} (hn : 1 ≤ n ∧ n ≤ 300) : B64 (aL (cRg σ n 5) 5) (fun _ => False) ∧ B64 (aL (cRg σ n 5) 6) (fun u => u < n) := by
  refine ⟨fun w a b j hj => ?_, fun w a b j hj => ?_⟩
  · rw [(cRg_at σ n 5 w a (by omega)).1, BitVec.getLsbD_zero]
    exact ⟨fun q => (by cases q), fun q => q.elim⟩
  · rw [(cRg_at σ n 5 w a (by omega)).2]
    by_cases c1 : 64 ≤ n - 64 * w
    · rw [if_pos c1, show BitVec.ofInt 64 (-1) = BitVec.allOnes 64 by decide, BitVec.getLsbD_allOnes]
      simp only [hj, decide_true]
      exact ⟨fun _ => by omega, fun _ => trivial⟩
    · rw [if_neg c1]
      by_cases c2 : n - 64 * w ≤ 0
      · rw [if_pos c2, BitVec.getLsbD_zero]
        exact ⟨fun q => (by cases q), fun q => by omega⟩
      · rw [if_neg c2]
        have := shl1_bits ⟨(n - 64 * w).toNat, by omega⟩ ⟨j, hj⟩
        dsimp only at this
        rw [this, decide_eq_true_eq]
        omega
/-- words are copied into a row -/
def cCw (σ : Hp) (r d : Int) : Nat → Hp
  | 0 => σ
  | i + 1 => qL (cCw σ r d i) (8 + d) i (aL (cCw σ r d i) r i)
theorem cCw_s (σ : Hp) (r d : Int) : ∀ i : Nat, Fz [] noR (fun q => q = 8 + d) σ (cCw σ r d i)
  | 0 => Fz.rf σ
  | i + 1 => by
    unfold cCw
    exact (cCw_s σ r d i).tr (Fz_qL _ _ _ rfl)
theorem cCw_at (σ : Hp) {r d : Int} (hr : ¬ r = 8 + d) : ∀ (i : Nat) (w : Int), 0 ≤ w → w < i → aL (cCw σ r d i) (8 + d) w = aL σ r w
  | 0, w, a, b => by omega
  | i + 1, w, a, b => by
    have z := cCw_s σ r d i
    unfold cCw
    by_cases e : w = i
    · subst e
      rw [aL_qL, if_pos ⟨rfl, rfl⟩, z.aL hr]
    · rw [aL_qL, if_neg (by omega)]
      exact cCw_at σ hr i w a (by omega)

def sp_X10_copyWords : Sp := fun av σ Q => oR av fun this av => oR av fun r av => oI av fun d av => av = [] ∧ kd σ this = 11 ∧ (this = 4 ∧ CLay σ ∧ (kd σ r = 102 ∧ ln σ r = 5) ∧ (0 ≤ d ∧ d < 4) ∧ Q none (cCw σ r d 5))
theorem us_X10_copyWords (this : Int) (r : Int) (d : Int) (σ : Hp) (Q : Option AV → Hp → Prop) : sp_X10_copyWords [vr this, vr r, vi d] σ Q = (kd σ this = 11 ∧ (this = 4 ∧ CLay σ ∧ (kd σ r = 102 ∧ ln σ r = 5) ∧ (0 ≤ d ∧ d < 4) ∧ Q none (cCw σ r d 5))) := propext ⟨fun h => h.2, fun h => ⟨rfl, h⟩⟩
theorem el_X10_copyWords {av : List AV} {σ : Hp} {Q : Option AV → Hp → Prop} (h : sp_X10_copyWords av σ Q) : ∃ (this : Int) (r : Int) (d : Int), av = [vr this, vr r, vi d] ∧ (kd σ this = 11 ∧ (this = 4 ∧ CLay σ ∧ (kd σ r = 102 ∧ ln σ r = 5) ∧ (0 ≤ d ∧ d < 4) ∧ Q none (cCw σ r d 5))) := by
  obtain ⟨this, a0, rfl, h0⟩ := oR_s h
  obtain ⟨r, a1, rfl, h1⟩ := oR_s h0
  obtain ⟨d, a2, rfl, h2⟩ := oI_s h1
  obtain ⟨rfl, hz⟩ := h2
  exact ⟨this, r, d, rfl, hz⟩
theorem rc_X10_copyWords : ∀ (av : List AV) (σ : Hp) (Q : Option AV → Hp → Prop), sp_X10_copyWords av σ Q → ∃ r tl, av = vr r :: tl ∧ kd σ r = 10 + 1 := fun av σ Q h => by
  obtain ⟨this, r, d, rfl, hz, -⟩ := el_X10_copyWords h
  exact ⟨this, _, rfl, hz⟩

def tb_X10_copyWords : Tab := [(0, .iconst 0, 1, (0, 0, 0, 0)), (1, .istore_n 3, 1, (0, 0, 0, 0)), (2, .iload_n 3, 1, (0, 0, 0, 0)), (3, .aload_n 1, 1, (0, 0, 0, 0)), (4, .arraylength, 1, (0, 0, 0, 0)), (5, .if_icmp .ge 38, 3, (0, 0, 0, 0)), (8, .iload_n 3, 1, (0, 0, 0, 0)), (9, .iconst 5, 1, (0, 0, 0, 0)), (10, .if_icmp .ge 33, 3, (0, 0, 0, 0)), (13, .iload_n 2, 1, (0, 0, 0, 0)), (14, .ifCond .lt 23, 3, (0, 0, 0, 0)), (17, .iload_n 2, 1, (0, 0, 0, 0)), (18, .aload_n 0, 1, (0, 0, 0, 0)), (19, .getfield 20, 3, (11, 1102, 2, 0)), (22, .arraylength, 1, (0, 0, 0, 0)), (23, .if_icmp .ge 14, 3, (0, 0, 0, 0)), (26, .aload_n 0, 1, (0, 0, 0, 0)), (27, .getfield 20, 3, (11, 1102, 2, 0)), (30, .iload_n 2, 1, (0, 0, 0, 0)), (31, .aaload, 1, (0, 0, 0, 0)), (32, .iload_n 3, 1, (0, 0, 0, 0)), (33, .aload_n 1, 1, (0, 0, 0, 0)), (34, .iload_n 3, 1, (0, 0, 0, 0)), (35, .laload, 1, (0, 0, 0, 0)), (36, .lastore, 1, (0, 0, 0, 0)), (37, .iinc 3 1, 3, (0, 0, 0, 0)), (40, .goto (-38), 3, (0, 0, 0, 0)), (43, .return_, 1, (0, 0, 0, 0))]
set_option maxRecDepth 100000 in
theorem tk_X10_copyWords : TOK RX10 false cX10_copyWords tb_X10_copyWords := chkT_ok ft_X10 (by decide +kernel)
def mt_X10_copyWords : List (Nat × Mt) := []
theorem mk_X10_copyWords : MOK RX10 mt_X10_copyWords := fun q hq => by cases hq
noncomputable def xe_X10_copyWords (ct : Nat → Bool) (K : Kt) (R : Option AV → Hp → Prop) (n : Nat) : Kt := exS 4 1 0 0 0 tb_X10_copyWords mt_X10_copyWords ct K R n
noncomputable def xk_X10_copyWords (ct : Nat → Bool) (K : Kt) (R : Option AV → Hp → Prop) (n : Nat) : Kt := exkS 4 1 0 0 0 tb_X10_copyWords mt_X10_copyWords ct K R n
theorem xt_X10_copyWords {ct : Nat → Bool} {K : Kt} {R : Option AV → Hp → Prop} {n pc : Nat} {ls : List (Option AV)} {st : List AV} {σ : Hp} {k : Nat × Nat} (h : ct pc = true) : xk_X10_copyWords ct K R n pc ls st σ k = K pc ls st σ k := by unfold xk_X10_copyWords exkS; rw [h]
theorem xf_X10_copyWords {ct : Nat → Bool} {K : Kt} {R : Option AV → Hp → Prop} {n pc : Nat} {ls : List (Option AV)} {st : List AV} {σ : Hp} {k : Nat × Nat} (h : ct pc = false) : xk_X10_copyWords ct K R n pc ls st σ k = xe_X10_copyWords ct K R n pc ls st σ k := by unfold xk_X10_copyWords exkS xe_X10_copyWords; rw [h]
theorem ev_X10_copyWords_0 {ct : Nat → Bool} {K : Kt} {R : Option AV → Hp → Prop} {n : Nat} {ls : List (Option AV)} {st : List AV} {σ : Hp} {k : Nat × Nat} : xe_X10_copyWords ct K R (n + 1) 0 ls st σ k = (xk_X10_copyWords ct K R n 1 ls (vi (0) :: st) σ k) := exS_step.trans rfl
theorem ev_X10_copyWords_1 {ct : Nat → Bool} {K : Kt} {R : Option AV → Hp → Prop} {n : Nat} {ls : List (Option AV)} {st : List AV} {σ : Hp} {k : Nat × Nat} : xe_X10_copyWords ct K R (n + 1) 1 ls st σ k = (oI st fun x st => 3 < 4 ∧ xk_X10_copyWords ct K R n 2 (stL ls 3 (vi x)) st σ k) := exS_step.trans rfl
theorem ev_X10_copyWords_2 {ct : Nat → Bool} {K : Kt} {R : Option AV → Hp → Prop} {n : Nat} {ls : List (Option AV)} {st : List AV} {σ : Hp} {k : Nat × Nat} : xe_X10_copyWords ct K R (n + 1) 2 ls st σ k = (lI ls 3 fun x => xk_X10_copyWords ct K R n 3 ls (vi x :: st) σ k) := exS_step.trans rfl
theorem ev_X10_copyWords_3 {ct : Nat → Bool} {K : Kt} {R : Option AV → Hp → Prop} {n : Nat} {ls : List (Option AV)} {st : List AV} {σ : Hp} {k : Nat × Nat} : xe_X10_copyWords ct K R (n + 1) 3 ls st σ k = (lR ls 1 fun x => xk_X10_copyWords ct K R n 4 ls (vr x :: st) σ k) := exS_step.trans rfl
theorem ev_X10_copyWords_4 {ct : Nat → Bool} {K : Kt} {R : Option AV → Hp → Prop} {n : Nat} {ls : List (Option AV)} {st : List AV} {σ : Hp} {k : Nat × Nat} : xe_X10_copyWords ct K R (n + 1) 4 ls st σ k = (oR st fun x st => (101 ≤ kd σ x ∨ kd σ x = 21) ∧ xk_X10_copyWords ct K R n 5 ls (vi (ln σ x) :: st) σ k) := exS_step.trans rfl
theorem ev_X10_copyWords_5 {ct : Nat → Bool} {K : Kt} {R : Option AV → Hp → Prop} {n : Nat} {ls : List (Option AV)} {st : List AV} {σ : Hp} {k : Nat × Nat} : xe_X10_copyWords ct K R (n + 1) 5 ls st σ k = (oI st fun y st => oI st fun x st => (wI y ≤ wI x → xk_X10_copyWords ct K R n 43 ls st σ k) ∧ (¬ (wI y ≤ wI x) → xk_X10_copyWords ct K R n 8 ls st σ k)) := exS_step.trans rfl
theorem ev_X10_copyWords_8 {ct : Nat → Bool} {K : Kt} {R : Option AV → Hp → Prop} {n : Nat} {ls : List (Option AV)} {st : List AV} {σ : Hp} {k : Nat × Nat} : xe_X10_copyWords ct K R (n + 1) 8 ls st σ k = (lI ls 3 fun x => xk_X10_copyWords ct K R n 9 ls (vi x :: st) σ k) := exS_step.trans rfl
theorem ev_X10_copyWords_9 {ct : Nat → Bool} {K : Kt} {R : Option AV → Hp → Prop} {n : Nat} {ls : List (Option AV)} {st : List AV} {σ : Hp} {k : Nat × Nat} : xe_X10_copyWords ct K R (n + 1) 9 ls st σ k = (xk_X10_copyWords ct K R n 10 ls (vi (5) :: st) σ k) := exS_step.trans rfl
theorem ev_X10_copyWords_10 {ct : Nat → Bool} {K : Kt} {R : Option AV → Hp → Prop} {n : Nat} {ls : List (Option AV)} {st : List AV} {σ : Hp} {k : Nat × Nat} : xe_X10_copyWords ct K R (n + 1) 10 ls st σ k = (oI st fun y st => oI st fun x st => (wI y ≤ wI x → xk_X10_copyWords ct K R n 43 ls st σ k) ∧ (¬ (wI y ≤ wI x) → xk_X10_copyWords ct K R n 13 ls st σ k)) := exS_step.trans rfl
theorem ev_X10_copyWords_13 {ct : Nat → Bool} {K : Kt} {R : Option AV → Hp → Prop} {n : Nat} {ls : List (Option AV)} {st : List AV} {σ : Hp} {k : Nat × Nat} : xe_X10_copyWords ct K R (n + 1) 13 ls st σ k = (lI ls 2 fun x => xk_X10_copyWords ct K R n 14 ls (vi x :: st) σ k) := exS_step.trans rfl
theorem ev_X10_copyWords_14 {ct : Nat → Bool} {K : Kt} {R : Option AV → Hp → Prop} {n : Nat} {ls : List (Option AV)} {st : List AV} {σ : Hp} {k : Nat × Nat} : xe_X10_copyWords ct K R (n + 1) 14 ls st σ k = (oI st fun x st => (wI x < wI 0 → xk_X10_copyWords ct K R n 37 ls st σ k) ∧ (¬ (wI x < wI 0) → xk_X10_copyWords ct K R n 17 ls st σ k)) := exS_step.trans rfl
theorem ev_X10_copyWords_17 {ct : Nat → Bool} {K : Kt} {R : Option AV → Hp → Prop} {n : Nat} {ls : List (Option AV)} {st : List AV} {σ : Hp} {k : Nat × Nat} : xe_X10_copyWords ct K R (n + 1) 17 ls st σ k = (lI ls 2 fun x => xk_X10_copyWords ct K R n 18 ls (vi x :: st) σ k) := exS_step.trans rfl
theorem ev_X10_copyWords_18 {ct : Nat → Bool} {K : Kt} {R : Option AV → Hp → Prop} {n : Nat} {ls : List (Option AV)} {st : List AV} {σ : Hp} {k : Nat × Nat} : xe_X10_copyWords ct K R (n + 1) 18 ls st σ k = (lR ls 0 fun x => xk_X10_copyWords ct K R n 19 ls (vr x :: st) σ k) := exS_step.trans rfl
theorem ev_X10_copyWords_19 {ct : Nat → Bool} {K : Kt} {R : Option AV → Hp → Prop} {n : Nat} {ls : List (Option AV)} {st : List AV} {σ : Hp} {k : Nat × Nat} : xe_X10_copyWords ct K R (n + 1) 19 ls st σ k = (oR st fun x st => kd σ x = 11 ∧ xk_X10_copyWords ct K R n 22 ls (vr (fR σ 1102 x) :: st) σ k) := exS_step.trans rfl
theorem ev_X10_copyWords_22 {ct : Nat → Bool} {K : Kt} {R : Option AV → Hp → Prop} {n : Nat} {ls : List (Option AV)} {st : List AV} {σ : Hp} {k : Nat × Nat} : xe_X10_copyWords ct K R (n + 1) 22 ls st σ k = (oR st fun x st => (101 ≤ kd σ x ∨ kd σ x = 21) ∧ xk_X10_copyWords ct K R n 23 ls (vi (ln σ x) :: st) σ k) := exS_step.trans rfl
theorem ev_X10_copyWords_23 {ct : Nat → Bool} {K : Kt} {R : Option AV → Hp → Prop} {n : Nat} {ls : List (Option AV)} {st : List AV} {σ : Hp} {k : Nat × Nat} : xe_X10_copyWords ct K R (n + 1) 23 ls st σ k = (oI st fun y st => oI st fun x st => (wI y ≤ wI x → xk_X10_copyWords ct K R n 37 ls st σ k) ∧ (¬ (wI y ≤ wI x) → xk_X10_copyWords ct K R n 26 ls st σ k)) := exS_step.trans rfl
theorem ev_X10_copyWords_26 {ct : Nat → Bool} {K : Kt} {R : Option AV → Hp → Prop} {n : Nat} {ls : List (Option AV)} {st : List AV} {σ : Hp} {k : Nat × Nat} : xe_X10_copyWords ct K R (n + 1) 26 ls st σ k = (lR ls 0 fun x => xk_X10_copyWords ct K R n 27 ls (vr x :: st) σ k) := exS_step.trans rfl
theorem ev_X10_copyWords_27 {ct : Nat → Bool} {K : Kt} {R : Option AV → Hp → Prop} {n : Nat} {ls : List (Option AV)} {st : List AV} {σ : Hp} {k : Nat × Nat} : xe_X10_copyWords ct K R (n + 1) 27 ls st σ k = (oR st fun x st => kd σ x = 11 ∧ xk_X10_copyWords ct K R n 30 ls (vr (fR σ 1102 x) :: st) σ k) := exS_step.trans rfl
theorem ev_X10_copyWords_30 {ct : Nat → Bool} {K : Kt} {R : Option AV → Hp → Prop} {n : Nat} {ls : List (Option AV)} {st : List AV} {σ : Hp} {k : Nat × Nat} : xe_X10_copyWords ct K R (n + 1) 30 ls st σ k = (lI ls 2 fun x => xk_X10_copyWords ct K R n 31 ls (vi x :: st) σ k) := exS_step.trans rfl
theorem ev_X10_copyWords_31 {ct : Nat → Bool} {K : Kt} {R : Option AV → Hp → Prop} {n : Nat} {ls : List (Option AV)} {st : List AV} {σ : Hp} {k : Nat × Nat} : xe_X10_copyWords ct K R (n + 1) 31 ls st σ k = (oI st fun j st => oR st fun x st => (kd σ x = 105 ∨ kd σ x = 106 ∨ kd σ x = 107) ∧ (0 ≤ j ∧ j < ln σ x) ∧ xk_X10_copyWords ct K R n 32 ls (vr (aR σ x j) :: st) σ k) := exS_step.trans rfl
theorem ev_X10_copyWords_32 {ct : Nat → Bool} {K : Kt} {R : Option AV → Hp → Prop} {n : Nat} {ls : List (Option AV)} {st : List AV} {σ : Hp} {k : Nat × Nat} : xe_X10_copyWords ct K R (n + 1) 32 ls st σ k = (lI ls 3 fun x => xk_X10_copyWords ct K R n 33 ls (vi x :: st) σ k) := exS_step.trans rfl
theorem ev_X10_copyWords_33 {ct : Nat → Bool} {K : Kt} {R : Option AV → Hp → Prop} {n : Nat} {ls : List (Option AV)} {st : List AV} {σ : Hp} {k : Nat × Nat} : xe_X10_copyWords ct K R (n + 1) 33 ls st σ k = (lR ls 1 fun x => xk_X10_copyWords ct K R n 34 ls (vr x :: st) σ k) := exS_step.trans rfl
theorem ev_X10_copyWords_34 {ct : Nat → Bool} {K : Kt} {R : Option AV → Hp → Prop} {n : Nat} {ls : List (Option AV)} {st : List AV} {σ : Hp} {k : Nat × Nat} : xe_X10_copyWords ct K R (n + 1) 34 ls st σ k = (lI ls 3 fun x => xk_X10_copyWords ct K R n 35 ls (vi x :: st) σ k) := exS_step.trans rfl
theorem ev_X10_copyWords_35 {ct : Nat → Bool} {K : Kt} {R : Option AV → Hp → Prop} {n : Nat} {ls : List (Option AV)} {st : List AV} {σ : Hp} {k : Nat × Nat} : xe_X10_copyWords ct K R (n + 1) 35 ls st σ k = (oI st fun j st => oR st fun x st => kd σ x = 102 ∧ (0 ≤ j ∧ j < ln σ x) ∧ xk_X10_copyWords ct K R n 36 ls (vl (aL σ x j) :: st) σ k) := exS_step.trans rfl
theorem ev_X10_copyWords_36 {ct : Nat → Bool} {K : Kt} {R : Option AV → Hp → Prop} {n : Nat} {ls : List (Option AV)} {st : List AV} {σ : Hp} {k : Nat × Nat} : xe_X10_copyWords ct K R (n + 1) 36 ls st σ k = (oL st fun v st => oI st fun j st => oR st fun x st => kd σ x = 102 ∧ (0 ≤ j ∧ j < ln σ x) ∧ xk_X10_copyWords ct K R n 37 ls st (qL σ x j v) k) := exS_step.trans rfl
theorem ev_X10_copyWords_37 {ct : Nat → Bool} {K : Kt} {R : Option AV → Hp → Prop} {n : Nat} {ls : List (Option AV)} {st : List AV} {σ : Hp} {k : Nat × Nat} : xe_X10_copyWords ct K R (n + 1) 37 ls st σ k = (lI ls 3 fun x => 3 < 4 ∧ xk_X10_copyWords ct K R n 40 (stL ls 3 (vi (x + (1)))) st σ k) := exS_step.trans rfl
theorem ev_X10_copyWords_40 {ct : Nat → Bool} {K : Kt} {R : Option AV → Hp → Prop} {n : Nat} {ls : List (Option AV)} {st : List AV} {σ : Hp} {k : Nat × Nat} : xe_X10_copyWords ct K R (n + 1) 40 ls st σ k = (xk_X10_copyWords ct K R n 2 ls st σ k) := exS_step.trans rfl
theorem ev_X10_copyWords_43 {ct : Nat → Bool} {K : Kt} {R : Option AV → Hp → Prop} {n : Nat} {ls : List (Option AV)} {st : List AV} {σ : Hp} {k : Nat × Nat} : xe_X10_copyWords ct K R (n + 1) 43 ls st σ k = (st = [] ∧ 0 = 0 ∧ R none σ) := exS_step.trans rfl
def M_X10_copyWords : Md := (yX10_copyWords, cX10_copyWords, 4, (none : Option FieldType), 1, 0, 0, 0, false, tb_X10_copyWords, mt_X10_copyWords)
theorem mm_X10_copyWords : MMOK M_X10_copyWords := ⟨by decide +kernel, tk_X10_copyWords, mk_X10_copyWords, rfl, fun h => by cases h⟩
theorem go_X10_copyWords {Q : Option AV → Hp → Prop} {ct : Nat → Bool} {pc : Nat} {ls : List (Option AV)} {st : List AV} {σ : Hp} {k : Nat × Nat} (n : Nat) (h : xe_X10_copyWords ct (Go M_X10_copyWords Q) Q n pc ls st σ k) : Go M_X10_copyWords Q pc ls st σ k := Go.exS mm_X10_copyWords h

set_option maxRecDepth 20000 in
theorem c_X10_copyWords : Ct yX10_copyWords cX10_copyWords 4 ((none : Option FieldType)) 1 0 0 sp_X10_copyWords := by
  refine Ct.go (M := M_X10_copyWords) mm_X10_copyWords fun av σ Q h0 => ?_
  obtain ⟨this, r, d, rfl, hk, h⟩ := el_X10_copyWords h0
  clear h0
  refine ⟨Nat.le_of_ble_eq_true rfl, ?_⟩
  show Go M_X10_copyWords Q 0 [some (vr this), some (vr r), some (vi d), none] [] σ (0, 0)
  obtain ⟨rfl, hC, hr, hd, h⟩ := h
  have loop : ∀ (m i : Nat), i + m = 5 → Go M_X10_copyWords Q 2 [some (vr 4), some (vr r), some (vi d), some (vi i)] [] (cCw σ r d i) (0, 0) := by
    intro m
    induction m with
    | zero =>
      intro i hi
      have z := cCw_s σ r d i
      have hr1 : kd (cCw σ r d i) r = 102 := by rw [z.kd]; exact hr.1
      have hr2 : ln (cCw σ r d i) r = 5 := by rw [z.ln]; exact hr.2
      have e : i = 5 := by omega
      subst e
      generalize cCw σ r d 5 = ρ at *
      refine go_X10_copyWords (ct := fun p => p == 8) 20 ?_
      simp only [oI, oL, oR, o1, lI, lL, lR, popN, catS, gv, stL, stL2, swt, cnd, spObj, List.getElem?_cons_zero, List.getElem?_cons_succ, List.getD_cons_zero, List.getD_cons_succ, List.set_cons_zero, List.set_cons_succ, List.nil_append, List.cons_append, Option.toList, Bool.or_false, Bool.false_or, Bool.or_true, Bool.true_or, Nat.reduceBEq, Nat.reduceAdd, Nat.reduceLT, Nat.reduceLeDiff, Int.reduceAdd, Int.reduceToNat, true_and, and_true, Fin.isValue, Fin.val_zero, Fin.val_one, Fin.val_two, Fin.reduceFinMk, eq_self, Int.reduceNeg, imp_self, Nat.reduceMul, Nat.le_refl, not_true_eq_false, not_false_eq_true, List.getElem?_nil, reduceCtorEq, true_or, or_true, Classical.not_not, implies_true, or_self, wI_0, wI_1, wI_m1, b2i_w, b2i_eq0, b2i_eq1, b2i_bool, nor_self, nx_pI, kd_pI, ln_pI, fI_pI, fL_pI, fR_pI, aI_pI, aL_pI, aR_pI, nx_pL, kd_pL, ln_pL, fI_pL, fL_pL, fR_pL, aI_pL, aL_pL, aR_pL, nx_pR, kd_pR, ln_pR, fI_pR, fL_pR, fR_pR, aI_pR, aL_pR, aR_pR, nx_qI, kd_qI, ln_qI, fI_qI, fL_qI, fR_qI, aI_qI, aL_qI, aR_qI, nx_qL, kd_qL, ln_qL, fI_qL, fL_qL, fR_qL, aI_qL, aL_qL, aR_qL, nx_qR, kd_qR, ln_qR, fI_qR, fL_qR, fR_qR, aI_qR, aL_qR, aR_qR, nx_mk, kd_mk, ln_mk, fI_mk, fL_mk, fR_mk, aI_mk, aL_mk, aR_mk, false_and, and_false, if_false, if_true, and_self, Int.reduceEq, Nat.reduceEqDiff, ite_self, MLay_pI, MLay_pL, MLay_qI, MLay_qL, ev_X10_copyWords_2, ev_X10_copyWords_3, ev_X10_copyWords_4, ev_X10_copyWords_5, ev_X10_copyWords_43, xt_X10_copyWords, xf_X10_copyWords, hr1, hr2]
      try simp (disch := omega) only [wI_id, dv_nn, rm_nn]
      repeat' (first | intro z | apply And.intro)
      all_goals try omega
      all_goals try contradiction
      all_goals exact h
    | succ m ih =>
      intro i hi
      have z := cCw_s σ r d i
      have C := hC.fz z (by decide)
      have hr1 : kd (cCw σ r d i) r = 102 := by rw [z.kd]; exact hr.1
      have hr2 : ln (cCw σ r d i) r = 5 := by rw [z.ln]; exact hr.2
      have w := ih (i + 1) (by omega)
      rw [Int.natCast_add] at w
      unfold cCw at w
      have g := row_at C hd
      generalize cCw σ r d i = ρ at *
      have hk2 : kd ρ 4 = 11 := by simp only [C.eqs]
      have g1 := g.1
      have g2 := g.2.1
      have g3 := g.2.2
      clear ih h z
      refine go_X10_copyWords (ct := fun p => p == 43 || p == 2) 60 ?_
      simp only [oI, oL, oR, o1, lI, lL, lR, popN, catS, gv, stL, stL2, swt, cnd, spObj, List.getElem?_cons_zero, List.getElem?_cons_succ, List.getD_cons_zero, List.getD_cons_succ, List.set_cons_zero, List.set_cons_succ, List.nil_append, List.cons_append, Option.toList, Bool.or_false, Bool.false_or, Bool.or_true, Bool.true_or, Nat.reduceBEq, Nat.reduceAdd, Nat.reduceLT, Nat.reduceLeDiff, Int.reduceAdd, Int.reduceToNat, true_and, and_true, Fin.isValue, Fin.val_zero, Fin.val_one, Fin.val_two, Fin.reduceFinMk, eq_self, Int.reduceNeg, imp_self, Nat.reduceMul, Nat.le_refl, not_true_eq_false, not_false_eq_true, List.getElem?_nil, reduceCtorEq, true_or, or_true, Classical.not_not, implies_true, or_self, wI_0, wI_1, wI_m1, b2i_w, b2i_eq0, b2i_eq1, b2i_bool, nor_self, nx_pI, kd_pI, ln_pI, fI_pI, fL_pI, fR_pI, aI_pI, aL_pI, aR_pI, nx_pL, kd_pL, ln_pL, fI_pL, fL_pL, fR_pL, aI_pL, aL_pL, aR_pL, nx_pR, kd_pR, ln_pR, fI_pR, fL_pR, fR_pR, aI_pR, aL_pR, aR_pR, nx_qI, kd_qI, ln_qI, fI_qI, fL_qI, fR_qI, aI_qI, aL_qI, aR_qI, nx_qL, kd_qL, ln_qL, fI_qL, fL_qL, fR_qL, aI_qL, aL_qL, aR_qL, nx_qR, kd_qR, ln_qR, fI_qR, fL_qR, fR_qR, aI_qR, aL_qR, aR_qR, nx_mk, kd_mk, ln_mk, fI_mk, fL_mk, fR_mk, aI_mk, aL_mk, aR_mk, false_and, and_false, if_false, if_true, and_self, Int.reduceEq, Nat.reduceEqDiff, ite_self, MLay_pI, MLay_pL, MLay_qI, MLay_qL, ev_X10_copyWords_2, ev_X10_copyWords_3, ev_X10_copyWords_4, ev_X10_copyWords_5, ev_X10_copyWords_8, ev_X10_copyWords_9, ev_X10_copyWords_10, ev_X10_copyWords_13, ev_X10_copyWords_14, ev_X10_copyWords_17, ev_X10_copyWords_18, ev_X10_copyWords_19, ev_X10_copyWords_22, ev_X10_copyWords_23, ev_X10_copyWords_26, ev_X10_copyWords_27, ev_X10_copyWords_30, ev_X10_copyWords_31, ev_X10_copyWords_32, ev_X10_copyWords_33, ev_X10_copyWords_34, ev_X10_copyWords_35, ev_X10_copyWords_36, ev_X10_copyWords_37, ev_X10_copyWords_40, xt_X10_copyWords, xf_X10_copyWords, hk2, C.eqs, hr1, hr2, g1, g2, g3]
      try simp (disch := omega) only [wI_id, dv_nn, rm_nn]
      repeat' (first | intro z | apply And.intro)
      all_goals try omega
      all_goals try contradiction
      all_goals exact w
  have w := loop 5 0 rfl
  refine go_X10_copyWords (ct := fun p => p == 2) 20 ?_
  simp only [oI, oL, oR, o1, lI, lL, lR, popN, catS, gv, stL, stL2, swt, cnd, spObj, List.getElem?_cons_zero, List.getElem?_cons_succ, List.getD_cons_zero, List.getD_cons_succ, List.set_cons_zero, List.set_cons_succ, List.nil_append, List.cons_append, Option.toList, Bool.or_false, Bool.false_or, Bool.or_true, Bool.true_or, Nat.reduceBEq, Nat.reduceAdd, Nat.reduceLT, Nat.reduceLeDiff, Int.reduceAdd, Int.reduceToNat, true_and, and_true, Fin.isValue, Fin.val_zero, Fin.val_one, Fin.val_two, Fin.reduceFinMk, eq_self, Int.reduceNeg, imp_self, Nat.reduceMul, Nat.le_refl, not_true_eq_false, not_false_eq_true, List.getElem?_nil, reduceCtorEq, true_or, or_true, Classical.not_not, implies_true, or_self, wI_0, wI_1, wI_m1, b2i_w, b2i_eq0, b2i_eq1, b2i_bool, nor_self, nx_pI, kd_pI, ln_pI, fI_pI, fL_pI, fR_pI, aI_pI, aL_pI, aR_pI, nx_pL, kd_pL, ln_pL, fI_pL, fL_pL, fR_pL, aI_pL, aL_pL, aR_pL, nx_pR, kd_pR, ln_pR, fI_pR, fL_pR, fR_pR, aI_pR, aL_pR, aR_pR, nx_qI, kd_qI, ln_qI, fI_qI, fL_qI, fR_qI, aI_qI, aL_qI, aR_qI, nx_qL, kd_qL, ln_qL, fI_qL, fL_qL, fR_qL, aI_qL, aL_qL, aR_qL, nx_qR, kd_qR, ln_qR, fI_qR, fL_qR, fR_qR, aI_qR, aL_qR, aR_qR, nx_mk, kd_mk, ln_mk, fI_mk, fL_mk, fR_mk, aI_mk, aL_mk, aR_mk, false_and, and_false, if_false, if_true, and_self, Int.reduceEq, Nat.reduceEqDiff, ite_self, MLay_pI, MLay_pL, MLay_qI, MLay_qL, ev_X10_copyWords_0, ev_X10_copyWords_1, xt_X10_copyWords, xf_X10_copyWords]
  exact w

def sp_X10_isPicked : Sp := fun av σ Q => oR av fun this av => oI av fun x av => oI av fun d av => av = [] ∧ kd σ this = 11 ∧ (this = 4 ∧ CLay σ ∧ (0 ≤ d ∧ d ≤ 3) ∧ (0 ≤ x ∧ x < 12) ∧ (∀ i, 0 ≤ i → i < d → 0 ≤ aI σ 12 i ∧ aI σ 12 i < 12) ∧ Q (some (vi (b2i (∃ i, 0 ≤ i ∧ i < d ∧ aI σ 12 i = x)))) σ)
theorem us_X10_isPicked (this : Int) (x : Int) (d : Int) (σ : Hp) (Q : Option AV → Hp → Prop) : sp_X10_isPicked [vr this, vi x, vi d] σ Q = (kd σ this = 11 ∧ (this = 4 ∧ CLay σ ∧ (0 ≤ d ∧ d ≤ 3) ∧ (0 ≤ x ∧ x < 12) ∧ (∀ i, 0 ≤ i → i < d → 0 ≤ aI σ 12 i ∧ aI σ 12 i < 12) ∧ Q (some (vi (b2i (∃ i, 0 ≤ i ∧ i < d ∧ aI σ 12 i = x)))) σ)) := propext ⟨fun h => h.2, fun h => ⟨rfl, h⟩⟩
theorem el_X10_isPicked {av : List AV} {σ : Hp} {Q : Option AV → Hp → Prop} (h : sp_X10_isPicked av σ Q) : ∃ (this : Int) (x : Int) (d : Int), av = [vr this, vi x, vi d] ∧ (kd σ this = 11 ∧ (this = 4 ∧ CLay σ ∧ (0 ≤ d ∧ d ≤ 3) ∧ (0 ≤ x ∧ x < 12) ∧ (∀ i, 0 ≤ i → i < d → 0 ≤ aI σ 12 i ∧ aI σ 12 i < 12) ∧ Q (some (vi (b2i (∃ i, 0 ≤ i ∧ i < d ∧ aI σ 12 i = x)))) σ)) := by
  obtain ⟨this, a0, rfl, h0⟩ := oR_s h
  obtain ⟨x, a1, rfl, h1⟩ := oI_s h0
  obtain ⟨d, a2, rfl, h2⟩ := oI_s h1
  obtain ⟨rfl, hz⟩ := h2
  exact ⟨this, x, d, rfl, hz⟩
theorem rc_X10_isPicked : ∀ (av : List AV) (σ : Hp) (Q : Option AV → Hp → Prop), sp_X10_isPicked av σ Q → ∃ r tl, av = vr r :: tl ∧ kd σ r = 10 + 1 := fun av σ Q h => by
  obtain ⟨this, x, d, rfl, hz, -⟩ := el_X10_isPicked h
  exact ⟨this, _, rfl, hz⟩

def tb_X10_isPicked : Tab := [(0, .iconst 0, 1, (0, 0, 0, 0)), (1, .istore_n 3, 1, (0, 0, 0, 0)), (2, .iload_n 3, 1, (0, 0, 0, 0)), (3, .iload_n 2, 1, (0, 0, 0, 0)), (4, .if_icmp .ge 30, 3, (0, 0, 0, 0)), (7, .iload_n 3, 1, (0, 0, 0, 0)), (8, .aload_n 0, 1, (0, 0, 0, 0)), (9, .getfield 23, 3, (11, 1103, 2, 0)), (12, .arraylength, 1, (0, 0, 0, 0)), (13, .if_icmp .ge 21, 3, (0, 0, 0, 0)), (16, .aload_n 0, 1, (0, 0, 0, 0)), (17, .getfield 23, 3, (11, 1103, 2, 0)), (20, .iload_n 3, 1, (0, 0, 0, 0)), (21, .iaload, 1, (0, 0, 0, 0)), (22, .iload_n 1, 1, (0, 0, 0, 0)), (23, .if_icmp .ne 5, 3, (0, 0, 0, 0)), (26, .iconst 1, 1, (0, 0, 0, 0)), (27, .ireturn, 1, (0, 0, 0, 0)), (28, .iinc 3 1, 3, (0, 0, 0, 0)), (31, .goto (-29), 3, (0, 0, 0, 0)), (34, .iconst 0, 1, (0, 0, 0, 0)), (35, .ireturn, 1, (0, 0, 0, 0))]
set_option maxRecDepth 100000 in
theorem tk_X10_isPicked : TOK RX10 false cX10_isPicked tb_X10_isPicked := chkT_ok ft_X10 (by decide +kernel)
def mt_X10_isPicked : List (Nat × Mt) := []
theorem mk_X10_isPicked : MOK RX10 mt_X10_isPicked := fun q hq => by cases hq
noncomputable def xe_X10_isPicked (ct : Nat → Bool) (K : Kt) (R : Option AV → Hp → Prop) (n : Nat) : Kt := exS 4 1 0 0 2 tb_X10_isPicked mt_X10_isPicked ct K R n
noncomputable def xk_X10_isPicked (ct : Nat → Bool) (K : Kt) (R : Option AV → Hp → Prop) (n : Nat) : Kt := exkS 4 1 0 0 2 tb_X10_isPicked mt_X10_isPicked ct K R n
theorem xt_X10_isPicked {ct : Nat → Bool} {K : Kt} {R : Option AV → Hp → Prop} {n pc : Nat} {ls : List (Option AV)} {st : List AV} {σ : Hp} {k : Nat × Nat} (h : ct pc = true) : xk_X10_isPicked ct K R n pc ls st σ k = K pc ls st σ k := by unfold xk_X10_isPicked exkS; rw [h]
theorem xf_X10_isPicked {ct : Nat → Bool} {K : Kt} {R : Option AV → Hp → Prop} {n pc : Nat} {ls : List (Option AV)} {st : List AV} {σ : Hp} {k : Nat × Nat} (h : ct pc = false) : xk_X10_isPicked ct K R n pc ls st σ k = xe_X10_isPicked ct K R n pc ls st σ k := by unfold xk_X10_isPicked exkS xe_X10_isPicked; rw [h]
theorem ev_X10_isPicked_0 {ct : Nat → Bool} {K : Kt} {R : Option AV → Hp → Prop} {n : Nat} {ls : List (Option AV)} {st : List AV} {σ : Hp} {k : Nat × Nat} : xe_X10_isPicked ct K R (n + 1) 0 ls st σ k = (xk_X10_isPicked ct K R n 1 ls (vi (0) :: st) σ k) := exS_step.trans rfl
theorem ev_X10_isPicked_1 {ct : Nat → Bool} {K : Kt} {R : Option AV → Hp → Prop} {n : Nat} {ls : List (Option AV)} {st : List AV} {σ : Hp} {k : Nat × Nat} : xe_X10_isPicked ct K R (n + 1) 1 ls st σ k = (oI st fun x st => 3 < 4 ∧ xk_X10_isPicked ct K R n 2 (stL ls 3 (vi x)) st σ k) := exS_step.trans rfl
theorem ev_X10_isPicked_2 {ct : Nat → Bool} {K : Kt} {R : Option AV → Hp → Prop} {n : Nat} {ls : List (Option AV)} {st : List AV} {σ : Hp} {k : Nat × Nat} : xe_X10_isPicked ct K R (n + 1) 2 ls st σ k = (lI ls 3 fun x => xk_X10_isPicked ct K R n 3 ls (vi x :: st) σ k) := exS_step.trans rfl
theorem ev_X10_isPicked_3 {ct : Nat → Bool} {K : Kt} {R : Option AV → Hp → Prop} {n : Nat} {ls : List (Option AV)} {st : List AV} {σ : Hp} {k : Nat × Nat} : xe_X10_isPicked ct K R (n + 1) 3 ls st σ k = (lI ls 2 fun x => xk_X10_isPicked ct K R n 4 ls (vi x :: st) σ k) := exS_step.trans rfl
theorem ev_X10_isPicked_4 {ct : Nat → Bool} {K : Kt} {R : Option AV → Hp → Prop} {n : Nat} {ls : List (Option AV)} {st : List AV} {σ : Hp} {k : Nat × Nat} : xe_X10_isPicked ct K R (n + 1) 4 ls st σ k = (oI st fun y st => oI st fun x st => (wI y ≤ wI x → xk_X10_isPicked ct K R n 34 ls st σ k) ∧ (¬ (wI y ≤ wI x) → xk_X10_isPicked ct K R n 7 ls st σ k)) := exS_step.trans rfl
theorem ev_X10_isPicked_7 {ct : Nat → Bool} {K : Kt} {R : Option AV → Hp → Prop} {n : Nat} {ls : List (Option AV)} {st : List AV} {σ : Hp} {k : Nat × Nat} : xe_X10_isPicked ct K R (n + 1) 7 ls st σ k = (lI ls 3 fun x => xk_X10_isPicked ct K R n 8 ls (vi x :: st) σ k) := exS_step.trans rfl
theorem ev_X10_isPicked_8 {ct : Nat → Bool} {K : Kt} {R : Option AV → Hp → Prop} {n : Nat} {ls : List (Option AV)} {st : List AV} {σ : Hp} {k : Nat × Nat} : xe_X10_isPicked ct K R (n + 1) 8 ls st σ k = (lR ls 0 fun x => xk_X10_isPicked ct K R n 9 ls (vr x :: st) σ k) := exS_step.trans rfl
theorem ev_X10_isPicked_9 {ct : Nat → Bool} {K : Kt} {R : Option AV → Hp → Prop} {n : Nat} {ls : List (Option AV)} {st : List AV} {σ : Hp} {k : Nat × Nat} : xe_X10_isPicked ct K R (n + 1) 9 ls st σ k = (oR st fun x st => kd σ x = 11 ∧ xk_X10_isPicked ct K R n 12 ls (vr (fR σ 1103 x) :: st) σ k) := exS_step.trans rfl
theorem ev_X10_isPicked_12 {ct : Nat → Bool} {K : Kt} {R : Option AV → Hp → Prop} {n : Nat} {ls : List (Option AV)} {st : List AV} {σ : Hp} {k : Nat × Nat} : xe_X10_isPicked ct K R (n + 1) 12 ls st σ k = (oR st fun x st => (101 ≤ kd σ x ∨ kd σ x = 21) ∧ xk_X10_isPicked ct K R n 13 ls (vi (ln σ x) :: st) σ k) := exS_step.trans rfl
theorem ev_X10_isPicked_13 {ct : Nat → Bool} {K : Kt} {R : Option AV → Hp → Prop} {n : Nat} {ls : List (Option AV)} {st : List AV} {σ : Hp} {k : Nat × Nat} : xe_X10_isPicked ct K R (n + 1) 13 ls st σ k = (oI st fun y st => oI st fun x st => (wI y ≤ wI x → xk_X10_isPicked ct K R n 34 ls st σ k) ∧ (¬ (wI y ≤ wI x) → xk_X10_isPicked ct K R n 16 ls st σ k)) := exS_step.trans rfl
theorem ev_X10_isPicked_16 {ct : Nat → Bool} {K : Kt} {R : Option AV → Hp → Prop} {n : Nat} {ls : List (Option AV)} {st : List AV} {σ : Hp} {k : Nat × Nat} : xe_X10_isPicked ct K R (n + 1) 16 ls st σ k = (lR ls 0 fun x => xk_X10_isPicked ct K R n 17 ls (vr x :: st) σ k) := exS_step.trans rfl
theorem ev_X10_isPicked_17 {ct : Nat → Bool} {K : Kt} {R : Option AV → Hp → Prop} {n : Nat} {ls : List (Option AV)} {st : List AV} {σ : Hp} {k : Nat × Nat} : xe_X10_isPicked ct K R (n + 1) 17 ls st σ k = (oR st fun x st => kd σ x = 11 ∧ xk_X10_isPicked ct K R n 20 ls (vr (fR σ 1103 x) :: st) σ k) := exS_step.trans rfl
theorem ev_X10_isPicked_20 {ct : Nat → Bool} {K : Kt} {R : Option AV → Hp → Prop} {n : Nat} {ls : List (Option AV)} {st : List AV} {σ : Hp} {k : Nat × Nat} : xe_X10_isPicked ct K R (n + 1) 20 ls st σ k = (lI ls 3 fun x => xk_X10_isPicked ct K R n 21 ls (vi x :: st) σ k) := exS_step.trans rfl
theorem ev_X10_isPicked_21 {ct : Nat → Bool} {K : Kt} {R : Option AV → Hp → Prop} {n : Nat} {ls : List (Option AV)} {st : List AV} {σ : Hp} {k : Nat × Nat} : xe_X10_isPicked ct K R (n + 1) 21 ls st σ k = (oI st fun j st => oR st fun x st => (kd σ x = 101 ∨ kd σ x = 108) ∧ (0 ≤ j ∧ j < ln σ x) ∧ xk_X10_isPicked ct K R n 22 ls (vi (aI σ x j) :: st) σ k) := exS_step.trans rfl
theorem ev_X10_isPicked_22 {ct : Nat → Bool} {K : Kt} {R : Option AV → Hp → Prop} {n : Nat} {ls : List (Option AV)} {st : List AV} {σ : Hp} {k : Nat × Nat} : xe_X10_isPicked ct K R (n + 1) 22 ls st σ k = (lI ls 1 fun x => xk_X10_isPicked ct K R n 23 ls (vi x :: st) σ k) := exS_step.trans rfl
theorem ev_X10_isPicked_23 {ct : Nat → Bool} {K : Kt} {R : Option AV → Hp → Prop} {n : Nat} {ls : List (Option AV)} {st : List AV} {σ : Hp} {k : Nat × Nat} : xe_X10_isPicked ct K R (n + 1) 23 ls st σ k = (oI st fun y st => oI st fun x st => (¬ wI x = wI y → xk_X10_isPicked ct K R n 28 ls st σ k) ∧ (¬ (¬ wI x = wI y) → xk_X10_isPicked ct K R n 26 ls st σ k)) := exS_step.trans rfl
theorem ev_X10_isPicked_26 {ct : Nat → Bool} {K : Kt} {R : Option AV → Hp → Prop} {n : Nat} {ls : List (Option AV)} {st : List AV} {σ : Hp} {k : Nat × Nat} : xe_X10_isPicked ct K R (n + 1) 26 ls st σ k = (xk_X10_isPicked ct K R n 27 ls (vi (1) :: st) σ k) := exS_step.trans rfl
theorem ev_X10_isPicked_27 {ct : Nat → Bool} {K : Kt} {R : Option AV → Hp → Prop} {n : Nat} {ls : List (Option AV)} {st : List AV} {σ : Hp} {k : Nat × Nat} : xe_X10_isPicked ct K R (n + 1) 27 ls st σ k = (oI st fun x st => st = [] ∧ (x = 0 ∨ x = 1) ∧ R (some (vi x)) σ) := exS_step.trans rfl
theorem ev_X10_isPicked_28 {ct : Nat → Bool} {K : Kt} {R : Option AV → Hp → Prop} {n : Nat} {ls : List (Option AV)} {st : List AV} {σ : Hp} {k : Nat × Nat} : xe_X10_isPicked ct K R (n + 1) 28 ls st σ k = (lI ls 3 fun x => 3 < 4 ∧ xk_X10_isPicked ct K R n 31 (stL ls 3 (vi (x + (1)))) st σ k) := exS_step.trans rfl
theorem ev_X10_isPicked_31 {ct : Nat → Bool} {K : Kt} {R : Option AV → Hp → Prop} {n : Nat} {ls : List (Option AV)} {st : List AV} {σ : Hp} {k : Nat × Nat} : xe_X10_isPicked ct K R (n + 1) 31 ls st σ k = (xk_X10_isPicked ct K R n 2 ls st σ k) := exS_step.trans rfl
theorem ev_X10_isPicked_34 {ct : Nat → Bool} {K : Kt} {R : Option AV → Hp → Prop} {n : Nat} {ls : List (Option AV)} {st : List AV} {σ : Hp} {k : Nat × Nat} : xe_X10_isPicked ct K R (n + 1) 34 ls st σ k = (xk_X10_isPicked ct K R n 35 ls (vi (0) :: st) σ k) := exS_step.trans rfl
theorem ev_X10_isPicked_35 {ct : Nat → Bool} {K : Kt} {R : Option AV → Hp → Prop} {n : Nat} {ls : List (Option AV)} {st : List AV} {σ : Hp} {k : Nat × Nat} : xe_X10_isPicked ct K R (n + 1) 35 ls st σ k = (oI st fun x st => st = [] ∧ (x = 0 ∨ x = 1) ∧ R (some (vi x)) σ) := exS_step.trans rfl
def M_X10_isPicked : Md := (yX10_isPicked, cX10_isPicked, 4, (some FieldType.boolean), 1, 0, 0, 2, false, tb_X10_isPicked, mt_X10_isPicked)
theorem mm_X10_isPicked : MMOK M_X10_isPicked := ⟨by decide +kernel, tk_X10_isPicked, mk_X10_isPicked, rfl, fun h => by cases h⟩
theorem go_X10_isPicked {Q : Option AV → Hp → Prop} {ct : Nat → Bool} {pc : Nat} {ls : List (Option AV)} {st : List AV} {σ : Hp} {k : Nat × Nat} (n : Nat) (h : xe_X10_isPicked ct (Go M_X10_isPicked Q) Q n pc ls st σ k) : Go M_X10_isPicked Q pc ls st σ k := Go.exS mm_X10_isPicked h

set_option maxRecDepth 20000 in
theorem c_X10_isPicked : Ct yX10_isPicked cX10_isPicked 4 ((some FieldType.boolean)) 1 0 0 sp_X10_isPicked := by
  refine Ct.go (M := M_X10_isPicked) mm_X10_isPicked fun av σ Q h0 => ?_
  obtain ⟨this, x, d, rfl, hk, h⟩ := el_X10_isPicked h0
  clear h0
  refine ⟨Nat.le_of_ble_eq_true rfl, ?_⟩
  show Go M_X10_isPicked Q 0 [some (vr this), some (vi x), some (vi d), none] [] σ (0, 0)
  obtain ⟨rfl, hC, hd, hx, hp, h⟩ := h
  have loop : ∀ (m : Nat) (i : Int), 0 ≤ i → i + m = d → (∀ j, 0 ≤ j → j < i → ¬ aI σ 12 j = x) → Go M_X10_isPicked Q 2 [some (vr 4), some (vi x), some (vi d), some (vi i)] [] σ (0, 0) := by
    intro m
    induction m with
    | zero =>
      intro i i0 im hno
      rw [b2i_f (fun ⟨j, a, b, c⟩ => hno j a (by omega) c)] at h
      clear hno hp
      refine go_X10_isPicked (ct := fun p => p == 7) 20 ?_
      simp only [oI, oL, oR, o1, lI, lL, lR, popN, catS, gv, stL, stL2, swt, cnd, spObj, List.getElem?_cons_zero, List.getElem?_cons_succ, List.getD_cons_zero, List.getD_cons_succ, List.set_cons_zero, List.set_cons_succ, List.nil_append, List.cons_append, Option.toList, Bool.or_false, Bool.false_or, Bool.or_true, Bool.true_or, Nat.reduceBEq, Nat.reduceAdd, Nat.reduceLT, Nat.reduceLeDiff, Int.reduceAdd, Int.reduceToNat, true_and, and_true, Fin.isValue, Fin.val_zero, Fin.val_one, Fin.val_two, Fin.reduceFinMk, eq_self, Int.reduceNeg, imp_self, Nat.reduceMul, Nat.le_refl, not_true_eq_false, not_false_eq_true, List.getElem?_nil, reduceCtorEq, true_or, or_true, Classical.not_not, implies_true, or_self, wI_0, wI_1, wI_m1, b2i_w, b2i_eq0, b2i_eq1, b2i_bool, nor_self, nx_pI, kd_pI, ln_pI, fI_pI, fL_pI, fR_pI, aI_pI, aL_pI, aR_pI, nx_pL, kd_pL, ln_pL, fI_pL, fL_pL, fR_pL, aI_pL, aL_pL, aR_pL, nx_pR, kd_pR, ln_pR, fI_pR, fL_pR, fR_pR, aI_pR, aL_pR, aR_pR, nx_qI, kd_qI, ln_qI, fI_qI, fL_qI, fR_qI, aI_qI, aL_qI, aR_qI, nx_qL, kd_qL, ln_qL, fI_qL, fL_qL, fR_qL, aI_qL, aL_qL, aR_qL, nx_qR, kd_qR, ln_qR, fI_qR, fL_qR, fR_qR, aI_qR, aL_qR, aR_qR, nx_mk, kd_mk, ln_mk, fI_mk, fL_mk, fR_mk, aI_mk, aL_mk, aR_mk, false_and, and_false, if_false, if_true, and_self, Int.reduceEq, Nat.reduceEqDiff, ite_self, MLay_pI, MLay_pL, MLay_qI, MLay_qL, ev_X10_isPicked_2, ev_X10_isPicked_3, ev_X10_isPicked_4, ev_X10_isPicked_34, ev_X10_isPicked_35, xt_X10_isPicked, xf_X10_isPicked]
      try simp (disch := omega) only [wI_id, dv_nn, rm_nn]
      repeat' (first | intro z | apply And.intro)
      all_goals try omega
      all_goals try contradiction
      all_goals exact h
    | succ m ih =>
      intro i i0 im hno
      have hpi := hp i i0 (by omega)
      by_cases c : aI σ 12 i = x
      · rw [b2i_t ⟨i, i0, by omega, c⟩] at h
        clear ih hno hp
        refine go_X10_isPicked (ct := fun p => p == 28 || p == 34) 30 ?_
        simp only [oI, oL, oR, o1, lI, lL, lR, popN, catS, gv, stL, stL2, swt, cnd, spObj, List.getElem?_cons_zero, List.getElem?_cons_succ, List.getD_cons_zero, List.getD_cons_succ, List.set_cons_zero, List.set_cons_succ, List.nil_append, List.cons_append, Option.toList, Bool.or_false, Bool.false_or, Bool.or_true, Bool.true_or, Nat.reduceBEq, Nat.reduceAdd, Nat.reduceLT, Nat.reduceLeDiff, Int.reduceAdd, Int.reduceToNat, true_and, and_true, Fin.isValue, Fin.val_zero, Fin.val_one, Fin.val_two, Fin.reduceFinMk, eq_self, Int.reduceNeg, imp_self, Nat.reduceMul, Nat.le_refl, not_true_eq_false, not_false_eq_true, List.getElem?_nil, reduceCtorEq, true_or, or_true, Classical.not_not, implies_true, or_self, wI_0, wI_1, wI_m1, b2i_w, b2i_eq0, b2i_eq1, b2i_bool, nor_self, nx_pI, kd_pI, ln_pI, fI_pI, fL_pI, fR_pI, aI_pI, aL_pI, aR_pI, nx_pL, kd_pL, ln_pL, fI_pL, fL_pL, fR_pL, aI_pL, aL_pL, aR_pL, nx_pR, kd_pR, ln_pR, fI_pR, fL_pR, fR_pR, aI_pR, aL_pR, aR_pR, nx_qI, kd_qI, ln_qI, fI_qI, fL_qI, fR_qI, aI_qI, aL_qI, aR_qI, nx_qL, kd_qL, ln_qL, fI_qL, fL_qL, fR_qL, aI_qL, aL_qL, aR_qL, nx_qR, kd_qR, ln_qR, fI_qR, fL_qR, fR_qR, aI_qR, aL_qR, aR_qR, nx_mk, kd_mk, ln_mk, fI_mk, fL_mk, fR_mk, aI_mk, aL_mk, aR_mk, false_and, and_false, if_false, if_true, and_self, Int.reduceEq, Nat.reduceEqDiff, ite_self, MLay_pI, MLay_pL, MLay_qI, MLay_qL, ev_X10_isPicked_2, ev_X10_isPicked_3, ev_X10_isPicked_4, ev_X10_isPicked_7, ev_X10_isPicked_8, ev_X10_isPicked_9, ev_X10_isPicked_12, ev_X10_isPicked_13, ev_X10_isPicked_16, ev_X10_isPicked_17, ev_X10_isPicked_20, ev_X10_isPicked_21, ev_X10_isPicked_22, ev_X10_isPicked_23, ev_X10_isPicked_26, ev_X10_isPicked_27, xt_X10_isPicked, xf_X10_isPicked, hk, hC.eqs, c]
        try simp (disch := omega) only [wI_id, dv_nn, rm_nn]
        repeat' (first | intro z | apply And.intro)
        all_goals try omega
        all_goals try contradiction
        all_goals exact h
      · have w := ih (i + 1) (by omega) (by omega) (fun j a b => by
          by_cases e : j = i
          · rw [e]; exact c
          · exact hno j a (by omega))
        clear ih hno hp h
        refine go_X10_isPicked (ct := fun p => p == 26 || p == 34 || p == 2) 30 ?_
        simp only [oI, oL, oR, o1, lI, lL, lR, popN, catS, gv, stL, stL2, swt, cnd, spObj, List.getElem?_cons_zero, List.getElem?_cons_succ, List.getD_cons_zero, List.getD_cons_succ, List.set_cons_zero, List.set_cons_succ, List.nil_append, List.cons_append, Option.toList, Bool.or_false, Bool.false_or, Bool.or_true, Bool.true_or, Nat.reduceBEq, Nat.reduceAdd, Nat.reduceLT, Nat.reduceLeDiff, Int.reduceAdd, Int.reduceToNat, true_and, and_true, Fin.isValue, Fin.val_zero, Fin.val_one, Fin.val_two, Fin.reduceFinMk, eq_self, Int.reduceNeg, imp_self, Nat.reduceMul, Nat.le_refl, not_true_eq_false, not_false_eq_true, List.getElem?_nil, reduceCtorEq, true_or, or_true, Classical.not_not, implies_true, or_self, wI_0, wI_1, wI_m1, b2i_w, b2i_eq0, b2i_eq1, b2i_bool, nor_self, nx_pI, kd_pI, ln_pI, fI_pI, fL_pI, fR_pI, aI_pI, aL_pI, aR_pI, nx_pL, kd_pL, ln_pL, fI_pL, fL_pL, fR_pL, aI_pL, aL_pL, aR_pL, nx_pR, kd_pR, ln_pR, fI_pR, fL_pR, fR_pR, aI_pR, aL_pR, aR_pR, nx_qI, kd_qI, ln_qI, fI_qI, fL_qI, fR_qI, aI_qI, aL_qI, aR_qI, nx_qL, kd_qL, ln_qL, fI_qL, fL_qL, fR_qL, aI_qL, aL_qL, aR_qL, nx_qR, kd_qR, ln_qR, fI_qR, fL_qR, fR_qR, aI_qR, aL_qR, aR_qR, nx_mk, kd_mk, ln_mk, fI_mk, fL_mk, fR_mk, aI_mk, aL_mk, aR_mk, false_and, and_false, if_false, if_true, and_self, Int.reduceEq, Nat.reduceEqDiff, ite_self, MLay_pI, MLay_pL, MLay_qI, MLay_qL, ev_X10_isPicked_2, ev_X10_isPicked_3, ev_X10_isPicked_4, ev_X10_isPicked_7, ev_X10_isPicked_8, ev_X10_isPicked_9, ev_X10_isPicked_12, ev_X10_isPicked_13, ev_X10_isPicked_16, ev_X10_isPicked_17, ev_X10_isPicked_20, ev_X10_isPicked_21, ev_X10_isPicked_22, ev_X10_isPicked_23, ev_X10_isPicked_26, ev_X10_isPicked_27, ev_X10_isPicked_28, ev_X10_isPicked_31, xt_X10_isPicked, xf_X10_isPicked, hk, hC.eqs]
        try simp (disch := omega) only [wI_id, dv_nn, rm_nn]
        repeat' (first | intro z | apply And.intro)
        all_goals try omega
        all_goals try contradiction
        all_goals exact w
  have w := loop d.toNat 0 (by omega) (by omega) (fun j a b => by omega)
  clear loop h
  refine go_X10_isPicked (ct := fun p => p == 2) 20 ?_
  simp only [oI, oL, oR, o1, lI, lL, lR, popN, catS, gv, stL, stL2, swt, cnd, spObj, List.getElem?_cons_zero, List.getElem?_cons_succ, List.getD_cons_zero, List.getD_cons_succ, List.set_cons_zero, List.set_cons_succ, List.nil_append, List.cons_append, Option.toList, Bool.or_false, Bool.false_or, Bool.or_true, Bool.true_or, Nat.reduceBEq, Nat.reduceAdd, Nat.reduceLT, Nat.reduceLeDiff, Int.reduceAdd, Int.reduceToNat, true_and, and_true, Fin.isValue, Fin.val_zero, Fin.val_one, Fin.val_two, Fin.reduceFinMk, eq_self, Int.reduceNeg, imp_self, Nat.reduceMul, Nat.le_refl, not_true_eq_false, not_false_eq_true, List.getElem?_nil, reduceCtorEq, true_or, or_true, Classical.not_not, implies_true, or_self, wI_0, wI_1, wI_m1, b2i_w, b2i_eq0, b2i_eq1, b2i_bool, nor_self, nx_pI, kd_pI, ln_pI, fI_pI, fL_pI, fR_pI, aI_pI, aL_pI, aR_pI, nx_pL, kd_pL, ln_pL, fI_pL, fL_pL, fR_pL, aI_pL, aL_pL, aR_pL, nx_pR, kd_pR, ln_pR, fI_pR, fL_pR, fR_pR, aI_pR, aL_pR, aR_pR, nx_qI, kd_qI, ln_qI, fI_qI, fL_qI, fR_qI, aI_qI, aL_qI, aR_qI, nx_qL, kd_qL, ln_qL, fI_qL, fL_qL, fR_qL, aI_qL, aL_qL, aR_qL, nx_qR, kd_qR, ln_qR, fI_qR, fL_qR, fR_qR, aI_qR, aL_qR, aR_qR, nx_mk, kd_mk, ln_mk, fI_mk, fL_mk, fR_mk, aI_mk, aL_mk, aR_mk, false_and, and_false, if_false, if_true, and_self, Int.reduceEq, Nat.reduceEqDiff, ite_self, MLay_pI, MLay_pL, MLay_qI, MLay_qL, ev_X10_isPicked_0, ev_X10_isPicked_1, xt_X10_isPicked, xf_X10_isPicked]
  exact w
