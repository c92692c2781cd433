/-! the reference: stories, the small ones -/

def sp_X12_rowOf : Sp := fun av σ Q => oI av fun k av => oI av fun t av => av = [] ∧ (Q (some (vi (300 * k + t))) σ)
theorem us_X12_rowOf (k : Int) (t : Int) (σ : Hp) (Q : Option AV → Hp → Prop) : sp_X12_rowOf [vi k, vi t] σ Q = ((Q (some (vi (300 * k + t))) σ)) := propext ⟨fun h => h.2, fun h => ⟨rfl, h⟩⟩
theorem el_X12_rowOf {av : List AV} {σ : Hp} {Q : Option AV → Hp → Prop} (h : sp_X12_rowOf av σ Q) : ∃ (k : Int) (t : Int), av = [vi k, vi t] ∧ ((Q (some (vi (300 * k + t))) σ)) := by
  obtain ⟨k, a0, rfl, h0⟩ := oI_s h
  obtain ⟨t, a1, rfl, h1⟩ := oI_s h0
  obtain ⟨rfl, hz⟩ := h1
  exact ⟨k, t, rfl, hz⟩

def tb_X12_rowOf : Tab := [(0, .sipush 300, 3, (0, 0, 0, 0)), (3, .iload_n 0, 1, (0, 0, 0, 0)), (4, .imul, 1, (0, 0, 0, 0)), (5, .iload_n 1, 1, (0, 0, 0, 0)), (6, .iadd, 1, (0, 0, 0, 0)), (7, .ireturn, 1, (0, 0, 0, 0))]
set_option maxRecDepth 100000 in
theorem tk_X12_rowOf : TOK RX12 false cX12_rowOf tb_X12_rowOf := chkT_ok ft_X12 (by decide +kernel)
def mt_X12_rowOf : List (Nat × Mt) := []
theorem mk_X12_rowOf : MOK RX12 mt_X12_rowOf := fun q hq => by cases hq
noncomputable def xe_X12_rowOf (ct : Nat → Bool) (K : Kt) (R : Option AV → Hp → Prop) (n : Nat) : Kt := exS 2 1 0 0 1 tb_X12_rowOf mt_X12_rowOf ct K R n
noncomputable def xk_X12_rowOf (ct : Nat → Bool) (K : Kt) (R : Option AV → Hp → Prop) (n : Nat) : Kt := exkS 2 1 0 0 1 tb_X12_rowOf mt_X12_rowOf ct K R n
theorem xt_X12_rowOf {ct : Nat → Bool} {K : Kt} {R : Option AV → Hp → Prop} {n pc : Nat} {ls : List (Option AV)} {st : List AV} {σ : Hp} {k : Nat × Nat} (h : ct pc = true) : xk_X12_rowOf ct K R n pc ls st σ k = K pc ls st σ k := by unfold xk_X12_rowOf exkS; rw [h]
theorem xf_X12_rowOf {ct : Nat → Bool} {K : Kt} {R : Option AV → Hp → Prop} {n pc : Nat} {ls : List (Option AV)} {st : List AV} {σ : Hp} {k : Nat × Nat} (h : ct pc = false) : xk_X12_rowOf ct K R n pc ls st σ k = xe_X12_rowOf ct K R n pc ls st σ k := by unfold xk_X12_rowOf exkS xe_X12_rowOf; rw [h]
theorem ev_X12_rowOf_0 {ct : Nat → Bool} {K : Kt} {R : Option AV → Hp → Prop} {n : Nat} {ls : List (Option AV)} {st : List AV} {σ : Hp} {k : Nat × Nat} : xe_X12_rowOf ct K R (n + 1) 0 ls st σ k = (xk_X12_rowOf ct K R n 3 ls (vi (300) :: st) σ k) := exS_step.trans rfl
theorem ev_X12_rowOf_3 {ct : Nat → Bool} {K : Kt} {R : Option AV → Hp → Prop} {n : Nat} {ls : List (Option AV)} {st : List AV} {σ : Hp} {k : Nat × Nat} : xe_X12_rowOf ct K R (n + 1) 3 ls st σ k = (lI ls 0 fun x => xk_X12_rowOf ct K R n 4 ls (vi x :: st) σ k) := exS_step.trans rfl
theorem ev_X12_rowOf_4 {ct : Nat → Bool} {K : Kt} {R : Option AV → Hp → Prop} {n : Nat} {ls : List (Option AV)} {st : List AV} {σ : Hp} {k : Nat × Nat} : xe_X12_rowOf ct K R (n + 1) 4 ls st σ k = (oI st fun y st => oI st fun x st => xk_X12_rowOf ct K R n 5 ls (vi (x * y) :: st) σ k) := exS_step.trans rfl
theorem ev_X12_rowOf_5 {ct : Nat → Bool} {K : Kt} {R : Option AV → Hp → Prop} {n : Nat} {ls : List (Option AV)} {st : List AV} {σ : Hp} {k : Nat × Nat} : xe_X12_rowOf ct K R (n + 1) 5 ls st σ k = (lI ls 1 fun x => xk_X12_rowOf ct K R n 6 ls (vi x :: st) σ k) := exS_step.trans rfl
theorem ev_X12_rowOf_6 {ct : Nat → Bool} {K : Kt} {R : Option AV → Hp → Prop} {n : Nat} {ls : List (Option AV)} {st : List AV} {σ : Hp} {k : Nat × Nat} : xe_X12_rowOf ct K R (n + 1) 6 ls st σ k = (oI st fun y st => oI st fun x st => xk_X12_rowOf ct K R n 7 ls (vi (x + y) :: st) σ k) := exS_step.trans rfl
theorem ev_X12_rowOf_7 {ct : Nat → Bool} {K : Kt} {R : Option AV → Hp → Prop} {n : Nat} {ls : List (Option AV)} {st : List AV} {σ : Hp} {k : Nat × Nat} : xe_X12_rowOf ct K R (n + 1) 7 ls st σ k = (oI st fun x st => st = [] ∧ True ∧ R (some (vi x)) σ) := exS_step.trans rfl
def M_X12_rowOf : Md := (yX12_rowOf, cX12_rowOf, 2, (some FieldType.int), 1, 0, 0, 1, false, tb_X12_rowOf, mt_X12_rowOf)
theorem mm_X12_rowOf : MMOK M_X12_rowOf := ⟨by decide +kernel, tk_X12_rowOf, mk_X12_rowOf, rfl, fun h => by cases h⟩
theorem go_X12_rowOf {Q : Option AV → Hp → Prop} {ct : Nat → Bool} {pc : Nat} {ls : List (Option AV)} {st : List AV} {σ : Hp} {k : Nat × Nat} (n : Nat) (h : xe_X12_rowOf ct (Go M_X12_rowOf Q) Q n pc ls st σ k) : Go M_X12_rowOf Q pc ls st σ k := Go.exS mm_X12_rowOf h

set_option maxRecDepth 20000 in
theorem c_X12_rowOf : Ct yX12_rowOf cX12_rowOf 2 ((some FieldType.int)) 1 0 0 sp_X12_rowOf := by
  refine Ct.go (M := M_X12_rowOf) mm_X12_rowOf fun av σ Q h0 => ?_
  obtain ⟨k, t, rfl, h⟩ := el_X12_rowOf h0
  clear h0
  refine ⟨Nat.le_of_ble_eq_true rfl, ?_⟩
  show Go M_X12_rowOf Q 0 [some (vi k), some (vi t)] [] σ (0, 0)
  refine go_X12_rowOf (ct := fun p => false) 20 ?_
  simp only [oI, oL, oR, o1, lI, lL, lR, popN, catS, gv, stL, stL2, swt, cnd, spObj, List.getElem?_cons_zero, List.getElem?_cons_succ, List.getD_cons_zero, List.getD_cons_succ, List.set_cons_zero, List.set_cons_succ, List.nil_append, List.cons_append, Option.toList, Bool.or_false, Bool.false_or, Bool.or_true, Bool.true_or, Nat.reduceBEq, Nat.reduceAdd, Nat.reduceLT, Nat.reduceLeDiff, Int.reduceAdd, Int.reduceToNat, true_and, and_true, Fin.isValue, Fin.val_zero, Fin.val_one, Fin.val_two, Fin.reduceFinMk, eq_self, Int.reduceNeg, imp_self, Nat.reduceMul, Nat.le_refl, not_true_eq_false, not_false_eq_true, List.getElem?_nil, reduceCtorEq, true_or, or_true, Classical.not_not, implies_true, or_self, wI_0, wI_1, wI_m1, b2i_w, b2i_eq0, b2i_eq1, b2i_bool, nor_self, nx_pI, kd_pI, ln_pI, fI_pI, fL_pI, fR_pI, aI_pI, aL_pI, aR_pI, nx_pL, kd_pL, ln_pL, fI_pL, fL_pL, fR_pL, aI_pL, aL_pL, aR_pL, nx_pR, kd_pR, ln_pR, fI_pR, fL_pR, fR_pR, aI_pR, aL_pR, aR_pR, nx_qI, kd_qI, ln_qI, fI_qI, fL_qI, fR_qI, aI_qI, aL_qI, aR_qI, nx_qL, kd_qL, ln_qL, fI_qL, fL_qL, fR_qL, aI_qL, aL_qL, aR_qL, nx_qR, kd_qR, ln_qR, fI_qR, fL_qR, fR_qR, aI_qR, aL_qR, aR_qR, nx_mk, kd_mk, ln_mk, fI_mk, fL_mk, fR_mk, aI_mk, aL_mk, aR_mk, false_and, and_false, if_false, if_true, and_self, Int.reduceEq, Nat.reduceEqDiff, ite_self, MLay_pI, MLay_pL, MLay_qI, MLay_qL, ev_X12_rowOf_0, ev_X12_rowOf_3, ev_X12_rowOf_4, ev_X12_rowOf_5, ev_X12_rowOf_6, ev_X12_rowOf_7, xt_X12_rowOf, xf_X12_rowOf]
  exact h

def sp_X12_isFirst : Sp := fun av σ Q => oR av fun this av => oI av fun p av => av = [] ∧ kd σ this = 13 ∧ (this = 61 ∧ MI σ ∧ (0 ≤ p ∧ p < 3600) ∧ Q (some (vi (b2i (p % 300 = fI σ 1330 61)))) σ)
theorem us_X12_isFirst (this : Int) (p : Int) (σ : Hp) (Q : Option AV → Hp → Prop) : sp_X12_isFirst [vr this, vi p] σ Q = (kd σ this = 13 ∧ (this = 61 ∧ MI σ ∧ (0 ≤ p ∧ p < 3600) ∧ Q (some (vi (b2i (p % 300 = fI σ 1330 61)))) σ)) := propext ⟨fun h => h.2, fun h => ⟨rfl, h⟩⟩
theorem el_X12_isFirst {av : List AV} {σ : Hp} {Q : Option AV → Hp → Prop} (h : sp_X12_isFirst av σ Q) : ∃ (this : Int) (p : Int), av = [vr this, vi p] ∧ (kd σ this = 13 ∧ (this = 61 ∧ MI σ ∧ (0 ≤ p ∧ p < 3600) ∧ Q (some (vi (b2i (p % 300 = fI σ 1330 61)))) σ)) := by
  obtain ⟨this, a0, rfl, h0⟩ := oR_s h
  obtain ⟨p, a1, rfl, h1⟩ := oI_s h0
  obtain ⟨rfl, hz⟩ := h1
  exact ⟨this, p, rfl, hz⟩
theorem rc_X12_isFirst : ∀ (av : List AV) (σ : Hp) (Q : Option AV → Hp → Prop), sp_X12_isFirst av σ Q → ∃ r tl, av = vr r :: tl ∧ kd σ r = 12 + 1 := fun av σ Q h => by
  obtain ⟨this, p, rfl, hz, -⟩ := el_X12_isFirst h
  exact ⟨this, _, rfl, hz⟩

def tb_X12_isFirst : Tab := [(0, .iload_n 1, 1, (0, 0, 0, 0)), (1, .sipush 300, 3, (0, 0, 0, 0)), (4, .irem, 1, (0, 0, 0, 0)), (5, .aload_n 0, 1, (0, 0, 0, 0)), (6, .getfield 238, 3, (13, 1330, 0, 0)), (9, .if_icmp .ne 7, 3, (0, 0, 0, 0)), (12, .iconst 1, 1, (0, 0, 0, 0)), (13, .goto 4, 3, (0, 0, 0, 0)), (16, .iconst 0, 1, (0, 0, 0, 0)), (17, .ireturn, 1, (0, 0, 0, 0))]
set_option maxRecDepth 100000 in
theorem tk_X12_isFirst : TOK RX12 false cX12_isFirst tb_X12_isFirst := chkT_ok ft_X12 (by decide +kernel)
def mt_X12_isFirst : List (Nat × Mt) := []
theorem mk_X12_isFirst : MOK RX12 mt_X12_isFirst := fun q hq => by cases hq
noncomputable def xe_X12_isFirst (ct : Nat → Bool) (K : Kt) (R : Option AV → Hp → Prop) (n : Nat) : Kt := exS 2 1 0 0 2 tb_X12_isFirst mt_X12_isFirst ct K R n
noncomputable def xk_X12_isFirst (ct : Nat → Bool) (K : Kt) (R : Option AV → Hp → Prop) (n : Nat) : Kt := exkS 2 1 0 0 2 tb_X12_isFirst mt_X12_isFirst ct K R n
theorem xt_X12_isFirst {ct : Nat → Bool} {K : Kt} {R : Option AV → Hp → Prop} {n pc : Nat} {ls : List (Option AV)} {st : List AV} {σ : Hp} {k : Nat × Nat} (h : ct pc = true) : xk_X12_isFirst ct K R n pc ls st σ k = K pc ls st σ k := by unfold xk_X12_isFirst exkS; rw [h]
theorem xf_X12_isFirst {ct : Nat → Bool} {K : Kt} {R : Option AV → Hp → Prop} {n pc : Nat} {ls : List (Option AV)} {st : List AV} {σ : Hp} {k : Nat × Nat} (h : ct pc = false) : xk_X12_isFirst ct K R n pc ls st σ k = xe_X12_isFirst ct K R n pc ls st σ k := by unfold xk_X12_isFirst exkS xe_X12_isFirst; rw [h]
theorem ev_X12_isFirst_0 {ct : Nat → Bool} {K : Kt} {R : Option AV → Hp → Prop} {n : Nat} {ls : List (Option AV)} {st : List AV} {σ : Hp} {k : Nat × Nat} : xe_X12_isFirst ct K R (n + 1) 0 ls st σ k = (lI ls 1 fun x => xk_X12_isFirst ct K R n 1 ls (vi x :: st) σ k) := exS_step.trans rfl
theorem ev_X12_isFirst_1 {ct : Nat → Bool} {K : Kt} {R : Option AV → Hp → Prop} {n : Nat} {ls : List (Option AV)} {st : List AV} {σ : Hp} {k : Nat × Nat} : xe_X12_isFirst ct K R (n + 1) 1 ls st σ k = (xk_X12_isFirst ct K R n 4 ls (vi (300) :: st) σ k) := exS_step.trans rfl
theorem ev_X12_isFirst_4 {ct : Nat → Bool} {K : Kt} {R : Option AV → Hp → Prop} {n : Nat} {ls : List (Option AV)} {st : List AV} {σ : Hp} {k : Nat × Nat} : xe_X12_isFirst ct K R (n + 1) 4 ls st σ k = (oI st fun y st => oI st fun x st => ¬ wI y = 0 ∧ xk_X12_isFirst ct K R n 5 ls (vi (rmI x y) :: st) σ k) := exS_step.trans rfl
theorem ev_X12_isFirst_5 {ct : Nat → Bool} {K : Kt} {R : Option AV → Hp → Prop} {n : Nat} {ls : List (Option AV)} {st : List AV} {σ : Hp} {k : Nat × Nat} : xe_X12_isFirst ct K R (n + 1) 5 ls st σ k = (lR ls 0 fun x => xk_X12_isFirst ct K R n 6 ls (vr x :: st) σ k) := exS_step.trans rfl
theorem ev_X12_isFirst_6 {ct : Nat → Bool} {K : Kt} {R : Option AV → Hp → Prop} {n : Nat} {ls : List (Option AV)} {st : List AV} {σ : Hp} {k : Nat × Nat} : xe_X12_isFirst ct K R (n + 1) 6 ls st σ k = (oR st fun x st => kd σ x = 13 ∧ xk_X12_isFirst ct K R n 9 ls (vi (fI σ 1330 x) :: st) σ k) := exS_step.trans rfl
theorem ev_X12_isFirst_9 {ct : Nat → Bool} {K : Kt} {R : Option AV → Hp → Prop} {n : Nat} {ls : List (Option AV)} {st : List AV} {σ : Hp} {k : Nat × Nat} : xe_X12_isFirst ct K R (n + 1) 9 ls st σ k = (oI st fun y st => oI st fun x st => (¬ wI x = wI y → xk_X12_isFirst ct K R n 16 ls st σ k) ∧ (¬ (¬ wI x = wI y) → xk_X12_isFirst ct K R n 12 ls st σ k)) := exS_step.trans rfl
theorem ev_X12_isFirst_12 {ct : Nat → Bool} {K : Kt} {R : Option AV → Hp → Prop} {n : Nat} {ls : List (Option AV)} {st : List AV} {σ : Hp} {k : Nat × Nat} : xe_X12_isFirst ct K R (n + 1) 12 ls st σ k = (xk_X12_isFirst ct K R n 13 ls (vi (1) :: st) σ k) := exS_step.trans rfl
theorem ev_X12_isFirst_13 {ct : Nat → Bool} {K : Kt} {R : Option AV → Hp → Prop} {n : Nat} {ls : List (Option AV)} {st : List AV} {σ : Hp} {k : Nat × Nat} : xe_X12_isFirst ct K R (n + 1) 13 ls st σ k = (xk_X12_isFirst ct K R n 17 ls st σ k) := exS_step.trans rfl
theorem ev_X12_isFirst_16 {ct : Nat → Bool} {K : Kt} {R : Option AV → Hp → Prop} {n : Nat} {ls : List (Option AV)} {st : List AV} {σ : Hp} {k : Nat × Nat} : xe_X12_isFirst ct K R (n + 1) 16 ls st σ k = (xk_X12_isFirst ct K R n 17 ls (vi (0) :: st) σ k) := exS_step.trans rfl
theorem ev_X12_isFirst_17 {ct : Nat → Bool} {K : Kt} {R : Option AV → Hp → Prop} {n : Nat} {ls : List (Option AV)} {st : List AV} {σ : Hp} {k : Nat × Nat} : xe_X12_isFirst ct K R (n + 1) 17 ls st σ k = (oI st fun x st => st = [] ∧ (x = 0 ∨ x = 1) ∧ R (some (vi x)) σ) := exS_step.trans rfl
def M_X12_isFirst : Md := (yX12_isFirst, cX12_isFirst, 2, (some FieldType.boolean), 1, 0, 0, 2, false, tb_X12_isFirst, mt_X12_isFirst)
theorem mm_X12_isFirst : MMOK M_X12_isFirst := ⟨by decide +kernel, tk_X12_isFirst, mk_X12_isFirst, rfl, fun h => by cases h⟩
theorem go_X12_isFirst {Q : Option AV → Hp → Prop} {ct : Nat → Bool} {pc : Nat} {ls : List (Option AV)} {st : List AV} {σ : Hp} {k : Nat × Nat} (n : Nat) (h : xe_X12_isFirst ct (Go M_X12_isFirst Q) Q n pc ls st σ k) : Go M_X12_isFirst Q pc ls st σ k := Go.exS mm_X12_isFirst h

set_option maxRecDepth 20000 in
theorem c_X12_isFirst : Ct yX12_isFirst cX12_isFirst 2 ((some FieldType.boolean)) 1 0 0 sp_X12_isFirst := by
  refine Ct.go (M := M_X12_isFirst) mm_X12_isFirst fun av σ Q h0 => ?_
  obtain ⟨this, p, rfl, hk, h⟩ := el_X12_isFirst h0
  clear h0
  refine ⟨Nat.le_of_ble_eq_true rfl, ?_⟩
  show Go M_X12_isFirst Q 0 [some (vr this), some (vi p)] [] σ (0, 0)
  obtain ⟨rfl, hI, hp, h⟩ := h
  have x1 := hI.earliest_s
  refine go_X12_isFirst (ct := fun p => false) 20 ?_
  simp only [oI, oL, oR, o1, lI, lL, lR, popN, catS, gv, stL, stL2, swt, cnd, spObj, List.getElem?_cons_zero, List.getElem?_cons_succ, List.getD_cons_zero, List.getD_cons_succ, List.set_cons_zero, List.set_cons_succ, List.nil_append, List.cons_append, Option.toList, Bool.or_false, Bool.false_or, Bool.or_true, Bool.true_or, Nat.reduceBEq, Nat.reduceAdd, Nat.reduceLT, Nat.reduceLeDiff, Int.reduceAdd, Int.reduceToNat, true_and, and_true, Fin.isValue, Fin.val_zero, Fin.val_one, Fin.val_two, Fin.reduceFinMk, eq_self, Int.reduceNeg, imp_self, Nat.reduceMul, Nat.le_refl, not_true_eq_false, not_false_eq_true, List.getElem?_nil, reduceCtorEq, true_or, or_true, Classical.not_not, implies_true, or_self, wI_0, wI_1, wI_m1, b2i_w, b2i_eq0, b2i_eq1, b2i_bool, nor_self, nx_pI, kd_pI, ln_pI, fI_pI, fL_pI, fR_pI, aI_pI, aL_pI, aR_pI, nx_pL, kd_pL, ln_pL, fI_pL, fL_pL, fR_pL, aI_pL, aL_pL, aR_pL, nx_pR, kd_pR, ln_pR, fI_pR, fL_pR, fR_pR, aI_pR, aL_pR, aR_pR, nx_qI, kd_qI, ln_qI, fI_qI, fL_qI, fR_qI, aI_qI, aL_qI, aR_qI, nx_qL, kd_qL, ln_qL, fI_qL, fL_qL, fR_qL, aI_qL, aL_qL, aR_qL, nx_qR, kd_qR, ln_qR, fI_qR, fL_qR, fR_qR, aI_qR, aL_qR, aR_qR, nx_mk, kd_mk, ln_mk, fI_mk, fL_mk, fR_mk, aI_mk, aL_mk, aR_mk, false_and, and_false, if_false, if_true, and_self, Int.reduceEq, Nat.reduceEqDiff, ite_self, MLay_pI, MLay_pL, MLay_qI, MLay_qL, ev_X12_isFirst_0, ev_X12_isFirst_1, ev_X12_isFirst_4, ev_X12_isFirst_5, ev_X12_isFirst_6, ev_X12_isFirst_9, ev_X12_isFirst_12, ev_X12_isFirst_13, ev_X12_isFirst_16, ev_X12_isFirst_17, xt_X12_isFirst, xf_X12_isFirst, hk, show wI 300 = 300 by decide]
  try simp (disch := omega) only [wI_id, dv_nn, rm_nn]
  repeat' (first | intro z | apply And.intro)
  all_goals try omega
  · rw [b2i_f (by assumption)] at h; exact h
  · rw [b2i_t (by assumption)] at h; exact h

def mPuts (σ : Hp) (n p : Int) : Hp := qI (qI σ 80 n (aI σ 75 (12 * fI σ 1321 61 + p / 300))) 81 n (fI σ 1331 61 + p % 300)

def sp_X12_puts : Sp := fun av σ Q => oR av fun this av => oI av fun n av => oI av fun p av => av = [] ∧ kd σ this = 13 ∧ (this = 61 ∧ MI σ ∧ (0 ≤ n ∧ n < 600) ∧ (0 ≤ p ∧ p < 3600) ∧ 0 ≤ fI σ 1321 61 ∧ Q none (mPuts σ n p))
theorem us_X12_puts (this : Int) (n : Int) (p : Int) (σ : Hp) (Q : Option AV → Hp → Prop) : sp_X12_puts [vr this, vi n, vi p] σ Q = (kd σ this = 13 ∧ (this = 61 ∧ MI σ ∧ (0 ≤ n ∧ n < 600) ∧ (0 ≤ p ∧ p < 3600) ∧ 0 ≤ fI σ 1321 61 ∧ Q none (mPuts σ n p))) := propext ⟨fun h => h.2, fun h => ⟨rfl, h⟩⟩
theorem el_X12_puts {av : List AV} {σ : Hp} {Q : Option AV → Hp → Prop} (h : sp_X12_puts av σ Q) : ∃ (this : Int) (n : Int) (p : Int), av = [vr this, vi n, vi p] ∧ (kd σ this = 13 ∧ (this = 61 ∧ MI σ ∧ (0 ≤ n ∧ n < 600) ∧ (0 ≤ p ∧ p < 3600) ∧ 0 ≤ fI σ 1321 61 ∧ Q none (mPuts σ n p))) := by
  obtain ⟨this, a0, rfl, h0⟩ := oR_s h
  obtain ⟨n, a1, rfl, h1⟩ := oI_s h0
  obtain ⟨p, a2, rfl, h2⟩ := oI_s h1
  obtain ⟨rfl, hz⟩ := h2
  exact ⟨this, n, p, rfl, hz⟩
theorem rc_X12_puts : ∀ (av : List AV) (σ : Hp) (Q : Option AV → Hp → Prop), sp_X12_puts av σ Q → ∃ r tl, av = vr r :: tl ∧ kd σ r = 12 + 1 := fun av σ Q h => by
  obtain ⟨this, n, p, rfl, hz, -⟩ := el_X12_puts h
  exact ⟨this, _, rfl, hz⟩

def tb_X12_puts : Tab := [(0, .aload_n 0, 1, (0, 0, 0, 0)), (1, .getfield 65, 3, (13, 1324, 2, 0)), (4, .iload_n 1, 1, (0, 0, 0, 0)), (5, .aload_n 0, 1, (0, 0, 0, 0)), (6, .getfield 50, 3, (13, 1316, 2, 0)), (9, .bipush 12, 2, (0, 0, 0, 0)), (11, .aload_n 0, 1, (0, 0, 0, 0)), (12, .getfield 193, 3, (13, 1321, 0, 0)), (15, .imul, 1, (0, 0, 0, 0)), (16, .iload_n 2, 1, (0, 0, 0, 0)), (17, .sipush 300, 3, (0, 0, 0, 0)), (20, .idiv, 1, (0, 0, 0, 0)), (21, .iadd, 1, (0, 0, 0, 0)), (22, .iaload, 1, (0, 0, 0, 0)), (23, .iastore, 1, (0, 0, 0, 0)), (24, .aload_n 0, 1, (0, 0, 0, 0)), (25, .getfield 68, 3, (13, 1325, 2, 0)), (28, .iload_n 1, 1, (0, 0, 0, 0)), (29, .aload_n 0, 1, (0, 0, 0, 0)), (30, .getfield 257, 3, (13, 1331, 0, 0)), (33, .iload_n 2, 1, (0, 0, 0, 0)), (34, .sipush 300, 3, (0, 0, 0, 0)), (37, .irem, 1, (0, 0, 0, 0)), (38, .iadd, 1, (0, 0, 0, 0)), (39, .iastore, 1, (0, 0, 0, 0)), (40, .return_, 1, (0, 0, 0, 0))]
set_option maxRecDepth 100000 in
theorem tk_X12_puts : TOK RX12 false cX12_puts tb_X12_puts := chkT_ok ft_X12 (by decide +kernel)
def mt_X12_puts : List (Nat × Mt) := []
theorem mk_X12_puts : MOK RX12 mt_X12_puts := fun q hq => by cases hq
noncomputable def xe_X12_puts (ct : Nat → Bool) (K : Kt) (R : Option AV → Hp → Prop) (n : Nat) : Kt := exS 3 1 0 0 0 tb_X12_puts mt_X12_puts ct K R n
noncomputable def xk_X12_puts (ct : Nat → Bool) (K : Kt) (R : Option AV → Hp → Prop) (n : Nat) : Kt := exkS 3 1 0 0 0 tb_X12_puts mt_X12_puts ct K R n
theorem xt_X12_puts {ct : Nat → Bool} {K : Kt} {R : Option AV → Hp → Prop} {n pc : Nat} {ls : List (Option AV)} {st : List AV} {σ : Hp} {k : Nat × Nat} (h : ct pc = true) : xk_X12_puts ct K R n pc ls st σ k = K pc ls st σ k := by unfold xk_X12_puts exkS; rw [h]
theorem xf_X12_puts {ct : Nat → Bool} {K : Kt} {R : Option AV → Hp → Prop} {n pc : Nat} {ls : List (Option AV)} {st : List AV} {σ : Hp} {k : Nat × Nat} (h : ct pc = false) : xk_X12_puts ct K R n pc ls st σ k = xe_X12_puts ct K R n pc ls st σ k := by unfold xk_X12_puts exkS xe_X12_puts; rw [h]
theorem ev_X12_puts_0 {ct : Nat → Bool} {K : Kt} {R : Option AV → Hp → Prop} {n : Nat} {ls : List (Option AV)} {st : List AV} {σ : Hp} {k : Nat × Nat} : xe_X12_puts ct K R (n + 1) 0 ls st σ k = (lR ls 0 fun x => xk_X12_puts ct K R n 1 ls (vr x :: st) σ k) := exS_step.trans rfl
theorem ev_X12_puts_1 {ct : Nat → Bool} {K : Kt} {R : Option AV → Hp → Prop} {n : Nat} {ls : List (Option AV)} {st : List AV} {σ : Hp} {k : Nat × Nat} : xe_X12_puts ct K R (n + 1) 1 ls st σ k = (oR st fun x st => kd σ x = 13 ∧ xk_X12_puts ct K R n 4 ls (vr (fR σ 1324 x) :: st) σ k) := exS_step.trans rfl
theorem ev_X12_puts_4 {ct : Nat → Bool} {K : Kt} {R : Option AV → Hp → Prop} {n : Nat} {ls : List (Option AV)} {st : List AV} {σ : Hp} {k : Nat × Nat} : xe_X12_puts ct K R (n + 1) 4 ls st σ k = (lI ls 1 fun x => xk_X12_puts ct K R n 5 ls (vi x :: st) σ k) := exS_step.trans rfl
theorem ev_X12_puts_5 {ct : Nat → Bool} {K : Kt} {R : Option AV → Hp → Prop} {n : Nat} {ls : List (Option AV)} {st : List AV} {σ : Hp} {k : Nat × Nat} : xe_X12_puts ct K R (n + 1) 5 ls st σ k = (lR ls 0 fun x => xk_X12_puts ct K R n 6 ls (vr x :: st) σ k) := exS_step.trans rfl
theorem ev_X12_puts_6 {ct : Nat → Bool} {K : Kt} {R : Option AV → Hp → Prop} {n : Nat} {ls : List (Option AV)} {st : List AV} {σ : Hp} {k : Nat × Nat} : xe_X12_puts ct K R (n + 1) 6 ls st σ k = (oR st fun x st => kd σ x = 13 ∧ xk_X12_puts ct K R n 9 ls (vr (fR σ 1316 x) :: st) σ k) := exS_step.trans rfl
theorem ev_X12_puts_9 {ct : Nat → Bool} {K : Kt} {R : Option AV → Hp → Prop} {n : Nat} {ls : List (Option AV)} {st : List AV} {σ : Hp} {k : Nat × Nat} : xe_X12_puts ct K R (n + 1) 9 ls st σ k = (xk_X12_puts ct K R n 11 ls (vi (12) :: st) σ k) := exS_step.trans rfl
theorem ev_X12_puts_11 {ct : Nat → Bool} {K : Kt} {R : Option AV → Hp → Prop} {n : Nat} {ls : List (Option AV)} {st : List AV} {σ : Hp} {k : Nat × Nat} : xe_X12_puts ct K R (n + 1) 11 ls st σ k = (lR ls 0 fun x => xk_X12_puts ct K R n 12 ls (vr x :: st) σ k) := exS_step.trans rfl
theorem ev_X12_puts_12 {ct : Nat → Bool} {K : Kt} {R : Option AV → Hp → Prop} {n : Nat} {ls : List (Option AV)} {st : List AV} {σ : Hp} {k : Nat × Nat} : xe_X12_puts ct K R (n + 1) 12 ls st σ k = (oR st fun x st => kd σ x = 13 ∧ xk_X12_puts ct K R n 15 ls (vi (fI σ 1321 x) :: st) σ k) := exS_step.trans rfl
theorem ev_X12_puts_15 {ct : Nat → Bool} {K : Kt} {R : Option AV → Hp → Prop} {n : Nat} {ls : List (Option AV)} {st : List AV} {σ : Hp} {k : Nat × Nat} : xe_X12_puts ct K R (n + 1) 15 ls st σ k = (oI st fun y st => oI st fun x st => xk_X12_puts ct K R n 16 ls (vi (x * y) :: st) σ k) := exS_step.trans rfl
theorem ev_X12_puts_16 {ct : Nat → Bool} {K : Kt} {R : Option AV → Hp → Prop} {n : Nat} {ls : List (Option AV)} {st : List AV} {σ : Hp} {k : Nat × Nat} : xe_X12_puts ct K R (n + 1) 16 ls st σ k = (lI ls 2 fun x => xk_X12_puts ct K R n 17 ls (vi x :: st) σ k) := exS_step.trans rfl
theorem ev_X12_puts_17 {ct : Nat → Bool} {K : Kt} {R : Option AV → Hp → Prop} {n : Nat} {ls : List (Option AV)} {st : List AV} {σ : Hp} {k : Nat × Nat} : xe_X12_puts ct K R (n + 1) 17 ls st σ k = (xk_X12_puts ct K R n 20 ls (vi (300) :: st) σ k) := exS_step.trans rfl
theorem ev_X12_puts_20 {ct : Nat → Bool} {K : Kt} {R : Option AV → Hp → Prop} {n : Nat} {ls : List (Option AV)} {st : List AV} {σ : Hp} {k : Nat × Nat} : xe_X12_puts ct K R (n + 1) 20 ls st σ k = (oI st fun y st => oI st fun x st => ¬ wI y = 0 ∧ xk_X12_puts ct K R n 21 ls (vi (dvI x y) :: st) σ k) := exS_step.trans rfl
theorem ev_X12_puts_21 {ct : Nat → Bool} {K : Kt} {R : Option AV → Hp → Prop} {n : Nat} {ls : List (Option AV)} {st : List AV} {σ : Hp} {k : Nat × Nat} : xe_X12_puts ct K R (n + 1) 21 ls st σ k = (oI st fun y st => oI st fun x st => xk_X12_puts ct K R n 22 ls (vi (x + y) :: st) σ k) := exS_step.trans rfl
theorem ev_X12_puts_22 {ct : Nat → Bool} {K : Kt} {R : Option AV → Hp → Prop} {n : Nat} {ls : List (Option AV)} {st : List AV} {σ : Hp} {k : Nat × Nat} : xe_X12_puts ct K R (n + 1) 22 ls st σ k = (oI st fun j st => oR st fun x st => (kd σ x = 101 ∨ kd σ x = 108) ∧ (0 ≤ j ∧ j < ln σ x) ∧ xk_X12_puts ct K R n 23 ls (vi (aI σ x j) :: st) σ k) := exS_step.trans rfl
theorem ev_X12_puts_23 {ct : Nat → Bool} {K : Kt} {R : Option AV → Hp → Prop} {n : Nat} {ls : List (Option AV)} {st : List AV} {σ : Hp} {k : Nat × Nat} : xe_X12_puts ct K R (n + 1) 23 ls st σ k = (oI st fun v st => oI st fun j st => oR st fun x st => kd σ x = 101 ∧ (0 ≤ j ∧ j < ln σ x) ∧ xk_X12_puts ct K R n 24 ls st (qI σ x j v) k) := exS_step.trans rfl
theorem ev_X12_puts_24 {ct : Nat → Bool} {K : Kt} {R : Option AV → Hp → Prop} {n : Nat} {ls : List (Option AV)} {st : List AV} {σ : Hp} {k : Nat × Nat} : xe_X12_puts ct K R (n + 1) 24 ls st σ k = (lR ls 0 fun x => xk_X12_puts ct K R n 25 ls (vr x :: st) σ k) := exS_step.trans rfl
theorem ev_X12_puts_25 {ct : Nat → Bool} {K : Kt} {R : Option AV → Hp → Prop} {n : Nat} {ls : List (Option AV)} {st : List AV} {σ : Hp} {k : Nat × Nat} : xe_X12_puts ct K R (n + 1) 25 ls st σ k = (oR st fun x st => kd σ x = 13 ∧ xk_X12_puts ct K R n 28 ls (vr (fR σ 1325 x) :: st) σ k) := exS_step.trans rfl
theorem ev_X12_puts_28 {ct : Nat → Bool} {K : Kt} {R : Option AV → Hp → Prop} {n : Nat} {ls : List (Option AV)} {st : List AV} {σ : Hp} {k : Nat × Nat} : xe_X12_puts ct K R (n + 1) 28 ls st σ k = (lI ls 1 fun x => xk_X12_puts ct K R n 29 ls (vi x :: st) σ k) := exS_step.trans rfl
theorem ev_X12_puts_29 {ct : Nat → Bool} {K : Kt} {R : Option AV → Hp → Prop} {n : Nat} {ls : List (Option AV)} {st : List AV} {σ : Hp} {k : Nat × Nat} : xe_X12_puts ct K R (n + 1) 29 ls st σ k = (lR ls 0 fun x => xk_X12_puts ct K R n 30 ls (vr x :: st) σ k) := exS_step.trans rfl
theorem ev_X12_puts_30 {ct : Nat → Bool} {K : Kt} {R : Option AV → Hp → Prop} {n : Nat} {ls : List (Option AV)} {st : List AV} {σ : Hp} {k : Nat × Nat} : xe_X12_puts ct K R (n + 1) 30 ls st σ k = (oR st fun x st => kd σ x = 13 ∧ xk_X12_puts ct K R n 33 ls (vi (fI σ 1331 x) :: st) σ k) := exS_step.trans rfl
theorem ev_X12_puts_33 {ct : Nat → Bool} {K : Kt} {R : Option AV → Hp → Prop} {n : Nat} {ls : List (Option AV)} {st : List AV} {σ : Hp} {k : Nat × Nat} : xe_X12_puts ct K R (n + 1) 33 ls st σ k = (lI ls 2 fun x => xk_X12_puts ct K R n 34 ls (vi x :: st) σ k) := exS_step.trans rfl
theorem ev_X12_puts_34 {ct : Nat → Bool} {K : Kt} {R : Option AV → Hp → Prop} {n : Nat} {ls : List (Option AV)} {st : List AV} {σ : Hp} {k : Nat × Nat} : xe_X12_puts ct K R (n + 1) 34 ls st σ k = (xk_X12_puts ct K R n 37 ls (vi (300) :: st) σ k) := exS_step.trans rfl
theorem ev_X12_puts_37 {ct : Nat → Bool} {K : Kt} {R : Option AV → Hp → Prop} {n : Nat} {ls : List (Option AV)} {st : List AV} {σ : Hp} {k : Nat × Nat} : xe_X12_puts ct K R (n + 1) 37 ls st σ k = (oI st fun y st => oI st fun x st => ¬ wI y = 0 ∧ xk_X12_puts ct K R n 38 ls (vi (rmI x y) :: st) σ k) := exS_step.trans rfl
theorem ev_X12_puts_38 {ct : Nat → Bool} {K : Kt} {R : Option AV → Hp → Prop} {n : Nat} {ls : List (Option AV)} {st : List AV} {σ : Hp} {k : Nat × Nat} : xe_X12_puts ct K R (n + 1) 38 ls st σ k = (oI st fun y st => oI st fun x st => xk_X12_puts ct K R n 39 ls (vi (x + y) :: st) σ k) := exS_step.trans rfl
theorem ev_X12_puts_39 {ct : Nat → Bool} {K : Kt} {R : Option AV → Hp → Prop} {n : Nat} {ls : List (Option AV)} {st : List AV} {σ : Hp} {k : Nat × Nat} : xe_X12_puts ct K R (n + 1) 39 ls st σ k = (oI st fun v st => oI st fun j st => oR st fun x st => kd σ x = 101 ∧ (0 ≤ j ∧ j < ln σ x) ∧ xk_X12_puts ct K R n 40 ls st (qI σ x j v) k) := exS_step.trans rfl
theorem ev_X12_puts_40 {ct : Nat → Bool} {K : Kt} {R : Option AV → Hp → Prop} {n : Nat} {ls : List (Option AV)} {st : List AV} {σ : Hp} {k : Nat × Nat} : xe_X12_puts ct K R (n + 1) 40 ls st σ k = (st = [] ∧ 0 = 0 ∧ R none σ) := exS_step.trans rfl
def M_X12_puts : Md := (yX12_puts, cX12_puts, 3, (none : Option FieldType), 1, 0, 0, 0, false, tb_X12_puts, mt_X12_puts)
theorem mm_X12_puts : MMOK M_X12_puts := ⟨by decide +kernel, tk_X12_puts, mk_X12_puts, rfl, fun h => by cases h⟩
theorem go_X12_puts {Q : Option AV → Hp → Prop} {ct : Nat → Bool} {pc : Nat} {ls : List (Option AV)} {st : List AV} {σ : Hp} {k : Nat × Nat} (n : Nat) (h : xe_X12_puts ct (Go M_X12_puts Q) Q n pc ls st σ k) : Go M_X12_puts Q pc ls st σ k := Go.exS mm_X12_puts h

set_option maxRecDepth 20000 in
theorem c_X12_puts : Ct yX12_puts cX12_puts 3 ((none : Option FieldType)) 1 0 0 sp_X12_puts := by
  refine Ct.go (M := M_X12_puts) mm_X12_puts fun av σ Q h0 => ?_
  obtain ⟨this, n, p, rfl, hk, h⟩ := el_X12_puts h0
  clear h0
  refine ⟨Nat.le_of_ble_eq_true rfl, ?_⟩
  show Go M_X12_puts Q 0 [some (vr this), some (vi n), some (vi p)] [] σ (0, 0)
  obtain ⟨rfl, hI, hn, hp, hr, h⟩ := h
  have x1 := hI.readLoop_s
  have x2 := hI.start_s
  unfold mPuts at h
  refine go_X12_puts (ct := fun p => false) 40 ?_
  simp only [oI, oL, oR, o1, lI, lL, lR, popN, catS, gv, stL, stL2, swt, cnd, spObj, List.getElem?_cons_zero, List.getElem?_cons_succ, List.getD_cons_zero, List.getD_cons_succ, List.set_cons_zero, List.set_cons_succ, List.nil_append, List.cons_append, Option.toList, Bool.or_false, Bool.false_or, Bool.or_true, Bool.true_or, Nat.reduceBEq, Nat.reduceAdd, Nat.reduceLT, Nat.reduceLeDiff, Int.reduceAdd, Int.reduceToNat, true_and, and_true, Fin.isValue, Fin.val_zero, Fin.val_one, Fin.val_two, Fin.reduceFinMk, eq_self, Int.reduceNeg, imp_self, Nat.reduceMul, Nat.le_refl, not_true_eq_false, not_false_eq_true, List.getElem?_nil, reduceCtorEq, true_or, or_true, Classical.not_not, implies_true, or_self, wI_0, wI_1, wI_m1, b2i_w, b2i_eq0, b2i_eq1, b2i_bool, nor_self, nx_pI, kd_pI, ln_pI, fI_pI, fL_pI, fR_pI, aI_pI, aL_pI, aR_pI, nx_pL, kd_pL, ln_pL, fI_pL, fL_pL, fR_pL, aI_pL, aL_pL, aR_pL, nx_pR, kd_pR, ln_pR, fI_pR, fL_pR, fR_pR, aI_pR, aL_pR, aR_pR, nx_qI, kd_qI, ln_qI, fI_qI, fL_qI, fR_qI, aI_qI, aL_qI, aR_qI, nx_qL, kd_qL, ln_qL, fI_qL, fL_qL, fR_qL, aI_qL, aL_qL, aR_qL, nx_qR, kd_qR, ln_qR, fI_qR, fL_qR, fR_qR, aI_qR, aL_qR, aR_qR, nx_mk, kd_mk, ln_mk, fI_mk, fL_mk, fR_mk, aI_mk, aL_mk, aR_mk, false_and, and_false, if_false, if_true, and_self, Int.reduceEq, Nat.reduceEqDiff, ite_self, MLay_pI, MLay_pL, MLay_qI, MLay_qL, ev_X12_puts_0, ev_X12_puts_1, ev_X12_puts_4, ev_X12_puts_5, ev_X12_puts_6, ev_X12_puts_9, ev_X12_puts_11, ev_X12_puts_12, ev_X12_puts_15, ev_X12_puts_16, ev_X12_puts_17, ev_X12_puts_20, ev_X12_puts_21, ev_X12_puts_22, ev_X12_puts_23, ev_X12_puts_24, ev_X12_puts_25, ev_X12_puts_28, ev_X12_puts_29, ev_X12_puts_30, ev_X12_puts_33, ev_X12_puts_34, ev_X12_puts_37, ev_X12_puts_38, ev_X12_puts_39, ev_X12_puts_40, xt_X12_puts, xf_X12_puts, hk, hI.lay.eqs, show wI 300 = 300 by decide]
  try simp (disch := omega) only [wI_id, dv_nn, rm_nn]
  repeat' (first | intro z | apply And.intro)
  all_goals try omega
  all_goals exact h

theorem MI_mPuts {σ : Hp} (h : MI σ) {n p : Int} (hp : fI σ 1331 61 + p % 300 ≤ 1000000) : MI (mPuts σ n p) := by
  have x1 := h.boxAt_ (12 * fI σ 1321 61 + p / 300)
  have x2 := h.start_s
  exact MI_storyTick_q (MI_storyBox_q h (by omega)) (by omega)
def mPut0 (σ : Hp) (n p : Int) : Hp := if p < 0 then σ else mPuts σ n p
def mTells (σ : Hp) (a b c : Int) : Hp := if fI σ 1322 61 = 200 then σ else pI (mPut0 (mPut0 (mPut0 σ (3 * fI σ 1322 61) a) (3 * fI σ 1322 61 + 1) b) (3 * fI σ 1322 61 + 2) c) 1322 61 (fI σ 1322 61 + 1)
theorem MI_mPut0 {σ : Hp} (h : MI σ) {n p : Int} (hp : 0 ≤ p → fI σ 1331 61 + p % 300 ≤ 1000000) : MI (mPut0 σ n p) := by
  unfold mPut0
  split
  · exact h
  · exact MI_mPuts h (hp (by omega))
theorem fI_mPut0 (σ : Hp) (n p : Int) : fI (mPut0 σ n p) = fI σ := by unfold mPut0; split <;> rfl
theorem bA_mPut0 (σ : Hp) (n p : Int) {r : Int} (h : r ≠ 80 ∧ r ≠ 81) : aI (mPut0 σ n p) r = aI σ r := by
  unfold mPut0
  split
  · rfl
  · funext j
    unfold mPuts
    rw [aI_qI, if_neg (fun q => h.2 q.1), aI_qI, if_neg (fun q => h.1 q.1)]

def sp_X12_tells : Sp := fun av σ Q => oR av fun this av => oI av fun a av => oI av fun b av => oI av fun c av => av = [] ∧ kd σ this = 13 ∧ (this = 61 ∧ MI σ ∧ (-1 ≤ a ∧ a < 3600) ∧ (-1 ≤ b ∧ b < 3600) ∧ (-1 ≤ c ∧ c < 3600) ∧ 0 ≤ fI σ 1321 61 ∧ fI σ 1331 61 ≤ 999700 + (300 - fI σ 1329 61) ∧ (0 ≤ a → a % 300 < fI σ 1329 61) ∧ (0 ≤ b → b % 300 < fI σ 1329 61) ∧ (0 ≤ c → c % 300 < fI σ 1329 61) ∧ Q none (mTells σ a b c))
theorem us_X12_tells (this : Int) (a : Int) (b : Int) (c : Int) (σ : Hp) (Q : Option AV → Hp → Prop) : sp_X12_tells [vr this, vi a, vi b, vi c] σ Q = (kd σ this = 13 ∧ (this = 61 ∧ MI σ ∧ (-1 ≤ a ∧ a < 3600) ∧ (-1 ≤ b ∧ b < 3600) ∧ (-1 ≤ c ∧ c < 3600) ∧ 0 ≤ fI σ 1321 61 ∧ fI σ 1331 61 ≤ 999700 + (300 - fI σ 1329 61) ∧ (0 ≤ a → a % 300 < fI σ 1329 61) ∧ (0 ≤ b → b % 300 < fI σ 1329 61) ∧ (0 ≤ c → c % 300 < fI σ 1329 61) ∧ Q none (mTells σ a b c))) := propext ⟨fun h => h.2, fun h => ⟨rfl, h⟩⟩
theorem el_X12_tells {av : List AV} {σ : Hp} {Q : Option AV → Hp → Prop} (h : sp_X12_tells av σ Q) : ∃ (this : Int) (a : Int) (b : Int) (c : Int), av = [vr this, vi a, vi b, vi c] ∧ (kd σ this = 13 ∧ (this = 61 ∧ MI σ ∧ (-1 ≤ a ∧ a < 3600) ∧ (-1 ≤ b ∧ b < 3600) ∧ (-1 ≤ c ∧ c < 3600) ∧ 0 ≤ fI σ 1321 61 ∧ fI σ 1331 61 ≤ 999700 + (300 - fI σ 1329 61) ∧ (0 ≤ a → a % 300 < fI σ 1329 61) ∧ (0 ≤ b → b % 300 < fI σ 1329 61) ∧ (0 ≤ c → c % 300 < fI σ 1329 61) ∧ Q none (mTells σ a b c))) := by
  obtain ⟨this, a0, rfl, h0⟩ := oR_s h
  obtain ⟨a, a1, rfl, h1⟩ := oI_s h0
  obtain ⟨b, a2, rfl, h2⟩ := oI_s h1
  obtain ⟨c, a3, rfl, h3⟩ := oI_s h2
  obtain ⟨rfl, hz⟩ := h3
  exact ⟨this, a, b, c, rfl, hz⟩
theorem rc_X12_tells : ∀ (av : List AV) (σ : Hp) (Q : Option AV → Hp → Prop), sp_X12_tells av σ Q → ∃ r tl, av = vr r :: tl ∧ kd σ r = 12 + 1 := fun av σ Q h => by
  obtain ⟨this, a, b, c, rfl, hz, -⟩ := el_X12_tells h
  exact ⟨this, _, rfl, hz⟩

def tb_X12_tells : Tab := [(0, .aload_n 0, 1, (0, 0, 0, 0)), (1, .getfield 250, 3, (13, 1322, 0, 0)), (4, .sipush 200, 3, (0, 0, 0, 0)), (7, .if_icmp .ne 4, 3, (0, 0, 0, 0)), (10, .return_, 1, (0, 0, 0, 0)), (11, .iconst 3, 1, (0, 0, 0, 0)), (12, .aload_n 0, 1, (0, 0, 0, 0)), (13, .getfield 250, 3, (13, 1322, 0, 0)), (16, .imul, 1, (0, 0, 0, 0)), (17, .istore 4, 2, (0, 0, 0, 0)), (19, .iload_n 1, 1, (0, 0, 0, 0)), (20, .ifCond .lt 10, 3, (0, 0, 0, 0)), (23, .aload_n 0, 1, (0, 0, 0, 0)), (24, .iload 4, 2, (0, 0, 0, 0)), (26, .iload_n 1, 1, (0, 0, 0, 0)), (27, .invokevirtual 253, 3, (0, 0, 0, 0)), (30, .iload_n 2, 1, (0, 0, 0, 0)), (31, .ifCond .lt 12, 3, (0, 0, 0, 0)), (34, .aload_n 0, 1, (0, 0, 0, 0)), (35, .iload 4, 2, (0, 0, 0, 0)), (37, .iconst 1, 1, (0, 0, 0, 0)), (38, .iadd, 1, (0, 0, 0, 0)), (39, .iload_n 2, 1, (0, 0, 0, 0)), (40, .invokevirtual 253, 3, (0, 0, 0, 0)), (43, .iload_n 3, 1, (0, 0, 0, 0)), (44, .ifCond .lt 12, 3, (0, 0, 0, 0)), (47, .aload_n 0, 1, (0, 0, 0, 0)), (48, .iload 4, 2, (0, 0, 0, 0)), (50, .iconst 2, 1, (0, 0, 0, 0)), (51, .iadd, 1, (0, 0, 0, 0)), (52, .iload_n 3, 1, (0, 0, 0, 0)), (53, .invokevirtual 253, 3, (0, 0, 0, 0)), (56, .aload_n 0, 1, (0, 0, 0, 0)), (57, .dup, 1, (0, 0, 0, 0)), (58, .getfield 250, 3, (13, 1322, 0, 0)), (61, .iconst 1, 1, (0, 0, 0, 0)), (62, .iadd, 1, (0, 0, 0, 0)), (63, .putfield 250, 3, (13, 1322, 0, 0)), (66, .return_, 1, (0, 0, 0, 0))]
set_option maxRecDepth 100000 in
theorem tk_X12_tells : TOK RX12 false cX12_tells tb_X12_tells := chkT_ok ft_X12 (by decide +kernel)
theorem rw_X12_2024 : Row RX12 (.invokevirtual 253) 3 3 0 0 1 sp_X12_puts := row_V (n := 2) (ci := 12) c_X12_puts ⟨TBL_in 1839 (by decide +kernel) rfl, TBL_in 1842 (by decide +kernel) rfl, TBL_in 123 (by decide +kernel) rfl, by decide +kernel, by decide⟩ (by decide) rfl (TBL_in 1841 (by decide +kernel) rfl) (TBL_in 73 (by decide +kernel) rfl) rc_X12_puts
def mt_X12_tells : List (Nat × Mt) := [(2024, 3, 0, 0, 1, sp_X12_puts)]
theorem em_X12_tells : mt_X12_tells.lookup 2024 = some (3, 0, 0, 1, sp_X12_puts) := rfl
theorem mk_X12_tells : MOK RX12 mt_X12_tells := by
  intro q hq
  simp only [mt_X12_tells, List.mem_cons, List.not_mem_nil, or_false] at hq
  rcases hq with rfl
  · exact rw_X12_2024
noncomputable def xe_X12_tells (ct : Nat → Bool) (K : Kt) (R : Option AV → Hp → Prop) (n : Nat) : Kt := exS 5 2 0 0 0 tb_X12_tells mt_X12_tells ct K R n
noncomputable def xk_X12_tells (ct : Nat → Bool) (K : Kt) (R : Option AV → Hp → Prop) (n : Nat) : Kt := exkS 5 2 0 0 0 tb_X12_tells mt_X12_tells ct K R n
theorem xt_X12_tells {ct : Nat → Bool} {K : Kt} {R : Option AV → Hp → Prop} {n pc : Nat} {ls : List (Option AV)} {st : List AV} {σ : Hp} {k : Nat × Nat} (h : ct pc = true) : xk_X12_tells ct K R n pc ls st σ k = K pc ls st σ k := by unfold xk_X12_tells exkS; rw [h]
theorem xf_X12_tells {ct : Nat → Bool} {K : Kt} {R : Option AV → Hp → Prop} {n pc : Nat} {ls : List (Option AV)} {st : List AV} {σ : Hp} {k : Nat × Nat} (h : ct pc = false) : xk_X12_tells ct K R n pc ls st σ k = xe_X12_tells ct K R n pc ls st σ k := by unfold xk_X12_tells exkS xe_X12_tells; rw [h]
theorem ev_X12_tells_0 {ct : Nat → Bool} {K : Kt} {R : Option AV → Hp → Prop} {n : Nat} {ls : List (Option AV)} {st : List AV} {σ : Hp} {k : Nat × Nat} : xe_X12_tells ct K R (n + 1) 0 ls st σ k = (lR ls 0 fun x => xk_X12_tells ct K R n 1 ls (vr x :: st) σ k) := exS_step.trans rfl
theorem ev_X12_tells_1 {ct : Nat → Bool} {K : Kt} {R : Option AV → Hp → Prop} {n : Nat} {ls : List (Option AV)} {st : List AV} {σ : Hp} {k : Nat × Nat} : xe_X12_tells ct K R (n + 1) 1 ls st σ k = (oR st fun x st => kd σ x = 13 ∧ xk_X12_tells ct K R n 4 ls (vi (fI σ 1322 x) :: st) σ k) := exS_step.trans rfl
theorem ev_X12_tells_4 {ct : Nat → Bool} {K : Kt} {R : Option AV → Hp → Prop} {n : Nat} {ls : List (Option AV)} {st : List AV} {σ : Hp} {k : Nat × Nat} : xe_X12_tells ct K R (n + 1) 4 ls st σ k = (xk_X12_tells ct K R n 7 ls (vi (200) :: st) σ k) := exS_step.trans rfl
theorem ev_X12_tells_7 {ct : Nat → Bool} {K : Kt} {R : Option AV → Hp → Prop} {n : Nat} {ls : List (Option AV)} {st : List AV} {σ : Hp} {k : Nat × Nat} : xe_X12_tells ct K R (n + 1) 7 ls st σ k = (oI st fun y st => oI st fun x st => (¬ wI x = wI y → xk_X12_tells ct K R n 11 ls st σ k) ∧ (¬ (¬ wI x = wI y) → xk_X12_tells ct K R n 10 ls st σ k)) := exS_step.trans rfl
theorem ev_X12_tells_10 {ct : Nat → Bool} {K : Kt} {R : Option AV → Hp → Prop} {n : Nat} {ls : List (Option AV)} {st : List AV} {σ : Hp} {k : Nat × Nat} : xe_X12_tells ct K R (n + 1) 10 ls st σ k = (st = [] ∧ 0 = 0 ∧ R none σ) := exS_step.trans rfl
theorem ev_X12_tells_11 {ct : Nat → Bool} {K : Kt} {R : Option AV → Hp → Prop} {n : Nat} {ls : List (Option AV)} {st : List AV} {σ : Hp} {k : Nat × Nat} : xe_X12_tells ct K R (n + 1) 11 ls st σ k = (xk_X12_tells ct K R n 12 ls (vi (3) :: st) σ k) := exS_step.trans rfl
theorem ev_X12_tells_12 {ct : Nat → Bool} {K : Kt} {R : Option AV → Hp → Prop} {n : Nat} {ls : List (Option AV)} {st : List AV} {σ : Hp} {k : Nat × Nat} : xe_X12_tells ct K R (n + 1) 12 ls st σ k = (lR ls 0 fun x => xk_X12_tells ct K R n 13 ls (vr x :: st) σ k) := exS_step.trans rfl
theorem ev_X12_tells_13 {ct : Nat → Bool} {K : Kt} {R : Option AV → Hp → Prop} {n : Nat} {ls : List (Option AV)} {st : List AV} {σ : Hp} {k : Nat × Nat} : xe_X12_tells ct K R (n + 1) 13 ls st σ k = (oR st fun x st => kd σ x = 13 ∧ xk_X12_tells ct K R n 16 ls (vi (fI σ 1322 x) :: st) σ k) := exS_step.trans rfl
theorem ev_X12_tells_16 {ct : Nat → Bool} {K : Kt} {R : Option AV → Hp → Prop} {n : Nat} {ls : List (Option AV)} {st : List AV} {σ : Hp} {k : Nat × Nat} : xe_X12_tells ct K R (n + 1) 16 ls st σ k = (oI st fun y st => oI st fun x st => xk_X12_tells ct K R n 17 ls (vi (x * y) :: st) σ k) := exS_step.trans rfl
theorem ev_X12_tells_17 {ct : Nat → Bool} {K : Kt} {R : Option AV → Hp → Prop} {n : Nat} {ls : List (Option AV)} {st : List AV} {σ : Hp} {k : Nat × Nat} : xe_X12_tells ct K R (n + 1) 17 ls st σ k = (oI st fun x st => 4 < 5 ∧ xk_X12_tells ct K R n 19 (stL ls 4 (vi x)) st σ k) := exS_step.trans rfl
theorem ev_X12_tells_19 {ct : Nat → Bool} {K : Kt} {R : Option AV → Hp → Prop} {n : Nat} {ls : List (Option AV)} {st : List AV} {σ : Hp} {k : Nat × Nat} : xe_X12_tells ct K R (n + 1) 19 ls st σ k = (lI ls 1 fun x => xk_X12_tells ct K R n 20 ls (vi x :: st) σ k) := exS_step.trans rfl
theorem ev_X12_tells_20 {ct : Nat → Bool} {K : Kt} {R : Option AV → Hp → Prop} {n : Nat} {ls : List (Option AV)} {st : List AV} {σ : Hp} {k : Nat × Nat} : xe_X12_tells ct K R (n + 1) 20 ls st σ k = (oI st fun x st => (wI x < wI 0 → xk_X12_tells ct K R n 30 ls st σ k) ∧ (¬ (wI x < wI 0) → xk_X12_tells ct K R n 23 ls st σ k)) := exS_step.trans rfl
theorem ev_X12_tells_23 {ct : Nat → Bool} {K : Kt} {R : Option AV → Hp → Prop} {n : Nat} {ls : List (Option AV)} {st : List AV} {σ : Hp} {k : Nat × Nat} : xe_X12_tells ct K R (n + 1) 23 ls st σ k = (lR ls 0 fun x => xk_X12_tells ct K R n 24 ls (vr x :: st) σ k) := exS_step.trans rfl
theorem ev_X12_tells_24 {ct : Nat → Bool} {K : Kt} {R : Option AV → Hp → Prop} {n : Nat} {ls : List (Option AV)} {st : List AV} {σ : Hp} {k : Nat × Nat} : xe_X12_tells ct K R (n + 1) 24 ls st σ k = (lI ls 4 fun x => xk_X12_tells ct K R n 26 ls (vi x :: st) σ k) := exS_step.trans rfl
theorem ev_X12_tells_26 {ct : Nat → Bool} {K : Kt} {R : Option AV → Hp → Prop} {n : Nat} {ls : List (Option AV)} {st : List AV} {σ : Hp} {k : Nat × Nat} : xe_X12_tells ct K R (n + 1) 26 ls st σ k = (lI ls 1 fun x => xk_X12_tells ct K R n 27 ls (vi x :: st) σ k) := exS_step.trans rfl
theorem ev_X12_tells_27 {ct : Nat → Bool} {K : Kt} {R : Option AV → Hp → Prop} {n : Nat} {ls : List (Option AV)} {st : List AV} {σ : Hp} {k : Nat × Nat} : xe_X12_tells ct K R (n + 1) 27 ls st σ k = (popN 3 st [] fun av rest => (catS rest ≤ 8 ∧ 1 < 2 ∧ k.1 + 0 ≤ 0 ∧ k.2 + 0 ≤ 0) ∧ (sp_X12_puts) av σ fun v σ' => xk_X12_tells ct K R n 30 ls (v.toList ++ rest) σ' (k.1 + 0, k.2 + 0)) := exS_step.trans rfl
theorem ev_X12_tells_30 {ct : Nat → Bool} {K : Kt} {R : Option AV → Hp → Prop} {n : Nat} {ls : List (Option AV)} {st : List AV} {σ : Hp} {k : Nat × Nat} : xe_X12_tells ct K R (n + 1) 30 ls st σ k = (lI ls 2 fun x => xk_X12_tells ct K R n 31 ls (vi x :: st) σ k) := exS_step.trans rfl
theorem ev_X12_tells_31 {ct : Nat → Bool} {K : Kt} {R : Option AV → Hp → Prop} {n : Nat} {ls : List (Option AV)} {st : List AV} {σ : Hp} {k : Nat × Nat} : xe_X12_tells ct K R (n + 1) 31 ls st σ k = (oI st fun x st => (wI x < wI 0 → xk_X12_tells ct K R n 43 ls st σ k) ∧ (¬ (wI x < wI 0) → xk_X12_tells ct K R n 34 ls st σ k)) := exS_step.trans rfl
theorem ev_X12_tells_34 {ct : Nat → Bool} {K : Kt} {R : Option AV → Hp → Prop} {n : Nat} {ls : List (Option AV)} {st : List AV} {σ : Hp} {k : Nat × Nat} : xe_X12_tells ct K R (n + 1) 34 ls st σ k = (lR ls 0 fun x => xk_X12_tells ct K R n 35 ls (vr x :: st) σ k) := exS_step.trans rfl
theorem ev_X12_tells_35 {ct : Nat → Bool} {K : Kt} {R : Option AV → Hp → Prop} {n : Nat} {ls : List (Option AV)} {st : List AV} {σ : Hp} {k : Nat × Nat} : xe_X12_tells ct K R (n + 1) 35 ls st σ k = (lI ls 4 fun x => xk_X12_tells ct K R n 37 ls (vi x :: st) σ k) := exS_step.trans rfl
theorem ev_X12_tells_37 {ct : Nat → Bool} {K : Kt} {R : Option AV → Hp → Prop} {n : Nat} {ls : List (Option AV)} {st : List AV} {σ : Hp} {k : Nat × Nat} : xe_X12_tells ct K R (n + 1) 37 ls st σ k = (xk_X12_tells ct K R n 38 ls (vi (1) :: st) σ k) := exS_step.trans rfl
theorem ev_X12_tells_38 {ct : Nat → Bool} {K : Kt} {R : Option AV → Hp → Prop} {n : Nat} {ls : List (Option AV)} {st : List AV} {σ : Hp} {k : Nat × Nat} : xe_X12_tells ct K R (n + 1) 38 ls st σ k = (oI st fun y st => oI st fun x st => xk_X12_tells ct K R n 39 ls (vi (x + y) :: st) σ k) := exS_step.trans rfl
theorem ev_X12_tells_39 {ct : Nat → Bool} {K : Kt} {R : Option AV → Hp → Prop} {n : Nat} {ls : List (Option AV)} {st : List AV} {σ : Hp} {k : Nat × Nat} : xe_X12_tells ct K R (n + 1) 39 ls st σ k = (lI ls 2 fun x => xk_X12_tells ct K R n 40 ls (vi x :: st) σ k) := exS_step.trans rfl
theorem ev_X12_tells_40 {ct : Nat → Bool} {K : Kt} {R : Option AV → Hp → Prop} {n : Nat} {ls : List (Option AV)} {st : List AV} {σ : Hp} {k : Nat × Nat} : xe_X12_tells ct K R (n + 1) 40 ls st σ k = (popN 3 st [] fun av rest => (catS rest ≤ 8 ∧ 1 < 2 ∧ k.1 + 0 ≤ 0 ∧ k.2 + 0 ≤ 0) ∧ (sp_X12_puts) av σ fun v σ' => xk_X12_tells ct K R n 43 ls (v.toList ++ rest) σ' (k.1 + 0, k.2 + 0)) := exS_step.trans rfl
theorem ev_X12_tells_43 {ct : Nat → Bool} {K : Kt} {R : Option AV → Hp → Prop} {n : Nat} {ls : List (Option AV)} {st : List AV} {σ : Hp} {k : Nat × Nat} : xe_X12_tells ct K R (n + 1) 43 ls st σ k = (lI ls 3 fun x => xk_X12_tells ct K R n 44 ls (vi x :: st) σ k) := exS_step.trans rfl
theorem ev_X12_tells_44 {ct : Nat → Bool} {K : Kt} {R : Option AV → Hp → Prop} {n : Nat} {ls : List (Option AV)} {st : List AV} {σ : Hp} {k : Nat × Nat} : xe_X12_tells ct K R (n + 1) 44 ls st σ k = (oI st fun x st => (wI x < wI 0 → xk_X12_tells ct K R n 56 ls st σ k) ∧ (¬ (wI x < wI 0) → xk_X12_tells ct K R n 47 ls st σ k)) := exS_step.trans rfl
theorem ev_X12_tells_47 {ct : Nat → Bool} {K : Kt} {R : Option AV → Hp → Prop} {n : Nat} {ls : List (Option AV)} {st : List AV} {σ : Hp} {k : Nat × Nat} : xe_X12_tells ct K R (n + 1) 47 ls st σ k = (lR ls 0 fun x => xk_X12_tells ct K R n 48 ls (vr x :: st) σ k) := exS_step.trans rfl
theorem ev_X12_tells_48 {ct : Nat → Bool} {K : Kt} {R : Option AV → Hp → Prop} {n : Nat} {ls : List (Option AV)} {st : List AV} {σ : Hp} {k : Nat × Nat} : xe_X12_tells ct K R (n + 1) 48 ls st σ k = (lI ls 4 fun x => xk_X12_tells ct K R n 50 ls (vi x :: st) σ k) := exS_step.trans rfl
theorem ev_X12_tells_50 {ct : Nat → Bool} {K : Kt} {R : Option AV → Hp → Prop} {n : Nat} {ls : List (Option AV)} {st : List AV} {σ : Hp} {k : Nat × Nat} : xe_X12_tells ct K R (n + 1) 50 ls st σ k = (xk_X12_tells ct K R n 51 ls (vi (2) :: st) σ k) := exS_step.trans rfl
theorem ev_X12_tells_51 {ct : Nat → Bool} {K : Kt} {R : Option AV → Hp → Prop} {n : Nat} {ls : List (Option AV)} {st : List AV} {σ : Hp} {k : Nat × Nat} : xe_X12_tells ct K R (n + 1) 51 ls st σ k = (oI st fun y st => oI st fun x st => xk_X12_tells ct K R n 52 ls (vi (x + y) :: st) σ k) := exS_step.trans rfl
theorem ev_X12_tells_52 {ct : Nat → Bool} {K : Kt} {R : Option AV → Hp → Prop} {n : Nat} {ls : List (Option AV)} {st : List AV} {σ : Hp} {k : Nat × Nat} : xe_X12_tells ct K R (n + 1) 52 ls st σ k = (lI ls 3 fun x => xk_X12_tells ct K R n 53 ls (vi x :: st) σ k) := exS_step.trans rfl
theorem ev_X12_tells_53 {ct : Nat → Bool} {K : Kt} {R : Option AV → Hp → Prop} {n : Nat} {ls : List (Option AV)} {st : List AV} {σ : Hp} {k : Nat × Nat} : xe_X12_tells ct K R (n + 1) 53 ls st σ k = (popN 3 st [] fun av rest => (catS rest ≤ 8 ∧ 1 < 2 ∧ k.1 + 0 ≤ 0 ∧ k.2 + 0 ≤ 0) ∧ (sp_X12_puts) av σ fun v σ' => xk_X12_tells ct K R n 56 ls (v.toList ++ rest) σ' (k.1 + 0, k.2 + 0)) := exS_step.trans rfl
theorem ev_X12_tells_56 {ct : Nat → Bool} {K : Kt} {R : Option AV → Hp → Prop} {n : Nat} {ls : List (Option AV)} {st : List AV} {σ : Hp} {k : Nat × Nat} : xe_X12_tells ct K R (n + 1) 56 ls st σ k = (lR ls 0 fun x => xk_X12_tells ct K R n 57 ls (vr x :: st) σ k) := exS_step.trans rfl
theorem ev_X12_tells_57 {ct : Nat → Bool} {K : Kt} {R : Option AV → Hp → Prop} {n : Nat} {ls : List (Option AV)} {st : List AV} {σ : Hp} {k : Nat × Nat} : xe_X12_tells ct K R (n + 1) 57 ls st σ k = (o1 st fun v st => xk_X12_tells ct K R n 58 ls (v :: v :: st) σ k) := exS_step.trans rfl
theorem ev_X12_tells_58 {ct : Nat → Bool} {K : Kt} {R : Option AV → Hp → Prop} {n : Nat} {ls : List (Option AV)} {st : List AV} {σ : Hp} {k : Nat × Nat} : xe_X12_tells ct K R (n + 1) 58 ls st σ k = (oR st fun x st => kd σ x = 13 ∧ xk_X12_tells ct K R n 61 ls (vi (fI σ 1322 x) :: st) σ k) := exS_step.trans rfl
theorem ev_X12_tells_61 {ct : Nat → Bool} {K : Kt} {R : Option AV → Hp → Prop} {n : Nat} {ls : List (Option AV)} {st : List AV} {σ : Hp} {k : Nat × Nat} : xe_X12_tells ct K R (n + 1) 61 ls st σ k = (xk_X12_tells ct K R n 62 ls (vi (1) :: st) σ k) := exS_step.trans rfl
theorem ev_X12_tells_62 {ct : Nat → Bool} {K : Kt} {R : Option AV → Hp → Prop} {n : Nat} {ls : List (Option AV)} {st : List AV} {σ : Hp} {k : Nat × Nat} : xe_X12_tells ct K R (n + 1) 62 ls st σ k = (oI st fun y st => oI st fun x st => xk_X12_tells ct K R n 63 ls (vi (x + y) :: st) σ k) := exS_step.trans rfl
theorem ev_X12_tells_63 {ct : Nat → Bool} {K : Kt} {R : Option AV → Hp → Prop} {n : Nat} {ls : List (Option AV)} {st : List AV} {σ : Hp} {k : Nat × Nat} : xe_X12_tells ct K R (n + 1) 63 ls st σ k = (oI st fun v st => oR st fun x st => kd σ x = 13 ∧ xk_X12_tells ct K R n 66 ls st (pI σ 1322 x v) k) := exS_step.trans rfl
theorem ev_X12_tells_66 {ct : Nat → Bool} {K : Kt} {R : Option AV → Hp → Prop} {n : Nat} {ls : List (Option AV)} {st : List AV} {σ : Hp} {k : Nat × Nat} : xe_X12_tells ct K R (n + 1) 66 ls st σ k = (st = [] ∧ 0 = 0 ∧ R none σ) := exS_step.trans rfl
def M_X12_tells : Md := (yX12_tells, cX12_tells, 5, (none : Option FieldType), 2, 0, 0, 0, false, tb_X12_tells, mt_X12_tells)
theorem mm_X12_tells : MMOK M_X12_tells := ⟨by decide +kernel, tk_X12_tells, mk_X12_tells, rfl, fun h => by cases h⟩
theorem go_X12_tells {Q : Option AV → Hp → Prop} {ct : Nat → Bool} {pc : Nat} {ls : List (Option AV)} {st : List AV} {σ : Hp} {k : Nat × Nat} (n : Nat) (h : xe_X12_tells ct (Go M_X12_tells Q) Q n pc ls st σ k) : Go M_X12_tells Q pc ls st σ k := Go.exS mm_X12_tells h

set_option maxRecDepth 20000 in
theorem tl_43 {Q : Option AV → Hp → Prop} {a b c n : Int} {τ : Hp} (hI : MI τ) (hc : -1 ≤ c ∧ c < 3600) (hn : 0 ≤ n ∧ n < 200) (hs : fI τ 1322 61 = n) (hr : 0 ≤ fI τ 1321 61) (h : Q none (pI (mPut0 τ (3 * n + 2) c) 1322 61 (n + 1))) : Go M_X12_tells Q 43 [some (vr 61), some (vi a), some (vi b), some (vi c), some (vi (3 * n))] [] τ (0, 0) := by
  have hk : kd τ 61 = 13 := hI.lay.1
  unfold mPut0 at h
  have hk2 : kd (mPuts τ (3 * n + 2) c) 61 = 13 := hk
  have hs2 : fI (mPuts τ (3 * n + 2) c) 1322 61 = n := hs
  by_cases e : c < 0
  · rw [if_pos e] at h
    refine go_X12_tells (ct := fun p => p == 47) 30 ?_
    simp only [oI, oL, oR, o1, lI, lL, lR, popN, catS, gv, stL, stL2, swt, cnd, spObj, List.getElem?_cons_zero, List.getElem?_cons_succ, List.getD_cons_zero, List.getD_cons_succ, List.set_cons_zero, List.set_cons_succ, List.nil_append, List.cons_append, Option.toList, Bool.or_false, Bool.false_or, Bool.or_true, Bool.true_or, Nat.reduceBEq, Nat.reduceAdd, Nat.reduceLT, Nat.reduceLeDiff, Int.reduceAdd, Int.reduceToNat, true_and, and_true, Fin.isValue, Fin.val_zero, Fin.val_one, Fin.val_two, Fin.reduceFinMk, eq_self, Int.reduceNeg, imp_self, Nat.reduceMul, Nat.le_refl, not_true_eq_false, not_false_eq_true, List.getElem?_nil, reduceCtorEq, true_or, or_true, Classical.not_not, implies_true, or_self, wI_0, wI_1, wI_m1, b2i_w, b2i_eq0, b2i_eq1, b2i_bool, nor_self, nx_pI, kd_pI, ln_pI, fI_pI, fL_pI, fR_pI, aI_pI, aL_pI, aR_pI, nx_pL, kd_pL, ln_pL, fI_pL, fL_pL, fR_pL, aI_pL, aL_pL, aR_pL, nx_pR, kd_pR, ln_pR, fI_pR, fL_pR, fR_pR, aI_pR, aL_pR, aR_pR, nx_qI, kd_qI, ln_qI, fI_qI, fL_qI, fR_qI, aI_qI, aL_qI, aR_qI, nx_qL, kd_qL, ln_qL, fI_qL, fL_qL, fR_qL, aI_qL, aL_qL, aR_qL, nx_qR, kd_qR, ln_qR, fI_qR, fL_qR, fR_qR, aI_qR, aL_qR, aR_qR, nx_mk, kd_mk, ln_mk, fI_mk, fL_mk, fR_mk, aI_mk, aL_mk, aR_mk, false_and, and_false, if_false, if_true, and_self, Int.reduceEq, Nat.reduceEqDiff, ite_self, MLay_pI, MLay_pL, MLay_qI, MLay_qL, ev_X12_tells_43, ev_X12_tells_44, ev_X12_tells_47, ev_X12_tells_48, ev_X12_tells_50, ev_X12_tells_51, ev_X12_tells_52, ev_X12_tells_53, ev_X12_tells_56, ev_X12_tells_57, ev_X12_tells_58, ev_X12_tells_61, ev_X12_tells_62, ev_X12_tells_63, ev_X12_tells_66, xt_X12_tells, xf_X12_tells, us_X12_puts, hk, hs]
    try simp (disch := omega) only [wI_id, dv_nn, rm_nn]
    repeat' (first | intro z | apply And.intro)
    all_goals try omega
    all_goals exact h
  · rw [if_neg e] at h
    refine go_X12_tells (ct := fun p => false) 30 ?_
    simp only [oI, oL, oR, o1, lI, lL, lR, popN, catS, gv, stL, stL2, swt, cnd, spObj, List.getElem?_cons_zero, List.getElem?_cons_succ, List.getD_cons_zero, List.getD_cons_succ, List.set_cons_zero, List.set_cons_succ, List.nil_append, List.cons_append, Option.toList, Bool.or_false, Bool.false_or, Bool.or_true, Bool.true_or, Nat.reduceBEq, Nat.reduceAdd, Nat.reduceLT, Nat.reduceLeDiff, Int.reduceAdd, Int.reduceToNat, true_and, and_true, Fin.isValue, Fin.val_zero, Fin.val_one, Fin.val_two, Fin.reduceFinMk, eq_self, Int.reduceNeg, imp_self, Nat.reduceMul, Nat.le_refl, not_true_eq_false, not_false_eq_true, List.getElem?_nil, reduceCtorEq, true_or, or_true, Classical.not_not, implies_true, or_self, wI_0, wI_1, wI_m1, b2i_w, b2i_eq0, b2i_eq1, b2i_bool, nor_self, nx_pI, kd_pI, ln_pI, fI_pI, fL_pI, fR_pI, aI_pI, aL_pI, aR_pI, nx_pL, kd_pL, ln_pL, fI_pL, fL_pL, fR_pL, aI_pL, aL_pL, aR_pL, nx_pR, kd_pR, ln_pR, fI_pR, fL_pR, fR_pR, aI_pR, aL_pR, aR_pR, nx_qI, kd_qI, ln_qI, fI_qI, fL_qI, fR_qI, aI_qI, aL_qI, aR_qI, nx_qL, kd_qL, ln_qL, fI_qL, fL_qL, fR_qL, aI_qL, aL_qL, aR_qL, nx_qR, kd_qR, ln_qR, fI_qR, fL_qR, fR_qR, aI_qR, aL_qR, aR_qR, nx_mk, kd_mk, ln_mk, fI_mk, fL_mk, fR_mk, aI_mk, aL_mk, aR_mk, false_and, and_false, if_false, if_true, and_self, Int.reduceEq, Nat.reduceEqDiff, ite_self, MLay_pI, MLay_pL, MLay_qI, MLay_qL, ev_X12_tells_43, ev_X12_tells_44, ev_X12_tells_47, ev_X12_tells_48, ev_X12_tells_50, ev_X12_tells_51, ev_X12_tells_52, ev_X12_tells_53, ev_X12_tells_56, ev_X12_tells_57, ev_X12_tells_58, ev_X12_tells_61, ev_X12_tells_62, ev_X12_tells_63, ev_X12_tells_66, xt_X12_tells, xf_X12_tells, us_X12_puts, hk, hs, hI, hr, hk2, hs2]
    try simp (disch := omega) only [wI_id, dv_nn, rm_nn]
    repeat' (first | intro z | apply And.intro)
    all_goals try omega
    all_goals exact h

set_option maxRecDepth 20000 in
theorem tl_30 {Q : Option AV → Hp → Prop} {a b c n : Int} {τ : Hp} (hI : MI τ) (hb : -1 ≤ b ∧ b < 3600) (hb2 : 0 ≤ b → fI τ 1331 61 + b % 300 ≤ 1000000) (hc : -1 ≤ c ∧ c < 3600) (hn : 0 ≤ n ∧ n < 200) (hs : fI τ 1322 61 = n) (hr : 0 ≤ fI τ 1321 61) (h : Q none (pI (mPut0 (mPut0 τ (3 * n + 1) b) (3 * n + 2) c) 1322 61 (n + 1))) : Go M_X12_tells Q 30 [some (vr 61), some (vi a), some (vi b), some (vi c), some (vi (3 * n))] [] τ (0, 0) := by
  have hk : kd τ 61 = 13 := hI.lay.1
  have w := tl_43 (Q := Q) (a := a) (b := b) (c := c) (MI_mPut0 (n := 3 * n + 1) hI hb2) hc hn (by rw [fI_mPut0]; exact hs) (by rw [fI_mPut0]; exact hr) h
  unfold mPut0 at w
  by_cases e : b < 0
  · rw [if_pos e] at w
    refine go_X12_tells (ct := fun p => p == 34 || p == 43) 30 ?_
    simp only [oI, oL, oR, o1, lI, lL, lR, popN, catS, gv, stL, stL2, swt, cnd, spObj, List.getElem?_cons_zero, List.getElem?_cons_succ, List.getD_cons_zero, List.getD_cons_succ, List.set_cons_zero, List.set_cons_succ, List.nil_append, List.cons_append, Option.toList, Bool.or_false, Bool.false_or, Bool.or_true, Bool.true_or, Nat.reduceBEq, Nat.reduceAdd, Nat.reduceLT, Nat.reduceLeDiff, Int.reduceAdd, Int.reduceToNat, true_and, and_true, Fin.isValue, Fin.val_zero, Fin.val_one, Fin.val_two, Fin.reduceFinMk, eq_self, Int.reduceNeg, imp_self, Nat.reduceMul, Nat.le_refl, not_true_eq_false, not_false_eq_true, List.getElem?_nil, reduceCtorEq, true_or, or_true, Classical.not_not, implies_true, or_self, wI_0, wI_1, wI_m1, b2i_w, b2i_eq0, b2i_eq1, b2i_bool, nor_self, nx_pI, kd_pI, ln_pI, fI_pI, fL_pI, fR_pI, aI_pI, aL_pI, aR_pI, nx_pL, kd_pL, ln_pL, fI_pL, fL_pL, fR_pL, aI_pL, aL_pL, aR_pL, nx_pR, kd_pR, ln_pR, fI_pR, fL_pR, fR_pR, aI_pR, aL_pR, aR_pR, nx_qI, kd_qI, ln_qI, fI_qI, fL_qI, fR_qI, aI_qI, aL_qI, aR_qI, nx_qL, kd_qL, ln_qL, fI_qL, fL_qL, fR_qL, aI_qL, aL_qL, aR_qL, nx_qR, kd_qR, ln_qR, fI_qR, fL_qR, fR_qR, aI_qR, aL_qR, aR_qR, nx_mk, kd_mk, ln_mk, fI_mk, fL_mk, fR_mk, aI_mk, aL_mk, aR_mk, false_and, and_false, if_false, if_true, and_self, Int.reduceEq, Nat.reduceEqDiff, ite_self, MLay_pI, MLay_pL, MLay_qI, MLay_qL, ev_X12_tells_30, ev_X12_tells_31, ev_X12_tells_34, ev_X12_tells_35, ev_X12_tells_37, ev_X12_tells_38, ev_X12_tells_39, ev_X12_tells_40, xt_X12_tells, xf_X12_tells, us_X12_puts, hk]
    try simp (disch := omega) only [wI_id, dv_nn, rm_nn]
    repeat' (first | intro z | apply And.intro)
    all_goals try omega
    all_goals exact w
  · rw [if_neg e] at w
    refine go_X12_tells (ct := fun p => p == 43) 30 ?_
    simp only [oI, oL, oR, o1, lI, lL, lR, popN, catS, gv, stL, stL2, swt, cnd, spObj, List.getElem?_cons_zero, List.getElem?_cons_succ, List.getD_cons_zero, List.getD_cons_succ, List.set_cons_zero, List.set_cons_succ, List.nil_append, List.cons_append, Option.toList, Bool.or_false, Bool.false_or, Bool.or_true, Bool.true_or, Nat.reduceBEq, Nat.reduceAdd, Nat.reduceLT, Nat.reduceLeDiff, Int.reduceAdd, Int.reduceToNat, true_and, and_true, Fin.isValue, Fin.val_zero, Fin.val_one, Fin.val_two, Fin.reduceFinMk, eq_self, Int.reduceNeg, imp_self, Nat.reduceMul, Nat.le_refl, not_true_eq_false, not_false_eq_true, List.getElem?_nil, reduceCtorEq, true_or, or_true, Classical.not_not, implies_true, or_self, wI_0, wI_1, wI_m1, b2i_w, b2i_eq0, b2i_eq1, b2i_bool, nor_self, nx_pI, kd_pI, ln_pI, fI_pI, fL_pI, fR_pI, aI_pI, aL_pI, aR_pI, nx_pL, kd_pL, ln_pL, fI_pL, fL_pL, fR_pL, aI_pL, aL_pL, aR_pL, nx_pR, kd_pR, ln_pR, fI_pR, fL_pR, fR_pR, aI_pR, aL_pR, aR_pR, nx_qI, kd_qI, ln_qI, fI_qI, fL_qI, fR_qI, aI_qI, aL_qI, aR_qI, nx_qL, kd_qL, ln_qL, fI_qL, fL_qL, fR_qL, aI_qL, aL_qL, aR_qL, nx_qR, kd_qR, ln_qR, fI_qR, fL_qR, fR_qR, aI_qR, aL_qR, aR_qR, nx_mk, kd_mk, ln_mk, fI_mk, fL_mk, fR_mk, aI_mk, aL_mk, aR_mk, false_and, and_false, if_false, if_true, and_self, Int.reduceEq, Nat.reduceEqDiff, ite_self, MLay_pI, MLay_pL, MLay_qI, MLay_qL, ev_X12_tells_30, ev_X12_tells_31, ev_X12_tells_34, ev_X12_tells_35, ev_X12_tells_37, ev_X12_tells_38, ev_X12_tells_39, ev_X12_tells_40, xt_X12_tells, xf_X12_tells, us_X12_puts, hk, hI, hr]
    try simp (disch := omega) only [wI_id, dv_nn, rm_nn]
    repeat' (first | intro z | apply And.intro)
    all_goals try omega
    all_goals exact w

set_option maxRecDepth 20000 in
theorem c_X12_tells : Ct yX12_tells cX12_tells 5 ((none : Option FieldType)) 2 0 0 sp_X12_tells := by
  refine Ct.go (M := M_X12_tells) mm_X12_tells fun av σ Q h0 => ?_
  obtain ⟨this, a, b, c, rfl, hk, h⟩ := el_X12_tells h0
  clear h0
  refine ⟨Nat.le_of_ble_eq_true rfl, ?_⟩
  show Go M_X12_tells Q 0 [some (vr this), some (vi a), some (vi b), some (vi c), none] [] σ (0, 0)
  obtain ⟨rfl, hI, ha, hb, hc, hr, hst, ha2, hb2, hc2, h⟩ := h
  have x1 := hI.storyCount_s
  have x2 := hI.start_s
  have hw : wI 200 = 200 := by decide
  unfold mTells at h
  by_cases e : fI σ 1322 61 = 200
  · rw [if_pos e] at h
    refine go_X12_tells (ct := fun p => p == 11) 30 ?_
    simp only [oI, oL, oR, o1, lI, lL, lR, popN, catS, gv, stL, stL2, swt, cnd, spObj, List.getElem?_cons_zero, List.getElem?_cons_succ, List.getD_cons_zero, List.getD_cons_succ, List.set_cons_zero, List.set_cons_succ, List.nil_append, List.cons_append, Option.toList, Bool.or_false, Bool.false_or, Bool.or_true, Bool.true_or, Nat.reduceBEq, Nat.reduceAdd, Nat.reduceLT, Nat.reduceLeDiff, Int.reduceAdd, Int.reduceToNat, true_and, and_true, Fin.isValue, Fin.val_zero, Fin.val_one, Fin.val_two, Fin.reduceFinMk, eq_self, Int.reduceNeg, imp_self, Nat.reduceMul, Nat.le_refl, not_true_eq_false, not_false_eq_true, List.getElem?_nil, reduceCtorEq, true_or, or_true, Classical.not_not, implies_true, or_self, wI_0, wI_1, wI_m1, b2i_w, b2i_eq0, b2i_eq1, b2i_bool, nor_self, nx_pI, kd_pI, ln_pI, fI_pI, fL_pI, fR_pI, aI_pI, aL_pI, aR_pI, nx_pL, kd_pL, ln_pL, fI_pL, fL_pL, fR_pL, aI_pL, aL_pL, aR_pL, nx_pR, kd_pR, ln_pR, fI_pR, fL_pR, fR_pR, aI_pR, aL_pR, aR_pR, nx_qI, kd_qI, ln_qI, fI_qI, fL_qI, fR_qI, aI_qI, aL_qI, aR_qI, nx_qL, kd_qL, ln_qL, fI_qL, fL_qL, fR_qL, aI_qL, aL_qL, aR_qL, nx_qR, kd_qR, ln_qR, fI_qR, fL_qR, fR_qR, aI_qR, aL_qR, aR_qR, nx_mk, kd_mk, ln_mk, fI_mk, fL_mk, fR_mk, aI_mk, aL_mk, aR_mk, false_and, and_false, if_false, if_true, and_self, Int.reduceEq, Nat.reduceEqDiff, ite_self, MLay_pI, MLay_pL, MLay_qI, MLay_qL, ev_X12_tells_0, ev_X12_tells_1, ev_X12_tells_4, ev_X12_tells_7, ev_X12_tells_10, ev_X12_tells_11, ev_X12_tells_12, ev_X12_tells_13, ev_X12_tells_16, ev_X12_tells_17, ev_X12_tells_19, ev_X12_tells_20, xt_X12_tells, xf_X12_tells, us_X12_puts, hk, e, not_true_eq_false, false_imp_iff, true_imp_iff]
    exact h
  · rw [if_neg e] at h
    have en : (fI σ 1322 61 = 200) = False := eq_false e
    have hwc : wI (fI σ 1322 61) = fI σ 1322 61 := wI_id (by omega) (by omega)
    have w := tl_30 (Q := Q) (a := a) (b := b) (c := c) (MI_mPut0 (n := 3 * fI σ 1322 61) (p := a) hI (fun z => by have := ha2 z; omega)) hb (fun z => by rw [fI_mPut0]; have := hb2 z; omega) hc (n := fI σ 1322 61) (by omega) (by rw [fI_mPut0]) (by rw [fI_mPut0]; exact hr) h
    unfold mPut0 at w
    by_cases e2 : a < 0
    · rw [if_pos e2] at w
      refine go_X12_tells (ct := fun p => p == 10 || p == 30) 30 ?_
      simp only [oI, oL, oR, o1, lI, lL, lR, popN, catS, gv, stL, stL2, swt, cnd, spObj, List.getElem?_cons_zero, List.getElem?_cons_succ, List.getD_cons_zero, List.getD_cons_succ, List.set_cons_zero, List.set_cons_succ, List.nil_append, List.cons_append, Option.toList, Bool.or_false, Bool.false_or, Bool.or_true, Bool.true_or, Nat.reduceBEq, Nat.reduceAdd, Nat.reduceLT, Nat.reduceLeDiff, Int.reduceAdd, Int.reduceToNat, true_and, and_true, Fin.isValue, Fin.val_zero, Fin.val_one, Fin.val_two, Fin.reduceFinMk, eq_self, Int.reduceNeg, imp_self, Nat.reduceMul, Nat.le_refl, not_true_eq_false, not_false_eq_true, List.getElem?_nil, reduceCtorEq, true_or, or_true, Classical.not_not, implies_true, or_self, wI_0, wI_1, wI_m1, b2i_w, b2i_eq0, b2i_eq1, b2i_bool, nor_self, nx_pI, kd_pI, ln_pI, fI_pI, fL_pI, fR_pI, aI_pI, aL_pI, aR_pI, nx_pL, kd_pL, ln_pL, fI_pL, fL_pL, fR_pL, aI_pL, aL_pL, aR_pL, nx_pR, kd_pR, ln_pR, fI_pR, fL_pR, fR_pR, aI_pR, aL_pR, aR_pR, nx_qI, kd_qI, ln_qI, fI_qI, fL_qI, fR_qI, aI_qI, aL_qI, aR_qI, nx_qL, kd_qL, ln_qL, fI_qL, fL_qL, fR_qL, aI_qL, aL_qL, aR_qL, nx_qR, kd_qR, ln_qR, fI_qR, fL_qR, fR_qR, aI_qR, aL_qR, aR_qR, nx_mk, kd_mk, ln_mk, fI_mk, fL_mk, fR_mk, aI_mk, aL_mk, aR_mk, false_and, and_false, if_false, if_true, and_self, Int.reduceEq, Nat.reduceEqDiff, ite_self, MLay_pI, MLay_pL, MLay_qI, MLay_qL, ev_X12_tells_0, ev_X12_tells_1, ev_X12_tells_4, ev_X12_tells_7, ev_X12_tells_10, ev_X12_tells_11, ev_X12_tells_12, ev_X12_tells_13, ev_X12_tells_16, ev_X12_tells_17, ev_X12_tells_19, ev_X12_tells_20, ev_X12_tells_23, ev_X12_tells_24, ev_X12_tells_26, ev_X12_tells_27, xt_X12_tells, xf_X12_tells, us_X12_puts, hk, hw, hwc, en, not_false_eq_true, false_imp_iff, true_imp_iff]
      try simp (disch := omega) only [wI_id, dv_nn, rm_nn]
      repeat' (first | intro z | apply And.intro)
      all_goals try omega
      all_goals exact w
    · rw [if_neg e2] at w
      refine go_X12_tells (ct := fun p => p == 10 || p == 30) 30 ?_
      simp only [oI, oL, oR, o1, lI, lL, lR, popN, catS, gv, stL, stL2, swt, cnd, spObj, List.getElem?_cons_zero, List.getElem?_cons_succ, List.getD_cons_zero, List.getD_cons_succ, List.set_cons_zero, List.set_cons_succ, List.nil_append, List.cons_append, Option.toList, Bool.or_false, Bool.false_or, Bool.or_true, Bool.true_or, Nat.reduceBEq, Nat.reduceAdd, Nat.reduceLT, Nat.reduceLeDiff, Int.reduceAdd, Int.reduceToNat, true_and, and_true, Fin.isValue, Fin.val_zero, Fin.val_one, Fin.val_two, Fin.reduceFinMk, eq_self, Int.reduceNeg, imp_self, Nat.reduceMul, Nat.le_refl, not_true_eq_false, not_false_eq_true, List.getElem?_nil, reduceCtorEq, true_or, or_true, Classical.not_not, implies_true, or_self, wI_0, wI_1, wI_m1, b2i_w, b2i_eq0, b2i_eq1, b2i_bool, nor_self, nx_pI, kd_pI, ln_pI, fI_pI, fL_pI, fR_pI, aI_pI, aL_pI, aR_pI, nx_pL, kd_pL, ln_pL, fI_pL, fL_pL, fR_pL, aI_pL, aL_pL, aR_pL, nx_pR, kd_pR, ln_pR, fI_pR, fL_pR, fR_pR, aI_pR, aL_pR, aR_pR, nx_qI, kd_qI, ln_qI, fI_qI, fL_qI, fR_qI, aI_qI, aL_qI, aR_qI, nx_qL, kd_qL, ln_qL, fI_qL, fL_qL, fR_qL, aI_qL, aL_qL, aR_qL, nx_qR, kd_qR, ln_qR, fI_qR, fL_qR, fR_qR, aI_qR, aL_qR, aR_qR, nx_mk, kd_mk, ln_mk, fI_mk, fL_mk, fR_mk, aI_mk, aL_mk, aR_mk, false_and, and_false, if_false, if_true, and_self, Int.reduceEq, Nat.reduceEqDiff, ite_self, MLay_pI, MLay_pL, MLay_qI, MLay_qL, ev_X12_tells_0, ev_X12_tells_1, ev_X12_tells_4, ev_X12_tells_7, ev_X12_tells_10, ev_X12_tells_11, ev_X12_tells_12, ev_X12_tells_13, ev_X12_tells_16, ev_X12_tells_17, ev_X12_tells_19, ev_X12_tells_20, ev_X12_tells_23, ev_X12_tells_24, ev_X12_tells_26, ev_X12_tells_27, xt_X12_tells, xf_X12_tells, us_X12_puts, hk, hI, hr, hw, hwc, en, not_false_eq_true, false_imp_iff, true_imp_iff]
      try simp (disch := omega) only [wI_id, dv_nn, rm_nn]
      repeat' (first | intro z | apply And.intro)
      all_goals try omega
      all_goals exact w

def rwB (σ : Hp) (a i : Int) : BitVec 64 := if a < 0 then 0#64 else aL σ 83 (5 * a + i)
def mAre (σ : Hp) (a b c : Int) : Prop := ∀ i, 0 ≤ i → i < 5 → rwB σ a i ||| rwB σ b i ||| rwB σ c i = aL σ 84 i

def sp_X12_areAll : Sp := fun av σ Q => oR av fun this av => oI av fun a av => oI av fun b av => oI av fun c av => av = [] ∧ kd σ this = 13 ∧ (this = 61 ∧ MI σ ∧ (-1 ≤ a ∧ a < 3600) ∧ (-1 ≤ b ∧ b < 3600) ∧ (-1 ≤ c ∧ c < 3600) ∧ Q (some (vi (b2i (mAre σ a b c)))) σ)
theorem us_X12_areAll (this : Int) (a : Int) (b : Int) (c : Int) (σ : Hp) (Q : Option AV → Hp → Prop) : sp_X12_areAll [vr this, vi a, vi b, vi c] σ Q = (kd σ this = 13 ∧ (this = 61 ∧ MI σ ∧ (-1 ≤ a ∧ a < 3600) ∧ (-1 ≤ b ∧ b < 3600) ∧ (-1 ≤ c ∧ c < 3600) ∧ Q (some (vi (b2i (mAre σ a b c)))) σ)) := propext ⟨fun h => h.2, fun h => ⟨rfl, h⟩⟩
theorem el_X12_areAll {av : List AV} {σ : Hp} {Q : Option AV → Hp → Prop} (h : sp_X12_areAll av σ Q) : ∃ (this : Int) (a : Int) (b : Int) (c : Int), av = [vr this, vi a, vi b, vi c] ∧ (kd σ this = 13 ∧ (this = 61 ∧ MI σ ∧ (-1 ≤ a ∧ a < 3600) ∧ (-1 ≤ b ∧ b < 3600) ∧ (-1 ≤ c ∧ c < 3600) ∧ Q (some (vi (b2i (mAre σ a b c)))) σ)) := by
  obtain ⟨this, a0, rfl, h0⟩ := oR_s h
  obtain ⟨a, a1, rfl, h1⟩ := oI_s h0
  obtain ⟨b, a2, rfl, h2⟩ := oI_s h1
  obtain ⟨c, a3, rfl, h3⟩ := oI_s h2
  obtain ⟨rfl, hz⟩ := h3
  exact ⟨this, a, b, c, rfl, hz⟩
theorem rc_X12_areAll : ∀ (av : List AV) (σ : Hp) (Q : Option AV → Hp → Prop), sp_X12_areAll av σ Q → ∃ r tl, av = vr r :: tl ∧ kd σ r = 12 + 1 := fun av σ Q h => by
  obtain ⟨this, a, b, c, rfl, hz, -⟩ := el_X12_areAll h
  exact ⟨this, _, rfl, hz⟩

def tb_X12_areAll : Tab := [(0, .iconst 0, 1, (0, 0, 0, 0)), (1, .istore 4, 2, (0, 0, 0, 0)), (3, .iload 4, 2, (0, 0, 0, 0)), (5, .iconst 5, 1, (0, 0, 0, 0)), (6, .if_icmp .ge 85, 3, (0, 0, 0, 0)), (9, .iload_n 1, 1, (0, 0, 0, 0)), (10, .ifCond .ge 7, 3, (0, 0, 0, 0)), (13, .lconst 0, 1, (0, 0, 0, 0)), (14, .goto 14, 3, (0, 0, 0, 0)), (17, .aload_n 0, 1, (0, 0, 0, 0)), (18, .getfield 74, 3, (13, 1327, 2, 0)), (21, .iconst 5, 1, (0, 0, 0, 0)), (22, .iload_n 1, 1, (0, 0, 0, 0)), (23, .imul, 1, (0, 0, 0, 0)), (24, .iload 4, 2, (0, 0, 0, 0)), (26, .iadd, 1, (0, 0, 0, 0)), (27, .laload, 1, (0, 0, 0, 0)), (28, .lstore 5, 2, (0, 0, 0, 0)), (30, .iload_n 2, 1, (0, 0, 0, 0)), (31, .ifCond .lt 19, 3, (0, 0, 0, 0)), (34, .lload 5, 2, (0, 0, 0, 0)), (36, .aload_n 0, 1, (0, 0, 0, 0)), (37, .getfield 74, 3, (13, 1327, 2, 0)), (40, .iconst 5, 1, (0, 0, 0, 0)), (41, .iload_n 2, 1, (0, 0, 0, 0)), (42, .imul, 1, (0, 0, 0, 0)), (43, .iload 4, 2, (0, 0, 0, 0)), (45, .iadd, 1, (0, 0, 0, 0)), (46, .laload, 1, (0, 0, 0, 0)), (47, .lor, 1, (0, 0, 0, 0)), (48, .lstore 5, 2, (0, 0, 0, 0)), (50, .iload_n 3, 1, (0, 0, 0, 0)), (51, .ifCond .lt 19, 3, (0, 0, 0, 0)), (54, .lload 5, 2, (0, 0, 0, 0)), (56, .aload_n 0, 1, (0, 0, 0, 0)), (57, .getfield 74, 3, (13, 1327, 2, 0)), (60, .iconst 5, 1, (0, 0, 0, 0)), (61, .iload_n 3, 1, (0, 0, 0, 0)), (62, .imul, 1, (0, 0, 0, 0)), (63, .iload 4, 2, (0, 0, 0, 0)), (65, .iadd, 1, (0, 0, 0, 0)), (66, .laload, 1, (0, 0, 0, 0)), (67, .lor, 1, (0, 0, 0, 0)), (68, .lstore 5, 2, (0, 0, 0, 0)), (70, .lload 5, 2, (0, 0, 0, 0)), (72, .aload_n 0, 1, (0, 0, 0, 0)), (73, .getfield 78, 3, (13, 1328, 2, 0)), (76, .iload 4, 2, (0, 0, 0, 0)), (78, .laload, 1, (0, 0, 0, 0)), (79, .lcmp, 1, (0, 0, 0, 0)), (80, .ifCond .eq 5, 3, (0, 0, 0, 0)), (83, .iconst 0, 1, (0, 0, 0, 0)), (84, .ireturn, 1, (0, 0, 0, 0)), (85, .iinc 4 1, 3, (0, 0, 0, 0)), (88, .goto (-85), 3, (0, 0, 0, 0)), (91, .iconst 1, 1, (0, 0, 0, 0)), (92, .ireturn, 1, (0, 0, 0, 0))]
set_option maxRecDepth 100000 in
theorem tk_X12_areAll : TOK RX12 false cX12_areAll tb_X12_areAll := chkT_ok ft_X12 (by decide +kernel)
def mt_X12_areAll : List (Nat × Mt) := []
theorem mk_X12_areAll : MOK RX12 mt_X12_areAll := fun q hq => by cases hq
noncomputable def xe_X12_areAll (ct : Nat → Bool) (K : Kt) (R : Option AV → Hp → Prop) (n : Nat) : Kt := exS 7 1 0 0 2 tb_X12_areAll mt_X12_areAll ct K R n
noncomputable def xk_X12_areAll (ct : Nat → Bool) (K : Kt) (R : Option AV → Hp → Prop) (n : Nat) : Kt := exkS 7 1 0 0 2 tb_X12_areAll mt_X12_areAll ct K R n
theorem xt_X12_areAll {ct : Nat → Bool} {K : Kt} {R : Option AV → Hp → Prop} {n pc : Nat} {ls : List (Option AV)} {st : List AV} {σ : Hp} {k : Nat × Nat} (h : ct pc = true) : xk_X12_areAll ct K R n pc ls st σ k = K pc ls st σ k := by unfold xk_X12_areAll exkS; rw [h]
theorem xf_X12_areAll {ct : Nat → Bool} {K : Kt} {R : Option AV → Hp → Prop} {n pc : Nat} {ls : List (Option AV)} {st : List AV} {σ : Hp} {k : Nat × Nat} (h : ct pc = false) : xk_X12_areAll ct K R n pc ls st σ k = xe_X12_areAll ct K R n pc ls st σ k := by unfold xk_X12_areAll exkS xe_X12_areAll; rw [h]
theorem ev_X12_areAll_0 {ct : Nat → Bool} {K : Kt} {R : Option AV → Hp → Prop} {n : Nat} {ls : List (Option AV)} {st : List AV} {σ : Hp} {k : Nat × Nat} : xe_X12_areAll ct K R (n + 1) 0 ls st σ k = (xk_X12_areAll ct K R n 1 ls (vi (0) :: st) σ k) := exS_step.trans rfl
theorem ev_X12_areAll_1 {ct : Nat → Bool} {K : Kt} {R : Option AV → Hp → Prop} {n : Nat} {ls : List (Option AV)} {st : List AV} {σ : Hp} {k : Nat × Nat} : xe_X12_areAll ct K R (n + 1) 1 ls st σ k = (oI st fun x st => 4 < 7 ∧ xk_X12_areAll ct K R n 3 (stL ls 4 (vi x)) st σ k) := exS_step.trans rfl
theorem ev_X12_areAll_3 {ct : Nat → Bool} {K : Kt} {R : Option AV → Hp → Prop} {n : Nat} {ls : List (Option AV)} {st : List AV} {σ : Hp} {k : Nat × Nat} : xe_X12_areAll ct K R (n + 1) 3 ls st σ k = (lI ls 4 fun x => xk_X12_areAll ct K R n 5 ls (vi x :: st) σ k) := exS_step.trans rfl
theorem ev_X12_areAll_5 {ct : Nat → Bool} {K : Kt} {R : Option AV → Hp → Prop} {n : Nat} {ls : List (Option AV)} {st : List AV} {σ : Hp} {k : Nat × Nat} : xe_X12_areAll ct K R (n + 1) 5 ls st σ k = (xk_X12_areAll ct K R n 6 ls (vi (5) :: st) σ k) := exS_step.trans rfl
theorem ev_X12_areAll_6 {ct : Nat → Bool} {K : Kt} {R : Option AV → Hp → Prop} {n : Nat} {ls : List (Option AV)} {st : List AV} {σ : Hp} {k : Nat × Nat} : xe_X12_areAll ct K R (n + 1) 6 ls st σ k = (oI st fun y st => oI st fun x st => (wI y ≤ wI x → xk_X12_areAll ct K R n 91 ls st σ k) ∧ (¬ (wI y ≤ wI x) → xk_X12_areAll ct K R n 9 ls st σ k)) := exS_step.trans rfl
theorem ev_X12_areAll_9 {ct : Nat → Bool} {K : Kt} {R : Option AV → Hp → Prop} {n : Nat} {ls : List (Option AV)} {st : List AV} {σ : Hp} {k : Nat × Nat} : xe_X12_areAll ct K R (n + 1) 9 ls st σ k = (lI ls 1 fun x => xk_X12_areAll ct K R n 10 ls (vi x :: st) σ k) := exS_step.trans rfl
theorem ev_X12_areAll_10 {ct : Nat → Bool} {K : Kt} {R : Option AV → Hp → Prop} {n : Nat} {ls : List (Option AV)} {st : List AV} {σ : Hp} {k : Nat × Nat} : xe_X12_areAll ct K R (n + 1) 10 ls st σ k = (oI st fun x st => (wI 0 ≤ wI x → xk_X12_areAll ct K R n 17 ls st σ k) ∧ (¬ (wI 0 ≤ wI x) → xk_X12_areAll ct K R n 13 ls st σ k)) := exS_step.trans rfl
theorem ev_X12_areAll_13 {ct : Nat → Bool} {K : Kt} {R : Option AV → Hp → Prop} {n : Nat} {ls : List (Option AV)} {st : List AV} {σ : Hp} {k : Nat × Nat} : xe_X12_areAll ct K R (n + 1) 13 ls st σ k = (xk_X12_areAll ct K R n 14 ls (vl (BitVec.ofNat 64 0) :: st) σ k) := exS_step.trans rfl
theorem ev_X12_areAll_14 {ct : Nat → Bool} {K : Kt} {R : Option AV → Hp → Prop} {n : Nat} {ls : List (Option AV)} {st : List AV} {σ : Hp} {k : Nat × Nat} : xe_X12_areAll ct K R (n + 1) 14 ls st σ k = (xk_X12_areAll ct K R n 28 ls st σ k) := exS_step.trans rfl
theorem ev_X12_areAll_17 {ct : Nat → Bool} {K : Kt} {R : Option AV → Hp → Prop} {n : Nat} {ls : List (Option AV)} {st : List AV} {σ : Hp} {k : Nat × Nat} : xe_X12_areAll ct K R (n + 1) 17 ls st σ k = (lR ls 0 fun x => xk_X12_areAll ct K R n 18 ls (vr x :: st) σ k) := exS_step.trans rfl
theorem ev_X12_areAll_18 {ct : Nat → Bool} {K : Kt} {R : Option AV → Hp → Prop} {n : Nat} {ls : List (Option AV)} {st : List AV} {σ : Hp} {k : Nat × Nat} : xe_X12_areAll ct K R (n + 1) 18 ls st σ k = (oR st fun x st => kd σ x = 13 ∧ xk_X12_areAll ct K R n 21 ls (vr (fR σ 1327 x) :: st) σ k) := exS_step.trans rfl
theorem ev_X12_areAll_21 {ct : Nat → Bool} {K : Kt} {R : Option AV → Hp → Prop} {n : Nat} {ls : List (Option AV)} {st : List AV} {σ : Hp} {k : Nat × Nat} : xe_X12_areAll ct K R (n + 1) 21 ls st σ k = (xk_X12_areAll ct K R n 22 ls (vi (5) :: st) σ k) := exS_step.trans rfl
theorem ev_X12_areAll_22 {ct : Nat → Bool} {K : Kt} {R : Option AV → Hp → Prop} {n : Nat} {ls : List (Option AV)} {st : List AV} {σ : Hp} {k : Nat × Nat} : xe_X12_areAll ct K R (n + 1) 22 ls st σ k = (lI ls 1 fun x => xk_X12_areAll ct K R n 23 ls (vi x :: st) σ k) := exS_step.trans rfl
theorem ev_X12_areAll_23 {ct : Nat → Bool} {K : Kt} {R : Option AV → Hp → Prop} {n : Nat} {ls : List (Option AV)} {st : List AV} {σ : Hp} {k : Nat × Nat} : xe_X12_areAll ct K R (n + 1) 23 ls st σ k = (oI st fun y st => oI st fun x st => xk_X12_areAll ct K R n 24 ls (vi (x * y) :: st) σ k) := exS_step.trans rfl
theorem ev_X12_areAll_24 {ct : Nat → Bool} {K : Kt} {R : Option AV → Hp → Prop} {n : Nat} {ls : List (Option AV)} {st : List AV} {σ : Hp} {k : Nat × Nat} : xe_X12_areAll ct K R (n + 1) 24 ls st σ k = (lI ls 4 fun x => xk_X12_areAll ct K R n 26 ls (vi x :: st) σ k) := exS_step.trans rfl
theorem ev_X12_areAll_26 {ct : Nat → Bool} {K : Kt} {R : Option AV → Hp → Prop} {n : Nat} {ls : List (Option AV)} {st : List AV} {σ : Hp} {k : Nat × Nat} : xe_X12_areAll ct K R (n + 1) 26 ls st σ k = (oI st fun y st => oI st fun x st => xk_X12_areAll ct K R n 27 ls (vi (x + y) :: st) σ k) := exS_step.trans rfl
theorem ev_X12_areAll_27 {ct : Nat → Bool} {K : Kt} {R : Option AV → Hp → Prop} {n : Nat} {ls : List (Option AV)} {st : List AV} {σ : Hp} {k : Nat × Nat} : xe_X12_areAll ct K R (n + 1) 27 ls st σ k = (oI st fun j st => oR st fun x st => kd σ x = 102 ∧ (0 ≤ j ∧ j < ln σ x) ∧ xk_X12_areAll ct K R n 28 ls (vl (aL σ x j) :: st) σ k) := exS_step.trans rfl
theorem ev_X12_areAll_28 {ct : Nat → Bool} {K : Kt} {R : Option AV → Hp → Prop} {n : Nat} {ls : List (Option AV)} {st : List AV} {σ : Hp} {k : Nat × Nat} : xe_X12_areAll ct K R (n + 1) 28 ls st σ k = (oL st fun x st => 5 + 1 < 7 ∧ xk_X12_areAll ct K R n 30 (stL2 ls 5 (vl x)) st σ k) := exS_step.trans rfl
theorem ev_X12_areAll_30 {ct : Nat → Bool} {K : Kt} {R : Option AV → Hp → Prop} {n : Nat} {ls : List (Option AV)} {st : List AV} {σ : Hp} {k : Nat × Nat} : xe_X12_areAll ct K R (n + 1) 30 ls st σ k = (lI ls 2 fun x => xk_X12_areAll ct K R n 31 ls (vi x :: st) σ k) := exS_step.trans rfl
theorem ev_X12_areAll_31 {ct : Nat → Bool} {K : Kt} {R : Option AV → Hp → Prop} {n : Nat} {ls : List (Option AV)} {st : List AV} {σ : Hp} {k : Nat × Nat} : xe_X12_areAll ct K R (n + 1) 31 ls st σ k = (oI st fun x st => (wI x < wI 0 → xk_X12_areAll ct K R n 50 ls st σ k) ∧ (¬ (wI x < wI 0) → xk_X12_areAll ct K R n 34 ls st σ k)) := exS_step.trans rfl
theorem ev_X12_areAll_34 {ct : Nat → Bool} {K : Kt} {R : Option AV → Hp → Prop} {n : Nat} {ls : List (Option AV)} {st : List AV} {σ : Hp} {k : Nat × Nat} : xe_X12_areAll ct K R (n + 1) 34 ls st σ k = (lL ls 5 fun x => xk_X12_areAll ct K R n 36 ls (vl x :: st) σ k) := exS_step.trans rfl
theorem ev_X12_areAll_36 {ct : Nat → Bool} {K : Kt} {R : Option AV → Hp → Prop} {n : Nat} {ls : List (Option AV)} {st : List AV} {σ : Hp} {k : Nat × Nat} : xe_X12_areAll ct K R (n + 1) 36 ls st σ k = (lR ls 0 fun x => xk_X12_areAll ct K R n 37 ls (vr x :: st) σ k) := exS_step.trans rfl
theorem ev_X12_areAll_37 {ct : Nat → Bool} {K : Kt} {R : Option AV → Hp → Prop} {n : Nat} {ls : List (Option AV)} {st : List AV} {σ : Hp} {k : Nat × Nat} : xe_X12_areAll ct K R (n + 1) 37 ls st σ k = (oR st fun x st => kd σ x = 13 ∧ xk_X12_areAll ct K R n 40 ls (vr (fR σ 1327 x) :: st) σ k) := exS_step.trans rfl
theorem ev_X12_areAll_40 {ct : Nat → Bool} {K : Kt} {R : Option AV → Hp → Prop} {n : Nat} {ls : List (Option AV)} {st : List AV} {σ : Hp} {k : Nat × Nat} : xe_X12_areAll ct K R (n + 1) 40 ls st σ k = (xk_X12_areAll ct K R n 41 ls (vi (5) :: st) σ k) := exS_step.trans rfl
theorem ev_X12_areAll_41 {ct : Nat → Bool} {K : Kt} {R : Option AV → Hp → Prop} {n : Nat} {ls : List (Option AV)} {st : List AV} {σ : Hp} {k : Nat × Nat} : xe_X12_areAll ct K R (n + 1) 41 ls st σ k = (lI ls 2 fun x => xk_X12_areAll ct K R n 42 ls (vi x :: st) σ k) := exS_step.trans rfl
theorem ev_X12_areAll_42 {ct : Nat → Bool} {K : Kt} {R : Option AV → Hp → Prop} {n : Nat} {ls : List (Option AV)} {st : List AV} {σ : Hp} {k : Nat × Nat} : xe_X12_areAll ct K R (n + 1) 42 ls st σ k = (oI st fun y st => oI st fun x st => xk_X12_areAll ct K R n 43 ls (vi (x * y) :: st) σ k) := exS_step.trans rfl
theorem ev_X12_areAll_43 {ct : Nat → Bool} {K : Kt} {R : Option AV → Hp → Prop} {n : Nat} {ls : List (Option AV)} {st : List AV} {σ : Hp} {k : Nat × Nat} : xe_X12_areAll ct K R (n + 1) 43 ls st σ k = (lI ls 4 fun x => xk_X12_areAll ct K R n 45 ls (vi x :: st) σ k) := exS_step.trans rfl
theorem ev_X12_areAll_45 {ct : Nat → Bool} {K : Kt} {R : Option AV → Hp → Prop} {n : Nat} {ls : List (Option AV)} {st : List AV} {σ : Hp} {k : Nat × Nat} : xe_X12_areAll ct K R (n + 1) 45 ls st σ k = (oI st fun y st => oI st fun x st => xk_X12_areAll ct K R n 46 ls (vi (x + y) :: st) σ k) := exS_step.trans rfl
theorem ev_X12_areAll_46 {ct : Nat → Bool} {K : Kt} {R : Option AV → Hp → Prop} {n : Nat} {ls : List (Option AV)} {st : List AV} {σ : Hp} {k : Nat × Nat} : xe_X12_areAll ct K R (n + 1) 46 ls st σ k = (oI st fun j st => oR st fun x st => kd σ x = 102 ∧ (0 ≤ j ∧ j < ln σ x) ∧ xk_X12_areAll ct K R n 47 ls (vl (aL σ x j) :: st) σ k) := exS_step.trans rfl
theorem ev_X12_areAll_47 {ct : Nat → Bool} {K : Kt} {R : Option AV → Hp → Prop} {n : Nat} {ls : List (Option AV)} {st : List AV} {σ : Hp} {k : Nat × Nat} : xe_X12_areAll ct K R (n + 1) 47 ls st σ k = (oL st fun y st => oL st fun x st => xk_X12_areAll ct K R n 48 ls (vl (x ||| y) :: st) σ k) := exS_step.trans rfl
theorem ev_X12_areAll_48 {ct : Nat → Bool} {K : Kt} {R : Option AV → Hp → Prop} {n : Nat} {ls : List (Option AV)} {st : List AV} {σ : Hp} {k : Nat × Nat} : xe_X12_areAll ct K R (n + 1) 48 ls st σ k = (oL st fun x st => 5 + 1 < 7 ∧ xk_X12_areAll ct K R n 50 (stL2 ls 5 (vl x)) st σ k) := exS_step.trans rfl
theorem ev_X12_areAll_50 {ct : Nat → Bool} {K : Kt} {R : Option AV → Hp → Prop} {n : Nat} {ls : List (Option AV)} {st : List AV} {σ : Hp} {k : Nat × Nat} : xe_X12_areAll ct K R (n + 1) 50 ls st σ k = (lI ls 3 fun x => xk_X12_areAll ct K R n 51 ls (vi x :: st) σ k) := exS_step.trans rfl
theorem ev_X12_areAll_51 {ct : Nat → Bool} {K : Kt} {R : Option AV → Hp → Prop} {n : Nat} {ls : List (Option AV)} {st : List AV} {σ : Hp} {k : Nat × Nat} : xe_X12_areAll ct K R (n + 1) 51 ls st σ k = (oI st fun x st => (wI x < wI 0 → xk_X12_areAll ct K R n 70 ls st σ k) ∧ (¬ (wI x < wI 0) → xk_X12_areAll ct K R n 54 ls st σ k)) := exS_step.trans rfl
theorem ev_X12_areAll_54 {ct : Nat → Bool} {K : Kt} {R : Option AV → Hp → Prop} {n : Nat} {ls : List (Option AV)} {st : List AV} {σ : Hp} {k : Nat × Nat} : xe_X12_areAll ct K R (n + 1) 54 ls st σ k = (lL ls 5 fun x => xk_X12_areAll ct K R n 56 ls (vl x :: st) σ k) := exS_step.trans rfl
theorem ev_X12_areAll_56 {ct : Nat → Bool} {K : Kt} {R : Option AV → Hp → Prop} {n : Nat} {ls : List (Option AV)} {st : List AV} {σ : Hp} {k : Nat × Nat} : xe_X12_areAll ct K R (n + 1) 56 ls st σ k = (lR ls 0 fun x => xk_X12_areAll ct K R n 57 ls (vr x :: st) σ k) := exS_step.trans rfl
theorem ev_X12_areAll_57 {ct : Nat → Bool} {K : Kt} {R : Option AV → Hp → Prop} {n : Nat} {ls : List (Option AV)} {st : List AV} {σ : Hp} {k : Nat × Nat} : xe_X12_areAll ct K R (n + 1) 57 ls st σ k = (oR st fun x st => kd σ x = 13 ∧ xk_X12_areAll ct K R n 60 ls (vr (fR σ 1327 x) :: st) σ k) := exS_step.trans rfl
theorem ev_X12_areAll_60 {ct : Nat → Bool} {K : Kt} {R : Option AV → Hp → Prop} {n : Nat} {ls : List (Option AV)} {st : List AV} {σ : Hp} {k : Nat × Nat} : xe_X12_areAll ct K R (n + 1) 60 ls st σ k = (xk_X12_areAll ct K R n 61 ls (vi (5) :: st) σ k) := exS_step.trans rfl
theorem ev_X12_areAll_61 {ct : Nat → Bool} {K : Kt} {R : Option AV → Hp → Prop} {n : Nat} {ls : List (Option AV)} {st : List AV} {σ : Hp} {k : Nat × Nat} : xe_X12_areAll ct K R (n + 1) 61 ls st σ k = (lI ls 3 fun x => xk_X12_areAll ct K R n 62 ls (vi x :: st) σ k) := exS_step.trans rfl
theorem ev_X12_areAll_62 {ct : Nat → Bool} {K : Kt} {R : Option AV → Hp → Prop} {n : Nat} {ls : List (Option AV)} {st : List AV} {σ : Hp} {k : Nat × Nat} : xe_X12_areAll ct K R (n + 1) 62 ls st σ k = (oI st fun y st => oI st fun x st => xk_X12_areAll ct K R n 63 ls (vi (x * y) :: st) σ k) := exS_step.trans rfl
theorem ev_X12_areAll_63 {ct : Nat → Bool} {K : Kt} {R : Option AV → Hp → Prop} {n : Nat} {ls : List (Option AV)} {st : List AV} {σ : Hp} {k : Nat × Nat} : xe_X12_areAll ct K R (n + 1) 63 ls st σ k = (lI ls 4 fun x => xk_X12_areAll ct K R n 65 ls (vi x :: st) σ k) := exS_step.trans rfl
theorem ev_X12_areAll_65 {ct : Nat → Bool} {K : Kt} {R : Option AV → Hp → Prop} {n : Nat} {ls : List (Option AV)} {st : List AV} {σ : Hp} {k : Nat × Nat} : xe_X12_areAll ct K R (n + 1) 65 ls st σ k = (oI st fun y st => oI st fun x st => xk_X12_areAll ct K R n 66 ls (vi (x + y) :: st) σ k) := exS_step.trans rfl
theorem ev_X12_areAll_66 {ct : Nat → Bool} {K : Kt} {R : Option AV → Hp → Prop} {n : Nat} {ls : List (Option AV)} {st : List AV} {σ : Hp} {k : Nat × Nat} : xe_X12_areAll ct K R (n + 1) 66 ls st σ k = (oI st fun j st => oR st fun x st => kd σ x = 102 ∧ (0 ≤ j ∧ j < ln σ x) ∧ xk_X12_areAll ct K R n 67 ls (vl (aL σ x j) :: st) σ k) := exS_step.trans rfl
theorem ev_X12_areAll_67 {ct : Nat → Bool} {K : Kt} {R : Option AV → Hp → Prop} {n : Nat} {ls : List (Option AV)} {st : List AV} {σ : Hp} {k : Nat × Nat} : xe_X12_areAll ct K R (n + 1) 67 ls st σ k = (oL st fun y st => oL st fun x st => xk_X12_areAll ct K R n 68 ls (vl (x ||| y) :: st) σ k) := exS_step.trans rfl
theorem ev_X12_areAll_68 {ct : Nat → Bool} {K : Kt} {R : Option AV → Hp → Prop} {n : Nat} {ls : List (Option AV)} {st : List AV} {σ : Hp} {k : Nat × Nat} : xe_X12_areAll ct K R (n + 1) 68 ls st σ k = (oL st fun x st => 5 + 1 < 7 ∧ xk_X12_areAll ct K R n 70 (stL2 ls 5 (vl x)) st σ k) := exS_step.trans rfl
theorem ev_X12_areAll_70 {ct : Nat → Bool} {K : Kt} {R : Option AV → Hp → Prop} {n : Nat} {ls : List (Option AV)} {st : List AV} {σ : Hp} {k : Nat × Nat} : xe_X12_areAll ct K R (n + 1) 70 ls st σ k = (lL ls 5 fun x => xk_X12_areAll ct K R n 72 ls (vl x :: st) σ k) := exS_step.trans rfl
theorem ev_X12_areAll_72 {ct : Nat → Bool} {K : Kt} {R : Option AV → Hp → Prop} {n : Nat} {ls : List (Option AV)} {st : List AV} {σ : Hp} {k : Nat × Nat} : xe_X12_areAll ct K R (n + 1) 72 ls st σ k = (lR ls 0 fun x => xk_X12_areAll ct K R n 73 ls (vr x :: st) σ k) := exS_step.trans rfl
theorem ev_X12_areAll_73 {ct : Nat → Bool} {K : Kt} {R : Option AV → Hp → Prop} {n : Nat} {ls : List (Option AV)} {st : List AV} {σ : Hp} {k : Nat × Nat} : xe_X12_areAll ct K R (n + 1) 73 ls st σ k = (oR st fun x st => kd σ x = 13 ∧ xk_X12_areAll ct K R n 76 ls (vr (fR σ 1328 x) :: st) σ k) := exS_step.trans rfl
theorem ev_X12_areAll_76 {ct : Nat → Bool} {K : Kt} {R : Option AV → Hp → Prop} {n : Nat} {ls : List (Option AV)} {st : List AV} {σ : Hp} {k : Nat × Nat} : xe_X12_areAll ct K R (n + 1) 76 ls st σ k = (lI ls 4 fun x => xk_X12_areAll ct K R n 78 ls (vi x :: st) σ k) := exS_step.trans rfl
theorem ev_X12_areAll_78 {ct : Nat → Bool} {K : Kt} {R : Option AV → Hp → Prop} {n : Nat} {ls : List (Option AV)} {st : List AV} {σ : Hp} {k : Nat × Nat} : xe_X12_areAll ct K R (n + 1) 78 ls st σ k = (oI st fun j st => oR st fun x st => kd σ x = 102 ∧ (0 ≤ j ∧ j < ln σ x) ∧ xk_X12_areAll ct K R n 79 ls (vl (aL σ x j) :: st) σ k) := exS_step.trans rfl
theorem ev_X12_areAll_79 {ct : Nat → Bool} {K : Kt} {R : Option AV → Hp → Prop} {n : Nat} {ls : List (Option AV)} {st : List AV} {σ : Hp} {k : Nat × Nat} : xe_X12_areAll ct K R (n + 1) 79 ls st σ k = (oL st fun y st => oL st fun x st => xk_X12_areAll ct K R n 80 ls (vi (cmL x y) :: st) σ k) := exS_step.trans rfl
theorem ev_X12_areAll_80 {ct : Nat → Bool} {K : Kt} {R : Option AV → Hp → Prop} {n : Nat} {ls : List (Option AV)} {st : List AV} {σ : Hp} {k : Nat × Nat} : xe_X12_areAll ct K R (n + 1) 80 ls st σ k = (oI st fun x st => (wI x = wI 0 → xk_X12_areAll ct K R n 85 ls st σ k) ∧ (¬ (wI x = wI 0) → xk_X12_areAll ct K R n 83 ls st σ k)) := exS_step.trans rfl
theorem ev_X12_areAll_83 {ct : Nat → Bool} {K : Kt} {R : Option AV → Hp → Prop} {n : Nat} {ls : List (Option AV)} {st : List AV} {σ : Hp} {k : Nat × Nat} : xe_X12_areAll ct K R (n + 1) 83 ls st σ k = (xk_X12_areAll ct K R n 84 ls (vi (0) :: st) σ k) := exS_step.trans rfl
theorem ev_X12_areAll_84 {ct : Nat → Bool} {K : Kt} {R : Option AV → Hp → Prop} {n : Nat} {ls : List (Option AV)} {st : List AV} {σ : Hp} {k : Nat × Nat} : xe_X12_areAll ct K R (n + 1) 84 ls st σ k = (oI st fun x st => st = [] ∧ (x = 0 ∨ x = 1) ∧ R (some (vi x)) σ) := exS_step.trans rfl
theorem ev_X12_areAll_85 {ct : Nat → Bool} {K : Kt} {R : Option AV → Hp → Prop} {n : Nat} {ls : List (Option AV)} {st : List AV} {σ : Hp} {k : Nat × Nat} : xe_X12_areAll ct K R (n + 1) 85 ls st σ k = (lI ls 4 fun x => 4 < 7 ∧ xk_X12_areAll ct K R n 88 (stL ls 4 (vi (x + (1)))) st σ k) := exS_step.trans rfl
theorem ev_X12_areAll_88 {ct : Nat → Bool} {K : Kt} {R : Option AV → Hp → Prop} {n : Nat} {ls : List (Option AV)} {st : List AV} {σ : Hp} {k : Nat × Nat} : xe_X12_areAll ct K R (n + 1) 88 ls st σ k = (xk_X12_areAll ct K R n 3 ls st σ k) := exS_step.trans rfl
theorem ev_X12_areAll_91 {ct : Nat → Bool} {K : Kt} {R : Option AV → Hp → Prop} {n : Nat} {ls : List (Option AV)} {st : List AV} {σ : Hp} {k : Nat × Nat} : xe_X12_areAll ct K R (n + 1) 91 ls st σ k = (xk_X12_areAll ct K R n 92 ls (vi (1) :: st) σ k) := exS_step.trans rfl
theorem ev_X12_areAll_92 {ct : Nat → Bool} {K : Kt} {R : Option AV → Hp → Prop} {n : Nat} {ls : List (Option AV)} {st : List AV} {σ : Hp} {k : Nat × Nat} : xe_X12_areAll ct K R (n + 1) 92 ls st σ k = (oI st fun x st => st = [] ∧ (x = 0 ∨ x = 1) ∧ R (some (vi x)) σ) := exS_step.trans rfl
def M_X12_areAll : Md := (yX12_areAll, cX12_areAll, 7, (some FieldType.boolean), 1, 0, 0, 2, false, tb_X12_areAll, mt_X12_areAll)
theorem mm_X12_areAll : MMOK M_X12_areAll := ⟨by decide +kernel, tk_X12_areAll, mk_X12_areAll, rfl, fun h => by cases h⟩
theorem go_X12_areAll {Q : Option AV → Hp → Prop} {ct : Nat → Bool} {pc : Nat} {ls : List (Option AV)} {st : List AV} {σ : Hp} {k : Nat × Nat} (n : Nat) (h : xe_X12_areAll ct (Go M_X12_areAll Q) Q n pc ls st σ k) : Go M_X12_areAll Q pc ls st σ k := Go.exS mm_X12_areAll h

theorem cmL_0 (x y : BitVec 64) : wI (cmL x y) = 0 ↔ x = y := by
  unfold cmL
  by_cases e1 : y.slt x = true
  · rw [if_pos e1]
    refine ⟨fun z => absurd z (by decide), fun z => ?_⟩
    subst z
    rw [BitVec.slt_eq_decide] at e1
    simp at e1
  · rw [if_neg e1]
    by_cases e2 : x = y
    · rw [if_pos e2]; exact ⟨fun _ => e2, fun _ => rfl⟩
    · rw [if_neg e2]; exact ⟨fun z => absurd z (by decide), fun z => absurd z e2⟩

set_option maxRecDepth 20000 in
theorem c_X12_areAll : Ct yX12_areAll cX12_areAll 7 ((some FieldType.boolean)) 1 0 0 sp_X12_areAll := by
  refine Ct.go (M := M_X12_areAll) mm_X12_areAll fun av σ Q h0 => ?_
  obtain ⟨this, a, b, c, rfl, hk, h⟩ := el_X12_areAll h0
  clear h0
  refine ⟨Nat.le_of_ble_eq_true rfl, ?_⟩
  show Go M_X12_areAll Q 0 [some (vr this), some (vi a), some (vi b), some (vi c), none, none, none] [] σ (0, 0)
  obtain ⟨rfl, hI, ha, hb, hc, h⟩ := h
  have z0 : BitVec.ofNat 64 0 = 0#64 := rfl
  have loop : ∀ (n : Nat) (i : Int) (a5 a6 : Option AV), 0 ≤ i → i + n = 5 → (∀ j, 0 ≤ j → j < i → rwB σ a j ||| rwB σ b j ||| rwB σ c j = aL σ 84 j) → Go M_X12_areAll Q 3 [some (vr 61), some (vi a), some (vi b), some (vi c), some (vi i), a5, a6] [] σ (0, 0) := by
    intro n
    induction n with
    | zero =>
      intro i a5 a6 h0 hi hy
      refine go_X12_areAll (ct := fun p => p == 3 || p == 9) 30 ?_
      simp only [oI, oL, oR, o1, lI, lL, lR, popN, catS, gv, stL, stL2, swt, cnd, spObj, List.getElem?_cons_zero, List.getElem?_cons_succ, List.getD_cons_zero, List.getD_cons_succ, List.set_cons_zero, List.set_cons_succ, List.nil_append, List.cons_append, Option.toList, Bool.or_false, Bool.false_or, Bool.or_true, Bool.true_or, Nat.reduceBEq, Nat.reduceAdd, Nat.reduceLT, Nat.reduceLeDiff, Int.reduceAdd, Int.reduceToNat, true_and, and_true, Fin.isValue, Fin.val_zero, Fin.val_one, Fin.val_two, Fin.reduceFinMk, eq_self, Int.reduceNeg, imp_self, Nat.reduceMul, Nat.le_refl, not_true_eq_false, not_false_eq_true, List.getElem?_nil, reduceCtorEq, true_or, or_true, Classical.not_not, implies_true, or_self, wI_0, wI_1, wI_m1, b2i_w, b2i_eq0, b2i_eq1, b2i_bool, nor_self, nx_pI, kd_pI, ln_pI, fI_pI, fL_pI, fR_pI, aI_pI, aL_pI, aR_pI, nx_pL, kd_pL, ln_pL, fI_pL, fL_pL, fR_pL, aI_pL, aL_pL, aR_pL, nx_pR, kd_pR, ln_pR, fI_pR, fL_pR, fR_pR, aI_pR, aL_pR, aR_pR, nx_qI, kd_qI, ln_qI, fI_qI, fL_qI, fR_qI, aI_qI, aL_qI, aR_qI, nx_qL, kd_qL, ln_qL, fI_qL, fL_qL, fR_qL, aI_qL, aL_qL, aR_qL, nx_qR, kd_qR, ln_qR, fI_qR, fL_qR, fR_qR, aI_qR, aL_qR, aR_qR, nx_mk, kd_mk, ln_mk, fI_mk, fL_mk, fR_mk, aI_mk, aL_mk, aR_mk, false_and, and_false, if_false, if_true, and_self, Int.reduceEq, Nat.reduceEqDiff, ite_self, MLay_pI, MLay_pL, MLay_qI, MLay_qL, ev_X12_areAll_3, ev_X12_areAll_5, ev_X12_areAll_6, ev_X12_areAll_9, ev_X12_areAll_10, ev_X12_areAll_13, ev_X12_areAll_14, ev_X12_areAll_17, ev_X12_areAll_18, ev_X12_areAll_91, ev_X12_areAll_92, xt_X12_areAll, xf_X12_areAll, hk]
      try simp (disch := omega) only [wI_id, dv_nn, rm_nn]
      repeat' (first | intro z | apply And.intro)
      all_goals try omega
      all_goals (rw [b2i_t (show mAre σ a b c from fun j q1 q2 => hy j q1 (by omega))] at h; exact h)
    | succ n ih =>
      intro i a5 a6 h0 hi hy
      have w70 : Go M_X12_areAll Q 70 [some (vr 61), some (vi a), some (vi b), some (vi c), some (vi i), some (vl (rwB σ a i ||| rwB σ b i ||| rwB σ c i)), none] [] σ (0, 0) := by
        have ih := fun q => ih (i + 1) (some (vl (rwB σ a i ||| rwB σ b i ||| rwB σ c i))) none (by omega) (by omega) q
        generalize hv : rwB σ a i ||| rwB σ b i ||| rwB σ c i = v at *
        refine go_X12_areAll (ct := fun p => p == 3) 30 ?_
        simp only [oI, oL, oR, o1, lI, lL, lR, popN, catS, gv, stL, stL2, swt, cnd, spObj, List.getElem?_cons_zero, List.getElem?_cons_succ, List.getD_cons_zero, List.getD_cons_succ, List.set_cons_zero, List.set_cons_succ, List.nil_append, List.cons_append, Option.toList, Bool.or_false, Bool.false_or, Bool.or_true, Bool.true_or, Nat.reduceBEq, Nat.reduceAdd, Nat.reduceLT, Nat.reduceLeDiff, Int.reduceAdd, Int.reduceToNat, true_and, and_true, Fin.isValue, Fin.val_zero, Fin.val_one, Fin.val_two, Fin.reduceFinMk, eq_self, Int.reduceNeg, imp_self, Nat.reduceMul, Nat.le_refl, not_true_eq_false, not_false_eq_true, List.getElem?_nil, reduceCtorEq, true_or, or_true, Classical.not_not, implies_true, or_self, wI_0, wI_1, wI_m1, b2i_w, b2i_eq0, b2i_eq1, b2i_bool, nor_self, nx_pI, kd_pI, ln_pI, fI_pI, fL_pI, fR_pI, aI_pI, aL_pI, aR_pI, nx_pL, kd_pL, ln_pL, fI_pL, fL_pL, fR_pL, aI_pL, aL_pL, aR_pL, nx_pR, kd_pR, ln_pR, fI_pR, fL_pR, fR_pR, aI_pR, aL_pR, aR_pR, nx_qI, kd_qI, ln_qI, fI_qI, fL_qI, fR_qI, aI_qI, aL_qI, aR_qI, nx_qL, kd_qL, ln_qL, fI_qL, fL_qL, fR_qL, aI_qL, aL_qL, aR_qL, nx_qR, kd_qR, ln_qR, fI_qR, fL_qR, fR_qR, aI_qR, aL_qR, aR_qR, nx_mk, kd_mk, ln_mk, fI_mk, fL_mk, fR_mk, aI_mk, aL_mk, aR_mk, false_and, and_false, if_false, if_true, and_self, Int.reduceEq, Nat.reduceEqDiff, ite_self, MLay_pI, MLay_pL, MLay_qI, MLay_qL, ev_X12_areAll_70, ev_X12_areAll_72, ev_X12_areAll_73, ev_X12_areAll_76, ev_X12_areAll_78, ev_X12_areAll_79, ev_X12_areAll_80, ev_X12_areAll_83, ev_X12_areAll_84, ev_X12_areAll_85, ev_X12_areAll_88, ev_X12_areAll_91, ev_X12_areAll_92, xt_X12_areAll, xf_X12_areAll, hk, hI.lay.eqs, cmL_0]
        try simp (disch := omega) only [wI_id, dv_nn, rm_nn]
        repeat' (first | intro z | apply And.intro)
        all_goals try omega
        · have he : v = aL σ 84 i := by assumption
          exact ih fun j q1 q2 => by
            by_cases e : j = i
            · subst e; rw [hv]; exact he
            · exact hy j q1 (by omega)
        · have hne : ¬ v = aL σ 84 i := by assumption
          rw [b2i_f (show ¬ mAre σ a b c from fun q => hne (by have := q i h0 (by omega); rw [hv] at this; exact this))] at h; exact h
      have w50 : Go M_X12_areAll Q 50 [some (vr 61), some (vi a), some (vi b), some (vi c), some (vi i), some (vl (rwB σ a i ||| rwB σ b i)), none] [] σ (0, 0) := by
        by_cases e : c < 0
        · have ez : rwB σ c i = 0#64 := if_pos e
          rw [ez, BitVec.or_zero] at w70
          refine go_X12_areAll (ct := fun p => p == 54 || p == 70) 30 ?_
          simp only [oI, oL, oR, o1, lI, lL, lR, popN, catS, gv, stL, stL2, swt, cnd, spObj, List.getElem?_cons_zero, List.getElem?_cons_succ, List.getD_cons_zero, List.getD_cons_succ, List.set_cons_zero, List.set_cons_succ, List.nil_append, List.cons_append, Option.toList, Bool.or_false, Bool.false_or, Bool.or_true, Bool.true_or, Nat.reduceBEq, Nat.reduceAdd, Nat.reduceLT, Nat.reduceLeDiff, Int.reduceAdd, Int.reduceToNat, true_and, and_true, Fin.isValue, Fin.val_zero, Fin.val_one, Fin.val_two, Fin.reduceFinMk, eq_self, Int.reduceNeg, imp_self, Nat.reduceMul, Nat.le_refl, not_true_eq_false, not_false_eq_true, List.getElem?_nil, reduceCtorEq, true_or, or_true, Classical.not_not, implies_true, or_self, wI_0, wI_1, wI_m1, b2i_w, b2i_eq0, b2i_eq1, b2i_bool, nor_self, nx_pI, kd_pI, ln_pI, fI_pI, fL_pI, fR_pI, aI_pI, aL_pI, aR_pI, nx_pL, kd_pL, ln_pL, fI_pL, fL_pL, fR_pL, aI_pL, aL_pL, aR_pL, nx_pR, kd_pR, ln_pR, fI_pR, fL_pR, fR_pR, aI_pR, aL_pR, aR_pR, nx_qI, kd_qI, ln_qI, fI_qI, fL_qI, fR_qI, aI_qI, aL_qI, aR_qI, nx_qL, kd_qL, ln_qL, fI_qL, fL_qL, fR_qL, aI_qL, aL_qL, aR_qL, nx_qR, kd_qR, ln_qR, fI_qR, fL_qR, fR_qR, aI_qR, aL_qR, aR_qR, nx_mk, kd_mk, ln_mk, fI_mk, fL_mk, fR_mk, aI_mk, aL_mk, aR_mk, false_and, and_false, if_false, if_true, and_self, Int.reduceEq, Nat.reduceEqDiff, ite_self, MLay_pI, MLay_pL, MLay_qI, MLay_qL, ev_X12_areAll_50, ev_X12_areAll_51, ev_X12_areAll_54, ev_X12_areAll_56, ev_X12_areAll_57, ev_X12_areAll_60, ev_X12_areAll_61, ev_X12_areAll_62, ev_X12_areAll_63, ev_X12_areAll_65, ev_X12_areAll_66, ev_X12_areAll_67, ev_X12_areAll_68, xt_X12_areAll, xf_X12_areAll, hk, hI.lay.eqs]
          try simp (disch := omega) only [wI_id, dv_nn, rm_nn]
          repeat' (first | intro z | apply And.intro)
          all_goals try omega
          all_goals exact w70
        · have ez : rwB σ c i = aL σ 83 (5 * c + i) := if_neg e
          rw [ez] at w70
          refine go_X12_areAll (ct := fun p => p == 70) 30 ?_
          simp only [oI, oL, oR, o1, lI, lL, lR, popN, catS, gv, stL, stL2, swt, cnd, spObj, List.getElem?_cons_zero, List.getElem?_cons_succ, List.getD_cons_zero, List.getD_cons_succ, List.set_cons_zero, List.set_cons_succ, List.nil_append, List.cons_append, Option.toList, Bool.or_false, Bool.false_or, Bool.or_true, Bool.true_or, Nat.reduceBEq, Nat.reduceAdd, Nat.reduceLT, Nat.reduceLeDiff, Int.reduceAdd, Int.reduceToNat, true_and, and_true, Fin.isValue, Fin.val_zero, Fin.val_one, Fin.val_two, Fin.reduceFinMk, eq_self, Int.reduceNeg, imp_self, Nat.reduceMul, Nat.le_refl, not_true_eq_false, not_false_eq_true, List.getElem?_nil, reduceCtorEq, true_or, or_true, Classical.not_not, implies_true, or_self, wI_0, wI_1, wI_m1, b2i_w, b2i_eq0, b2i_eq1, b2i_bool, nor_self, nx_pI, kd_pI, ln_pI, fI_pI, fL_pI, fR_pI, aI_pI, aL_pI, aR_pI, nx_pL, kd_pL, ln_pL, fI_pL, fL_pL, fR_pL, aI_pL, aL_pL, aR_pL, nx_pR, kd_pR, ln_pR, fI_pR, fL_pR, fR_pR, aI_pR, aL_pR, aR_pR, nx_qI, kd_qI, ln_qI, fI_qI, fL_qI, fR_qI, aI_qI, aL_qI, aR_qI, nx_qL, kd_qL, ln_qL, fI_qL, fL_qL, fR_qL, aI_qL, aL_qL, aR_qL, nx_qR, kd_qR, ln_qR, fI_qR, fL_qR, fR_qR, aI_qR, aL_qR, aR_qR, nx_mk, kd_mk, ln_mk, fI_mk, fL_mk, fR_mk, aI_mk, aL_mk, aR_mk, false_and, and_false, if_false, if_true, and_self, Int.reduceEq, Nat.reduceEqDiff, ite_self, MLay_pI, MLay_pL, MLay_qI, MLay_qL, ev_X12_areAll_50, ev_X12_areAll_51, ev_X12_areAll_54, ev_X12_areAll_56, ev_X12_areAll_57, ev_X12_areAll_60, ev_X12_areAll_61, ev_X12_areAll_62, ev_X12_areAll_63, ev_X12_areAll_65, ev_X12_areAll_66, ev_X12_areAll_67, ev_X12_areAll_68, xt_X12_areAll, xf_X12_areAll, hk, hI.lay.eqs]
          try simp (disch := omega) only [wI_id, dv_nn, rm_nn]
          repeat' (first | intro z | apply And.intro)
          all_goals try omega
          all_goals exact w70
      have w30 : Go M_X12_areAll Q 30 [some (vr 61), some (vi a), some (vi b), some (vi c), some (vi i), some (vl (rwB σ a i)), none] [] σ (0, 0) := by
        by_cases e : b < 0
        · have ez : rwB σ b i = 0#64 := if_pos e
          rw [ez, BitVec.or_zero] at w50
          refine go_X12_areAll (ct := fun p => p == 34 || p == 50) 30 ?_
          simp only [oI, oL, oR, o1, lI, lL, lR, popN, catS, gv, stL, stL2, swt, cnd, spObj, List.getElem?_cons_zero, List.getElem?_cons_succ, List.getD_cons_zero, List.getD_cons_succ, List.set_cons_zero, List.set_cons_succ, List.nil_append, List.cons_append, Option.toList, Bool.or_false, Bool.false_or, Bool.or_true, Bool.true_or, Nat.reduceBEq, Nat.reduceAdd, Nat.reduceLT, Nat.reduceLeDiff, Int.reduceAdd, Int.reduceToNat, true_and, and_true, Fin.isValue, Fin.val_zero, Fin.val_one, Fin.val_two, Fin.reduceFinMk, eq_self, Int.reduceNeg, imp_self, Nat.reduceMul, Nat.le_refl, not_true_eq_false, not_false_eq_true, List.getElem?_nil, reduceCtorEq, true_or, or_true, Classical.not_not, implies_true, or_self, wI_0, wI_1, wI_m1, b2i_w, b2i_eq0, b2i_eq1, b2i_bool, nor_self, nx_pI, kd_pI, ln_pI, fI_pI, fL_pI, fR_pI, aI_pI, aL_pI, aR_pI, nx_pL, kd_pL, ln_pL, fI_pL, fL_pL, fR_pL, aI_pL, aL_pL, aR_pL, nx_pR, kd_pR, ln_pR, fI_pR, fL_pR, fR_pR, aI_pR, aL_pR, aR_pR, nx_qI, kd_qI, ln_qI, fI_qI, fL_qI, fR_qI, aI_qI, aL_qI, aR_qI, nx_qL, kd_qL, ln_qL, fI_qL, fL_qL, fR_qL, aI_qL, aL_qL, aR_qL, nx_qR, kd_qR, ln_qR, fI_qR, fL_qR, fR_qR, aI_qR, aL_qR, aR_qR, nx_mk, kd_mk, ln_mk, fI_mk, fL_mk, fR_mk, aI_mk, aL_mk, aR_mk, false_and, and_false, if_false, if_true, and_self, Int.reduceEq, Nat.reduceEqDiff, ite_self, MLay_pI, MLay_pL, MLay_qI, MLay_qL, ev_X12_areAll_30, ev_X12_areAll_31, ev_X12_areAll_34, ev_X12_areAll_36, ev_X12_areAll_37, ev_X12_areAll_40, ev_X12_areAll_41, ev_X12_areAll_42, ev_X12_areAll_43, ev_X12_areAll_45, ev_X12_areAll_46, ev_X12_areAll_47, ev_X12_areAll_48, xt_X12_areAll, xf_X12_areAll, hk, hI.lay.eqs]
          try simp (disch := omega) only [wI_id, dv_nn, rm_nn]
          repeat' (first | intro z | apply And.intro)
          all_goals try omega
          all_goals exact w50
        · have ez : rwB σ b i = aL σ 83 (5 * b + i) := if_neg e
          rw [ez] at w50
          refine go_X12_areAll (ct := fun p => p == 50) 30 ?_
          simp only [oI, oL, oR, o1, lI, lL, lR, popN, catS, gv, stL, stL2, swt, cnd, spObj, List.getElem?_cons_zero, List.getElem?_cons_succ, List.getD_cons_zero, List.getD_cons_succ, List.set_cons_zero, List.set_cons_succ, List.nil_append, List.cons_append, Option.toList, Bool.or_false, Bool.false_or, Bool.or_true, Bool.true_or, Nat.reduceBEq, Nat.reduceAdd, Nat.reduceLT, Nat.reduceLeDiff, Int.reduceAdd, Int.reduceToNat, true_and, and_true, Fin.isValue, Fin.val_zero, Fin.val_one, Fin.val_two, Fin.reduceFinMk, eq_self, Int.reduceNeg, imp_self, Nat.reduceMul, Nat.le_refl, not_true_eq_false, not_false_eq_true, List.getElem?_nil, reduceCtorEq, true_or, or_true, Classical.not_not, implies_true, or_self, wI_0, wI_1, wI_m1, b2i_w, b2i_eq0, b2i_eq1, b2i_bool, nor_self, nx_pI, kd_pI, ln_pI, fI_pI, fL_pI, fR_pI, aI_pI, aL_pI, aR_pI, nx_pL, kd_pL, ln_pL, fI_pL, fL_pL, fR_pL, aI_pL, aL_pL, aR_pL, nx_pR, kd_pR, ln_pR, fI_pR, fL_pR, fR_pR, aI_pR, aL_pR, aR_pR, nx_qI, kd_qI, ln_qI, fI_qI, fL_qI, fR_qI, aI_qI, aL_qI, aR_qI, nx_qL, kd_qL, ln_qL, fI_qL, fL_qL, fR_qL, aI_qL, aL_qL, aR_qL, nx_qR, kd_qR, ln_qR, fI_qR, fL_qR, fR_qR, aI_qR, aL_qR, aR_qR, nx_mk, kd_mk, ln_mk, fI_mk, fL_mk, fR_mk, aI_mk, aL_mk, aR_mk, false_and, and_false, if_false, if_true, and_self, Int.reduceEq, Nat.reduceEqDiff, ite_self, MLay_pI, MLay_pL, MLay_qI, MLay_qL, ev_X12_areAll_30, ev_X12_areAll_31, ev_X12_areAll_34, ev_X12_areAll_36, ev_X12_areAll_37, ev_X12_areAll_40, ev_X12_areAll_41, ev_X12_areAll_42, ev_X12_areAll_43, ev_X12_areAll_45, ev_X12_areAll_46, ev_X12_areAll_47, ev_X12_areAll_48, xt_X12_areAll, xf_X12_areAll, hk, hI.lay.eqs]
          try simp (disch := omega) only [wI_id, dv_nn, rm_nn]
          repeat' (first | intro z | apply And.intro)
          all_goals try omega
          all_goals exact w50
      by_cases e : a < 0
      · have ez : rwB σ a i = 0#64 := if_pos e
        rw [ez] at w30
        refine go_X12_areAll (ct := fun p => p == 30 || p == 17 || p == 91) 30 ?_
        simp only [oI, oL, oR, o1, lI, lL, lR, popN, catS, gv, stL, stL2, swt, cnd, spObj, List.getElem?_cons_zero, List.getElem?_cons_succ, List.getD_cons_zero, List.getD_cons_succ, List.set_cons_zero, List.set_cons_succ, List.nil_append, List.cons_append, Option.toList, Bool.or_false, Bool.false_or, Bool.or_true, Bool.true_or, Nat.reduceBEq, Nat.reduceAdd, Nat.reduceLT, Nat.reduceLeDiff, Int.reduceAdd, Int.reduceToNat, true_and, and_true, Fin.isValue, Fin.val_zero, Fin.val_one, Fin.val_two, Fin.reduceFinMk, eq_self, Int.reduceNeg, imp_self, Nat.reduceMul, Nat.le_refl, not_true_eq_false, not_false_eq_true, List.getElem?_nil, reduceCtorEq, true_or, or_true, Classical.not_not, implies_true, or_self, wI_0, wI_1, wI_m1, b2i_w, b2i_eq0, b2i_eq1, b2i_bool, nor_self, nx_pI, kd_pI, ln_pI, fI_pI, fL_pI, fR_pI, aI_pI, aL_pI, aR_pI, nx_pL, kd_pL, ln_pL, fI_pL, fL_pL, fR_pL, aI_pL, aL_pL, aR_pL, nx_pR, kd_pR, ln_pR, fI_pR, fL_pR, fR_pR, aI_pR, aL_pR, aR_pR, nx_qI, kd_qI, ln_qI, fI_qI, fL_qI, fR_qI, aI_qI, aL_qI, aR_qI, nx_qL, kd_qL, ln_qL, fI_qL, fL_qL, fR_qL, aI_qL, aL_qL, aR_qL, nx_qR, kd_qR, ln_qR, fI_qR, fL_qR, fR_qR, aI_qR, aL_qR, aR_qR, nx_mk, kd_mk, ln_mk, fI_mk, fL_mk, fR_mk, aI_mk, aL_mk, aR_mk, false_and, and_false, if_false, if_true, and_self, Int.reduceEq, Nat.reduceEqDiff, ite_self, MLay_pI, MLay_pL, MLay_qI, MLay_qL, ev_X12_areAll_3, ev_X12_areAll_5, ev_X12_areAll_6, ev_X12_areAll_9, ev_X12_areAll_10, ev_X12_areAll_13, ev_X12_areAll_14, ev_X12_areAll_17, ev_X12_areAll_18, ev_X12_areAll_21, ev_X12_areAll_22, ev_X12_areAll_23, ev_X12_areAll_24, ev_X12_areAll_26, ev_X12_areAll_27, ev_X12_areAll_28, xt_X12_areAll, xf_X12_areAll, hk, hI.lay.eqs, z0]
        try simp (disch := omega) only [wI_id, dv_nn, rm_nn]
        repeat' (first | intro z | apply And.intro)
        all_goals try omega
        all_goals exact w30
      · have ez : rwB σ a i = aL σ 83 (5 * a + i) := if_neg e
        rw [ez] at w30
        refine go_X12_areAll (ct := fun p => p == 30 || p == 13 || p == 91) 30 ?_
        simp only [oI, oL, oR, o1, lI, lL, lR, popN, catS, gv, stL, stL2, swt, cnd, spObj, List.getElem?_cons_zero, List.getElem?_cons_succ, List.getD_cons_zero, List.getD_cons_succ, List.set_cons_zero, List.set_cons_succ, List.nil_append, List.cons_append, Option.toList, Bool.or_false, Bool.false_or, Bool.or_true, Bool.true_or, Nat.reduceBEq, Nat.reduceAdd, Nat.reduceLT, Nat.reduceLeDiff, Int.reduceAdd, Int.reduceToNat, true_and, and_true, Fin.isValue, Fin.val_zero, Fin.val_one, Fin.val_two, Fin.reduceFinMk, eq_self, Int.reduceNeg, imp_self, Nat.reduceMul, Nat.le_refl, not_true_eq_false, not_false_eq_true, List.getElem?_nil, reduceCtorEq, true_or, or_true, Classical.not_not, implies_true, or_self, wI_0, wI_1, wI_m1, b2i_w, b2i_eq0, b2i_eq1, b2i_bool, nor_self, nx_pI, kd_pI, ln_pI, fI_pI, fL_pI, fR_pI, aI_pI, aL_pI, aR_pI, nx_pL, kd_pL, ln_pL, fI_pL, fL_pL, fR_pL, aI_pL, aL_pL, aR_pL, nx_pR, kd_pR, ln_pR, fI_pR, fL_pR, fR_pR, aI_pR, aL_pR, aR_pR, nx_qI, kd_qI, ln_qI, fI_qI, fL_qI, fR_qI, aI_qI, aL_qI, aR_qI, nx_qL, kd_qL, ln_qL, fI_qL, fL_qL, fR_qL, aI_qL, aL_qL, aR_qL, nx_qR, kd_qR, ln_qR, fI_qR, fL_qR, fR_qR, aI_qR, aL_qR, aR_qR, nx_mk, kd_mk, ln_mk, fI_mk, fL_mk, fR_mk, aI_mk, aL_mk, aR_mk, false_and, and_false, if_false, if_true, and_self, Int.reduceEq, Nat.reduceEqDiff, ite_self, MLay_pI, MLay_pL, MLay_qI, MLay_qL, ev_X12_areAll_3, ev_X12_areAll_5, ev_X12_areAll_6, ev_X12_areAll_9, ev_X12_areAll_10, ev_X12_areAll_13, ev_X12_areAll_14, ev_X12_areAll_17, ev_X12_areAll_18, ev_X12_areAll_21, ev_X12_areAll_22, ev_X12_areAll_23, ev_X12_areAll_24, ev_X12_areAll_26, ev_X12_areAll_27, ev_X12_areAll_28, xt_X12_areAll, xf_X12_areAll, hk, hI.lay.eqs]
        try simp (disch := omega) only [wI_id, dv_nn, rm_nn]
        repeat' (first | intro z | apply And.intro)
        all_goals try omega
        all_goals exact w30
  refine go_X12_areAll (ct := fun p => p == 3) 30 ?_
  simp only [oI, oL, oR, o1, lI, lL, lR, popN, catS, gv, stL, stL2, swt, cnd, spObj, List.getElem?_cons_zero, List.getElem?_cons_succ, List.getD_cons_zero, List.getD_cons_succ, List.set_cons_zero, List.set_cons_succ, List.nil_append, List.cons_append, Option.toList, Bool.or_false, Bool.false_or, Bool.or_true, Bool.true_or, Nat.reduceBEq, Nat.reduceAdd, Nat.reduceLT, Nat.reduceLeDiff, Int.reduceAdd, Int.reduceToNat, true_and, and_true, Fin.isValue, Fin.val_zero, Fin.val_one, Fin.val_two, Fin.reduceFinMk, eq_self, Int.reduceNeg, imp_self, Nat.reduceMul, Nat.le_refl, not_true_eq_false, not_false_eq_true, List.getElem?_nil, reduceCtorEq, true_or, or_true, Classical.not_not, implies_true, or_self, wI_0, wI_1, wI_m1, b2i_w, b2i_eq0, b2i_eq1, b2i_bool, nor_self, nx_pI, kd_pI, ln_pI, fI_pI, fL_pI, fR_pI, aI_pI, aL_pI, aR_pI, nx_pL, kd_pL, ln_pL, fI_pL, fL_pL, fR_pL, aI_pL, aL_pL, aR_pL, nx_pR, kd_pR, ln_pR, fI_pR, fL_pR, fR_pR, aI_pR, aL_pR, aR_pR, nx_qI, kd_qI, ln_qI, fI_qI, fL_qI, fR_qI, aI_qI, aL_qI, aR_qI, nx_qL, kd_qL, ln_qL, fI_qL, fL_qL, fR_qL, aI_qL, aL_qL, aR_qL, nx_qR, kd_qR, ln_qR, fI_qR, fL_qR, fR_qR, aI_qR, aL_qR, aR_qR, nx_mk, kd_mk, ln_mk, fI_mk, fL_mk, fR_mk, aI_mk, aL_mk, aR_mk, false_and, and_false, if_false, if_true, and_self, Int.reduceEq, Nat.reduceEqDiff, ite_self, MLay_pI, MLay_pL, MLay_qI, MLay_qL, ev_X12_areAll_0, ev_X12_areAll_1, xt_X12_areAll, xf_X12_areAll]
  exact loop 5 0 none none (by omega) (by omega) (fun j q1 q2 => by omega)
