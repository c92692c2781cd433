/-! the reference: houses, companies, cover -/

def ab (x : Int) : Int := if x < 0 then -x else x
theorem ab_in {x : Int} {a : Int} (h : -a ≤ x ∧ x ≤ a) : 0 ≤ ab x ∧ ab x ≤ a := by unfold ab; split <;> omega

def sp_J9_abs_0f7a4 : Sp := fun av σ Q => oI av fun x av => av = [] ∧ ((-1000000 ≤ x ∧ x ≤ 1000000) ∧ Q (some (vi (ab x))) σ)
theorem us_J9_abs_0f7a4 (x : Int) (σ : Hp) (Q : Option AV → Hp → Prop) : sp_J9_abs_0f7a4 [vi x] σ Q = (((-1000000 ≤ x ∧ x ≤ 1000000) ∧ Q (some (vi (ab x))) σ)) := propext ⟨fun h => h.2, fun h => ⟨rfl, h⟩⟩
theorem el_J9_abs_0f7a4 {av : List AV} {σ : Hp} {Q : Option AV → Hp → Prop} (h : sp_J9_abs_0f7a4 av σ Q) : ∃ (x : Int), av = [vi x] ∧ (((-1000000 ≤ x ∧ x ≤ 1000000) ∧ Q (some (vi (ab x))) σ)) := by
  obtain ⟨x, a0, rfl, h0⟩ := oI_s h
  obtain ⟨rfl, hz⟩ := h0
  exact ⟨x, rfl, hz⟩

def tb_J9_abs_0f7a4 : Tab := [(0, .iload_n 0, 1, (0, 0, 0, 0)), (1, .ifCond .ge 8, 3, (0, 0, 0, 0)), (4, .iload_n 0, 1, (0, 0, 0, 0)), (5, .ineg, 1, (0, 0, 0, 0)), (6, .goto 4, 3, (0, 0, 0, 0)), (9, .iload_n 0, 1, (0, 0, 0, 0)), (10, .ireturn, 1, (0, 0, 0, 0))]
set_option maxRecDepth 100000 in
theorem tk_J9_abs_0f7a4 : TOK RJ9 false cJ9_abs_0f7a4 tb_J9_abs_0f7a4 := chkT_ok ft_J9 (by decide +kernel)
def mt_J9_abs_0f7a4 : List (Nat × Mt) := []
theorem mk_J9_abs_0f7a4 : MOK RJ9 mt_J9_abs_0f7a4 := fun q hq => by cases hq
noncomputable def xe_J9_abs_0f7a4 (ct : Nat → Bool) (K : Kt) (R : Option AV → Hp → Prop) (n : Nat) : Kt := exS 1 1 0 0 1 tb_J9_abs_0f7a4 mt_J9_abs_0f7a4 ct K R n
noncomputable def xk_J9_abs_0f7a4 (ct : Nat → Bool) (K : Kt) (R : Option AV → Hp → Prop) (n : Nat) : Kt := exkS 1 1 0 0 1 tb_J9_abs_0f7a4 mt_J9_abs_0f7a4 ct K R n
theorem xt_J9_abs_0f7a4 {ct : Nat → Bool} {K : Kt} {R : Option AV → Hp → Prop} {n pc : Nat} {ls : List (Option AV)} {st : List AV} {σ : Hp} {k : Nat × Nat} (h : ct pc = true) : xk_J9_abs_0f7a4 ct K R n pc ls st σ k = K pc ls st σ k := by unfold xk_J9_abs_0f7a4 exkS; rw [h]
theorem xf_J9_abs_0f7a4 {ct : Nat → Bool} {K : Kt} {R : Option AV → Hp → Prop} {n pc : Nat} {ls : List (Option AV)} {st : List AV} {σ : Hp} {k : Nat × Nat} (h : ct pc = false) : xk_J9_abs_0f7a4 ct K R n pc ls st σ k = xe_J9_abs_0f7a4 ct K R n pc ls st σ k := by unfold xk_J9_abs_0f7a4 exkS xe_J9_abs_0f7a4; rw [h]
theorem ev_J9_abs_0f7a4 {ct : Nat → Bool} {K : Kt} {R : Option AV → Hp → Prop} {n : Nat} {ls : List (Option AV)} {st : List AV} {σ : Hp} {k : Nat × Nat} :
  xe_J9_abs_0f7a4 ct K R (n + 1) 0 ls st σ k = (lI ls 0 fun x => xk_J9_abs_0f7a4 ct K R n 1 ls (vi x :: st) σ k) ∧
  xe_J9_abs_0f7a4 ct K R (n + 1) 1 ls st σ k = (oI st fun x st => (wI 0 ≤ wI x → xk_J9_abs_0f7a4 ct K R n 9 ls st σ k) ∧ (¬ (wI 0 ≤ wI x) → xk_J9_abs_0f7a4 ct K R n 4 ls st σ k)) ∧
  xe_J9_abs_0f7a4 ct K R (n + 1) 4 ls st σ k = (lI ls 0 fun x => xk_J9_abs_0f7a4 ct K R n 5 ls (vi x :: st) σ k) ∧
  xe_J9_abs_0f7a4 ct K R (n + 1) 5 ls st σ k = (oI st fun x st => xk_J9_abs_0f7a4 ct K R n 6 ls (vi (-x) :: st) σ k) ∧
  xe_J9_abs_0f7a4 ct K R (n + 1) 6 ls st σ k = (xk_J9_abs_0f7a4 ct K R n 10 ls st σ k) ∧
  xe_J9_abs_0f7a4 ct K R (n + 1) 9 ls st σ k = (lI ls 0 fun x => xk_J9_abs_0f7a4 ct K R n 10 ls (vi x :: st) σ k) ∧
  xe_J9_abs_0f7a4 ct K R (n + 1) 10 ls st σ k = (oI st fun x st => st = [] ∧ True ∧ R (some (vi x)) σ) :=
  ⟨exS_step.trans rfl, exS_step.trans rfl, exS_step.trans rfl, exS_step.trans rfl, exS_step.trans rfl, exS_step.trans rfl, exS_step.trans rfl⟩
def M_J9_abs_0f7a4 : Md := (yJ9_abs_0f7a4, cJ9_abs_0f7a4, 1, (some FieldType.int), 1, 0, 0, 1, false, tb_J9_abs_0f7a4, mt_J9_abs_0f7a4)
theorem mm_J9_abs_0f7a4 : MMOK M_J9_abs_0f7a4 := ⟨by decide +kernel, tk_J9_abs_0f7a4, mk_J9_abs_0f7a4, rfl, fun h => by cases h⟩
theorem go_J9_abs_0f7a4 {Q : Option AV → Hp → Prop} {ct : Nat → Bool} {pc : Nat} {ls : List (Option AV)} {st : List AV} {σ : Hp} {k : Nat × Nat} (n : Nat) (h : xe_J9_abs_0f7a4 ct (Go M_J9_abs_0f7a4 Q) Q n pc ls st σ k) : Go M_J9_abs_0f7a4 Q pc ls st σ k := Go.exS mm_J9_abs_0f7a4 h

set_option maxRecDepth 20000 in
theorem c_J9_abs_0f7a4 : Ct yJ9_abs_0f7a4 cJ9_abs_0f7a4 1 ((some FieldType.int)) 1 0 0 sp_J9_abs_0f7a4 := by
  refine Ct.go (M := M_J9_abs_0f7a4) mm_J9_abs_0f7a4 fun av σ Q h0 => ?_
  obtain ⟨x, rfl, h⟩ := el_J9_abs_0f7a4 h0
  clear h0
  refine ⟨Nat.le_of_ble_eq_true rfl, ?_⟩
  show Go M_J9_abs_0f7a4 Q 0 [some (vi x)] [] σ (0, 0)
  obtain ⟨hx, h⟩ := h
  unfold ab at h
  refine go_J9_abs_0f7a4 (ct := fun p => false) 20 ?_
  simp only [oI, oL, oR, o1, lI, lL, lR, popN, catS, gv, stL, stL2, swt, cnd, spObj, List.getElem?_cons_zero, List.getElem?_cons_succ, List.getD_cons_zero, List.getD_cons_succ, List.set_cons_zero, List.set_cons_succ, List.nil_append, List.cons_append, Option.toList, Bool.or_false, Bool.false_or, Bool.or_true, Bool.true_or, Nat.reduceBEq, Nat.reduceAdd, Nat.reduceLT, Nat.reduceLeDiff, Int.reduceAdd, Int.reduceToNat, true_and, and_true, Fin.isValue, Fin.val_zero, Fin.val_one, Fin.val_two, Fin.reduceFinMk, eq_self, Int.reduceNeg, imp_self, Nat.reduceMul, Nat.le_refl, not_true_eq_false, not_false_eq_true, List.getElem?_nil, reduceCtorEq, true_or, or_true, Classical.not_not, implies_true, or_self, wI_0, wI_1, wI_m1, b2i_w, b2i_eq0, b2i_eq1, b2i_bool, nor_self, nx_pI, kd_pI, ln_pI, fI_pI, fL_pI, fR_pI, aI_pI, aL_pI, aR_pI, nx_pL, kd_pL, ln_pL, fI_pL, fL_pL, fR_pL, aI_pL, aL_pL, aR_pL, nx_pR, kd_pR, ln_pR, fI_pR, fL_pR, fR_pR, aI_pR, aL_pR, aR_pR, nx_qI, kd_qI, ln_qI, fI_qI, fL_qI, fR_qI, aI_qI, aL_qI, aR_qI, nx_qL, kd_qL, ln_qL, fI_qL, fL_qL, fR_qL, aI_qL, aL_qL, aR_qL, nx_qR, kd_qR, ln_qR, fI_qR, fL_qR, fR_qR, aI_qR, aL_qR, aR_qR, nx_mk, kd_mk, ln_mk, fI_mk, fL_mk, fR_mk, aI_mk, aL_mk, aR_mk, false_and, and_false, if_false, if_true, and_self, Int.reduceEq, Nat.reduceEqDiff, ite_self, MLay_pI, MLay_pL, MLay_qI, MLay_qL, ev_J9_abs_0f7a4, xt_J9_abs_0f7a4, xf_J9_abs_0f7a4]
  try simp (disch := omega) only [wI_id, dv_nn, rm_nn]
  repeat' (first | intro z | apply And.intro)
  all_goals try omega
  all_goals grind

def sp_J9_max_7cf53 : Sp := fun av σ Q => oI av fun x av => oI av fun y av => av = [] ∧ ((-1000000 ≤ x ∧ x ≤ 1000000) ∧ (-1000000 ≤ y ∧ y ≤ 1000000) ∧ Q (some (vi (if x < y then y else x))) σ)
theorem us_J9_max_7cf53 (x : Int) (y : Int) (σ : Hp) (Q : Option AV → Hp → Prop) : sp_J9_max_7cf53 [vi x, vi y] σ Q = (((-1000000 ≤ x ∧ x ≤ 1000000) ∧ (-1000000 ≤ y ∧ y ≤ 1000000) ∧ Q (some (vi (if x < y then y else x))) σ)) := propext ⟨fun h => h.2, fun h => ⟨rfl, h⟩⟩
theorem el_J9_max_7cf53 {av : List AV} {σ : Hp} {Q : Option AV → Hp → Prop} (h : sp_J9_max_7cf53 av σ Q) : ∃ (x : Int) (y : Int), av = [vi x, vi y] ∧ (((-1000000 ≤ x ∧ x ≤ 1000000) ∧ (-1000000 ≤ y ∧ y ≤ 1000000) ∧ Q (some (vi (if x < y then y else x))) σ)) := by
  obtain ⟨x, a0, rfl, h0⟩ := oI_s h
  obtain ⟨y, a1, rfl, h1⟩ := oI_s h0
  obtain ⟨rfl, hz⟩ := h1
  exact ⟨x, y, rfl, hz⟩

def tb_J9_max_7cf53 : Tab := [(0, .iload_n 0, 1, (0, 0, 0, 0)), (1, .iload_n 1, 1, (0, 0, 0, 0)), (2, .if_icmp .lt 7, 3, (0, 0, 0, 0)), (5, .iload_n 0, 1, (0, 0, 0, 0)), (6, .goto 4, 3, (0, 0, 0, 0)), (9, .iload_n 1, 1, (0, 0, 0, 0)), (10, .ireturn, 1, (0, 0, 0, 0))]
set_option maxRecDepth 100000 in
theorem tk_J9_max_7cf53 : TOK RJ9 false cJ9_max_7cf53 tb_J9_max_7cf53 := chkT_ok ft_J9 (by decide +kernel)
def mt_J9_max_7cf53 : List (Nat × Mt) := []
theorem mk_J9_max_7cf53 : MOK RJ9 mt_J9_max_7cf53 := fun q hq => by cases hq
noncomputable def xe_J9_max_7cf53 (ct : Nat → Bool) (K : Kt) (R : Option AV → Hp → Prop) (n : Nat) : Kt := exS 2 1 0 0 1 tb_J9_max_7cf53 mt_J9_max_7cf53 ct K R n
noncomputable def xk_J9_max_7cf53 (ct : Nat → Bool) (K : Kt) (R : Option AV → Hp → Prop) (n : Nat) : Kt := exkS 2 1 0 0 1 tb_J9_max_7cf53 mt_J9_max_7cf53 ct K R n
theorem xt_J9_max_7cf53 {ct : Nat → Bool} {K : Kt} {R : Option AV → Hp → Prop} {n pc : Nat} {ls : List (Option AV)} {st : List AV} {σ : Hp} {k : Nat × Nat} (h : ct pc = true) : xk_J9_max_7cf53 ct K R n pc ls st σ k = K pc ls st σ k := by unfold xk_J9_max_7cf53 exkS; rw [h]
theorem xf_J9_max_7cf53 {ct : Nat → Bool} {K : Kt} {R : Option AV → Hp → Prop} {n pc : Nat} {ls : List (Option AV)} {st : List AV} {σ : Hp} {k : Nat × Nat} (h : ct pc = false) : xk_J9_max_7cf53 ct K R n pc ls st σ k = xe_J9_max_7cf53 ct K R n pc ls st σ k := by unfold xk_J9_max_7cf53 exkS xe_J9_max_7cf53; rw [h]
theorem ev_J9_max_7cf53 {ct : Nat → Bool} {K : Kt} {R : Option AV → Hp → Prop} {n : Nat} {ls : List (Option AV)} {st : List AV} {σ : Hp} {k : Nat × Nat} :
  xe_J9_max_7cf53 ct K R (n + 1) 0 ls st σ k = (lI ls 0 fun x => xk_J9_max_7cf53 ct K R n 1 ls (vi x :: st) σ k) ∧
  xe_J9_max_7cf53 ct K R (n + 1) 1 ls st σ k = (lI ls 1 fun x => xk_J9_max_7cf53 ct K R n 2 ls (vi x :: st) σ k) ∧
  xe_J9_max_7cf53 ct K R (n + 1) 2 ls st σ k = (oI st fun y st => oI st fun x st => (wI x < wI y → xk_J9_max_7cf53 ct K R n 9 ls st σ k) ∧ (¬ (wI x < wI y) → xk_J9_max_7cf53 ct K R n 5 ls st σ k)) ∧
  xe_J9_max_7cf53 ct K R (n + 1) 5 ls st σ k = (lI ls 0 fun x => xk_J9_max_7cf53 ct K R n 6 ls (vi x :: st) σ k) ∧
  xe_J9_max_7cf53 ct K R (n + 1) 6 ls st σ k = (xk_J9_max_7cf53 ct K R n 10 ls st σ k) ∧
  xe_J9_max_7cf53 ct K R (n + 1) 9 ls st σ k = (lI ls 1 fun x => xk_J9_max_7cf53 ct K R n 10 ls (vi x :: st) σ k) ∧
  xe_J9_max_7cf53 ct K R (n + 1) 10 ls st σ k = (oI st fun x st => st = [] ∧ True ∧ R (some (vi x)) σ) :=
  ⟨exS_step.trans rfl, exS_step.trans rfl, exS_step.trans rfl, exS_step.trans rfl, exS_step.trans rfl, exS_step.trans rfl, exS_step.trans rfl⟩
def M_J9_max_7cf53 : Md := (yJ9_max_7cf53, cJ9_max_7cf53, 2, (some FieldType.int), 1, 0, 0, 1, false, tb_J9_max_7cf53, mt_J9_max_7cf53)
theorem mm_J9_max_7cf53 : MMOK M_J9_max_7cf53 := ⟨by decide +kernel, tk_J9_max_7cf53, mk_J9_max_7cf53, rfl, fun h => by cases h⟩
theorem go_J9_max_7cf53 {Q : Option AV → Hp → Prop} {ct : Nat → Bool} {pc : Nat} {ls : List (Option AV)} {st : List AV} {σ : Hp} {k : Nat × Nat} (n : Nat) (h : xe_J9_max_7cf53 ct (Go M_J9_max_7cf53 Q) Q n pc ls st σ k) : Go M_J9_max_7cf53 Q pc ls st σ k := Go.exS mm_J9_max_7cf53 h

set_option maxRecDepth 20000 in
theorem c_J9_max_7cf53 : Ct yJ9_max_7cf53 cJ9_max_7cf53 2 ((some FieldType.int)) 1 0 0 sp_J9_max_7cf53 := by
  refine Ct.go (M := M_J9_max_7cf53) mm_J9_max_7cf53 fun av σ Q h0 => ?_
  obtain ⟨x, y, rfl, h⟩ := el_J9_max_7cf53 h0
  clear h0
  refine ⟨Nat.le_of_ble_eq_true rfl, ?_⟩
  show Go M_J9_max_7cf53 Q 0 [some (vi x), some (vi y)] [] σ (0, 0)
  obtain ⟨hx, hy, h⟩ := h
  refine go_J9_max_7cf53 (ct := fun p => false) 20 ?_
  simp only [oI, oL, oR, o1, lI, lL, lR, popN, catS, gv, stL, stL2, swt, cnd, spObj, List.getElem?_cons_zero, List.getElem?_cons_succ, List.getD_cons_zero, List.getD_cons_succ, List.set_cons_zero, List.set_cons_succ, List.nil_append, List.cons_append, Option.toList, Bool.or_false, Bool.false_or, Bool.or_true, Bool.true_or, Nat.reduceBEq, Nat.reduceAdd, Nat.reduceLT, Nat.reduceLeDiff, Int.reduceAdd, Int.reduceToNat, true_and, and_true, Fin.isValue, Fin.val_zero, Fin.val_one, Fin.val_two, Fin.reduceFinMk, eq_self, Int.reduceNeg, imp_self, Nat.reduceMul, Nat.le_refl, not_true_eq_false, not_false_eq_true, List.getElem?_nil, reduceCtorEq, true_or, or_true, Classical.not_not, implies_true, or_self, wI_0, wI_1, wI_m1, b2i_w, b2i_eq0, b2i_eq1, b2i_bool, nor_self, nx_pI, kd_pI, ln_pI, fI_pI, fL_pI, fR_pI, aI_pI, aL_pI, aR_pI, nx_pL, kd_pL, ln_pL, fI_pL, fL_pL, fR_pL, aI_pL, aL_pL, aR_pL, nx_pR, kd_pR, ln_pR, fI_pR, fL_pR, fR_pR, aI_pR, aL_pR, aR_pR, nx_qI, kd_qI, ln_qI, fI_qI, fL_qI, fR_qI, aI_qI, aL_qI, aR_qI, nx_qL, kd_qL, ln_qL, fI_qL, fL_qL, fR_qL, aI_qL, aL_qL, aR_qL, nx_qR, kd_qR, ln_qR, fI_qR, fL_qR, fR_qR, aI_qR, aL_qR, aR_qR, nx_mk, kd_mk, ln_mk, fI_mk, fL_mk, fR_mk, aI_mk, aL_mk, aR_mk, false_and, and_false, if_false, if_true, and_self, Int.reduceEq, Nat.reduceEqDiff, ite_self, MLay_pI, MLay_pL, MLay_qI, MLay_qL, ev_J9_max_7cf53, xt_J9_max_7cf53, xf_J9_max_7cf53]
  try simp (disch := omega) only [wI_id, dv_nn, rm_nn]
  repeat' (first | intro z | apply And.intro)
  all_goals try omega
  all_goals grind

def sp_J9_min_7cf53 : Sp := fun av σ Q => oI av fun x av => oI av fun y av => av = [] ∧ ((-1000000 ≤ x ∧ x ≤ 1000000) ∧ (-1000000 ≤ y ∧ y ≤ 1000000) ∧ Q (some (vi (if y < x then y else x))) σ)
theorem us_J9_min_7cf53 (x : Int) (y : Int) (σ : Hp) (Q : Option AV → Hp → Prop) : sp_J9_min_7cf53 [vi x, vi y] σ Q = (((-1000000 ≤ x ∧ x ≤ 1000000) ∧ (-1000000 ≤ y ∧ y ≤ 1000000) ∧ Q (some (vi (if y < x then y else x))) σ)) := propext ⟨fun h => h.2, fun h => ⟨rfl, h⟩⟩
theorem el_J9_min_7cf53 {av : List AV} {σ : Hp} {Q : Option AV → Hp → Prop} (h : sp_J9_min_7cf53 av σ Q) : ∃ (x : Int) (y : Int), av = [vi x, vi y] ∧ (((-1000000 ≤ x ∧ x ≤ 1000000) ∧ (-1000000 ≤ y ∧ y ≤ 1000000) ∧ Q (some (vi (if y < x then y else x))) σ)) := by
  obtain ⟨x, a0, rfl, h0⟩ := oI_s h
  obtain ⟨y, a1, rfl, h1⟩ := oI_s h0
  obtain ⟨rfl, hz⟩ := h1
  exact ⟨x, y, rfl, hz⟩

def tb_J9_min_7cf53 : Tab := [(0, .iload_n 0, 1, (0, 0, 0, 0)), (1, .iload_n 1, 1, (0, 0, 0, 0)), (2, .if_icmp .gt 7, 3, (0, 0, 0, 0)), (5, .iload_n 0, 1, (0, 0, 0, 0)), (6, .goto 4, 3, (0, 0, 0, 0)), (9, .iload_n 1, 1, (0, 0, 0, 0)), (10, .ireturn, 1, (0, 0, 0, 0))]
set_option maxRecDepth 100000 in
theorem tk_J9_min_7cf53 : TOK RJ9 false cJ9_min_7cf53 tb_J9_min_7cf53 := chkT_ok ft_J9 (by decide +kernel)
def mt_J9_min_7cf53 : List (Nat × Mt) := []
theorem mk_J9_min_7cf53 : MOK RJ9 mt_J9_min_7cf53 := fun q hq => by cases hq
noncomputable def xe_J9_min_7cf53 (ct : Nat → Bool) (K : Kt) (R : Option AV → Hp → Prop) (n : Nat) : Kt := exS 2 1 0 0 1 tb_J9_min_7cf53 mt_J9_min_7cf53 ct K R n
noncomputable def xk_J9_min_7cf53 (ct : Nat → Bool) (K : Kt) (R : Option AV → Hp → Prop) (n : Nat) : Kt := exkS 2 1 0 0 1 tb_J9_min_7cf53 mt_J9_min_7cf53 ct K R n
theorem xt_J9_min_7cf53 {ct : Nat → Bool} {K : Kt} {R : Option AV → Hp → Prop} {n pc : Nat} {ls : List (Option AV)} {st : List AV} {σ : Hp} {k : Nat × Nat} (h : ct pc = true) : xk_J9_min_7cf53 ct K R n pc ls st σ k = K pc ls st σ k := by unfold xk_J9_min_7cf53 exkS; rw [h]
theorem xf_J9_min_7cf53 {ct : Nat → Bool} {K : Kt} {R : Option AV → Hp → Prop} {n pc : Nat} {ls : List (Option AV)} {st : List AV} {σ : Hp} {k : Nat × Nat} (h : ct pc = false) : xk_J9_min_7cf53 ct K R n pc ls st σ k = xe_J9_min_7cf53 ct K R n pc ls st σ k := by unfold xk_J9_min_7cf53 exkS xe_J9_min_7cf53; rw [h]
theorem ev_J9_min_7cf53 {ct : Nat → Bool} {K : Kt} {R : Option AV → Hp → Prop} {n : Nat} {ls : List (Option AV)} {st : List AV} {σ : Hp} {k : Nat × Nat} :
  xe_J9_min_7cf53 ct K R (n + 1) 0 ls st σ k = (lI ls 0 fun x => xk_J9_min_7cf53 ct K R n 1 ls (vi x :: st) σ k) ∧
  xe_J9_min_7cf53 ct K R (n + 1) 1 ls st σ k = (lI ls 1 fun x => xk_J9_min_7cf53 ct K R n 2 ls (vi x :: st) σ k) ∧
  xe_J9_min_7cf53 ct K R (n + 1) 2 ls st σ k = (oI st fun y st => oI st fun x st => (wI y < wI x → xk_J9_min_7cf53 ct K R n 9 ls st σ k) ∧ (¬ (wI y < wI x) → xk_J9_min_7cf53 ct K R n 5 ls st σ k)) ∧
  xe_J9_min_7cf53 ct K R (n + 1) 5 ls st σ k = (lI ls 0 fun x => xk_J9_min_7cf53 ct K R n 6 ls (vi x :: st) σ k) ∧
  xe_J9_min_7cf53 ct K R (n + 1) 6 ls st σ k = (xk_J9_min_7cf53 ct K R n 10 ls st σ k) ∧
  xe_J9_min_7cf53 ct K R (n + 1) 9 ls st σ k = (lI ls 1 fun x => xk_J9_min_7cf53 ct K R n 10 ls (vi x :: st) σ k) ∧
  xe_J9_min_7cf53 ct K R (n + 1) 10 ls st σ k = (oI st fun x st => st = [] ∧ True ∧ R (some (vi x)) σ) :=
  ⟨exS_step.trans rfl, exS_step.trans rfl, exS_step.trans rfl, exS_step.trans rfl, exS_step.trans rfl, exS_step.trans rfl, exS_step.trans rfl⟩
def M_J9_min_7cf53 : Md := (yJ9_min_7cf53, cJ9_min_7cf53, 2, (some FieldType.int), 1, 0, 0, 1, false, tb_J9_min_7cf53, mt_J9_min_7cf53)
theorem mm_J9_min_7cf53 : MMOK M_J9_min_7cf53 := ⟨by decide +kernel, tk_J9_min_7cf53, mk_J9_min_7cf53, rfl, fun h => by cases h⟩
theorem go_J9_min_7cf53 {Q : Option AV → Hp → Prop} {ct : Nat → Bool} {pc : Nat} {ls : List (Option AV)} {st : List AV} {σ : Hp} {k : Nat × Nat} (n : Nat) (h : xe_J9_min_7cf53 ct (Go M_J9_min_7cf53 Q) Q n pc ls st σ k) : Go M_J9_min_7cf53 Q pc ls st σ k := Go.exS mm_J9_min_7cf53 h

set_option maxRecDepth 20000 in
theorem c_J9_min_7cf53 : Ct yJ9_min_7cf53 cJ9_min_7cf53 2 ((some FieldType.int)) 1 0 0 sp_J9_min_7cf53 := by
  refine Ct.go (M := M_J9_min_7cf53) mm_J9_min_7cf53 fun av σ Q h0 => ?_
  obtain ⟨x, y, rfl, h⟩ := el_J9_min_7cf53 h0
  clear h0
  refine ⟨Nat.le_of_ble_eq_true rfl, ?_⟩
  show Go M_J9_min_7cf53 Q 0 [some (vi x), some (vi y)] [] σ (0, 0)
  obtain ⟨hx, hy, h⟩ := h
  refine go_J9_min_7cf53 (ct := fun p => false) 20 ?_
  simp only [oI, oL, oR, o1, lI, lL, lR, popN, catS, gv, stL, stL2, swt, cnd, spObj, List.getElem?_cons_zero, List.getElem?_cons_succ, List.getD_cons_zero, List.getD_cons_succ, List.set_cons_zero, List.set_cons_succ, List.nil_append, List.cons_append, Option.toList, Bool.or_false, Bool.false_or, Bool.or_true, Bool.true_or, Nat.reduceBEq, Nat.reduceAdd, Nat.reduceLT, Nat.reduceLeDiff, Int.reduceAdd, Int.reduceToNat, true_and, and_true, Fin.isValue, Fin.val_zero, Fin.val_one, Fin.val_two, Fin.reduceFinMk, eq_self, Int.reduceNeg, imp_self, Nat.reduceMul, Nat.le_refl, not_true_eq_false, not_false_eq_true, List.getElem?_nil, reduceCtorEq, true_or, or_true, Classical.not_not, implies_true, or_self, wI_0, wI_1, wI_m1, b2i_w, b2i_eq0, b2i_eq1, b2i_bool, nor_self, nx_pI, kd_pI, ln_pI, fI_pI, fL_pI, fR_pI, aI_pI, aL_pI, aR_pI, nx_pL, kd_pL, ln_pL, fI_pL, fL_pL, fR_pL, aI_pL, aL_pL, aR_pL, nx_pR, kd_pR, ln_pR, fI_pR, fL_pR, fR_pR, aI_pR, aL_pR, aR_pR, nx_qI, kd_qI, ln_qI, fI_qI, fL_qI, fR_qI, aI_qI, aL_qI, aR_qI, nx_qL, kd_qL, ln_qL, fI_qL, fL_qL, fR_qL, aI_qL, aL_qL, aR_qL, nx_qR, kd_qR, ln_qR, fI_qR, fL_qR, fR_qR, aI_qR, aL_qR, aR_qR, nx_mk, kd_mk, ln_mk, fI_mk, fL_mk, fR_mk, aI_mk, aL_mk, aR_mk, false_and, and_false, if_false, if_true, and_self, Int.reduceEq, Nat.reduceEqDiff, ite_self, MLay_pI, MLay_pL, MLay_qI, MLay_qL, ev_J9_min_7cf53, xt_J9_min_7cf53, xf_J9_min_7cf53]
  try simp (disch := omega) only [wI_id, dv_nn, rm_nn]
  repeat' (first | intro z | apply And.intro)
  all_goals try omega
  all_goals grind

/-- the way from a house to a box -/
def mWay (σ : Hp) (h b : Int) : Int := ab (aI σ 85 h - aI σ 65 b) + ab (aI σ 86 h - aI σ 66 b)
theorem mWay_in {σ : Hp} (hI : MI σ) (h b : Int) : 0 ≤ mWay σ h b ∧ mWay σ h b ≤ 198 := by
  have h1 := hI.houseX_ h
  have h2 := hI.x_ b
  have h3 := hI.houseY_ h
  have h4 := hI.y_ b
  have h5 := ab_in (x := aI σ 85 h - aI σ 65 b) (a := 99) (by omega)
  have h6 := ab_in (x := aI σ 86 h - aI σ 66 b) (a := 99) (by omega)
  unfold mWay; omega

def sp_X12_way : Sp := fun av σ Q => oR av fun this av => oI av fun u av => oI av fun b av => av = [] ∧ kd σ this = 13 ∧ (this = 61 ∧ MI σ ∧ (0 ≤ u ∧ u < 12) ∧ (0 ≤ b ∧ b < 32) ∧ Q (some (vi (mWay σ u b))) σ)
theorem us_X12_way (this : Int) (u : Int) (b : Int) (σ : Hp) (Q : Option AV → Hp → Prop) : sp_X12_way [vr this, vi u, vi b] σ Q = (kd σ this = 13 ∧ (this = 61 ∧ MI σ ∧ (0 ≤ u ∧ u < 12) ∧ (0 ≤ b ∧ b < 32) ∧ Q (some (vi (mWay σ u b))) σ)) := propext ⟨fun h => h.2, fun h => ⟨rfl, h⟩⟩
theorem el_X12_way {av : List AV} {σ : Hp} {Q : Option AV → Hp → Prop} (h : sp_X12_way av σ Q) : ∃ (this : Int) (u : Int) (b : Int), av = [vr this, vi u, vi b] ∧ (kd σ this = 13 ∧ (this = 61 ∧ MI σ ∧ (0 ≤ u ∧ u < 12) ∧ (0 ≤ b ∧ b < 32) ∧ Q (some (vi (mWay σ u b))) σ)) := by
  obtain ⟨this, a0, rfl, h0⟩ := oR_s h
  obtain ⟨u, a1, rfl, h1⟩ := oI_s h0
  obtain ⟨b, a2, rfl, h2⟩ := oI_s h1
  obtain ⟨rfl, hz⟩ := h2
  exact ⟨this, u, b, rfl, hz⟩
theorem rc_X12_way : ∀ (av : List AV) (σ : Hp) (Q : Option AV → Hp → Prop), sp_X12_way av σ Q → ∃ r tl, av = vr r :: tl ∧ kd σ r = 12 + 1 := fun av σ Q h => by
  obtain ⟨this, u, b, rfl, hz, -⟩ := el_X12_way h
  exact ⟨this, _, rfl, hz⟩

def tb_X12_way : Tab := [(0, .aload_n 0, 1, (0, 0, 0, 0)), (1, .getfield 81, 3, (13, 1333, 2, 0)), (4, .iload_n 1, 1, (0, 0, 0, 0)), (5, .iaload, 1, (0, 0, 0, 0)), (6, .aload_n 0, 1, (0, 0, 0, 0)), (7, .getfield 19, 3, (13, 1306, 2, 0)), (10, .iload_n 2, 1, (0, 0, 0, 0)), (11, .iaload, 1, (0, 0, 0, 0)), (12, .isub, 1, (0, 0, 0, 0)), (13, .invokestatic 296, 3, (0, 0, 0, 0)), (16, .aload_n 0, 1, (0, 0, 0, 0)), (17, .getfield 84, 3, (13, 1334, 2, 0)), (20, .iload_n 1, 1, (0, 0, 0, 0)), (21, .iaload, 1, (0, 0, 0, 0)), (22, .aload_n 0, 1, (0, 0, 0, 0)), (23, .getfield 22, 3, (13, 1307, 2, 0)), (26, .iload_n 2, 1, (0, 0, 0, 0)), (27, .iaload, 1, (0, 0, 0, 0)), (28, .isub, 1, (0, 0, 0, 0)), (29, .invokestatic 296, 3, (0, 0, 0, 0)), (32, .iadd, 1, (0, 0, 0, 0)), (33, .ireturn, 1, (0, 0, 0, 0))]
set_option maxRecDepth 100000 in
theorem tk_X12_way : TOK RX12 false cX12_way tb_X12_way := chkT_ok ft_X12 (by decide +kernel)
theorem rw_X12_2369 : Row RX12 (.invokestatic 296) 3 1 0 0 1 sp_J9_abs_0f7a4 := row_S c_J9_abs_0f7a4 ⟨TBL_in 1994 (by decide +kernel) rfl, TBL_in 1243 (by decide +kernel) rfl, TBL_in 128 (by decide +kernel) rfl, by decide +kernel, by decide⟩ (TBL_in 1242 (by decide +kernel) rfl)
def mt_X12_way : List (Nat × Mt) := [(2369, 1, 0, 0, 1, sp_J9_abs_0f7a4)]
theorem em_X12_way : mt_X12_way.lookup 2369 = some (1, 0, 0, 1, sp_J9_abs_0f7a4) := rfl
theorem mk_X12_way : MOK RX12 mt_X12_way := by
  intro q hq
  simp only [mt_X12_way, List.mem_cons, List.not_mem_nil, or_false] at hq
  rcases hq with rfl
  · exact rw_X12_2369
noncomputable def xe_X12_way (ct : Nat → Bool) (K : Kt) (R : Option AV → Hp → Prop) (n : Nat) : Kt := exS 3 2 0 0 1 tb_X12_way mt_X12_way ct K R n
noncomputable def xk_X12_way (ct : Nat → Bool) (K : Kt) (R : Option AV → Hp → Prop) (n : Nat) : Kt := exkS 3 2 0 0 1 tb_X12_way mt_X12_way ct K R n
theorem xt_X12_way {ct : Nat → Bool} {K : Kt} {R : Option AV → Hp → Prop} {n pc : Nat} {ls : List (Option AV)} {st : List AV} {σ : Hp} {k : Nat × Nat} (h : ct pc = true) : xk_X12_way ct K R n pc ls st σ k = K pc ls st σ k := by unfold xk_X12_way exkS; rw [h]
theorem xf_X12_way {ct : Nat → Bool} {K : Kt} {R : Option AV → Hp → Prop} {n pc : Nat} {ls : List (Option AV)} {st : List AV} {σ : Hp} {k : Nat × Nat} (h : ct pc = false) : xk_X12_way ct K R n pc ls st σ k = xe_X12_way ct K R n pc ls st σ k := by unfold xk_X12_way exkS xe_X12_way; rw [h]
theorem ev_X12_way {ct : Nat → Bool} {K : Kt} {R : Option AV → Hp → Prop} {n : Nat} {ls : List (Option AV)} {st : List AV} {σ : Hp} {k : Nat × Nat} :
  xe_X12_way ct K R (n + 1) 0 ls st σ k = (lR ls 0 fun x => xk_X12_way ct K R n 1 ls (vr x :: st) σ k) ∧
  xe_X12_way ct K R (n + 1) 1 ls st σ k = (oR st fun x st => kd σ x = 13 ∧ xk_X12_way ct K R n 4 ls (vr (fR σ 1333 x) :: st) σ k) ∧
  xe_X12_way ct K R (n + 1) 4 ls st σ k = (lI ls 1 fun x => xk_X12_way ct K R n 5 ls (vi x :: st) σ k) ∧
  xe_X12_way ct K R (n + 1) 5 ls st σ k = (oI st fun j st => oR st fun x st => (kd σ x = 101 ∨ kd σ x = 108) ∧ (0 ≤ j ∧ j < ln σ x) ∧ xk_X12_way ct K R n 6 ls (vi (aI σ x j) :: st) σ k) ∧
  xe_X12_way ct K R (n + 1) 6 ls st σ k = (lR ls 0 fun x => xk_X12_way ct K R n 7 ls (vr x :: st) σ k) ∧
  xe_X12_way ct K R (n + 1) 7 ls st σ k = (oR st fun x st => kd σ x = 13 ∧ xk_X12_way ct K R n 10 ls (vr (fR σ 1306 x) :: st) σ k) ∧
  xe_X12_way ct K R (n + 1) 10 ls st σ k = (lI ls 2 fun x => xk_X12_way ct K R n 11 ls (vi x :: st) σ k) ∧
  xe_X12_way ct K R (n + 1) 11 ls st σ k = (oI st fun j st => oR st fun x st => (kd σ x = 101 ∨ kd σ x = 108) ∧ (0 ≤ j ∧ j < ln σ x) ∧ xk_X12_way ct K R n 12 ls (vi (aI σ x j) :: st) σ k) ∧
  xe_X12_way ct K R (n + 1) 12 ls st σ k = (oI st fun y st => oI st fun x st => xk_X12_way ct K R n 13 ls (vi (x - y) :: st) σ k) ∧
  xe_X12_way ct K R (n + 1) 13 ls st σ k = (popN 1 st [] fun av rest => (catS rest ≤ 8 ∧ 1 < 2 ∧ k.1 + 0 ≤ 0 ∧ k.2 + 0 ≤ 0) ∧ (sp_J9_abs_0f7a4) av σ fun v σ' => xk_X12_way ct K R n 16 ls (v.toList ++ rest) σ' (k.1 + 0, k.2 + 0)) ∧
  xe_X12_way ct K R (n + 1) 16 ls st σ k = (lR ls 0 fun x => xk_X12_way ct K R n 17 ls (vr x :: st) σ k) ∧
  xe_X12_way ct K R (n + 1) 17 ls st σ k = (oR st fun x st => kd σ x = 13 ∧ xk_X12_way ct K R n 20 ls (vr (fR σ 1334 x) :: st) σ k) ∧
  xe_X12_way ct K R (n + 1) 20 ls st σ k = (lI ls 1 fun x => xk_X12_way ct K R n 21 ls (vi x :: st) σ k) ∧
  xe_X12_way ct K R (n + 1) 21 ls st σ k = (oI st fun j st => oR st fun x st => (kd σ x = 101 ∨ kd σ x = 108) ∧ (0 ≤ j ∧ j < ln σ x) ∧ xk_X12_way ct K R n 22 ls (vi (aI σ x j) :: st) σ k) ∧
  xe_X12_way ct K R (n + 1) 22 ls st σ k = (lR ls 0 fun x => xk_X12_way ct K R n 23 ls (vr x :: st) σ k) ∧
  xe_X12_way ct K R (n + 1) 23 ls st σ k = (oR st fun x st => kd σ x = 13 ∧ xk_X12_way ct K R n 26 ls (vr (fR σ 1307 x) :: st) σ k) ∧
  xe_X12_way ct K R (n + 1) 26 ls st σ k = (lI ls 2 fun x => xk_X12_way ct K R n 27 ls (vi x :: st) σ k) ∧
  xe_X12_way ct K R (n + 1) 27 ls st σ k = (oI st fun j st => oR st fun x st => (kd σ x = 101 ∨ kd σ x = 108) ∧ (0 ≤ j ∧ j < ln σ x) ∧ xk_X12_way ct K R n 28 ls (vi (aI σ x j) :: st) σ k) ∧
  xe_X12_way ct K R (n + 1) 28 ls st σ k = (oI st fun y st => oI st fun x st => xk_X12_way ct K R n 29 ls (vi (x - y) :: st) σ k) ∧
  xe_X12_way ct K R (n + 1) 29 ls st σ k = (popN 1 st [] fun av rest => (catS rest ≤ 8 ∧ 1 < 2 ∧ k.1 + 0 ≤ 0 ∧ k.2 + 0 ≤ 0) ∧ (sp_J9_abs_0f7a4) av σ fun v σ' => xk_X12_way ct K R n 32 ls (v.toList ++ rest) σ' (k.1 + 0, k.2 + 0)) ∧
  xe_X12_way ct K R (n + 1) 32 ls st σ k = (oI st fun y st => oI st fun x st => xk_X12_way ct K R n 33 ls (vi (x + y) :: st) σ k) ∧
  xe_X12_way ct K R (n + 1) 33 ls st σ k = (oI st fun x st => st = [] ∧ True ∧ R (some (vi x)) σ) :=
  ⟨exS_step.trans rfl, exS_step.trans rfl, exS_step.trans rfl, exS_step.trans rfl, exS_step.trans rfl, exS_step.trans rfl, exS_step.trans rfl, exS_step.trans rfl, exS_step.trans rfl, exS_step.trans rfl, exS_step.trans rfl, exS_step.trans rfl, exS_step.trans rfl, exS_step.trans rfl, exS_step.trans rfl, exS_step.trans rfl, exS_step.trans rfl, exS_step.trans rfl, exS_step.trans rfl, exS_step.trans rfl, exS_step.trans rfl, exS_step.trans rfl⟩
def M_X12_way : Md := (yX12_way, cX12_way, 3, (some FieldType.int), 2, 0, 0, 1, false, tb_X12_way, mt_X12_way)
theorem mm_X12_way : MMOK M_X12_way := ⟨by decide +kernel, tk_X12_way, mk_X12_way, rfl, fun h => by cases h⟩
theorem go_X12_way {Q : Option AV → Hp → Prop} {ct : Nat → Bool} {pc : Nat} {ls : List (Option AV)} {st : List AV} {σ : Hp} {k : Nat × Nat} (n : Nat) (h : xe_X12_way ct (Go M_X12_way Q) Q n pc ls st σ k) : Go M_X12_way Q pc ls st σ k := Go.exS mm_X12_way h

set_option maxRecDepth 20000 in
theorem c_X12_way : Ct yX12_way cX12_way 3 ((some FieldType.int)) 2 0 0 sp_X12_way := by
  refine Ct.go (M := M_X12_way) mm_X12_way fun av σ Q h0 => ?_
  obtain ⟨this, u, b, rfl, hk, h⟩ := el_X12_way h0
  clear h0
  refine ⟨Nat.le_of_ble_eq_true rfl, ?_⟩
  show Go M_X12_way Q 0 [some (vr this), some (vi u), some (vi b)] [] σ (0, 0)
  obtain ⟨rfl, hI, hu, hb, h⟩ := h
  have h1 := hI.houseX_ u
  have h2 := hI.x_ b
  have h3 := hI.houseY_ u
  have h4 := hI.y_ b
  unfold mWay at h
  refine go_X12_way (ct := fun p => false) 30 ?_
  simp only [oI, oL, oR, o1, lI, lL, lR, popN, catS, gv, stL, stL2, swt, cnd, spObj, List.getElem?_cons_zero, List.getElem?_cons_succ, List.getD_cons_zero, List.getD_cons_succ, List.set_cons_zero, List.set_cons_succ, List.nil_append, List.cons_append, Option.toList, Bool.or_false, Bool.false_or, Bool.or_true, Bool.true_or, Nat.reduceBEq, Nat.reduceAdd, Nat.reduceLT, Nat.reduceLeDiff, Int.reduceAdd, Int.reduceToNat, true_and, and_true, Fin.isValue, Fin.val_zero, Fin.val_one, Fin.val_two, Fin.reduceFinMk, eq_self, Int.reduceNeg, imp_self, Nat.reduceMul, Nat.le_refl, not_true_eq_false, not_false_eq_true, List.getElem?_nil, reduceCtorEq, true_or, or_true, Classical.not_not, implies_true, or_self, wI_0, wI_1, wI_m1, b2i_w, b2i_eq0, b2i_eq1, b2i_bool, nor_self, nx_pI, kd_pI, ln_pI, fI_pI, fL_pI, fR_pI, aI_pI, aL_pI, aR_pI, nx_pL, kd_pL, ln_pL, fI_pL, fL_pL, fR_pL, aI_pL, aL_pL, aR_pL, nx_pR, kd_pR, ln_pR, fI_pR, fL_pR, fR_pR, aI_pR, aL_pR, aR_pR, nx_qI, kd_qI, ln_qI, fI_qI, fL_qI, fR_qI, aI_qI, aL_qI, aR_qI, nx_qL, kd_qL, ln_qL, fI_qL, fL_qL, fR_qL, aI_qL, aL_qL, aR_qL, nx_qR, kd_qR, ln_qR, fI_qR, fL_qR, fR_qR, aI_qR, aL_qR, aR_qR, nx_mk, kd_mk, ln_mk, fI_mk, fL_mk, fR_mk, aI_mk, aL_mk, aR_mk, false_and, and_false, if_false, if_true, and_self, Int.reduceEq, Nat.reduceEqDiff, ite_self, MLay_pI, MLay_pL, MLay_qI, MLay_qL, ev_X12_way, xt_X12_way, xf_X12_way, us_J9_abs_0f7a4, hk, hI.lay.eqs]
  repeat' (first | intro z | apply And.intro)
  all_goals try omega

def sp_X12_house : Sp := fun av σ Q => oR av fun this av => oI av fun x av => oI av fun y av => av = [] ∧ kd σ this = 13 ∧ (this = 61 ∧ MI σ ∧ inR x ∧ inR y ∧ (((0 ≤ x ∧ x ≤ 99) ∧ (0 ≤ y ∧ y ≤ 99) ∧ ¬ fI σ 1332 61 = 12) → Q (some (vi (fI σ 1332 61))) (pI (qI (qI (pI σ 1300 61 0) 85 (fI σ 1332 61) x) 86 (fI σ 1332 61) y) 1332 61 (fI σ 1332 61 + 1))) ∧ (¬ ((0 ≤ x ∧ x ≤ 99) ∧ (0 ≤ y ∧ y ≤ 99) ∧ ¬ fI σ 1332 61 = 12) → Q (some (vi (-1))) (pI σ 1300 61 0)))
theorem us_X12_house (this : Int) (x : Int) (y : Int) (σ : Hp) (Q : Option AV → Hp → Prop) : sp_X12_house [vr this, vi x, vi y] σ Q = (kd σ this = 13 ∧ (this = 61 ∧ MI σ ∧ inR x ∧ inR y ∧ (((0 ≤ x ∧ x ≤ 99) ∧ (0 ≤ y ∧ y ≤ 99) ∧ ¬ fI σ 1332 61 = 12) → Q (some (vi (fI σ 1332 61))) (pI (qI (qI (pI σ 1300 61 0) 85 (fI σ 1332 61) x) 86 (fI σ 1332 61) y) 1332 61 (fI σ 1332 61 + 1))) ∧ (¬ ((0 ≤ x ∧ x ≤ 99) ∧ (0 ≤ y ∧ y ≤ 99) ∧ ¬ fI σ 1332 61 = 12) → Q (some (vi (-1))) (pI σ 1300 61 0)))) := propext ⟨fun h => h.2, fun h => ⟨rfl, h⟩⟩
theorem el_X12_house {av : List AV} {σ : Hp} {Q : Option AV → Hp → Prop} (h : sp_X12_house av σ Q) : ∃ (this : Int) (x : Int) (y : Int), av = [vr this, vi x, vi y] ∧ (kd σ this = 13 ∧ (this = 61 ∧ MI σ ∧ inR x ∧ inR y ∧ (((0 ≤ x ∧ x ≤ 99) ∧ (0 ≤ y ∧ y ≤ 99) ∧ ¬ fI σ 1332 61 = 12) → Q (some (vi (fI σ 1332 61))) (pI (qI (qI (pI σ 1300 61 0) 85 (fI σ 1332 61) x) 86 (fI σ 1332 61) y) 1332 61 (fI σ 1332 61 + 1))) ∧ (¬ ((0 ≤ x ∧ x ≤ 99) ∧ (0 ≤ y ∧ y ≤ 99) ∧ ¬ fI σ 1332 61 = 12) → Q (some (vi (-1))) (pI σ 1300 61 0)))) := by
  obtain ⟨this, a0, rfl, h0⟩ := oR_s h
  obtain ⟨x, a1, rfl, h1⟩ := oI_s h0
  obtain ⟨y, a2, rfl, h2⟩ := oI_s h1
  obtain ⟨rfl, hz⟩ := h2
  exact ⟨this, x, y, rfl, hz⟩
theorem rc_X12_house : ∀ (av : List AV) (σ : Hp) (Q : Option AV → Hp → Prop), sp_X12_house av σ Q → ∃ r tl, av = vr r :: tl ∧ kd σ r = 12 + 1 := fun av σ Q h => by
  obtain ⟨this, x, y, rfl, hz, -⟩ := el_X12_house h
  exact ⟨this, _, rfl, hz⟩

def tb_X12_house : Tab := [(0, .aload_n 0, 1, (0, 0, 0, 0)), (1, .iconst 0, 1, (0, 0, 0, 0)), (2, .putfield 196, 3, (13, 1300, 0, 0)), (5, .iload_n 1, 1, (0, 0, 0, 0)), (6, .iconst 0, 1, (0, 0, 0, 0)), (7, .bipush 99, 2, (0, 0, 0, 0)), (9, .invokestatic 202, 3, (0, 0, 0, 0)), (12, .ifCond .eq 22, 3, (0, 0, 0, 0)), (15, .iload_n 2, 1, (0, 0, 0, 0)), (16, .iconst 0, 1, (0, 0, 0, 0)), (17, .bipush 99, 2, (0, 0, 0, 0)), (19, .invokestatic 202, 3, (0, 0, 0, 0)), (22, .ifCond .eq 12, 3, (0, 0, 0, 0)), (25, .aload_n 0, 1, (0, 0, 0, 0)), (26, .getfield 290, 3, (13, 1332, 0, 0)), (29, .bipush 12, 2, (0, 0, 0, 0)), (31, .if_icmp .ne 5, 3, (0, 0, 0, 0)), (34, .iconst (-1), 1, (0, 0, 0, 0)), (35, .ireturn, 1, (0, 0, 0, 0)), (36, .aload_n 0, 1, (0, 0, 0, 0)), (37, .getfield 81, 3, (13, 1333, 2, 0)), (40, .aload_n 0, 1, (0, 0, 0, 0)), (41, .getfield 290, 3, (13, 1332, 0, 0)), (44, .iload_n 1, 1, (0, 0, 0, 0)), (45, .iastore, 1, (0, 0, 0, 0)), (46, .aload_n 0, 1, (0, 0, 0, 0)), (47, .getfield 84, 3, (13, 1334, 2, 0)), (50, .aload_n 0, 1, (0, 0, 0, 0)), (51, .getfield 290, 3, (13, 1332, 0, 0)), (54, .iload_n 2, 1, (0, 0, 0, 0)), (55, .iastore, 1, (0, 0, 0, 0)), (56, .aload_n 0, 1, (0, 0, 0, 0)), (57, .dup, 1, (0, 0, 0, 0)), (58, .getfield 290, 3, (13, 1332, 0, 0)), (61, .iconst 1, 1, (0, 0, 0, 0)), (62, .iadd, 1, (0, 0, 0, 0)), (63, .putfield 290, 3, (13, 1332, 0, 0)), (66, .aload_n 0, 1, (0, 0, 0, 0)), (67, .getfield 290, 3, (13, 1332, 0, 0)), (70, .iconst 1, 1, (0, 0, 0, 0)), (71, .isub, 1, (0, 0, 0, 0)), (72, .ireturn, 1, (0, 0, 0, 0))]
set_option maxRecDepth 100000 in
theorem tk_X12_house : TOK RX12 false cX12_house tb_X12_house := chkT_ok ft_X12 (by decide +kernel)
def mt_X12_house : List (Nat × Mt) := [(1617, 3, 0, 0, 1, sp_X12_within)]
theorem em_X12_house : mt_X12_house.lookup 1617 = some (3, 0, 0, 1, sp_X12_within) := rfl
theorem mk_X12_house : MOK RX12 mt_X12_house := by
  intro q hq
  simp only [mt_X12_house, List.mem_cons, List.not_mem_nil, or_false] at hq
  rcases hq with rfl
  · exact rw_X12_1617
noncomputable def xe_X12_house (ct : Nat → Bool) (K : Kt) (R : Option AV → Hp → Prop) (n : Nat) : Kt := exS 3 3 0 0 1 tb_X12_house mt_X12_house ct K R n
noncomputable def xk_X12_house (ct : Nat → Bool) (K : Kt) (R : Option AV → Hp → Prop) (n : Nat) : Kt := exkS 3 3 0 0 1 tb_X12_house mt_X12_house ct K R n
theorem xt_X12_house {ct : Nat → Bool} {K : Kt} {R : Option AV → Hp → Prop} {n pc : Nat} {ls : List (Option AV)} {st : List AV} {σ : Hp} {k : Nat × Nat} (h : ct pc = true) : xk_X12_house ct K R n pc ls st σ k = K pc ls st σ k := by unfold xk_X12_house exkS; rw [h]
theorem xf_X12_house {ct : Nat → Bool} {K : Kt} {R : Option AV → Hp → Prop} {n pc : Nat} {ls : List (Option AV)} {st : List AV} {σ : Hp} {k : Nat × Nat} (h : ct pc = false) : xk_X12_house ct K R n pc ls st σ k = xe_X12_house ct K R n pc ls st σ k := by unfold xk_X12_house exkS xe_X12_house; rw [h]
theorem ev_X12_house {ct : Nat → Bool} {K : Kt} {R : Option AV → Hp → Prop} {n : Nat} {ls : List (Option AV)} {st : List AV} {σ : Hp} {k : Nat × Nat} :
  xe_X12_house ct K R (n + 1) 0 ls st σ k = (lR ls 0 fun x => xk_X12_house ct K R n 1 ls (vr x :: st) σ k) ∧
  xe_X12_house ct K R (n + 1) 1 ls st σ k = (xk_X12_house ct K R n 2 ls (vi (0) :: st) σ k) ∧
  xe_X12_house ct K R (n + 1) 2 ls st σ k = (oI st fun v st => oR st fun x st => kd σ x = 13 ∧ xk_X12_house ct K R n 5 ls st (pI σ 1300 x v) k) ∧
  xe_X12_house ct K R (n + 1) 5 ls st σ k = (lI ls 1 fun x => xk_X12_house ct K R n 6 ls (vi x :: st) σ k) ∧
  xe_X12_house ct K R (n + 1) 6 ls st σ k = (xk_X12_house ct K R n 7 ls (vi (0) :: st) σ k) ∧
  xe_X12_house ct K R (n + 1) 7 ls st σ k = (xk_X12_house ct K R n 9 ls (vi (99) :: st) σ k) ∧
  xe_X12_house ct K R (n + 1) 9 ls st σ k = (popN 3 st [] fun av rest => (catS rest ≤ 8 ∧ 1 < 3 ∧ k.1 + 0 ≤ 0 ∧ k.2 + 0 ≤ 0) ∧ (sp_X12_within) av σ fun v σ' => xk_X12_house ct K R n 12 ls (v.toList ++ rest) σ' (k.1 + 0, k.2 + 0)) ∧
  xe_X12_house ct K R (n + 1) 12 ls st σ k = (oI st fun x st => (wI x = wI 0 → xk_X12_house ct K R n 34 ls st σ k) ∧ (¬ (wI x = wI 0) → xk_X12_house ct K R n 15 ls st σ k)) ∧
  xe_X12_house ct K R (n + 1) 15 ls st σ k = (lI ls 2 fun x => xk_X12_house ct K R n 16 ls (vi x :: st) σ k) ∧
  xe_X12_house ct K R (n + 1) 16 ls st σ k = (xk_X12_house ct K R n 17 ls (vi (0) :: st) σ k) ∧
  xe_X12_house ct K R (n + 1) 17 ls st σ k = (xk_X12_house ct K R n 19 ls (vi (99) :: st) σ k) ∧
  xe_X12_house ct K R (n + 1) 19 ls st σ k = (popN 3 st [] fun av rest => (catS rest ≤ 8 ∧ 1 < 3 ∧ k.1 + 0 ≤ 0 ∧ k.2 + 0 ≤ 0) ∧ (sp_X12_within) av σ fun v σ' => xk_X12_house ct K R n 22 ls (v.toList ++ rest) σ' (k.1 + 0, k.2 + 0)) ∧
  xe_X12_house ct K R (n + 1) 22 ls st σ k = (oI st fun x st => (wI x = wI 0 → xk_X12_house ct K R n 34 ls st σ k) ∧ (¬ (wI x = wI 0) → xk_X12_house ct K R n 25 ls st σ k)) ∧
  xe_X12_house ct K R (n + 1) 25 ls st σ k = (lR ls 0 fun x => xk_X12_house ct K R n 26 ls (vr x :: st) σ k) ∧
  xe_X12_house ct K R (n + 1) 26 ls st σ k = (oR st fun x st => kd σ x = 13 ∧ xk_X12_house ct K R n 29 ls (vi (fI σ 1332 x) :: st) σ k) ∧
  xe_X12_house ct K R (n + 1) 29 ls st σ k = (xk_X12_house ct K R n 31 ls (vi (12) :: st) σ k) ∧
  xe_X12_house ct K R (n + 1) 31 ls st σ k = (oI st fun y st => oI st fun x st => (¬ wI x = wI y → xk_X12_house ct K R n 36 ls st σ k) ∧ (¬ (¬ wI x = wI y) → xk_X12_house ct K R n 34 ls st σ k)) ∧
  xe_X12_house ct K R (n + 1) 34 ls st σ k = (xk_X12_house ct K R n 35 ls (vi (-1) :: st) σ k) ∧
  xe_X12_house ct K R (n + 1) 35 ls st σ k = (oI st fun x st => st = [] ∧ True ∧ R (some (vi x)) σ) ∧
  xe_X12_house ct K R (n + 1) 36 ls st σ k = (lR ls 0 fun x => xk_X12_house ct K R n 37 ls (vr x :: st) σ k) ∧
  xe_X12_house ct K R (n + 1) 37 ls st σ k = (oR st fun x st => kd σ x = 13 ∧ xk_X12_house ct K R n 40 ls (vr (fR σ 1333 x) :: st) σ k) ∧
  xe_X12_house ct K R (n + 1) 40 ls st σ k = (lR ls 0 fun x => xk_X12_house ct K R n 41 ls (vr x :: st) σ k) ∧
  xe_X12_house ct K R (n + 1) 41 ls st σ k = (oR st fun x st => kd σ x = 13 ∧ xk_X12_house ct K R n 44 ls (vi (fI σ 1332 x) :: st) σ k) ∧
  xe_X12_house ct K R (n + 1) 44 ls st σ k = (lI ls 1 fun x => xk_X12_house ct K R n 45 ls (vi x :: st) σ k) ∧
  xe_X12_house ct K R (n + 1) 45 ls st σ k = (oI st fun v st => oI st fun j st => oR st fun x st => kd σ x = 101 ∧ (0 ≤ j ∧ j < ln σ x) ∧ xk_X12_house ct K R n 46 ls st (qI σ x j v) k) ∧
  xe_X12_house ct K R (n + 1) 46 ls st σ k = (lR ls 0 fun x => xk_X12_house ct K R n 47 ls (vr x :: st) σ k) ∧
  xe_X12_house ct K R (n + 1) 47 ls st σ k = (oR st fun x st => kd σ x = 13 ∧ xk_X12_house ct K R n 50 ls (vr (fR σ 1334 x) :: st) σ k) ∧
  xe_X12_house ct K R (n + 1) 50 ls st σ k = (lR ls 0 fun x => xk_X12_house ct K R n 51 ls (vr x :: st) σ k) ∧
  xe_X12_house ct K R (n + 1) 51 ls st σ k = (oR st fun x st => kd σ x = 13 ∧ xk_X12_house ct K R n 54 ls (vi (fI σ 1332 x) :: st) σ k) ∧
  xe_X12_house ct K R (n + 1) 54 ls st σ k = (lI ls 2 fun x => xk_X12_house ct K R n 55 ls (vi x :: st) σ k) ∧
  xe_X12_house ct K R (n + 1) 55 ls st σ k = (oI st fun v st => oI st fun j st => oR st fun x st => kd σ x = 101 ∧ (0 ≤ j ∧ j < ln σ x) ∧ xk_X12_house ct K R n 56 ls st (qI σ x j v) k) ∧
  xe_X12_house ct K R (n + 1) 56 ls st σ k = (lR ls 0 fun x => xk_X12_house ct K R n 57 ls (vr x :: st) σ k) ∧
  xe_X12_house ct K R (n + 1) 57 ls st σ k = (o1 st fun v st => xk_X12_house ct K R n 58 ls (v :: v :: st) σ k) ∧
  xe_X12_house ct K R (n + 1) 58 ls st σ k = (oR st fun x st => kd σ x = 13 ∧ xk_X12_house ct K R n 61 ls (vi (fI σ 1332 x) :: st) σ k) ∧
  xe_X12_house ct K R (n + 1) 61 ls st σ k = (xk_X12_house ct K R n 62 ls (vi (1) :: st) σ k) ∧
  xe_X12_house ct K R (n + 1) 62 ls st σ k = (oI st fun y st => oI st fun x st => xk_X12_house ct K R n 63 ls (vi (x + y) :: st) σ k) ∧
  xe_X12_house ct K R (n + 1) 63 ls st σ k = (oI st fun v st => oR st fun x st => kd σ x = 13 ∧ xk_X12_house ct K R n 66 ls st (pI σ 1332 x v) k) ∧
  xe_X12_house ct K R (n + 1) 66 ls st σ k = (lR ls 0 fun x => xk_X12_house ct K R n 67 ls (vr x :: st) σ k) ∧
  xe_X12_house ct K R (n + 1) 67 ls st σ k = (oR st fun x st => kd σ x = 13 ∧ xk_X12_house ct K R n 70 ls (vi (fI σ 1332 x) :: st) σ k) ∧
  xe_X12_house ct K R (n + 1) 70 ls st σ k = (xk_X12_house ct K R n 71 ls (vi (1) :: st) σ k) ∧
  xe_X12_house ct K R (n + 1) 71 ls st σ k = (oI st fun y st => oI st fun x st => xk_X12_house ct K R n 72 ls (vi (x - y) :: st) σ k) ∧
  xe_X12_house ct K R (n + 1) 72 ls st σ k = (oI st fun x st => st = [] ∧ True ∧ R (some (vi x)) σ) :=
  ⟨exS_step.trans rfl, exS_step.trans rfl, exS_step.trans rfl, exS_step.trans rfl, exS_step.trans rfl, exS_step.trans rfl, exS_step.trans rfl, exS_step.trans rfl, exS_step.trans rfl, exS_step.trans rfl, exS_step.trans rfl, exS_step.trans rfl, exS_step.trans rfl, exS_step.trans rfl, exS_step.trans rfl, exS_step.trans rfl, exS_step.trans rfl, exS_step.trans rfl, exS_step.trans rfl, exS_step.trans rfl, exS_step.trans rfl, exS_step.trans rfl, exS_step.trans rfl, exS_step.trans rfl, exS_step.trans rfl, exS_step.trans rfl, exS_step.trans rfl, exS_step.trans rfl, exS_step.trans rfl, exS_step.trans rfl, exS_step.trans rfl, exS_step.trans rfl, exS_step.trans rfl, exS_step.trans rfl, exS_step.trans rfl, exS_step.trans rfl, exS_step.trans rfl, exS_step.trans rfl, exS_step.trans rfl, exS_step.trans rfl, exS_step.trans rfl, exS_step.trans rfl⟩
def M_X12_house : Md := (yX12_house, cX12_house, 3, (some FieldType.int), 3, 0, 0, 1, false, tb_X12_house, mt_X12_house)
theorem mm_X12_house : MMOK M_X12_house := ⟨by decide +kernel, tk_X12_house, mk_X12_house, rfl, fun h => by cases h⟩
theorem go_X12_house {Q : Option AV → Hp → Prop} {ct : Nat → Bool} {pc : Nat} {ls : List (Option AV)} {st : List AV} {σ : Hp} {k : Nat × Nat} (n : Nat) (h : xe_X12_house ct (Go M_X12_house Q) Q n pc ls st σ k) : Go M_X12_house Q pc ls st σ k := Go.exS mm_X12_house h

set_option maxRecDepth 20000 in
theorem c_X12_house : Ct yX12_house cX12_house 3 ((some FieldType.int)) 3 0 0 sp_X12_house := by
  refine Ct.go (M := M_X12_house) mm_X12_house fun av σ Q h0 => ?_
  obtain ⟨this, x, y, rfl, hk, h⟩ := el_X12_house h0
  clear h0
  refine ⟨Nat.le_of_ble_eq_true rfl, ?_⟩
  show Go M_X12_house Q 0 [some (vr this), some (vi x), some (vi y)] [] σ (0, 0)
  obtain ⟨rfl, hI, hx, hy, h1, h2⟩ := h
  have hn := hI.houses_s
  unfold inR at hx hy
  refine go_X12_house (ct := fun p => false) 60 ?_
  simp only [oI, oL, oR, o1, lI, lL, lR, popN, catS, gv, stL, stL2, swt, cnd, spObj, List.getElem?_cons_zero, List.getElem?_cons_succ, List.getD_cons_zero, List.getD_cons_succ, List.set_cons_zero, List.set_cons_succ, List.nil_append, List.cons_append, Option.toList, Bool.or_false, Bool.false_or, Bool.or_true, Bool.true_or, Nat.reduceBEq, Nat.reduceAdd, Nat.reduceLT, Nat.reduceLeDiff, Int.reduceAdd, Int.reduceToNat, true_and, and_true, Fin.isValue, Fin.val_zero, Fin.val_one, Fin.val_two, Fin.reduceFinMk, eq_self, Int.reduceNeg, imp_self, Nat.reduceMul, Nat.le_refl, not_true_eq_false, not_false_eq_true, List.getElem?_nil, reduceCtorEq, true_or, or_true, Classical.not_not, implies_true, or_self, wI_0, wI_1, wI_m1, b2i_w, b2i_eq0, b2i_eq1, b2i_bool, nor_self, nx_pI, kd_pI, ln_pI, fI_pI, fL_pI, fR_pI, aI_pI, aL_pI, aR_pI, nx_pL, kd_pL, ln_pL, fI_pL, fL_pL, fR_pL, aI_pL, aL_pL, aR_pL, nx_pR, kd_pR, ln_pR, fI_pR, fL_pR, fR_pR, aI_pR, aL_pR, aR_pR, nx_qI, kd_qI, ln_qI, fI_qI, fL_qI, fR_qI, aI_qI, aL_qI, aR_qI, nx_qL, kd_qL, ln_qL, fI_qL, fL_qL, fR_qL, aI_qL, aL_qL, aR_qL, nx_qR, kd_qR, ln_qR, fI_qR, fL_qR, fR_qR, aI_qR, aL_qR, aR_qR, nx_mk, kd_mk, ln_mk, fI_mk, fL_mk, fR_mk, aI_mk, aL_mk, aR_mk, false_and, and_false, if_false, if_true, and_self, Int.reduceEq, Nat.reduceEqDiff, ite_self, MLay_pI, MLay_pL, MLay_qI, MLay_qL, ev_X12_house, xt_X12_house, xf_X12_house, us_X12_within, hk, hI.lay.eqs]
  try simp (disch := omega) only [wI_id, dv_nn, rm_nn]
  repeat' (first | intro z | apply And.intro)
  all_goals try omega
  all_goals grind

def sp_X12_company : Sp := fun av σ Q => oR av fun this av => oI av fun x av => oI av fun y av => av = [] ∧ kd σ this = 13 ∧ (this = 61 ∧ MI σ ∧ inR x ∧ inR y ∧ (((0 ≤ x ∧ x ≤ 1) ∧ (0 ≤ y ∧ y < fI σ 1332 61) ∧ ¬ fI σ 1335 61 = 20) → Q (some (vi (fI σ 1335 61))) (pI (qI (qI (qI (pI σ 1300 61 0) 87 (fI σ 1335 61) x) 88 (fI σ 1335 61) y) 89 (fI σ 1335 61) y) 1335 61 (fI σ 1335 61 + 1))) ∧ (¬ ((0 ≤ x ∧ x ≤ 1) ∧ (0 ≤ y ∧ y < fI σ 1332 61) ∧ ¬ fI σ 1335 61 = 20) → Q (some (vi (-1))) (pI σ 1300 61 0)))
theorem us_X12_company (this : Int) (x : Int) (y : Int) (σ : Hp) (Q : Option AV → Hp → Prop) : sp_X12_company [vr this, vi x, vi y] σ Q = (kd σ this = 13 ∧ (this = 61 ∧ MI σ ∧ inR x ∧ inR y ∧ (((0 ≤ x ∧ x ≤ 1) ∧ (0 ≤ y ∧ y < fI σ 1332 61) ∧ ¬ fI σ 1335 61 = 20) → Q (some (vi (fI σ 1335 61))) (pI (qI (qI (qI (pI σ 1300 61 0) 87 (fI σ 1335 61) x) 88 (fI σ 1335 61) y) 89 (fI σ 1335 61) y) 1335 61 (fI σ 1335 61 + 1))) ∧ (¬ ((0 ≤ x ∧ x ≤ 1) ∧ (0 ≤ y ∧ y < fI σ 1332 61) ∧ ¬ fI σ 1335 61 = 20) → Q (some (vi (-1))) (pI σ 1300 61 0)))) := propext ⟨fun h => h.2, fun h => ⟨rfl, h⟩⟩
theorem el_X12_company {av : List AV} {σ : Hp} {Q : Option AV → Hp → Prop} (h : sp_X12_company av σ Q) : ∃ (this : Int) (x : Int) (y : Int), av = [vr this, vi x, vi y] ∧ (kd σ this = 13 ∧ (this = 61 ∧ MI σ ∧ inR x ∧ inR y ∧ (((0 ≤ x ∧ x ≤ 1) ∧ (0 ≤ y ∧ y < fI σ 1332 61) ∧ ¬ fI σ 1335 61 = 20) → Q (some (vi (fI σ 1335 61))) (pI (qI (qI (qI (pI σ 1300 61 0) 87 (fI σ 1335 61) x) 88 (fI σ 1335 61) y) 89 (fI σ 1335 61) y) 1335 61 (fI σ 1335 61 + 1))) ∧ (¬ ((0 ≤ x ∧ x ≤ 1) ∧ (0 ≤ y ∧ y < fI σ 1332 61) ∧ ¬ fI σ 1335 61 = 20) → Q (some (vi (-1))) (pI σ 1300 61 0)))) := by
  obtain ⟨this, a0, rfl, h0⟩ := oR_s h
  obtain ⟨x, a1, rfl, h1⟩ := oI_s h0
  obtain ⟨y, a2, rfl, h2⟩ := oI_s h1
  obtain ⟨rfl, hz⟩ := h2
  exact ⟨this, x, y, rfl, hz⟩
theorem rc_X12_company : ∀ (av : List AV) (σ : Hp) (Q : Option AV → Hp → Prop), sp_X12_company av σ Q → ∃ r tl, av = vr r :: tl ∧ kd σ r = 12 + 1 := fun av σ Q h => by
  obtain ⟨this, x, y, rfl, hz, -⟩ := el_X12_company h
  exact ⟨this, _, rfl, hz⟩

def tb_X12_company : Tab := [(0, .aload_n 0, 1, (0, 0, 0, 0)), (1, .iconst 0, 1, (0, 0, 0, 0)), (2, .putfield 196, 3, (13, 1300, 0, 0)), (5, .iload_n 1, 1, (0, 0, 0, 0)), (6, .iconst 0, 1, (0, 0, 0, 0)), (7, .iconst 1, 1, (0, 0, 0, 0)), (8, .invokestatic 202, 3, (0, 0, 0, 0)), (11, .ifCond .eq 26, 3, (0, 0, 0, 0)), (14, .iload_n 2, 1, (0, 0, 0, 0)), (15, .iconst 0, 1, (0, 0, 0, 0)), (16, .aload_n 0, 1, (0, 0, 0, 0)), (17, .getfield 290, 3, (13, 1332, 0, 0)), (20, .iconst 1, 1, (0, 0, 0, 0)), (21, .isub, 1, (0, 0, 0, 0)), (22, .invokestatic 202, 3, (0, 0, 0, 0)), (25, .ifCond .eq 12, 3, (0, 0, 0, 0)), (28, .aload_n 0, 1, (0, 0, 0, 0)), (29, .getfield 293, 3, (13, 1335, 0, 0)), (32, .bipush 20, 2, (0, 0, 0, 0)), (34, .if_icmp .ne 5, 3, (0, 0, 0, 0)), (37, .iconst (-1), 1, (0, 0, 0, 0)), (38, .ireturn, 1, (0, 0, 0, 0)), (39, .aload_n 0, 1, (0, 0, 0, 0)), (40, .getfield 87, 3, (13, 1336, 2, 0)), (43, .aload_n 0, 1, (0, 0, 0, 0)), (44, .getfield 293, 3, (13, 1335, 0, 0)), (47, .iload_n 1, 1, (0, 0, 0, 0)), (48, .iastore, 1, (0, 0, 0, 0)), (49, .aload_n 0, 1, (0, 0, 0, 0)), (50, .getfield 90, 3, (13, 1337, 2, 0)), (53, .aload_n 0, 1, (0, 0, 0, 0)), (54, .getfield 293, 3, (13, 1335, 0, 0)), (57, .iload_n 2, 1, (0, 0, 0, 0)), (58, .iastore, 1, (0, 0, 0, 0)), (59, .aload_n 0, 1, (0, 0, 0, 0)), (60, .getfield 93, 3, (13, 1338, 2, 0)), (63, .aload_n 0, 1, (0, 0, 0, 0)), (64, .getfield 293, 3, (13, 1335, 0, 0)), (67, .iload_n 2, 1, (0, 0, 0, 0)), (68, .iastore, 1, (0, 0, 0, 0)), (69, .aload_n 0, 1, (0, 0, 0, 0)), (70, .dup, 1, (0, 0, 0, 0)), (71, .getfield 293, 3, (13, 1335, 0, 0)), (74, .iconst 1, 1, (0, 0, 0, 0)), (75, .iadd, 1, (0, 0, 0, 0)), (76, .putfield 293, 3, (13, 1335, 0, 0)), (79, .aload_n 0, 1, (0, 0, 0, 0)), (80, .getfield 293, 3, (13, 1335, 0, 0)), (83, .iconst 1, 1, (0, 0, 0, 0)), (84, .isub, 1, (0, 0, 0, 0)), (85, .ireturn, 1, (0, 0, 0, 0))]
set_option maxRecDepth 100000 in
theorem tk_X12_company : TOK RX12 false cX12_company tb_X12_company := chkT_ok ft_X12 (by decide +kernel)
def mt_X12_company : List (Nat × Mt) := [(1617, 3, 0, 0, 1, sp_X12_within)]
theorem em_X12_company : mt_X12_company.lookup 1617 = some (3, 0, 0, 1, sp_X12_within) := rfl
theorem mk_X12_company : MOK RX12 mt_X12_company := by
  intro q hq
  simp only [mt_X12_company, List.mem_cons, List.not_mem_nil, or_false] at hq
  rcases hq with rfl
  · exact rw_X12_1617
noncomputable def xe_X12_company (ct : Nat → Bool) (K : Kt) (R : Option AV → Hp → Prop) (n : Nat) : Kt := exS 3 3 0 0 1 tb_X12_company mt_X12_company ct K R n
noncomputable def xk_X12_company (ct : Nat → Bool) (K : Kt) (R : Option AV → Hp → Prop) (n : Nat) : Kt := exkS 3 3 0 0 1 tb_X12_company mt_X12_company ct K R n
theorem xt_X12_company {ct : Nat → Bool} {K : Kt} {R : Option AV → Hp → Prop} {n pc : Nat} {ls : List (Option AV)} {st : List AV} {σ : Hp} {k : Nat × Nat} (h : ct pc = true) : xk_X12_company ct K R n pc ls st σ k = K pc ls st σ k := by unfold xk_X12_company exkS; rw [h]
theorem xf_X12_company {ct : Nat → Bool} {K : Kt} {R : Option AV → Hp → Prop} {n pc : Nat} {ls : List (Option AV)} {st : List AV} {σ : Hp} {k : Nat × Nat} (h : ct pc = false) : xk_X12_company ct K R n pc ls st σ k = xe_X12_company ct K R n pc ls st σ k := by unfold xk_X12_company exkS xe_X12_company; rw [h]
theorem ev_X12_company {ct : Nat → Bool} {K : Kt} {R : Option AV → Hp → Prop} {n : Nat} {ls : List (Option AV)} {st : List AV} {σ : Hp} {k : Nat × Nat} :
  xe_X12_company ct K R (n + 1) 0 ls st σ k = (lR ls 0 fun x => xk_X12_company ct K R n 1 ls (vr x :: st) σ k) ∧
  xe_X12_company ct K R (n + 1) 1 ls st σ k = (xk_X12_company ct K R n 2 ls (vi (0) :: st) σ k) ∧
  xe_X12_company ct K R (n + 1) 2 ls st σ k = (oI st fun v st => oR st fun x st => kd σ x = 13 ∧ xk_X12_company ct K R n 5 ls st (pI σ 1300 x v) k) ∧
  xe_X12_company ct K R (n + 1) 5 ls st σ k = (lI ls 1 fun x => xk_X12_company ct K R n 6 ls (vi x :: st) σ k) ∧
  xe_X12_company ct K R (n + 1) 6 ls st σ k = (xk_X12_company ct K R n 7 ls (vi (0) :: st) σ k) ∧
  xe_X12_company ct K R (n + 1) 7 ls st σ k = (xk_X12_company ct K R n 8 ls (vi (1) :: st) σ k) ∧
  xe_X12_company ct K R (n + 1) 8 ls st σ k = (popN 3 st [] fun av rest => (catS rest ≤ 8 ∧ 1 < 3 ∧ k.1 + 0 ≤ 0 ∧ k.2 + 0 ≤ 0) ∧ (sp_X12_within) av σ fun v σ' => xk_X12_company ct K R n 11 ls (v.toList ++ rest) σ' (k.1 + 0, k.2 + 0)) ∧
  xe_X12_company ct K R (n + 1) 11 ls st σ k = (oI st fun x st => (wI x = wI 0 → xk_X12_company ct K R n 37 ls st σ k) ∧ (¬ (wI x = wI 0) → xk_X12_company ct K R n 14 ls st σ k)) ∧
  xe_X12_company ct K R (n + 1) 14 ls st σ k = (lI ls 2 fun x => xk_X12_company ct K R n 15 ls (vi x :: st) σ k) ∧
  xe_X12_company ct K R (n + 1) 15 ls st σ k = (xk_X12_company ct K R n 16 ls (vi (0) :: st) σ k) ∧
  xe_X12_company ct K R (n + 1) 16 ls st σ k = (lR ls 0 fun x => xk_X12_company ct K R n 17 ls (vr x :: st) σ k) ∧
  xe_X12_company ct K R (n + 1) 17 ls st σ k = (oR st fun x st => kd σ x = 13 ∧ xk_X12_company ct K R n 20 ls (vi (fI σ 1332 x) :: st) σ k) ∧
  xe_X12_company ct K R (n + 1) 20 ls st σ k = (xk_X12_company ct K R n 21 ls (vi (1) :: st) σ k) ∧
  xe_X12_company ct K R (n + 1) 21 ls st σ k = (oI st fun y st => oI st fun x st => xk_X12_company ct K R n 22 ls (vi (x - y) :: st) σ k) ∧
  xe_X12_company ct K R (n + 1) 22 ls st σ k = (popN 3 st [] fun av rest => (catS rest ≤ 8 ∧ 1 < 3 ∧ k.1 + 0 ≤ 0 ∧ k.2 + 0 ≤ 0) ∧ (sp_X12_within) av σ fun v σ' => xk_X12_company ct K R n 25 ls (v.toList ++ rest) σ' (k.1 + 0, k.2 + 0)) ∧
  xe_X12_company ct K R (n + 1) 25 ls st σ k = (oI st fun x st => (wI x = wI 0 → xk_X12_company ct K R n 37 ls st σ k) ∧ (¬ (wI x = wI 0) → xk_X12_company ct K R n 28 ls st σ k)) ∧
  xe_X12_company ct K R (n + 1) 28 ls st σ k = (lR ls 0 fun x => xk_X12_company ct K R n 29 ls (vr x :: st) σ k) ∧
  xe_X12_company ct K R (n + 1) 29 ls st σ k = (oR st fun x st => kd σ x = 13 ∧ xk_X12_company ct K R n 32 ls (vi (fI σ 1335 x) :: st) σ k) ∧
  xe_X12_company ct K R (n + 1) 32 ls st σ k = (xk_X12_company ct K R n 34 ls (vi (20) :: st) σ k) ∧
  xe_X12_company ct K R (n + 1) 34 ls st σ k = (oI st fun y st => oI st fun x st => (¬ wI x = wI y → xk_X12_company ct K R n 39 ls st σ k) ∧ (¬ (¬ wI x = wI y) → xk_X12_company ct K R n 37 ls st σ k)) ∧
  xe_X12_company ct K R (n + 1) 37 ls st σ k = (xk_X12_company ct K R n 38 ls (vi (-1) :: st) σ k) ∧
  xe_X12_company ct K R (n + 1) 38 ls st σ k = (oI st fun x st => st = [] ∧ True ∧ R (some (vi x)) σ) ∧
  xe_X12_company ct K R (n + 1) 39 ls st σ k = (lR ls 0 fun x => xk_X12_company ct K R n 40 ls (vr x :: st) σ k) ∧
  xe_X12_company ct K R (n + 1) 40 ls st σ k = (oR st fun x st => kd σ x = 13 ∧ xk_X12_company ct K R n 43 ls (vr (fR σ 1336 x) :: st) σ k) ∧
  xe_X12_company ct K R (n + 1) 43 ls st σ k = (lR ls 0 fun x => xk_X12_company ct K R n 44 ls (vr x :: st) σ k) ∧
  xe_X12_company ct K R (n + 1) 44 ls st σ k = (oR st fun x st => kd σ x = 13 ∧ xk_X12_company ct K R n 47 ls (vi (fI σ 1335 x) :: st) σ k) ∧
  xe_X12_company ct K R (n + 1) 47 ls st σ k = (lI ls 1 fun x => xk_X12_company ct K R n 48 ls (vi x :: st) σ k) ∧
  xe_X12_company ct K R (n + 1) 48 ls st σ k = (oI st fun v st => oI st fun j st => oR st fun x st => kd σ x = 101 ∧ (0 ≤ j ∧ j < ln σ x) ∧ xk_X12_company ct K R n 49 ls st (qI σ x j v) k) ∧
  xe_X12_company ct K R (n + 1) 49 ls st σ k = (lR ls 0 fun x => xk_X12_company ct K R n 50 ls (vr x :: st) σ k) ∧
  xe_X12_company ct K R (n + 1) 50 ls st σ k = (oR st fun x st => kd σ x = 13 ∧ xk_X12_company ct K R n 53 ls (vr (fR σ 1337 x) :: st) σ k) ∧
  xe_X12_company ct K R (n + 1) 53 ls st σ k = (lR ls 0 fun x => xk_X12_company ct K R n 54 ls (vr x :: st) σ k) ∧
  xe_X12_company ct K R (n + 1) 54 ls st σ k = (oR st fun x st => kd σ x = 13 ∧ xk_X12_company ct K R n 57 ls (vi (fI σ 1335 x) :: st) σ k) ∧
  xe_X12_company ct K R (n + 1) 57 ls st σ k = (lI ls 2 fun x => xk_X12_company ct K R n 58 ls (vi x :: st) σ k) ∧
  xe_X12_company ct K R (n + 1) 58 ls st σ k = (oI st fun v st => oI st fun j st => oR st fun x st => kd σ x = 101 ∧ (0 ≤ j ∧ j < ln σ x) ∧ xk_X12_company ct K R n 59 ls st (qI σ x j v) k) ∧
  xe_X12_company ct K R (n + 1) 59 ls st σ k = (lR ls 0 fun x => xk_X12_company ct K R n 60 ls (vr x :: st) σ k) ∧
  xe_X12_company ct K R (n + 1) 60 ls st σ k = (oR st fun x st => kd σ x = 13 ∧ xk_X12_company ct K R n 63 ls (vr (fR σ 1338 x) :: st) σ k) ∧
  xe_X12_company ct K R (n + 1) 63 ls st σ k = (lR ls 0 fun x => xk_X12_company ct K R n 64 ls (vr x :: st) σ k) ∧
  xe_X12_company ct K R (n + 1) 64 ls st σ k = (oR st fun x st => kd σ x = 13 ∧ xk_X12_company ct K R n 67 ls (vi (fI σ 1335 x) :: st) σ k) ∧
  xe_X12_company ct K R (n + 1) 67 ls st σ k = (lI ls 2 fun x => xk_X12_company ct K R n 68 ls (vi x :: st) σ k) ∧
  xe_X12_company ct K R (n + 1) 68 ls st σ k = (oI st fun v st => oI st fun j st => oR st fun x st => kd σ x = 101 ∧ (0 ≤ j ∧ j < ln σ x) ∧ xk_X12_company ct K R n 69 ls st (qI σ x j v) k) ∧
  xe_X12_company ct K R (n + 1) 69 ls st σ k = (lR ls 0 fun x => xk_X12_company ct K R n 70 ls (vr x :: st) σ k) ∧
  xe_X12_company ct K R (n + 1) 70 ls st σ k = (o1 st fun v st => xk_X12_company ct K R n 71 ls (v :: v :: st) σ k) ∧
  xe_X12_company ct K R (n + 1) 71 ls st σ k = (oR st fun x st => kd σ x = 13 ∧ xk_X12_company ct K R n 74 ls (vi (fI σ 1335 x) :: st) σ k) ∧
  xe_X12_company ct K R (n + 1) 74 ls st σ k = (xk_X12_company ct K R n 75 ls (vi (1) :: st) σ k) ∧
  xe_X12_company ct K R (n + 1) 75 ls st σ k = (oI st fun y st => oI st fun x st => xk_X12_company ct K R n 76 ls (vi (x + y) :: st) σ k) ∧
  xe_X12_company ct K R (n + 1) 76 ls st σ k = (oI st fun v st => oR st fun x st => kd σ x = 13 ∧ xk_X12_company ct K R n 79 ls st (pI σ 1335 x v) k) ∧
  xe_X12_company ct K R (n + 1) 79 ls st σ k = (lR ls 0 fun x => xk_X12_company ct K R n 80 ls (vr x :: st) σ k) ∧
  xe_X12_company ct K R (n + 1) 80 ls st σ k = (oR st fun x st => kd σ x = 13 ∧ xk_X12_company ct K R n 83 ls (vi (fI σ 1335 x) :: st) σ k) ∧
  xe_X12_company ct K R (n + 1) 83 ls st σ k = (xk_X12_company ct K R n 84 ls (vi (1) :: st) σ k) ∧
  xe_X12_company ct K R (n + 1) 84 ls st σ k = (oI st fun y st => oI st fun x st => xk_X12_company ct K R n 85 ls (vi (x - y) :: st) σ k) ∧
  xe_X12_company ct K R (n + 1) 85 ls st σ k = (oI st fun x st => st = [] ∧ True ∧ R (some (vi x)) σ) :=
  ⟨exS_step.trans rfl, exS_step.trans rfl, exS_step.trans rfl, exS_step.trans rfl, exS_step.trans rfl, exS_step.trans rfl, exS_step.trans rfl, exS_step.trans rfl, exS_step.trans rfl, exS_step.trans rfl, exS_step.trans rfl, exS_step.trans rfl, exS_step.trans rfl, exS_step.trans rfl, exS_step.trans rfl, exS_step.trans rfl, exS_step.trans rfl, exS_step.trans rfl, exS_step.trans rfl, exS_step.trans rfl, exS_step.trans rfl, exS_step.trans rfl, exS_step.trans rfl, exS_step.trans rfl, exS_step.trans rfl, exS_step.trans rfl, exS_step.trans rfl, exS_step.trans rfl, exS_step.trans rfl, exS_step.trans rfl, exS_step.trans rfl, exS_step.trans rfl, exS_step.trans rfl, exS_step.trans rfl, exS_step.trans rfl, exS_step.trans rfl, exS_step.trans rfl, exS_step.trans rfl, exS_step.trans rfl, exS_step.trans rfl, exS_step.trans rfl, exS_step.trans rfl, exS_step.trans rfl, exS_step.trans rfl, exS_step.trans rfl, exS_step.trans rfl, exS_step.trans rfl, exS_step.trans rfl, exS_step.trans rfl, exS_step.trans rfl, exS_step.trans rfl⟩
def M_X12_company : Md := (yX12_company, cX12_company, 3, (some FieldType.int), 3, 0, 0, 1, false, tb_X12_company, mt_X12_company)
theorem mm_X12_company : MMOK M_X12_company := ⟨by decide +kernel, tk_X12_company, mk_X12_company, rfl, fun h => by cases h⟩
theorem go_X12_company {Q : Option AV → Hp → Prop} {ct : Nat → Bool} {pc : Nat} {ls : List (Option AV)} {st : List AV} {σ : Hp} {k : Nat × Nat} (n : Nat) (h : xe_X12_company ct (Go M_X12_company Q) Q n pc ls st σ k) : Go M_X12_company Q pc ls st σ k := Go.exS mm_X12_company h

set_option maxRecDepth 20000 in
theorem c_X12_company : Ct yX12_company cX12_company 3 ((some FieldType.int)) 3 0 0 sp_X12_company := by
  refine Ct.go (M := M_X12_company) mm_X12_company fun av σ Q h0 => ?_
  obtain ⟨this, x, y, rfl, hk, h⟩ := el_X12_company h0
  clear h0
  refine ⟨Nat.le_of_ble_eq_true rfl, ?_⟩
  show Go M_X12_company Q 0 [some (vr this), some (vi x), some (vi y)] [] σ (0, 0)
  obtain ⟨rfl, hI, hx, hy, h1, h2⟩ := h
  have hn := hI.houses_s
  have hc := hI.companies_s
  unfold inR at hx hy
  refine go_X12_company (ct := fun p => false) 60 ?_
  simp only [oI, oL, oR, o1, lI, lL, lR, popN, catS, gv, stL, stL2, swt, cnd, spObj, List.getElem?_cons_zero, List.getElem?_cons_succ, List.getD_cons_zero, List.getD_cons_succ, List.set_cons_zero, List.set_cons_succ, List.nil_append, List.cons_append, Option.toList, Bool.or_false, Bool.false_or, Bool.or_true, Bool.true_or, Nat.reduceBEq, Nat.reduceAdd, Nat.reduceLT, Nat.reduceLeDiff, Int.reduceAdd, Int.reduceToNat, true_and, and_true, Fin.isValue, Fin.val_zero, Fin.val_one, Fin.val_two, Fin.reduceFinMk, eq_self, Int.reduceNeg, imp_self, Nat.reduceMul, Nat.le_refl, not_true_eq_false, not_false_eq_true, List.getElem?_nil, reduceCtorEq, true_or, or_true, Classical.not_not, implies_true, or_self, wI_0, wI_1, wI_m1, b2i_w, b2i_eq0, b2i_eq1, b2i_bool, nor_self, nx_pI, kd_pI, ln_pI, fI_pI, fL_pI, fR_pI, aI_pI, aL_pI, aR_pI, nx_pL, kd_pL, ln_pL, fI_pL, fL_pL, fR_pL, aI_pL, aL_pL, aR_pL, nx_pR, kd_pR, ln_pR, fI_pR, fL_pR, fR_pR, aI_pR, aL_pR, aR_pR, nx_qI, kd_qI, ln_qI, fI_qI, fL_qI, fR_qI, aI_qI, aL_qI, aR_qI, nx_qL, kd_qL, ln_qL, fI_qL, fL_qL, fR_qL, aI_qL, aL_qL, aR_qL, nx_qR, kd_qR, ln_qR, fI_qR, fL_qR, fR_qR, aI_qR, aL_qR, aR_qR, nx_mk, kd_mk, ln_mk, fI_mk, fL_mk, fR_mk, aI_mk, aL_mk, aR_mk, false_and, and_false, if_false, if_true, and_self, Int.reduceEq, Nat.reduceEqDiff, ite_self, MLay_pI, MLay_pL, MLay_qI, MLay_qL, ev_X12_company, xt_X12_company, xf_X12_company, us_X12_within, hk, hI.lay.eqs]
  try simp (disch := omega) only [wI_id, dv_nn, rm_nn]
  repeat' (first | intro z | apply And.intro)
  all_goals try omega
  all_goals grind

def sp_X12_pace : Sp := fun av σ Q => oR av fun this av => oI av fun x av => oI av fun y av => av = [] ∧ kd σ this = 13 ∧ (this = 61 ∧ MI σ ∧ inR x ∧ inR y ∧ (((1 ≤ x ∧ x ≤ 9) ∧ (0 ≤ y ∧ y ≤ 198)) → Q (some (vi 1)) (pI (pI (pI σ 1300 61 0) 1341 61 x) 1342 61 y)) ∧ (¬ ((1 ≤ x ∧ x ≤ 9) ∧ (0 ≤ y ∧ y ≤ 198)) → Q (some (vi 0)) (pI σ 1300 61 0)))
theorem us_X12_pace (this : Int) (x : Int) (y : Int) (σ : Hp) (Q : Option AV → Hp → Prop) : sp_X12_pace [vr this, vi x, vi y] σ Q = (kd σ this = 13 ∧ (this = 61 ∧ MI σ ∧ inR x ∧ inR y ∧ (((1 ≤ x ∧ x ≤ 9) ∧ (0 ≤ y ∧ y ≤ 198)) → Q (some (vi 1)) (pI (pI (pI σ 1300 61 0) 1341 61 x) 1342 61 y)) ∧ (¬ ((1 ≤ x ∧ x ≤ 9) ∧ (0 ≤ y ∧ y ≤ 198)) → Q (some (vi 0)) (pI σ 1300 61 0)))) := propext ⟨fun h => h.2, fun h => ⟨rfl, h⟩⟩
theorem el_X12_pace {av : List AV} {σ : Hp} {Q : Option AV → Hp → Prop} (h : sp_X12_pace av σ Q) : ∃ (this : Int) (x : Int) (y : Int), av = [vr this, vi x, vi y] ∧ (kd σ this = 13 ∧ (this = 61 ∧ MI σ ∧ inR x ∧ inR y ∧ (((1 ≤ x ∧ x ≤ 9) ∧ (0 ≤ y ∧ y ≤ 198)) → Q (some (vi 1)) (pI (pI (pI σ 1300 61 0) 1341 61 x) 1342 61 y)) ∧ (¬ ((1 ≤ x ∧ x ≤ 9) ∧ (0 ≤ y ∧ y ≤ 198)) → Q (some (vi 0)) (pI σ 1300 61 0)))) := by
  obtain ⟨this, a0, rfl, h0⟩ := oR_s h
  obtain ⟨x, a1, rfl, h1⟩ := oI_s h0
  obtain ⟨y, a2, rfl, h2⟩ := oI_s h1
  obtain ⟨rfl, hz⟩ := h2
  exact ⟨this, x, y, rfl, hz⟩
theorem rc_X12_pace : ∀ (av : List AV) (σ : Hp) (Q : Option AV → Hp → Prop), sp_X12_pace av σ Q → ∃ r tl, av = vr r :: tl ∧ kd σ r = 12 + 1 := fun av σ Q h => by
  obtain ⟨this, x, y, rfl, hz, -⟩ := el_X12_pace h
  exact ⟨this, _, rfl, hz⟩

def tb_X12_pace : Tab := [(0, .aload_n 0, 1, (0, 0, 0, 0)), (1, .iconst 0, 1, (0, 0, 0, 0)), (2, .putfield 196, 3, (13, 1300, 0, 0)), (5, .iload_n 1, 1, (0, 0, 0, 0)), (6, .iconst 1, 1, (0, 0, 0, 0)), (7, .bipush 9, 2, (0, 0, 0, 0)), (9, .invokestatic 202, 3, (0, 0, 0, 0)), (12, .ifCond .eq 14, 3, (0, 0, 0, 0)), (15, .iload_n 2, 1, (0, 0, 0, 0)), (16, .iconst 0, 1, (0, 0, 0, 0)), (17, .sipush 198, 3, (0, 0, 0, 0)), (20, .invokestatic 202, 3, (0, 0, 0, 0)), (23, .ifCond .ne 5, 3, (0, 0, 0, 0)), (26, .iconst 0, 1, (0, 0, 0, 0)), (27, .ireturn, 1, (0, 0, 0, 0)), (28, .aload_n 0, 1, (0, 0, 0, 0)), (29, .iload_n 1, 1, (0, 0, 0, 0)), (30, .putfield 186, 3, (13, 1341, 0, 0)), (33, .aload_n 0, 1, (0, 0, 0, 0)), (34, .iload_n 2, 1, (0, 0, 0, 0)), (35, .putfield 190, 3, (13, 1342, 0, 0)), (38, .iconst 1, 1, (0, 0, 0, 0)), (39, .ireturn, 1, (0, 0, 0, 0))]
set_option maxRecDepth 100000 in
theorem tk_X12_pace : TOK RX12 false cX12_pace tb_X12_pace := chkT_ok ft_X12 (by decide +kernel)
def mt_X12_pace : List (Nat × Mt) := [(1617, 3, 0, 0, 1, sp_X12_within)]
theorem em_X12_pace : mt_X12_pace.lookup 1617 = some (3, 0, 0, 1, sp_X12_within) := rfl
theorem mk_X12_pace : MOK RX12 mt_X12_pace := by
  intro q hq
  simp only [mt_X12_pace, List.mem_cons, List.not_mem_nil, or_false] at hq
  rcases hq with rfl
  · exact rw_X12_1617
noncomputable def xe_X12_pace (ct : Nat → Bool) (K : Kt) (R : Option AV → Hp → Prop) (n : Nat) : Kt := exS 3 3 0 0 2 tb_X12_pace mt_X12_pace ct K R n
noncomputable def xk_X12_pace (ct : Nat → Bool) (K : Kt) (R : Option AV → Hp → Prop) (n : Nat) : Kt := exkS 3 3 0 0 2 tb_X12_pace mt_X12_pace ct K R n
theorem xt_X12_pace {ct : Nat → Bool} {K : Kt} {R : Option AV → Hp → Prop} {n pc : Nat} {ls : List (Option AV)} {st : List AV} {σ : Hp} {k : Nat × Nat} (h : ct pc = true) : xk_X12_pace ct K R n pc ls st σ k = K pc ls st σ k := by unfold xk_X12_pace exkS; rw [h]
theorem xf_X12_pace {ct : Nat → Bool} {K : Kt} {R : Option AV → Hp → Prop} {n pc : Nat} {ls : List (Option AV)} {st : List AV} {σ : Hp} {k : Nat × Nat} (h : ct pc = false) : xk_X12_pace ct K R n pc ls st σ k = xe_X12_pace ct K R n pc ls st σ k := by unfold xk_X12_pace exkS xe_X12_pace; rw [h]
theorem ev_X12_pace {ct : Nat → Bool} {K : Kt} {R : Option AV → Hp → Prop} {n : Nat} {ls : List (Option AV)} {st : List AV} {σ : Hp} {k : Nat × Nat} :
  xe_X12_pace ct K R (n + 1) 0 ls st σ k = (lR ls 0 fun x => xk_X12_pace ct K R n 1 ls (vr x :: st) σ k) ∧
  xe_X12_pace ct K R (n + 1) 1 ls st σ k = (xk_X12_pace ct K R n 2 ls (vi (0) :: st) σ k) ∧
  xe_X12_pace ct K R (n + 1) 2 ls st σ k = (oI st fun v st => oR st fun x st => kd σ x = 13 ∧ xk_X12_pace ct K R n 5 ls st (pI σ 1300 x v) k) ∧
  xe_X12_pace ct K R (n + 1) 5 ls st σ k = (lI ls 1 fun x => xk_X12_pace ct K R n 6 ls (vi x :: st) σ k) ∧
  xe_X12_pace ct K R (n + 1) 6 ls st σ k = (xk_X12_pace ct K R n 7 ls (vi (1) :: st) σ k) ∧
  xe_X12_pace ct K R (n + 1) 7 ls st σ k = (xk_X12_pace ct K R n 9 ls (vi (9) :: st) σ k) ∧
  xe_X12_pace ct K R (n + 1) 9 ls st σ k = (popN 3 st [] fun av rest => (catS rest ≤ 8 ∧ 1 < 3 ∧ k.1 + 0 ≤ 0 ∧ k.2 + 0 ≤ 0) ∧ (sp_X12_within) av σ fun v σ' => xk_X12_pace ct K R n 12 ls (v.toList ++ rest) σ' (k.1 + 0, k.2 + 0)) ∧
  xe_X12_pace ct K R (n + 1) 12 ls st σ k = (oI st fun x st => (wI x = wI 0 → xk_X12_pace ct K R n 26 ls st σ k) ∧ (¬ (wI x = wI 0) → xk_X12_pace ct K R n 15 ls st σ k)) ∧
  xe_X12_pace ct K R (n + 1) 15 ls st σ k = (lI ls 2 fun x => xk_X12_pace ct K R n 16 ls (vi x :: st) σ k) ∧
  xe_X12_pace ct K R (n + 1) 16 ls st σ k = (xk_X12_pace ct K R n 17 ls (vi (0) :: st) σ k) ∧
  xe_X12_pace ct K R (n + 1) 17 ls st σ k = (xk_X12_pace ct K R n 20 ls (vi (198) :: st) σ k) ∧
  xe_X12_pace ct K R (n + 1) 20 ls st σ k = (popN 3 st [] fun av rest => (catS rest ≤ 8 ∧ 1 < 3 ∧ k.1 + 0 ≤ 0 ∧ k.2 + 0 ≤ 0) ∧ (sp_X12_within) av σ fun v σ' => xk_X12_pace ct K R n 23 ls (v.toList ++ rest) σ' (k.1 + 0, k.2 + 0)) ∧
  xe_X12_pace ct K R (n + 1) 23 ls st σ k = (oI st fun x st => (¬ wI x = wI 0 → xk_X12_pace ct K R n 28 ls st σ k) ∧ (¬ (¬ wI x = wI 0) → xk_X12_pace ct K R n 26 ls st σ k)) ∧
  xe_X12_pace ct K R (n + 1) 26 ls st σ k = (xk_X12_pace ct K R n 27 ls (vi (0) :: st) σ k) ∧
  xe_X12_pace ct K R (n + 1) 27 ls st σ k = (oI st fun x st => st = [] ∧ (x = 0 ∨ x = 1) ∧ R (some (vi x)) σ) ∧
  xe_X12_pace ct K R (n + 1) 28 ls st σ k = (lR ls 0 fun x => xk_X12_pace ct K R n 29 ls (vr x :: st) σ k) ∧
  xe_X12_pace ct K R (n + 1) 29 ls st σ k = (lI ls 1 fun x => xk_X12_pace ct K R n 30 ls (vi x :: st) σ k) ∧
  xe_X12_pace ct K R (n + 1) 30 ls st σ k = (oI st fun v st => oR st fun x st => kd σ x = 13 ∧ xk_X12_pace ct K R n 33 ls st (pI σ 1341 x v) k) ∧
  xe_X12_pace ct K R (n + 1) 33 ls st σ k = (lR ls 0 fun x => xk_X12_pace ct K R n 34 ls (vr x :: st) σ k) ∧
  xe_X12_pace ct K R (n + 1) 34 ls st σ k = (lI ls 2 fun x => xk_X12_pace ct K R n 35 ls (vi x :: st) σ k) ∧
  xe_X12_pace ct K R (n + 1) 35 ls st σ k = (oI st fun v st => oR st fun x st => kd σ x = 13 ∧ xk_X12_pace ct K R n 38 ls st (pI σ 1342 x v) k) ∧
  xe_X12_pace ct K R (n + 1) 38 ls st σ k = (xk_X12_pace ct K R n 39 ls (vi (1) :: st) σ k) ∧
  xe_X12_pace ct K R (n + 1) 39 ls st σ k = (oI st fun x st => st = [] ∧ (x = 0 ∨ x = 1) ∧ R (some (vi x)) σ) :=
  ⟨exS_step.trans rfl, exS_step.trans rfl, exS_step.trans rfl, exS_step.trans rfl, exS_step.trans rfl, exS_step.trans rfl, exS_step.trans rfl, exS_step.trans rfl, exS_step.trans rfl, exS_step.trans rfl, exS_step.trans rfl, exS_step.trans rfl, exS_step.trans rfl, exS_step.trans rfl, exS_step.trans rfl, exS_step.trans rfl, exS_step.trans rfl, exS_step.trans rfl, exS_step.trans rfl, exS_step.trans rfl, exS_step.trans rfl, exS_step.trans rfl, exS_step.trans rfl⟩
def M_X12_pace : Md := (yX12_pace, cX12_pace, 3, (some FieldType.boolean), 3, 0, 0, 2, false, tb_X12_pace, mt_X12_pace)
theorem mm_X12_pace : MMOK M_X12_pace := ⟨by decide +kernel, tk_X12_pace, mk_X12_pace, rfl, fun h => by cases h⟩
theorem go_X12_pace {Q : Option AV → Hp → Prop} {ct : Nat → Bool} {pc : Nat} {ls : List (Option AV)} {st : List AV} {σ : Hp} {k : Nat × Nat} (n : Nat) (h : xe_X12_pace ct (Go M_X12_pace Q) Q n pc ls st σ k) : Go M_X12_pace Q pc ls st σ k := Go.exS mm_X12_pace h

set_option maxRecDepth 20000 in
theorem c_X12_pace : Ct yX12_pace cX12_pace 3 ((some FieldType.boolean)) 3 0 0 sp_X12_pace := by
  refine Ct.go (M := M_X12_pace) mm_X12_pace fun av σ Q h0 => ?_
  obtain ⟨this, x, y, rfl, hk, h⟩ := el_X12_pace h0
  clear h0
  refine ⟨Nat.le_of_ble_eq_true rfl, ?_⟩
  show Go M_X12_pace Q 0 [some (vr this), some (vi x), some (vi y)] [] σ (0, 0)
  obtain ⟨rfl, hI, hx, hy, h1, h2⟩ := h
  unfold inR at hx hy
  refine go_X12_pace (ct := fun p => false) 60 ?_
  simp only [oI, oL, oR, o1, lI, lL, lR, popN, catS, gv, stL, stL2, swt, cnd, spObj, List.getElem?_cons_zero, List.getElem?_cons_succ, List.getD_cons_zero, List.getD_cons_succ, List.set_cons_zero, List.set_cons_succ, List.nil_append, List.cons_append, Option.toList, Bool.or_false, Bool.false_or, Bool.or_true, Bool.true_or, Nat.reduceBEq, Nat.reduceAdd, Nat.reduceLT, Nat.reduceLeDiff, Int.reduceAdd, Int.reduceToNat, true_and, and_true, Fin.isValue, Fin.val_zero, Fin.val_one, Fin.val_two, Fin.reduceFinMk, eq_self, Int.reduceNeg, imp_self, Nat.reduceMul, Nat.le_refl, not_true_eq_false, not_false_eq_true, List.getElem?_nil, reduceCtorEq, true_or, or_true, Classical.not_not, implies_true, or_self, wI_0, wI_1, wI_m1, b2i_w, b2i_eq0, b2i_eq1, b2i_bool, nor_self, nx_pI, kd_pI, ln_pI, fI_pI, fL_pI, fR_pI, aI_pI, aL_pI, aR_pI, nx_pL, kd_pL, ln_pL, fI_pL, fL_pL, fR_pL, aI_pL, aL_pL, aR_pL, nx_pR, kd_pR, ln_pR, fI_pR, fL_pR, fR_pR, aI_pR, aL_pR, aR_pR, nx_qI, kd_qI, ln_qI, fI_qI, fL_qI, fR_qI, aI_qI, aL_qI, aR_qI, nx_qL, kd_qL, ln_qL, fI_qL, fL_qL, fR_qL, aI_qL, aL_qL, aR_qL, nx_qR, kd_qR, ln_qR, fI_qR, fL_qR, fR_qR, aI_qR, aL_qR, aR_qR, nx_mk, kd_mk, ln_mk, fI_mk, fL_mk, fR_mk, aI_mk, aL_mk, aR_mk, false_and, and_false, if_false, if_true, and_self, Int.reduceEq, Nat.reduceEqDiff, ite_self, MLay_pI, MLay_pL, MLay_qI, MLay_qL, ev_X12_pace, xt_X12_pace, xf_X12_pace, us_X12_within, hk, hI.lay.eqs]
  try simp (disch := omega) only [wI_id, dv_nn, rm_nn]
  repeat' (first | intro z | apply And.intro)
  all_goals try omega
  all_goals grind

def sp_X12_at : Sp := fun av σ Q => oR av fun this av => oI av fun c av => av = [] ∧ kd σ this = 13 ∧ (this = 61 ∧ MI σ ∧ inR c ∧ ((0 ≤ c ∧ c < fI σ 1335 61) → Q (some (vi (aI σ 89 c))) (pI σ 1300 61 0)) ∧ (¬ (0 ≤ c ∧ c < fI σ 1335 61) → Q (some (vi (-1))) (pI σ 1300 61 0)))
theorem us_X12_at (this : Int) (c : Int) (σ : Hp) (Q : Option AV → Hp → Prop) : sp_X12_at [vr this, vi c] σ Q = (kd σ this = 13 ∧ (this = 61 ∧ MI σ ∧ inR c ∧ ((0 ≤ c ∧ c < fI σ 1335 61) → Q (some (vi (aI σ 89 c))) (pI σ 1300 61 0)) ∧ (¬ (0 ≤ c ∧ c < fI σ 1335 61) → Q (some (vi (-1))) (pI σ 1300 61 0)))) := propext ⟨fun h => h.2, fun h => ⟨rfl, h⟩⟩
theorem el_X12_at {av : List AV} {σ : Hp} {Q : Option AV → Hp → Prop} (h : sp_X12_at av σ Q) : ∃ (this : Int) (c : Int), av = [vr this, vi c] ∧ (kd σ this = 13 ∧ (this = 61 ∧ MI σ ∧ inR c ∧ ((0 ≤ c ∧ c < fI σ 1335 61) → Q (some (vi (aI σ 89 c))) (pI σ 1300 61 0)) ∧ (¬ (0 ≤ c ∧ c < fI σ 1335 61) → Q (some (vi (-1))) (pI σ 1300 61 0)))) := by
  obtain ⟨this, a0, rfl, h0⟩ := oR_s h
  obtain ⟨c, a1, rfl, h1⟩ := oI_s h0
  obtain ⟨rfl, hz⟩ := h1
  exact ⟨this, c, rfl, hz⟩
theorem rc_X12_at : ∀ (av : List AV) (σ : Hp) (Q : Option AV → Hp → Prop), sp_X12_at av σ Q → ∃ r tl, av = vr r :: tl ∧ kd σ r = 12 + 1 := fun av σ Q h => by
  obtain ⟨this, c, rfl, hz, -⟩ := el_X12_at h
  exact ⟨this, _, rfl, hz⟩

def tb_X12_at : Tab := [(0, .aload_n 0, 1, (0, 0, 0, 0)), (1, .iconst 0, 1, (0, 0, 0, 0)), (2, .putfield 196, 3, (13, 1300, 0, 0)), (5, .aload_n 0, 1, (0, 0, 0, 0)), (6, .iload_n 1, 1, (0, 0, 0, 0)), (7, .invokevirtual 430, 3, (0, 0, 0, 0)), (10, .ifCond .eq 12, 3, (0, 0, 0, 0)), (13, .aload_n 0, 1, (0, 0, 0, 0)), (14, .getfield 93, 3, (13, 1338, 2, 0)), (17, .iload_n 1, 1, (0, 0, 0, 0)), (18, .iaload, 1, (0, 0, 0, 0)), (19, .goto 4, 3, (0, 0, 0, 0)), (22, .iconst (-1), 1, (0, 0, 0, 0)), (23, .ireturn, 1, (0, 0, 0, 0))]
set_option maxRecDepth 100000 in
theorem tk_X12_at : TOK RX12 false cX12_at tb_X12_at := chkT_ok ft_X12 (by decide +kernel)
theorem rw_X12_3440 : Row RX12 (.invokevirtual 430) 3 2 0 0 2 sp_X12_isCompany := row_V (n := 1) (ci := 12) c_X12_isCompany ⟨TBL_in 2015 (by decide +kernel) rfl, TBL_in 2018 (by decide +kernel) rfl, TBL_in 123 (by decide +kernel) rfl, by decide +kernel, by decide⟩ (by decide) rfl (TBL_in 2017 (by decide +kernel) rfl) (TBL_in 99 (by decide +kernel) rfl) rc_X12_isCompany
def mt_X12_at : List (Nat × Mt) := [(3440, 2, 0, 0, 2, sp_X12_isCompany)]
theorem em_X12_at : mt_X12_at.lookup 3440 = some (2, 0, 0, 2, sp_X12_isCompany) := rfl
theorem mk_X12_at : MOK RX12 mt_X12_at := by
  intro q hq
  simp only [mt_X12_at, List.mem_cons, List.not_mem_nil, or_false] at hq
  rcases hq with rfl
  · exact rw_X12_3440
noncomputable def xe_X12_at (ct : Nat → Bool) (K : Kt) (R : Option AV → Hp → Prop) (n : Nat) : Kt := exS 2 3 0 0 1 tb_X12_at mt_X12_at ct K R n
noncomputable def xk_X12_at (ct : Nat → Bool) (K : Kt) (R : Option AV → Hp → Prop) (n : Nat) : Kt := exkS 2 3 0 0 1 tb_X12_at mt_X12_at ct K R n
theorem xt_X12_at {ct : Nat → Bool} {K : Kt} {R : Option AV → Hp → Prop} {n pc : Nat} {ls : List (Option AV)} {st : List AV} {σ : Hp} {k : Nat × Nat} (h : ct pc = true) : xk_X12_at ct K R n pc ls st σ k = K pc ls st σ k := by unfold xk_X12_at exkS; rw [h]
theorem xf_X12_at {ct : Nat → Bool} {K : Kt} {R : Option AV → Hp → Prop} {n pc : Nat} {ls : List (Option AV)} {st : List AV} {σ : Hp} {k : Nat × Nat} (h : ct pc = false) : xk_X12_at ct K R n pc ls st σ k = xe_X12_at ct K R n pc ls st σ k := by unfold xk_X12_at exkS xe_X12_at; rw [h]
theorem ev_X12_at {ct : Nat → Bool} {K : Kt} {R : Option AV → Hp → Prop} {n : Nat} {ls : List (Option AV)} {st : List AV} {σ : Hp} {k : Nat × Nat} :
  xe_X12_at ct K R (n + 1) 0 ls st σ k = (lR ls 0 fun x => xk_X12_at ct K R n 1 ls (vr x :: st) σ k) ∧
  xe_X12_at ct K R (n + 1) 1 ls st σ k = (xk_X12_at ct K R n 2 ls (vi (0) :: st) σ k) ∧
  xe_X12_at ct K R (n + 1) 2 ls st σ k = (oI st fun v st => oR st fun x st => kd σ x = 13 ∧ xk_X12_at ct K R n 5 ls st (pI σ 1300 x v) k) ∧
  xe_X12_at ct K R (n + 1) 5 ls st σ k = (lR ls 0 fun x => xk_X12_at ct K R n 6 ls (vr x :: st) σ k) ∧
  xe_X12_at ct K R (n + 1) 6 ls st σ k = (lI ls 1 fun x => xk_X12_at ct K R n 7 ls (vi x :: st) σ k) ∧
  xe_X12_at ct K R (n + 1) 7 ls st σ k = (popN 2 st [] fun av rest => (catS rest ≤ 8 ∧ 2 < 3 ∧ k.1 + 0 ≤ 0 ∧ k.2 + 0 ≤ 0) ∧ (sp_X12_isCompany) av σ fun v σ' => xk_X12_at ct K R n 10 ls (v.toList ++ rest) σ' (k.1 + 0, k.2 + 0)) ∧
  xe_X12_at ct K R (n + 1) 10 ls st σ k = (oI st fun x st => (wI x = wI 0 → xk_X12_at ct K R n 22 ls st σ k) ∧ (¬ (wI x = wI 0) → xk_X12_at ct K R n 13 ls st σ k)) ∧
  xe_X12_at ct K R (n + 1) 13 ls st σ k = (lR ls 0 fun x => xk_X12_at ct K R n 14 ls (vr x :: st) σ k) ∧
  xe_X12_at ct K R (n + 1) 14 ls st σ k = (oR st fun x st => kd σ x = 13 ∧ xk_X12_at ct K R n 17 ls (vr (fR σ 1338 x) :: st) σ k) ∧
  xe_X12_at ct K R (n + 1) 17 ls st σ k = (lI ls 1 fun x => xk_X12_at ct K R n 18 ls (vi x :: st) σ k) ∧
  xe_X12_at ct K R (n + 1) 18 ls st σ k = (oI st fun j st => oR st fun x st => (kd σ x = 101 ∨ kd σ x = 108) ∧ (0 ≤ j ∧ j < ln σ x) ∧ xk_X12_at ct K R n 19 ls (vi (aI σ x j) :: st) σ k) ∧
  xe_X12_at ct K R (n + 1) 19 ls st σ k = (xk_X12_at ct K R n 23 ls st σ k) ∧
  xe_X12_at ct K R (n + 1) 22 ls st σ k = (xk_X12_at ct K R n 23 ls (vi (-1) :: st) σ k) ∧
  xe_X12_at ct K R (n + 1) 23 ls st σ k = (oI st fun x st => st = [] ∧ True ∧ R (some (vi x)) σ) :=
  ⟨exS_step.trans rfl, exS_step.trans rfl, exS_step.trans rfl, exS_step.trans rfl, exS_step.trans rfl, exS_step.trans rfl, exS_step.trans rfl, exS_step.trans rfl, exS_step.trans rfl, exS_step.trans rfl, exS_step.trans rfl, exS_step.trans rfl, exS_step.trans rfl, exS_step.trans rfl⟩
def M_X12_at : Md := (yX12_at, cX12_at, 2, (some FieldType.int), 3, 0, 0, 1, false, tb_X12_at, mt_X12_at)
theorem mm_X12_at : MMOK M_X12_at := ⟨by decide +kernel, tk_X12_at, mk_X12_at, rfl, fun h => by cases h⟩
theorem go_X12_at {Q : Option AV → Hp → Prop} {ct : Nat → Bool} {pc : Nat} {ls : List (Option AV)} {st : List AV} {σ : Hp} {k : Nat × Nat} (n : Nat) (h : xe_X12_at ct (Go M_X12_at Q) Q n pc ls st σ k) : Go M_X12_at Q pc ls st σ k := Go.exS mm_X12_at h

set_option maxRecDepth 20000 in
theorem c_X12_at : Ct yX12_at cX12_at 2 ((some FieldType.int)) 3 0 0 sp_X12_at := by
  refine Ct.go (M := M_X12_at) mm_X12_at fun av σ Q h0 => ?_
  obtain ⟨this, c, rfl, hk, h⟩ := el_X12_at h0
  clear h0
  refine ⟨Nat.le_of_ble_eq_true rfl, ?_⟩
  show Go M_X12_at Q 0 [some (vr this), some (vi c)] [] σ (0, 0)
  obtain ⟨rfl, hI, hx, h1, h2⟩ := h
  have hI2 : MI (pI σ 1300 61 0) := MI_fre hI (by decide)
  have hn := hI.companies_s
  refine go_X12_at (ct := fun p => false) 60 ?_
  simp only [oI, oL, oR, o1, lI, lL, lR, popN, catS, gv, stL, stL2, swt, cnd, spObj, List.getElem?_cons_zero, List.getElem?_cons_succ, List.getD_cons_zero, List.getD_cons_succ, List.set_cons_zero, List.set_cons_succ, List.nil_append, List.cons_append, Option.toList, Bool.or_false, Bool.false_or, Bool.or_true, Bool.true_or, Nat.reduceBEq, Nat.reduceAdd, Nat.reduceLT, Nat.reduceLeDiff, Int.reduceAdd, Int.reduceToNat, true_and, and_true, Fin.isValue, Fin.val_zero, Fin.val_one, Fin.val_two, Fin.reduceFinMk, eq_self, Int.reduceNeg, imp_self, Nat.reduceMul, Nat.le_refl, not_true_eq_false, not_false_eq_true, List.getElem?_nil, reduceCtorEq, true_or, or_true, Classical.not_not, implies_true, or_self, wI_0, wI_1, wI_m1, b2i_w, b2i_eq0, b2i_eq1, b2i_bool, nor_self, nx_pI, kd_pI, ln_pI, fI_pI, fL_pI, fR_pI, aI_pI, aL_pI, aR_pI, nx_pL, kd_pL, ln_pL, fI_pL, fL_pL, fR_pL, aI_pL, aL_pL, aR_pL, nx_pR, kd_pR, ln_pR, fI_pR, fL_pR, fR_pR, aI_pR, aL_pR, aR_pR, nx_qI, kd_qI, ln_qI, fI_qI, fL_qI, fR_qI, aI_qI, aL_qI, aR_qI, nx_qL, kd_qL, ln_qL, fI_qL, fL_qL, fR_qL, aI_qL, aL_qL, aR_qL, nx_qR, kd_qR, ln_qR, fI_qR, fL_qR, fR_qR, aI_qR, aL_qR, aR_qR, nx_mk, kd_mk, ln_mk, fI_mk, fL_mk, fR_mk, aI_mk, aL_mk, aR_mk, false_and, and_false, if_false, if_true, and_self, Int.reduceEq, Nat.reduceEqDiff, ite_self, MLay_pI, MLay_pL, MLay_qI, MLay_qL, ev_X12_at, xt_X12_at, xf_X12_at, us_X12_isCompany, hk, hI.lay.eqs, hI2, hx]
  try simp (disch := omega) only [wI_id, dv_nn, rm_nn]
  repeat' (first | intro z | apply And.intro)
  all_goals try omega
  all_goals grind

def sp_X12_there : Sp := fun av σ Q => oR av fun this av => oI av fun c av => av = [] ∧ kd σ this = 13 ∧ (this = 61 ∧ MI σ ∧ inR c ∧ (((0 ≤ c ∧ c < fI σ 1335 61) ∧ aI σ 89 c < 0) → Q (some (vi (aI σ 91 c))) (pI σ 1300 61 0)) ∧ (¬ ((0 ≤ c ∧ c < fI σ 1335 61) ∧ aI σ 89 c < 0) → Q (some (vi (-1))) (pI σ 1300 61 0)))
theorem us_X12_there (this : Int) (c : Int) (σ : Hp) (Q : Option AV → Hp → Prop) : sp_X12_there [vr this, vi c] σ Q = (kd σ this = 13 ∧ (this = 61 ∧ MI σ ∧ inR c ∧ (((0 ≤ c ∧ c < fI σ 1335 61) ∧ aI σ 89 c < 0) → Q (some (vi (aI σ 91 c))) (pI σ 1300 61 0)) ∧ (¬ ((0 ≤ c ∧ c < fI σ 1335 61) ∧ aI σ 89 c < 0) → Q (some (vi (-1))) (pI σ 1300 61 0)))) := propext ⟨fun h => h.2, fun h => ⟨rfl, h⟩⟩
theorem el_X12_there {av : List AV} {σ : Hp} {Q : Option AV → Hp → Prop} (h : sp_X12_there av σ Q) : ∃ (this : Int) (c : Int), av = [vr this, vi c] ∧ (kd σ this = 13 ∧ (this = 61 ∧ MI σ ∧ inR c ∧ (((0 ≤ c ∧ c < fI σ 1335 61) ∧ aI σ 89 c < 0) → Q (some (vi (aI σ 91 c))) (pI σ 1300 61 0)) ∧ (¬ ((0 ≤ c ∧ c < fI σ 1335 61) ∧ aI σ 89 c < 0) → Q (some (vi (-1))) (pI σ 1300 61 0)))) := by
  obtain ⟨this, a0, rfl, h0⟩ := oR_s h
  obtain ⟨c, a1, rfl, h1⟩ := oI_s h0
  obtain ⟨rfl, hz⟩ := h1
  exact ⟨this, c, rfl, hz⟩
theorem rc_X12_there : ∀ (av : List AV) (σ : Hp) (Q : Option AV → Hp → Prop), sp_X12_there av σ Q → ∃ r tl, av = vr r :: tl ∧ kd σ r = 12 + 1 := fun av σ Q h => by
  obtain ⟨this, c, rfl, hz, -⟩ := el_X12_there h
  exact ⟨this, _, rfl, hz⟩

def tb_X12_there : Tab := [(0, .aload_n 0, 1, (0, 0, 0, 0)), (1, .iconst 0, 1, (0, 0, 0, 0)), (2, .putfield 196, 3, (13, 1300, 0, 0)), (5, .aload_n 0, 1, (0, 0, 0, 0)), (6, .iload_n 1, 1, (0, 0, 0, 0)), (7, .invokevirtual 430, 3, (0, 0, 0, 0)), (10, .ifCond .eq 21, 3, (0, 0, 0, 0)), (13, .aload_n 0, 1, (0, 0, 0, 0)), (14, .getfield 93, 3, (13, 1338, 2, 0)), (17, .iload_n 1, 1, (0, 0, 0, 0)), (18, .iaload, 1, (0, 0, 0, 0)), (19, .ifCond .ge 12, 3, (0, 0, 0, 0)), (22, .aload_n 0, 1, (0, 0, 0, 0)), (23, .getfield 99, 3, (13, 1340, 2, 0)), (26, .iload_n 1, 1, (0, 0, 0, 0)), (27, .iaload, 1, (0, 0, 0, 0)), (28, .goto 4, 3, (0, 0, 0, 0)), (31, .iconst (-1), 1, (0, 0, 0, 0)), (32, .ireturn, 1, (0, 0, 0, 0))]
set_option maxRecDepth 100000 in
theorem tk_X12_there : TOK RX12 false cX12_there tb_X12_there := chkT_ok ft_X12 (by decide +kernel)
def mt_X12_there : List (Nat × Mt) := [(3440, 2, 0, 0, 2, sp_X12_isCompany)]
theorem em_X12_there : mt_X12_there.lookup 3440 = some (2, 0, 0, 2, sp_X12_isCompany) := rfl
theorem mk_X12_there : MOK RX12 mt_X12_there := by
  intro q hq
  simp only [mt_X12_there, List.mem_cons, List.not_mem_nil, or_false] at hq
  rcases hq with rfl
  · exact rw_X12_3440
noncomputable def xe_X12_there (ct : Nat → Bool) (K : Kt) (R : Option AV → Hp → Prop) (n : Nat) : Kt := exS 2 3 0 0 1 tb_X12_there mt_X12_there ct K R n
noncomputable def xk_X12_there (ct : Nat → Bool) (K : Kt) (R : Option AV → Hp → Prop) (n : Nat) : Kt := exkS 2 3 0 0 1 tb_X12_there mt_X12_there ct K R n
theorem xt_X12_there {ct : Nat → Bool} {K : Kt} {R : Option AV → Hp → Prop} {n pc : Nat} {ls : List (Option AV)} {st : List AV} {σ : Hp} {k : Nat × Nat} (h : ct pc = true) : xk_X12_there ct K R n pc ls st σ k = K pc ls st σ k := by unfold xk_X12_there exkS; rw [h]
theorem xf_X12_there {ct : Nat → Bool} {K : Kt} {R : Option AV → Hp → Prop} {n pc : Nat} {ls : List (Option AV)} {st : List AV} {σ : Hp} {k : Nat × Nat} (h : ct pc = false) : xk_X12_there ct K R n pc ls st σ k = xe_X12_there ct K R n pc ls st σ k := by unfold xk_X12_there exkS xe_X12_there; rw [h]
theorem ev_X12_there {ct : Nat → Bool} {K : Kt} {R : Option AV → Hp → Prop} {n : Nat} {ls : List (Option AV)} {st : List AV} {σ : Hp} {k : Nat × Nat} :
  xe_X12_there ct K R (n + 1) 0 ls st σ k = (lR ls 0 fun x => xk_X12_there ct K R n 1 ls (vr x :: st) σ k) ∧
  xe_X12_there ct K R (n + 1) 1 ls st σ k = (xk_X12_there ct K R n 2 ls (vi (0) :: st) σ k) ∧
  xe_X12_there ct K R (n + 1) 2 ls st σ k = (oI st fun v st => oR st fun x st => kd σ x = 13 ∧ xk_X12_there ct K R n 5 ls st (pI σ 1300 x v) k) ∧
  xe_X12_there ct K R (n + 1) 5 ls st σ k = (lR ls 0 fun x => xk_X12_there ct K R n 6 ls (vr x :: st) σ k) ∧
  xe_X12_there ct K R (n + 1) 6 ls st σ k = (lI ls 1 fun x => xk_X12_there ct K R n 7 ls (vi x :: st) σ k) ∧
  xe_X12_there ct K R (n + 1) 7 ls st σ k = (popN 2 st [] fun av rest => (catS rest ≤ 8 ∧ 2 < 3 ∧ k.1 + 0 ≤ 0 ∧ k.2 + 0 ≤ 0) ∧ (sp_X12_isCompany) av σ fun v σ' => xk_X12_there ct K R n 10 ls (v.toList ++ rest) σ' (k.1 + 0, k.2 + 0)) ∧
  xe_X12_there ct K R (n + 1) 10 ls st σ k = (oI st fun x st => (wI x = wI 0 → xk_X12_there ct K R n 31 ls st σ k) ∧ (¬ (wI x = wI 0) → xk_X12_there ct K R n 13 ls st σ k)) ∧
  xe_X12_there ct K R (n + 1) 13 ls st σ k = (lR ls 0 fun x => xk_X12_there ct K R n 14 ls (vr x :: st) σ k) ∧
  xe_X12_there ct K R (n + 1) 14 ls st σ k = (oR st fun x st => kd σ x = 13 ∧ xk_X12_there ct K R n 17 ls (vr (fR σ 1338 x) :: st) σ k) ∧
  xe_X12_there ct K R (n + 1) 17 ls st σ k = (lI ls 1 fun x => xk_X12_there ct K R n 18 ls (vi x :: st) σ k) ∧
  xe_X12_there ct K R (n + 1) 18 ls st σ k = (oI st fun j st => oR st fun x st => (kd σ x = 101 ∨ kd σ x = 108) ∧ (0 ≤ j ∧ j < ln σ x) ∧ xk_X12_there ct K R n 19 ls (vi (aI σ x j) :: st) σ k) ∧
  xe_X12_there ct K R (n + 1) 19 ls st σ k = (oI st fun x st => (wI 0 ≤ wI x → xk_X12_there ct K R n 31 ls st σ k) ∧ (¬ (wI 0 ≤ wI x) → xk_X12_there ct K R n 22 ls st σ k)) ∧
  xe_X12_there ct K R (n + 1) 22 ls st σ k = (lR ls 0 fun x => xk_X12_there ct K R n 23 ls (vr x :: st) σ k) ∧
  xe_X12_there ct K R (n + 1) 23 ls st σ k = (oR st fun x st => kd σ x = 13 ∧ xk_X12_there ct K R n 26 ls (vr (fR σ 1340 x) :: st) σ k) ∧
  xe_X12_there ct K R (n + 1) 26 ls st σ k = (lI ls 1 fun x => xk_X12_there ct K R n 27 ls (vi x :: st) σ k) ∧
  xe_X12_there ct K R (n + 1) 27 ls st σ k = (oI st fun j st => oR st fun x st => (kd σ x = 101 ∨ kd σ x = 108) ∧ (0 ≤ j ∧ j < ln σ x) ∧ xk_X12_there ct K R n 28 ls (vi (aI σ x j) :: st) σ k) ∧
  xe_X12_there ct K R (n + 1) 28 ls st σ k = (xk_X12_there ct K R n 32 ls st σ k) ∧
  xe_X12_there ct K R (n + 1) 31 ls st σ k = (xk_X12_there ct K R n 32 ls (vi (-1) :: st) σ k) ∧
  xe_X12_there ct K R (n + 1) 32 ls st σ k = (oI st fun x st => st = [] ∧ True ∧ R (some (vi x)) σ) :=
  ⟨exS_step.trans rfl, exS_step.trans rfl, exS_step.trans rfl, exS_step.trans rfl, exS_step.trans rfl, exS_step.trans rfl, exS_step.trans rfl, exS_step.trans rfl, exS_step.trans rfl, exS_step.trans rfl, exS_step.trans rfl, exS_step.trans rfl, exS_step.trans rfl, exS_step.trans rfl, exS_step.trans rfl, exS_step.trans rfl, exS_step.trans rfl, exS_step.trans rfl, exS_step.trans rfl⟩
def M_X12_there : Md := (yX12_there, cX12_there, 2, (some FieldType.int), 3, 0, 0, 1, false, tb_X12_there, mt_X12_there)
theorem mm_X12_there : MMOK M_X12_there := ⟨by decide +kernel, tk_X12_there, mk_X12_there, rfl, fun h => by cases h⟩
theorem go_X12_there {Q : Option AV → Hp → Prop} {ct : Nat → Bool} {pc : Nat} {ls : List (Option AV)} {st : List AV} {σ : Hp} {k : Nat × Nat} (n : Nat) (h : xe_X12_there ct (Go M_X12_there Q) Q n pc ls st σ k) : Go M_X12_there Q pc ls st σ k := Go.exS mm_X12_there h

set_option maxRecDepth 20000 in
theorem c_X12_there : Ct yX12_there cX12_there 2 ((some FieldType.int)) 3 0 0 sp_X12_there := by
  refine Ct.go (M := M_X12_there) mm_X12_there fun av σ Q h0 => ?_
  obtain ⟨this, c, rfl, hk, h⟩ := el_X12_there h0
  clear h0
  refine ⟨Nat.le_of_ble_eq_true rfl, ?_⟩
  show Go M_X12_there Q 0 [some (vr this), some (vi c)] [] σ (0, 0)
  obtain ⟨rfl, hI, hx, h1, h2⟩ := h
  have hI2 : MI (pI σ 1300 61 0) := MI_fre hI (by decide)
  have hn := hI.companies_s
  have ha := hI.isAt_ c
  refine go_X12_there (ct := fun p => false) 60 ?_
  simp only [oI, oL, oR, o1, lI, lL, lR, popN, catS, gv, stL, stL2, swt, cnd, spObj, List.getElem?_cons_zero, List.getElem?_cons_succ, List.getD_cons_zero, List.getD_cons_succ, List.set_cons_zero, List.set_cons_succ, List.nil_append, List.cons_append, Option.toList, Bool.or_false, Bool.false_or, Bool.or_true, Bool.true_or, Nat.reduceBEq, Nat.reduceAdd, Nat.reduceLT, Nat.reduceLeDiff, Int.reduceAdd, Int.reduceToNat, true_and, and_true, Fin.isValue, Fin.val_zero, Fin.val_one, Fin.val_two, Fin.reduceFinMk, eq_self, Int.reduceNeg, imp_self, Nat.reduceMul, Nat.le_refl, not_true_eq_false, not_false_eq_true, List.getElem?_nil, reduceCtorEq, true_or, or_true, Classical.not_not, implies_true, or_self, wI_0, wI_1, wI_m1, b2i_w, b2i_eq0, b2i_eq1, b2i_bool, nor_self, nx_pI, kd_pI, ln_pI, fI_pI, fL_pI, fR_pI, aI_pI, aL_pI, aR_pI, nx_pL, kd_pL, ln_pL, fI_pL, fL_pL, fR_pL, aI_pL, aL_pL, aR_pL, nx_pR, kd_pR, ln_pR, fI_pR, fL_pR, fR_pR, aI_pR, aL_pR, aR_pR, nx_qI, kd_qI, ln_qI, fI_qI, fL_qI, fR_qI, aI_qI, aL_qI, aR_qI, nx_qL, kd_qL, ln_qL, fI_qL, fL_qL, fR_qL, aI_qL, aL_qL, aR_qL, nx_qR, kd_qR, ln_qR, fI_qR, fL_qR, fR_qR, aI_qR, aL_qR, aR_qR, nx_mk, kd_mk, ln_mk, fI_mk, fL_mk, fR_mk, aI_mk, aL_mk, aR_mk, false_and, and_false, if_false, if_true, and_self, Int.reduceEq, Nat.reduceEqDiff, ite_self, MLay_pI, MLay_pL, MLay_qI, MLay_qL, ev_X12_there, xt_X12_there, xf_X12_there, us_X12_isCompany, hk, hI.lay.eqs, hI2, hx]
  try simp (disch := omega) only [wI_id, dv_nn, rm_nn]
  repeat' (first | intro z | apply And.intro)
  all_goals try omega
  all_goals grind

def sp_X12_sent : Sp := fun av σ Q => oR av fun this av => oI av fun a av => oI av fun i av => av = [] ∧ kd σ this = 13 ∧ (this = 61 ∧ MI σ ∧ inR a ∧ inR i ∧ (((0 ≤ a ∧ a < fI σ 1371 61) ∧ (0 ≤ i ∧ i < aI σ 115 a)) → Q (some (vi (aI σ 116 (20 * a + i)))) (pI σ 1300 61 0)) ∧ (¬ ((0 ≤ a ∧ a < fI σ 1371 61) ∧ (0 ≤ i ∧ i < aI σ 115 a)) → Q (some (vi (-1))) (pI σ 1300 61 0)))
theorem us_X12_sent (this : Int) (a : Int) (i : Int) (σ : Hp) (Q : Option AV → Hp → Prop) : sp_X12_sent [vr this, vi a, vi i] σ Q = (kd σ this = 13 ∧ (this = 61 ∧ MI σ ∧ inR a ∧ inR i ∧ (((0 ≤ a ∧ a < fI σ 1371 61) ∧ (0 ≤ i ∧ i < aI σ 115 a)) → Q (some (vi (aI σ 116 (20 * a + i)))) (pI σ 1300 61 0)) ∧ (¬ ((0 ≤ a ∧ a < fI σ 1371 61) ∧ (0 ≤ i ∧ i < aI σ 115 a)) → Q (some (vi (-1))) (pI σ 1300 61 0)))) := propext ⟨fun h => h.2, fun h => ⟨rfl, h⟩⟩
theorem el_X12_sent {av : List AV} {σ : Hp} {Q : Option AV → Hp → Prop} (h : sp_X12_sent av σ Q) : ∃ (this : Int) (a : Int) (i : Int), av = [vr this, vi a, vi i] ∧ (kd σ this = 13 ∧ (this = 61 ∧ MI σ ∧ inR a ∧ inR i ∧ (((0 ≤ a ∧ a < fI σ 1371 61) ∧ (0 ≤ i ∧ i < aI σ 115 a)) → Q (some (vi (aI σ 116 (20 * a + i)))) (pI σ 1300 61 0)) ∧ (¬ ((0 ≤ a ∧ a < fI σ 1371 61) ∧ (0 ≤ i ∧ i < aI σ 115 a)) → Q (some (vi (-1))) (pI σ 1300 61 0)))) := by
  obtain ⟨this, a0, rfl, h0⟩ := oR_s h
  obtain ⟨a, a1, rfl, h1⟩ := oI_s h0
  obtain ⟨i, a2, rfl, h2⟩ := oI_s h1
  obtain ⟨rfl, hz⟩ := h2
  exact ⟨this, a, i, rfl, hz⟩
theorem rc_X12_sent : ∀ (av : List AV) (σ : Hp) (Q : Option AV → Hp → Prop), sp_X12_sent av σ Q → ∃ r tl, av = vr r :: tl ∧ kd σ r = 12 + 1 := fun av σ Q h => by
  obtain ⟨this, a, i, rfl, hz, -⟩ := el_X12_sent h
  exact ⟨this, _, rfl, hz⟩

def tb_X12_sent : Tab := [(0, .aload_n 0, 1, (0, 0, 0, 0)), (1, .iconst 0, 1, (0, 0, 0, 0)), (2, .putfield 196, 3, (13, 1300, 0, 0)), (5, .aload_n 0, 1, (0, 0, 0, 0)), (6, .iload_n 1, 1, (0, 0, 0, 0)), (7, .invokevirtual 427, 3, (0, 0, 0, 0)), (10, .ifCond .eq 33, 3, (0, 0, 0, 0)), (13, .iload_n 2, 1, (0, 0, 0, 0)), (14, .iconst 0, 1, (0, 0, 0, 0)), (15, .aload_n 0, 1, (0, 0, 0, 0)), (16, .getfield 171, 3, (13, 1378, 2, 0)), (19, .iload_n 1, 1, (0, 0, 0, 0)), (20, .iaload, 1, (0, 0, 0, 0)), (21, .iconst 1, 1, (0, 0, 0, 0)), (22, .isub, 1, (0, 0, 0, 0)), (23, .invokestatic 202, 3, (0, 0, 0, 0)), (26, .ifCond .eq 17, 3, (0, 0, 0, 0)), (29, .aload_n 0, 1, (0, 0, 0, 0)), (30, .getfield 174, 3, (13, 1379, 2, 0)), (33, .bipush 20, 2, (0, 0, 0, 0)), (35, .iload_n 1, 1, (0, 0, 0, 0)), (36, .imul, 1, (0, 0, 0, 0)), (37, .iload_n 2, 1, (0, 0, 0, 0)), (38, .iadd, 1, (0, 0, 0, 0)), (39, .iaload, 1, (0, 0, 0, 0)), (40, .goto 4, 3, (0, 0, 0, 0)), (43, .iconst (-1), 1, (0, 0, 0, 0)), (44, .ireturn, 1, (0, 0, 0, 0))]
set_option maxRecDepth 100000 in
theorem tk_X12_sent : TOK RX12 false cX12_sent tb_X12_sent := chkT_ok ft_X12 (by decide +kernel)
def mt_X12_sent : List (Nat × Mt) := [(3416, 2, 0, 0, 2, sp_X12_isAlarm), (1617, 3, 0, 0, 1, sp_X12_within)]
theorem em_X12_sent : mt_X12_sent.lookup 3416 = some (2, 0, 0, 2, sp_X12_isAlarm) ∧ mt_X12_sent.lookup 1617 = some (3, 0, 0, 1, sp_X12_within) := ⟨rfl, rfl⟩
theorem mk_X12_sent : MOK RX12 mt_X12_sent := by
  intro q hq
  simp only [mt_X12_sent, List.mem_cons, List.not_mem_nil, or_false] at hq
  rcases hq with rfl | rfl
  · exact rw_X12_3416
  · exact rw_X12_1617
noncomputable def xe_X12_sent (ct : Nat → Bool) (K : Kt) (R : Option AV → Hp → Prop) (n : Nat) : Kt := exS 3 3 0 0 1 tb_X12_sent mt_X12_sent ct K R n
noncomputable def xk_X12_sent (ct : Nat → Bool) (K : Kt) (R : Option AV → Hp → Prop) (n : Nat) : Kt := exkS 3 3 0 0 1 tb_X12_sent mt_X12_sent ct K R n
theorem xt_X12_sent {ct : Nat → Bool} {K : Kt} {R : Option AV → Hp → Prop} {n pc : Nat} {ls : List (Option AV)} {st : List AV} {σ : Hp} {k : Nat × Nat} (h : ct pc = true) : xk_X12_sent ct K R n pc ls st σ k = K pc ls st σ k := by unfold xk_X12_sent exkS; rw [h]
theorem xf_X12_sent {ct : Nat → Bool} {K : Kt} {R : Option AV → Hp → Prop} {n pc : Nat} {ls : List (Option AV)} {st : List AV} {σ : Hp} {k : Nat × Nat} (h : ct pc = false) : xk_X12_sent ct K R n pc ls st σ k = xe_X12_sent ct K R n pc ls st σ k := by unfold xk_X12_sent exkS xe_X12_sent; rw [h]
theorem ev_X12_sent {ct : Nat → Bool} {K : Kt} {R : Option AV → Hp → Prop} {n : Nat} {ls : List (Option AV)} {st : List AV} {σ : Hp} {k : Nat × Nat} :
  xe_X12_sent ct K R (n + 1) 0 ls st σ k = (lR ls 0 fun x => xk_X12_sent ct K R n 1 ls (vr x :: st) σ k) ∧
  xe_X12_sent ct K R (n + 1) 1 ls st σ k = (xk_X12_sent ct K R n 2 ls (vi (0) :: st) σ k) ∧
  xe_X12_sent ct K R (n + 1) 2 ls st σ k = (oI st fun v st => oR st fun x st => kd σ x = 13 ∧ xk_X12_sent ct K R n 5 ls st (pI σ 1300 x v) k) ∧
  xe_X12_sent ct K R (n + 1) 5 ls st σ k = (lR ls 0 fun x => xk_X12_sent ct K R n 6 ls (vr x :: st) σ k) ∧
  xe_X12_sent ct K R (n + 1) 6 ls st σ k = (lI ls 1 fun x => xk_X12_sent ct K R n 7 ls (vi x :: st) σ k) ∧
  xe_X12_sent ct K R (n + 1) 7 ls st σ k = (popN 2 st [] fun av rest => (catS rest ≤ 8 ∧ 2 < 3 ∧ k.1 + 0 ≤ 0 ∧ k.2 + 0 ≤ 0) ∧ (sp_X12_isAlarm) av σ fun v σ' => xk_X12_sent ct K R n 10 ls (v.toList ++ rest) σ' (k.1 + 0, k.2 + 0)) ∧
  xe_X12_sent ct K R (n + 1) 10 ls st σ k = (oI st fun x st => (wI x = wI 0 → xk_X12_sent ct K R n 43 ls st σ k) ∧ (¬ (wI x = wI 0) → xk_X12_sent ct K R n 13 ls st σ k)) ∧
  xe_X12_sent ct K R (n + 1) 13 ls st σ k = (lI ls 2 fun x => xk_X12_sent ct K R n 14 ls (vi x :: st) σ k) ∧
  xe_X12_sent ct K R (n + 1) 14 ls st σ k = (xk_X12_sent ct K R n 15 ls (vi (0) :: st) σ k) ∧
  xe_X12_sent ct K R (n + 1) 15 ls st σ k = (lR ls 0 fun x => xk_X12_sent ct K R n 16 ls (vr x :: st) σ k) ∧
  xe_X12_sent ct K R (n + 1) 16 ls st σ k = (oR st fun x st => kd σ x = 13 ∧ xk_X12_sent ct K R n 19 ls (vr (fR σ 1378 x) :: st) σ k) ∧
  xe_X12_sent ct K R (n + 1) 19 ls st σ k = (lI ls 1 fun x => xk_X12_sent ct K R n 20 ls (vi x :: st) σ k) ∧
  xe_X12_sent ct K R (n + 1) 20 ls st σ k = (oI st fun j st => oR st fun x st => (kd σ x = 101 ∨ kd σ x = 108) ∧ (0 ≤ j ∧ j < ln σ x) ∧ xk_X12_sent ct K R n 21 ls (vi (aI σ x j) :: st) σ k) ∧
  xe_X12_sent ct K R (n + 1) 21 ls st σ k = (xk_X12_sent ct K R n 22 ls (vi (1) :: st) σ k) ∧
  xe_X12_sent ct K R (n + 1) 22 ls st σ k = (oI st fun y st => oI st fun x st => xk_X12_sent ct K R n 23 ls (vi (x - y) :: st) σ k) ∧
  xe_X12_sent ct K R (n + 1) 23 ls st σ k = (popN 3 st [] fun av rest => (catS rest ≤ 8 ∧ 1 < 3 ∧ k.1 + 0 ≤ 0 ∧ k.2 + 0 ≤ 0) ∧ (sp_X12_within) av σ fun v σ' => xk_X12_sent ct K R n 26 ls (v.toList ++ rest) σ' (k.1 + 0, k.2 + 0)) ∧
  xe_X12_sent ct K R (n + 1) 26 ls st σ k = (oI st fun x st => (wI x = wI 0 → xk_X12_sent ct K R n 43 ls st σ k) ∧ (¬ (wI x = wI 0) → xk_X12_sent ct K R n 29 ls st σ k)) ∧
  xe_X12_sent ct K R (n + 1) 29 ls st σ k = (lR ls 0 fun x => xk_X12_sent ct K R n 30 ls (vr x :: st) σ k) ∧
  xe_X12_sent ct K R (n + 1) 30 ls st σ k = (oR st fun x st => kd σ x = 13 ∧ xk_X12_sent ct K R n 33 ls (vr (fR σ 1379 x) :: st) σ k) ∧
  xe_X12_sent ct K R (n + 1) 33 ls st σ k = (xk_X12_sent ct K R n 35 ls (vi (20) :: st) σ k) ∧
  xe_X12_sent ct K R (n + 1) 35 ls st σ k = (lI ls 1 fun x => xk_X12_sent ct K R n 36 ls (vi x :: st) σ k) ∧
  xe_X12_sent ct K R (n + 1) 36 ls st σ k = (oI st fun y st => oI st fun x st => xk_X12_sent ct K R n 37 ls (vi (x * y) :: st) σ k) ∧
  xe_X12_sent ct K R (n + 1) 37 ls st σ k = (lI ls 2 fun x => xk_X12_sent ct K R n 38 ls (vi x :: st) σ k) ∧
  xe_X12_sent ct K R (n + 1) 38 ls st σ k = (oI st fun y st => oI st fun x st => xk_X12_sent ct K R n 39 ls (vi (x + y) :: st) σ k) ∧
  xe_X12_sent ct K R (n + 1) 39 ls st σ k = (oI st fun j st => oR st fun x st => (kd σ x = 101 ∨ kd σ x = 108) ∧ (0 ≤ j ∧ j < ln σ x) ∧ xk_X12_sent ct K R n 40 ls (vi (aI σ x j) :: st) σ k) ∧
  xe_X12_sent ct K R (n + 1) 40 ls st σ k = (xk_X12_sent ct K R n 44 ls st σ k) ∧
  xe_X12_sent ct K R (n + 1) 43 ls st σ k = (xk_X12_sent ct K R n 44 ls (vi (-1) :: st) σ k) ∧
  xe_X12_sent ct K R (n + 1) 44 ls st σ k = (oI st fun x st => st = [] ∧ True ∧ R (some (vi x)) σ) :=
  ⟨exS_step.trans rfl, exS_step.trans rfl, exS_step.trans rfl, exS_step.trans rfl, exS_step.trans rfl, exS_step.trans rfl, exS_step.trans rfl, exS_step.trans rfl, exS_step.trans rfl, exS_step.trans rfl, exS_step.trans rfl, exS_step.trans rfl, exS_step.trans rfl, exS_step.trans rfl, exS_step.trans rfl, exS_step.trans rfl, exS_step.trans rfl, exS_step.trans rfl, exS_step.trans rfl, exS_step.trans rfl, exS_step.trans rfl, exS_step.trans rfl, exS_step.trans rfl, exS_step.trans rfl, exS_step.trans rfl, exS_step.trans rfl, exS_step.trans rfl, exS_step.trans rfl⟩
def M_X12_sent : Md := (yX12_sent, cX12_sent, 3, (some FieldType.int), 3, 0, 0, 1, false, tb_X12_sent, mt_X12_sent)
theorem mm_X12_sent : MMOK M_X12_sent := ⟨by decide +kernel, tk_X12_sent, mk_X12_sent, rfl, fun h => by cases h⟩
theorem go_X12_sent {Q : Option AV → Hp → Prop} {ct : Nat → Bool} {pc : Nat} {ls : List (Option AV)} {st : List AV} {σ : Hp} {k : Nat × Nat} (n : Nat) (h : xe_X12_sent ct (Go M_X12_sent Q) Q n pc ls st σ k) : Go M_X12_sent Q pc ls st σ k := Go.exS mm_X12_sent h

set_option maxRecDepth 20000 in
theorem c_X12_sent : Ct yX12_sent cX12_sent 3 ((some FieldType.int)) 3 0 0 sp_X12_sent := by
  refine Ct.go (M := M_X12_sent) mm_X12_sent fun av σ Q h0 => ?_
  obtain ⟨this, a, i, rfl, hk, h⟩ := el_X12_sent h0
  clear h0
  refine ⟨Nat.le_of_ble_eq_true rfl, ?_⟩
  show Go M_X12_sent Q 0 [some (vr this), some (vi a), some (vi i)] [] σ (0, 0)
  obtain ⟨rfl, hI, hx, hy, h1, h2⟩ := h
  have hI2 : MI (pI σ 1300 61 0) := MI_fre hI (by decide)
  have hn := hI.alarms_s
  have ha := hI.sentMany_ a
  have hy2 := hy
  unfold inR at hy2
  refine go_X12_sent (ct := fun p => false) 60 ?_
  simp only [oI, oL, oR, o1, lI, lL, lR, popN, catS, gv, stL, stL2, swt, cnd, spObj, List.getElem?_cons_zero, List.getElem?_cons_succ, List.getD_cons_zero, List.getD_cons_succ, List.set_cons_zero, List.set_cons_succ, List.nil_append, List.cons_append, Option.toList, Bool.or_false, Bool.false_or, Bool.or_true, Bool.true_or, Nat.reduceBEq, Nat.reduceAdd, Nat.reduceLT, Nat.reduceLeDiff, Int.reduceAdd, Int.reduceToNat, true_and, and_true, Fin.isValue, Fin.val_zero, Fin.val_one, Fin.val_two, Fin.reduceFinMk, eq_self, Int.reduceNeg, imp_self, Nat.reduceMul, Nat.le_refl, not_true_eq_false, not_false_eq_true, List.getElem?_nil, reduceCtorEq, true_or, or_true, Classical.not_not, implies_true, or_self, wI_0, wI_1, wI_m1, b2i_w, b2i_eq0, b2i_eq1, b2i_bool, nor_self, nx_pI, kd_pI, ln_pI, fI_pI, fL_pI, fR_pI, aI_pI, aL_pI, aR_pI, nx_pL, kd_pL, ln_pL, fI_pL, fL_pL, fR_pL, aI_pL, aL_pL, aR_pL, nx_pR, kd_pR, ln_pR, fI_pR, fL_pR, fR_pR, aI_pR, aL_pR, aR_pR, nx_qI, kd_qI, ln_qI, fI_qI, fL_qI, fR_qI, aI_qI, aL_qI, aR_qI, nx_qL, kd_qL, ln_qL, fI_qL, fL_qL, fR_qL, aI_qL, aL_qL, aR_qL, nx_qR, kd_qR, ln_qR, fI_qR, fL_qR, fR_qR, aI_qR, aL_qR, aR_qR, nx_mk, kd_mk, ln_mk, fI_mk, fL_mk, fR_mk, aI_mk, aL_mk, aR_mk, false_and, and_false, if_false, if_true, and_self, Int.reduceEq, Nat.reduceEqDiff, ite_self, MLay_pI, MLay_pL, MLay_qI, MLay_qL, ev_X12_sent, xt_X12_sent, xf_X12_sent, us_X12_isAlarm, us_X12_within, hk, hI.lay.eqs, hI2, hx]
  try simp (disch := omega) only [wI_id, dv_nn, rm_nn]
  repeat' (first | intro z | apply And.intro)
  all_goals try omega
  all_goals grind

theorem mWay_th (σ : Hp) (f : Nat) (v u b : Int) : mWay (pI σ f 61 v) u b = mWay σ u b := rfl
/-- the house a company stands in, in thought -/
def mHo (σ : Hp) (c : Int) : Int := if c = fI σ 1384 61 then fI σ 1385 61 else if c = fI σ 1386 61 then fI σ 1387 61 else aI σ 89 c

def sp_X12_houseOf : Sp := fun av σ Q => oR av fun this av => oI av fun c av => av = [] ∧ kd σ this = 13 ∧ (this = 61 ∧ MI σ ∧ (0 ≤ c ∧ c < 20) ∧ Q (some (vi (mHo σ c))) σ)
theorem us_X12_houseOf (this : Int) (c : Int) (σ : Hp) (Q : Option AV → Hp → Prop) : sp_X12_houseOf [vr this, vi c] σ Q = (kd σ this = 13 ∧ (this = 61 ∧ MI σ ∧ (0 ≤ c ∧ c < 20) ∧ Q (some (vi (mHo σ c))) σ)) := propext ⟨fun h => h.2, fun h => ⟨rfl, h⟩⟩
theorem el_X12_houseOf {av : List AV} {σ : Hp} {Q : Option AV → Hp → Prop} (h : sp_X12_houseOf av σ Q) : ∃ (this : Int) (c : Int), av = [vr this, vi c] ∧ (kd σ this = 13 ∧ (this = 61 ∧ MI σ ∧ (0 ≤ c ∧ c < 20) ∧ Q (some (vi (mHo σ c))) σ)) := by
  obtain ⟨this, a0, rfl, h0⟩ := oR_s h
  obtain ⟨c, a1, rfl, h1⟩ := oI_s h0
  obtain ⟨rfl, hz⟩ := h1
  exact ⟨this, c, rfl, hz⟩
theorem rc_X12_houseOf : ∀ (av : List AV) (σ : Hp) (Q : Option AV → Hp → Prop), sp_X12_houseOf av σ Q → ∃ r tl, av = vr r :: tl ∧ kd σ r = 12 + 1 := fun av σ Q h => by
  obtain ⟨this, c, rfl, hz, -⟩ := el_X12_houseOf h
  exact ⟨this, _, rfl, hz⟩

def tb_X12_houseOf : Tab := [(0, .iload_n 1, 1, (0, 0, 0, 0)), (1, .aload_n 0, 1, (0, 0, 0, 0)), (2, .getfield 433, 3, (13, 1384, 0, 0)), (5, .if_icmp .ne 10, 3, (0, 0, 0, 0)), (8, .aload_n 0, 1, (0, 0, 0, 0)), (9, .getfield 436, 3, (13, 1385, 0, 0)), (12, .goto 24, 3, (0, 0, 0, 0)), (15, .iload_n 1, 1, (0, 0, 0, 0)), (16, .aload_n 0, 1, (0, 0, 0, 0)), (17, .getfield 439, 3, (13, 1386, 0, 0)), (20, .if_icmp .ne 10, 3, (0, 0, 0, 0)), (23, .aload_n 0, 1, (0, 0, 0, 0)), (24, .getfield 442, 3, (13, 1387, 0, 0)), (27, .goto 9, 3, (0, 0, 0, 0)), (30, .aload_n 0, 1, (0, 0, 0, 0)), (31, .getfield 93, 3, (13, 1338, 2, 0)), (34, .iload_n 1, 1, (0, 0, 0, 0)), (35, .iaload, 1, (0, 0, 0, 0)), (36, .ireturn, 1, (0, 0, 0, 0))]
set_option maxRecDepth 100000 in
theorem tk_X12_houseOf : TOK RX12 false cX12_houseOf tb_X12_houseOf := chkT_ok ft_X12 (by decide +kernel)
def mt_X12_houseOf : List (Nat × Mt) := []
theorem mk_X12_houseOf : MOK RX12 mt_X12_houseOf := fun q hq => by cases hq
noncomputable def xe_X12_houseOf (ct : Nat → Bool) (K : Kt) (R : Option AV → Hp → Prop) (n : Nat) : Kt := exS 2 1 0 0 1 tb_X12_houseOf mt_X12_houseOf ct K R n
noncomputable def xk_X12_houseOf (ct : Nat → Bool) (K : Kt) (R : Option AV → Hp → Prop) (n : Nat) : Kt := exkS 2 1 0 0 1 tb_X12_houseOf mt_X12_houseOf ct K R n
theorem xt_X12_houseOf {ct : Nat → Bool} {K : Kt} {R : Option AV → Hp → Prop} {n pc : Nat} {ls : List (Option AV)} {st : List AV} {σ : Hp} {k : Nat × Nat} (h : ct pc = true) : xk_X12_houseOf ct K R n pc ls st σ k = K pc ls st σ k := by unfold xk_X12_houseOf exkS; rw [h]
theorem xf_X12_houseOf {ct : Nat → Bool} {K : Kt} {R : Option AV → Hp → Prop} {n pc : Nat} {ls : List (Option AV)} {st : List AV} {σ : Hp} {k : Nat × Nat} (h : ct pc = false) : xk_X12_houseOf ct K R n pc ls st σ k = xe_X12_houseOf ct K R n pc ls st σ k := by unfold xk_X12_houseOf exkS xe_X12_houseOf; rw [h]
theorem ev_X12_houseOf {ct : Nat → Bool} {K : Kt} {R : Option AV → Hp → Prop} {n : Nat} {ls : List (Option AV)} {st : List AV} {σ : Hp} {k : Nat × Nat} :
  xe_X12_houseOf ct K R (n + 1) 0 ls st σ k = (lI ls 1 fun x => xk_X12_houseOf ct K R n 1 ls (vi x :: st) σ k) ∧
  xe_X12_houseOf ct K R (n + 1) 1 ls st σ k = (lR ls 0 fun x => xk_X12_houseOf ct K R n 2 ls (vr x :: st) σ k) ∧
  xe_X12_houseOf ct K R (n + 1) 2 ls st σ k = (oR st fun x st => kd σ x = 13 ∧ xk_X12_houseOf ct K R n 5 ls (vi (fI σ 1384 x) :: st) σ k) ∧
  xe_X12_houseOf ct K R (n + 1) 5 ls st σ k = (oI st fun y st => oI st fun x st => (¬ wI x = wI y → xk_X12_houseOf ct K R n 15 ls st σ k) ∧ (¬ (¬ wI x = wI y) → xk_X12_houseOf ct K R n 8 ls st σ k)) ∧
  xe_X12_houseOf ct K R (n + 1) 8 ls st σ k = (lR ls 0 fun x => xk_X12_houseOf ct K R n 9 ls (vr x :: st) σ k) ∧
  xe_X12_houseOf ct K R (n + 1) 9 ls st σ k = (oR st fun x st => kd σ x = 13 ∧ xk_X12_houseOf ct K R n 12 ls (vi (fI σ 1385 x) :: st) σ k) ∧
  xe_X12_houseOf ct K R (n + 1) 12 ls st σ k = (xk_X12_houseOf ct K R n 36 ls st σ k) ∧
  xe_X12_houseOf ct K R (n + 1) 15 ls st σ k = (lI ls 1 fun x => xk_X12_houseOf ct K R n 16 ls (vi x :: st) σ k) ∧
  xe_X12_houseOf ct K R (n + 1) 16 ls st σ k = (lR ls 0 fun x => xk_X12_houseOf ct K R n 17 ls (vr x :: st) σ k) ∧
  xe_X12_houseOf ct K R (n + 1) 17 ls st σ k = (oR st fun x st => kd σ x = 13 ∧ xk_X12_houseOf ct K R n 20 ls (vi (fI σ 1386 x) :: st) σ k) ∧
  xe_X12_houseOf ct K R (n + 1) 20 ls st σ k = (oI st fun y st => oI st fun x st => (¬ wI x = wI y → xk_X12_houseOf ct K R n 30 ls st σ k) ∧ (¬ (¬ wI x = wI y) → xk_X12_houseOf ct K R n 23 ls st σ k)) ∧
  xe_X12_houseOf ct K R (n + 1) 23 ls st σ k = (lR ls 0 fun x => xk_X12_houseOf ct K R n 24 ls (vr x :: st) σ k) ∧
  xe_X12_houseOf ct K R (n + 1) 24 ls st σ k = (oR st fun x st => kd σ x = 13 ∧ xk_X12_houseOf ct K R n 27 ls (vi (fI σ 1387 x) :: st) σ k) ∧
  xe_X12_houseOf ct K R (n + 1) 27 ls st σ k = (xk_X12_houseOf ct K R n 36 ls st σ k) ∧
  xe_X12_houseOf ct K R (n + 1) 30 ls st σ k = (lR ls 0 fun x => xk_X12_houseOf ct K R n 31 ls (vr x :: st) σ k) ∧
  xe_X12_houseOf ct K R (n + 1) 31 ls st σ k = (oR st fun x st => kd σ x = 13 ∧ xk_X12_houseOf ct K R n 34 ls (vr (fR σ 1338 x) :: st) σ k) ∧
  xe_X12_houseOf ct K R (n + 1) 34 ls st σ k = (lI ls 1 fun x => xk_X12_houseOf ct K R n 35 ls (vi x :: st) σ k) ∧
  xe_X12_houseOf ct K R (n + 1) 35 ls st σ k = (oI st fun j st => oR st fun x st => (kd σ x = 101 ∨ kd σ x = 108) ∧ (0 ≤ j ∧ j < ln σ x) ∧ xk_X12_houseOf ct K R n 36 ls (vi (aI σ x j) :: st) σ k) ∧
  xe_X12_houseOf ct K R (n + 1) 36 ls st σ k = (oI st fun x st => st = [] ∧ True ∧ R (some (vi x)) σ) :=
  ⟨exS_step.trans rfl, exS_step.trans rfl, exS_step.trans rfl, exS_step.trans rfl, exS_step.trans rfl, exS_step.trans rfl, exS_step.trans rfl, exS_step.trans rfl, exS_step.trans rfl, exS_step.trans rfl, exS_step.trans rfl, exS_step.trans rfl, exS_step.trans rfl, exS_step.trans rfl, exS_step.trans rfl, exS_step.trans rfl, exS_step.trans rfl, exS_step.trans rfl, exS_step.trans rfl⟩
def M_X12_houseOf : Md := (yX12_houseOf, cX12_houseOf, 2, (some FieldType.int), 1, 0, 0, 1, false, tb_X12_houseOf, mt_X12_houseOf)
theorem mm_X12_houseOf : MMOK M_X12_houseOf := ⟨by decide +kernel, tk_X12_houseOf, mk_X12_houseOf, rfl, fun h => by cases h⟩
theorem go_X12_houseOf {Q : Option AV → Hp → Prop} {ct : Nat → Bool} {pc : Nat} {ls : List (Option AV)} {st : List AV} {σ : Hp} {k : Nat × Nat} (n : Nat) (h : xe_X12_houseOf ct (Go M_X12_houseOf Q) Q n pc ls st σ k) : Go M_X12_houseOf Q pc ls st σ k := Go.exS mm_X12_houseOf h

set_option maxRecDepth 20000 in
theorem c_X12_houseOf : Ct yX12_houseOf cX12_houseOf 2 ((some FieldType.int)) 1 0 0 sp_X12_houseOf := by
  refine Ct.go (M := M_X12_houseOf) mm_X12_houseOf fun av σ Q h0 => ?_
  obtain ⟨this, c, rfl, hk, h⟩ := el_X12_houseOf h0
  clear h0
  refine ⟨Nat.le_of_ble_eq_true rfl, ?_⟩
  show Go M_X12_houseOf Q 0 [some (vr this), some (vi c)] [] σ (0, 0)
  obtain ⟨rfl, hI, hc, h⟩ := h
  have h1 := hI.movedA_s
  have h2 := hI.movedB_s
  unfold mHo at h
  refine go_X12_houseOf (ct := fun p => false) 30 ?_
  simp only [oI, oL, oR, o1, lI, lL, lR, popN, catS, gv, stL, stL2, swt, cnd, spObj, List.getElem?_cons_zero, List.getElem?_cons_succ, List.getD_cons_zero, List.getD_cons_succ, List.set_cons_zero, List.set_cons_succ, List.nil_append, List.cons_append, Option.toList, Bool.or_false, Bool.false_or, Bool.or_true, Bool.true_or, Nat.reduceBEq, Nat.reduceAdd, Nat.reduceLT, Nat.reduceLeDiff, Int.reduceAdd, Int.reduceToNat, true_and, and_true, Fin.isValue, Fin.val_zero, Fin.val_one, Fin.val_two, Fin.reduceFinMk, eq_self, Int.reduceNeg, imp_self, Nat.reduceMul, Nat.le_refl, not_true_eq_false, not_false_eq_true, List.getElem?_nil, reduceCtorEq, true_or, or_true, Classical.not_not, implies_true, or_self, wI_0, wI_1, wI_m1, b2i_w, b2i_eq0, b2i_eq1, b2i_bool, nor_self, nx_pI, kd_pI, ln_pI, fI_pI, fL_pI, fR_pI, aI_pI, aL_pI, aR_pI, nx_pL, kd_pL, ln_pL, fI_pL, fL_pL, fR_pL, aI_pL, aL_pL, aR_pL, nx_pR, kd_pR, ln_pR, fI_pR, fL_pR, fR_pR, aI_pR, aL_pR, aR_pR, nx_qI, kd_qI, ln_qI, fI_qI, fL_qI, fR_qI, aI_qI, aL_qI, aR_qI, nx_qL, kd_qL, ln_qL, fI_qL, fL_qL, fR_qL, aI_qL, aL_qL, aR_qL, nx_qR, kd_qR, ln_qR, fI_qR, fL_qR, fR_qR, aI_qR, aL_qR, aR_qR, nx_mk, kd_mk, ln_mk, fI_mk, fL_mk, fR_mk, aI_mk, aL_mk, aR_mk, false_and, and_false, if_false, if_true, and_self, Int.reduceEq, Nat.reduceEqDiff, ite_self, MLay_pI, MLay_pL, MLay_qI, MLay_qL, ev_X12_houseOf, xt_X12_houseOf, xf_X12_houseOf, hk, hI.lay.eqs]
  try simp (disch := omega) only [wI_id, dv_nn, rm_nn]
  repeat' (first | intro z | apply And.intro)
  all_goals try omega
  all_goals grind

/-- an engine that stands in a house -/
def mEng (σ : Hp) (c : Int) : Prop := aI σ 87 c = 0 ∧ 0 ≤ aI σ 89 c
/-- an engine is near a box, in thought -/
def mNear (σ : Hp) (b : Int) : Prop := bE (fI σ 1335 61) fun c => mEng σ c ∧ mWay σ (mHo σ c) b ≤ fI σ 1342 61

def sp_X12_isNear : Sp := fun av σ Q => oR av fun this av => oI av fun b av => av = [] ∧ kd σ this = 13 ∧ (this = 61 ∧ MI σ ∧ (0 ≤ b ∧ b < 32) ∧ Q (some (vi (b2i (mNear σ b)))) σ)
theorem us_X12_isNear (this : Int) (b : Int) (σ : Hp) (Q : Option AV → Hp → Prop) : sp_X12_isNear [vr this, vi b] σ Q = (kd σ this = 13 ∧ (this = 61 ∧ MI σ ∧ (0 ≤ b ∧ b < 32) ∧ Q (some (vi (b2i (mNear σ b)))) σ)) := propext ⟨fun h => h.2, fun h => ⟨rfl, h⟩⟩
theorem el_X12_isNear {av : List AV} {σ : Hp} {Q : Option AV → Hp → Prop} (h : sp_X12_isNear av σ Q) : ∃ (this : Int) (b : Int), av = [vr this, vi b] ∧ (kd σ this = 13 ∧ (this = 61 ∧ MI σ ∧ (0 ≤ b ∧ b < 32) ∧ Q (some (vi (b2i (mNear σ b)))) σ)) := by
  obtain ⟨this, a0, rfl, h0⟩ := oR_s h
  obtain ⟨b, a1, rfl, h1⟩ := oI_s h0
  obtain ⟨rfl, hz⟩ := h1
  exact ⟨this, b, rfl, hz⟩
theorem rc_X12_isNear : ∀ (av : List AV) (σ : Hp) (Q : Option AV → Hp → Prop), sp_X12_isNear av σ Q → ∃ r tl, av = vr r :: tl ∧ kd σ r = 12 + 1 := fun av σ Q h => by
  obtain ⟨this, b, rfl, hz, -⟩ := el_X12_isNear h
  exact ⟨this, _, rfl, hz⟩

def tb_X12_isNear : Tab := [(0, .iconst 0, 1, (0, 0, 0, 0)), (1, .istore_n 2, 1, (0, 0, 0, 0)), (2, .iload_n 2, 1, (0, 0, 0, 0)), (3, .aload_n 0, 1, (0, 0, 0, 0)), (4, .getfield 293, 3, (13, 1335, 0, 0)), (7, .if_icmp .ge 46, 3, (0, 0, 0, 0)), (10, .aload_n 0, 1, (0, 0, 0, 0)), (11, .getfield 87, 3, (13, 1336, 2, 0)), (14, .iload_n 2, 1, (0, 0, 0, 0)), (15, .iaload, 1, (0, 0, 0, 0)), (16, .ifCond .ne 31, 3, (0, 0, 0, 0)), (19, .aload_n 0, 1, (0, 0, 0, 0)), (20, .getfield 93, 3, (13, 1338, 2, 0)), (23, .iload_n 2, 1, (0, 0, 0, 0)), (24, .iaload, 1, (0, 0, 0, 0)), (25, .ifCond .lt 22, 3, (0, 0, 0, 0)), (28, .aload_n 0, 1, (0, 0, 0, 0)), (29, .aload_n 0, 1, (0, 0, 0, 0)), (30, .iload_n 2, 1, (0, 0, 0, 0)), (31, .invokevirtual 445, 3, (0, 0, 0, 0)), (34, .iload_n 1, 1, (0, 0, 0, 0)), (35, .invokevirtual 408, 3, (0, 0, 0, 0)), (38, .aload_n 0, 1, (0, 0, 0, 0)), (39, .getfield 190, 3, (13, 1342, 0, 0)), (42, .if_icmp .gt 5, 3, (0, 0, 0, 0)), (45, .iconst 1, 1, (0, 0, 0, 0)), (46, .ireturn, 1, (0, 0, 0, 0)), (47, .iinc 2 1, 3, (0, 0, 0, 0)), (50, .goto (-48), 3, (0, 0, 0, 0)), (53, .iconst 0, 1, (0, 0, 0, 0)), (54, .ireturn, 1, (0, 0, 0, 0))]
set_option maxRecDepth 100000 in
theorem tk_X12_isNear : TOK RX12 false cX12_isNear tb_X12_isNear := chkT_ok ft_X12 (by decide +kernel)
theorem rw_X12_3560 : Row RX12 (.invokevirtual 445) 3 2 0 0 1 sp_X12_houseOf := row_V (n := 1) (ci := 12) c_X12_houseOf ⟨TBL_in 2039 (by decide +kernel) rfl, TBL_in 2042 (by decide +kernel) rfl, TBL_in 123 (by decide +kernel) rfl, by decide +kernel, by decide⟩ (by decide) rfl (TBL_in 2041 (by decide +kernel) rfl) (TBL_in 103 (by decide +kernel) rfl) rc_X12_houseOf
theorem rw_X12_3264 : Row RX12 (.invokevirtual 408) 3 3 0 0 2 sp_X12_way := row_V (n := 2) (ci := 12) c_X12_way ⟨TBL_in 1990 (by decide +kernel) rfl, TBL_in 1993 (by decide +kernel) rfl, TBL_in 123 (by decide +kernel) rfl, by decide +kernel, by decide⟩ (by decide) rfl (TBL_in 1992 (by decide +kernel) rfl) (TBL_in 97 (by decide +kernel) rfl) rc_X12_way
def mt_X12_isNear : List (Nat × Mt) := [(3560, 2, 0, 0, 1, sp_X12_houseOf), (3264, 3, 0, 0, 2, sp_X12_way)]
theorem em_X12_isNear : mt_X12_isNear.lookup 3560 = some (2, 0, 0, 1, sp_X12_houseOf) ∧ mt_X12_isNear.lookup 3264 = some (3, 0, 0, 2, sp_X12_way) := ⟨rfl, rfl⟩
theorem mk_X12_isNear : MOK RX12 mt_X12_isNear := by
  intro q hq
  simp only [mt_X12_isNear, List.mem_cons, List.not_mem_nil, or_false] at hq
  rcases hq with rfl | rfl
  · exact rw_X12_3560
  · exact rw_X12_3264
noncomputable def xe_X12_isNear (ct : Nat → Bool) (K : Kt) (R : Option AV → Hp → Prop) (n : Nat) : Kt := exS 3 3 0 0 2 tb_X12_isNear mt_X12_isNear ct K R n
noncomputable def xk_X12_isNear (ct : Nat → Bool) (K : Kt) (R : Option AV → Hp → Prop) (n : Nat) : Kt := exkS 3 3 0 0 2 tb_X12_isNear mt_X12_isNear ct K R n
theorem xt_X12_isNear {ct : Nat → Bool} {K : Kt} {R : Option AV → Hp → Prop} {n pc : Nat} {ls : List (Option AV)} {st : List AV} {σ : Hp} {k : Nat × Nat} (h : ct pc = true) : xk_X12_isNear ct K R n pc ls st σ k = K pc ls st σ k := by unfold xk_X12_isNear exkS; rw [h]
theorem xf_X12_isNear {ct : Nat → Bool} {K : Kt} {R : Option AV → Hp → Prop} {n pc : Nat} {ls : List (Option AV)} {st : List AV} {σ : Hp} {k : Nat × Nat} (h : ct pc = false) : xk_X12_isNear ct K R n pc ls st σ k = xe_X12_isNear ct K R n pc ls st σ k := by unfold xk_X12_isNear exkS xe_X12_isNear; rw [h]
theorem ev_X12_isNear {ct : Nat → Bool} {K : Kt} {R : Option AV → Hp → Prop} {n : Nat} {ls : List (Option AV)} {st : List AV} {σ : Hp} {k : Nat × Nat} :
  xe_X12_isNear ct K R (n + 1) 0 ls st σ k = (xk_X12_isNear ct K R n 1 ls (vi (0) :: st) σ k) ∧
  xe_X12_isNear ct K R (n + 1) 1 ls st σ k = (oI st fun x st => 2 < 3 ∧ xk_X12_isNear ct K R n 2 (stL ls 2 (vi x)) st σ k) ∧
  xe_X12_isNear ct K R (n + 1) 2 ls st σ k = (lI ls 2 fun x => xk_X12_isNear ct K R n 3 ls (vi x :: st) σ k) ∧
  xe_X12_isNear ct K R (n + 1) 3 ls st σ k = (lR ls 0 fun x => xk_X12_isNear ct K R n 4 ls (vr x :: st) σ k) ∧
  xe_X12_isNear ct K R (n + 1) 4 ls st σ k = (oR st fun x st => kd σ x = 13 ∧ xk_X12_isNear ct K R n 7 ls (vi (fI σ 1335 x) :: st) σ k) ∧
  xe_X12_isNear ct K R (n + 1) 7 ls st σ k = (oI st fun y st => oI st fun x st => (wI y ≤ wI x → xk_X12_isNear ct K R n 53 ls st σ k) ∧ (¬ (wI y ≤ wI x) → xk_X12_isNear ct K R n 10 ls st σ k)) ∧
  xe_X12_isNear ct K R (n + 1) 10 ls st σ k = (lR ls 0 fun x => xk_X12_isNear ct K R n 11 ls (vr x :: st) σ k) ∧
  xe_X12_isNear ct K R (n + 1) 11 ls st σ k = (oR st fun x st => kd σ x = 13 ∧ xk_X12_isNear ct K R n 14 ls (vr (fR σ 1336 x) :: st) σ k) ∧
  xe_X12_isNear ct K R (n + 1) 14 ls st σ k = (lI ls 2 fun x => xk_X12_isNear ct K R n 15 ls (vi x :: st) σ k) ∧
  xe_X12_isNear ct K R (n + 1) 15 ls st σ k = (oI st fun j st => oR st fun x st => (kd σ x = 101 ∨ kd σ x = 108) ∧ (0 ≤ j ∧ j < ln σ x) ∧ xk_X12_isNear ct K R n 16 ls (vi (aI σ x j) :: st) σ k) ∧
  xe_X12_isNear ct K R (n + 1) 16 ls st σ k = (oI st fun x st => (¬ wI x = wI 0 → xk_X12_isNear ct K R n 47 ls st σ k) ∧ (¬ (¬ wI x = wI 0) → xk_X12_isNear ct K R n 19 ls st σ k)) ∧
  xe_X12_isNear ct K R (n + 1) 19 ls st σ k = (lR ls 0 fun x => xk_X12_isNear ct K R n 20 ls (vr x :: st) σ k) ∧
  xe_X12_isNear ct K R (n + 1) 20 ls st σ k = (oR st fun x st => kd σ x = 13 ∧ xk_X12_isNear ct K R n 23 ls (vr (fR σ 1338 x) :: st) σ k) ∧
  xe_X12_isNear ct K R (n + 1) 23 ls st σ k = (lI ls 2 fun x => xk_X12_isNear ct K R n 24 ls (vi x :: st) σ k) ∧
  xe_X12_isNear ct K R (n + 1) 24 ls st σ k = (oI st fun j st => oR st fun x st => (kd σ x = 101 ∨ kd σ x = 108) ∧ (0 ≤ j ∧ j < ln σ x) ∧ xk_X12_isNear ct K R n 25 ls (vi (aI σ x j) :: st) σ k) ∧
  xe_X12_isNear ct K R (n + 1) 25 ls st σ k = (oI st fun x st => (wI x < wI 0 → xk_X12_isNear ct K R n 47 ls st σ k) ∧ (¬ (wI x < wI 0) → xk_X12_isNear ct K R n 28 ls st σ k)) ∧
  xe_X12_isNear ct K R (n + 1) 28 ls st σ k = (lR ls 0 fun x => xk_X12_isNear ct K R n 29 ls (vr x :: st) σ k) ∧
  xe_X12_isNear ct K R (n + 1) 29 ls st σ k = (lR ls 0 fun x => xk_X12_isNear ct K R n 30 ls (vr x :: st) σ k) ∧
  xe_X12_isNear ct K R (n + 1) 30 ls st σ k = (lI ls 2 fun x => xk_X12_isNear ct K R n 31 ls (vi x :: st) σ k) ∧
  xe_X12_isNear ct K R (n + 1) 31 ls st σ k = (popN 2 st [] fun av rest => (catS rest ≤ 8 ∧ 1 < 3 ∧ k.1 + 0 ≤ 0 ∧ k.2 + 0 ≤ 0) ∧ (sp_X12_houseOf) av σ fun v σ' => xk_X12_isNear ct K R n 34 ls (v.toList ++ rest) σ' (k.1 + 0, k.2 + 0)) ∧
  xe_X12_isNear ct K R (n + 1) 34 ls st σ k = (lI ls 1 fun x => xk_X12_isNear ct K R n 35 ls (vi x :: st) σ k) ∧
  xe_X12_isNear ct K R (n + 1) 35 ls st σ k = (popN 3 st [] fun av rest => (catS rest ≤ 8 ∧ 2 < 3 ∧ k.1 + 0 ≤ 0 ∧ k.2 + 0 ≤ 0) ∧ (sp_X12_way) av σ fun v σ' => xk_X12_isNear ct K R n 38 ls (v.toList ++ rest) σ' (k.1 + 0, k.2 + 0)) ∧
  xe_X12_isNear ct K R (n + 1) 38 ls st σ k = (lR ls 0 fun x => xk_X12_isNear ct K R n 39 ls (vr x :: st) σ k) ∧
  xe_X12_isNear ct K R (n + 1) 39 ls st σ k = (oR st fun x st => kd σ x = 13 ∧ xk_X12_isNear ct K R n 42 ls (vi (fI σ 1342 x) :: st) σ k) ∧
  xe_X12_isNear ct K R (n + 1) 42 ls st σ k = (oI st fun y st => oI st fun x st => (wI y < wI x → xk_X12_isNear ct K R n 47 ls st σ k) ∧ (¬ (wI y < wI x) → xk_X12_isNear ct K R n 45 ls st σ k)) ∧
  xe_X12_isNear ct K R (n + 1) 45 ls st σ k = (xk_X12_isNear ct K R n 46 ls (vi (1) :: st) σ k) ∧
  xe_X12_isNear ct K R (n + 1) 46 ls st σ k = (oI st fun x st => st = [] ∧ (x = 0 ∨ x = 1) ∧ R (some (vi x)) σ) ∧
  xe_X12_isNear ct K R (n + 1) 47 ls st σ k = (lI ls 2 fun x => 2 < 3 ∧ xk_X12_isNear ct K R n 50 (stL ls 2 (vi (x + (1)))) st σ k) ∧
  xe_X12_isNear ct K R (n + 1) 50 ls st σ k = (xk_X12_isNear ct K R n 2 ls st σ k) ∧
  xe_X12_isNear ct K R (n + 1) 53 ls st σ k = (xk_X12_isNear ct K R n 54 ls (vi (0) :: st) σ k) ∧
  xe_X12_isNear ct K R (n + 1) 54 ls st σ k = (oI st fun x st => st = [] ∧ (x = 0 ∨ x = 1) ∧ R (some (vi x)) σ) :=
  ⟨exS_step.trans rfl, exS_step.trans rfl, exS_step.trans rfl, exS_step.trans rfl, exS_step.trans rfl, exS_step.trans rfl, exS_step.trans rfl, exS_step.trans rfl, exS_step.trans rfl, exS_step.trans rfl, exS_step.trans rfl, exS_step.trans rfl, exS_step.trans rfl, exS_step.trans rfl, exS_step.trans rfl, exS_step.trans rfl, exS_step.trans rfl, exS_step.trans rfl, exS_step.trans rfl, exS_step.trans rfl, exS_step.trans rfl, exS_step.trans rfl, exS_step.trans rfl, exS_step.trans rfl, exS_step.trans rfl, exS_step.trans rfl, exS_step.trans rfl, exS_step.trans rfl, exS_step.trans rfl, exS_step.trans rfl, exS_step.trans rfl⟩
def M_X12_isNear : Md := (yX12_isNear, cX12_isNear, 3, (some FieldType.boolean), 3, 0, 0, 2, false, tb_X12_isNear, mt_X12_isNear)
theorem mm_X12_isNear : MMOK M_X12_isNear := ⟨by decide +kernel, tk_X12_isNear, mk_X12_isNear, rfl, fun h => by cases h⟩
theorem go_X12_isNear {Q : Option AV → Hp → Prop} {ct : Nat → Bool} {pc : Nat} {ls : List (Option AV)} {st : List AV} {σ : Hp} {k : Nat × Nat} (n : Nat) (h : xe_X12_isNear ct (Go M_X12_isNear Q) Q n pc ls st σ k) : Go M_X12_isNear Q pc ls st σ k := Go.exS mm_X12_isNear h

set_option maxRecDepth 20000 in
theorem c_X12_isNear : Ct yX12_isNear cX12_isNear 3 ((some FieldType.boolean)) 3 0 0 sp_X12_isNear := by
  refine Ct.go (M := M_X12_isNear) mm_X12_isNear fun av σ Q h0 => ?_
  obtain ⟨this, b, rfl, hk, h⟩ := el_X12_isNear h0
  clear h0
  refine ⟨Nat.le_of_ble_eq_true rfl, ?_⟩
  show Go M_X12_isNear Q 0 [some (vr this), some (vi b), none] [] σ (0, 0)
  obtain ⟨rfl, hI, hb, h⟩ := h
  have h1 := hI.companies_s
  have h9 := hI.reach_s
  have loop : ∀ (n : Nat) (k : Int), 0 ≤ k → k + n = fI σ 1335 61 → (∀ j, 0 ≤ j → j < k → ¬ (mEng σ j ∧ mWay σ (mHo σ j) b ≤ fI σ 1342 61)) → Go M_X12_isNear Q 2 [some (vr 61), some (vi b), some (vi k)] [] σ (0, 0) := by
    intro n
    induction n with
    | zero =>
      intro k h2 h3 hno
      refine go_X12_isNear (ct := fun p => p == 2) 40 ?_
      simp only [oI, oL, oR, o1, lI, lL, lR, popN, catS, gv, stL, stL2, swt, cnd, spObj, List.getElem?_cons_zero, List.getElem?_cons_succ, List.getD_cons_zero, List.getD_cons_succ, List.set_cons_zero, List.set_cons_succ, List.nil_append, List.cons_append, Option.toList, Bool.or_false, Bool.false_or, Bool.or_true, Bool.true_or, Nat.reduceBEq, Nat.reduceAdd, Nat.reduceLT, Nat.reduceLeDiff, Int.reduceAdd, Int.reduceToNat, true_and, and_true, Fin.isValue, Fin.val_zero, Fin.val_one, Fin.val_two, Fin.reduceFinMk, eq_self, Int.reduceNeg, imp_self, Nat.reduceMul, Nat.le_refl, not_true_eq_false, not_false_eq_true, List.getElem?_nil, reduceCtorEq, true_or, or_true, Classical.not_not, implies_true, or_self, wI_0, wI_1, wI_m1, b2i_w, b2i_eq0, b2i_eq1, b2i_bool, nor_self, nx_pI, kd_pI, ln_pI, fI_pI, fL_pI, fR_pI, aI_pI, aL_pI, aR_pI, nx_pL, kd_pL, ln_pL, fI_pL, fL_pL, fR_pL, aI_pL, aL_pL, aR_pL, nx_pR, kd_pR, ln_pR, fI_pR, fL_pR, fR_pR, aI_pR, aL_pR, aR_pR, nx_qI, kd_qI, ln_qI, fI_qI, fL_qI, fR_qI, aI_qI, aL_qI, aR_qI, nx_qL, kd_qL, ln_qL, fI_qL, fL_qL, fR_qL, aI_qL, aL_qL, aR_qL, nx_qR, kd_qR, ln_qR, fI_qR, fL_qR, fR_qR, aI_qR, aL_qR, aR_qR, nx_mk, kd_mk, ln_mk, fI_mk, fL_mk, fR_mk, aI_mk, aL_mk, aR_mk, false_and, and_false, if_false, if_true, and_self, Int.reduceEq, Nat.reduceEqDiff, ite_self, MLay_pI, MLay_pL, MLay_qI, MLay_qL, ev_X12_isNear, xt_X12_isNear, xf_X12_isNear, us_X12_houseOf, us_X12_way, hk, hI.lay.eqs]
      try simp (disch := omega) only [wI_id, dv_nn, rm_nn]
      refine ⟨fun _ => ?_, fun z => absurd (by omega) z⟩
      rw [b2i_f (by rintro ⟨j, a, b, c⟩; exact hno j a (by omega) c)] at h; exact h
    | succ n ih =>
      intro k h2 h3 hno
      have h4 := hI.companyKind_ k
      have h5 := hI.isAt_ k
      have h6 := hI.toA_s
      have h7 := hI.toB_s
      have h8 := mWay_in hI (mHo σ k) b
      have hh : 0 ≤ aI σ 89 k → 0 ≤ mHo σ k ∧ mHo σ k < 12 := by
        intro z
        unfold mHo
        repeat' (first | omega | split)
      have ih := fun (z : ¬ (mEng σ k ∧ mWay σ (mHo σ k) b ≤ fI σ 1342 61)) => ih (k + 1) (by omega) (by omega) fun j a b => by
        by_cases e : j = k
        · subst e; exact z
        · exact hno j a (by omega)
      refine go_X12_isNear (ct := fun p => p == 2) 40 ?_
      simp only [oI, oL, oR, o1, lI, lL, lR, popN, catS, gv, stL, stL2, swt, cnd, spObj, List.getElem?_cons_zero, List.getElem?_cons_succ, List.getD_cons_zero, List.getD_cons_succ, List.set_cons_zero, List.set_cons_succ, List.nil_append, List.cons_append, Option.toList, Bool.or_false, Bool.false_or, Bool.or_true, Bool.true_or, Nat.reduceBEq, Nat.reduceAdd, Nat.reduceLT, Nat.reduceLeDiff, Int.reduceAdd, Int.reduceToNat, true_and, and_true, Fin.isValue, Fin.val_zero, Fin.val_one, Fin.val_two, Fin.reduceFinMk, eq_self, Int.reduceNeg, imp_self, Nat.reduceMul, Nat.le_refl, not_true_eq_false, not_false_eq_true, List.getElem?_nil, reduceCtorEq, true_or, or_true, Classical.not_not, implies_true, or_self, wI_0, wI_1, wI_m1, b2i_w, b2i_eq0, b2i_eq1, b2i_bool, nor_self, nx_pI, kd_pI, ln_pI, fI_pI, fL_pI, fR_pI, aI_pI, aL_pI, aR_pI, nx_pL, kd_pL, ln_pL, fI_pL, fL_pL, fR_pL, aI_pL, aL_pL, aR_pL, nx_pR, kd_pR, ln_pR, fI_pR, fL_pR, fR_pR, aI_pR, aL_pR, aR_pR, nx_qI, kd_qI, ln_qI, fI_qI, fL_qI, fR_qI, aI_qI, aL_qI, aR_qI, nx_qL, kd_qL, ln_qL, fI_qL, fL_qL, fR_qL, aI_qL, aL_qL, aR_qL, nx_qR, kd_qR, ln_qR, fI_qR, fL_qR, fR_qR, aI_qR, aL_qR, aR_qR, nx_mk, kd_mk, ln_mk, fI_mk, fL_mk, fR_mk, aI_mk, aL_mk, aR_mk, false_and, and_false, if_false, if_true, and_self, Int.reduceEq, Nat.reduceEqDiff, ite_self, MLay_pI, MLay_pL, MLay_qI, MLay_qL, ev_X12_isNear, xt_X12_isNear, xf_X12_isNear, us_X12_houseOf, us_X12_way, hk, hI.lay.eqs, hI]
      try simp (disch := omega) only [wI_id, dv_nn, rm_nn]
      repeat' (first | intro z | apply And.intro)
      all_goals try omega
      · exact ih fun q => absurd q.1.1 ‹_›
      · exact ih fun q => by have := q.1.2; omega
      · exact ih fun q => by have := q.2; omega
      · rw [b2i_t (show mNear σ b from ⟨k, h2, by omega, ⟨by assumption, by omega⟩, by omega⟩)] at h; exact h
  refine go_X12_isNear (ct := fun p => p == 2) 40 ?_
  simp only [oI, oL, oR, o1, lI, lL, lR, popN, catS, gv, stL, stL2, swt, cnd, spObj, List.getElem?_cons_zero, List.getElem?_cons_succ, List.getD_cons_zero, List.getD_cons_succ, List.set_cons_zero, List.set_cons_succ, List.nil_append, List.cons_append, Option.toList, Bool.or_false, Bool.false_or, Bool.or_true, Bool.true_or, Nat.reduceBEq, Nat.reduceAdd, Nat.reduceLT, Nat.reduceLeDiff, Int.reduceAdd, Int.reduceToNat, true_and, and_true, Fin.isValue, Fin.val_zero, Fin.val_one, Fin.val_two, Fin.reduceFinMk, eq_self, Int.reduceNeg, imp_self, Nat.reduceMul, Nat.le_refl, not_true_eq_false, not_false_eq_true, List.getElem?_nil, reduceCtorEq, true_or, or_true, Classical.not_not, implies_true, or_self, wI_0, wI_1, wI_m1, b2i_w, b2i_eq0, b2i_eq1, b2i_bool, nor_self, nx_pI, kd_pI, ln_pI, fI_pI, fL_pI, fR_pI, aI_pI, aL_pI, aR_pI, nx_pL, kd_pL, ln_pL, fI_pL, fL_pL, fR_pL, aI_pL, aL_pL, aR_pL, nx_pR, kd_pR, ln_pR, fI_pR, fL_pR, fR_pR, aI_pR, aL_pR, aR_pR, nx_qI, kd_qI, ln_qI, fI_qI, fL_qI, fR_qI, aI_qI, aL_qI, aR_qI, nx_qL, kd_qL, ln_qL, fI_qL, fL_qL, fR_qL, aI_qL, aL_qL, aR_qL, nx_qR, kd_qR, ln_qR, fI_qR, fL_qR, fR_qR, aI_qR, aL_qR, aR_qR, nx_mk, kd_mk, ln_mk, fI_mk, fL_mk, fR_mk, aI_mk, aL_mk, aR_mk, false_and, and_false, if_false, if_true, and_self, Int.reduceEq, Nat.reduceEqDiff, ite_self, MLay_pI, MLay_pL, MLay_qI, MLay_qL, ev_X12_isNear, xt_X12_isNear, xf_X12_isNear, us_X12_houseOf, us_X12_way]
  exact loop (fI σ 1335 61).toNat 0 (by omega) (by omega) (fun j a b => by omega)

def mCov (σ : Hp) (w : Int) : Prop := ¬ bE (fI σ 1302 61) fun b => aI σ 67 b = w ∧ ¬ mNear σ b
def mAll (σ : Hp) : Prop := ¬ bE (fI σ 1302 61) fun b => ¬ mNear σ b
def mHas (σ : Hp) (w : Int) : Prop := bE (fI σ 1302 61) fun b => aI σ 67 b = w
def mWo0 (σ : Hp) (u : Int) : Prop := ¬ bE (fI σ 1335 61) fun c => mEng σ c ∧ aI σ 89 c = u

def sp_X12_isCovered : Sp := fun av σ Q => oR av fun this av => oI av fun w av => av = [] ∧ kd σ this = 13 ∧ (this = 61 ∧ MI σ ∧ inR w ∧ Q (some (vi (b2i (mCov σ w)))) σ)
theorem us_X12_isCovered (this : Int) (w : Int) (σ : Hp) (Q : Option AV → Hp → Prop) : sp_X12_isCovered [vr this, vi w] σ Q = (kd σ this = 13 ∧ (this = 61 ∧ MI σ ∧ inR w ∧ Q (some (vi (b2i (mCov σ w)))) σ)) := propext ⟨fun h => h.2, fun h => ⟨rfl, h⟩⟩
theorem el_X12_isCovered {av : List AV} {σ : Hp} {Q : Option AV → Hp → Prop} (h : sp_X12_isCovered av σ Q) : ∃ (this : Int) (w : Int), av = [vr this, vi w] ∧ (kd σ this = 13 ∧ (this = 61 ∧ MI σ ∧ inR w ∧ Q (some (vi (b2i (mCov σ w)))) σ)) := by
  obtain ⟨this, a0, rfl, h0⟩ := oR_s h
  obtain ⟨w, a1, rfl, h1⟩ := oI_s h0
  obtain ⟨rfl, hz⟩ := h1
  exact ⟨this, w, rfl, hz⟩
theorem rc_X12_isCovered : ∀ (av : List AV) (σ : Hp) (Q : Option AV → Hp → Prop), sp_X12_isCovered av σ Q → ∃ r tl, av = vr r :: tl ∧ kd σ r = 12 + 1 := fun av σ Q h => by
  obtain ⟨this, w, rfl, hz, -⟩ := el_X12_isCovered h
  exact ⟨this, _, rfl, hz⟩

def tb_X12_isCovered : Tab := [(0, .iconst 0, 1, (0, 0, 0, 0)), (1, .istore_n 2, 1, (0, 0, 0, 0)), (2, .iload_n 2, 1, (0, 0, 0, 0)), (3, .aload_n 0, 1, (0, 0, 0, 0)), (4, .getfield 199, 3, (13, 1302, 0, 0)), (7, .if_icmp .ge 29, 3, (0, 0, 0, 0)), (10, .aload_n 0, 1, (0, 0, 0, 0)), (11, .getfield 25, 3, (13, 1308, 2, 0)), (14, .iload_n 2, 1, (0, 0, 0, 0)), (15, .iaload, 1, (0, 0, 0, 0)), (16, .iload_n 1, 1, (0, 0, 0, 0)), (17, .if_icmp .ne 13, 3, (0, 0, 0, 0)), (20, .aload_n 0, 1, (0, 0, 0, 0)), (21, .iload_n 2, 1, (0, 0, 0, 0)), (22, .invokevirtual 448, 3, (0, 0, 0, 0)), (25, .ifCond .ne 5, 3, (0, 0, 0, 0)), (28, .iconst 0, 1, (0, 0, 0, 0)), (29, .ireturn, 1, (0, 0, 0, 0)), (30, .iinc 2 1, 3, (0, 0, 0, 0)), (33, .goto (-31), 3, (0, 0, 0, 0)), (36, .iconst 1, 1, (0, 0, 0, 0)), (37, .ireturn, 1, (0, 0, 0, 0))]
set_option maxRecDepth 100000 in
theorem tk_X12_isCovered : TOK RX12 false cX12_isCovered tb_X12_isCovered := chkT_ok ft_X12 (by decide +kernel)
theorem rw_X12_3584 : Row RX12 (.invokevirtual 448) 3 2 0 0 3 sp_X12_isNear := row_V (n := 1) (ci := 12) c_X12_isNear ⟨TBL_in 2035 (by decide +kernel) rfl, TBL_in 2038 (by decide +kernel) rfl, TBL_in 123 (by decide +kernel) rfl, by decide +kernel, by decide⟩ (by decide) rfl (TBL_in 2037 (by decide +kernel) rfl) (TBL_in 102 (by decide +kernel) rfl) rc_X12_isNear
def mt_X12_isCovered : List (Nat × Mt) := [(3584, 2, 0, 0, 3, sp_X12_isNear)]
theorem em_X12_isCovered : mt_X12_isCovered.lookup 3584 = some (2, 0, 0, 3, sp_X12_isNear) := rfl
theorem mk_X12_isCovered : MOK RX12 mt_X12_isCovered := by
  intro q hq
  simp only [mt_X12_isCovered, List.mem_cons, List.not_mem_nil, or_false] at hq
  rcases hq with rfl
  · exact rw_X12_3584
noncomputable def xe_X12_isCovered (ct : Nat → Bool) (K : Kt) (R : Option AV → Hp → Prop) (n : Nat) : Kt := exS 3 4 0 0 2 tb_X12_isCovered mt_X12_isCovered ct K R n
noncomputable def xk_X12_isCovered (ct : Nat → Bool) (K : Kt) (R : Option AV → Hp → Prop) (n : Nat) : Kt := exkS 3 4 0 0 2 tb_X12_isCovered mt_X12_isCovered ct K R n
theorem xt_X12_isCovered {ct : Nat → Bool} {K : Kt} {R : Option AV → Hp → Prop} {n pc : Nat} {ls : List (Option AV)} {st : List AV} {σ : Hp} {k : Nat × Nat} (h : ct pc = true) : xk_X12_isCovered ct K R n pc ls st σ k = K pc ls st σ k := by unfold xk_X12_isCovered exkS; rw [h]
theorem xf_X12_isCovered {ct : Nat → Bool} {K : Kt} {R : Option AV → Hp → Prop} {n pc : Nat} {ls : List (Option AV)} {st : List AV} {σ : Hp} {k : Nat × Nat} (h : ct pc = false) : xk_X12_isCovered ct K R n pc ls st σ k = xe_X12_isCovered ct K R n pc ls st σ k := by unfold xk_X12_isCovered exkS xe_X12_isCovered; rw [h]
theorem ev_X12_isCovered {ct : Nat → Bool} {K : Kt} {R : Option AV → Hp → Prop} {n : Nat} {ls : List (Option AV)} {st : List AV} {σ : Hp} {k : Nat × Nat} :
  xe_X12_isCovered ct K R (n + 1) 0 ls st σ k = (xk_X12_isCovered ct K R n 1 ls (vi (0) :: st) σ k) ∧
  xe_X12_isCovered ct K R (n + 1) 1 ls st σ k = (oI st fun x st => 2 < 3 ∧ xk_X12_isCovered ct K R n 2 (stL ls 2 (vi x)) st σ k) ∧
  xe_X12_isCovered ct K R (n + 1) 2 ls st σ k = (lI ls 2 fun x => xk_X12_isCovered ct K R n 3 ls (vi x :: st) σ k) ∧
  xe_X12_isCovered ct K R (n + 1) 3 ls st σ k = (lR ls 0 fun x => xk_X12_isCovered ct K R n 4 ls (vr x :: st) σ k) ∧
  xe_X12_isCovered ct K R (n + 1) 4 ls st σ k = (oR st fun x st => kd σ x = 13 ∧ xk_X12_isCovered ct K R n 7 ls (vi (fI σ 1302 x) :: st) σ k) ∧
  xe_X12_isCovered ct K R (n + 1) 7 ls st σ k = (oI st fun y st => oI st fun x st => (wI y ≤ wI x → xk_X12_isCovered ct K R n 36 ls st σ k) ∧ (¬ (wI y ≤ wI x) → xk_X12_isCovered ct K R n 10 ls st σ k)) ∧
  xe_X12_isCovered ct K R (n + 1) 10 ls st σ k = (lR ls 0 fun x => xk_X12_isCovered ct K R n 11 ls (vr x :: st) σ k) ∧
  xe_X12_isCovered ct K R (n + 1) 11 ls st σ k = (oR st fun x st => kd σ x = 13 ∧ xk_X12_isCovered ct K R n 14 ls (vr (fR σ 1308 x) :: st) σ k) ∧
  xe_X12_isCovered ct K R (n + 1) 14 ls st σ k = (lI ls 2 fun x => xk_X12_isCovered ct K R n 15 ls (vi x :: st) σ k) ∧
  xe_X12_isCovered ct K R (n + 1) 15 ls st σ k = (oI st fun j st => oR st fun x st => (kd σ x = 101 ∨ kd σ x = 108) ∧ (0 ≤ j ∧ j < ln σ x) ∧ xk_X12_isCovered ct K R n 16 ls (vi (aI σ x j) :: st) σ k) ∧
  xe_X12_isCovered ct K R (n + 1) 16 ls st σ k = (lI ls 1 fun x => xk_X12_isCovered ct K R n 17 ls (vi x :: st) σ k) ∧
  xe_X12_isCovered ct K R (n + 1) 17 ls st σ k = (oI st fun y st => oI st fun x st => (¬ wI x = wI y → xk_X12_isCovered ct K R n 30 ls st σ k) ∧ (¬ (¬ wI x = wI y) → xk_X12_isCovered ct K R n 20 ls st σ k)) ∧
  xe_X12_isCovered ct K R (n + 1) 20 ls st σ k = (lR ls 0 fun x => xk_X12_isCovered ct K R n 21 ls (vr x :: st) σ k) ∧
  xe_X12_isCovered ct K R (n + 1) 21 ls st σ k = (lI ls 2 fun x => xk_X12_isCovered ct K R n 22 ls (vi x :: st) σ k) ∧
  xe_X12_isCovered ct K R (n + 1) 22 ls st σ k = (popN 2 st [] fun av rest => (catS rest ≤ 8 ∧ 3 < 4 ∧ k.1 + 0 ≤ 0 ∧ k.2 + 0 ≤ 0) ∧ (sp_X12_isNear) av σ fun v σ' => xk_X12_isCovered ct K R n 25 ls (v.toList ++ rest) σ' (k.1 + 0, k.2 + 0)) ∧
  xe_X12_isCovered ct K R (n + 1) 25 ls st σ k = (oI st fun x st => (¬ wI x = wI 0 → xk_X12_isCovered ct K R n 30 ls st σ k) ∧ (¬ (¬ wI x = wI 0) → xk_X12_isCovered ct K R n 28 ls st σ k)) ∧
  xe_X12_isCovered ct K R (n + 1) 28 ls st σ k = (xk_X12_isCovered ct K R n 29 ls (vi (0) :: st) σ k) ∧
  xe_X12_isCovered ct K R (n + 1) 29 ls st σ k = (oI st fun x st => st = [] ∧ (x = 0 ∨ x = 1) ∧ R (some (vi x)) σ) ∧
  xe_X12_isCovered ct K R (n + 1) 30 ls st σ k = (lI ls 2 fun x => 2 < 3 ∧ xk_X12_isCovered ct K R n 33 (stL ls 2 (vi (x + (1)))) st σ k) ∧
  xe_X12_isCovered ct K R (n + 1) 33 ls st σ k = (xk_X12_isCovered ct K R n 2 ls st σ k) ∧
  xe_X12_isCovered ct K R (n + 1) 36 ls st σ k = (xk_X12_isCovered ct K R n 37 ls (vi (1) :: st) σ k) ∧
  xe_X12_isCovered ct K R (n + 1) 37 ls st σ k = (oI st fun x st => st = [] ∧ (x = 0 ∨ x = 1) ∧ R (some (vi x)) σ) :=
  ⟨exS_step.trans rfl, exS_step.trans rfl, exS_step.trans rfl, exS_step.trans rfl, exS_step.trans rfl, exS_step.trans rfl, exS_step.trans rfl, exS_step.trans rfl, exS_step.trans rfl, exS_step.trans rfl, exS_step.trans rfl, exS_step.trans rfl, exS_step.trans rfl, exS_step.trans rfl, exS_step.trans rfl, exS_step.trans rfl, exS_step.trans rfl, exS_step.trans rfl, exS_step.trans rfl, exS_step.trans rfl, exS_step.trans rfl, exS_step.trans rfl⟩
def M_X12_isCovered : Md := (yX12_isCovered, cX12_isCovered, 3, (some FieldType.boolean), 4, 0, 0, 2, false, tb_X12_isCovered, mt_X12_isCovered)
theorem mm_X12_isCovered : MMOK M_X12_isCovered := ⟨by decide +kernel, tk_X12_isCovered, mk_X12_isCovered, rfl, fun h => by cases h⟩
theorem go_X12_isCovered {Q : Option AV → Hp → Prop} {ct : Nat → Bool} {pc : Nat} {ls : List (Option AV)} {st : List AV} {σ : Hp} {k : Nat × Nat} (n : Nat) (h : xe_X12_isCovered ct (Go M_X12_isCovered Q) Q n pc ls st σ k) : Go M_X12_isCovered Q pc ls st σ k := Go.exS mm_X12_isCovered h

set_option maxRecDepth 20000 in
theorem c_X12_isCovered : Ct yX12_isCovered cX12_isCovered 3 ((some FieldType.boolean)) 4 0 0 sp_X12_isCovered := by
  refine Ct.go (M := M_X12_isCovered) mm_X12_isCovered fun av σ Q h0 => ?_
  obtain ⟨this, w, rfl, hk, h⟩ := el_X12_isCovered h0
  clear h0
  refine ⟨Nat.le_of_ble_eq_true rfl, ?_⟩
  show Go M_X12_isCovered Q 0 [some (vr this), some (vi w), none] [] σ (0, 0)
  obtain ⟨rfl, hI, hr, h⟩ := h
  unfold inR at hr
  have h1 := hI.boxes_s
  have loop : ∀ (n : Nat) (k : Int), 0 ≤ k → k + n = fI σ 1302 61 → (∀ j, 0 ≤ j → j < k → ¬ (aI σ 67 j = w ∧ ¬ mNear σ j)) → Go M_X12_isCovered Q 2 [some (vr 61), some (vi w), some (vi k)] [] σ (0, 0) := by
    intro n
    induction n with
    | zero =>
      intro k h2 h3 hno
      refine go_X12_isCovered (ct := fun p => p == 2) 40 ?_
      simp only [oI, oL, oR, o1, lI, lL, lR, popN, catS, gv, stL, stL2, swt, cnd, spObj, List.getElem?_cons_zero, List.getElem?_cons_succ, List.getD_cons_zero, List.getD_cons_succ, List.set_cons_zero, List.set_cons_succ, List.nil_append, List.cons_append, Option.toList, Bool.or_false, Bool.false_or, Bool.or_true, Bool.true_or, Nat.reduceBEq, Nat.reduceAdd, Nat.reduceLT, Nat.reduceLeDiff, Int.reduceAdd, Int.reduceToNat, true_and, and_true, Fin.isValue, Fin.val_zero, Fin.val_one, Fin.val_two, Fin.reduceFinMk, eq_self, Int.reduceNeg, imp_self, Nat.reduceMul, Nat.le_refl, not_true_eq_false, not_false_eq_true, List.getElem?_nil, reduceCtorEq, true_or, or_true, Classical.not_not, implies_true, or_self, wI_0, wI_1, wI_m1, b2i_w, b2i_eq0, b2i_eq1, b2i_bool, nor_self, nx_pI, kd_pI, ln_pI, fI_pI, fL_pI, fR_pI, aI_pI, aL_pI, aR_pI, nx_pL, kd_pL, ln_pL, fI_pL, fL_pL, fR_pL, aI_pL, aL_pL, aR_pL, nx_pR, kd_pR, ln_pR, fI_pR, fL_pR, fR_pR, aI_pR, aL_pR, aR_pR, nx_qI, kd_qI, ln_qI, fI_qI, fL_qI, fR_qI, aI_qI, aL_qI, aR_qI, nx_qL, kd_qL, ln_qL, fI_qL, fL_qL, fR_qL, aI_qL, aL_qL, aR_qL, nx_qR, kd_qR, ln_qR, fI_qR, fL_qR, fR_qR, aI_qR, aL_qR, aR_qR, nx_mk, kd_mk, ln_mk, fI_mk, fL_mk, fR_mk, aI_mk, aL_mk, aR_mk, false_and, and_false, if_false, if_true, and_self, Int.reduceEq, Nat.reduceEqDiff, ite_self, MLay_pI, MLay_pL, MLay_qI, MLay_qL, ev_X12_isCovered, xt_X12_isCovered, xf_X12_isCovered, us_X12_isNear, hk, hI.lay.eqs]
      try simp (disch := omega) only [wI_id, dv_nn, rm_nn]
      refine ⟨fun _ => ?_, fun z => absurd (by omega) z⟩
      rw [b2i_t (p := mCov σ w) (by rintro ⟨j, a, b, c⟩; exact hno j a (by omega) c)] at h; exact h
    | succ n ih =>
      intro k h2 h3 hno
      have h4 := hI.ward_ k
      have ih := fun (z : ¬ (aI σ 67 k = w ∧ ¬ mNear σ k)) => ih (k + 1) (by omega) (by omega) fun j a b => by
        by_cases e : j = k
        · subst e; exact z
        · exact hno j a (by omega)
      refine go_X12_isCovered (ct := fun p => p == 2) 40 ?_
      simp only [oI, oL, oR, o1, lI, lL, lR, popN, catS, gv, stL, stL2, swt, cnd, spObj, List.getElem?_cons_zero, List.getElem?_cons_succ, List.getD_cons_zero, List.getD_cons_succ, List.set_cons_zero, List.set_cons_succ, List.nil_append, List.cons_append, Option.toList, Bool.or_false, Bool.false_or, Bool.or_true, Bool.true_or, Nat.reduceBEq, Nat.reduceAdd, Nat.reduceLT, Nat.reduceLeDiff, Int.reduceAdd, Int.reduceToNat, true_and, and_true, Fin.isValue, Fin.val_zero, Fin.val_one, Fin.val_two, Fin.reduceFinMk, eq_self, Int.reduceNeg, imp_self, Nat.reduceMul, Nat.le_refl, not_true_eq_false, not_false_eq_true, List.getElem?_nil, reduceCtorEq, true_or, or_true, Classical.not_not, implies_true, or_self, wI_0, wI_1, wI_m1, b2i_w, b2i_eq0, b2i_eq1, b2i_bool, nor_self, nx_pI, kd_pI, ln_pI, fI_pI, fL_pI, fR_pI, aI_pI, aL_pI, aR_pI, nx_pL, kd_pL, ln_pL, fI_pL, fL_pL, fR_pL, aI_pL, aL_pL, aR_pL, nx_pR, kd_pR, ln_pR, fI_pR, fL_pR, fR_pR, aI_pR, aL_pR, aR_pR, nx_qI, kd_qI, ln_qI, fI_qI, fL_qI, fR_qI, aI_qI, aL_qI, aR_qI, nx_qL, kd_qL, ln_qL, fI_qL, fL_qL, fR_qL, aI_qL, aL_qL, aR_qL, nx_qR, kd_qR, ln_qR, fI_qR, fL_qR, fR_qR, aI_qR, aL_qR, aR_qR, nx_mk, kd_mk, ln_mk, fI_mk, fL_mk, fR_mk, aI_mk, aL_mk, aR_mk, false_and, and_false, if_false, if_true, and_self, Int.reduceEq, Nat.reduceEqDiff, ite_self, MLay_pI, MLay_pL, MLay_qI, MLay_qL, ev_X12_isCovered, xt_X12_isCovered, xf_X12_isCovered, us_X12_isNear, hk, hI.lay.eqs, hI]
      try simp (disch := omega) only [wI_id, dv_nn, rm_nn]
      repeat' (first | intro z | apply And.intro)
      all_goals try omega
      all_goals first
        | exact ih ‹_›
        | exact ih (fun q => q ‹mNear σ k›)
        | (refine ih fun q => ?_; first | omega | exact absurd q ‹_› | exact absurd q.1 ‹_› | exact absurd q.2 ‹_› | exact q.2 ‹_›)
        | (rw [b2i_f (p := mCov σ w) (fun q => q ⟨k, h2, by omega, by omega, by assumption⟩)] at h; exact h)
  refine go_X12_isCovered (ct := fun p => p == 2) 40 ?_
  simp only [oI, oL, oR, o1, lI, lL, lR, popN, catS, gv, stL, stL2, swt, cnd, spObj, List.getElem?_cons_zero, List.getElem?_cons_succ, List.getD_cons_zero, List.getD_cons_succ, List.set_cons_zero, List.set_cons_succ, List.nil_append, List.cons_append, Option.toList, Bool.or_false, Bool.false_or, Bool.or_true, Bool.true_or, Nat.reduceBEq, Nat.reduceAdd, Nat.reduceLT, Nat.reduceLeDiff, Int.reduceAdd, Int.reduceToNat, true_and, and_true, Fin.isValue, Fin.val_zero, Fin.val_one, Fin.val_two, Fin.reduceFinMk, eq_self, Int.reduceNeg, imp_self, Nat.reduceMul, Nat.le_refl, not_true_eq_false, not_false_eq_true, List.getElem?_nil, reduceCtorEq, true_or, or_true, Classical.not_not, implies_true, or_self, wI_0, wI_1, wI_m1, b2i_w, b2i_eq0, b2i_eq1, b2i_bool, nor_self, nx_pI, kd_pI, ln_pI, fI_pI, fL_pI, fR_pI, aI_pI, aL_pI, aR_pI, nx_pL, kd_pL, ln_pL, fI_pL, fL_pL, fR_pL, aI_pL, aL_pL, aR_pL, nx_pR, kd_pR, ln_pR, fI_pR, fL_pR, fR_pR, aI_pR, aL_pR, aR_pR, nx_qI, kd_qI, ln_qI, fI_qI, fL_qI, fR_qI, aI_qI, aL_qI, aR_qI, nx_qL, kd_qL, ln_qL, fI_qL, fL_qL, fR_qL, aI_qL, aL_qL, aR_qL, nx_qR, kd_qR, ln_qR, fI_qR, fL_qR, fR_qR, aI_qR, aL_qR, aR_qR, nx_mk, kd_mk, ln_mk, fI_mk, fL_mk, fR_mk, aI_mk, aL_mk, aR_mk, false_and, and_false, if_false, if_true, and_self, Int.reduceEq, Nat.reduceEqDiff, ite_self, MLay_pI, MLay_pL, MLay_qI, MLay_qL, ev_X12_isCovered, xt_X12_isCovered, xf_X12_isCovered, us_X12_isNear]
  exact loop (fI σ 1302 61).toNat 0 (by omega) (by omega) (fun j a b => by omega)

def sp_X12_allCovered : Sp := fun av σ Q => oR av fun this av => av = [] ∧ kd σ this = 13 ∧ (this = 61 ∧ MI σ ∧ Q (some (vi (b2i (mAll σ)))) σ)
theorem us_X12_allCovered (this : Int) (σ : Hp) (Q : Option AV → Hp → Prop) : sp_X12_allCovered [vr this] σ Q = (kd σ this = 13 ∧ (this = 61 ∧ MI σ ∧ Q (some (vi (b2i (mAll σ)))) σ)) := propext ⟨fun h => h.2, fun h => ⟨rfl, h⟩⟩
theorem el_X12_allCovered {av : List AV} {σ : Hp} {Q : Option AV → Hp → Prop} (h : sp_X12_allCovered av σ Q) : ∃ (this : Int), av = [vr this] ∧ (kd σ this = 13 ∧ (this = 61 ∧ MI σ ∧ Q (some (vi (b2i (mAll σ)))) σ)) := by
  obtain ⟨this, a0, rfl, h0⟩ := oR_s h
  obtain ⟨rfl, hz⟩ := h0
  exact ⟨this, rfl, hz⟩
theorem rc_X12_allCovered : ∀ (av : List AV) (σ : Hp) (Q : Option AV → Hp → Prop), sp_X12_allCovered av σ Q → ∃ r tl, av = vr r :: tl ∧ kd σ r = 12 + 1 := fun av σ Q h => by
  obtain ⟨this, rfl, hz, -⟩ := el_X12_allCovered h
  exact ⟨this, _, rfl, hz⟩

def tb_X12_allCovered : Tab := [(0, .iconst 0, 1, (0, 0, 0, 0)), (1, .istore_n 1, 1, (0, 0, 0, 0)), (2, .iload_n 1, 1, (0, 0, 0, 0)), (3, .aload_n 0, 1, (0, 0, 0, 0)), (4, .getfield 199, 3, (13, 1302, 0, 0)), (7, .if_icmp .ge 19, 3, (0, 0, 0, 0)), (10, .aload_n 0, 1, (0, 0, 0, 0)), (11, .iload_n 1, 1, (0, 0, 0, 0)), (12, .invokevirtual 448, 3, (0, 0, 0, 0)), (15, .ifCond .ne 5, 3, (0, 0, 0, 0)), (18, .iconst 0, 1, (0, 0, 0, 0)), (19, .ireturn, 1, (0, 0, 0, 0)), (20, .iinc 1 1, 3, (0, 0, 0, 0)), (23, .goto (-21), 3, (0, 0, 0, 0)), (26, .iconst 1, 1, (0, 0, 0, 0)), (27, .ireturn, 1, (0, 0, 0, 0))]
set_option maxRecDepth 100000 in
theorem tk_X12_allCovered : TOK RX12 false cX12_allCovered tb_X12_allCovered := chkT_ok ft_X12 (by decide +kernel)
def mt_X12_allCovered : List (Nat × Mt) := [(3584, 2, 0, 0, 3, sp_X12_isNear)]
theorem em_X12_allCovered : mt_X12_allCovered.lookup 3584 = some (2, 0, 0, 3, sp_X12_isNear) := rfl
theorem mk_X12_allCovered : MOK RX12 mt_X12_allCovered := by
  intro q hq
  simp only [mt_X12_allCovered, List.mem_cons, List.not_mem_nil, or_false] at hq
  rcases hq with rfl
  · exact rw_X12_3584
noncomputable def xe_X12_allCovered (ct : Nat → Bool) (K : Kt) (R : Option AV → Hp → Prop) (n : Nat) : Kt := exS 2 4 0 0 2 tb_X12_allCovered mt_X12_allCovered ct K R n
noncomputable def xk_X12_allCovered (ct : Nat → Bool) (K : Kt) (R : Option AV → Hp → Prop) (n : Nat) : Kt := exkS 2 4 0 0 2 tb_X12_allCovered mt_X12_allCovered ct K R n
theorem xt_X12_allCovered {ct : Nat → Bool} {K : Kt} {R : Option AV → Hp → Prop} {n pc : Nat} {ls : List (Option AV)} {st : List AV} {σ : Hp} {k : Nat × Nat} (h : ct pc = true) : xk_X12_allCovered ct K R n pc ls st σ k = K pc ls st σ k := by unfold xk_X12_allCovered exkS; rw [h]
theorem xf_X12_allCovered {ct : Nat → Bool} {K : Kt} {R : Option AV → Hp → Prop} {n pc : Nat} {ls : List (Option AV)} {st : List AV} {σ : Hp} {k : Nat × Nat} (h : ct pc = false) : xk_X12_allCovered ct K R n pc ls st σ k = xe_X12_allCovered ct K R n pc ls st σ k := by unfold xk_X12_allCovered exkS xe_X12_allCovered; rw [h]
theorem ev_X12_allCovered {ct : Nat → Bool} {K : Kt} {R : Option AV → Hp → Prop} {n : Nat} {ls : List (Option AV)} {st : List AV} {σ : Hp} {k : Nat × Nat} :
  xe_X12_allCovered ct K R (n + 1) 0 ls st σ k = (xk_X12_allCovered ct K R n 1 ls (vi (0) :: st) σ k) ∧
  xe_X12_allCovered ct K R (n + 1) 1 ls st σ k = (oI st fun x st => 1 < 2 ∧ xk_X12_allCovered ct K R n 2 (stL ls 1 (vi x)) st σ k) ∧
  xe_X12_allCovered ct K R (n + 1) 2 ls st σ k = (lI ls 1 fun x => xk_X12_allCovered ct K R n 3 ls (vi x :: st) σ k) ∧
  xe_X12_allCovered ct K R (n + 1) 3 ls st σ k = (lR ls 0 fun x => xk_X12_allCovered ct K R n 4 ls (vr x :: st) σ k) ∧
  xe_X12_allCovered ct K R (n + 1) 4 ls st σ k = (oR st fun x st => kd σ x = 13 ∧ xk_X12_allCovered ct K R n 7 ls (vi (fI σ 1302 x) :: st) σ k) ∧
  xe_X12_allCovered ct K R (n + 1) 7 ls st σ k = (oI st fun y st => oI st fun x st => (wI y ≤ wI x → xk_X12_allCovered ct K R n 26 ls st σ k) ∧ (¬ (wI y ≤ wI x) → xk_X12_allCovered ct K R n 10 ls st σ k)) ∧
  xe_X12_allCovered ct K R (n + 1) 10 ls st σ k = (lR ls 0 fun x => xk_X12_allCovered ct K R n 11 ls (vr x :: st) σ k) ∧
  xe_X12_allCovered ct K R (n + 1) 11 ls st σ k = (lI ls 1 fun x => xk_X12_allCovered ct K R n 12 ls (vi x :: st) σ k) ∧
  xe_X12_allCovered ct K R (n + 1) 12 ls st σ k = (popN 2 st [] fun av rest => (catS rest ≤ 8 ∧ 3 < 4 ∧ k.1 + 0 ≤ 0 ∧ k.2 + 0 ≤ 0) ∧ (sp_X12_isNear) av σ fun v σ' => xk_X12_allCovered ct K R n 15 ls (v.toList ++ rest) σ' (k.1 + 0, k.2 + 0)) ∧
  xe_X12_allCovered ct K R (n + 1) 15 ls st σ k = (oI st fun x st => (¬ wI x = wI 0 → xk_X12_allCovered ct K R n 20 ls st σ k) ∧ (¬ (¬ wI x = wI 0) → xk_X12_allCovered ct K R n 18 ls st σ k)) ∧
  xe_X12_allCovered ct K R (n + 1) 18 ls st σ k = (xk_X12_allCovered ct K R n 19 ls (vi (0) :: st) σ k) ∧
  xe_X12_allCovered ct K R (n + 1) 19 ls st σ k = (oI st fun x st => st = [] ∧ (x = 0 ∨ x = 1) ∧ R (some (vi x)) σ) ∧
  xe_X12_allCovered ct K R (n + 1) 20 ls st σ k = (lI ls 1 fun x => 1 < 2 ∧ xk_X12_allCovered ct K R n 23 (stL ls 1 (vi (x + (1)))) st σ k) ∧
  xe_X12_allCovered ct K R (n + 1) 23 ls st σ k = (xk_X12_allCovered ct K R n 2 ls st σ k) ∧
  xe_X12_allCovered ct K R (n + 1) 26 ls st σ k = (xk_X12_allCovered ct K R n 27 ls (vi (1) :: st) σ k) ∧
  xe_X12_allCovered ct K R (n + 1) 27 ls st σ k = (oI st fun x st => st = [] ∧ (x = 0 ∨ x = 1) ∧ R (some (vi x)) σ) :=
  ⟨exS_step.trans rfl, exS_step.trans rfl, exS_step.trans rfl, exS_step.trans rfl, exS_step.trans rfl, exS_step.trans rfl, exS_step.trans rfl, exS_step.trans rfl, exS_step.trans rfl, exS_step.trans rfl, exS_step.trans rfl, exS_step.trans rfl, exS_step.trans rfl, exS_step.trans rfl, exS_step.trans rfl, exS_step.trans rfl⟩
def M_X12_allCovered : Md := (yX12_allCovered, cX12_allCovered, 2, (some FieldType.boolean), 4, 0, 0, 2, false, tb_X12_allCovered, mt_X12_allCovered)
theorem mm_X12_allCovered : MMOK M_X12_allCovered := ⟨by decide +kernel, tk_X12_allCovered, mk_X12_allCovered, rfl, fun h => by cases h⟩
theorem go_X12_allCovered {Q : Option AV → Hp → Prop} {ct : Nat → Bool} {pc : Nat} {ls : List (Option AV)} {st : List AV} {σ : Hp} {k : Nat × Nat} (n : Nat) (h : xe_X12_allCovered ct (Go M_X12_allCovered Q) Q n pc ls st σ k) : Go M_X12_allCovered Q pc ls st σ k := Go.exS mm_X12_allCovered h

set_option maxRecDepth 20000 in
theorem c_X12_allCovered : Ct yX12_allCovered cX12_allCovered 2 ((some FieldType.boolean)) 4 0 0 sp_X12_allCovered := by
  refine Ct.go (M := M_X12_allCovered) mm_X12_allCovered fun av σ Q h0 => ?_
  obtain ⟨this, rfl, hk, h⟩ := el_X12_allCovered h0
  clear h0
  refine ⟨Nat.le_of_ble_eq_true rfl, ?_⟩
  show Go M_X12_allCovered Q 0 [some (vr this), none] [] σ (0, 0)
  obtain ⟨rfl, hI, h⟩ := h
  have h1 := hI.boxes_s
  have loop : ∀ (n : Nat) (k : Int), 0 ≤ k → k + n = fI σ 1302 61 → (∀ j, 0 ≤ j → j < k → ¬ (¬ mNear σ j)) → Go M_X12_allCovered Q 2 [some (vr 61), some (vi k)] [] σ (0, 0) := by
    intro n
    induction n with
    | zero =>
      intro k h2 h3 hno
      refine go_X12_allCovered (ct := fun p => p == 2) 40 ?_
      simp only [oI, oL, oR, o1, lI, lL, lR, popN, catS, gv, stL, stL2, swt, cnd, spObj, List.getElem?_cons_zero, List.getElem?_cons_succ, List.getD_cons_zero, List.getD_cons_succ, List.set_cons_zero, List.set_cons_succ, List.nil_append, List.cons_append, Option.toList, Bool.or_false, Bool.false_or, Bool.or_true, Bool.true_or, Nat.reduceBEq, Nat.reduceAdd, Nat.reduceLT, Nat.reduceLeDiff, Int.reduceAdd, Int.reduceToNat, true_and, and_true, Fin.isValue, Fin.val_zero, Fin.val_one, Fin.val_two, Fin.reduceFinMk, eq_self, Int.reduceNeg, imp_self, Nat.reduceMul, Nat.le_refl, not_true_eq_false, not_false_eq_true, List.getElem?_nil, reduceCtorEq, true_or, or_true, Classical.not_not, implies_true, or_self, wI_0, wI_1, wI_m1, b2i_w, b2i_eq0, b2i_eq1, b2i_bool, nor_self, nx_pI, kd_pI, ln_pI, fI_pI, fL_pI, fR_pI, aI_pI, aL_pI, aR_pI, nx_pL, kd_pL, ln_pL, fI_pL, fL_pL, fR_pL, aI_pL, aL_pL, aR_pL, nx_pR, kd_pR, ln_pR, fI_pR, fL_pR, fR_pR, aI_pR, aL_pR, aR_pR, nx_qI, kd_qI, ln_qI, fI_qI, fL_qI, fR_qI, aI_qI, aL_qI, aR_qI, nx_qL, kd_qL, ln_qL, fI_qL, fL_qL, fR_qL, aI_qL, aL_qL, aR_qL, nx_qR, kd_qR, ln_qR, fI_qR, fL_qR, fR_qR, aI_qR, aL_qR, aR_qR, nx_mk, kd_mk, ln_mk, fI_mk, fL_mk, fR_mk, aI_mk, aL_mk, aR_mk, false_and, and_false, if_false, if_true, and_self, Int.reduceEq, Nat.reduceEqDiff, ite_self, MLay_pI, MLay_pL, MLay_qI, MLay_qL, ev_X12_allCovered, xt_X12_allCovered, xf_X12_allCovered, us_X12_isNear, hk, hI.lay.eqs]
      try simp (disch := omega) only [wI_id, dv_nn, rm_nn]
      refine ⟨fun _ => ?_, fun z => absurd (by omega) z⟩
      rw [b2i_t (p := mAll σ) (by rintro ⟨j, a, b, c⟩; exact hno j a (by omega) c)] at h; exact h
    | succ n ih =>
      intro k h2 h3 hno

      have ih := fun (z : ¬ (¬ mNear σ k)) => ih (k + 1) (by omega) (by omega) fun j a b => by
        by_cases e : j = k
        · subst e; exact z
        · exact hno j a (by omega)
      refine go_X12_allCovered (ct := fun p => p == 2) 40 ?_
      simp only [oI, oL, oR, o1, lI, lL, lR, popN, catS, gv, stL, stL2, swt, cnd, spObj, List.getElem?_cons_zero, List.getElem?_cons_succ, List.getD_cons_zero, List.getD_cons_succ, List.set_cons_zero, List.set_cons_succ, List.nil_append, List.cons_append, Option.toList, Bool.or_false, Bool.false_or, Bool.or_true, Bool.true_or, Nat.reduceBEq, Nat.reduceAdd, Nat.reduceLT, Nat.reduceLeDiff, Int.reduceAdd, Int.reduceToNat, true_and, and_true, Fin.isValue, Fin.val_zero, Fin.val_one, Fin.val_two, Fin.reduceFinMk, eq_self, Int.reduceNeg, imp_self, Nat.reduceMul, Nat.le_refl, not_true_eq_false, not_false_eq_true, List.getElem?_nil, reduceCtorEq, true_or, or_true, Classical.not_not, implies_true, or_self, wI_0, wI_1, wI_m1, b2i_w, b2i_eq0, b2i_eq1, b2i_bool, nor_self, nx_pI, kd_pI, ln_pI, fI_pI, fL_pI, fR_pI, aI_pI, aL_pI, aR_pI, nx_pL, kd_pL, ln_pL, fI_pL, fL_pL, fR_pL, aI_pL, aL_pL, aR_pL, nx_pR, kd_pR, ln_pR, fI_pR, fL_pR, fR_pR, aI_pR, aL_pR, aR_pR, nx_qI, kd_qI, ln_qI, fI_qI, fL_qI, fR_qI, aI_qI, aL_qI, aR_qI, nx_qL, kd_qL, ln_qL, fI_qL, fL_qL, fR_qL, aI_qL, aL_qL, aR_qL, nx_qR, kd_qR, ln_qR, fI_qR, fL_qR, fR_qR, aI_qR, aL_qR, aR_qR, nx_mk, kd_mk, ln_mk, fI_mk, fL_mk, fR_mk, aI_mk, aL_mk, aR_mk, false_and, and_false, if_false, if_true, and_self, Int.reduceEq, Nat.reduceEqDiff, ite_self, MLay_pI, MLay_pL, MLay_qI, MLay_qL, ev_X12_allCovered, xt_X12_allCovered, xf_X12_allCovered, us_X12_isNear, hk, hI.lay.eqs, hI]
      try simp (disch := omega) only [wI_id, dv_nn, rm_nn]
      repeat' (first | intro z | apply And.intro)
      all_goals try omega
      all_goals first
        | exact ih ‹_›
        | exact ih (fun q => q ‹mNear σ k›)
        | (refine ih fun q => ?_; first | omega | exact absurd q ‹_› | exact absurd q.1 ‹_› | exact absurd q.2 ‹_› | exact q.2 ‹_›)
        | (rw [b2i_f (p := mAll σ) (fun q => q ⟨k, h2, by omega, by assumption⟩)] at h; exact h)
  refine go_X12_allCovered (ct := fun p => p == 2) 40 ?_
  simp only [oI, oL, oR, o1, lI, lL, lR, popN, catS, gv, stL, stL2, swt, cnd, spObj, List.getElem?_cons_zero, List.getElem?_cons_succ, List.getD_cons_zero, List.getD_cons_succ, List.set_cons_zero, List.set_cons_succ, List.nil_append, List.cons_append, Option.toList, Bool.or_false, Bool.false_or, Bool.or_true, Bool.true_or, Nat.reduceBEq, Nat.reduceAdd, Nat.reduceLT, Nat.reduceLeDiff, Int.reduceAdd, Int.reduceToNat, true_and, and_true, Fin.isValue, Fin.val_zero, Fin.val_one, Fin.val_two, Fin.reduceFinMk, eq_self, Int.reduceNeg, imp_self, Nat.reduceMul, Nat.le_refl, not_true_eq_false, not_false_eq_true, List.getElem?_nil, reduceCtorEq, true_or, or_true, Classical.not_not, implies_true, or_self, wI_0, wI_1, wI_m1, b2i_w, b2i_eq0, b2i_eq1, b2i_bool, nor_self, nx_pI, kd_pI, ln_pI, fI_pI, fL_pI, fR_pI, aI_pI, aL_pI, aR_pI, nx_pL, kd_pL, ln_pL, fI_pL, fL_pL, fR_pL, aI_pL, aL_pL, aR_pL, nx_pR, kd_pR, ln_pR, fI_pR, fL_pR, fR_pR, aI_pR, aL_pR, aR_pR, nx_qI, kd_qI, ln_qI, fI_qI, fL_qI, fR_qI, aI_qI, aL_qI, aR_qI, nx_qL, kd_qL, ln_qL, fI_qL, fL_qL, fR_qL, aI_qL, aL_qL, aR_qL, nx_qR, kd_qR, ln_qR, fI_qR, fL_qR, fR_qR, aI_qR, aL_qR, aR_qR, nx_mk, kd_mk, ln_mk, fI_mk, fL_mk, fR_mk, aI_mk, aL_mk, aR_mk, false_and, and_false, if_false, if_true, and_self, Int.reduceEq, Nat.reduceEqDiff, ite_self, MLay_pI, MLay_pL, MLay_qI, MLay_qL, ev_X12_allCovered, xt_X12_allCovered, xf_X12_allCovered, us_X12_isNear]
  exact loop (fI σ 1302 61).toNat 0 (by omega) (by omega) (fun j a b => by omega)

def sp_X12_hasBoxes : Sp := fun av σ Q => oR av fun this av => oI av fun w av => av = [] ∧ kd σ this = 13 ∧ (this = 61 ∧ MI σ ∧ inR w ∧ Q (some (vi (b2i (mHas σ w)))) σ)
theorem us_X12_hasBoxes (this : Int) (w : Int) (σ : Hp) (Q : Option AV → Hp → Prop) : sp_X12_hasBoxes [vr this, vi w] σ Q = (kd σ this = 13 ∧ (this = 61 ∧ MI σ ∧ inR w ∧ Q (some (vi (b2i (mHas σ w)))) σ)) := propext ⟨fun h => h.2, fun h => ⟨rfl, h⟩⟩
theorem el_X12_hasBoxes {av : List AV} {σ : Hp} {Q : Option AV → Hp → Prop} (h : sp_X12_hasBoxes av σ Q) : ∃ (this : Int) (w : Int), av = [vr this, vi w] ∧ (kd σ this = 13 ∧ (this = 61 ∧ MI σ ∧ inR w ∧ Q (some (vi (b2i (mHas σ w)))) σ)) := by
  obtain ⟨this, a0, rfl, h0⟩ := oR_s h
  obtain ⟨w, a1, rfl, h1⟩ := oI_s h0
  obtain ⟨rfl, hz⟩ := h1
  exact ⟨this, w, rfl, hz⟩
theorem rc_X12_hasBoxes : ∀ (av : List AV) (σ : Hp) (Q : Option AV → Hp → Prop), sp_X12_hasBoxes av σ Q → ∃ r tl, av = vr r :: tl ∧ kd σ r = 12 + 1 := fun av σ Q h => by
  obtain ⟨this, w, rfl, hz, -⟩ := el_X12_hasBoxes h
  exact ⟨this, _, rfl, hz⟩

def tb_X12_hasBoxes : Tab := [(0, .iconst 0, 1, (0, 0, 0, 0)), (1, .istore_n 2, 1, (0, 0, 0, 0)), (2, .iload_n 2, 1, (0, 0, 0, 0)), (3, .aload_n 0, 1, (0, 0, 0, 0)), (4, .getfield 199, 3, (13, 1302, 0, 0)), (7, .if_icmp .ge 21, 3, (0, 0, 0, 0)), (10, .aload_n 0, 1, (0, 0, 0, 0)), (11, .getfield 25, 3, (13, 1308, 2, 0)), (14, .iload_n 2, 1, (0, 0, 0, 0)), (15, .iaload, 1, (0, 0, 0, 0)), (16, .iload_n 1, 1, (0, 0, 0, 0)), (17, .if_icmp .ne 5, 3, (0, 0, 0, 0)), (20, .iconst 1, 1, (0, 0, 0, 0)), (21, .ireturn, 1, (0, 0, 0, 0)), (22, .iinc 2 1, 3, (0, 0, 0, 0)), (25, .goto (-23), 3, (0, 0, 0, 0)), (28, .iconst 0, 1, (0, 0, 0, 0)), (29, .ireturn, 1, (0, 0, 0, 0))]
set_option maxRecDepth 100000 in
theorem tk_X12_hasBoxes : TOK RX12 false cX12_hasBoxes tb_X12_hasBoxes := chkT_ok ft_X12 (by decide +kernel)
def mt_X12_hasBoxes : List (Nat × Mt) := []
theorem mk_X12_hasBoxes : MOK RX12 mt_X12_hasBoxes := fun q hq => by cases hq
noncomputable def xe_X12_hasBoxes (ct : Nat → Bool) (K : Kt) (R : Option AV → Hp → Prop) (n : Nat) : Kt := exS 3 1 0 0 2 tb_X12_hasBoxes mt_X12_hasBoxes ct K R n
noncomputable def xk_X12_hasBoxes (ct : Nat → Bool) (K : Kt) (R : Option AV → Hp → Prop) (n : Nat) : Kt := exkS 3 1 0 0 2 tb_X12_hasBoxes mt_X12_hasBoxes ct K R n
theorem xt_X12_hasBoxes {ct : Nat → Bool} {K : Kt} {R : Option AV → Hp → Prop} {n pc : Nat} {ls : List (Option AV)} {st : List AV} {σ : Hp} {k : Nat × Nat} (h : ct pc = true) : xk_X12_hasBoxes ct K R n pc ls st σ k = K pc ls st σ k := by unfold xk_X12_hasBoxes exkS; rw [h]
theorem xf_X12_hasBoxes {ct : Nat → Bool} {K : Kt} {R : Option AV → Hp → Prop} {n pc : Nat} {ls : List (Option AV)} {st : List AV} {σ : Hp} {k : Nat × Nat} (h : ct pc = false) : xk_X12_hasBoxes ct K R n pc ls st σ k = xe_X12_hasBoxes ct K R n pc ls st σ k := by unfold xk_X12_hasBoxes exkS xe_X12_hasBoxes; rw [h]
theorem ev_X12_hasBoxes {ct : Nat → Bool} {K : Kt} {R : Option AV → Hp → Prop} {n : Nat} {ls : List (Option AV)} {st : List AV} {σ : Hp} {k : Nat × Nat} :
  xe_X12_hasBoxes ct K R (n + 1) 0 ls st σ k = (xk_X12_hasBoxes ct K R n 1 ls (vi (0) :: st) σ k) ∧
  xe_X12_hasBoxes ct K R (n + 1) 1 ls st σ k = (oI st fun x st => 2 < 3 ∧ xk_X12_hasBoxes ct K R n 2 (stL ls 2 (vi x)) st σ k) ∧
  xe_X12_hasBoxes ct K R (n + 1) 2 ls st σ k = (lI ls 2 fun x => xk_X12_hasBoxes ct K R n 3 ls (vi x :: st) σ k) ∧
  xe_X12_hasBoxes ct K R (n + 1) 3 ls st σ k = (lR ls 0 fun x => xk_X12_hasBoxes ct K R n 4 ls (vr x :: st) σ k) ∧
  xe_X12_hasBoxes ct K R (n + 1) 4 ls st σ k = (oR st fun x st => kd σ x = 13 ∧ xk_X12_hasBoxes ct K R n 7 ls (vi (fI σ 1302 x) :: st) σ k) ∧
  xe_X12_hasBoxes ct K R (n + 1) 7 ls st σ k = (oI st fun y st => oI st fun x st => (wI y ≤ wI x → xk_X12_hasBoxes ct K R n 28 ls st σ k) ∧ (¬ (wI y ≤ wI x) → xk_X12_hasBoxes ct K R n 10 ls st σ k)) ∧
  xe_X12_hasBoxes ct K R (n + 1) 10 ls st σ k = (lR ls 0 fun x => xk_X12_hasBoxes ct K R n 11 ls (vr x :: st) σ k) ∧
  xe_X12_hasBoxes ct K R (n + 1) 11 ls st σ k = (oR st fun x st => kd σ x = 13 ∧ xk_X12_hasBoxes ct K R n 14 ls (vr (fR σ 1308 x) :: st) σ k) ∧
  xe_X12_hasBoxes ct K R (n + 1) 14 ls st σ k = (lI ls 2 fun x => xk_X12_hasBoxes ct K R n 15 ls (vi x :: st) σ k) ∧
  xe_X12_hasBoxes ct K R (n + 1) 15 ls st σ k = (oI st fun j st => oR st fun x st => (kd σ x = 101 ∨ kd σ x = 108) ∧ (0 ≤ j ∧ j < ln σ x) ∧ xk_X12_hasBoxes ct K R n 16 ls (vi (aI σ x j) :: st) σ k) ∧
  xe_X12_hasBoxes ct K R (n + 1) 16 ls st σ k = (lI ls 1 fun x => xk_X12_hasBoxes ct K R n 17 ls (vi x :: st) σ k) ∧
  xe_X12_hasBoxes ct K R (n + 1) 17 ls st σ k = (oI st fun y st => oI st fun x st => (¬ wI x = wI y → xk_X12_hasBoxes ct K R n 22 ls st σ k) ∧ (¬ (¬ wI x = wI y) → xk_X12_hasBoxes ct K R n 20 ls st σ k)) ∧
  xe_X12_hasBoxes ct K R (n + 1) 20 ls st σ k = (xk_X12_hasBoxes ct K R n 21 ls (vi (1) :: st) σ k) ∧
  xe_X12_hasBoxes ct K R (n + 1) 21 ls st σ k = (oI st fun x st => st = [] ∧ (x = 0 ∨ x = 1) ∧ R (some (vi x)) σ) ∧
  xe_X12_hasBoxes ct K R (n + 1) 22 ls st σ k = (lI ls 2 fun x => 2 < 3 ∧ xk_X12_hasBoxes ct K R n 25 (stL ls 2 (vi (x + (1)))) st σ k) ∧
  xe_X12_hasBoxes ct K R (n + 1) 25 ls st σ k = (xk_X12_hasBoxes ct K R n 2 ls st σ k) ∧
  xe_X12_hasBoxes ct K R (n + 1) 28 ls st σ k = (xk_X12_hasBoxes ct K R n 29 ls (vi (0) :: st) σ k) ∧
  xe_X12_hasBoxes ct K R (n + 1) 29 ls st σ k = (oI st fun x st => st = [] ∧ (x = 0 ∨ x = 1) ∧ R (some (vi x)) σ) :=
  ⟨exS_step.trans rfl, exS_step.trans rfl, exS_step.trans rfl, exS_step.trans rfl, exS_step.trans rfl, exS_step.trans rfl, exS_step.trans rfl, exS_step.trans rfl, exS_step.trans rfl, exS_step.trans rfl, exS_step.trans rfl, exS_step.trans rfl, exS_step.trans rfl, exS_step.trans rfl, exS_step.trans rfl, exS_step.trans rfl, exS_step.trans rfl, exS_step.trans rfl⟩
def M_X12_hasBoxes : Md := (yX12_hasBoxes, cX12_hasBoxes, 3, (some FieldType.boolean), 1, 0, 0, 2, false, tb_X12_hasBoxes, mt_X12_hasBoxes)
theorem mm_X12_hasBoxes : MMOK M_X12_hasBoxes := ⟨by decide +kernel, tk_X12_hasBoxes, mk_X12_hasBoxes, rfl, fun h => by cases h⟩
theorem go_X12_hasBoxes {Q : Option AV → Hp → Prop} {ct : Nat → Bool} {pc : Nat} {ls : List (Option AV)} {st : List AV} {σ : Hp} {k : Nat × Nat} (n : Nat) (h : xe_X12_hasBoxes ct (Go M_X12_hasBoxes Q) Q n pc ls st σ k) : Go M_X12_hasBoxes Q pc ls st σ k := Go.exS mm_X12_hasBoxes h

set_option maxRecDepth 20000 in
theorem c_X12_hasBoxes : Ct yX12_hasBoxes cX12_hasBoxes 3 ((some FieldType.boolean)) 1 0 0 sp_X12_hasBoxes := by
  refine Ct.go (M := M_X12_hasBoxes) mm_X12_hasBoxes fun av σ Q h0 => ?_
  obtain ⟨this, w, rfl, hk, h⟩ := el_X12_hasBoxes h0
  clear h0
  refine ⟨Nat.le_of_ble_eq_true rfl, ?_⟩
  show Go M_X12_hasBoxes Q 0 [some (vr this), some (vi w), none] [] σ (0, 0)
  obtain ⟨rfl, hI, hr, h⟩ := h
  unfold inR at hr
  have h1 := hI.boxes_s
  have loop : ∀ (n : Nat) (k : Int), 0 ≤ k → k + n = fI σ 1302 61 → (∀ j, 0 ≤ j → j < k → ¬ (aI σ 67 j = w)) → Go M_X12_hasBoxes Q 2 [some (vr 61), some (vi w), some (vi k)] [] σ (0, 0) := by
    intro n
    induction n with
    | zero =>
      intro k h2 h3 hno
      refine go_X12_hasBoxes (ct := fun p => p == 2) 40 ?_
      simp only [oI, oL, oR, o1, lI, lL, lR, popN, catS, gv, stL, stL2, swt, cnd, spObj, List.getElem?_cons_zero, List.getElem?_cons_succ, List.getD_cons_zero, List.getD_cons_succ, List.set_cons_zero, List.set_cons_succ, List.nil_append, List.cons_append, Option.toList, Bool.or_false, Bool.false_or, Bool.or_true, Bool.true_or, Nat.reduceBEq, Nat.reduceAdd, Nat.reduceLT, Nat.reduceLeDiff, Int.reduceAdd, Int.reduceToNat, true_and, and_true, Fin.isValue, Fin.val_zero, Fin.val_one, Fin.val_two, Fin.reduceFinMk, eq_self, Int.reduceNeg, imp_self, Nat.reduceMul, Nat.le_refl, not_true_eq_false, not_false_eq_true, List.getElem?_nil, reduceCtorEq, true_or, or_true, Classical.not_not, implies_true, or_self, wI_0, wI_1, wI_m1, b2i_w, b2i_eq0, b2i_eq1, b2i_bool, nor_self, nx_pI, kd_pI, ln_pI, fI_pI, fL_pI, fR_pI, aI_pI, aL_pI, aR_pI, nx_pL, kd_pL, ln_pL, fI_pL, fL_pL, fR_pL, aI_pL, aL_pL, aR_pL, nx_pR, kd_pR, ln_pR, fI_pR, fL_pR, fR_pR, aI_pR, aL_pR, aR_pR, nx_qI, kd_qI, ln_qI, fI_qI, fL_qI, fR_qI, aI_qI, aL_qI, aR_qI, nx_qL, kd_qL, ln_qL, fI_qL, fL_qL, fR_qL, aI_qL, aL_qL, aR_qL, nx_qR, kd_qR, ln_qR, fI_qR, fL_qR, fR_qR, aI_qR, aL_qR, aR_qR, nx_mk, kd_mk, ln_mk, fI_mk, fL_mk, fR_mk, aI_mk, aL_mk, aR_mk, false_and, and_false, if_false, if_true, and_self, Int.reduceEq, Nat.reduceEqDiff, ite_self, MLay_pI, MLay_pL, MLay_qI, MLay_qL, ev_X12_hasBoxes, xt_X12_hasBoxes, xf_X12_hasBoxes, hk, hI.lay.eqs]
      try simp (disch := omega) only [wI_id, dv_nn, rm_nn]
      refine ⟨fun _ => ?_, fun z => absurd (by omega) z⟩
      rw [b2i_f (p := mHas σ w) (by rintro ⟨j, a, b, c⟩; exact hno j a (by omega) c)] at h; exact h
    | succ n ih =>
      intro k h2 h3 hno
      have h4 := hI.ward_ k
      have ih := fun (z : ¬ (aI σ 67 k = w)) => ih (k + 1) (by omega) (by omega) fun j a b => by
        by_cases e : j = k
        · subst e; exact z
        · exact hno j a (by omega)
      refine go_X12_hasBoxes (ct := fun p => p == 2) 40 ?_
      simp only [oI, oL, oR, o1, lI, lL, lR, popN, catS, gv, stL, stL2, swt, cnd, spObj, List.getElem?_cons_zero, List.getElem?_cons_succ, List.getD_cons_zero, List.getD_cons_succ, List.set_cons_zero, List.set_cons_succ, List.nil_append, List.cons_append, Option.toList, Bool.or_false, Bool.false_or, Bool.or_true, Bool.true_or, Nat.reduceBEq, Nat.reduceAdd, Nat.reduceLT, Nat.reduceLeDiff, Int.reduceAdd, Int.reduceToNat, true_and, and_true, Fin.isValue, Fin.val_zero, Fin.val_one, Fin.val_two, Fin.reduceFinMk, eq_self, Int.reduceNeg, imp_self, Nat.reduceMul, Nat.le_refl, not_true_eq_false, not_false_eq_true, List.getElem?_nil, reduceCtorEq, true_or, or_true, Classical.not_not, implies_true, or_self, wI_0, wI_1, wI_m1, b2i_w, b2i_eq0, b2i_eq1, b2i_bool, nor_self, nx_pI, kd_pI, ln_pI, fI_pI, fL_pI, fR_pI, aI_pI, aL_pI, aR_pI, nx_pL, kd_pL, ln_pL, fI_pL, fL_pL, fR_pL, aI_pL, aL_pL, aR_pL, nx_pR, kd_pR, ln_pR, fI_pR, fL_pR, fR_pR, aI_pR, aL_pR, aR_pR, nx_qI, kd_qI, ln_qI, fI_qI, fL_qI, fR_qI, aI_qI, aL_qI, aR_qI, nx_qL, kd_qL, ln_qL, fI_qL, fL_qL, fR_qL, aI_qL, aL_qL, aR_qL, nx_qR, kd_qR, ln_qR, fI_qR, fL_qR, fR_qR, aI_qR, aL_qR, aR_qR, nx_mk, kd_mk, ln_mk, fI_mk, fL_mk, fR_mk, aI_mk, aL_mk, aR_mk, false_and, and_false, if_false, if_true, and_self, Int.reduceEq, Nat.reduceEqDiff, ite_self, MLay_pI, MLay_pL, MLay_qI, MLay_qL, ev_X12_hasBoxes, xt_X12_hasBoxes, xf_X12_hasBoxes, hk, hI.lay.eqs, hI]
      try simp (disch := omega) only [wI_id, dv_nn, rm_nn]
      repeat' (first | intro z | apply And.intro)
      all_goals try omega
      all_goals first
        | exact ih ‹_›
        | exact ih (fun q => q ‹mNear σ k›)
        | (refine ih fun q => ?_; first | omega | exact absurd q ‹_› | exact absurd q.1 ‹_› | exact absurd q.2 ‹_› | exact q.2 ‹_›)
        | (rw [b2i_t (p := mHas σ w) ⟨k, h2, by omega, by omega⟩] at h; exact h)
  refine go_X12_hasBoxes (ct := fun p => p == 2) 40 ?_
  simp only [oI, oL, oR, o1, lI, lL, lR, popN, catS, gv, stL, stL2, swt, cnd, spObj, List.getElem?_cons_zero, List.getElem?_cons_succ, List.getD_cons_zero, List.getD_cons_succ, List.set_cons_zero, List.set_cons_succ, List.nil_append, List.cons_append, Option.toList, Bool.or_false, Bool.false_or, Bool.or_true, Bool.true_or, Nat.reduceBEq, Nat.reduceAdd, Nat.reduceLT, Nat.reduceLeDiff, Int.reduceAdd, Int.reduceToNat, true_and, and_true, Fin.isValue, Fin.val_zero, Fin.val_one, Fin.val_two, Fin.reduceFinMk, eq_self, Int.reduceNeg, imp_self, Nat.reduceMul, Nat.le_refl, not_true_eq_false, not_false_eq_true, List.getElem?_nil, reduceCtorEq, true_or, or_true, Classical.not_not, implies_true, or_self, wI_0, wI_1, wI_m1, b2i_w, b2i_eq0, b2i_eq1, b2i_bool, nor_self, nx_pI, kd_pI, ln_pI, fI_pI, fL_pI, fR_pI, aI_pI, aL_pI, aR_pI, nx_pL, kd_pL, ln_pL, fI_pL, fL_pL, fR_pL, aI_pL, aL_pL, aR_pL, nx_pR, kd_pR, ln_pR, fI_pR, fL_pR, fR_pR, aI_pR, aL_pR, aR_pR, nx_qI, kd_qI, ln_qI, fI_qI, fL_qI, fR_qI, aI_qI, aL_qI, aR_qI, nx_qL, kd_qL, ln_qL, fI_qL, fL_qL, fR_qL, aI_qL, aL_qL, aR_qL, nx_qR, kd_qR, ln_qR, fI_qR, fL_qR, fR_qR, aI_qR, aL_qR, aR_qR, nx_mk, kd_mk, ln_mk, fI_mk, fL_mk, fR_mk, aI_mk, aL_mk, aR_mk, false_and, and_false, if_false, if_true, and_self, Int.reduceEq, Nat.reduceEqDiff, ite_self, MLay_pI, MLay_pL, MLay_qI, MLay_qL, ev_X12_hasBoxes, xt_X12_hasBoxes, xf_X12_hasBoxes]
  exact loop (fI σ 1302 61).toNat 0 (by omega) (by omega) (fun j a b => by omega)

def sp_X12_isEngineIn : Sp := fun av σ Q => oR av fun this av => oI av fun c av => av = [] ∧ kd σ this = 13 ∧ (this = 61 ∧ MI σ ∧ (0 ≤ c ∧ c < 20) ∧ Q (some (vi (b2i (mEng σ c)))) σ)
theorem us_X12_isEngineIn (this : Int) (c : Int) (σ : Hp) (Q : Option AV → Hp → Prop) : sp_X12_isEngineIn [vr this, vi c] σ Q = (kd σ this = 13 ∧ (this = 61 ∧ MI σ ∧ (0 ≤ c ∧ c < 20) ∧ Q (some (vi (b2i (mEng σ c)))) σ)) := propext ⟨fun h => h.2, fun h => ⟨rfl, h⟩⟩
theorem el_X12_isEngineIn {av : List AV} {σ : Hp} {Q : Option AV → Hp → Prop} (h : sp_X12_isEngineIn av σ Q) : ∃ (this : Int) (c : Int), av = [vr this, vi c] ∧ (kd σ this = 13 ∧ (this = 61 ∧ MI σ ∧ (0 ≤ c ∧ c < 20) ∧ Q (some (vi (b2i (mEng σ c)))) σ)) := by
  obtain ⟨this, a0, rfl, h0⟩ := oR_s h
  obtain ⟨c, a1, rfl, h1⟩ := oI_s h0
  obtain ⟨rfl, hz⟩ := h1
  exact ⟨this, c, rfl, hz⟩
theorem rc_X12_isEngineIn : ∀ (av : List AV) (σ : Hp) (Q : Option AV → Hp → Prop), sp_X12_isEngineIn av σ Q → ∃ r tl, av = vr r :: tl ∧ kd σ r = 12 + 1 := fun av σ Q h => by
  obtain ⟨this, c, rfl, hz, -⟩ := el_X12_isEngineIn h
  exact ⟨this, _, rfl, hz⟩

def tb_X12_isEngineIn : Tab := [(0, .aload_n 0, 1, (0, 0, 0, 0)), (1, .getfield 87, 3, (13, 1336, 2, 0)), (4, .iload_n 1, 1, (0, 0, 0, 0)), (5, .iaload, 1, (0, 0, 0, 0)), (6, .ifCond .ne 16, 3, (0, 0, 0, 0)), (9, .aload_n 0, 1, (0, 0, 0, 0)), (10, .getfield 93, 3, (13, 1338, 2, 0)), (13, .iload_n 1, 1, (0, 0, 0, 0)), (14, .iaload, 1, (0, 0, 0, 0)), (15, .ifCond .lt 7, 3, (0, 0, 0, 0)), (18, .iconst 1, 1, (0, 0, 0, 0)), (19, .goto 4, 3, (0, 0, 0, 0)), (22, .iconst 0, 1, (0, 0, 0, 0)), (23, .ireturn, 1, (0, 0, 0, 0))]
set_option maxRecDepth 100000 in
theorem tk_X12_isEngineIn : TOK RX12 false cX12_isEngineIn tb_X12_isEngineIn := chkT_ok ft_X12 (by decide +kernel)
def mt_X12_isEngineIn : List (Nat × Mt) := []
theorem mk_X12_isEngineIn : MOK RX12 mt_X12_isEngineIn := fun q hq => by cases hq
noncomputable def xe_X12_isEngineIn (ct : Nat → Bool) (K : Kt) (R : Option AV → Hp → Prop) (n : Nat) : Kt := exS 2 1 0 0 2 tb_X12_isEngineIn mt_X12_isEngineIn ct K R n
noncomputable def xk_X12_isEngineIn (ct : Nat → Bool) (K : Kt) (R : Option AV → Hp → Prop) (n : Nat) : Kt := exkS 2 1 0 0 2 tb_X12_isEngineIn mt_X12_isEngineIn ct K R n
theorem xt_X12_isEngineIn {ct : Nat → Bool} {K : Kt} {R : Option AV → Hp → Prop} {n pc : Nat} {ls : List (Option AV)} {st : List AV} {σ : Hp} {k : Nat × Nat} (h : ct pc = true) : xk_X12_isEngineIn ct K R n pc ls st σ k = K pc ls st σ k := by unfold xk_X12_isEngineIn exkS; rw [h]
theorem xf_X12_isEngineIn {ct : Nat → Bool} {K : Kt} {R : Option AV → Hp → Prop} {n pc : Nat} {ls : List (Option AV)} {st : List AV} {σ : Hp} {k : Nat × Nat} (h : ct pc = false) : xk_X12_isEngineIn ct K R n pc ls st σ k = xe_X12_isEngineIn ct K R n pc ls st σ k := by unfold xk_X12_isEngineIn exkS xe_X12_isEngineIn; rw [h]
theorem ev_X12_isEngineIn {ct : Nat → Bool} {K : Kt} {R : Option AV → Hp → Prop} {n : Nat} {ls : List (Option AV)} {st : List AV} {σ : Hp} {k : Nat × Nat} :
  xe_X12_isEngineIn ct K R (n + 1) 0 ls st σ k = (lR ls 0 fun x => xk_X12_isEngineIn ct K R n 1 ls (vr x :: st) σ k) ∧
  xe_X12_isEngineIn ct K R (n + 1) 1 ls st σ k = (oR st fun x st => kd σ x = 13 ∧ xk_X12_isEngineIn ct K R n 4 ls (vr (fR σ 1336 x) :: st) σ k) ∧
  xe_X12_isEngineIn ct K R (n + 1) 4 ls st σ k = (lI ls 1 fun x => xk_X12_isEngineIn ct K R n 5 ls (vi x :: st) σ k) ∧
  xe_X12_isEngineIn ct K R (n + 1) 5 ls st σ k = (oI st fun j st => oR st fun x st => (kd σ x = 101 ∨ kd σ x = 108) ∧ (0 ≤ j ∧ j < ln σ x) ∧ xk_X12_isEngineIn ct K R n 6 ls (vi (aI σ x j) :: st) σ k) ∧
  xe_X12_isEngineIn ct K R (n + 1) 6 ls st σ k = (oI st fun x st => (¬ wI x = wI 0 → xk_X12_isEngineIn ct K R n 22 ls st σ k) ∧ (¬ (¬ wI x = wI 0) → xk_X12_isEngineIn ct K R n 9 ls st σ k)) ∧
  xe_X12_isEngineIn ct K R (n + 1) 9 ls st σ k = (lR ls 0 fun x => xk_X12_isEngineIn ct K R n 10 ls (vr x :: st) σ k) ∧
  xe_X12_isEngineIn ct K R (n + 1) 10 ls st σ k = (oR st fun x st => kd σ x = 13 ∧ xk_X12_isEngineIn ct K R n 13 ls (vr (fR σ 1338 x) :: st) σ k) ∧
  xe_X12_isEngineIn ct K R (n + 1) 13 ls st σ k = (lI ls 1 fun x => xk_X12_isEngineIn ct K R n 14 ls (vi x :: st) σ k) ∧
  xe_X12_isEngineIn ct K R (n + 1) 14 ls st σ k = (oI st fun j st => oR st fun x st => (kd σ x = 101 ∨ kd σ x = 108) ∧ (0 ≤ j ∧ j < ln σ x) ∧ xk_X12_isEngineIn ct K R n 15 ls (vi (aI σ x j) :: st) σ k) ∧
  xe_X12_isEngineIn ct K R (n + 1) 15 ls st σ k = (oI st fun x st => (wI x < wI 0 → xk_X12_isEngineIn ct K R n 22 ls st σ k) ∧ (¬ (wI x < wI 0) → xk_X12_isEngineIn ct K R n 18 ls st σ k)) ∧
  xe_X12_isEngineIn ct K R (n + 1) 18 ls st σ k = (xk_X12_isEngineIn ct K R n 19 ls (vi (1) :: st) σ k) ∧
  xe_X12_isEngineIn ct K R (n + 1) 19 ls st σ k = (xk_X12_isEngineIn ct K R n 23 ls st σ k) ∧
  xe_X12_isEngineIn ct K R (n + 1) 22 ls st σ k = (xk_X12_isEngineIn ct K R n 23 ls (vi (0) :: st) σ k) ∧
  xe_X12_isEngineIn ct K R (n + 1) 23 ls st σ k = (oI st fun x st => st = [] ∧ (x = 0 ∨ x = 1) ∧ R (some (vi x)) σ) :=
  ⟨exS_step.trans rfl, exS_step.trans rfl, exS_step.trans rfl, exS_step.trans rfl, exS_step.trans rfl, exS_step.trans rfl, exS_step.trans rfl, exS_step.trans rfl, exS_step.trans rfl, exS_step.trans rfl, exS_step.trans rfl, exS_step.trans rfl, exS_step.trans rfl, exS_step.trans rfl⟩
def M_X12_isEngineIn : Md := (yX12_isEngineIn, cX12_isEngineIn, 2, (some FieldType.boolean), 1, 0, 0, 2, false, tb_X12_isEngineIn, mt_X12_isEngineIn)
theorem mm_X12_isEngineIn : MMOK M_X12_isEngineIn := ⟨by decide +kernel, tk_X12_isEngineIn, mk_X12_isEngineIn, rfl, fun h => by cases h⟩
theorem go_X12_isEngineIn {Q : Option AV → Hp → Prop} {ct : Nat → Bool} {pc : Nat} {ls : List (Option AV)} {st : List AV} {σ : Hp} {k : Nat × Nat} (n : Nat) (h : xe_X12_isEngineIn ct (Go M_X12_isEngineIn Q) Q n pc ls st σ k) : Go M_X12_isEngineIn Q pc ls st σ k := Go.exS mm_X12_isEngineIn h

set_option maxRecDepth 20000 in
theorem c_X12_isEngineIn : Ct yX12_isEngineIn cX12_isEngineIn 2 ((some FieldType.boolean)) 1 0 0 sp_X12_isEngineIn := by
  refine Ct.go (M := M_X12_isEngineIn) mm_X12_isEngineIn fun av σ Q h0 => ?_
  obtain ⟨this, c, rfl, hk, h⟩ := el_X12_isEngineIn h0
  clear h0
  refine ⟨Nat.le_of_ble_eq_true rfl, ?_⟩
  show Go M_X12_isEngineIn Q 0 [some (vr this), some (vi c)] [] σ (0, 0)
  obtain ⟨rfl, hI, hc, h⟩ := h
  have h1 := hI.companyKind_ c
  have h2 := hI.isAt_ c
  refine go_X12_isEngineIn (ct := fun p => false) 30 ?_
  simp only [oI, oL, oR, o1, lI, lL, lR, popN, catS, gv, stL, stL2, swt, cnd, spObj, List.getElem?_cons_zero, List.getElem?_cons_succ, List.getD_cons_zero, List.getD_cons_succ, List.set_cons_zero, List.set_cons_succ, List.nil_append, List.cons_append, Option.toList, Bool.or_false, Bool.false_or, Bool.or_true, Bool.true_or, Nat.reduceBEq, Nat.reduceAdd, Nat.reduceLT, Nat.reduceLeDiff, Int.reduceAdd, Int.reduceToNat, true_and, and_true, Fin.isValue, Fin.val_zero, Fin.val_one, Fin.val_two, Fin.reduceFinMk, eq_self, Int.reduceNeg, imp_self, Nat.reduceMul, Nat.le_refl, not_true_eq_false, not_false_eq_true, List.getElem?_nil, reduceCtorEq, true_or, or_true, Classical.not_not, implies_true, or_self, wI_0, wI_1, wI_m1, b2i_w, b2i_eq0, b2i_eq1, b2i_bool, nor_self, nx_pI, kd_pI, ln_pI, fI_pI, fL_pI, fR_pI, aI_pI, aL_pI, aR_pI, nx_pL, kd_pL, ln_pL, fI_pL, fL_pL, fR_pL, aI_pL, aL_pL, aR_pL, nx_pR, kd_pR, ln_pR, fI_pR, fL_pR, fR_pR, aI_pR, aL_pR, aR_pR, nx_qI, kd_qI, ln_qI, fI_qI, fL_qI, fR_qI, aI_qI, aL_qI, aR_qI, nx_qL, kd_qL, ln_qL, fI_qL, fL_qL, fR_qL, aI_qL, aL_qL, aR_qL, nx_qR, kd_qR, ln_qR, fI_qR, fL_qR, fR_qR, aI_qR, aL_qR, aR_qR, nx_mk, kd_mk, ln_mk, fI_mk, fL_mk, fR_mk, aI_mk, aL_mk, aR_mk, false_and, and_false, if_false, if_true, and_self, Int.reduceEq, Nat.reduceEqDiff, ite_self, MLay_pI, MLay_pL, MLay_qI, MLay_qL, ev_X12_isEngineIn, xt_X12_isEngineIn, xf_X12_isEngineIn, hk, hI.lay.eqs]
  try simp (disch := omega) only [wI_id, dv_nn, rm_nn]
  repeat' (first | intro z | apply And.intro)
  all_goals try omega
  · rw [b2i_f (p := mEng σ c) (by unfold mEng; omega)] at h; exact h
  · rw [b2i_f (p := mEng σ c) (by unfold mEng; omega)] at h; exact h
  · rw [b2i_t (p := mEng σ c) (by unfold mEng; omega)] at h; exact h

def sp_X12_isWithout : Sp := fun av σ Q => oR av fun this av => oI av fun u av => av = [] ∧ kd σ this = 13 ∧ (this = 61 ∧ MI σ ∧ inR u ∧ Q (some (vi (b2i (mWo0 σ u)))) σ)
theorem us_X12_isWithout (this : Int) (u : Int) (σ : Hp) (Q : Option AV → Hp → Prop) : sp_X12_isWithout [vr this, vi u] σ Q = (kd σ this = 13 ∧ (this = 61 ∧ MI σ ∧ inR u ∧ Q (some (vi (b2i (mWo0 σ u)))) σ)) := propext ⟨fun h => h.2, fun h => ⟨rfl, h⟩⟩
theorem el_X12_isWithout {av : List AV} {σ : Hp} {Q : Option AV → Hp → Prop} (h : sp_X12_isWithout av σ Q) : ∃ (this : Int) (u : Int), av = [vr this, vi u] ∧ (kd σ this = 13 ∧ (this = 61 ∧ MI σ ∧ inR u ∧ Q (some (vi (b2i (mWo0 σ u)))) σ)) := by
  obtain ⟨this, a0, rfl, h0⟩ := oR_s h
  obtain ⟨u, a1, rfl, h1⟩ := oI_s h0
  obtain ⟨rfl, hz⟩ := h1
  exact ⟨this, u, rfl, hz⟩
theorem rc_X12_isWithout : ∀ (av : List AV) (σ : Hp) (Q : Option AV → Hp → Prop), sp_X12_isWithout av σ Q → ∃ r tl, av = vr r :: tl ∧ kd σ r = 12 + 1 := fun av σ Q h => by
  obtain ⟨this, u, rfl, hz, -⟩ := el_X12_isWithout h
  exact ⟨this, _, rfl, hz⟩

def tb_X12_isWithout : Tab := [(0, .iconst 0, 1, (0, 0, 0, 0)), (1, .istore_n 2, 1, (0, 0, 0, 0)), (2, .iload_n 2, 1, (0, 0, 0, 0)), (3, .aload_n 0, 1, (0, 0, 0, 0)), (4, .getfield 293, 3, (13, 1335, 0, 0)), (7, .if_icmp .ge 29, 3, (0, 0, 0, 0)), (10, .aload_n 0, 1, (0, 0, 0, 0)), (11, .iload_n 2, 1, (0, 0, 0, 0)), (12, .invokevirtual 457, 3, (0, 0, 0, 0)), (15, .ifCond .eq 15, 3, (0, 0, 0, 0)), (18, .aload_n 0, 1, (0, 0, 0, 0)), (19, .getfield 93, 3, (13, 1338, 2, 0)), (22, .iload_n 2, 1, (0, 0, 0, 0)), (23, .iaload, 1, (0, 0, 0, 0)), (24, .iload_n 1, 1, (0, 0, 0, 0)), (25, .if_icmp .ne 5, 3, (0, 0, 0, 0)), (28, .iconst 0, 1, (0, 0, 0, 0)), (29, .ireturn, 1, (0, 0, 0, 0)), (30, .iinc 2 1, 3, (0, 0, 0, 0)), (33, .goto (-31), 3, (0, 0, 0, 0)), (36, .iconst 1, 1, (0, 0, 0, 0)), (37, .ireturn, 1, (0, 0, 0, 0))]
set_option maxRecDepth 100000 in
theorem tk_X12_isWithout : TOK RX12 false cX12_isWithout tb_X12_isWithout := chkT_ok ft_X12 (by decide +kernel)
theorem rw_X12_3656 : Row RX12 (.invokevirtual 457) 3 2 0 0 1 sp_X12_isEngineIn := row_V (n := 1) (ci := 12) c_X12_isEngineIn ⟨TBL_in 2055 (by decide +kernel) rfl, TBL_in 2058 (by decide +kernel) rfl, TBL_in 123 (by decide +kernel) rfl, by decide +kernel, by decide⟩ (by decide) rfl (TBL_in 2057 (by decide +kernel) rfl) (TBL_in 106 (by decide +kernel) rfl) rc_X12_isEngineIn
def mt_X12_isWithout : List (Nat × Mt) := [(3656, 2, 0, 0, 1, sp_X12_isEngineIn)]
theorem em_X12_isWithout : mt_X12_isWithout.lookup 3656 = some (2, 0, 0, 1, sp_X12_isEngineIn) := rfl
theorem mk_X12_isWithout : MOK RX12 mt_X12_isWithout := by
  intro q hq
  simp only [mt_X12_isWithout, List.mem_cons, List.not_mem_nil, or_false] at hq
  rcases hq with rfl
  · exact rw_X12_3656
noncomputable def xe_X12_isWithout (ct : Nat → Bool) (K : Kt) (R : Option AV → Hp → Prop) (n : Nat) : Kt := exS 3 2 0 0 2 tb_X12_isWithout mt_X12_isWithout ct K R n
noncomputable def xk_X12_isWithout (ct : Nat → Bool) (K : Kt) (R : Option AV → Hp → Prop) (n : Nat) : Kt := exkS 3 2 0 0 2 tb_X12_isWithout mt_X12_isWithout ct K R n
theorem xt_X12_isWithout {ct : Nat → Bool} {K : Kt} {R : Option AV → Hp → Prop} {n pc : Nat} {ls : List (Option AV)} {st : List AV} {σ : Hp} {k : Nat × Nat} (h : ct pc = true) : xk_X12_isWithout ct K R n pc ls st σ k = K pc ls st σ k := by unfold xk_X12_isWithout exkS; rw [h]
theorem xf_X12_isWithout {ct : Nat → Bool} {K : Kt} {R : Option AV → Hp → Prop} {n pc : Nat} {ls : List (Option AV)} {st : List AV} {σ : Hp} {k : Nat × Nat} (h : ct pc = false) : xk_X12_isWithout ct K R n pc ls st σ k = xe_X12_isWithout ct K R n pc ls st σ k := by unfold xk_X12_isWithout exkS xe_X12_isWithout; rw [h]
theorem ev_X12_isWithout {ct : Nat → Bool} {K : Kt} {R : Option AV → Hp → Prop} {n : Nat} {ls : List (Option AV)} {st : List AV} {σ : Hp} {k : Nat × Nat} :
  xe_X12_isWithout ct K R (n + 1) 0 ls st σ k = (xk_X12_isWithout ct K R n 1 ls (vi (0) :: st) σ k) ∧
  xe_X12_isWithout ct K R (n + 1) 1 ls st σ k = (oI st fun x st => 2 < 3 ∧ xk_X12_isWithout ct K R n 2 (stL ls 2 (vi x)) st σ k) ∧
  xe_X12_isWithout ct K R (n + 1) 2 ls st σ k = (lI ls 2 fun x => xk_X12_isWithout ct K R n 3 ls (vi x :: st) σ k) ∧
  xe_X12_isWithout ct K R (n + 1) 3 ls st σ k = (lR ls 0 fun x => xk_X12_isWithout ct K R n 4 ls (vr x :: st) σ k) ∧
  xe_X12_isWithout ct K R (n + 1) 4 ls st σ k = (oR st fun x st => kd σ x = 13 ∧ xk_X12_isWithout ct K R n 7 ls (vi (fI σ 1335 x) :: st) σ k) ∧
  xe_X12_isWithout ct K R (n + 1) 7 ls st σ k = (oI st fun y st => oI st fun x st => (wI y ≤ wI x → xk_X12_isWithout ct K R n 36 ls st σ k) ∧ (¬ (wI y ≤ wI x) → xk_X12_isWithout ct K R n 10 ls st σ k)) ∧
  xe_X12_isWithout ct K R (n + 1) 10 ls st σ k = (lR ls 0 fun x => xk_X12_isWithout ct K R n 11 ls (vr x :: st) σ k) ∧
  xe_X12_isWithout ct K R (n + 1) 11 ls st σ k = (lI ls 2 fun x => xk_X12_isWithout ct K R n 12 ls (vi x :: st) σ k) ∧
  xe_X12_isWithout ct K R (n + 1) 12 ls st σ k = (popN 2 st [] fun av rest => (catS rest ≤ 8 ∧ 1 < 2 ∧ k.1 + 0 ≤ 0 ∧ k.2 + 0 ≤ 0) ∧ (sp_X12_isEngineIn) av σ fun v σ' => xk_X12_isWithout ct K R n 15 ls (v.toList ++ rest) σ' (k.1 + 0, k.2 + 0)) ∧
  xe_X12_isWithout ct K R (n + 1) 15 ls st σ k = (oI st fun x st => (wI x = wI 0 → xk_X12_isWithout ct K R n 30 ls st σ k) ∧ (¬ (wI x = wI 0) → xk_X12_isWithout ct K R n 18 ls st σ k)) ∧
  xe_X12_isWithout ct K R (n + 1) 18 ls st σ k = (lR ls 0 fun x => xk_X12_isWithout ct K R n 19 ls (vr x :: st) σ k) ∧
  xe_X12_isWithout ct K R (n + 1) 19 ls st σ k = (oR st fun x st => kd σ x = 13 ∧ xk_X12_isWithout ct K R n 22 ls (vr (fR σ 1338 x) :: st) σ k) ∧
  xe_X12_isWithout ct K R (n + 1) 22 ls st σ k = (lI ls 2 fun x => xk_X12_isWithout ct K R n 23 ls (vi x :: st) σ k) ∧
  xe_X12_isWithout ct K R (n + 1) 23 ls st σ k = (oI st fun j st => oR st fun x st => (kd σ x = 101 ∨ kd σ x = 108) ∧ (0 ≤ j ∧ j < ln σ x) ∧ xk_X12_isWithout ct K R n 24 ls (vi (aI σ x j) :: st) σ k) ∧
  xe_X12_isWithout ct K R (n + 1) 24 ls st σ k = (lI ls 1 fun x => xk_X12_isWithout ct K R n 25 ls (vi x :: st) σ k) ∧
  xe_X12_isWithout ct K R (n + 1) 25 ls st σ k = (oI st fun y st => oI st fun x st => (¬ wI x = wI y → xk_X12_isWithout ct K R n 30 ls st σ k) ∧ (¬ (¬ wI x = wI y) → xk_X12_isWithout ct K R n 28 ls st σ k)) ∧
  xe_X12_isWithout ct K R (n + 1) 28 ls st σ k = (xk_X12_isWithout ct K R n 29 ls (vi (0) :: st) σ k) ∧
  xe_X12_isWithout ct K R (n + 1) 29 ls st σ k = (oI st fun x st => st = [] ∧ (x = 0 ∨ x = 1) ∧ R (some (vi x)) σ) ∧
  xe_X12_isWithout ct K R (n + 1) 30 ls st σ k = (lI ls 2 fun x => 2 < 3 ∧ xk_X12_isWithout ct K R n 33 (stL ls 2 (vi (x + (1)))) st σ k) ∧
  xe_X12_isWithout ct K R (n + 1) 33 ls st σ k = (xk_X12_isWithout ct K R n 2 ls st σ k) ∧
  xe_X12_isWithout ct K R (n + 1) 36 ls st σ k = (xk_X12_isWithout ct K R n 37 ls (vi (1) :: st) σ k) ∧
  xe_X12_isWithout ct K R (n + 1) 37 ls st σ k = (oI st fun x st => st = [] ∧ (x = 0 ∨ x = 1) ∧ R (some (vi x)) σ) :=
  ⟨exS_step.trans rfl, exS_step.trans rfl, exS_step.trans rfl, exS_step.trans rfl, exS_step.trans rfl, exS_step.trans rfl, exS_step.trans rfl, exS_step.trans rfl, exS_step.trans rfl, exS_step.trans rfl, exS_step.trans rfl, exS_step.trans rfl, exS_step.trans rfl, exS_step.trans rfl, exS_step.trans rfl, exS_step.trans rfl, exS_step.trans rfl, exS_step.trans rfl, exS_step.trans rfl, exS_step.trans rfl, exS_step.trans rfl, exS_step.trans rfl⟩
def M_X12_isWithout : Md := (yX12_isWithout, cX12_isWithout, 3, (some FieldType.boolean), 2, 0, 0, 2, false, tb_X12_isWithout, mt_X12_isWithout)
theorem mm_X12_isWithout : MMOK M_X12_isWithout := ⟨by decide +kernel, tk_X12_isWithout, mk_X12_isWithout, rfl, fun h => by cases h⟩
theorem go_X12_isWithout {Q : Option AV → Hp → Prop} {ct : Nat → Bool} {pc : Nat} {ls : List (Option AV)} {st : List AV} {σ : Hp} {k : Nat × Nat} (n : Nat) (h : xe_X12_isWithout ct (Go M_X12_isWithout Q) Q n pc ls st σ k) : Go M_X12_isWithout Q pc ls st σ k := Go.exS mm_X12_isWithout h

set_option maxRecDepth 20000 in
theorem c_X12_isWithout : Ct yX12_isWithout cX12_isWithout 3 ((some FieldType.boolean)) 2 0 0 sp_X12_isWithout := by
  refine Ct.go (M := M_X12_isWithout) mm_X12_isWithout fun av σ Q h0 => ?_
  obtain ⟨this, u, rfl, hk, h⟩ := el_X12_isWithout h0
  clear h0
  refine ⟨Nat.le_of_ble_eq_true rfl, ?_⟩
  show Go M_X12_isWithout Q 0 [some (vr this), some (vi u), none] [] σ (0, 0)
  obtain ⟨rfl, hI, hr, h⟩ := h
  unfold inR at hr
  have h1 := hI.companies_s
  have loop : ∀ (n : Nat) (k : Int), 0 ≤ k → k + n = fI σ 1335 61 → (∀ j, 0 ≤ j → j < k → ¬ (mEng σ j ∧ aI σ 89 j = u)) → Go M_X12_isWithout Q 2 [some (vr 61), some (vi u), some (vi k)] [] σ (0, 0) := by
    intro n
    induction n with
    | zero =>
      intro k h2 h3 hno
      refine go_X12_isWithout (ct := fun p => p == 2) 40 ?_
      simp only [oI, oL, oR, o1, lI, lL, lR, popN, catS, gv, stL, stL2, swt, cnd, spObj, List.getElem?_cons_zero, List.getElem?_cons_succ, List.getD_cons_zero, List.getD_cons_succ, List.set_cons_zero, List.set_cons_succ, List.nil_append, List.cons_append, Option.toList, Bool.or_false, Bool.false_or, Bool.or_true, Bool.true_or, Nat.reduceBEq, Nat.reduceAdd, Nat.reduceLT, Nat.reduceLeDiff, Int.reduceAdd, Int.reduceToNat, true_and, and_true, Fin.isValue, Fin.val_zero, Fin.val_one, Fin.val_two, Fin.reduceFinMk, eq_self, Int.reduceNeg, imp_self, Nat.reduceMul, Nat.le_refl, not_true_eq_false, not_false_eq_true, List.getElem?_nil, reduceCtorEq, true_or, or_true, Classical.not_not, implies_true, or_self, wI_0, wI_1, wI_m1, b2i_w, b2i_eq0, b2i_eq1, b2i_bool, nor_self, nx_pI, kd_pI, ln_pI, fI_pI, fL_pI, fR_pI, aI_pI, aL_pI, aR_pI, nx_pL, kd_pL, ln_pL, fI_pL, fL_pL, fR_pL, aI_pL, aL_pL, aR_pL, nx_pR, kd_pR, ln_pR, fI_pR, fL_pR, fR_pR, aI_pR, aL_pR, aR_pR, nx_qI, kd_qI, ln_qI, fI_qI, fL_qI, fR_qI, aI_qI, aL_qI, aR_qI, nx_qL, kd_qL, ln_qL, fI_qL, fL_qL, fR_qL, aI_qL, aL_qL, aR_qL, nx_qR, kd_qR, ln_qR, fI_qR, fL_qR, fR_qR, aI_qR, aL_qR, aR_qR, nx_mk, kd_mk, ln_mk, fI_mk, fL_mk, fR_mk, aI_mk, aL_mk, aR_mk, false_and, and_false, if_false, if_true, and_self, Int.reduceEq, Nat.reduceEqDiff, ite_self, MLay_pI, MLay_pL, MLay_qI, MLay_qL, ev_X12_isWithout, xt_X12_isWithout, xf_X12_isWithout, us_X12_isEngineIn, hk, hI.lay.eqs]
      try simp (disch := omega) only [wI_id, dv_nn, rm_nn]
      refine ⟨fun _ => ?_, fun z => absurd (by omega) z⟩
      rw [b2i_t (p := mWo0 σ u) (by rintro ⟨j, a, b, c⟩; exact hno j a (by omega) c)] at h; exact h
    | succ n ih =>
      intro k h2 h3 hno
      have h4 := hI.isAt_ k
      have ih := fun (z : ¬ (mEng σ k ∧ aI σ 89 k = u)) => ih (k + 1) (by omega) (by omega) fun j a b => by
        by_cases e : j = k
        · subst e; exact z
        · exact hno j a (by omega)
      refine go_X12_isWithout (ct := fun p => p == 2) 40 ?_
      simp only [oI, oL, oR, o1, lI, lL, lR, popN, catS, gv, stL, stL2, swt, cnd, spObj, List.getElem?_cons_zero, List.getElem?_cons_succ, List.getD_cons_zero, List.getD_cons_succ, List.set_cons_zero, List.set_cons_succ, List.nil_append, List.cons_append, Option.toList, Bool.or_false, Bool.false_or, Bool.or_true, Bool.true_or, Nat.reduceBEq, Nat.reduceAdd, Nat.reduceLT, Nat.reduceLeDiff, Int.reduceAdd, Int.reduceToNat, true_and, and_true, Fin.isValue, Fin.val_zero, Fin.val_one, Fin.val_two, Fin.reduceFinMk, eq_self, Int.reduceNeg, imp_self, Nat.reduceMul, Nat.le_refl, not_true_eq_false, not_false_eq_true, List.getElem?_nil, reduceCtorEq, true_or, or_true, Classical.not_not, implies_true, or_self, wI_0, wI_1, wI_m1, b2i_w, b2i_eq0, b2i_eq1, b2i_bool, nor_self, nx_pI, kd_pI, ln_pI, fI_pI, fL_pI, fR_pI, aI_pI, aL_pI, aR_pI, nx_pL, kd_pL, ln_pL, fI_pL, fL_pL, fR_pL, aI_pL, aL_pL, aR_pL, nx_pR, kd_pR, ln_pR, fI_pR, fL_pR, fR_pR, aI_pR, aL_pR, aR_pR, nx_qI, kd_qI, ln_qI, fI_qI, fL_qI, fR_qI, aI_qI, aL_qI, aR_qI, nx_qL, kd_qL, ln_qL, fI_qL, fL_qL, fR_qL, aI_qL, aL_qL, aR_qL, nx_qR, kd_qR, ln_qR, fI_qR, fL_qR, fR_qR, aI_qR, aL_qR, aR_qR, nx_mk, kd_mk, ln_mk, fI_mk, fL_mk, fR_mk, aI_mk, aL_mk, aR_mk, false_and, and_false, if_false, if_true, and_self, Int.reduceEq, Nat.reduceEqDiff, ite_self, MLay_pI, MLay_pL, MLay_qI, MLay_qL, ev_X12_isWithout, xt_X12_isWithout, xf_X12_isWithout, us_X12_isEngineIn, hk, hI.lay.eqs, hI]
      try simp (disch := omega) only [wI_id, dv_nn, rm_nn]
      repeat' (first | intro z | apply And.intro)
      all_goals try omega
      all_goals first
        | exact ih ‹_›
        | exact ih (fun q => q ‹mNear σ k›)
        | (refine ih fun q => ?_; first | omega | exact absurd q ‹_› | exact absurd q.1 ‹_› | exact absurd q.2 ‹_› | exact q.2 ‹_›)
        | (rw [b2i_f (p := mWo0 σ u) (fun q => q ⟨k, h2, by omega, by assumption, by omega⟩)] at h; exact h)
  refine go_X12_isWithout (ct := fun p => p == 2) 40 ?_
  simp only [oI, oL, oR, o1, lI, lL, lR, popN, catS, gv, stL, stL2, swt, cnd, spObj, List.getElem?_cons_zero, List.getElem?_cons_succ, List.getD_cons_zero, List.getD_cons_succ, List.set_cons_zero, List.set_cons_succ, List.nil_append, List.cons_append, Option.toList, Bool.or_false, Bool.false_or, Bool.or_true, Bool.true_or, Nat.reduceBEq, Nat.reduceAdd, Nat.reduceLT, Nat.reduceLeDiff, Int.reduceAdd, Int.reduceToNat, true_and, and_true, Fin.isValue, Fin.val_zero, Fin.val_one, Fin.val_two, Fin.reduceFinMk, eq_self, Int.reduceNeg, imp_self, Nat.reduceMul, Nat.le_refl, not_true_eq_false, not_false_eq_true, List.getElem?_nil, reduceCtorEq, true_or, or_true, Classical.not_not, implies_true, or_self, wI_0, wI_1, wI_m1, b2i_w, b2i_eq0, b2i_eq1, b2i_bool, nor_self, nx_pI, kd_pI, ln_pI, fI_pI, fL_pI, fR_pI, aI_pI, aL_pI, aR_pI, nx_pL, kd_pL, ln_pL, fI_pL, fL_pL, fR_pL, aI_pL, aL_pL, aR_pL, nx_pR, kd_pR, ln_pR, fI_pR, fL_pR, fR_pR, aI_pR, aL_pR, aR_pR, nx_qI, kd_qI, ln_qI, fI_qI, fL_qI, fR_qI, aI_qI, aL_qI, aR_qI, nx_qL, kd_qL, ln_qL, fI_qL, fL_qL, fR_qL, aI_qL, aL_qL, aR_qL, nx_qR, kd_qR, ln_qR, fI_qR, fL_qR, fR_qR, aI_qR, aL_qR, aR_qR, nx_mk, kd_mk, ln_mk, fI_mk, fL_mk, fR_mk, aI_mk, aL_mk, aR_mk, false_and, and_false, if_false, if_true, and_self, Int.reduceEq, Nat.reduceEqDiff, ite_self, MLay_pI, MLay_pL, MLay_qI, MLay_qL, ev_X12_isWithout, xt_X12_isWithout, xf_X12_isWithout, us_X12_isEngineIn]
  exact loop (fI σ 1335 61).toNat 0 (by omega) (by omega) (fun j a b => by omega)

def sp_X12_covered : Sp := fun av σ Q => oR av fun this av => oI av fun w av => av = [] ∧ kd σ this = 13 ∧ (this = 61 ∧ MI σ ∧ inR w ∧ (((0 ≤ w ∧ w ≤ 7) ∧ mHas σ w) → Q (some (vi (b2i (mCov (pI (pI σ 1384 61 (-1)) 1386 61 (-1)) w)))) (pI (pI (pI σ 1300 61 0) 1384 61 (-1)) 1386 61 (-1))) ∧ (¬ ((0 ≤ w ∧ w ≤ 7) ∧ mHas σ w) → Q (some (vi (-1))) (pI σ 1300 61 0)))
theorem us_X12_covered (this : Int) (w : Int) (σ : Hp) (Q : Option AV → Hp → Prop) : sp_X12_covered [vr this, vi w] σ Q = (kd σ this = 13 ∧ (this = 61 ∧ MI σ ∧ inR w ∧ (((0 ≤ w ∧ w ≤ 7) ∧ mHas σ w) → Q (some (vi (b2i (mCov (pI (pI σ 1384 61 (-1)) 1386 61 (-1)) w)))) (pI (pI (pI σ 1300 61 0) 1384 61 (-1)) 1386 61 (-1))) ∧ (¬ ((0 ≤ w ∧ w ≤ 7) ∧ mHas σ w) → Q (some (vi (-1))) (pI σ 1300 61 0)))) := propext ⟨fun h => h.2, fun h => ⟨rfl, h⟩⟩
theorem el_X12_covered {av : List AV} {σ : Hp} {Q : Option AV → Hp → Prop} (h : sp_X12_covered av σ Q) : ∃ (this : Int) (w : Int), av = [vr this, vi w] ∧ (kd σ this = 13 ∧ (this = 61 ∧ MI σ ∧ inR w ∧ (((0 ≤ w ∧ w ≤ 7) ∧ mHas σ w) → Q (some (vi (b2i (mCov (pI (pI σ 1384 61 (-1)) 1386 61 (-1)) w)))) (pI (pI (pI σ 1300 61 0) 1384 61 (-1)) 1386 61 (-1))) ∧ (¬ ((0 ≤ w ∧ w ≤ 7) ∧ mHas σ w) → Q (some (vi (-1))) (pI σ 1300 61 0)))) := by
  obtain ⟨this, a0, rfl, h0⟩ := oR_s h
  obtain ⟨w, a1, rfl, h1⟩ := oI_s h0
  obtain ⟨rfl, hz⟩ := h1
  exact ⟨this, w, rfl, hz⟩
theorem rc_X12_covered : ∀ (av : List AV) (σ : Hp) (Q : Option AV → Hp → Prop), sp_X12_covered av σ Q → ∃ r tl, av = vr r :: tl ∧ kd σ r = 12 + 1 := fun av σ Q h => by
  obtain ⟨this, w, rfl, hz, -⟩ := el_X12_covered h
  exact ⟨this, _, rfl, hz⟩

def tb_X12_covered : Tab := [(0, .aload_n 0, 1, (0, 0, 0, 0)), (1, .iconst 0, 1, (0, 0, 0, 0)), (2, .putfield 196, 3, (13, 1300, 0, 0)), (5, .iload_n 1, 1, (0, 0, 0, 0)), (6, .iconst 0, 1, (0, 0, 0, 0)), (7, .bipush 7, 2, (0, 0, 0, 0)), (9, .invokestatic 202, 3, (0, 0, 0, 0)), (12, .ifCond .eq 11, 3, (0, 0, 0, 0)), (15, .aload_n 0, 1, (0, 0, 0, 0)), (16, .iload_n 1, 1, (0, 0, 0, 0)), (17, .invokevirtual 451, 3, (0, 0, 0, 0)), (20, .ifCond .ne 5, 3, (0, 0, 0, 0)), (23, .iconst (-1), 1, (0, 0, 0, 0)), (24, .ireturn, 1, (0, 0, 0, 0)), (25, .aload_n 0, 1, (0, 0, 0, 0)), (26, .iconst (-1), 1, (0, 0, 0, 0)), (27, .putfield 433, 3, (13, 1384, 0, 0)), (30, .aload_n 0, 1, (0, 0, 0, 0)), (31, .iconst (-1), 1, (0, 0, 0, 0)), (32, .putfield 439, 3, (13, 1386, 0, 0)), (35, .aload_n 0, 1, (0, 0, 0, 0)), (36, .iload_n 1, 1, (0, 0, 0, 0)), (37, .invokevirtual 454, 3, (0, 0, 0, 0)), (40, .ifCond .eq 7, 3, (0, 0, 0, 0)), (43, .iconst 1, 1, (0, 0, 0, 0)), (44, .goto 4, 3, (0, 0, 0, 0)), (47, .iconst 0, 1, (0, 0, 0, 0)), (48, .ireturn, 1, (0, 0, 0, 0))]
set_option maxRecDepth 100000 in
theorem tk_X12_covered : TOK RX12 false cX12_covered tb_X12_covered := chkT_ok ft_X12 (by decide +kernel)
theorem rw_X12_3608 : Row RX12 (.invokevirtual 451) 3 2 0 0 1 sp_X12_hasBoxes := row_V (n := 1) (ci := 12) c_X12_hasBoxes ⟨TBL_in 2027 (by decide +kernel) rfl, TBL_in 2030 (by decide +kernel) rfl, TBL_in 123 (by decide +kernel) rfl, by decide +kernel, by decide⟩ (by decide) rfl (TBL_in 2029 (by decide +kernel) rfl) (TBL_in 100 (by decide +kernel) rfl) rc_X12_hasBoxes
theorem rw_X12_3632 : Row RX12 (.invokevirtual 454) 3 2 0 0 4 sp_X12_isCovered := row_V (n := 1) (ci := 12) c_X12_isCovered ⟨TBL_in 2031 (by decide +kernel) rfl, TBL_in 2034 (by decide +kernel) rfl, TBL_in 123 (by decide +kernel) rfl, by decide +kernel, by decide⟩ (by decide) rfl (TBL_in 2033 (by decide +kernel) rfl) (TBL_in 101 (by decide +kernel) rfl) rc_X12_isCovered
def mt_X12_covered : List (Nat × Mt) := [(1617, 3, 0, 0, 1, sp_X12_within), (3608, 2, 0, 0, 1, sp_X12_hasBoxes), (3632, 2, 0, 0, 4, sp_X12_isCovered)]
theorem em_X12_covered : mt_X12_covered.lookup 1617 = some (3, 0, 0, 1, sp_X12_within) ∧ mt_X12_covered.lookup 3608 = some (2, 0, 0, 1, sp_X12_hasBoxes) ∧ mt_X12_covered.lookup 3632 = some (2, 0, 0, 4, sp_X12_isCovered) := ⟨rfl, rfl, rfl⟩
theorem mk_X12_covered : MOK RX12 mt_X12_covered := by
  intro q hq
  simp only [mt_X12_covered, List.mem_cons, List.not_mem_nil, or_false] at hq
  rcases hq with rfl | rfl | rfl
  · exact rw_X12_1617
  · exact rw_X12_3608
  · exact rw_X12_3632
noncomputable def xe_X12_covered (ct : Nat → Bool) (K : Kt) (R : Option AV → Hp → Prop) (n : Nat) : Kt := exS 2 5 0 0 1 tb_X12_covered mt_X12_covered ct K R n
noncomputable def xk_X12_covered (ct : Nat → Bool) (K : Kt) (R : Option AV → Hp → Prop) (n : Nat) : Kt := exkS 2 5 0 0 1 tb_X12_covered mt_X12_covered ct K R n
theorem xt_X12_covered {ct : Nat → Bool} {K : Kt} {R : Option AV → Hp → Prop} {n pc : Nat} {ls : List (Option AV)} {st : List AV} {σ : Hp} {k : Nat × Nat} (h : ct pc = true) : xk_X12_covered ct K R n pc ls st σ k = K pc ls st σ k := by unfold xk_X12_covered exkS; rw [h]
theorem xf_X12_covered {ct : Nat → Bool} {K : Kt} {R : Option AV → Hp → Prop} {n pc : Nat} {ls : List (Option AV)} {st : List AV} {σ : Hp} {k : Nat × Nat} (h : ct pc = false) : xk_X12_covered ct K R n pc ls st σ k = xe_X12_covered ct K R n pc ls st σ k := by unfold xk_X12_covered exkS xe_X12_covered; rw [h]
theorem ev_X12_covered {ct : Nat → Bool} {K : Kt} {R : Option AV → Hp → Prop} {n : Nat} {ls : List (Option AV)} {st : List AV} {σ : Hp} {k : Nat × Nat} :
  xe_X12_covered ct K R (n + 1) 0 ls st σ k = (lR ls 0 fun x => xk_X12_covered ct K R n 1 ls (vr x :: st) σ k) ∧
  xe_X12_covered ct K R (n + 1) 1 ls st σ k = (xk_X12_covered ct K R n 2 ls (vi (0) :: st) σ k) ∧
  xe_X12_covered ct K R (n + 1) 2 ls st σ k = (oI st fun v st => oR st fun x st => kd σ x = 13 ∧ xk_X12_covered ct K R n 5 ls st (pI σ 1300 x v) k) ∧
  xe_X12_covered ct K R (n + 1) 5 ls st σ k = (lI ls 1 fun x => xk_X12_covered ct K R n 6 ls (vi x :: st) σ k) ∧
  xe_X12_covered ct K R (n + 1) 6 ls st σ k = (xk_X12_covered ct K R n 7 ls (vi (0) :: st) σ k) ∧
  xe_X12_covered ct K R (n + 1) 7 ls st σ k = (xk_X12_covered ct K R n 9 ls (vi (7) :: st) σ k) ∧
  xe_X12_covered ct K R (n + 1) 9 ls st σ k = (popN 3 st [] fun av rest => (catS rest ≤ 8 ∧ 1 < 5 ∧ k.1 + 0 ≤ 0 ∧ k.2 + 0 ≤ 0) ∧ (sp_X12_within) av σ fun v σ' => xk_X12_covered ct K R n 12 ls (v.toList ++ rest) σ' (k.1 + 0, k.2 + 0)) ∧
  xe_X12_covered ct K R (n + 1) 12 ls st σ k = (oI st fun x st => (wI x = wI 0 → xk_X12_covered ct K R n 23 ls st σ k) ∧ (¬ (wI x = wI 0) → xk_X12_covered ct K R n 15 ls st σ k)) ∧
  xe_X12_covered ct K R (n + 1) 15 ls st σ k = (lR ls 0 fun x => xk_X12_covered ct K R n 16 ls (vr x :: st) σ k) ∧
  xe_X12_covered ct K R (n + 1) 16 ls st σ k = (lI ls 1 fun x => xk_X12_covered ct K R n 17 ls (vi x :: st) σ k) ∧
  xe_X12_covered ct K R (n + 1) 17 ls st σ k = (popN 2 st [] fun av rest => (catS rest ≤ 8 ∧ 1 < 5 ∧ k.1 + 0 ≤ 0 ∧ k.2 + 0 ≤ 0) ∧ (sp_X12_hasBoxes) av σ fun v σ' => xk_X12_covered ct K R n 20 ls (v.toList ++ rest) σ' (k.1 + 0, k.2 + 0)) ∧
  xe_X12_covered ct K R (n + 1) 20 ls st σ k = (oI st fun x st => (¬ wI x = wI 0 → xk_X12_covered ct K R n 25 ls st σ k) ∧ (¬ (¬ wI x = wI 0) → xk_X12_covered ct K R n 23 ls st σ k)) ∧
  xe_X12_covered ct K R (n + 1) 23 ls st σ k = (xk_X12_covered ct K R n 24 ls (vi (-1) :: st) σ k) ∧
  xe_X12_covered ct K R (n + 1) 24 ls st σ k = (oI st fun x st => st = [] ∧ True ∧ R (some (vi x)) σ) ∧
  xe_X12_covered ct K R (n + 1) 25 ls st σ k = (lR ls 0 fun x => xk_X12_covered ct K R n 26 ls (vr x :: st) σ k) ∧
  xe_X12_covered ct K R (n + 1) 26 ls st σ k = (xk_X12_covered ct K R n 27 ls (vi (-1) :: st) σ k) ∧
  xe_X12_covered ct K R (n + 1) 27 ls st σ k = (oI st fun v st => oR st fun x st => kd σ x = 13 ∧ xk_X12_covered ct K R n 30 ls st (pI σ 1384 x v) k) ∧
  xe_X12_covered ct K R (n + 1) 30 ls st σ k = (lR ls 0 fun x => xk_X12_covered ct K R n 31 ls (vr x :: st) σ k) ∧
  xe_X12_covered ct K R (n + 1) 31 ls st σ k = (xk_X12_covered ct K R n 32 ls (vi (-1) :: st) σ k) ∧
  xe_X12_covered ct K R (n + 1) 32 ls st σ k = (oI st fun v st => oR st fun x st => kd σ x = 13 ∧ xk_X12_covered ct K R n 35 ls st (pI σ 1386 x v) k) ∧
  xe_X12_covered ct K R (n + 1) 35 ls st σ k = (lR ls 0 fun x => xk_X12_covered ct K R n 36 ls (vr x :: st) σ k) ∧
  xe_X12_covered ct K R (n + 1) 36 ls st σ k = (lI ls 1 fun x => xk_X12_covered ct K R n 37 ls (vi x :: st) σ k) ∧
  xe_X12_covered ct K R (n + 1) 37 ls st σ k = (popN 2 st [] fun av rest => (catS rest ≤ 8 ∧ 4 < 5 ∧ k.1 + 0 ≤ 0 ∧ k.2 + 0 ≤ 0) ∧ (sp_X12_isCovered) av σ fun v σ' => xk_X12_covered ct K R n 40 ls (v.toList ++ rest) σ' (k.1 + 0, k.2 + 0)) ∧
  xe_X12_covered ct K R (n + 1) 40 ls st σ k = (oI st fun x st => (wI x = wI 0 → xk_X12_covered ct K R n 47 ls st σ k) ∧ (¬ (wI x = wI 0) → xk_X12_covered ct K R n 43 ls st σ k)) ∧
  xe_X12_covered ct K R (n + 1) 43 ls st σ k = (xk_X12_covered ct K R n 44 ls (vi (1) :: st) σ k) ∧
  xe_X12_covered ct K R (n + 1) 44 ls st σ k = (xk_X12_covered ct K R n 48 ls st σ k) ∧
  xe_X12_covered ct K R (n + 1) 47 ls st σ k = (xk_X12_covered ct K R n 48 ls (vi (0) :: st) σ k) ∧
  xe_X12_covered ct K R (n + 1) 48 ls st σ k = (oI st fun x st => st = [] ∧ True ∧ R (some (vi x)) σ) :=
  ⟨exS_step.trans rfl, exS_step.trans rfl, exS_step.trans rfl, exS_step.trans rfl, exS_step.trans rfl, exS_step.trans rfl, exS_step.trans rfl, exS_step.trans rfl, exS_step.trans rfl, exS_step.trans rfl, exS_step.trans rfl, exS_step.trans rfl, exS_step.trans rfl, exS_step.trans rfl, exS_step.trans rfl, exS_step.trans rfl, exS_step.trans rfl, exS_step.trans rfl, exS_step.trans rfl, exS_step.trans rfl, exS_step.trans rfl, exS_step.trans rfl, exS_step.trans rfl, exS_step.trans rfl, exS_step.trans rfl, exS_step.trans rfl, exS_step.trans rfl, exS_step.trans rfl⟩
def M_X12_covered : Md := (yX12_covered, cX12_covered, 2, (some FieldType.int), 5, 0, 0, 1, false, tb_X12_covered, mt_X12_covered)
theorem mm_X12_covered : MMOK M_X12_covered := ⟨by decide +kernel, tk_X12_covered, mk_X12_covered, rfl, fun h => by cases h⟩
theorem go_X12_covered {Q : Option AV → Hp → Prop} {ct : Nat → Bool} {pc : Nat} {ls : List (Option AV)} {st : List AV} {σ : Hp} {k : Nat × Nat} (n : Nat) (h : xe_X12_covered ct (Go M_X12_covered Q) Q n pc ls st σ k) : Go M_X12_covered Q pc ls st σ k := Go.exS mm_X12_covered h

set_option maxRecDepth 20000 in
theorem c_X12_covered : Ct yX12_covered cX12_covered 2 ((some FieldType.int)) 5 0 0 sp_X12_covered := by
  refine Ct.go (M := M_X12_covered) mm_X12_covered fun av σ Q h0 => ?_
  obtain ⟨this, w, rfl, hk, h⟩ := el_X12_covered h0
  clear h0
  refine ⟨Nat.le_of_ble_eq_true rfl, ?_⟩
  show Go M_X12_covered Q 0 [some (vr this), some (vi w)] [] σ (0, 0)
  obtain ⟨rfl, hI, hw, h1, h2⟩ := h
  have hI2 : MI (pI σ 1300 61 0) := MI_fre hI (by decide)
  have hI3 : MI (pI (pI (pI σ 1300 61 0) 1384 61 (-1)) 1386 61 (-1)) := MI_movedB_p (MI_movedA_p hI2 (by omega)) (by omega)
  have e1 : mHas (pI σ 1300 61 0) w = mHas σ w := rfl
  have e2 : mCov (pI (pI (pI σ 1300 61 0) 1384 61 (-1)) 1386 61 (-1)) w = mCov (pI (pI σ 1384 61 (-1)) 1386 61 (-1)) w := rfl
  have hr := hw
  unfold inR at hr
  refine go_X12_covered (ct := fun p => false) 60 ?_
  simp only [oI, oL, oR, o1, lI, lL, lR, popN, catS, gv, stL, stL2, swt, cnd, spObj, List.getElem?_cons_zero, List.getElem?_cons_succ, List.getD_cons_zero, List.getD_cons_succ, List.set_cons_zero, List.set_cons_succ, List.nil_append, List.cons_append, Option.toList, Bool.or_false, Bool.false_or, Bool.or_true, Bool.true_or, Nat.reduceBEq, Nat.reduceAdd, Nat.reduceLT, Nat.reduceLeDiff, Int.reduceAdd, Int.reduceToNat, true_and, and_true, Fin.isValue, Fin.val_zero, Fin.val_one, Fin.val_two, Fin.reduceFinMk, eq_self, Int.reduceNeg, imp_self, Nat.reduceMul, Nat.le_refl, not_true_eq_false, not_false_eq_true, List.getElem?_nil, reduceCtorEq, true_or, or_true, Classical.not_not, implies_true, or_self, wI_0, wI_1, wI_m1, b2i_w, b2i_eq0, b2i_eq1, b2i_bool, nor_self, nx_pI, kd_pI, ln_pI, fI_pI, fL_pI, fR_pI, aI_pI, aL_pI, aR_pI, nx_pL, kd_pL, ln_pL, fI_pL, fL_pL, fR_pL, aI_pL, aL_pL, aR_pL, nx_pR, kd_pR, ln_pR, fI_pR, fL_pR, fR_pR, aI_pR, aL_pR, aR_pR, nx_qI, kd_qI, ln_qI, fI_qI, fL_qI, fR_qI, aI_qI, aL_qI, aR_qI, nx_qL, kd_qL, ln_qL, fI_qL, fL_qL, fR_qL, aI_qL, aL_qL, aR_qL, nx_qR, kd_qR, ln_qR, fI_qR, fL_qR, fR_qR, aI_qR, aL_qR, aR_qR, nx_mk, kd_mk, ln_mk, fI_mk, fL_mk, fR_mk, aI_mk, aL_mk, aR_mk, false_and, and_false, if_false, if_true, and_self, Int.reduceEq, Nat.reduceEqDiff, ite_self, MLay_pI, MLay_pL, MLay_qI, MLay_qL, ev_X12_covered, xt_X12_covered, xf_X12_covered, us_X12_within, us_X12_hasBoxes, us_X12_isCovered, hk, hI2, hI3, hw, e1, e2]
  try simp (disch := omega) only [wI_id, dv_nn, rm_nn]
  repeat' (first | intro z | apply And.intro)
  all_goals try omega
  all_goals first
    | exact h2 (by omega)
    | exact h2 (fun q => absurd q.2 ‹_›)
    | (have h1 := h1 ⟨by omega, by assumption⟩; rw [b2i_t (by assumption)] at h1; exact h1)
    | (have h1 := h1 ⟨by omega, by assumption⟩; rw [b2i_f (by assumption)] at h1; exact h1)
