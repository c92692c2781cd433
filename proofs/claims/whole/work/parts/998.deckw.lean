/-! the card reader: the deck that is written; what is taken -/

def DkS (σ : Hp) (D : Int) (css : List (List Int)) : Prop := DkL σ D css ∧ fI σ 805 D = css.flatten.length
def cAdd (σ : Hp) (D x : Int) : Hp := qI (pI (qI σ (D + 4) (fI σ 805 D) x) 805 D (fI σ 805 D + 1)) (D + 3) (fI σ 807 D - 1) (fI σ 805 D + 1)
def cOpn (σ : Hp) (D n m : Int) : Hp := pI (qI (qI (qI σ (D + 1) (fI σ 807 D) n) (D + 2) (fI σ 807 D) m) (D + 3) (fI σ 807 D) (fI σ 805 D)) 807 D (fI σ 807 D + 1)
def cClr (σ : Hp) (D : Int) : Hp := pI (pI σ 807 D 0) 805 D 0

def sp_X7_clearLines : Sp := fun av σ Q => oR av fun this av => av = [] ∧ kd σ this = 8 ∧ (Q none (cClr σ this))
theorem us_X7_clearLines (this : Int) (σ : Hp) (Q : Option AV → Hp → Prop) : sp_X7_clearLines [vr this] σ Q = (kd σ this = 8 ∧ (Q none (cClr σ this))) := propext ⟨fun h => h.2, fun h => ⟨rfl, h⟩⟩
theorem el_X7_clearLines {av : List AV} {σ : Hp} {Q : Option AV → Hp → Prop} (h : sp_X7_clearLines av σ Q) : ∃ (this : Int), av = [vr this] ∧ (kd σ this = 8 ∧ (Q none (cClr σ this))) := by
  obtain ⟨this, a0, rfl, h0⟩ := oR_s h
  obtain ⟨rfl, hz⟩ := h0
  exact ⟨this, rfl, hz⟩
theorem rc_X7_clearLines : ∀ (av : List AV) (σ : Hp) (Q : Option AV → Hp → Prop), sp_X7_clearLines av σ Q → ∃ r tl, av = vr r :: tl ∧ kd σ r = 7 + 1 := fun av σ Q h => by
  obtain ⟨this, rfl, hz, -⟩ := el_X7_clearLines h
  exact ⟨this, _, rfl, hz⟩

def tb_X7_clearLines : Tab := [(0, .aload_n 0, 1, (0, 0, 0, 0)), (1, .iconst 0, 1, (0, 0, 0, 0)), (2, .putfield 34, 3, (8, 807, 0, 0)), (5, .aload_n 0, 1, (0, 0, 0, 0)), (6, .iconst 0, 1, (0, 0, 0, 0)), (7, .putfield 27, 3, (8, 805, 0, 0)), (10, .return_, 1, (0, 0, 0, 0))]
set_option maxRecDepth 100000 in
theorem tk_X7_clearLines : TOK RX7 false cX7_clearLines tb_X7_clearLines := chkT_ok ft_X7 (by decide +kernel)
def mt_X7_clearLines : List (Nat × Mt) := []
theorem mk_X7_clearLines : MOK RX7 mt_X7_clearLines := fun q hq => by cases hq
noncomputable def xe_X7_clearLines (ct : Nat → Bool) (K : Kt) (R : Option AV → Hp → Prop) (n : Nat) : Kt := exS 1 1 0 0 0 tb_X7_clearLines mt_X7_clearLines ct K R n
noncomputable def xk_X7_clearLines (ct : Nat → Bool) (K : Kt) (R : Option AV → Hp → Prop) (n : Nat) : Kt := exkS 1 1 0 0 0 tb_X7_clearLines mt_X7_clearLines ct K R n
theorem xt_X7_clearLines {ct : Nat → Bool} {K : Kt} {R : Option AV → Hp → Prop} {n pc : Nat} {ls : List (Option AV)} {st : List AV} {σ : Hp} {k : Nat × Nat} (h : ct pc = true) : xk_X7_clearLines ct K R n pc ls st σ k = K pc ls st σ k := by unfold xk_X7_clearLines exkS; rw [h]
theorem xf_X7_clearLines {ct : Nat → Bool} {K : Kt} {R : Option AV → Hp → Prop} {n pc : Nat} {ls : List (Option AV)} {st : List AV} {σ : Hp} {k : Nat × Nat} (h : ct pc = false) : xk_X7_clearLines ct K R n pc ls st σ k = xe_X7_clearLines ct K R n pc ls st σ k := by unfold xk_X7_clearLines exkS xe_X7_clearLines; rw [h]
theorem ev_X7_clearLines_0 {ct : Nat → Bool} {K : Kt} {R : Option AV → Hp → Prop} {n : Nat} {ls : List (Option AV)} {st : List AV} {σ : Hp} {k : Nat × Nat} : xe_X7_clearLines ct K R (n + 1) 0 ls st σ k = (lR ls 0 fun x => xk_X7_clearLines ct K R n 1 ls (vr x :: st) σ k) := exS_step.trans rfl
theorem ev_X7_clearLines_1 {ct : Nat → Bool} {K : Kt} {R : Option AV → Hp → Prop} {n : Nat} {ls : List (Option AV)} {st : List AV} {σ : Hp} {k : Nat × Nat} : xe_X7_clearLines ct K R (n + 1) 1 ls st σ k = (xk_X7_clearLines ct K R n 2 ls (vi (0) :: st) σ k) := exS_step.trans rfl
theorem ev_X7_clearLines_2 {ct : Nat → Bool} {K : Kt} {R : Option AV → Hp → Prop} {n : Nat} {ls : List (Option AV)} {st : List AV} {σ : Hp} {k : Nat × Nat} : xe_X7_clearLines ct K R (n + 1) 2 ls st σ k = (oI st fun v st => oR st fun x st => kd σ x = 8 ∧ xk_X7_clearLines ct K R n 5 ls st (pI σ 807 x v) k) := exS_step.trans rfl
theorem ev_X7_clearLines_5 {ct : Nat → Bool} {K : Kt} {R : Option AV → Hp → Prop} {n : Nat} {ls : List (Option AV)} {st : List AV} {σ : Hp} {k : Nat × Nat} : xe_X7_clearLines ct K R (n + 1) 5 ls st σ k = (lR ls 0 fun x => xk_X7_clearLines ct K R n 6 ls (vr x :: st) σ k) := exS_step.trans rfl
theorem ev_X7_clearLines_6 {ct : Nat → Bool} {K : Kt} {R : Option AV → Hp → Prop} {n : Nat} {ls : List (Option AV)} {st : List AV} {σ : Hp} {k : Nat × Nat} : xe_X7_clearLines ct K R (n + 1) 6 ls st σ k = (xk_X7_clearLines ct K R n 7 ls (vi (0) :: st) σ k) := exS_step.trans rfl
theorem ev_X7_clearLines_7 {ct : Nat → Bool} {K : Kt} {R : Option AV → Hp → Prop} {n : Nat} {ls : List (Option AV)} {st : List AV} {σ : Hp} {k : Nat × Nat} : xe_X7_clearLines ct K R (n + 1) 7 ls st σ k = (oI st fun v st => oR st fun x st => kd σ x = 8 ∧ xk_X7_clearLines ct K R n 10 ls st (pI σ 805 x v) k) := exS_step.trans rfl
theorem ev_X7_clearLines_10 {ct : Nat → Bool} {K : Kt} {R : Option AV → Hp → Prop} {n : Nat} {ls : List (Option AV)} {st : List AV} {σ : Hp} {k : Nat × Nat} : xe_X7_clearLines ct K R (n + 1) 10 ls st σ k = (st = [] ∧ 0 = 0 ∧ R none σ) := exS_step.trans rfl
def M_X7_clearLines : Md := (yX7_clearLines, cX7_clearLines, 1, (none : Option FieldType), 1, 0, 0, 0, false, tb_X7_clearLines, mt_X7_clearLines)
theorem mm_X7_clearLines : MMOK M_X7_clearLines := ⟨by decide +kernel, tk_X7_clearLines, mk_X7_clearLines, rfl, fun h => by cases h⟩
theorem go_X7_clearLines {Q : Option AV → Hp → Prop} {ct : Nat → Bool} {pc : Nat} {ls : List (Option AV)} {st : List AV} {σ : Hp} {k : Nat × Nat} (n : Nat) (h : xe_X7_clearLines ct (Go M_X7_clearLines Q) Q n pc ls st σ k) : Go M_X7_clearLines Q pc ls st σ k := Go.exS mm_X7_clearLines h

set_option maxRecDepth 20000 in
theorem c_X7_clearLines : Ct yX7_clearLines cX7_clearLines 1 ((none : Option FieldType)) 1 0 0 sp_X7_clearLines := by
  refine Ct.go (M := M_X7_clearLines) mm_X7_clearLines fun av σ Q h0 => ?_
  obtain ⟨this, rfl, hk, h⟩ := el_X7_clearLines h0
  clear h0
  refine ⟨Nat.le_of_ble_eq_true rfl, ?_⟩
  show Go M_X7_clearLines Q 0 [some (vr this)] [] σ (0, 0)
  unfold cClr at h
  refine go_X7_clearLines (ct := fun p => p == 99) 20 ?_
  simp only [oI, oL, oR, o1, lI, lL, lR, popN, catS, gv, stL, stL2, swt, cnd, spObj, List.getElem?_cons_zero, List.getElem?_cons_succ, List.getD_cons_zero, List.getD_cons_succ, List.set_cons_zero, List.set_cons_succ, List.nil_append, List.cons_append, Option.toList, Bool.or_false, Bool.false_or, Bool.or_true, Bool.true_or, Nat.reduceBEq, Nat.reduceAdd, Nat.reduceLT, Nat.reduceLeDiff, Int.reduceAdd, Int.reduceToNat, true_and, and_true, Fin.isValue, Fin.val_zero, Fin.val_one, Fin.val_two, Fin.reduceFinMk, eq_self, Int.reduceNeg, imp_self, Nat.reduceMul, Nat.le_refl, not_true_eq_false, not_false_eq_true, List.getElem?_nil, reduceCtorEq, true_or, or_true, Classical.not_not, implies_true, or_self, wI_0, wI_1, wI_m1, b2i_w, b2i_eq0, b2i_eq1, b2i_bool, nor_self, nx_pI, kd_pI, ln_pI, fI_pI, fL_pI, fR_pI, aI_pI, aL_pI, aR_pI, nx_pL, kd_pL, ln_pL, fI_pL, fL_pL, fR_pL, aI_pL, aL_pL, aR_pL, nx_pR, kd_pR, ln_pR, fI_pR, fL_pR, fR_pR, aI_pR, aL_pR, aR_pR, nx_qI, kd_qI, ln_qI, fI_qI, fL_qI, fR_qI, aI_qI, aL_qI, aR_qI, nx_qL, kd_qL, ln_qL, fI_qL, fL_qL, fR_qL, aI_qL, aL_qL, aR_qL, nx_qR, kd_qR, ln_qR, fI_qR, fL_qR, fR_qR, aI_qR, aL_qR, aR_qR, nx_mk, kd_mk, ln_mk, fI_mk, fL_mk, fR_mk, aI_mk, aL_mk, aR_mk, false_and, and_false, if_false, if_true, and_self, Int.reduceEq, Nat.reduceEqDiff, ite_self, MLay_pI, MLay_pL, MLay_qI, MLay_qL, ev_X7_clearLines_0, ev_X7_clearLines_1, ev_X7_clearLines_2, ev_X7_clearLines_5, ev_X7_clearLines_6, ev_X7_clearLines_7, ev_X7_clearLines_10, xt_X7_clearLines, xf_X7_clearLines, hk]
  repeat' (first | intro z | apply And.intro)
  all_goals try omega
  all_goals try contradiction
  all_goals exact h

def sp_X7_openLine : Sp := fun av σ Q => oR av fun this av => oI av fun n av => oI av fun m av => av = [] ∧ kd σ this = 8 ∧ (DkO σ this ∧ (0 ≤ fI σ 807 this ∧ fI σ 807 this < 24) ∧ (0 ≤ fI σ 805 this ∧ fI σ 805 this ≤ 1000) ∧ Q none (cOpn σ this n m))
theorem us_X7_openLine (this : Int) (n : Int) (m : Int) (σ : Hp) (Q : Option AV → Hp → Prop) : sp_X7_openLine [vr this, vi n, vi m] σ Q = (kd σ this = 8 ∧ (DkO σ this ∧ (0 ≤ fI σ 807 this ∧ fI σ 807 this < 24) ∧ (0 ≤ fI σ 805 this ∧ fI σ 805 this ≤ 1000) ∧ Q none (cOpn σ this n m))) := propext ⟨fun h => h.2, fun h => ⟨rfl, h⟩⟩
theorem el_X7_openLine {av : List AV} {σ : Hp} {Q : Option AV → Hp → Prop} (h : sp_X7_openLine av σ Q) : ∃ (this : Int) (n : Int) (m : Int), av = [vr this, vi n, vi m] ∧ (kd σ this = 8 ∧ (DkO σ this ∧ (0 ≤ fI σ 807 this ∧ fI σ 807 this < 24) ∧ (0 ≤ fI σ 805 this ∧ fI σ 805 this ≤ 1000) ∧ Q none (cOpn σ this n m))) := by
  obtain ⟨this, a0, rfl, h0⟩ := oR_s h
  obtain ⟨n, a1, rfl, h1⟩ := oI_s h0
  obtain ⟨m, a2, rfl, h2⟩ := oI_s h1
  obtain ⟨rfl, hz⟩ := h2
  exact ⟨this, n, m, rfl, hz⟩
theorem rc_X7_openLine : ∀ (av : List AV) (σ : Hp) (Q : Option AV → Hp → Prop), sp_X7_openLine av σ Q → ∃ r tl, av = vr r :: tl ∧ kd σ r = 7 + 1 := fun av σ Q h => by
  obtain ⟨this, n, m, rfl, hz, -⟩ := el_X7_openLine h
  exact ⟨this, _, rfl, hz⟩

def tb_X7_openLine : Tab := [(0, .aload_n 0, 1, (0, 0, 0, 0)), (1, .getfield 34, 3, (8, 807, 0, 0)), (4, .ifCond .lt 82, 3, (0, 0, 0, 0)), (7, .aload_n 0, 1, (0, 0, 0, 0)), (8, .getfield 34, 3, (8, 807, 0, 0)), (11, .aload_n 0, 1, (0, 0, 0, 0)), (12, .getfield 9, 3, (8, 800, 2, 0)), (15, .arraylength, 1, (0, 0, 0, 0)), (16, .if_icmp .ge 70, 3, (0, 0, 0, 0)), (19, .aload_n 0, 1, (0, 0, 0, 0)), (20, .getfield 34, 3, (8, 807, 0, 0)), (23, .aload_n 0, 1, (0, 0, 0, 0)), (24, .getfield 15, 3, (8, 801, 2, 0)), (27, .arraylength, 1, (0, 0, 0, 0)), (28, .if_icmp .ge 58, 3, (0, 0, 0, 0)), (31, .aload_n 0, 1, (0, 0, 0, 0)), (32, .getfield 34, 3, (8, 807, 0, 0)), (35, .aload_n 0, 1, (0, 0, 0, 0)), (36, .getfield 18, 3, (8, 802, 2, 0)), (39, .arraylength, 1, (0, 0, 0, 0)), (40, .if_icmp .ge 46, 3, (0, 0, 0, 0)), (43, .aload_n 0, 1, (0, 0, 0, 0)), (44, .getfield 9, 3, (8, 800, 2, 0)), (47, .aload_n 0, 1, (0, 0, 0, 0)), (48, .getfield 34, 3, (8, 807, 0, 0)), (51, .iload_n 1, 1, (0, 0, 0, 0)), (52, .iastore, 1, (0, 0, 0, 0)), (53, .aload_n 0, 1, (0, 0, 0, 0)), (54, .getfield 15, 3, (8, 801, 2, 0)), (57, .aload_n 0, 1, (0, 0, 0, 0)), (58, .getfield 34, 3, (8, 807, 0, 0)), (61, .iload_n 2, 1, (0, 0, 0, 0)), (62, .iastore, 1, (0, 0, 0, 0)), (63, .aload_n 0, 1, (0, 0, 0, 0)), (64, .getfield 18, 3, (8, 802, 2, 0)), (67, .aload_n 0, 1, (0, 0, 0, 0)), (68, .getfield 34, 3, (8, 807, 0, 0)), (71, .aload_n 0, 1, (0, 0, 0, 0)), (72, .getfield 27, 3, (8, 805, 0, 0)), (75, .iastore, 1, (0, 0, 0, 0)), (76, .aload_n 0, 1, (0, 0, 0, 0)), (77, .dup, 1, (0, 0, 0, 0)), (78, .getfield 34, 3, (8, 807, 0, 0)), (81, .iconst 1, 1, (0, 0, 0, 0)), (82, .iadd, 1, (0, 0, 0, 0)), (83, .putfield 34, 3, (8, 807, 0, 0)), (86, .return_, 1, (0, 0, 0, 0))]
set_option maxRecDepth 100000 in
theorem tk_X7_openLine : TOK RX7 false cX7_openLine tb_X7_openLine := chkT_ok ft_X7 (by decide +kernel)
def mt_X7_openLine : List (Nat × Mt) := []
theorem mk_X7_openLine : MOK RX7 mt_X7_openLine := fun q hq => by cases hq
noncomputable def xe_X7_openLine (ct : Nat → Bool) (K : Kt) (R : Option AV → Hp → Prop) (n : Nat) : Kt := exS 3 1 0 0 0 tb_X7_openLine mt_X7_openLine ct K R n
noncomputable def xk_X7_openLine (ct : Nat → Bool) (K : Kt) (R : Option AV → Hp → Prop) (n : Nat) : Kt := exkS 3 1 0 0 0 tb_X7_openLine mt_X7_openLine ct K R n
theorem xt_X7_openLine {ct : Nat → Bool} {K : Kt} {R : Option AV → Hp → Prop} {n pc : Nat} {ls : List (Option AV)} {st : List AV} {σ : Hp} {k : Nat × Nat} (h : ct pc = true) : xk_X7_openLine ct K R n pc ls st σ k = K pc ls st σ k := by unfold xk_X7_openLine exkS; rw [h]
theorem xf_X7_openLine {ct : Nat → Bool} {K : Kt} {R : Option AV → Hp → Prop} {n pc : Nat} {ls : List (Option AV)} {st : List AV} {σ : Hp} {k : Nat × Nat} (h : ct pc = false) : xk_X7_openLine ct K R n pc ls st σ k = xe_X7_openLine ct K R n pc ls st σ k := by unfold xk_X7_openLine exkS xe_X7_openLine; rw [h]
theorem ev_X7_openLine_0 {ct : Nat → Bool} {K : Kt} {R : Option AV → Hp → Prop} {n : Nat} {ls : List (Option AV)} {st : List AV} {σ : Hp} {k : Nat × Nat} : xe_X7_openLine ct K R (n + 1) 0 ls st σ k = (lR ls 0 fun x => xk_X7_openLine ct K R n 1 ls (vr x :: st) σ k) := exS_step.trans rfl
theorem ev_X7_openLine_1 {ct : Nat → Bool} {K : Kt} {R : Option AV → Hp → Prop} {n : Nat} {ls : List (Option AV)} {st : List AV} {σ : Hp} {k : Nat × Nat} : xe_X7_openLine ct K R (n + 1) 1 ls st σ k = (oR st fun x st => kd σ x = 8 ∧ xk_X7_openLine ct K R n 4 ls (vi (fI σ 807 x) :: st) σ k) := exS_step.trans rfl
theorem ev_X7_openLine_4 {ct : Nat → Bool} {K : Kt} {R : Option AV → Hp → Prop} {n : Nat} {ls : List (Option AV)} {st : List AV} {σ : Hp} {k : Nat × Nat} : xe_X7_openLine ct K R (n + 1) 4 ls st σ k = (oI st fun x st => (wI x < wI 0 → xk_X7_openLine ct K R n 86 ls st σ k) ∧ (¬ (wI x < wI 0) → xk_X7_openLine ct K R n 7 ls st σ k)) := exS_step.trans rfl
theorem ev_X7_openLine_7 {ct : Nat → Bool} {K : Kt} {R : Option AV → Hp → Prop} {n : Nat} {ls : List (Option AV)} {st : List AV} {σ : Hp} {k : Nat × Nat} : xe_X7_openLine ct K R (n + 1) 7 ls st σ k = (lR ls 0 fun x => xk_X7_openLine ct K R n 8 ls (vr x :: st) σ k) := exS_step.trans rfl
theorem ev_X7_openLine_8 {ct : Nat → Bool} {K : Kt} {R : Option AV → Hp → Prop} {n : Nat} {ls : List (Option AV)} {st : List AV} {σ : Hp} {k : Nat × Nat} : xe_X7_openLine ct K R (n + 1) 8 ls st σ k = (oR st fun x st => kd σ x = 8 ∧ xk_X7_openLine ct K R n 11 ls (vi (fI σ 807 x) :: st) σ k) := exS_step.trans rfl
theorem ev_X7_openLine_11 {ct : Nat → Bool} {K : Kt} {R : Option AV → Hp → Prop} {n : Nat} {ls : List (Option AV)} {st : List AV} {σ : Hp} {k : Nat × Nat} : xe_X7_openLine ct K R (n + 1) 11 ls st σ k = (lR ls 0 fun x => xk_X7_openLine ct K R n 12 ls (vr x :: st) σ k) := exS_step.trans rfl
theorem ev_X7_openLine_12 {ct : Nat → Bool} {K : Kt} {R : Option AV → Hp → Prop} {n : Nat} {ls : List (Option AV)} {st : List AV} {σ : Hp} {k : Nat × Nat} : xe_X7_openLine ct K R (n + 1) 12 ls st σ k = (oR st fun x st => kd σ x = 8 ∧ xk_X7_openLine ct K R n 15 ls (vr (fR σ 800 x) :: st) σ k) := exS_step.trans rfl
theorem ev_X7_openLine_15 {ct : Nat → Bool} {K : Kt} {R : Option AV → Hp → Prop} {n : Nat} {ls : List (Option AV)} {st : List AV} {σ : Hp} {k : Nat × Nat} : xe_X7_openLine ct K R (n + 1) 15 ls st σ k = (oR st fun x st => (101 ≤ kd σ x ∨ kd σ x = 21) ∧ xk_X7_openLine ct K R n 16 ls (vi (ln σ x) :: st) σ k) := exS_step.trans rfl
theorem ev_X7_openLine_16 {ct : Nat → Bool} {K : Kt} {R : Option AV → Hp → Prop} {n : Nat} {ls : List (Option AV)} {st : List AV} {σ : Hp} {k : Nat × Nat} : xe_X7_openLine ct K R (n + 1) 16 ls st σ k = (oI st fun y st => oI st fun x st => (wI y ≤ wI x → xk_X7_openLine ct K R n 86 ls st σ k) ∧ (¬ (wI y ≤ wI x) → xk_X7_openLine ct K R n 19 ls st σ k)) := exS_step.trans rfl
theorem ev_X7_openLine_19 {ct : Nat → Bool} {K : Kt} {R : Option AV → Hp → Prop} {n : Nat} {ls : List (Option AV)} {st : List AV} {σ : Hp} {k : Nat × Nat} : xe_X7_openLine ct K R (n + 1) 19 ls st σ k = (lR ls 0 fun x => xk_X7_openLine ct K R n 20 ls (vr x :: st) σ k) := exS_step.trans rfl
theorem ev_X7_openLine_20 {ct : Nat → Bool} {K : Kt} {R : Option AV → Hp → Prop} {n : Nat} {ls : List (Option AV)} {st : List AV} {σ : Hp} {k : Nat × Nat} : xe_X7_openLine ct K R (n + 1) 20 ls st σ k = (oR st fun x st => kd σ x = 8 ∧ xk_X7_openLine ct K R n 23 ls (vi (fI σ 807 x) :: st) σ k) := exS_step.trans rfl
theorem ev_X7_openLine_23 {ct : Nat → Bool} {K : Kt} {R : Option AV → Hp → Prop} {n : Nat} {ls : List (Option AV)} {st : List AV} {σ : Hp} {k : Nat × Nat} : xe_X7_openLine ct K R (n + 1) 23 ls st σ k = (lR ls 0 fun x => xk_X7_openLine ct K R n 24 ls (vr x :: st) σ k) := exS_step.trans rfl
theorem ev_X7_openLine_24 {ct : Nat → Bool} {K : Kt} {R : Option AV → Hp → Prop} {n : Nat} {ls : List (Option AV)} {st : List AV} {σ : Hp} {k : Nat × Nat} : xe_X7_openLine ct K R (n + 1) 24 ls st σ k = (oR st fun x st => kd σ x = 8 ∧ xk_X7_openLine ct K R n 27 ls (vr (fR σ 801 x) :: st) σ k) := exS_step.trans rfl
theorem ev_X7_openLine_27 {ct : Nat → Bool} {K : Kt} {R : Option AV → Hp → Prop} {n : Nat} {ls : List (Option AV)} {st : List AV} {σ : Hp} {k : Nat × Nat} : xe_X7_openLine ct K R (n + 1) 27 ls st σ k = (oR st fun x st => (101 ≤ kd σ x ∨ kd σ x = 21) ∧ xk_X7_openLine ct K R n 28 ls (vi (ln σ x) :: st) σ k) := exS_step.trans rfl
theorem ev_X7_openLine_28 {ct : Nat → Bool} {K : Kt} {R : Option AV → Hp → Prop} {n : Nat} {ls : List (Option AV)} {st : List AV} {σ : Hp} {k : Nat × Nat} : xe_X7_openLine ct K R (n + 1) 28 ls st σ k = (oI st fun y st => oI st fun x st => (wI y ≤ wI x → xk_X7_openLine ct K R n 86 ls st σ k) ∧ (¬ (wI y ≤ wI x) → xk_X7_openLine ct K R n 31 ls st σ k)) := exS_step.trans rfl
theorem ev_X7_openLine_31 {ct : Nat → Bool} {K : Kt} {R : Option AV → Hp → Prop} {n : Nat} {ls : List (Option AV)} {st : List AV} {σ : Hp} {k : Nat × Nat} : xe_X7_openLine ct K R (n + 1) 31 ls st σ k = (lR ls 0 fun x => xk_X7_openLine ct K R n 32 ls (vr x :: st) σ k) := exS_step.trans rfl
theorem ev_X7_openLine_32 {ct : Nat → Bool} {K : Kt} {R : Option AV → Hp → Prop} {n : Nat} {ls : List (Option AV)} {st : List AV} {σ : Hp} {k : Nat × Nat} : xe_X7_openLine ct K R (n + 1) 32 ls st σ k = (oR st fun x st => kd σ x = 8 ∧ xk_X7_openLine ct K R n 35 ls (vi (fI σ 807 x) :: st) σ k) := exS_step.trans rfl
theorem ev_X7_openLine_35 {ct : Nat → Bool} {K : Kt} {R : Option AV → Hp → Prop} {n : Nat} {ls : List (Option AV)} {st : List AV} {σ : Hp} {k : Nat × Nat} : xe_X7_openLine ct K R (n + 1) 35 ls st σ k = (lR ls 0 fun x => xk_X7_openLine ct K R n 36 ls (vr x :: st) σ k) := exS_step.trans rfl
theorem ev_X7_openLine_36 {ct : Nat → Bool} {K : Kt} {R : Option AV → Hp → Prop} {n : Nat} {ls : List (Option AV)} {st : List AV} {σ : Hp} {k : Nat × Nat} : xe_X7_openLine ct K R (n + 1) 36 ls st σ k = (oR st fun x st => kd σ x = 8 ∧ xk_X7_openLine ct K R n 39 ls (vr (fR σ 802 x) :: st) σ k) := exS_step.trans rfl
theorem ev_X7_openLine_39 {ct : Nat → Bool} {K : Kt} {R : Option AV → Hp → Prop} {n : Nat} {ls : List (Option AV)} {st : List AV} {σ : Hp} {k : Nat × Nat} : xe_X7_openLine ct K R (n + 1) 39 ls st σ k = (oR st fun x st => (101 ≤ kd σ x ∨ kd σ x = 21) ∧ xk_X7_openLine ct K R n 40 ls (vi (ln σ x) :: st) σ k) := exS_step.trans rfl
theorem ev_X7_openLine_40 {ct : Nat → Bool} {K : Kt} {R : Option AV → Hp → Prop} {n : Nat} {ls : List (Option AV)} {st : List AV} {σ : Hp} {k : Nat × Nat} : xe_X7_openLine ct K R (n + 1) 40 ls st σ k = (oI st fun y st => oI st fun x st => (wI y ≤ wI x → xk_X7_openLine ct K R n 86 ls st σ k) ∧ (¬ (wI y ≤ wI x) → xk_X7_openLine ct K R n 43 ls st σ k)) := exS_step.trans rfl
theorem ev_X7_openLine_43 {ct : Nat → Bool} {K : Kt} {R : Option AV → Hp → Prop} {n : Nat} {ls : List (Option AV)} {st : List AV} {σ : Hp} {k : Nat × Nat} : xe_X7_openLine ct K R (n + 1) 43 ls st σ k = (lR ls 0 fun x => xk_X7_openLine ct K R n 44 ls (vr x :: st) σ k) := exS_step.trans rfl
theorem ev_X7_openLine_44 {ct : Nat → Bool} {K : Kt} {R : Option AV → Hp → Prop} {n : Nat} {ls : List (Option AV)} {st : List AV} {σ : Hp} {k : Nat × Nat} : xe_X7_openLine ct K R (n + 1) 44 ls st σ k = (oR st fun x st => kd σ x = 8 ∧ xk_X7_openLine ct K R n 47 ls (vr (fR σ 800 x) :: st) σ k) := exS_step.trans rfl
theorem ev_X7_openLine_47 {ct : Nat → Bool} {K : Kt} {R : Option AV → Hp → Prop} {n : Nat} {ls : List (Option AV)} {st : List AV} {σ : Hp} {k : Nat × Nat} : xe_X7_openLine ct K R (n + 1) 47 ls st σ k = (lR ls 0 fun x => xk_X7_openLine ct K R n 48 ls (vr x :: st) σ k) := exS_step.trans rfl
theorem ev_X7_openLine_48 {ct : Nat → Bool} {K : Kt} {R : Option AV → Hp → Prop} {n : Nat} {ls : List (Option AV)} {st : List AV} {σ : Hp} {k : Nat × Nat} : xe_X7_openLine ct K R (n + 1) 48 ls st σ k = (oR st fun x st => kd σ x = 8 ∧ xk_X7_openLine ct K R n 51 ls (vi (fI σ 807 x) :: st) σ k) := exS_step.trans rfl
theorem ev_X7_openLine_51 {ct : Nat → Bool} {K : Kt} {R : Option AV → Hp → Prop} {n : Nat} {ls : List (Option AV)} {st : List AV} {σ : Hp} {k : Nat × Nat} : xe_X7_openLine ct K R (n + 1) 51 ls st σ k = (lI ls 1 fun x => xk_X7_openLine ct K R n 52 ls (vi x :: st) σ k) := exS_step.trans rfl
theorem ev_X7_openLine_52 {ct : Nat → Bool} {K : Kt} {R : Option AV → Hp → Prop} {n : Nat} {ls : List (Option AV)} {st : List AV} {σ : Hp} {k : Nat × Nat} : xe_X7_openLine ct K R (n + 1) 52 ls st σ k = (oI st fun v st => oI st fun j st => oR st fun x st => kd σ x = 101 ∧ (0 ≤ j ∧ j < ln σ x) ∧ xk_X7_openLine ct K R n 53 ls st (qI σ x j v) k) := exS_step.trans rfl
theorem ev_X7_openLine_53 {ct : Nat → Bool} {K : Kt} {R : Option AV → Hp → Prop} {n : Nat} {ls : List (Option AV)} {st : List AV} {σ : Hp} {k : Nat × Nat} : xe_X7_openLine ct K R (n + 1) 53 ls st σ k = (lR ls 0 fun x => xk_X7_openLine ct K R n 54 ls (vr x :: st) σ k) := exS_step.trans rfl
theorem ev_X7_openLine_54 {ct : Nat → Bool} {K : Kt} {R : Option AV → Hp → Prop} {n : Nat} {ls : List (Option AV)} {st : List AV} {σ : Hp} {k : Nat × Nat} : xe_X7_openLine ct K R (n + 1) 54 ls st σ k = (oR st fun x st => kd σ x = 8 ∧ xk_X7_openLine ct K R n 57 ls (vr (fR σ 801 x) :: st) σ k) := exS_step.trans rfl
theorem ev_X7_openLine_57 {ct : Nat → Bool} {K : Kt} {R : Option AV → Hp → Prop} {n : Nat} {ls : List (Option AV)} {st : List AV} {σ : Hp} {k : Nat × Nat} : xe_X7_openLine ct K R (n + 1) 57 ls st σ k = (lR ls 0 fun x => xk_X7_openLine ct K R n 58 ls (vr x :: st) σ k) := exS_step.trans rfl
theorem ev_X7_openLine_58 {ct : Nat → Bool} {K : Kt} {R : Option AV → Hp → Prop} {n : Nat} {ls : List (Option AV)} {st : List AV} {σ : Hp} {k : Nat × Nat} : xe_X7_openLine ct K R (n + 1) 58 ls st σ k = (oR st fun x st => kd σ x = 8 ∧ xk_X7_openLine ct K R n 61 ls (vi (fI σ 807 x) :: st) σ k) := exS_step.trans rfl
theorem ev_X7_openLine_61 {ct : Nat → Bool} {K : Kt} {R : Option AV → Hp → Prop} {n : Nat} {ls : List (Option AV)} {st : List AV} {σ : Hp} {k : Nat × Nat} : xe_X7_openLine ct K R (n + 1) 61 ls st σ k = (lI ls 2 fun x => xk_X7_openLine ct K R n 62 ls (vi x :: st) σ k) := exS_step.trans rfl
theorem ev_X7_openLine_62 {ct : Nat → Bool} {K : Kt} {R : Option AV → Hp → Prop} {n : Nat} {ls : List (Option AV)} {st : List AV} {σ : Hp} {k : Nat × Nat} : xe_X7_openLine ct K R (n + 1) 62 ls st σ k = (oI st fun v st => oI st fun j st => oR st fun x st => kd σ x = 101 ∧ (0 ≤ j ∧ j < ln σ x) ∧ xk_X7_openLine ct K R n 63 ls st (qI σ x j v) k) := exS_step.trans rfl
theorem ev_X7_openLine_63 {ct : Nat → Bool} {K : Kt} {R : Option AV → Hp → Prop} {n : Nat} {ls : List (Option AV)} {st : List AV} {σ : Hp} {k : Nat × Nat} : xe_X7_openLine ct K R (n + 1) 63 ls st σ k = (lR ls 0 fun x => xk_X7_openLine ct K R n 64 ls (vr x :: st) σ k) := exS_step.trans rfl
theorem ev_X7_openLine_64 {ct : Nat → Bool} {K : Kt} {R : Option AV → Hp → Prop} {n : Nat} {ls : List (Option AV)} {st : List AV} {σ : Hp} {k : Nat × Nat} : xe_X7_openLine ct K R (n + 1) 64 ls st σ k = (oR st fun x st => kd σ x = 8 ∧ xk_X7_openLine ct K R n 67 ls (vr (fR σ 802 x) :: st) σ k) := exS_step.trans rfl
theorem ev_X7_openLine_67 {ct : Nat → Bool} {K : Kt} {R : Option AV → Hp → Prop} {n : Nat} {ls : List (Option AV)} {st : List AV} {σ : Hp} {k : Nat × Nat} : xe_X7_openLine ct K R (n + 1) 67 ls st σ k = (lR ls 0 fun x => xk_X7_openLine ct K R n 68 ls (vr x :: st) σ k) := exS_step.trans rfl
theorem ev_X7_openLine_68 {ct : Nat → Bool} {K : Kt} {R : Option AV → Hp → Prop} {n : Nat} {ls : List (Option AV)} {st : List AV} {σ : Hp} {k : Nat × Nat} : xe_X7_openLine ct K R (n + 1) 68 ls st σ k = (oR st fun x st => kd σ x = 8 ∧ xk_X7_openLine ct K R n 71 ls (vi (fI σ 807 x) :: st) σ k) := exS_step.trans rfl
theorem ev_X7_openLine_71 {ct : Nat → Bool} {K : Kt} {R : Option AV → Hp → Prop} {n : Nat} {ls : List (Option AV)} {st : List AV} {σ : Hp} {k : Nat × Nat} : xe_X7_openLine ct K R (n + 1) 71 ls st σ k = (lR ls 0 fun x => xk_X7_openLine ct K R n 72 ls (vr x :: st) σ k) := exS_step.trans rfl
theorem ev_X7_openLine_72 {ct : Nat → Bool} {K : Kt} {R : Option AV → Hp → Prop} {n : Nat} {ls : List (Option AV)} {st : List AV} {σ : Hp} {k : Nat × Nat} : xe_X7_openLine ct K R (n + 1) 72 ls st σ k = (oR st fun x st => kd σ x = 8 ∧ xk_X7_openLine ct K R n 75 ls (vi (fI σ 805 x) :: st) σ k) := exS_step.trans rfl
theorem ev_X7_openLine_75 {ct : Nat → Bool} {K : Kt} {R : Option AV → Hp → Prop} {n : Nat} {ls : List (Option AV)} {st : List AV} {σ : Hp} {k : Nat × Nat} : xe_X7_openLine ct K R (n + 1) 75 ls st σ k = (oI st fun v st => oI st fun j st => oR st fun x st => kd σ x = 101 ∧ (0 ≤ j ∧ j < ln σ x) ∧ xk_X7_openLine ct K R n 76 ls st (qI σ x j v) k) := exS_step.trans rfl
theorem ev_X7_openLine_76 {ct : Nat → Bool} {K : Kt} {R : Option AV → Hp → Prop} {n : Nat} {ls : List (Option AV)} {st : List AV} {σ : Hp} {k : Nat × Nat} : xe_X7_openLine ct K R (n + 1) 76 ls st σ k = (lR ls 0 fun x => xk_X7_openLine ct K R n 77 ls (vr x :: st) σ k) := exS_step.trans rfl
theorem ev_X7_openLine_77 {ct : Nat → Bool} {K : Kt} {R : Option AV → Hp → Prop} {n : Nat} {ls : List (Option AV)} {st : List AV} {σ : Hp} {k : Nat × Nat} : xe_X7_openLine ct K R (n + 1) 77 ls st σ k = (o1 st fun v st => xk_X7_openLine ct K R n 78 ls (v :: v :: st) σ k) := exS_step.trans rfl
theorem ev_X7_openLine_78 {ct : Nat → Bool} {K : Kt} {R : Option AV → Hp → Prop} {n : Nat} {ls : List (Option AV)} {st : List AV} {σ : Hp} {k : Nat × Nat} : xe_X7_openLine ct K R (n + 1) 78 ls st σ k = (oR st fun x st => kd σ x = 8 ∧ xk_X7_openLine ct K R n 81 ls (vi (fI σ 807 x) :: st) σ k) := exS_step.trans rfl
theorem ev_X7_openLine_81 {ct : Nat → Bool} {K : Kt} {R : Option AV → Hp → Prop} {n : Nat} {ls : List (Option AV)} {st : List AV} {σ : Hp} {k : Nat × Nat} : xe_X7_openLine ct K R (n + 1) 81 ls st σ k = (xk_X7_openLine ct K R n 82 ls (vi (1) :: st) σ k) := exS_step.trans rfl
theorem ev_X7_openLine_82 {ct : Nat → Bool} {K : Kt} {R : Option AV → Hp → Prop} {n : Nat} {ls : List (Option AV)} {st : List AV} {σ : Hp} {k : Nat × Nat} : xe_X7_openLine ct K R (n + 1) 82 ls st σ k = (oI st fun y st => oI st fun x st => xk_X7_openLine ct K R n 83 ls (vi (x + y) :: st) σ k) := exS_step.trans rfl
theorem ev_X7_openLine_83 {ct : Nat → Bool} {K : Kt} {R : Option AV → Hp → Prop} {n : Nat} {ls : List (Option AV)} {st : List AV} {σ : Hp} {k : Nat × Nat} : xe_X7_openLine ct K R (n + 1) 83 ls st σ k = (oI st fun v st => oR st fun x st => kd σ x = 8 ∧ xk_X7_openLine ct K R n 86 ls st (pI σ 807 x v) k) := exS_step.trans rfl
theorem ev_X7_openLine_86 {ct : Nat → Bool} {K : Kt} {R : Option AV → Hp → Prop} {n : Nat} {ls : List (Option AV)} {st : List AV} {σ : Hp} {k : Nat × Nat} : xe_X7_openLine ct K R (n + 1) 86 ls st σ k = (st = [] ∧ 0 = 0 ∧ R none σ) := exS_step.trans rfl
def M_X7_openLine : Md := (yX7_openLine, cX7_openLine, 3, (none : Option FieldType), 1, 0, 0, 0, false, tb_X7_openLine, mt_X7_openLine)
theorem mm_X7_openLine : MMOK M_X7_openLine := ⟨by decide +kernel, tk_X7_openLine, mk_X7_openLine, rfl, fun h => by cases h⟩
theorem go_X7_openLine {Q : Option AV → Hp → Prop} {ct : Nat → Bool} {pc : Nat} {ls : List (Option AV)} {st : List AV} {σ : Hp} {k : Nat × Nat} (n : Nat) (h : xe_X7_openLine ct (Go M_X7_openLine Q) Q n pc ls st σ k) : Go M_X7_openLine Q pc ls st σ k := Go.exS mm_X7_openLine h

set_option maxRecDepth 20000 in
theorem c_X7_openLine : Ct yX7_openLine cX7_openLine 3 ((none : Option FieldType)) 1 0 0 sp_X7_openLine := by
  refine Ct.go (M := M_X7_openLine) mm_X7_openLine fun av σ Q h0 => ?_
  obtain ⟨this, n, m, rfl, hk, h⟩ := el_X7_openLine h0
  clear h0
  refine ⟨Nat.le_of_ble_eq_true rfl, ?_⟩
  show Go M_X7_openLine Q 0 [some (vr this), some (vi n), some (vi m)] [] σ (0, 0)
  obtain ⟨⟨-, ⟨h1, h2, h3, h4, -⟩, ⟨g1, l1⟩, ⟨g2, l2⟩, ⟨g3, l3⟩, ⟨g4, l4⟩, -⟩, hl, hs, h⟩ := h
  unfold cOpn at h
  refine go_X7_openLine (ct := fun p => p == 99) 60 ?_
  simp only [oI, oL, oR, o1, lI, lL, lR, popN, catS, gv, stL, stL2, swt, cnd, spObj, List.getElem?_cons_zero, List.getElem?_cons_succ, List.getD_cons_zero, List.getD_cons_succ, List.set_cons_zero, List.set_cons_succ, List.nil_append, List.cons_append, Option.toList, Bool.or_false, Bool.false_or, Bool.or_true, Bool.true_or, Nat.reduceBEq, Nat.reduceAdd, Nat.reduceLT, Nat.reduceLeDiff, Int.reduceAdd, Int.reduceToNat, true_and, and_true, Fin.isValue, Fin.val_zero, Fin.val_one, Fin.val_two, Fin.reduceFinMk, eq_self, Int.reduceNeg, imp_self, Nat.reduceMul, Nat.le_refl, not_true_eq_false, not_false_eq_true, List.getElem?_nil, reduceCtorEq, true_or, or_true, Classical.not_not, implies_true, or_self, wI_0, wI_1, wI_m1, b2i_w, b2i_eq0, b2i_eq1, b2i_bool, nor_self, nx_pI, kd_pI, ln_pI, fI_pI, fL_pI, fR_pI, aI_pI, aL_pI, aR_pI, nx_pL, kd_pL, ln_pL, fI_pL, fL_pL, fR_pL, aI_pL, aL_pL, aR_pL, nx_pR, kd_pR, ln_pR, fI_pR, fL_pR, fR_pR, aI_pR, aL_pR, aR_pR, nx_qI, kd_qI, ln_qI, fI_qI, fL_qI, fR_qI, aI_qI, aL_qI, aR_qI, nx_qL, kd_qL, ln_qL, fI_qL, fL_qL, fR_qL, aI_qL, aL_qL, aR_qL, nx_qR, kd_qR, ln_qR, fI_qR, fL_qR, fR_qR, aI_qR, aL_qR, aR_qR, nx_mk, kd_mk, ln_mk, fI_mk, fL_mk, fR_mk, aI_mk, aL_mk, aR_mk, false_and, and_false, if_false, if_true, and_self, Int.reduceEq, Nat.reduceEqDiff, ite_self, MLay_pI, MLay_pL, MLay_qI, MLay_qL, ev_X7_openLine_0, ev_X7_openLine_1, ev_X7_openLine_4, ev_X7_openLine_7, ev_X7_openLine_8, ev_X7_openLine_11, ev_X7_openLine_12, ev_X7_openLine_15, ev_X7_openLine_16, ev_X7_openLine_19, ev_X7_openLine_20, ev_X7_openLine_23, ev_X7_openLine_24, ev_X7_openLine_27, ev_X7_openLine_28, ev_X7_openLine_31, ev_X7_openLine_32, ev_X7_openLine_35, ev_X7_openLine_36, ev_X7_openLine_39, ev_X7_openLine_40, ev_X7_openLine_43, ev_X7_openLine_44, ev_X7_openLine_47, ev_X7_openLine_48, ev_X7_openLine_51, ev_X7_openLine_52, ev_X7_openLine_53, ev_X7_openLine_54, ev_X7_openLine_57, ev_X7_openLine_58, ev_X7_openLine_61, ev_X7_openLine_62, ev_X7_openLine_63, ev_X7_openLine_64, ev_X7_openLine_67, ev_X7_openLine_68, ev_X7_openLine_71, ev_X7_openLine_72, ev_X7_openLine_75, ev_X7_openLine_76, ev_X7_openLine_77, ev_X7_openLine_78, ev_X7_openLine_81, ev_X7_openLine_82, ev_X7_openLine_83, ev_X7_openLine_86, xt_X7_openLine, xf_X7_openLine, hk, h1, h2, h3, h4, g1, l1, g2, l2, g3, l3]
  try simp (disch := omega) only [wI_id, dv_nn, rm_nn]
  repeat' (first | intro z | apply And.intro)
  all_goals try omega
  all_goals try contradiction
  all_goals exact h

def sp_X7_addStep : Sp := fun av σ Q => oR av fun this av => oI av fun x av => av = [] ∧ kd σ this = 8 ∧ (DkO σ this ∧ (1 ≤ fI σ 807 this ∧ fI σ 807 this ≤ 24) ∧ (0 ≤ fI σ 805 this ∧ fI σ 805 this < 1000) ∧ Q none (cAdd σ this x))
theorem us_X7_addStep (this : Int) (x : Int) (σ : Hp) (Q : Option AV → Hp → Prop) : sp_X7_addStep [vr this, vi x] σ Q = (kd σ this = 8 ∧ (DkO σ this ∧ (1 ≤ fI σ 807 this ∧ fI σ 807 this ≤ 24) ∧ (0 ≤ fI σ 805 this ∧ fI σ 805 this < 1000) ∧ Q none (cAdd σ this x))) := propext ⟨fun h => h.2, fun h => ⟨rfl, h⟩⟩
theorem el_X7_addStep {av : List AV} {σ : Hp} {Q : Option AV → Hp → Prop} (h : sp_X7_addStep av σ Q) : ∃ (this : Int) (x : Int), av = [vr this, vi x] ∧ (kd σ this = 8 ∧ (DkO σ this ∧ (1 ≤ fI σ 807 this ∧ fI σ 807 this ≤ 24) ∧ (0 ≤ fI σ 805 this ∧ fI σ 805 this < 1000) ∧ Q none (cAdd σ this x))) := by
  obtain ⟨this, a0, rfl, h0⟩ := oR_s h
  obtain ⟨x, a1, rfl, h1⟩ := oI_s h0
  obtain ⟨rfl, hz⟩ := h1
  exact ⟨this, x, rfl, hz⟩
theorem rc_X7_addStep : ∀ (av : List AV) (σ : Hp) (Q : Option AV → Hp → Prop), sp_X7_addStep av σ Q → ∃ r tl, av = vr r :: tl ∧ kd σ r = 7 + 1 := fun av σ Q h => by
  obtain ⟨this, x, rfl, hz, -⟩ := el_X7_addStep h
  exact ⟨this, _, rfl, hz⟩

def tb_X7_addStep : Tab := [(0, .aload_n 0, 1, (0, 0, 0, 0)), (1, .getfield 34, 3, (8, 807, 0, 0)), (4, .iconst 1, 1, (0, 0, 0, 0)), (5, .isub, 1, (0, 0, 0, 0)), (6, .istore_n 2, 1, (0, 0, 0, 0)), (7, .aload_n 0, 1, (0, 0, 0, 0)), (8, .getfield 27, 3, (8, 805, 0, 0)), (11, .ifCond .lt 58, 3, (0, 0, 0, 0)), (14, .aload_n 0, 1, (0, 0, 0, 0)), (15, .getfield 27, 3, (8, 805, 0, 0)), (18, .aload_n 0, 1, (0, 0, 0, 0)), (19, .getfield 21, 3, (8, 803, 2, 0)), (22, .arraylength, 1, (0, 0, 0, 0)), (23, .if_icmp .ge 46, 3, (0, 0, 0, 0)), (26, .iload_n 2, 1, (0, 0, 0, 0)), (27, .ifCond .lt 42, 3, (0, 0, 0, 0)), (30, .iload_n 2, 1, (0, 0, 0, 0)), (31, .aload_n 0, 1, (0, 0, 0, 0)), (32, .getfield 18, 3, (8, 802, 2, 0)), (35, .arraylength, 1, (0, 0, 0, 0)), (36, .if_icmp .ge 33, 3, (0, 0, 0, 0)), (39, .aload_n 0, 1, (0, 0, 0, 0)), (40, .getfield 21, 3, (8, 803, 2, 0)), (43, .aload_n 0, 1, (0, 0, 0, 0)), (44, .getfield 27, 3, (8, 805, 0, 0)), (47, .iload_n 1, 1, (0, 0, 0, 0)), (48, .iastore, 1, (0, 0, 0, 0)), (49, .aload_n 0, 1, (0, 0, 0, 0)), (50, .dup, 1, (0, 0, 0, 0)), (51, .getfield 27, 3, (8, 805, 0, 0)), (54, .iconst 1, 1, (0, 0, 0, 0)), (55, .iadd, 1, (0, 0, 0, 0)), (56, .putfield 27, 3, (8, 805, 0, 0)), (59, .aload_n 0, 1, (0, 0, 0, 0)), (60, .getfield 18, 3, (8, 802, 2, 0)), (63, .iload_n 2, 1, (0, 0, 0, 0)), (64, .aload_n 0, 1, (0, 0, 0, 0)), (65, .getfield 27, 3, (8, 805, 0, 0)), (68, .iastore, 1, (0, 0, 0, 0)), (69, .return_, 1, (0, 0, 0, 0))]
set_option maxRecDepth 100000 in
theorem tk_X7_addStep : TOK RX7 false cX7_addStep tb_X7_addStep := chkT_ok ft_X7 (by decide +kernel)
def mt_X7_addStep : List (Nat × Mt) := []
theorem mk_X7_addStep : MOK RX7 mt_X7_addStep := fun q hq => by cases hq
noncomputable def xe_X7_addStep (ct : Nat → Bool) (K : Kt) (R : Option AV → Hp → Prop) (n : Nat) : Kt := exS 3 1 0 0 0 tb_X7_addStep mt_X7_addStep ct K R n
noncomputable def xk_X7_addStep (ct : Nat → Bool) (K : Kt) (R : Option AV → Hp → Prop) (n : Nat) : Kt := exkS 3 1 0 0 0 tb_X7_addStep mt_X7_addStep ct K R n
theorem xt_X7_addStep {ct : Nat → Bool} {K : Kt} {R : Option AV → Hp → Prop} {n pc : Nat} {ls : List (Option AV)} {st : List AV} {σ : Hp} {k : Nat × Nat} (h : ct pc = true) : xk_X7_addStep ct K R n pc ls st σ k = K pc ls st σ k := by unfold xk_X7_addStep exkS; rw [h]
theorem xf_X7_addStep {ct : Nat → Bool} {K : Kt} {R : Option AV → Hp → Prop} {n pc : Nat} {ls : List (Option AV)} {st : List AV} {σ : Hp} {k : Nat × Nat} (h : ct pc = false) : xk_X7_addStep ct K R n pc ls st σ k = xe_X7_addStep ct K R n pc ls st σ k := by unfold xk_X7_addStep exkS xe_X7_addStep; rw [h]
theorem ev_X7_addStep_0 {ct : Nat → Bool} {K : Kt} {R : Option AV → Hp → Prop} {n : Nat} {ls : List (Option AV)} {st : List AV} {σ : Hp} {k : Nat × Nat} : xe_X7_addStep ct K R (n + 1) 0 ls st σ k = (lR ls 0 fun x => xk_X7_addStep ct K R n 1 ls (vr x :: st) σ k) := exS_step.trans rfl
theorem ev_X7_addStep_1 {ct : Nat → Bool} {K : Kt} {R : Option AV → Hp → Prop} {n : Nat} {ls : List (Option AV)} {st : List AV} {σ : Hp} {k : Nat × Nat} : xe_X7_addStep ct K R (n + 1) 1 ls st σ k = (oR st fun x st => kd σ x = 8 ∧ xk_X7_addStep ct K R n 4 ls (vi (fI σ 807 x) :: st) σ k) := exS_step.trans rfl
theorem ev_X7_addStep_4 {ct : Nat → Bool} {K : Kt} {R : Option AV → Hp → Prop} {n : Nat} {ls : List (Option AV)} {st : List AV} {σ : Hp} {k : Nat × Nat} : xe_X7_addStep ct K R (n + 1) 4 ls st σ k = (xk_X7_addStep ct K R n 5 ls (vi (1) :: st) σ k) := exS_step.trans rfl
theorem ev_X7_addStep_5 {ct : Nat → Bool} {K : Kt} {R : Option AV → Hp → Prop} {n : Nat} {ls : List (Option AV)} {st : List AV} {σ : Hp} {k : Nat × Nat} : xe_X7_addStep ct K R (n + 1) 5 ls st σ k = (oI st fun y st => oI st fun x st => xk_X7_addStep ct K R n 6 ls (vi (x - y) :: st) σ k) := exS_step.trans rfl
theorem ev_X7_addStep_6 {ct : Nat → Bool} {K : Kt} {R : Option AV → Hp → Prop} {n : Nat} {ls : List (Option AV)} {st : List AV} {σ : Hp} {k : Nat × Nat} : xe_X7_addStep ct K R (n + 1) 6 ls st σ k = (oI st fun x st => 2 < 3 ∧ xk_X7_addStep ct K R n 7 (stL ls 2 (vi x)) st σ k) := exS_step.trans rfl
theorem ev_X7_addStep_7 {ct : Nat → Bool} {K : Kt} {R : Option AV → Hp → Prop} {n : Nat} {ls : List (Option AV)} {st : List AV} {σ : Hp} {k : Nat × Nat} : xe_X7_addStep ct K R (n + 1) 7 ls st σ k = (lR ls 0 fun x => xk_X7_addStep ct K R n 8 ls (vr x :: st) σ k) := exS_step.trans rfl
theorem ev_X7_addStep_8 {ct : Nat → Bool} {K : Kt} {R : Option AV → Hp → Prop} {n : Nat} {ls : List (Option AV)} {st : List AV} {σ : Hp} {k : Nat × Nat} : xe_X7_addStep ct K R (n + 1) 8 ls st σ k = (oR st fun x st => kd σ x = 8 ∧ xk_X7_addStep ct K R n 11 ls (vi (fI σ 805 x) :: st) σ k) := exS_step.trans rfl
theorem ev_X7_addStep_11 {ct : Nat → Bool} {K : Kt} {R : Option AV → Hp → Prop} {n : Nat} {ls : List (Option AV)} {st : List AV} {σ : Hp} {k : Nat × Nat} : xe_X7_addStep ct K R (n + 1) 11 ls st σ k = (oI st fun x st => (wI x < wI 0 → xk_X7_addStep ct K R n 69 ls st σ k) ∧ (¬ (wI x < wI 0) → xk_X7_addStep ct K R n 14 ls st σ k)) := exS_step.trans rfl
theorem ev_X7_addStep_14 {ct : Nat → Bool} {K : Kt} {R : Option AV → Hp → Prop} {n : Nat} {ls : List (Option AV)} {st : List AV} {σ : Hp} {k : Nat × Nat} : xe_X7_addStep ct K R (n + 1) 14 ls st σ k = (lR ls 0 fun x => xk_X7_addStep ct K R n 15 ls (vr x :: st) σ k) := exS_step.trans rfl
theorem ev_X7_addStep_15 {ct : Nat → Bool} {K : Kt} {R : Option AV → Hp → Prop} {n : Nat} {ls : List (Option AV)} {st : List AV} {σ : Hp} {k : Nat × Nat} : xe_X7_addStep ct K R (n + 1) 15 ls st σ k = (oR st fun x st => kd σ x = 8 ∧ xk_X7_addStep ct K R n 18 ls (vi (fI σ 805 x) :: st) σ k) := exS_step.trans rfl
theorem ev_X7_addStep_18 {ct : Nat → Bool} {K : Kt} {R : Option AV → Hp → Prop} {n : Nat} {ls : List (Option AV)} {st : List AV} {σ : Hp} {k : Nat × Nat} : xe_X7_addStep ct K R (n + 1) 18 ls st σ k = (lR ls 0 fun x => xk_X7_addStep ct K R n 19 ls (vr x :: st) σ k) := exS_step.trans rfl
theorem ev_X7_addStep_19 {ct : Nat → Bool} {K : Kt} {R : Option AV → Hp → Prop} {n : Nat} {ls : List (Option AV)} {st : List AV} {σ : Hp} {k : Nat × Nat} : xe_X7_addStep ct K R (n + 1) 19 ls st σ k = (oR st fun x st => kd σ x = 8 ∧ xk_X7_addStep ct K R n 22 ls (vr (fR σ 803 x) :: st) σ k) := exS_step.trans rfl
theorem ev_X7_addStep_22 {ct : Nat → Bool} {K : Kt} {R : Option AV → Hp → Prop} {n : Nat} {ls : List (Option AV)} {st : List AV} {σ : Hp} {k : Nat × Nat} : xe_X7_addStep ct K R (n + 1) 22 ls st σ k = (oR st fun x st => (101 ≤ kd σ x ∨ kd σ x = 21) ∧ xk_X7_addStep ct K R n 23 ls (vi (ln σ x) :: st) σ k) := exS_step.trans rfl
theorem ev_X7_addStep_23 {ct : Nat → Bool} {K : Kt} {R : Option AV → Hp → Prop} {n : Nat} {ls : List (Option AV)} {st : List AV} {σ : Hp} {k : Nat × Nat} : xe_X7_addStep ct K R (n + 1) 23 ls st σ k = (oI st fun y st => oI st fun x st => (wI y ≤ wI x → xk_X7_addStep ct K R n 69 ls st σ k) ∧ (¬ (wI y ≤ wI x) → xk_X7_addStep ct K R n 26 ls st σ k)) := exS_step.trans rfl
theorem ev_X7_addStep_26 {ct : Nat → Bool} {K : Kt} {R : Option AV → Hp → Prop} {n : Nat} {ls : List (Option AV)} {st : List AV} {σ : Hp} {k : Nat × Nat} : xe_X7_addStep ct K R (n + 1) 26 ls st σ k = (lI ls 2 fun x => xk_X7_addStep ct K R n 27 ls (vi x :: st) σ k) := exS_step.trans rfl
theorem ev_X7_addStep_27 {ct : Nat → Bool} {K : Kt} {R : Option AV → Hp → Prop} {n : Nat} {ls : List (Option AV)} {st : List AV} {σ : Hp} {k : Nat × Nat} : xe_X7_addStep ct K R (n + 1) 27 ls st σ k = (oI st fun x st => (wI x < wI 0 → xk_X7_addStep ct K R n 69 ls st σ k) ∧ (¬ (wI x < wI 0) → xk_X7_addStep ct K R n 30 ls st σ k)) := exS_step.trans rfl
theorem ev_X7_addStep_30 {ct : Nat → Bool} {K : Kt} {R : Option AV → Hp → Prop} {n : Nat} {ls : List (Option AV)} {st : List AV} {σ : Hp} {k : Nat × Nat} : xe_X7_addStep ct K R (n + 1) 30 ls st σ k = (lI ls 2 fun x => xk_X7_addStep ct K R n 31 ls (vi x :: st) σ k) := exS_step.trans rfl
theorem ev_X7_addStep_31 {ct : Nat → Bool} {K : Kt} {R : Option AV → Hp → Prop} {n : Nat} {ls : List (Option AV)} {st : List AV} {σ : Hp} {k : Nat × Nat} : xe_X7_addStep ct K R (n + 1) 31 ls st σ k = (lR ls 0 fun x => xk_X7_addStep ct K R n 32 ls (vr x :: st) σ k) := exS_step.trans rfl
theorem ev_X7_addStep_32 {ct : Nat → Bool} {K : Kt} {R : Option AV → Hp → Prop} {n : Nat} {ls : List (Option AV)} {st : List AV} {σ : Hp} {k : Nat × Nat} : xe_X7_addStep ct K R (n + 1) 32 ls st σ k = (oR st fun x st => kd σ x = 8 ∧ xk_X7_addStep ct K R n 35 ls (vr (fR σ 802 x) :: st) σ k) := exS_step.trans rfl
theorem ev_X7_addStep_35 {ct : Nat → Bool} {K : Kt} {R : Option AV → Hp → Prop} {n : Nat} {ls : List (Option AV)} {st : List AV} {σ : Hp} {k : Nat × Nat} : xe_X7_addStep ct K R (n + 1) 35 ls st σ k = (oR st fun x st => (101 ≤ kd σ x ∨ kd σ x = 21) ∧ xk_X7_addStep ct K R n 36 ls (vi (ln σ x) :: st) σ k) := exS_step.trans rfl
theorem ev_X7_addStep_36 {ct : Nat → Bool} {K : Kt} {R : Option AV → Hp → Prop} {n : Nat} {ls : List (Option AV)} {st : List AV} {σ : Hp} {k : Nat × Nat} : xe_X7_addStep ct K R (n + 1) 36 ls st σ k = (oI st fun y st => oI st fun x st => (wI y ≤ wI x → xk_X7_addStep ct K R n 69 ls st σ k) ∧ (¬ (wI y ≤ wI x) → xk_X7_addStep ct K R n 39 ls st σ k)) := exS_step.trans rfl
theorem ev_X7_addStep_39 {ct : Nat → Bool} {K : Kt} {R : Option AV → Hp → Prop} {n : Nat} {ls : List (Option AV)} {st : List AV} {σ : Hp} {k : Nat × Nat} : xe_X7_addStep ct K R (n + 1) 39 ls st σ k = (lR ls 0 fun x => xk_X7_addStep ct K R n 40 ls (vr x :: st) σ k) := exS_step.trans rfl
theorem ev_X7_addStep_40 {ct : Nat → Bool} {K : Kt} {R : Option AV → Hp → Prop} {n : Nat} {ls : List (Option AV)} {st : List AV} {σ : Hp} {k : Nat × Nat} : xe_X7_addStep ct K R (n + 1) 40 ls st σ k = (oR st fun x st => kd σ x = 8 ∧ xk_X7_addStep ct K R n 43 ls (vr (fR σ 803 x) :: st) σ k) := exS_step.trans rfl
theorem ev_X7_addStep_43 {ct : Nat → Bool} {K : Kt} {R : Option AV → Hp → Prop} {n : Nat} {ls : List (Option AV)} {st : List AV} {σ : Hp} {k : Nat × Nat} : xe_X7_addStep ct K R (n + 1) 43 ls st σ k = (lR ls 0 fun x => xk_X7_addStep ct K R n 44 ls (vr x :: st) σ k) := exS_step.trans rfl
theorem ev_X7_addStep_44 {ct : Nat → Bool} {K : Kt} {R : Option AV → Hp → Prop} {n : Nat} {ls : List (Option AV)} {st : List AV} {σ : Hp} {k : Nat × Nat} : xe_X7_addStep ct K R (n + 1) 44 ls st σ k = (oR st fun x st => kd σ x = 8 ∧ xk_X7_addStep ct K R n 47 ls (vi (fI σ 805 x) :: st) σ k) := exS_step.trans rfl
theorem ev_X7_addStep_47 {ct : Nat → Bool} {K : Kt} {R : Option AV → Hp → Prop} {n : Nat} {ls : List (Option AV)} {st : List AV} {σ : Hp} {k : Nat × Nat} : xe_X7_addStep ct K R (n + 1) 47 ls st σ k = (lI ls 1 fun x => xk_X7_addStep ct K R n 48 ls (vi x :: st) σ k) := exS_step.trans rfl
theorem ev_X7_addStep_48 {ct : Nat → Bool} {K : Kt} {R : Option AV → Hp → Prop} {n : Nat} {ls : List (Option AV)} {st : List AV} {σ : Hp} {k : Nat × Nat} : xe_X7_addStep ct K R (n + 1) 48 ls st σ k = (oI st fun v st => oI st fun j st => oR st fun x st => kd σ x = 101 ∧ (0 ≤ j ∧ j < ln σ x) ∧ xk_X7_addStep ct K R n 49 ls st (qI σ x j v) k) := exS_step.trans rfl
theorem ev_X7_addStep_49 {ct : Nat → Bool} {K : Kt} {R : Option AV → Hp → Prop} {n : Nat} {ls : List (Option AV)} {st : List AV} {σ : Hp} {k : Nat × Nat} : xe_X7_addStep ct K R (n + 1) 49 ls st σ k = (lR ls 0 fun x => xk_X7_addStep ct K R n 50 ls (vr x :: st) σ k) := exS_step.trans rfl
theorem ev_X7_addStep_50 {ct : Nat → Bool} {K : Kt} {R : Option AV → Hp → Prop} {n : Nat} {ls : List (Option AV)} {st : List AV} {σ : Hp} {k : Nat × Nat} : xe_X7_addStep ct K R (n + 1) 50 ls st σ k = (o1 st fun v st => xk_X7_addStep ct K R n 51 ls (v :: v :: st) σ k) := exS_step.trans rfl
theorem ev_X7_addStep_51 {ct : Nat → Bool} {K : Kt} {R : Option AV → Hp → Prop} {n : Nat} {ls : List (Option AV)} {st : List AV} {σ : Hp} {k : Nat × Nat} : xe_X7_addStep ct K R (n + 1) 51 ls st σ k = (oR st fun x st => kd σ x = 8 ∧ xk_X7_addStep ct K R n 54 ls (vi (fI σ 805 x) :: st) σ k) := exS_step.trans rfl
theorem ev_X7_addStep_54 {ct : Nat → Bool} {K : Kt} {R : Option AV → Hp → Prop} {n : Nat} {ls : List (Option AV)} {st : List AV} {σ : Hp} {k : Nat × Nat} : xe_X7_addStep ct K R (n + 1) 54 ls st σ k = (xk_X7_addStep ct K R n 55 ls (vi (1) :: st) σ k) := exS_step.trans rfl
theorem ev_X7_addStep_55 {ct : Nat → Bool} {K : Kt} {R : Option AV → Hp → Prop} {n : Nat} {ls : List (Option AV)} {st : List AV} {σ : Hp} {k : Nat × Nat} : xe_X7_addStep ct K R (n + 1) 55 ls st σ k = (oI st fun y st => oI st fun x st => xk_X7_addStep ct K R n 56 ls (vi (x + y) :: st) σ k) := exS_step.trans rfl
theorem ev_X7_addStep_56 {ct : Nat → Bool} {K : Kt} {R : Option AV → Hp → Prop} {n : Nat} {ls : List (Option AV)} {st : List AV} {σ : Hp} {k : Nat × Nat} : xe_X7_addStep ct K R (n + 1) 56 ls st σ k = (oI st fun v st => oR st fun x st => kd σ x = 8 ∧ xk_X7_addStep ct K R n 59 ls st (pI σ 805 x v) k) := exS_step.trans rfl
theorem ev_X7_addStep_59 {ct : Nat → Bool} {K : Kt} {R : Option AV → Hp → Prop} {n : Nat} {ls : List (Option AV)} {st : List AV} {σ : Hp} {k : Nat × Nat} : xe_X7_addStep ct K R (n + 1) 59 ls st σ k = (lR ls 0 fun x => xk_X7_addStep ct K R n 60 ls (vr x :: st) σ k) := exS_step.trans rfl
theorem ev_X7_addStep_60 {ct : Nat → Bool} {K : Kt} {R : Option AV → Hp → Prop} {n : Nat} {ls : List (Option AV)} {st : List AV} {σ : Hp} {k : Nat × Nat} : xe_X7_addStep ct K R (n + 1) 60 ls st σ k = (oR st fun x st => kd σ x = 8 ∧ xk_X7_addStep ct K R n 63 ls (vr (fR σ 802 x) :: st) σ k) := exS_step.trans rfl
theorem ev_X7_addStep_63 {ct : Nat → Bool} {K : Kt} {R : Option AV → Hp → Prop} {n : Nat} {ls : List (Option AV)} {st : List AV} {σ : Hp} {k : Nat × Nat} : xe_X7_addStep ct K R (n + 1) 63 ls st σ k = (lI ls 2 fun x => xk_X7_addStep ct K R n 64 ls (vi x :: st) σ k) := exS_step.trans rfl
theorem ev_X7_addStep_64 {ct : Nat → Bool} {K : Kt} {R : Option AV → Hp → Prop} {n : Nat} {ls : List (Option AV)} {st : List AV} {σ : Hp} {k : Nat × Nat} : xe_X7_addStep ct K R (n + 1) 64 ls st σ k = (lR ls 0 fun x => xk_X7_addStep ct K R n 65 ls (vr x :: st) σ k) := exS_step.trans rfl
theorem ev_X7_addStep_65 {ct : Nat → Bool} {K : Kt} {R : Option AV → Hp → Prop} {n : Nat} {ls : List (Option AV)} {st : List AV} {σ : Hp} {k : Nat × Nat} : xe_X7_addStep ct K R (n + 1) 65 ls st σ k = (oR st fun x st => kd σ x = 8 ∧ xk_X7_addStep ct K R n 68 ls (vi (fI σ 805 x) :: st) σ k) := exS_step.trans rfl
theorem ev_X7_addStep_68 {ct : Nat → Bool} {K : Kt} {R : Option AV → Hp → Prop} {n : Nat} {ls : List (Option AV)} {st : List AV} {σ : Hp} {k : Nat × Nat} : xe_X7_addStep ct K R (n + 1) 68 ls st σ k = (oI st fun v st => oI st fun j st => oR st fun x st => kd σ x = 101 ∧ (0 ≤ j ∧ j < ln σ x) ∧ xk_X7_addStep ct K R n 69 ls st (qI σ x j v) k) := exS_step.trans rfl
theorem ev_X7_addStep_69 {ct : Nat → Bool} {K : Kt} {R : Option AV → Hp → Prop} {n : Nat} {ls : List (Option AV)} {st : List AV} {σ : Hp} {k : Nat × Nat} : xe_X7_addStep ct K R (n + 1) 69 ls st σ k = (st = [] ∧ 0 = 0 ∧ R none σ) := exS_step.trans rfl
def M_X7_addStep : Md := (yX7_addStep, cX7_addStep, 3, (none : Option FieldType), 1, 0, 0, 0, false, tb_X7_addStep, mt_X7_addStep)
theorem mm_X7_addStep : MMOK M_X7_addStep := ⟨by decide +kernel, tk_X7_addStep, mk_X7_addStep, rfl, fun h => by cases h⟩
theorem go_X7_addStep {Q : Option AV → Hp → Prop} {ct : Nat → Bool} {pc : Nat} {ls : List (Option AV)} {st : List AV} {σ : Hp} {k : Nat × Nat} (n : Nat) (h : xe_X7_addStep ct (Go M_X7_addStep Q) Q n pc ls st σ k) : Go M_X7_addStep Q pc ls st σ k := Go.exS mm_X7_addStep h

set_option maxRecDepth 20000 in
theorem c_X7_addStep : Ct yX7_addStep cX7_addStep 3 ((none : Option FieldType)) 1 0 0 sp_X7_addStep := by
  refine Ct.go (M := M_X7_addStep) mm_X7_addStep fun av σ Q h0 => ?_
  obtain ⟨this, x, rfl, hk, h⟩ := el_X7_addStep h0
  clear h0
  refine ⟨Nat.le_of_ble_eq_true rfl, ?_⟩
  show Go M_X7_addStep Q 0 [some (vr this), some (vi x), none] [] σ (0, 0)
  obtain ⟨⟨-, ⟨h1, h2, h3, h4, -⟩, ⟨g1, l1⟩, ⟨g2, l2⟩, ⟨g3, l3⟩, ⟨g4, l4⟩, -⟩, hl, hs, h⟩ := h
  unfold cAdd at h
  refine go_X7_addStep (ct := fun p => p == 99) 60 ?_
  simp only [oI, oL, oR, o1, lI, lL, lR, popN, catS, gv, stL, stL2, swt, cnd, spObj, List.getElem?_cons_zero, List.getElem?_cons_succ, List.getD_cons_zero, List.getD_cons_succ, List.set_cons_zero, List.set_cons_succ, List.nil_append, List.cons_append, Option.toList, Bool.or_false, Bool.false_or, Bool.or_true, Bool.true_or, Nat.reduceBEq, Nat.reduceAdd, Nat.reduceLT, Nat.reduceLeDiff, Int.reduceAdd, Int.reduceToNat, true_and, and_true, Fin.isValue, Fin.val_zero, Fin.val_one, Fin.val_two, Fin.reduceFinMk, eq_self, Int.reduceNeg, imp_self, Nat.reduceMul, Nat.le_refl, not_true_eq_false, not_false_eq_true, List.getElem?_nil, reduceCtorEq, true_or, or_true, Classical.not_not, implies_true, or_self, wI_0, wI_1, wI_m1, b2i_w, b2i_eq0, b2i_eq1, b2i_bool, nor_self, nx_pI, kd_pI, ln_pI, fI_pI, fL_pI, fR_pI, aI_pI, aL_pI, aR_pI, nx_pL, kd_pL, ln_pL, fI_pL, fL_pL, fR_pL, aI_pL, aL_pL, aR_pL, nx_pR, kd_pR, ln_pR, fI_pR, fL_pR, fR_pR, aI_pR, aL_pR, aR_pR, nx_qI, kd_qI, ln_qI, fI_qI, fL_qI, fR_qI, aI_qI, aL_qI, aR_qI, nx_qL, kd_qL, ln_qL, fI_qL, fL_qL, fR_qL, aI_qL, aL_qL, aR_qL, nx_qR, kd_qR, ln_qR, fI_qR, fL_qR, fR_qR, aI_qR, aL_qR, aR_qR, nx_mk, kd_mk, ln_mk, fI_mk, fL_mk, fR_mk, aI_mk, aL_mk, aR_mk, false_and, and_false, if_false, if_true, and_self, Int.reduceEq, Nat.reduceEqDiff, ite_self, MLay_pI, MLay_pL, MLay_qI, MLay_qL, ev_X7_addStep_0, ev_X7_addStep_1, ev_X7_addStep_4, ev_X7_addStep_5, ev_X7_addStep_6, ev_X7_addStep_7, ev_X7_addStep_8, ev_X7_addStep_11, ev_X7_addStep_14, ev_X7_addStep_15, ev_X7_addStep_18, ev_X7_addStep_19, ev_X7_addStep_22, ev_X7_addStep_23, ev_X7_addStep_26, ev_X7_addStep_27, ev_X7_addStep_30, ev_X7_addStep_31, ev_X7_addStep_32, ev_X7_addStep_35, ev_X7_addStep_36, ev_X7_addStep_39, ev_X7_addStep_40, ev_X7_addStep_43, ev_X7_addStep_44, ev_X7_addStep_47, ev_X7_addStep_48, ev_X7_addStep_49, ev_X7_addStep_50, ev_X7_addStep_51, ev_X7_addStep_54, ev_X7_addStep_55, ev_X7_addStep_56, ev_X7_addStep_59, ev_X7_addStep_60, ev_X7_addStep_63, ev_X7_addStep_64, ev_X7_addStep_65, ev_X7_addStep_68, ev_X7_addStep_69, xt_X7_addStep, xf_X7_addStep, hk, h1, h2, h3, h4, g1, l1, g2, l2, g3, l3, g4, l4]
  try simp (disch := omega) only [wI_id, dv_nn, rm_nn]
  repeat' (first | intro z | apply And.intro)
  all_goals try omega
  all_goals try contradiction
  all_goals exact h

theorem ofS_app {css : List (List Int)} (ss : List Int) {l : Nat} (h : l ≤ css.length) : ofS (css ++ [ss]) l = ofS css l := by
  unfold ofS
  rw [List.take_append_of_le_length h]
theorem ofS_end (css : List (List Int)) : ofS css css.length = css.flatten.length := by
  unfold ofS
  rw [List.take_length]
def cntS (css : List (List Int)) (ss : List Int) : Int := ((css ++ [ss]).flatten.length : Nat)
theorem cnt_is (css : List (List Int)) (ss : List Int) : cntS css ss = css.flatten.length + ss.length := by
  unfold cntS
  rw [List.flatten_append, List.length_append, List.flatten_singleton]
  omega
theorem cnt_app (css : List (List Int)) (ss xs : List Int) : cntS css (ss ++ xs) = cntS css ss + xs.length := by
  rw [cnt_is, cnt_is, List.length_append]
  omega
theorem DkS.add {σ : Hp} {D : Int} {css : List (List Int)} {ss : List Int} (h : DkS σ D (css ++ [ss])) (hc : cntS css ss < 1000) (x : Int) : DkS (cAdd σ D x) D (css ++ [ss ++ [x]]) := by
  obtain ⟨⟨h1, h2, h3, h4, h5⟩, h6⟩ := h
  have hc2 := cnt_is css ss
  have hl : ∀ ys : List Int, (css ++ [ys]).length = css.length + 1 := fun ys => by rw [List.length_append, List.length_singleton]
  have hf : ∀ ys : List Int, (css ++ [ys]).flatten = css.flatten ++ ys := fun ys => by rw [List.flatten_append, List.flatten_singleton]
  rw [hl] at h1 h2 h4
  rw [hf, List.length_append] at h3 h6
  rw [hf] at h5
  have k1 : fI (cAdd σ D x) 807 D = fI σ 807 D := by unfold cAdd; rw [fI_qI, fI_pI, if_neg (fun q => absurd q.1 (by decide)), fI_qI]
  have k2 : fI (cAdd σ D x) 805 D = fI σ 805 D + 1 := by unfold cAdd; rw [fI_qI, fI_pI, if_pos ⟨rfl, rfl⟩]
  have k3 : ∀ j, aI (cAdd σ D x) (D + 3) j = if j = fI σ 807 D - 1 then fI σ 805 D + 1 else aI σ (D + 3) j := fun j => by
    unfold cAdd
    rw [aI_qI]
    by_cases e : j = fI σ 807 D - 1
    · rw [if_pos ⟨rfl, e⟩, if_pos e]
    · rw [if_neg (fun q => e q.2), if_neg e, aI_pI, aI_qI, if_neg (by omega)]
  have k4 : ∀ j, aI (cAdd σ D x) (D + 4) j = if j = fI σ 805 D then x else aI σ (D + 4) j := fun j => by
    unfold cAdd
    rw [aI_qI, if_neg (by omega), aI_pI, aI_qI]
    by_cases e : j = fI σ 805 D
    · rw [if_pos ⟨rfl, e⟩, if_pos e]
    · rw [if_neg (fun q => e q.2), if_neg e]
  refine ⟨⟨by rw [k1, hl]; exact h1, by rw [hl]; exact h2, ?_, fun l hl2 => ?_, fun k c hk => ?_⟩, ?_⟩
  · rw [hf, List.length_append, List.length_append, List.length_singleton]; omega
  · rw [hl] at hl2
    rw [k3]
    have h4 := h4 l hl2
    by_cases e : l = css.length
    · rw [if_pos (by omega), e, show css.length + 1 = (css ++ [ss ++ [x]]).length from (hl _).symm, ofS_end, hf, List.length_append, List.length_append, List.length_singleton, h6]
      omega
    · rw [if_neg (by omega), h4, ofS_app ss (by omega), ofS_app (ss ++ [x]) (by omega)]
  · rw [hf, ← List.append_assoc] at hk
    rw [k4]
    have ek : (css.flatten ++ ss).length = css.flatten.length + ss.length := List.length_append
    by_cases e : k < (css.flatten ++ ss).length
    · rw [List.getElem?_append_left e] at hk
      rw [if_neg (by omega)]
      exact h5 k c hk
    · rw [List.getElem?_append_right (by omega)] at hk
      have e2 : k - (css.flatten ++ ss).length = 0 := by
        have := (List.getElem?_eq_some_iff.mp hk).1
        rw [List.length_singleton] at this
        omega
      rw [e2] at hk
      have hk : some x = some c := hk
      cases hk
      rw [if_pos (by omega)]
  · rw [k2, h6, hf, List.length_append, List.length_append, List.length_singleton]
    omega
theorem DkS.opn {σ : Hp} {D : Int} {css : List (List Int)} (h : DkS σ D css) (hc : css.length < 24) (n m : Int) : DkS (cOpn σ D n m) D (css ++ [[]]) ∧ (∀ j, aI (cOpn σ D n m) (D + 1) j = if j = css.length then n else aI σ (D + 1) j) ∧ (∀ j, aI (cOpn σ D n m) (D + 2) j = if j = css.length then m else aI σ (D + 2) j) := by
  obtain ⟨⟨h1, h2, h3, h4, h5⟩, h6⟩ := h
  have hl : (css ++ [([] : List Int)]).length = css.length + 1 := by rw [List.length_append, List.length_singleton]
  have hf : (css ++ [([] : List Int)]).flatten = css.flatten := by rw [List.flatten_append, List.flatten_singleton, List.append_nil]
  have k1 : fI (cOpn σ D n m) 807 D = fI σ 807 D + 1 := by unfold cOpn; rw [fI_pI, if_pos ⟨rfl, rfl⟩]
  have k2 : fI (cOpn σ D n m) 805 D = fI σ 805 D := by unfold cOpn; rw [fI_pI, if_neg (fun q => absurd q.1 (by decide)), fI_qI, fI_qI, fI_qI]
  have k3 : ∀ j, aI (cOpn σ D n m) (D + 3) j = if j = fI σ 807 D then fI σ 805 D else aI σ (D + 3) j := fun j => by
    unfold cOpn
    rw [aI_pI, aI_qI]
    by_cases e : j = fI σ 807 D
    · rw [if_pos ⟨rfl, e⟩, if_pos e]
    · rw [if_neg (fun q => e q.2), if_neg e, aI_qI, if_neg (by omega), aI_qI, if_neg (by omega)]
  have k4 : ∀ j, aI (cOpn σ D n m) (D + 4) j = aI σ (D + 4) j := fun j => by
    unfold cOpn
    rw [aI_pI, aI_qI, if_neg (by omega), aI_qI, if_neg (by omega), aI_qI, if_neg (by omega)]
  refine ⟨⟨⟨by rw [k1, hl, h1]; omega, by rw [hl]; omega, by rw [hf]; exact h3, fun l hl2 => ?_, fun k c hk => ?_⟩, by rw [k2, hf]; exact h6⟩, fun j => ?_, fun j => ?_⟩
  · rw [hl] at hl2
    rw [k3]
    by_cases e : l = css.length
    · rw [if_pos (by omega), e, show css.length + 1 = (css ++ [([] : List Int)]).length from hl.symm, ofS_end, hf, h6]
    · rw [if_neg (by omega), h4 l (by omega), ofS_app [] (by omega)]
  · rw [hf] at hk
    rw [k4]
    exact h5 k c hk
  · unfold cOpn
    rw [aI_pI, aI_qI, if_neg (by omega), aI_qI, if_neg (by omega), aI_qI, h1]
    by_cases e : j = css.length
    · rw [if_pos ⟨rfl, e⟩, if_pos e]
    · rw [if_neg (fun q => e q.2), if_neg e]
  · unfold cOpn
    rw [aI_pI, aI_qI, if_neg (by omega), aI_qI, h1]
    by_cases e : j = css.length
    · rw [if_pos ⟨rfl, e⟩, if_pos e]
    · rw [if_neg (fun q => e q.2), if_neg e, aI_qI, if_neg (by omega)]
theorem DkS.clr (σ : Hp) (D : Int) : DkS (cClr σ D) D [] := by
  have k1 : fI (cClr σ D) 807 D = 0 := by unfold cClr; rw [fI_pI, if_neg (fun q => absurd q.1 (by decide)), fI_pI, if_pos ⟨rfl, rfl⟩]
  have k2 : fI (cClr σ D) 805 D = 0 := by unfold cClr; rw [fI_pI, if_pos ⟨rfl, rfl⟩]
  exact ⟨⟨k1, by decide, by decide, fun l h => absurd h (Nat.not_lt_zero _), fun k c h => (by cases h)⟩, k2⟩
theorem DkS.fz {fs : List Nat} {ars als : Int → Prop} {σ σ' : Hp} {D : Int} {css : List (List Int)} (h : DkS σ D css) (z : Fz fs ars als σ σ') (h1 : 807 ∉ fs) (h2 : 805 ∉ fs) (h3 : ¬ ars (D + 3)) (h4 : ¬ ars (D + 4)) : DkS σ' D css := by
  unfold DkS DkL at *
  rw [z.fI h1, z.fI h2, z.aI h3, z.aI h4]
  exact h
/-- what a card reader's step may change -/
abbrev rfF : List Nat := [502, 503, 504, 505, 506, 507, 805]
def dkA (D : Int) (r : Int) : Prop := r = D + 3 ∨ r = D + 4
abbrev RF (D : Int) (σ σ' : Hp) : Prop := Fz rfF (dkA D) noR σ σ'
theorem Fz_rd {D : Int} {σ σ' : Hp} (z : Fz tkF noR noR σ σ') : RF D σ σ' := z.up (by decide) (fun r q => absurd q id) (fun r q => q)
theorem Fz_add (σ : Hp) (D x : Int) : RF D σ (cAdd σ D x) := by
  unfold cAdd
  exact ((Fz_qI (fs := rfF) (ars := dkA D) (als := noR) _ _ _ (Or.inr rfl)).tr (Fz_pI _ _ _ (by decide))).tr (Fz_qI _ _ _ (Or.inl rfl))
/-- the reader at work: letters L, size z, the deck D, its lines -/
def RdL (L : Int → Int) (z D : Int) (css : List (List Int)) (σ : Hp) : Prop := CLay σ ∧ TXT σ ∧ LTT σ ∧ aI σ 25 = L ∧ fI σ 901 24 = z ∧ fR σ 501 26 = D ∧ (D = 33 ∨ D = 39) ∧ DkS σ D css ∧ fI σ 507 26 = 0
/-- and the last one's steps -/
abbrev RdB (L : Int → Int) (z D : Int) (css : List (List Int)) (ss : List Int) (σ : Hp) : Prop := RdL L z D (css ++ [ss]) σ
/-- and where it stands -/
def RS (L : Int → Int) (z D : Int) (css : List (List Int)) (ss : List Int) (p : Int) (σ : Hp) : Prop := RdB L z D css ss σ ∧ RD σ p
theorem dkA.k {σ : Hp} {D : Int} (hC : CLay σ) (hD : D = 33 ∨ D = 39) : ∀ r, dkA D r → kd σ r ≠ 21 := fun r q => by
  have dk := DkO.of hC hD
  rcases q with q | q
  · rw [q, dk.2.2.2.2.1.1]; decide
  · rw [q, dk.2.2.2.2.2.1.1]; decide
theorem RdL.fz {fs : List Nat} {L : Int → Int} {z D : Int} {css : List (List Int)} {σ σ' : Hp} (h : RdL L z D css σ) (y : Fz fs noR noR σ σ') (hf : ∀ f ∈ fs, f ∈ 506 :: tkF) : RdL L z D css σ' := by
  obtain ⟨h1, h2, h3, h4, h5, h6, h7, h8, h9⟩ := h
  have y : Fz (506 :: tkF) noR noR σ σ' := y.up hf (fun r q => q) (fun r q => q)
  have t := h3.fz y (by decide) (fun q => q)
  exact ⟨h1.fz y (by decide), h2.fz y (by decide) (fun r q => absurd q id), t.1, t.2.2.trans h4, t.2.1.trans h5, by rw [y.fR (by decide)]; exact h6, h7, h8.fz y (by decide) (by decide) (fun q => q) (fun q => q), by rw [y.fI (by decide)]; exact h9⟩
theorem RdL.rd {L : Int → Int} {z D : Int} {css : List (List Int)} {σ σ' : Hp} (h : RdL L z D css σ) (y : Fz tkF noR noR σ σ') : RdL L z D css σ' := h.fz y (fun f q => List.mem_cons_of_mem _ q)
theorem RD.fz {fs : List Nat} {ars als : Int → Prop} {σ σ' : Hp} {p : Int} (h : RD σ p) (z : Fz fs ars als σ σ') (hf : ∀ f ∈ fs, f ∉ [901, 503, 504, 502, 505]) (ha : ¬ ars 25) : RD σ' p := by
  have hn : ∀ f ∈ [901, 503, 504, 502, 505], f ∉ fs := fun f h1 h2 => hf f h2 h1
  simp only [List.forall_mem_cons, List.not_mem_nil, false_implies, implies_true, and_true] at hn
  obtain ⟨n1, n2, n3, n4, n5⟩ := hn
  unfold RD LTT at *
  rw [z.fI n1, z.fI n2, z.fI n3, z.fI n4, z.fI n5, z.aI ha]
  exact h
theorem RdL.dr {L : Int → Int} {z D : Int} {css : List (List Int)} {ss : List Int} {σ : Hp} (h : RdL L z D (css ++ [ss]) σ) (hc : cntS css ss < 1000) (hn : 0 ≤ cntS css ss) : (1 ≤ fI σ 807 D ∧ fI σ 807 D ≤ 24) ∧ (0 ≤ fI σ 805 D ∧ fI σ 805 D < 1000) := by
  obtain ⟨-, -, -, -, -, -, -, ⟨⟨h1, h2, -⟩, h3⟩, -⟩ := h
  rw [List.length_append, List.length_singleton] at h1 h2
  unfold cntS at hc hn
  omega
theorem cnt_nn (css : List (List Int)) (ss : List Int) : 0 ≤ cntS css ss := by unfold cntS; omega
theorem RS.add {L : Int → Int} {z D p : Int} {css : List (List Int)} {ss : List Int} {σ : Hp} (h : RS L z D css ss p σ) (hc : cntS css ss < 1000) (x : Int) : RS L z D css (ss ++ [x]) p (cAdd σ D x) := by
  obtain ⟨⟨h1, h2, h3, h4, h5, h6, h7, h8, h9⟩, hR⟩ := h
  have y := Fz_add σ D x
  have n25 : ¬ dkA D 25 := by unfold dkA; omega
  have t := h3.fz y (by decide) n25
  have y2 : Fz [805] (dkA D) noR σ (cAdd σ D x) := by
    unfold cAdd
    exact ((Fz_qI (fs := [805]) (ars := dkA D) (als := noR) _ _ _ (Or.inr rfl)).tr (Fz_pI _ _ _ (by decide))).tr (Fz_qI _ _ _ (Or.inl rfl))
  exact ⟨⟨h1.fz y (by decide), h2.fz y (by decide) (dkA.k h1 h7), t.1, t.2.2.trans h4, t.2.1.trans h5, by rw [y.fR (by decide)]; exact h6, h7, h8.add hc x, by rw [y2.fI (by decide)]; exact h9⟩, hR.fz y2 (by decide) n25⟩

def sp_X4_takeSign : Sp := fun av σ Q => oR av fun this av => oI av fun s av => av = [] ∧ kd σ this = 5 ∧ (this = 26 ∧ CLay σ ∧ Sgt σ ∧ (0 ≤ s ∧ s < 128) ∧ ∃ p, RD σ p ∧ (isS (aI σ 25) (fI σ 901 24) p s → ∀ σ', Fz tkF noR noR σ σ' → RD σ' (tE (aI σ 25) (fI σ 901 24) p) → Q (some (vi 1)) σ') ∧ (¬ isS (aI σ 25) (fI σ 901 24) p s → Q (some (vi 0)) (pI σ 507 26 (1 + 16 * kB (aI σ 25) (fI σ 901 24) p))))
theorem us_X4_takeSign (this : Int) (s : Int) (σ : Hp) (Q : Option AV → Hp → Prop) : sp_X4_takeSign [vr this, vi s] σ Q = (kd σ this = 5 ∧ (this = 26 ∧ CLay σ ∧ Sgt σ ∧ (0 ≤ s ∧ s < 128) ∧ ∃ p, RD σ p ∧ (isS (aI σ 25) (fI σ 901 24) p s → ∀ σ', Fz tkF noR noR σ σ' → RD σ' (tE (aI σ 25) (fI σ 901 24) p) → Q (some (vi 1)) σ') ∧ (¬ isS (aI σ 25) (fI σ 901 24) p s → Q (some (vi 0)) (pI σ 507 26 (1 + 16 * kB (aI σ 25) (fI σ 901 24) p))))) := propext ⟨fun h => h.2, fun h => ⟨rfl, h⟩⟩
theorem el_X4_takeSign {av : List AV} {σ : Hp} {Q : Option AV → Hp → Prop} (h : sp_X4_takeSign av σ Q) : ∃ (this : Int) (s : Int), av = [vr this, vi s] ∧ (kd σ this = 5 ∧ (this = 26 ∧ CLay σ ∧ Sgt σ ∧ (0 ≤ s ∧ s < 128) ∧ ∃ p, RD σ p ∧ (isS (aI σ 25) (fI σ 901 24) p s → ∀ σ', Fz tkF noR noR σ σ' → RD σ' (tE (aI σ 25) (fI σ 901 24) p) → Q (some (vi 1)) σ') ∧ (¬ isS (aI σ 25) (fI σ 901 24) p s → Q (some (vi 0)) (pI σ 507 26 (1 + 16 * kB (aI σ 25) (fI σ 901 24) p))))) := by
  obtain ⟨this, a0, rfl, h0⟩ := oR_s h
  obtain ⟨s, a1, rfl, h1⟩ := oI_s h0
  obtain ⟨rfl, hz⟩ := h1
  exact ⟨this, s, rfl, hz⟩
theorem rc_X4_takeSign : ∀ (av : List AV) (σ : Hp) (Q : Option AV → Hp → Prop), sp_X4_takeSign av σ Q → ∃ r tl, av = vr r :: tl ∧ kd σ r = 4 + 1 := fun av σ Q h => by
  obtain ⟨this, s, rfl, hz, -⟩ := el_X4_takeSign h
  exact ⟨this, _, rfl, hz⟩

def tb_X4_takeSign : Tab := [(0, .aload_n 0, 1, (0, 0, 0, 0)), (1, .iload_n 1, 1, (0, 0, 0, 0)), (2, .invokevirtual 87, 3, (0, 0, 0, 0)), (5, .ifCond .ne 9, 3, (0, 0, 0, 0)), (8, .aload_n 0, 1, (0, 0, 0, 0)), (9, .iconst 1, 1, (0, 0, 0, 0)), (10, .invokevirtual 60, 3, (0, 0, 0, 0)), (13, .ireturn, 1, (0, 0, 0, 0)), (14, .aload_n 0, 1, (0, 0, 0, 0)), (15, .invokevirtual 47, 3, (0, 0, 0, 0)), (18, .iconst 1, 1, (0, 0, 0, 0)), (19, .ireturn, 1, (0, 0, 0, 0))]
set_option maxRecDepth 100000 in
theorem tk_X4_takeSign : TOK RX4 false cX4_takeSign tb_X4_takeSign := chkT_ok ft_X4 (by decide +kernel)
theorem rw_X4_696 : Row RX4 (.invokevirtual 87) 3 2 0 0 2 sp_X4_isSign := row_V (n := 1) (ci := 4) c_X4_isSign ⟨TBL_in 1092 (by decide +kernel) rfl, TBL_in 1095 (by decide +kernel) rfl, TBL_in 118 (by decide +kernel) rfl, by decide +kernel, by decide⟩ (by decide) rfl (TBL_in 1094 (by decide +kernel) rfl) (TBL_in 40 (by decide +kernel) rfl) rc_X4_isSign
theorem rw_X4_480 : Row RX4 (.invokevirtual 60) 3 2 0 0 1 sp_X4_refuse := row_V (n := 1) (ci := 4) c_X4_refuse ⟨TBL_in 1056 (by decide +kernel) rfl, TBL_in 1059 (by decide +kernel) rfl, TBL_in 118 (by decide +kernel) rfl, by decide +kernel, by decide⟩ (by decide) rfl (TBL_in 1058 (by decide +kernel) rfl) (TBL_in 33 (by decide +kernel) rfl) rc_X4_refuse
theorem rw_X4_376 : Row RX4 (.invokevirtual 47) 3 1 0 0 6 sp_X4_nextToken := row_V (n := 0) (ci := 4) c_X4_nextToken ⟨TBL_in 917 (by decide +kernel) rfl, TBL_in 920 (by decide +kernel) rfl, TBL_in 118 (by decide +kernel) rfl, by decide +kernel, by decide⟩ (by decide) rfl (TBL_in 919 (by decide +kernel) rfl) (TBL_in 28 (by decide +kernel) rfl) rc_X4_nextToken
def mt_X4_takeSign : List (Nat × Mt) := [(696, 2, 0, 0, 2, sp_X4_isSign), (480, 2, 0, 0, 1, sp_X4_refuse), (376, 1, 0, 0, 6, sp_X4_nextToken)]
theorem em_X4_takeSign : mt_X4_takeSign.lookup 696 = some (2, 0, 0, 2, sp_X4_isSign) ∧ mt_X4_takeSign.lookup 480 = some (2, 0, 0, 1, sp_X4_refuse) ∧ mt_X4_takeSign.lookup 376 = some (1, 0, 0, 6, sp_X4_nextToken) := ⟨rfl, rfl, rfl⟩
theorem mk_X4_takeSign : MOK RX4 mt_X4_takeSign := by
  intro q hq
  simp only [mt_X4_takeSign, List.mem_cons, List.not_mem_nil, or_false] at hq
  rcases hq with rfl | rfl | rfl
  · exact rw_X4_696
  · exact rw_X4_480
  · exact rw_X4_376
noncomputable def xe_X4_takeSign (ct : Nat → Bool) (K : Kt) (R : Option AV → Hp → Prop) (n : Nat) : Kt := exS 2 7 0 0 2 tb_X4_takeSign mt_X4_takeSign ct K R n
noncomputable def xk_X4_takeSign (ct : Nat → Bool) (K : Kt) (R : Option AV → Hp → Prop) (n : Nat) : Kt := exkS 2 7 0 0 2 tb_X4_takeSign mt_X4_takeSign ct K R n
theorem xt_X4_takeSign {ct : Nat → Bool} {K : Kt} {R : Option AV → Hp → Prop} {n pc : Nat} {ls : List (Option AV)} {st : List AV} {σ : Hp} {k : Nat × Nat} (h : ct pc = true) : xk_X4_takeSign ct K R n pc ls st σ k = K pc ls st σ k := by unfold xk_X4_takeSign exkS; rw [h]
theorem xf_X4_takeSign {ct : Nat → Bool} {K : Kt} {R : Option AV → Hp → Prop} {n pc : Nat} {ls : List (Option AV)} {st : List AV} {σ : Hp} {k : Nat × Nat} (h : ct pc = false) : xk_X4_takeSign ct K R n pc ls st σ k = xe_X4_takeSign ct K R n pc ls st σ k := by unfold xk_X4_takeSign exkS xe_X4_takeSign; rw [h]
theorem ev_X4_takeSign_0 {ct : Nat → Bool} {K : Kt} {R : Option AV → Hp → Prop} {n : Nat} {ls : List (Option AV)} {st : List AV} {σ : Hp} {k : Nat × Nat} : xe_X4_takeSign ct K R (n + 1) 0 ls st σ k = (lR ls 0 fun x => xk_X4_takeSign ct K R n 1 ls (vr x :: st) σ k) := exS_step.trans rfl
theorem ev_X4_takeSign_1 {ct : Nat → Bool} {K : Kt} {R : Option AV → Hp → Prop} {n : Nat} {ls : List (Option AV)} {st : List AV} {σ : Hp} {k : Nat × Nat} : xe_X4_takeSign ct K R (n + 1) 1 ls st σ k = (lI ls 1 fun x => xk_X4_takeSign ct K R n 2 ls (vi x :: st) σ k) := exS_step.trans rfl
theorem ev_X4_takeSign_2 {ct : Nat → Bool} {K : Kt} {R : Option AV → Hp → Prop} {n : Nat} {ls : List (Option AV)} {st : List AV} {σ : Hp} {k : Nat × Nat} : xe_X4_takeSign ct K R (n + 1) 2 ls st σ k = (popN 2 st [] fun av rest => (catS rest ≤ 8 ∧ 2 < 7 ∧ k.1 + 0 ≤ 0 ∧ k.2 + 0 ≤ 0) ∧ (sp_X4_isSign) av σ fun v σ' => xk_X4_takeSign ct K R n 5 ls (v.toList ++ rest) σ' (k.1 + 0, k.2 + 0)) := exS_step.trans rfl
theorem ev_X4_takeSign_5 {ct : Nat → Bool} {K : Kt} {R : Option AV → Hp → Prop} {n : Nat} {ls : List (Option AV)} {st : List AV} {σ : Hp} {k : Nat × Nat} : xe_X4_takeSign ct K R (n + 1) 5 ls st σ k = (oI st fun x st => (¬ wI x = wI 0 → xk_X4_takeSign ct K R n 14 ls st σ k) ∧ (¬ (¬ wI x = wI 0) → xk_X4_takeSign ct K R n 8 ls st σ k)) := exS_step.trans rfl
theorem ev_X4_takeSign_8 {ct : Nat → Bool} {K : Kt} {R : Option AV → Hp → Prop} {n : Nat} {ls : List (Option AV)} {st : List AV} {σ : Hp} {k : Nat × Nat} : xe_X4_takeSign ct K R (n + 1) 8 ls st σ k = (lR ls 0 fun x => xk_X4_takeSign ct K R n 9 ls (vr x :: st) σ k) := exS_step.trans rfl
theorem ev_X4_takeSign_9 {ct : Nat → Bool} {K : Kt} {R : Option AV → Hp → Prop} {n : Nat} {ls : List (Option AV)} {st : List AV} {σ : Hp} {k : Nat × Nat} : xe_X4_takeSign ct K R (n + 1) 9 ls st σ k = (xk_X4_takeSign ct K R n 10 ls (vi (1) :: st) σ k) := exS_step.trans rfl
theorem ev_X4_takeSign_10 {ct : Nat → Bool} {K : Kt} {R : Option AV → Hp → Prop} {n : Nat} {ls : List (Option AV)} {st : List AV} {σ : Hp} {k : Nat × Nat} : xe_X4_takeSign ct K R (n + 1) 10 ls st σ k = (popN 2 st [] fun av rest => (catS rest ≤ 8 ∧ 1 < 7 ∧ k.1 + 0 ≤ 0 ∧ k.2 + 0 ≤ 0) ∧ (sp_X4_refuse) av σ fun v σ' => xk_X4_takeSign ct K R n 13 ls (v.toList ++ rest) σ' (k.1 + 0, k.2 + 0)) := exS_step.trans rfl
theorem ev_X4_takeSign_13 {ct : Nat → Bool} {K : Kt} {R : Option AV → Hp → Prop} {n : Nat} {ls : List (Option AV)} {st : List AV} {σ : Hp} {k : Nat × Nat} : xe_X4_takeSign ct K R (n + 1) 13 ls st σ k = (oI st fun x st => st = [] ∧ (x = 0 ∨ x = 1) ∧ R (some (vi x)) σ) := exS_step.trans rfl
theorem ev_X4_takeSign_14 {ct : Nat → Bool} {K : Kt} {R : Option AV → Hp → Prop} {n : Nat} {ls : List (Option AV)} {st : List AV} {σ : Hp} {k : Nat × Nat} : xe_X4_takeSign ct K R (n + 1) 14 ls st σ k = (lR ls 0 fun x => xk_X4_takeSign ct K R n 15 ls (vr x :: st) σ k) := exS_step.trans rfl
theorem ev_X4_takeSign_15 {ct : Nat → Bool} {K : Kt} {R : Option AV → Hp → Prop} {n : Nat} {ls : List (Option AV)} {st : List AV} {σ : Hp} {k : Nat × Nat} : xe_X4_takeSign ct K R (n + 1) 15 ls st σ k = (popN 1 st [] fun av rest => (catS rest ≤ 8 ∧ 6 < 7 ∧ k.1 + 0 ≤ 0 ∧ k.2 + 0 ≤ 0) ∧ (sp_X4_nextToken) av σ fun v σ' => xk_X4_takeSign ct K R n 18 ls (v.toList ++ rest) σ' (k.1 + 0, k.2 + 0)) := exS_step.trans rfl
theorem ev_X4_takeSign_18 {ct : Nat → Bool} {K : Kt} {R : Option AV → Hp → Prop} {n : Nat} {ls : List (Option AV)} {st : List AV} {σ : Hp} {k : Nat × Nat} : xe_X4_takeSign ct K R (n + 1) 18 ls st σ k = (xk_X4_takeSign ct K R n 19 ls (vi (1) :: st) σ k) := exS_step.trans rfl
theorem ev_X4_takeSign_19 {ct : Nat → Bool} {K : Kt} {R : Option AV → Hp → Prop} {n : Nat} {ls : List (Option AV)} {st : List AV} {σ : Hp} {k : Nat × Nat} : xe_X4_takeSign ct K R (n + 1) 19 ls st σ k = (oI st fun x st => st = [] ∧ (x = 0 ∨ x = 1) ∧ R (some (vi x)) σ) := exS_step.trans rfl
def M_X4_takeSign : Md := (yX4_takeSign, cX4_takeSign, 2, (some FieldType.boolean), 7, 0, 0, 2, false, tb_X4_takeSign, mt_X4_takeSign)
theorem mm_X4_takeSign : MMOK M_X4_takeSign := ⟨by decide +kernel, tk_X4_takeSign, mk_X4_takeSign, rfl, fun h => by cases h⟩
theorem go_X4_takeSign {Q : Option AV → Hp → Prop} {ct : Nat → Bool} {pc : Nat} {ls : List (Option AV)} {st : List AV} {σ : Hp} {k : Nat × Nat} (n : Nat) (h : xe_X4_takeSign ct (Go M_X4_takeSign Q) Q n pc ls st σ k) : Go M_X4_takeSign Q pc ls st σ k := Go.exS mm_X4_takeSign h

set_option maxRecDepth 20000 in
theorem c_X4_takeSign : Ct yX4_takeSign cX4_takeSign 2 ((some FieldType.boolean)) 7 0 0 sp_X4_takeSign := by
  refine Ct.go (M := M_X4_takeSign) mm_X4_takeSign fun av σ Q h0 => ?_
  obtain ⟨this, s, rfl, hk, h⟩ := el_X4_takeSign h0
  clear h0
  refine ⟨Nat.le_of_ble_eq_true rfl, ?_⟩
  show Go M_X4_takeSign Q 0 [some (vr this), some (vi s)] [] σ (0, 0)
  obtain ⟨rfl, hC, hS, hs, p, hR, h1, h2⟩ := h
  have hR0 := hR
  obtain ⟨hT, hp, r1, r2, r3, r4⟩ := hR
  have hz := hT.1
  have ht := tok_in (aI σ 25) hp.2
  by_cases c : isS (aI σ 25) (fI σ 901 24) p s
  · have h1 := h1 c
    have w18 : ∀ σ', Fz tkF noR noR σ σ' → RD σ' (tE (aI σ 25) (fI σ 901 24) p) → Go M_X4_takeSign Q 18 [some (vr 26), some (vi s)] [] σ' (0, 0) := fun σ' z1 z2 => by
      have h := h1 σ' z1 z2
      refine go_X4_takeSign (ct := fun p => p == 99) 20 ?_
      simp only [oI, oL, oR, o1, lI, lL, lR, popN, catS, gv, stL, stL2, swt, cnd, spObj, List.getElem?_cons_zero, List.getElem?_cons_succ, List.getD_cons_zero, List.getD_cons_succ, List.set_cons_zero, List.set_cons_succ, List.nil_append, List.cons_append, Option.toList, Bool.or_false, Bool.false_or, Bool.or_true, Bool.true_or, Nat.reduceBEq, Nat.reduceAdd, Nat.reduceLT, Nat.reduceLeDiff, Int.reduceAdd, Int.reduceToNat, true_and, and_true, Fin.isValue, Fin.val_zero, Fin.val_one, Fin.val_two, Fin.reduceFinMk, eq_self, Int.reduceNeg, imp_self, Nat.reduceMul, Nat.le_refl, not_true_eq_false, not_false_eq_true, List.getElem?_nil, reduceCtorEq, true_or, or_true, Classical.not_not, implies_true, or_self, wI_0, wI_1, wI_m1, b2i_w, b2i_eq0, b2i_eq1, b2i_bool, nor_self, nx_pI, kd_pI, ln_pI, fI_pI, fL_pI, fR_pI, aI_pI, aL_pI, aR_pI, nx_pL, kd_pL, ln_pL, fI_pL, fL_pL, fR_pL, aI_pL, aL_pL, aR_pL, nx_pR, kd_pR, ln_pR, fI_pR, fL_pR, fR_pR, aI_pR, aL_pR, aR_pR, nx_qI, kd_qI, ln_qI, fI_qI, fL_qI, fR_qI, aI_qI, aL_qI, aR_qI, nx_qL, kd_qL, ln_qL, fI_qL, fL_qL, fR_qL, aI_qL, aL_qL, aR_qL, nx_qR, kd_qR, ln_qR, fI_qR, fL_qR, fR_qR, aI_qR, aL_qR, aR_qR, nx_mk, kd_mk, ln_mk, fI_mk, fL_mk, fR_mk, aI_mk, aL_mk, aR_mk, false_and, and_false, if_false, if_true, and_self, Int.reduceEq, Nat.reduceEqDiff, ite_self, MLay_pI, MLay_pL, MLay_qI, MLay_qL, ev_X4_takeSign_18, ev_X4_takeSign_19, xt_X4_takeSign, xf_X4_takeSign, us_X4_isSign, us_X4_refuse, us_X4_nextToken]
      repeat' (first | intro z | apply And.intro)
      all_goals try omega
      all_goals try contradiction
      all_goals exact h
    have hb : 0 ≤ tE (aI σ 25) (fI σ 901 24) p ∧ tE (aI σ 25) (fI σ 901 24) p ≤ fI σ 901 24 := by omega
    have w14 : Go M_X4_takeSign Q 14 [some (vr 26), some (vi s)] [] σ (0, 0) := by
      clear h1 h2 hR0
      refine go_X4_takeSign (ct := fun p => p == 18) 20 ?_
      simp only [oI, oL, oR, o1, lI, lL, lR, popN, catS, gv, stL, stL2, swt, cnd, spObj, List.getElem?_cons_zero, List.getElem?_cons_succ, List.getD_cons_zero, List.getD_cons_succ, List.set_cons_zero, List.set_cons_succ, List.nil_append, List.cons_append, Option.toList, Bool.or_false, Bool.false_or, Bool.or_true, Bool.true_or, Nat.reduceBEq, Nat.reduceAdd, Nat.reduceLT, Nat.reduceLeDiff, Int.reduceAdd, Int.reduceToNat, true_and, and_true, Fin.isValue, Fin.val_zero, Fin.val_one, Fin.val_two, Fin.reduceFinMk, eq_self, Int.reduceNeg, imp_self, Nat.reduceMul, Nat.le_refl, not_true_eq_false, not_false_eq_true, List.getElem?_nil, reduceCtorEq, true_or, or_true, Classical.not_not, implies_true, or_self, wI_0, wI_1, wI_m1, b2i_w, b2i_eq0, b2i_eq1, b2i_bool, nor_self, nx_pI, kd_pI, ln_pI, fI_pI, fL_pI, fR_pI, aI_pI, aL_pI, aR_pI, nx_pL, kd_pL, ln_pL, fI_pL, fL_pL, fR_pL, aI_pL, aL_pL, aR_pL, nx_pR, kd_pR, ln_pR, fI_pR, fL_pR, fR_pR, aI_pR, aL_pR, aR_pR, nx_qI, kd_qI, ln_qI, fI_qI, fL_qI, fR_qI, aI_qI, aL_qI, aR_qI, nx_qL, kd_qL, ln_qL, fI_qL, fL_qL, fR_qL, aI_qL, aL_qL, aR_qL, nx_qR, kd_qR, ln_qR, fI_qR, fL_qR, fR_qR, aI_qR, aL_qR, aR_qR, nx_mk, kd_mk, ln_mk, fI_mk, fL_mk, fR_mk, aI_mk, aL_mk, aR_mk, false_and, and_false, if_false, if_true, and_self, Int.reduceEq, Nat.reduceEqDiff, ite_self, MLay_pI, MLay_pL, MLay_qI, MLay_qL, ev_X4_takeSign_14, ev_X4_takeSign_15, xt_X4_takeSign, xf_X4_takeSign, us_X4_isSign, us_X4_refuse, us_X4_nextToken, hC, hk, hT, hS, r2, hb]
      repeat' (first | intro z | apply And.intro)
      all_goals try omega
      all_goals try contradiction
      all_goals exact w18 _ ‹_› ‹_›
    have w5 : Go M_X4_takeSign Q 5 [some (vr 26), some (vi s)] [vi (b2i (isS (aI σ 25) (fI σ 901 24) p s))] σ (0, 0) := by
      rw [b2i_t c]
      clear h1 h2 hR0 w18
      refine go_X4_takeSign (ct := fun p => p == 8 || p == 14) 20 ?_
      simp only [oI, oL, oR, o1, lI, lL, lR, popN, catS, gv, stL, stL2, swt, cnd, spObj, List.getElem?_cons_zero, List.getElem?_cons_succ, List.getD_cons_zero, List.getD_cons_succ, List.set_cons_zero, List.set_cons_succ, List.nil_append, List.cons_append, Option.toList, Bool.or_false, Bool.false_or, Bool.or_true, Bool.true_or, Nat.reduceBEq, Nat.reduceAdd, Nat.reduceLT, Nat.reduceLeDiff, Int.reduceAdd, Int.reduceToNat, true_and, and_true, Fin.isValue, Fin.val_zero, Fin.val_one, Fin.val_two, Fin.reduceFinMk, eq_self, Int.reduceNeg, imp_self, Nat.reduceMul, Nat.le_refl, not_true_eq_false, not_false_eq_true, List.getElem?_nil, reduceCtorEq, true_or, or_true, Classical.not_not, implies_true, or_self, wI_0, wI_1, wI_m1, b2i_w, b2i_eq0, b2i_eq1, b2i_bool, nor_self, nx_pI, kd_pI, ln_pI, fI_pI, fL_pI, fR_pI, aI_pI, aL_pI, aR_pI, nx_pL, kd_pL, ln_pL, fI_pL, fL_pL, fR_pL, aI_pL, aL_pL, aR_pL, nx_pR, kd_pR, ln_pR, fI_pR, fL_pR, fR_pR, aI_pR, aL_pR, aR_pR, nx_qI, kd_qI, ln_qI, fI_qI, fL_qI, fR_qI, aI_qI, aL_qI, aR_qI, nx_qL, kd_qL, ln_qL, fI_qL, fL_qL, fR_qL, aI_qL, aL_qL, aR_qL, nx_qR, kd_qR, ln_qR, fI_qR, fL_qR, fR_qR, aI_qR, aL_qR, aR_qR, nx_mk, kd_mk, ln_mk, fI_mk, fL_mk, fR_mk, aI_mk, aL_mk, aR_mk, false_and, and_false, if_false, if_true, and_self, Int.reduceEq, Nat.reduceEqDiff, ite_self, MLay_pI, MLay_pL, MLay_qI, MLay_qL, ev_X4_takeSign_5, xt_X4_takeSign, xf_X4_takeSign, us_X4_isSign, us_X4_refuse, us_X4_nextToken]
      repeat' (first | intro z | apply And.intro)
      all_goals try omega
      all_goals try contradiction
      all_goals exact w14
    clear h1 h2 w14 w18
    refine go_X4_takeSign (ct := fun p => p == 5) 20 ?_
    simp only [oI, oL, oR, o1, lI, lL, lR, popN, catS, gv, stL, stL2, swt, cnd, spObj, List.getElem?_cons_zero, List.getElem?_cons_succ, List.getD_cons_zero, List.getD_cons_succ, List.set_cons_zero, List.set_cons_succ, List.nil_append, List.cons_append, Option.toList, Bool.or_false, Bool.false_or, Bool.or_true, Bool.true_or, Nat.reduceBEq, Nat.reduceAdd, Nat.reduceLT, Nat.reduceLeDiff, Int.reduceAdd, Int.reduceToNat, true_and, and_true, Fin.isValue, Fin.val_zero, Fin.val_one, Fin.val_two, Fin.reduceFinMk, eq_self, Int.reduceNeg, imp_self, Nat.reduceMul, Nat.le_refl, not_true_eq_false, not_false_eq_true, List.getElem?_nil, reduceCtorEq, true_or, or_true, Classical.not_not, implies_true, or_self, wI_0, wI_1, wI_m1, b2i_w, b2i_eq0, b2i_eq1, b2i_bool, nor_self, nx_pI, kd_pI, ln_pI, fI_pI, fL_pI, fR_pI, aI_pI, aL_pI, aR_pI, nx_pL, kd_pL, ln_pL, fI_pL, fL_pL, fR_pL, aI_pL, aL_pL, aR_pL, nx_pR, kd_pR, ln_pR, fI_pR, fL_pR, fR_pR, aI_pR, aL_pR, aR_pR, nx_qI, kd_qI, ln_qI, fI_qI, fL_qI, fR_qI, aI_qI, aL_qI, aR_qI, nx_qL, kd_qL, ln_qL, fI_qL, fL_qL, fR_qL, aI_qL, aL_qL, aR_qL, nx_qR, kd_qR, ln_qR, fI_qR, fL_qR, fR_qR, aI_qR, aL_qR, aR_qR, nx_mk, kd_mk, ln_mk, fI_mk, fL_mk, fR_mk, aI_mk, aL_mk, aR_mk, false_and, and_false, if_false, if_true, and_self, Int.reduceEq, Nat.reduceEqDiff, ite_self, MLay_pI, MLay_pL, MLay_qI, MLay_qL, ev_X4_takeSign_0, ev_X4_takeSign_1, ev_X4_takeSign_2, xt_X4_takeSign, xf_X4_takeSign, us_X4_isSign, us_X4_refuse, us_X4_nextToken, hC, hk, hs]
    repeat' (first | intro z | apply And.intro)
    all_goals try omega
    all_goals try contradiction
    all_goals exact ⟨p, hR0, w5⟩
  · have h2 := h2 c
    rw [← r1] at h2
    have w5 : Go M_X4_takeSign Q 5 [some (vr 26), some (vi s)] [vi (b2i (isS (aI σ 25) (fI σ 901 24) p s))] σ (0, 0) := by
      rw [b2i_f c]
      clear h1 hR0
      have hpl : 0 ≤ fI σ 503 26 ∧ fI σ 503 26 ≤ 1000 := by omega
      refine go_X4_takeSign (ct := fun p => p == 14) 20 ?_
      simp only [oI, oL, oR, o1, lI, lL, lR, popN, catS, gv, stL, stL2, swt, cnd, spObj, List.getElem?_cons_zero, List.getElem?_cons_succ, List.getD_cons_zero, List.getD_cons_succ, List.set_cons_zero, List.set_cons_succ, List.nil_append, List.cons_append, Option.toList, Bool.or_false, Bool.false_or, Bool.or_true, Bool.true_or, Nat.reduceBEq, Nat.reduceAdd, Nat.reduceLT, Nat.reduceLeDiff, Int.reduceAdd, Int.reduceToNat, true_and, and_true, Fin.isValue, Fin.val_zero, Fin.val_one, Fin.val_two, Fin.reduceFinMk, eq_self, Int.reduceNeg, imp_self, Nat.reduceMul, Nat.le_refl, not_true_eq_false, not_false_eq_true, List.getElem?_nil, reduceCtorEq, true_or, or_true, Classical.not_not, implies_true, or_self, wI_0, wI_1, wI_m1, b2i_w, b2i_eq0, b2i_eq1, b2i_bool, nor_self, nx_pI, kd_pI, ln_pI, fI_pI, fL_pI, fR_pI, aI_pI, aL_pI, aR_pI, nx_pL, kd_pL, ln_pL, fI_pL, fL_pL, fR_pL, aI_pL, aL_pL, aR_pL, nx_pR, kd_pR, ln_pR, fI_pR, fL_pR, fR_pR, aI_pR, aL_pR, aR_pR, nx_qI, kd_qI, ln_qI, fI_qI, fL_qI, fR_qI, aI_qI, aL_qI, aR_qI, nx_qL, kd_qL, ln_qL, fI_qL, fL_qL, fR_qL, aI_qL, aL_qL, aR_qL, nx_qR, kd_qR, ln_qR, fI_qR, fL_qR, fR_qR, aI_qR, aL_qR, aR_qR, nx_mk, kd_mk, ln_mk, fI_mk, fL_mk, fR_mk, aI_mk, aL_mk, aR_mk, false_and, and_false, if_false, if_true, and_self, Int.reduceEq, Nat.reduceEqDiff, ite_self, MLay_pI, MLay_pL, MLay_qI, MLay_qL, ev_X4_takeSign_5, ev_X4_takeSign_8, ev_X4_takeSign_9, ev_X4_takeSign_10, ev_X4_takeSign_13, xt_X4_takeSign, xf_X4_takeSign, us_X4_isSign, us_X4_refuse, us_X4_nextToken, hk, hpl]
      repeat' (first | intro z | apply And.intro)
      all_goals try omega
      all_goals try contradiction
      all_goals exact h2
    clear h1 h2
    refine go_X4_takeSign (ct := fun p => p == 5) 20 ?_
    simp only [oI, oL, oR, o1, lI, lL, lR, popN, catS, gv, stL, stL2, swt, cnd, spObj, List.getElem?_cons_zero, List.getElem?_cons_succ, List.getD_cons_zero, List.getD_cons_succ, List.set_cons_zero, List.set_cons_succ, List.nil_append, List.cons_append, Option.toList, Bool.or_false, Bool.false_or, Bool.or_true, Bool.true_or, Nat.reduceBEq, Nat.reduceAdd, Nat.reduceLT, Nat.reduceLeDiff, Int.reduceAdd, Int.reduceToNat, true_and, and_true, Fin.isValue, Fin.val_zero, Fin.val_one, Fin.val_two, Fin.reduceFinMk, eq_self, Int.reduceNeg, imp_self, Nat.reduceMul, Nat.le_refl, not_true_eq_false, not_false_eq_true, List.getElem?_nil, reduceCtorEq, true_or, or_true, Classical.not_not, implies_true, or_self, wI_0, wI_1, wI_m1, b2i_w, b2i_eq0, b2i_eq1, b2i_bool, nor_self, nx_pI, kd_pI, ln_pI, fI_pI, fL_pI, fR_pI, aI_pI, aL_pI, aR_pI, nx_pL, kd_pL, ln_pL, fI_pL, fL_pL, fR_pL, aI_pL, aL_pL, aR_pL, nx_pR, kd_pR, ln_pR, fI_pR, fL_pR, fR_pR, aI_pR, aL_pR, aR_pR, nx_qI, kd_qI, ln_qI, fI_qI, fL_qI, fR_qI, aI_qI, aL_qI, aR_qI, nx_qL, kd_qL, ln_qL, fI_qL, fL_qL, fR_qL, aI_qL, aL_qL, aR_qL, nx_qR, kd_qR, ln_qR, fI_qR, fL_qR, fR_qR, aI_qR, aL_qR, aR_qR, nx_mk, kd_mk, ln_mk, fI_mk, fL_mk, fR_mk, aI_mk, aL_mk, aR_mk, false_and, and_false, if_false, if_true, and_self, Int.reduceEq, Nat.reduceEqDiff, ite_self, MLay_pI, MLay_pL, MLay_qI, MLay_qL, ev_X4_takeSign_0, ev_X4_takeSign_1, ev_X4_takeSign_2, xt_X4_takeSign, xf_X4_takeSign, us_X4_isSign, us_X4_refuse, us_X4_nextToken, hC, hk, hs]
    repeat' (first | intro z | apply And.intro)
    all_goals try omega
    all_goals try contradiction
    all_goals exact ⟨p, hR0, w5⟩

def sp_X4_takeWord : Sp := fun av σ Q => oR av fun this av => oR av fun r av => av = [] ∧ kd σ this = 5 ∧ (this = 26 ∧ CLay σ ∧ Sgt σ ∧ ∃ p w, RD σ p ∧ Wd σ r w ∧ (isW (aI σ 25) (fI σ 901 24) p (BitVec.ofInt 64 w) → ∀ σ', Fz tkF noR noR σ σ' → RD σ' (tE (aI σ 25) (fI σ 901 24) p) → Q (some (vi 1)) σ') ∧ (¬ isW (aI σ 25) (fI σ 901 24) p (BitVec.ofInt 64 w) → Q (some (vi 0)) (pI σ 507 26 (1 + 16 * kB (aI σ 25) (fI σ 901 24) p))))
theorem us_X4_takeWord (this : Int) (r : Int) (σ : Hp) (Q : Option AV → Hp → Prop) : sp_X4_takeWord [vr this, vr r] σ Q = (kd σ this = 5 ∧ (this = 26 ∧ CLay σ ∧ Sgt σ ∧ ∃ p w, RD σ p ∧ Wd σ r w ∧ (isW (aI σ 25) (fI σ 901 24) p (BitVec.ofInt 64 w) → ∀ σ', Fz tkF noR noR σ σ' → RD σ' (tE (aI σ 25) (fI σ 901 24) p) → Q (some (vi 1)) σ') ∧ (¬ isW (aI σ 25) (fI σ 901 24) p (BitVec.ofInt 64 w) → Q (some (vi 0)) (pI σ 507 26 (1 + 16 * kB (aI σ 25) (fI σ 901 24) p))))) := propext ⟨fun h => h.2, fun h => ⟨rfl, h⟩⟩
theorem el_X4_takeWord {av : List AV} {σ : Hp} {Q : Option AV → Hp → Prop} (h : sp_X4_takeWord av σ Q) : ∃ (this : Int) (r : Int), av = [vr this, vr r] ∧ (kd σ this = 5 ∧ (this = 26 ∧ CLay σ ∧ Sgt σ ∧ ∃ p w, RD σ p ∧ Wd σ r w ∧ (isW (aI σ 25) (fI σ 901 24) p (BitVec.ofInt 64 w) → ∀ σ', Fz tkF noR noR σ σ' → RD σ' (tE (aI σ 25) (fI σ 901 24) p) → Q (some (vi 1)) σ') ∧ (¬ isW (aI σ 25) (fI σ 901 24) p (BitVec.ofInt 64 w) → Q (some (vi 0)) (pI σ 507 26 (1 + 16 * kB (aI σ 25) (fI σ 901 24) p))))) := by
  obtain ⟨this, a0, rfl, h0⟩ := oR_s h
  obtain ⟨r, a1, rfl, h1⟩ := oR_s h0
  obtain ⟨rfl, hz⟩ := h1
  exact ⟨this, r, rfl, hz⟩
theorem rc_X4_takeWord : ∀ (av : List AV) (σ : Hp) (Q : Option AV → Hp → Prop), sp_X4_takeWord av σ Q → ∃ r tl, av = vr r :: tl ∧ kd σ r = 4 + 1 := fun av σ Q h => by
  obtain ⟨this, r, rfl, hz, -⟩ := el_X4_takeWord h
  exact ⟨this, _, rfl, hz⟩

def tb_X4_takeWord : Tab := [(0, .aload_n 0, 1, (0, 0, 0, 0)), (1, .aload_n 1, 1, (0, 0, 0, 0)), (2, .invokevirtual 56, 3, (0, 0, 0, 0)), (5, .ifCond .ne 9, 3, (0, 0, 0, 0)), (8, .aload_n 0, 1, (0, 0, 0, 0)), (9, .iconst 1, 1, (0, 0, 0, 0)), (10, .invokevirtual 60, 3, (0, 0, 0, 0)), (13, .ireturn, 1, (0, 0, 0, 0)), (14, .aload_n 0, 1, (0, 0, 0, 0)), (15, .invokevirtual 47, 3, (0, 0, 0, 0)), (18, .iconst 1, 1, (0, 0, 0, 0)), (19, .ireturn, 1, (0, 0, 0, 0))]
set_option maxRecDepth 100000 in
theorem tk_X4_takeWord : TOK RX4 false cX4_takeWord tb_X4_takeWord := chkT_ok ft_X4 (by decide +kernel)
theorem rw_X4_448 : Row RX4 (.invokevirtual 56) 3 2 0 0 5 sp_X4_isWord := row_V (n := 1) (ci := 4) c_X4_isWord ⟨TBL_in 1033 (by decide +kernel) rfl, TBL_in 1036 (by decide +kernel) rfl, TBL_in 118 (by decide +kernel) rfl, by decide +kernel, by decide⟩ (by decide) rfl (TBL_in 1035 (by decide +kernel) rfl) (TBL_in 32 (by decide +kernel) rfl) rc_X4_isWord
def mt_X4_takeWord : List (Nat × Mt) := [(448, 2, 0, 0, 5, sp_X4_isWord), (480, 2, 0, 0, 1, sp_X4_refuse), (376, 1, 0, 0, 6, sp_X4_nextToken)]
theorem em_X4_takeWord : mt_X4_takeWord.lookup 448 = some (2, 0, 0, 5, sp_X4_isWord) ∧ mt_X4_takeWord.lookup 480 = some (2, 0, 0, 1, sp_X4_refuse) ∧ mt_X4_takeWord.lookup 376 = some (1, 0, 0, 6, sp_X4_nextToken) := ⟨rfl, rfl, rfl⟩
theorem mk_X4_takeWord : MOK RX4 mt_X4_takeWord := by
  intro q hq
  simp only [mt_X4_takeWord, List.mem_cons, List.not_mem_nil, or_false] at hq
  rcases hq with rfl | rfl | rfl
  · exact rw_X4_448
  · exact rw_X4_480
  · exact rw_X4_376
noncomputable def xe_X4_takeWord (ct : Nat → Bool) (K : Kt) (R : Option AV → Hp → Prop) (n : Nat) : Kt := exS 2 7 0 0 2 tb_X4_takeWord mt_X4_takeWord ct K R n
noncomputable def xk_X4_takeWord (ct : Nat → Bool) (K : Kt) (R : Option AV → Hp → Prop) (n : Nat) : Kt := exkS 2 7 0 0 2 tb_X4_takeWord mt_X4_takeWord ct K R n
theorem xt_X4_takeWord {ct : Nat → Bool} {K : Kt} {R : Option AV → Hp → Prop} {n pc : Nat} {ls : List (Option AV)} {st : List AV} {σ : Hp} {k : Nat × Nat} (h : ct pc = true) : xk_X4_takeWord ct K R n pc ls st σ k = K pc ls st σ k := by unfold xk_X4_takeWord exkS; rw [h]
theorem xf_X4_takeWord {ct : Nat → Bool} {K : Kt} {R : Option AV → Hp → Prop} {n pc : Nat} {ls : List (Option AV)} {st : List AV} {σ : Hp} {k : Nat × Nat} (h : ct pc = false) : xk_X4_takeWord ct K R n pc ls st σ k = xe_X4_takeWord ct K R n pc ls st σ k := by unfold xk_X4_takeWord exkS xe_X4_takeWord; rw [h]
theorem ev_X4_takeWord_0 {ct : Nat → Bool} {K : Kt} {R : Option AV → Hp → Prop} {n : Nat} {ls : List (Option AV)} {st : List AV} {σ : Hp} {k : Nat × Nat} : xe_X4_takeWord ct K R (n + 1) 0 ls st σ k = (lR ls 0 fun x => xk_X4_takeWord ct K R n 1 ls (vr x :: st) σ k) := exS_step.trans rfl
theorem ev_X4_takeWord_1 {ct : Nat → Bool} {K : Kt} {R : Option AV → Hp → Prop} {n : Nat} {ls : List (Option AV)} {st : List AV} {σ : Hp} {k : Nat × Nat} : xe_X4_takeWord ct K R (n + 1) 1 ls st σ k = (lR ls 1 fun x => xk_X4_takeWord ct K R n 2 ls (vr x :: st) σ k) := exS_step.trans rfl
theorem ev_X4_takeWord_2 {ct : Nat → Bool} {K : Kt} {R : Option AV → Hp → Prop} {n : Nat} {ls : List (Option AV)} {st : List AV} {σ : Hp} {k : Nat × Nat} : xe_X4_takeWord ct K R (n + 1) 2 ls st σ k = (popN 2 st [] fun av rest => (catS rest ≤ 8 ∧ 5 < 7 ∧ k.1 + 0 ≤ 0 ∧ k.2 + 0 ≤ 0) ∧ (sp_X4_isWord) av σ fun v σ' => xk_X4_takeWord ct K R n 5 ls (v.toList ++ rest) σ' (k.1 + 0, k.2 + 0)) := exS_step.trans rfl
theorem ev_X4_takeWord_5 {ct : Nat → Bool} {K : Kt} {R : Option AV → Hp → Prop} {n : Nat} {ls : List (Option AV)} {st : List AV} {σ : Hp} {k : Nat × Nat} : xe_X4_takeWord ct K R (n + 1) 5 ls st σ k = (oI st fun x st => (¬ wI x = wI 0 → xk_X4_takeWord ct K R n 14 ls st σ k) ∧ (¬ (¬ wI x = wI 0) → xk_X4_takeWord ct K R n 8 ls st σ k)) := exS_step.trans rfl
theorem ev_X4_takeWord_8 {ct : Nat → Bool} {K : Kt} {R : Option AV → Hp → Prop} {n : Nat} {ls : List (Option AV)} {st : List AV} {σ : Hp} {k : Nat × Nat} : xe_X4_takeWord ct K R (n + 1) 8 ls st σ k = (lR ls 0 fun x => xk_X4_takeWord ct K R n 9 ls (vr x :: st) σ k) := exS_step.trans rfl
theorem ev_X4_takeWord_9 {ct : Nat → Bool} {K : Kt} {R : Option AV → Hp → Prop} {n : Nat} {ls : List (Option AV)} {st : List AV} {σ : Hp} {k : Nat × Nat} : xe_X4_takeWord ct K R (n + 1) 9 ls st σ k = (xk_X4_takeWord ct K R n 10 ls (vi (1) :: st) σ k) := exS_step.trans rfl
theorem ev_X4_takeWord_10 {ct : Nat → Bool} {K : Kt} {R : Option AV → Hp → Prop} {n : Nat} {ls : List (Option AV)} {st : List AV} {σ : Hp} {k : Nat × Nat} : xe_X4_takeWord ct K R (n + 1) 10 ls st σ k = (popN 2 st [] fun av rest => (catS rest ≤ 8 ∧ 1 < 7 ∧ k.1 + 0 ≤ 0 ∧ k.2 + 0 ≤ 0) ∧ (sp_X4_refuse) av σ fun v σ' => xk_X4_takeWord ct K R n 13 ls (v.toList ++ rest) σ' (k.1 + 0, k.2 + 0)) := exS_step.trans rfl
theorem ev_X4_takeWord_13 {ct : Nat → Bool} {K : Kt} {R : Option AV → Hp → Prop} {n : Nat} {ls : List (Option AV)} {st : List AV} {σ : Hp} {k : Nat × Nat} : xe_X4_takeWord ct K R (n + 1) 13 ls st σ k = (oI st fun x st => st = [] ∧ (x = 0 ∨ x = 1) ∧ R (some (vi x)) σ) := exS_step.trans rfl
theorem ev_X4_takeWord_14 {ct : Nat → Bool} {K : Kt} {R : Option AV → Hp → Prop} {n : Nat} {ls : List (Option AV)} {st : List AV} {σ : Hp} {k : Nat × Nat} : xe_X4_takeWord ct K R (n + 1) 14 ls st σ k = (lR ls 0 fun x => xk_X4_takeWord ct K R n 15 ls (vr x :: st) σ k) := exS_step.trans rfl
theorem ev_X4_takeWord_15 {ct : Nat → Bool} {K : Kt} {R : Option AV → Hp → Prop} {n : Nat} {ls : List (Option AV)} {st : List AV} {σ : Hp} {k : Nat × Nat} : xe_X4_takeWord ct K R (n + 1) 15 ls st σ k = (popN 1 st [] fun av rest => (catS rest ≤ 8 ∧ 6 < 7 ∧ k.1 + 0 ≤ 0 ∧ k.2 + 0 ≤ 0) ∧ (sp_X4_nextToken) av σ fun v σ' => xk_X4_takeWord ct K R n 18 ls (v.toList ++ rest) σ' (k.1 + 0, k.2 + 0)) := exS_step.trans rfl
theorem ev_X4_takeWord_18 {ct : Nat → Bool} {K : Kt} {R : Option AV → Hp → Prop} {n : Nat} {ls : List (Option AV)} {st : List AV} {σ : Hp} {k : Nat × Nat} : xe_X4_takeWord ct K R (n + 1) 18 ls st σ k = (xk_X4_takeWord ct K R n 19 ls (vi (1) :: st) σ k) := exS_step.trans rfl
theorem ev_X4_takeWord_19 {ct : Nat → Bool} {K : Kt} {R : Option AV → Hp → Prop} {n : Nat} {ls : List (Option AV)} {st : List AV} {σ : Hp} {k : Nat × Nat} : xe_X4_takeWord ct K R (n + 1) 19 ls st σ k = (oI st fun x st => st = [] ∧ (x = 0 ∨ x = 1) ∧ R (some (vi x)) σ) := exS_step.trans rfl
def M_X4_takeWord : Md := (yX4_takeWord, cX4_takeWord, 2, (some FieldType.boolean), 7, 0, 0, 2, false, tb_X4_takeWord, mt_X4_takeWord)
theorem mm_X4_takeWord : MMOK M_X4_takeWord := ⟨by decide +kernel, tk_X4_takeWord, mk_X4_takeWord, rfl, fun h => by cases h⟩
theorem go_X4_takeWord {Q : Option AV → Hp → Prop} {ct : Nat → Bool} {pc : Nat} {ls : List (Option AV)} {st : List AV} {σ : Hp} {k : Nat × Nat} (n : Nat) (h : xe_X4_takeWord ct (Go M_X4_takeWord Q) Q n pc ls st σ k) : Go M_X4_takeWord Q pc ls st σ k := Go.exS mm_X4_takeWord h

set_option maxRecDepth 20000 in
theorem c_X4_takeWord : Ct yX4_takeWord cX4_takeWord 2 ((some FieldType.boolean)) 7 0 0 sp_X4_takeWord := by
  refine Ct.go (M := M_X4_takeWord) mm_X4_takeWord fun av σ Q h0 => ?_
  obtain ⟨this, r, rfl, hk, h⟩ := el_X4_takeWord h0
  clear h0
  refine ⟨Nat.le_of_ble_eq_true rfl, ?_⟩
  show Go M_X4_takeWord Q 0 [some (vr this), some (vr r)] [] σ (0, 0)
  obtain ⟨rfl, hC, hS, p, ww, hR, hW, h1, h2⟩ := h
  have hR0 := hR
  obtain ⟨hT, hp, r1, r2, r3, r4⟩ := hR
  have hz := hT.1
  have ht := tok_in (aI σ 25) hp.2
  by_cases c : isW (aI σ 25) (fI σ 901 24) p (BitVec.ofInt 64 ww)
  · have h1 := h1 c
    have w18 : ∀ σ', Fz tkF noR noR σ σ' → RD σ' (tE (aI σ 25) (fI σ 901 24) p) → Go M_X4_takeWord Q 18 [some (vr 26), some (vr r)] [] σ' (0, 0) := fun σ' z1 z2 => by
      have h := h1 σ' z1 z2
      refine go_X4_takeWord (ct := fun p => p == 99) 20 ?_
      simp only [oI, oL, oR, o1, lI, lL, lR, popN, catS, gv, stL, stL2, swt, cnd, spObj, List.getElem?_cons_zero, List.getElem?_cons_succ, List.getD_cons_zero, List.getD_cons_succ, List.set_cons_zero, List.set_cons_succ, List.nil_append, List.cons_append, Option.toList, Bool.or_false, Bool.false_or, Bool.or_true, Bool.true_or, Nat.reduceBEq, Nat.reduceAdd, Nat.reduceLT, Nat.reduceLeDiff, Int.reduceAdd, Int.reduceToNat, true_and, and_true, Fin.isValue, Fin.val_zero, Fin.val_one, Fin.val_two, Fin.reduceFinMk, eq_self, Int.reduceNeg, imp_self, Nat.reduceMul, Nat.le_refl, not_true_eq_false, not_false_eq_true, List.getElem?_nil, reduceCtorEq, true_or, or_true, Classical.not_not, implies_true, or_self, wI_0, wI_1, wI_m1, b2i_w, b2i_eq0, b2i_eq1, b2i_bool, nor_self, nx_pI, kd_pI, ln_pI, fI_pI, fL_pI, fR_pI, aI_pI, aL_pI, aR_pI, nx_pL, kd_pL, ln_pL, fI_pL, fL_pL, fR_pL, aI_pL, aL_pL, aR_pL, nx_pR, kd_pR, ln_pR, fI_pR, fL_pR, fR_pR, aI_pR, aL_pR, aR_pR, nx_qI, kd_qI, ln_qI, fI_qI, fL_qI, fR_qI, aI_qI, aL_qI, aR_qI, nx_qL, kd_qL, ln_qL, fI_qL, fL_qL, fR_qL, aI_qL, aL_qL, aR_qL, nx_qR, kd_qR, ln_qR, fI_qR, fL_qR, fR_qR, aI_qR, aL_qR, aR_qR, nx_mk, kd_mk, ln_mk, fI_mk, fL_mk, fR_mk, aI_mk, aL_mk, aR_mk, false_and, and_false, if_false, if_true, and_self, Int.reduceEq, Nat.reduceEqDiff, ite_self, MLay_pI, MLay_pL, MLay_qI, MLay_qL, ev_X4_takeWord_18, ev_X4_takeWord_19, xt_X4_takeWord, xf_X4_takeWord, us_X4_isWord, us_X4_refuse, us_X4_nextToken]
      repeat' (first | intro z | apply And.intro)
      all_goals try omega
      all_goals try contradiction
      all_goals exact h
    have hb : 0 ≤ tE (aI σ 25) (fI σ 901 24) p ∧ tE (aI σ 25) (fI σ 901 24) p ≤ fI σ 901 24 := by omega
    have w14 : Go M_X4_takeWord Q 14 [some (vr 26), some (vr r)] [] σ (0, 0) := by
      clear h1 h2 hR0
      refine go_X4_takeWord (ct := fun p => p == 18) 20 ?_
      simp only [oI, oL, oR, o1, lI, lL, lR, popN, catS, gv, stL, stL2, swt, cnd, spObj, List.getElem?_cons_zero, List.getElem?_cons_succ, List.getD_cons_zero, List.getD_cons_succ, List.set_cons_zero, List.set_cons_succ, List.nil_append, List.cons_append, Option.toList, Bool.or_false, Bool.false_or, Bool.or_true, Bool.true_or, Nat.reduceBEq, Nat.reduceAdd, Nat.reduceLT, Nat.reduceLeDiff, Int.reduceAdd, Int.reduceToNat, true_and, and_true, Fin.isValue, Fin.val_zero, Fin.val_one, Fin.val_two, Fin.reduceFinMk, eq_self, Int.reduceNeg, imp_self, Nat.reduceMul, Nat.le_refl, not_true_eq_false, not_false_eq_true, List.getElem?_nil, reduceCtorEq, true_or, or_true, Classical.not_not, implies_true, or_self, wI_0, wI_1, wI_m1, b2i_w, b2i_eq0, b2i_eq1, b2i_bool, nor_self, nx_pI, kd_pI, ln_pI, fI_pI, fL_pI, fR_pI, aI_pI, aL_pI, aR_pI, nx_pL, kd_pL, ln_pL, fI_pL, fL_pL, fR_pL, aI_pL, aL_pL, aR_pL, nx_pR, kd_pR, ln_pR, fI_pR, fL_pR, fR_pR, aI_pR, aL_pR, aR_pR, nx_qI, kd_qI, ln_qI, fI_qI, fL_qI, fR_qI, aI_qI, aL_qI, aR_qI, nx_qL, kd_qL, ln_qL, fI_qL, fL_qL, fR_qL, aI_qL, aL_qL, aR_qL, nx_qR, kd_qR, ln_qR, fI_qR, fL_qR, fR_qR, aI_qR, aL_qR, aR_qR, nx_mk, kd_mk, ln_mk, fI_mk, fL_mk, fR_mk, aI_mk, aL_mk, aR_mk, false_and, and_false, if_false, if_true, and_self, Int.reduceEq, Nat.reduceEqDiff, ite_self, MLay_pI, MLay_pL, MLay_qI, MLay_qL, ev_X4_takeWord_14, ev_X4_takeWord_15, xt_X4_takeWord, xf_X4_takeWord, us_X4_isWord, us_X4_refuse, us_X4_nextToken, hC, hk, hT, hS, r2, hb]
      repeat' (first | intro z | apply And.intro)
      all_goals try omega
      all_goals try contradiction
      all_goals exact w18 _ ‹_› ‹_›
    have w5 : Go M_X4_takeWord Q 5 [some (vr 26), some (vr r)] [vi (b2i (isW (aI σ 25) (fI σ 901 24) p (BitVec.ofInt 64 ww)))] σ (0, 0) := by
      rw [b2i_t c]
      clear h1 h2 hR0 w18
      refine go_X4_takeWord (ct := fun p => p == 8 || p == 14) 20 ?_
      simp only [oI, oL, oR, o1, lI, lL, lR, popN, catS, gv, stL, stL2, swt, cnd, spObj, List.getElem?_cons_zero, List.getElem?_cons_succ, List.getD_cons_zero, List.getD_cons_succ, List.set_cons_zero, List.set_cons_succ, List.nil_append, List.cons_append, Option.toList, Bool.or_false, Bool.false_or, Bool.or_true, Bool.true_or, Nat.reduceBEq, Nat.reduceAdd, Nat.reduceLT, Nat.reduceLeDiff, Int.reduceAdd, Int.reduceToNat, true_and, and_true, Fin.isValue, Fin.val_zero, Fin.val_one, Fin.val_two, Fin.reduceFinMk, eq_self, Int.reduceNeg, imp_self, Nat.reduceMul, Nat.le_refl, not_true_eq_false, not_false_eq_true, List.getElem?_nil, reduceCtorEq, true_or, or_true, Classical.not_not, implies_true, or_self, wI_0, wI_1, wI_m1, b2i_w, b2i_eq0, b2i_eq1, b2i_bool, nor_self, nx_pI, kd_pI, ln_pI, fI_pI, fL_pI, fR_pI, aI_pI, aL_pI, aR_pI, nx_pL, kd_pL, ln_pL, fI_pL, fL_pL, fR_pL, aI_pL, aL_pL, aR_pL, nx_pR, kd_pR, ln_pR, fI_pR, fL_pR, fR_pR, aI_pR, aL_pR, aR_pR, nx_qI, kd_qI, ln_qI, fI_qI, fL_qI, fR_qI, aI_qI, aL_qI, aR_qI, nx_qL, kd_qL, ln_qL, fI_qL, fL_qL, fR_qL, aI_qL, aL_qL, aR_qL, nx_qR, kd_qR, ln_qR, fI_qR, fL_qR, fR_qR, aI_qR, aL_qR, aR_qR, nx_mk, kd_mk, ln_mk, fI_mk, fL_mk, fR_mk, aI_mk, aL_mk, aR_mk, false_and, and_false, if_false, if_true, and_self, Int.reduceEq, Nat.reduceEqDiff, ite_self, MLay_pI, MLay_pL, MLay_qI, MLay_qL, ev_X4_takeWord_5, xt_X4_takeWord, xf_X4_takeWord, us_X4_isWord, us_X4_refuse, us_X4_nextToken]
      repeat' (first | intro z | apply And.intro)
      all_goals try omega
      all_goals try contradiction
      all_goals exact w14
    clear h1 h2 w14 w18
    refine go_X4_takeWord (ct := fun p => p == 5) 20 ?_
    simp only [oI, oL, oR, o1, lI, lL, lR, popN, catS, gv, stL, stL2, swt, cnd, spObj, List.getElem?_cons_zero, List.getElem?_cons_succ, List.getD_cons_zero, List.getD_cons_succ, List.set_cons_zero, List.set_cons_succ, List.nil_append, List.cons_append, Option.toList, Bool.or_false, Bool.false_or, Bool.or_true, Bool.true_or, Nat.reduceBEq, Nat.reduceAdd, Nat.reduceLT, Nat.reduceLeDiff, Int.reduceAdd, Int.reduceToNat, true_and, and_true, Fin.isValue, Fin.val_zero, Fin.val_one, Fin.val_two, Fin.reduceFinMk, eq_self, Int.reduceNeg, imp_self, Nat.reduceMul, Nat.le_refl, not_true_eq_false, not_false_eq_true, List.getElem?_nil, reduceCtorEq, true_or, or_true, Classical.not_not, implies_true, or_self, wI_0, wI_1, wI_m1, b2i_w, b2i_eq0, b2i_eq1, b2i_bool, nor_self, nx_pI, kd_pI, ln_pI, fI_pI, fL_pI, fR_pI, aI_pI, aL_pI, aR_pI, nx_pL, kd_pL, ln_pL, fI_pL, fL_pL, fR_pL, aI_pL, aL_pL, aR_pL, nx_pR, kd_pR, ln_pR, fI_pR, fL_pR, fR_pR, aI_pR, aL_pR, aR_pR, nx_qI, kd_qI, ln_qI, fI_qI, fL_qI, fR_qI, aI_qI, aL_qI, aR_qI, nx_qL, kd_qL, ln_qL, fI_qL, fL_qL, fR_qL, aI_qL, aL_qL, aR_qL, nx_qR, kd_qR, ln_qR, fI_qR, fL_qR, fR_qR, aI_qR, aL_qR, aR_qR, nx_mk, kd_mk, ln_mk, fI_mk, fL_mk, fR_mk, aI_mk, aL_mk, aR_mk, false_and, and_false, if_false, if_true, and_self, Int.reduceEq, Nat.reduceEqDiff, ite_self, MLay_pI, MLay_pL, MLay_qI, MLay_qL, ev_X4_takeWord_0, ev_X4_takeWord_1, ev_X4_takeWord_2, xt_X4_takeWord, xf_X4_takeWord, us_X4_isWord, us_X4_refuse, us_X4_nextToken, hC, hk]
    repeat' (first | intro z | apply And.intro)
    all_goals try omega
    all_goals try contradiction
    all_goals exact ⟨p, ww, hR0, hW, w5⟩
  · have h2 := h2 c
    rw [← r1] at h2
    have w5 : Go M_X4_takeWord Q 5 [some (vr 26), some (vr r)] [vi (b2i (isW (aI σ 25) (fI σ 901 24) p (BitVec.ofInt 64 ww)))] σ (0, 0) := by
      rw [b2i_f c]
      clear h1 hR0
      have hpl : 0 ≤ fI σ 503 26 ∧ fI σ 503 26 ≤ 1000 := by omega
      refine go_X4_takeWord (ct := fun p => p == 14) 20 ?_
      simp only [oI, oL, oR, o1, lI, lL, lR, popN, catS, gv, stL, stL2, swt, cnd, spObj, List.getElem?_cons_zero, List.getElem?_cons_succ, List.getD_cons_zero, List.getD_cons_succ, List.set_cons_zero, List.set_cons_succ, List.nil_append, List.cons_append, Option.toList, Bool.or_false, Bool.false_or, Bool.or_true, Bool.true_or, Nat.reduceBEq, Nat.reduceAdd, Nat.reduceLT, Nat.reduceLeDiff, Int.reduceAdd, Int.reduceToNat, true_and, and_true, Fin.isValue, Fin.val_zero, Fin.val_one, Fin.val_two, Fin.reduceFinMk, eq_self, Int.reduceNeg, imp_self, Nat.reduceMul, Nat.le_refl, not_true_eq_false, not_false_eq_true, List.getElem?_nil, reduceCtorEq, true_or, or_true, Classical.not_not, implies_true, or_self, wI_0, wI_1, wI_m1, b2i_w, b2i_eq0, b2i_eq1, b2i_bool, nor_self, nx_pI, kd_pI, ln_pI, fI_pI, fL_pI, fR_pI, aI_pI, aL_pI, aR_pI, nx_pL, kd_pL, ln_pL, fI_pL, fL_pL, fR_pL, aI_pL, aL_pL, aR_pL, nx_pR, kd_pR, ln_pR, fI_pR, fL_pR, fR_pR, aI_pR, aL_pR, aR_pR, nx_qI, kd_qI, ln_qI, fI_qI, fL_qI, fR_qI, aI_qI, aL_qI, aR_qI, nx_qL, kd_qL, ln_qL, fI_qL, fL_qL, fR_qL, aI_qL, aL_qL, aR_qL, nx_qR, kd_qR, ln_qR, fI_qR, fL_qR, fR_qR, aI_qR, aL_qR, aR_qR, nx_mk, kd_mk, ln_mk, fI_mk, fL_mk, fR_mk, aI_mk, aL_mk, aR_mk, false_and, and_false, if_false, if_true, and_self, Int.reduceEq, Nat.reduceEqDiff, ite_self, MLay_pI, MLay_pL, MLay_qI, MLay_qL, ev_X4_takeWord_5, ev_X4_takeWord_8, ev_X4_takeWord_9, ev_X4_takeWord_10, ev_X4_takeWord_13, xt_X4_takeWord, xf_X4_takeWord, us_X4_isWord, us_X4_refuse, us_X4_nextToken, hk, hpl]
      repeat' (first | intro z | apply And.intro)
      all_goals try omega
      all_goals try contradiction
      all_goals exact h2
    clear h1 h2
    refine go_X4_takeWord (ct := fun p => p == 5) 20 ?_
    simp only [oI, oL, oR, o1, lI, lL, lR, popN, catS, gv, stL, stL2, swt, cnd, spObj, List.getElem?_cons_zero, List.getElem?_cons_succ, List.getD_cons_zero, List.getD_cons_succ, List.set_cons_zero, List.set_cons_succ, List.nil_append, List.cons_append, Option.toList, Bool.or_false, Bool.false_or, Bool.or_true, Bool.true_or, Nat.reduceBEq, Nat.reduceAdd, Nat.reduceLT, Nat.reduceLeDiff, Int.reduceAdd, Int.reduceToNat, true_and, and_true, Fin.isValue, Fin.val_zero, Fin.val_one, Fin.val_two, Fin.reduceFinMk, eq_self, Int.reduceNeg, imp_self, Nat.reduceMul, Nat.le_refl, not_true_eq_false, not_false_eq_true, List.getElem?_nil, reduceCtorEq, true_or, or_true, Classical.not_not, implies_true, or_self, wI_0, wI_1, wI_m1, b2i_w, b2i_eq0, b2i_eq1, b2i_bool, nor_self, nx_pI, kd_pI, ln_pI, fI_pI, fL_pI, fR_pI, aI_pI, aL_pI, aR_pI, nx_pL, kd_pL, ln_pL, fI_pL, fL_pL, fR_pL, aI_pL, aL_pL, aR_pL, nx_pR, kd_pR, ln_pR, fI_pR, fL_pR, fR_pR, aI_pR, aL_pR, aR_pR, nx_qI, kd_qI, ln_qI, fI_qI, fL_qI, fR_qI, aI_qI, aL_qI, aR_qI, nx_qL, kd_qL, ln_qL, fI_qL, fL_qL, fR_qL, aI_qL, aL_qL, aR_qL, nx_qR, kd_qR, ln_qR, fI_qR, fL_qR, fR_qR, aI_qR, aL_qR, aR_qR, nx_mk, kd_mk, ln_mk, fI_mk, fL_mk, fR_mk, aI_mk, aL_mk, aR_mk, false_and, and_false, if_false, if_true, and_self, Int.reduceEq, Nat.reduceEqDiff, ite_self, MLay_pI, MLay_pL, MLay_qI, MLay_qL, ev_X4_takeWord_0, ev_X4_takeWord_1, ev_X4_takeWord_2, xt_X4_takeWord, xf_X4_takeWord, us_X4_isWord, us_X4_refuse, us_X4_nextToken, hC, hk]
    repeat' (first | intro z | apply And.intro)
    all_goals try omega
    all_goals try contradiction
    all_goals exact ⟨p, ww, hR0, hW, w5⟩

def sp_X4_takeAmount : Sp := fun av σ Q => oR av fun this av => av = [] ∧ kd σ this = 5 ∧ (this = 26 ∧ CLay σ ∧ Sgt σ ∧ ∃ p, RD σ p ∧ (tK (aI σ 25) (fI σ 901 24) p = 2 → tT (aI σ 25) (fI σ 901 24) p ≤ 9 → ∀ σ', Fz (506 :: tkF) noR noR σ σ' → RD σ' (tE (aI σ 25) (fI σ 901 24) p) → fI σ' 506 26 = tT (aI σ 25) (fI σ 901 24) p → Q (some (vi 1)) σ') ∧ (¬ tK (aI σ 25) (fI σ 901 24) p = 2 → Q (some (vi 0)) (pI σ 507 26 (1 + 16 * kB (aI σ 25) (fI σ 901 24) p))) ∧ (tK (aI σ 25) (fI σ 901 24) p = 2 → 9 < tT (aI σ 25) (fI σ 901 24) p → Q (some (vi 0)) (pI σ 507 26 (4 + 16 * kB (aI σ 25) (fI σ 901 24) p))))
theorem us_X4_takeAmount (this : Int) (σ : Hp) (Q : Option AV → Hp → Prop) : sp_X4_takeAmount [vr this] σ Q = (kd σ this = 5 ∧ (this = 26 ∧ CLay σ ∧ Sgt σ ∧ ∃ p, RD σ p ∧ (tK (aI σ 25) (fI σ 901 24) p = 2 → tT (aI σ 25) (fI σ 901 24) p ≤ 9 → ∀ σ', Fz (506 :: tkF) noR noR σ σ' → RD σ' (tE (aI σ 25) (fI σ 901 24) p) → fI σ' 506 26 = tT (aI σ 25) (fI σ 901 24) p → Q (some (vi 1)) σ') ∧ (¬ tK (aI σ 25) (fI σ 901 24) p = 2 → Q (some (vi 0)) (pI σ 507 26 (1 + 16 * kB (aI σ 25) (fI σ 901 24) p))) ∧ (tK (aI σ 25) (fI σ 901 24) p = 2 → 9 < tT (aI σ 25) (fI σ 901 24) p → Q (some (vi 0)) (pI σ 507 26 (4 + 16 * kB (aI σ 25) (fI σ 901 24) p))))) := propext ⟨fun h => h.2, fun h => ⟨rfl, h⟩⟩
theorem el_X4_takeAmount {av : List AV} {σ : Hp} {Q : Option AV → Hp → Prop} (h : sp_X4_takeAmount av σ Q) : ∃ (this : Int), av = [vr this] ∧ (kd σ this = 5 ∧ (this = 26 ∧ CLay σ ∧ Sgt σ ∧ ∃ p, RD σ p ∧ (tK (aI σ 25) (fI σ 901 24) p = 2 → tT (aI σ 25) (fI σ 901 24) p ≤ 9 → ∀ σ', Fz (506 :: tkF) noR noR σ σ' → RD σ' (tE (aI σ 25) (fI σ 901 24) p) → fI σ' 506 26 = tT (aI σ 25) (fI σ 901 24) p → Q (some (vi 1)) σ') ∧ (¬ tK (aI σ 25) (fI σ 901 24) p = 2 → Q (some (vi 0)) (pI σ 507 26 (1 + 16 * kB (aI σ 25) (fI σ 901 24) p))) ∧ (tK (aI σ 25) (fI σ 901 24) p = 2 → 9 < tT (aI σ 25) (fI σ 901 24) p → Q (some (vi 0)) (pI σ 507 26 (4 + 16 * kB (aI σ 25) (fI σ 901 24) p))))) := by
  obtain ⟨this, a0, rfl, h0⟩ := oR_s h
  obtain ⟨rfl, hz⟩ := h0
  exact ⟨this, rfl, hz⟩
theorem rc_X4_takeAmount : ∀ (av : List AV) (σ : Hp) (Q : Option AV → Hp → Prop), sp_X4_takeAmount av σ Q → ∃ r tl, av = vr r :: tl ∧ kd σ r = 4 + 1 := fun av σ Q h => by
  obtain ⟨this, rfl, hz, -⟩ := el_X4_takeAmount h
  exact ⟨this, _, rfl, hz⟩

def tb_X4_takeAmount : Tab := [(0, .aload_n 0, 1, (0, 0, 0, 0)), (1, .getfield 25, 3, (5, 502, 0, 0)), (4, .iconst 3, 1, (0, 0, 0, 0)), (5, .if_icmp .eq 9, 3, (0, 0, 0, 0)), (8, .aload_n 0, 1, (0, 0, 0, 0)), (9, .iconst 1, 1, (0, 0, 0, 0)), (10, .invokevirtual 60, 3, (0, 0, 0, 0)), (13, .ireturn, 1, (0, 0, 0, 0)), (14, .aload_n 0, 1, (0, 0, 0, 0)), (15, .getfield 35, 3, (5, 505, 0, 0)), (18, .bipush 9, 2, (0, 0, 0, 0)), (20, .if_icmp .le 9, 3, (0, 0, 0, 0)), (23, .aload_n 0, 1, (0, 0, 0, 0)), (24, .iconst 4, 1, (0, 0, 0, 0)), (25, .invokevirtual 60, 3, (0, 0, 0, 0)), (28, .ireturn, 1, (0, 0, 0, 0)), (29, .aload_n 0, 1, (0, 0, 0, 0)), (30, .aload_n 0, 1, (0, 0, 0, 0)), (31, .getfield 35, 3, (5, 505, 0, 0)), (34, .putfield 38, 3, (5, 506, 0, 0)), (37, .aload_n 0, 1, (0, 0, 0, 0)), (38, .invokevirtual 47, 3, (0, 0, 0, 0)), (41, .iconst 1, 1, (0, 0, 0, 0)), (42, .ireturn, 1, (0, 0, 0, 0))]
set_option maxRecDepth 100000 in
theorem tk_X4_takeAmount : TOK RX4 false cX4_takeAmount tb_X4_takeAmount := chkT_ok ft_X4 (by decide +kernel)
def mt_X4_takeAmount : List (Nat × Mt) := [(480, 2, 0, 0, 1, sp_X4_refuse), (376, 1, 0, 0, 6, sp_X4_nextToken)]
theorem em_X4_takeAmount : mt_X4_takeAmount.lookup 480 = some (2, 0, 0, 1, sp_X4_refuse) ∧ mt_X4_takeAmount.lookup 376 = some (1, 0, 0, 6, sp_X4_nextToken) := ⟨rfl, rfl⟩
theorem mk_X4_takeAmount : MOK RX4 mt_X4_takeAmount := by
  intro q hq
  simp only [mt_X4_takeAmount, List.mem_cons, List.not_mem_nil, or_false] at hq
  rcases hq with rfl | rfl
  · exact rw_X4_480
  · exact rw_X4_376
noncomputable def xe_X4_takeAmount (ct : Nat → Bool) (K : Kt) (R : Option AV → Hp → Prop) (n : Nat) : Kt := exS 1 7 0 0 2 tb_X4_takeAmount mt_X4_takeAmount ct K R n
noncomputable def xk_X4_takeAmount (ct : Nat → Bool) (K : Kt) (R : Option AV → Hp → Prop) (n : Nat) : Kt := exkS 1 7 0 0 2 tb_X4_takeAmount mt_X4_takeAmount ct K R n
theorem xt_X4_takeAmount {ct : Nat → Bool} {K : Kt} {R : Option AV → Hp → Prop} {n pc : Nat} {ls : List (Option AV)} {st : List AV} {σ : Hp} {k : Nat × Nat} (h : ct pc = true) : xk_X4_takeAmount ct K R n pc ls st σ k = K pc ls st σ k := by unfold xk_X4_takeAmount exkS; rw [h]
theorem xf_X4_takeAmount {ct : Nat → Bool} {K : Kt} {R : Option AV → Hp → Prop} {n pc : Nat} {ls : List (Option AV)} {st : List AV} {σ : Hp} {k : Nat × Nat} (h : ct pc = false) : xk_X4_takeAmount ct K R n pc ls st σ k = xe_X4_takeAmount ct K R n pc ls st σ k := by unfold xk_X4_takeAmount exkS xe_X4_takeAmount; rw [h]
theorem ev_X4_takeAmount_0 {ct : Nat → Bool} {K : Kt} {R : Option AV → Hp → Prop} {n : Nat} {ls : List (Option AV)} {st : List AV} {σ : Hp} {k : Nat × Nat} : xe_X4_takeAmount ct K R (n + 1) 0 ls st σ k = (lR ls 0 fun x => xk_X4_takeAmount ct K R n 1 ls (vr x :: st) σ k) := exS_step.trans rfl
theorem ev_X4_takeAmount_1 {ct : Nat → Bool} {K : Kt} {R : Option AV → Hp → Prop} {n : Nat} {ls : List (Option AV)} {st : List AV} {σ : Hp} {k : Nat × Nat} : xe_X4_takeAmount ct K R (n + 1) 1 ls st σ k = (oR st fun x st => kd σ x = 5 ∧ xk_X4_takeAmount ct K R n 4 ls (vi (fI σ 502 x) :: st) σ k) := exS_step.trans rfl
theorem ev_X4_takeAmount_4 {ct : Nat → Bool} {K : Kt} {R : Option AV → Hp → Prop} {n : Nat} {ls : List (Option AV)} {st : List AV} {σ : Hp} {k : Nat × Nat} : xe_X4_takeAmount ct K R (n + 1) 4 ls st σ k = (xk_X4_takeAmount ct K R n 5 ls (vi (3) :: st) σ k) := exS_step.trans rfl
theorem ev_X4_takeAmount_5 {ct : Nat → Bool} {K : Kt} {R : Option AV → Hp → Prop} {n : Nat} {ls : List (Option AV)} {st : List AV} {σ : Hp} {k : Nat × Nat} : xe_X4_takeAmount ct K R (n + 1) 5 ls st σ k = (oI st fun y st => oI st fun x st => (wI x = wI y → xk_X4_takeAmount ct K R n 14 ls st σ k) ∧ (¬ (wI x = wI y) → xk_X4_takeAmount ct K R n 8 ls st σ k)) := exS_step.trans rfl
theorem ev_X4_takeAmount_8 {ct : Nat → Bool} {K : Kt} {R : Option AV → Hp → Prop} {n : Nat} {ls : List (Option AV)} {st : List AV} {σ : Hp} {k : Nat × Nat} : xe_X4_takeAmount ct K R (n + 1) 8 ls st σ k = (lR ls 0 fun x => xk_X4_takeAmount ct K R n 9 ls (vr x :: st) σ k) := exS_step.trans rfl
theorem ev_X4_takeAmount_9 {ct : Nat → Bool} {K : Kt} {R : Option AV → Hp → Prop} {n : Nat} {ls : List (Option AV)} {st : List AV} {σ : Hp} {k : Nat × Nat} : xe_X4_takeAmount ct K R (n + 1) 9 ls st σ k = (xk_X4_takeAmount ct K R n 10 ls (vi (1) :: st) σ k) := exS_step.trans rfl
theorem ev_X4_takeAmount_10 {ct : Nat → Bool} {K : Kt} {R : Option AV → Hp → Prop} {n : Nat} {ls : List (Option AV)} {st : List AV} {σ : Hp} {k : Nat × Nat} : xe_X4_takeAmount ct K R (n + 1) 10 ls st σ k = (popN 2 st [] fun av rest => (catS rest ≤ 8 ∧ 1 < 7 ∧ k.1 + 0 ≤ 0 ∧ k.2 + 0 ≤ 0) ∧ (sp_X4_refuse) av σ fun v σ' => xk_X4_takeAmount ct K R n 13 ls (v.toList ++ rest) σ' (k.1 + 0, k.2 + 0)) := exS_step.trans rfl
theorem ev_X4_takeAmount_13 {ct : Nat → Bool} {K : Kt} {R : Option AV → Hp → Prop} {n : Nat} {ls : List (Option AV)} {st : List AV} {σ : Hp} {k : Nat × Nat} : xe_X4_takeAmount ct K R (n + 1) 13 ls st σ k = (oI st fun x st => st = [] ∧ (x = 0 ∨ x = 1) ∧ R (some (vi x)) σ) := exS_step.trans rfl
theorem ev_X4_takeAmount_14 {ct : Nat → Bool} {K : Kt} {R : Option AV → Hp → Prop} {n : Nat} {ls : List (Option AV)} {st : List AV} {σ : Hp} {k : Nat × Nat} : xe_X4_takeAmount ct K R (n + 1) 14 ls st σ k = (lR ls 0 fun x => xk_X4_takeAmount ct K R n 15 ls (vr x :: st) σ k) := exS_step.trans rfl
theorem ev_X4_takeAmount_15 {ct : Nat → Bool} {K : Kt} {R : Option AV → Hp → Prop} {n : Nat} {ls : List (Option AV)} {st : List AV} {σ : Hp} {k : Nat × Nat} : xe_X4_takeAmount ct K R (n + 1) 15 ls st σ k = (oR st fun x st => kd σ x = 5 ∧ xk_X4_takeAmount ct K R n 18 ls (vi (fI σ 505 x) :: st) σ k) := exS_step.trans rfl
theorem ev_X4_takeAmount_18 {ct : Nat → Bool} {K : Kt} {R : Option AV → Hp → Prop} {n : Nat} {ls : List (Option AV)} {st : List AV} {σ : Hp} {k : Nat × Nat} : xe_X4_takeAmount ct K R (n + 1) 18 ls st σ k = (xk_X4_takeAmount ct K R n 20 ls (vi (9) :: st) σ k) := exS_step.trans rfl
theorem ev_X4_takeAmount_20 {ct : Nat → Bool} {K : Kt} {R : Option AV → Hp → Prop} {n : Nat} {ls : List (Option AV)} {st : List AV} {σ : Hp} {k : Nat × Nat} : xe_X4_takeAmount ct K R (n + 1) 20 ls st σ k = (oI st fun y st => oI st fun x st => (wI x ≤ wI y → xk_X4_takeAmount ct K R n 29 ls st σ k) ∧ (¬ (wI x ≤ wI y) → xk_X4_takeAmount ct K R n 23 ls st σ k)) := exS_step.trans rfl
theorem ev_X4_takeAmount_23 {ct : Nat → Bool} {K : Kt} {R : Option AV → Hp → Prop} {n : Nat} {ls : List (Option AV)} {st : List AV} {σ : Hp} {k : Nat × Nat} : xe_X4_takeAmount ct K R (n + 1) 23 ls st σ k = (lR ls 0 fun x => xk_X4_takeAmount ct K R n 24 ls (vr x :: st) σ k) := exS_step.trans rfl
theorem ev_X4_takeAmount_24 {ct : Nat → Bool} {K : Kt} {R : Option AV → Hp → Prop} {n : Nat} {ls : List (Option AV)} {st : List AV} {σ : Hp} {k : Nat × Nat} : xe_X4_takeAmount ct K R (n + 1) 24 ls st σ k = (xk_X4_takeAmount ct K R n 25 ls (vi (4) :: st) σ k) := exS_step.trans rfl
theorem ev_X4_takeAmount_25 {ct : Nat → Bool} {K : Kt} {R : Option AV → Hp → Prop} {n : Nat} {ls : List (Option AV)} {st : List AV} {σ : Hp} {k : Nat × Nat} : xe_X4_takeAmount ct K R (n + 1) 25 ls st σ k = (popN 2 st [] fun av rest => (catS rest ≤ 8 ∧ 1 < 7 ∧ k.1 + 0 ≤ 0 ∧ k.2 + 0 ≤ 0) ∧ (sp_X4_refuse) av σ fun v σ' => xk_X4_takeAmount ct K R n 28 ls (v.toList ++ rest) σ' (k.1 + 0, k.2 + 0)) := exS_step.trans rfl
theorem ev_X4_takeAmount_28 {ct : Nat → Bool} {K : Kt} {R : Option AV → Hp → Prop} {n : Nat} {ls : List (Option AV)} {st : List AV} {σ : Hp} {k : Nat × Nat} : xe_X4_takeAmount ct K R (n + 1) 28 ls st σ k = (oI st fun x st => st = [] ∧ (x = 0 ∨ x = 1) ∧ R (some (vi x)) σ) := exS_step.trans rfl
theorem ev_X4_takeAmount_29 {ct : Nat → Bool} {K : Kt} {R : Option AV → Hp → Prop} {n : Nat} {ls : List (Option AV)} {st : List AV} {σ : Hp} {k : Nat × Nat} : xe_X4_takeAmount ct K R (n + 1) 29 ls st σ k = (lR ls 0 fun x => xk_X4_takeAmount ct K R n 30 ls (vr x :: st) σ k) := exS_step.trans rfl
theorem ev_X4_takeAmount_30 {ct : Nat → Bool} {K : Kt} {R : Option AV → Hp → Prop} {n : Nat} {ls : List (Option AV)} {st : List AV} {σ : Hp} {k : Nat × Nat} : xe_X4_takeAmount ct K R (n + 1) 30 ls st σ k = (lR ls 0 fun x => xk_X4_takeAmount ct K R n 31 ls (vr x :: st) σ k) := exS_step.trans rfl
theorem ev_X4_takeAmount_31 {ct : Nat → Bool} {K : Kt} {R : Option AV → Hp → Prop} {n : Nat} {ls : List (Option AV)} {st : List AV} {σ : Hp} {k : Nat × Nat} : xe_X4_takeAmount ct K R (n + 1) 31 ls st σ k = (oR st fun x st => kd σ x = 5 ∧ xk_X4_takeAmount ct K R n 34 ls (vi (fI σ 505 x) :: st) σ k) := exS_step.trans rfl
theorem ev_X4_takeAmount_34 {ct : Nat → Bool} {K : Kt} {R : Option AV → Hp → Prop} {n : Nat} {ls : List (Option AV)} {st : List AV} {σ : Hp} {k : Nat × Nat} : xe_X4_takeAmount ct K R (n + 1) 34 ls st σ k = (oI st fun v st => oR st fun x st => kd σ x = 5 ∧ xk_X4_takeAmount ct K R n 37 ls st (pI σ 506 x v) k) := exS_step.trans rfl
theorem ev_X4_takeAmount_37 {ct : Nat → Bool} {K : Kt} {R : Option AV → Hp → Prop} {n : Nat} {ls : List (Option AV)} {st : List AV} {σ : Hp} {k : Nat × Nat} : xe_X4_takeAmount ct K R (n + 1) 37 ls st σ k = (lR ls 0 fun x => xk_X4_takeAmount ct K R n 38 ls (vr x :: st) σ k) := exS_step.trans rfl
theorem ev_X4_takeAmount_38 {ct : Nat → Bool} {K : Kt} {R : Option AV → Hp → Prop} {n : Nat} {ls : List (Option AV)} {st : List AV} {σ : Hp} {k : Nat × Nat} : xe_X4_takeAmount ct K R (n + 1) 38 ls st σ k = (popN 1 st [] fun av rest => (catS rest ≤ 8 ∧ 6 < 7 ∧ k.1 + 0 ≤ 0 ∧ k.2 + 0 ≤ 0) ∧ (sp_X4_nextToken) av σ fun v σ' => xk_X4_takeAmount ct K R n 41 ls (v.toList ++ rest) σ' (k.1 + 0, k.2 + 0)) := exS_step.trans rfl
theorem ev_X4_takeAmount_41 {ct : Nat → Bool} {K : Kt} {R : Option AV → Hp → Prop} {n : Nat} {ls : List (Option AV)} {st : List AV} {σ : Hp} {k : Nat × Nat} : xe_X4_takeAmount ct K R (n + 1) 41 ls st σ k = (xk_X4_takeAmount ct K R n 42 ls (vi (1) :: st) σ k) := exS_step.trans rfl
theorem ev_X4_takeAmount_42 {ct : Nat → Bool} {K : Kt} {R : Option AV → Hp → Prop} {n : Nat} {ls : List (Option AV)} {st : List AV} {σ : Hp} {k : Nat × Nat} : xe_X4_takeAmount ct K R (n + 1) 42 ls st σ k = (oI st fun x st => st = [] ∧ (x = 0 ∨ x = 1) ∧ R (some (vi x)) σ) := exS_step.trans rfl
def M_X4_takeAmount : Md := (yX4_takeAmount, cX4_takeAmount, 1, (some FieldType.boolean), 7, 0, 0, 2, false, tb_X4_takeAmount, mt_X4_takeAmount)
theorem mm_X4_takeAmount : MMOK M_X4_takeAmount := ⟨by decide +kernel, tk_X4_takeAmount, mk_X4_takeAmount, rfl, fun h => by cases h⟩
theorem go_X4_takeAmount {Q : Option AV → Hp → Prop} {ct : Nat → Bool} {pc : Nat} {ls : List (Option AV)} {st : List AV} {σ : Hp} {k : Nat × Nat} (n : Nat) (h : xe_X4_takeAmount ct (Go M_X4_takeAmount Q) Q n pc ls st σ k) : Go M_X4_takeAmount Q pc ls st σ k := Go.exS mm_X4_takeAmount h

set_option maxRecDepth 20000 in
theorem c_X4_takeAmount : Ct yX4_takeAmount cX4_takeAmount 1 ((some FieldType.boolean)) 7 0 0 sp_X4_takeAmount := by
  refine Ct.go (M := M_X4_takeAmount) mm_X4_takeAmount fun av σ Q h0 => ?_
  obtain ⟨this, rfl, hk, h⟩ := el_X4_takeAmount h0
  clear h0
  refine ⟨Nat.le_of_ble_eq_true rfl, ?_⟩
  show Go M_X4_takeAmount Q 0 [some (vr this)] [] σ (0, 0)
  obtain ⟨rfl, hC, hS, p, hR, h1, h2, h3⟩ := h
  have hR0 := hR
  obtain ⟨hT, hp, r1, r2, r3, r4⟩ := hR
  have hz := hT.1
  have ht := tok_in (aI σ 25) hp.2
  have htk := km_in (aI σ 25) (fI σ 901 24) p
  have htt := tT_in (aI σ 25) (fI σ 901 24) p hp.2
  rw [← r1] at h2 h3
  have hpl : 0 ≤ fI σ 503 26 ∧ fI σ 503 26 ≤ 1000 := by omega
  by_cases c : tK (aI σ 25) (fI σ 901 24) p = 2
  · have r4 := r4 c
    have r3 : fI σ 502 26 = 3 := by rw [r3, c]; rfl
    by_cases c2 : tT (aI σ 25) (fI σ 901 24) p ≤ 9
    · have h1 := h1 c c2
      have y1 : Fz (506 :: tkF) noR noR σ (pI σ 506 26 (tT (aI σ 25) (fI σ 901 24) p)) := Fz_pI _ _ _ (by decide)
      have C1 : CLay (pI σ 506 26 (tT (aI σ 25) (fI σ 901 24) p)) := hC
      have T1 : LTT (pI σ 506 26 (tT (aI σ 25) (fI σ 901 24) p)) := hT
      have S1 := hS.fz y1 (by decide) (fun r q => absurd q id)
      have b1 : fI (pI σ 506 26 (tT (aI σ 25) (fI σ 901 24) p)) 504 26 = tE (aI σ 25) (fI σ 901 24) p := by rw [fI_pI, if_neg (by decide)]; exact r2
      have a1 : fI (pI σ 506 26 (tT (aI σ 25) (fI σ 901 24) p)) 506 26 = tT (aI σ 25) (fI σ 901 24) p := by rw [fI_pI, if_pos ⟨rfl, rfl⟩]
      have k1 : kd (pI σ 506 26 (tT (aI σ 25) (fI σ 901 24) p)) 26 = 5 := hk
      have z1 : fI (pI σ 506 26 (tT (aI σ 25) (fI σ 901 24) p)) 901 24 = fI σ 901 24 := by rw [fI_pI, if_neg (by decide)]
      have w37 : Go M_X4_takeAmount Q 37 [some (vr 26)] [] (pI σ 506 26 (tT (aI σ 25) (fI σ 901 24) p)) (0, 0) := by
        have hb : 0 ≤ tE (aI σ 25) (fI σ 901 24) p ∧ tE (aI σ 25) (fI σ 901 24) p ≤ fI σ 901 24 := by omega
        generalize pI σ 506 26 (tT (aI σ 25) (fI σ 901 24) p) = ρ at *
        have w41 : ∀ σ', Fz tkF noR noR ρ σ' → RD σ' (tE (aI σ 25) (fI σ 901 24) p) → Go M_X4_takeAmount Q 41 [some (vr 26)] [] σ' (0, 0) := fun σ' q1 q2 => by
          have h := h1 σ' (y1.tr (q1.up (by decide) (fun r q => q) (fun r q => q))) q2 (by rw [q1.fI (by decide)]; exact a1)
          refine go_X4_takeAmount (ct := fun p => p == 99) 20 ?_
          simp only [oI, oL, oR, o1, lI, lL, lR, popN, catS, gv, stL, stL2, swt, cnd, spObj, List.getElem?_cons_zero, List.getElem?_cons_succ, List.getD_cons_zero, List.getD_cons_succ, List.set_cons_zero, List.set_cons_succ, List.nil_append, List.cons_append, Option.toList, Bool.or_false, Bool.false_or, Bool.or_true, Bool.true_or, Nat.reduceBEq, Nat.reduceAdd, Nat.reduceLT, Nat.reduceLeDiff, Int.reduceAdd, Int.reduceToNat, true_and, and_true, Fin.isValue, Fin.val_zero, Fin.val_one, Fin.val_two, Fin.reduceFinMk, eq_self, Int.reduceNeg, imp_self, Nat.reduceMul, Nat.le_refl, not_true_eq_false, not_false_eq_true, List.getElem?_nil, reduceCtorEq, true_or, or_true, Classical.not_not, implies_true, or_self, wI_0, wI_1, wI_m1, b2i_w, b2i_eq0, b2i_eq1, b2i_bool, nor_self, nx_pI, kd_pI, ln_pI, fI_pI, fL_pI, fR_pI, aI_pI, aL_pI, aR_pI, nx_pL, kd_pL, ln_pL, fI_pL, fL_pL, fR_pL, aI_pL, aL_pL, aR_pL, nx_pR, kd_pR, ln_pR, fI_pR, fL_pR, fR_pR, aI_pR, aL_pR, aR_pR, nx_qI, kd_qI, ln_qI, fI_qI, fL_qI, fR_qI, aI_qI, aL_qI, aR_qI, nx_qL, kd_qL, ln_qL, fI_qL, fL_qL, fR_qL, aI_qL, aL_qL, aR_qL, nx_qR, kd_qR, ln_qR, fI_qR, fL_qR, fR_qR, aI_qR, aL_qR, aR_qR, nx_mk, kd_mk, ln_mk, fI_mk, fL_mk, fR_mk, aI_mk, aL_mk, aR_mk, false_and, and_false, if_false, if_true, and_self, Int.reduceEq, Nat.reduceEqDiff, ite_self, MLay_pI, MLay_pL, MLay_qI, MLay_qL, ev_X4_takeAmount_41, ev_X4_takeAmount_42, xt_X4_takeAmount, xf_X4_takeAmount, us_X4_refuse, us_X4_nextToken]
          repeat' (first | intro z | apply And.intro)
          all_goals try omega
          all_goals try contradiction
          all_goals exact h
        clear h1 h2 h3 hR0 y1
        refine go_X4_takeAmount (ct := fun p => p == 41) 20 ?_
        simp only [oI, oL, oR, o1, lI, lL, lR, popN, catS, gv, stL, stL2, swt, cnd, spObj, List.getElem?_cons_zero, List.getElem?_cons_succ, List.getD_cons_zero, List.getD_cons_succ, List.set_cons_zero, List.set_cons_succ, List.nil_append, List.cons_append, Option.toList, Bool.or_false, Bool.false_or, Bool.or_true, Bool.true_or, Nat.reduceBEq, Nat.reduceAdd, Nat.reduceLT, Nat.reduceLeDiff, Int.reduceAdd, Int.reduceToNat, true_and, and_true, Fin.isValue, Fin.val_zero, Fin.val_one, Fin.val_two, Fin.reduceFinMk, eq_self, Int.reduceNeg, imp_self, Nat.reduceMul, Nat.le_refl, not_true_eq_false, not_false_eq_true, List.getElem?_nil, reduceCtorEq, true_or, or_true, Classical.not_not, implies_true, or_self, wI_0, wI_1, wI_m1, b2i_w, b2i_eq0, b2i_eq1, b2i_bool, nor_self, nx_pI, kd_pI, ln_pI, fI_pI, fL_pI, fR_pI, aI_pI, aL_pI, aR_pI, nx_pL, kd_pL, ln_pL, fI_pL, fL_pL, fR_pL, aI_pL, aL_pL, aR_pL, nx_pR, kd_pR, ln_pR, fI_pR, fL_pR, fR_pR, aI_pR, aL_pR, aR_pR, nx_qI, kd_qI, ln_qI, fI_qI, fL_qI, fR_qI, aI_qI, aL_qI, aR_qI, nx_qL, kd_qL, ln_qL, fI_qL, fL_qL, fR_qL, aI_qL, aL_qL, aR_qL, nx_qR, kd_qR, ln_qR, fI_qR, fL_qR, fR_qR, aI_qR, aL_qR, aR_qR, nx_mk, kd_mk, ln_mk, fI_mk, fL_mk, fR_mk, aI_mk, aL_mk, aR_mk, false_and, and_false, if_false, if_true, and_self, Int.reduceEq, Nat.reduceEqDiff, ite_self, MLay_pI, MLay_pL, MLay_qI, MLay_qL, ev_X4_takeAmount_37, ev_X4_takeAmount_38, xt_X4_takeAmount, xf_X4_takeAmount, us_X4_refuse, us_X4_nextToken, C1, k1, T1, S1, b1, z1, hb]
        repeat' (first | intro z | apply And.intro)
        all_goals try omega
        all_goals try contradiction
        all_goals exact w41 _ ‹_› ‹_›
      clear h1 h2 h3 hR0 y1 C1 T1 S1 b1 a1 k1 z1
      refine go_X4_takeAmount (ct := fun p => p == 8 || p == 23 || p == 37) 40 ?_
      simp only [oI, oL, oR, o1, lI, lL, lR, popN, catS, gv, stL, stL2, swt, cnd, spObj, List.getElem?_cons_zero, List.getElem?_cons_succ, List.getD_cons_zero, List.getD_cons_succ, List.set_cons_zero, List.set_cons_succ, List.nil_append, List.cons_append, Option.toList, Bool.or_false, Bool.false_or, Bool.or_true, Bool.true_or, Nat.reduceBEq, Nat.reduceAdd, Nat.reduceLT, Nat.reduceLeDiff, Int.reduceAdd, Int.reduceToNat, true_and, and_true, Fin.isValue, Fin.val_zero, Fin.val_one, Fin.val_two, Fin.reduceFinMk, eq_self, Int.reduceNeg, imp_self, Nat.reduceMul, Nat.le_refl, not_true_eq_false, not_false_eq_true, List.getElem?_nil, reduceCtorEq, true_or, or_true, Classical.not_not, implies_true, or_self, wI_0, wI_1, wI_m1, b2i_w, b2i_eq0, b2i_eq1, b2i_bool, nor_self, nx_pI, kd_pI, ln_pI, fI_pI, fL_pI, fR_pI, aI_pI, aL_pI, aR_pI, nx_pL, kd_pL, ln_pL, fI_pL, fL_pL, fR_pL, aI_pL, aL_pL, aR_pL, nx_pR, kd_pR, ln_pR, fI_pR, fL_pR, fR_pR, aI_pR, aL_pR, aR_pR, nx_qI, kd_qI, ln_qI, fI_qI, fL_qI, fR_qI, aI_qI, aL_qI, aR_qI, nx_qL, kd_qL, ln_qL, fI_qL, fL_qL, fR_qL, aI_qL, aL_qL, aR_qL, nx_qR, kd_qR, ln_qR, fI_qR, fL_qR, fR_qR, aI_qR, aL_qR, aR_qR, nx_mk, kd_mk, ln_mk, fI_mk, fL_mk, fR_mk, aI_mk, aL_mk, aR_mk, false_and, and_false, if_false, if_true, and_self, Int.reduceEq, Nat.reduceEqDiff, ite_self, MLay_pI, MLay_pL, MLay_qI, MLay_qL, ev_X4_takeAmount_0, ev_X4_takeAmount_1, ev_X4_takeAmount_4, ev_X4_takeAmount_5, ev_X4_takeAmount_8, ev_X4_takeAmount_9, ev_X4_takeAmount_10, ev_X4_takeAmount_13, ev_X4_takeAmount_14, ev_X4_takeAmount_15, ev_X4_takeAmount_18, ev_X4_takeAmount_20, ev_X4_takeAmount_23, ev_X4_takeAmount_24, ev_X4_takeAmount_25, ev_X4_takeAmount_28, ev_X4_takeAmount_29, ev_X4_takeAmount_30, ev_X4_takeAmount_31, ev_X4_takeAmount_34, xt_X4_takeAmount, xf_X4_takeAmount, us_X4_refuse, us_X4_nextToken, hk, r3, r4]
      try simp (disch := omega) only [wI_id, dv_nn, rm_nn]
      repeat' (first | intro z | apply And.intro)
      all_goals try omega
      all_goals try contradiction
      all_goals exact w37
    · have h3 := h3 c (by omega)
      clear h1 h2 hR0
      refine go_X4_takeAmount (ct := fun p => p == 8 || p == 29) 40 ?_
      simp only [oI, oL, oR, o1, lI, lL, lR, popN, catS, gv, stL, stL2, swt, cnd, spObj, List.getElem?_cons_zero, List.getElem?_cons_succ, List.getD_cons_zero, List.getD_cons_succ, List.set_cons_zero, List.set_cons_succ, List.nil_append, List.cons_append, Option.toList, Bool.or_false, Bool.false_or, Bool.or_true, Bool.true_or, Nat.reduceBEq, Nat.reduceAdd, Nat.reduceLT, Nat.reduceLeDiff, Int.reduceAdd, Int.reduceToNat, true_and, and_true, Fin.isValue, Fin.val_zero, Fin.val_one, Fin.val_two, Fin.reduceFinMk, eq_self, Int.reduceNeg, imp_self, Nat.reduceMul, Nat.le_refl, not_true_eq_false, not_false_eq_true, List.getElem?_nil, reduceCtorEq, true_or, or_true, Classical.not_not, implies_true, or_self, wI_0, wI_1, wI_m1, b2i_w, b2i_eq0, b2i_eq1, b2i_bool, nor_self, nx_pI, kd_pI, ln_pI, fI_pI, fL_pI, fR_pI, aI_pI, aL_pI, aR_pI, nx_pL, kd_pL, ln_pL, fI_pL, fL_pL, fR_pL, aI_pL, aL_pL, aR_pL, nx_pR, kd_pR, ln_pR, fI_pR, fL_pR, fR_pR, aI_pR, aL_pR, aR_pR, nx_qI, kd_qI, ln_qI, fI_qI, fL_qI, fR_qI, aI_qI, aL_qI, aR_qI, nx_qL, kd_qL, ln_qL, fI_qL, fL_qL, fR_qL, aI_qL, aL_qL, aR_qL, nx_qR, kd_qR, ln_qR, fI_qR, fL_qR, fR_qR, aI_qR, aL_qR, aR_qR, nx_mk, kd_mk, ln_mk, fI_mk, fL_mk, fR_mk, aI_mk, aL_mk, aR_mk, false_and, and_false, if_false, if_true, and_self, Int.reduceEq, Nat.reduceEqDiff, ite_self, MLay_pI, MLay_pL, MLay_qI, MLay_qL, ev_X4_takeAmount_0, ev_X4_takeAmount_1, ev_X4_takeAmount_4, ev_X4_takeAmount_5, ev_X4_takeAmount_8, ev_X4_takeAmount_9, ev_X4_takeAmount_10, ev_X4_takeAmount_13, ev_X4_takeAmount_14, ev_X4_takeAmount_15, ev_X4_takeAmount_18, ev_X4_takeAmount_20, ev_X4_takeAmount_23, ev_X4_takeAmount_24, ev_X4_takeAmount_25, ev_X4_takeAmount_28, xt_X4_takeAmount, xf_X4_takeAmount, us_X4_refuse, us_X4_nextToken, hk, r3, r4, hpl]
      try simp (disch := omega) only [wI_id, dv_nn, rm_nn]
      repeat' (first | intro z | apply And.intro)
      all_goals try omega
      all_goals try contradiction
      all_goals exact h3
  · have h2 := h2 c
    have r3 : ¬ fI σ 502 26 = 3 ∧ 0 ≤ fI σ 502 26 ∧ fI σ 502 26 ≤ 4 := by omega
    clear h1 h3 hR0 htk
    refine go_X4_takeAmount (ct := fun p => p == 14) 40 ?_
    simp only [oI, oL, oR, o1, lI, lL, lR, popN, catS, gv, stL, stL2, swt, cnd, spObj, List.getElem?_cons_zero, List.getElem?_cons_succ, List.getD_cons_zero, List.getD_cons_succ, List.set_cons_zero, List.set_cons_succ, List.nil_append, List.cons_append, Option.toList, Bool.or_false, Bool.false_or, Bool.or_true, Bool.true_or, Nat.reduceBEq, Nat.reduceAdd, Nat.reduceLT, Nat.reduceLeDiff, Int.reduceAdd, Int.reduceToNat, true_and, and_true, Fin.isValue, Fin.val_zero, Fin.val_one, Fin.val_two, Fin.reduceFinMk, eq_self, Int.reduceNeg, imp_self, Nat.reduceMul, Nat.le_refl, not_true_eq_false, not_false_eq_true, List.getElem?_nil, reduceCtorEq, true_or, or_true, Classical.not_not, implies_true, or_self, wI_0, wI_1, wI_m1, b2i_w, b2i_eq0, b2i_eq1, b2i_bool, nor_self, nx_pI, kd_pI, ln_pI, fI_pI, fL_pI, fR_pI, aI_pI, aL_pI, aR_pI, nx_pL, kd_pL, ln_pL, fI_pL, fL_pL, fR_pL, aI_pL, aL_pL, aR_pL, nx_pR, kd_pR, ln_pR, fI_pR, fL_pR, fR_pR, aI_pR, aL_pR, aR_pR, nx_qI, kd_qI, ln_qI, fI_qI, fL_qI, fR_qI, aI_qI, aL_qI, aR_qI, nx_qL, kd_qL, ln_qL, fI_qL, fL_qL, fR_qL, aI_qL, aL_qL, aR_qL, nx_qR, kd_qR, ln_qR, fI_qR, fL_qR, fR_qR, aI_qR, aL_qR, aR_qR, nx_mk, kd_mk, ln_mk, fI_mk, fL_mk, fR_mk, aI_mk, aL_mk, aR_mk, false_and, and_false, if_false, if_true, and_self, Int.reduceEq, Nat.reduceEqDiff, ite_self, MLay_pI, MLay_pL, MLay_qI, MLay_qL, ev_X4_takeAmount_0, ev_X4_takeAmount_1, ev_X4_takeAmount_4, ev_X4_takeAmount_5, ev_X4_takeAmount_8, ev_X4_takeAmount_9, ev_X4_takeAmount_10, ev_X4_takeAmount_13, xt_X4_takeAmount, xf_X4_takeAmount, us_X4_refuse, us_X4_nextToken, hk, hpl]
    try simp (disch := omega) only [wI_id, dv_nn, rm_nn]
    repeat' (first | intro z | apply And.intro)
    all_goals try omega
    all_goals try contradiction
    all_goals exact h2
