/-! the reference: time and loops -/

/-- a box lies between cut wires -/
def mDumb (σ : Hp) (b : Int) : Prop := (bE (aI σ 74 (aI σ 62 b) + 1) fun w => ¬ aI σ 76 (13 * aI σ 62 b + w) = 0 ∧ w ≤ aI σ 68 b) ∧ (bE (aI σ 74 (aI σ 62 b) + 1) fun w => ¬ aI σ 76 (13 * aI σ 62 b + w) = 0 ∧ ¬ w ≤ aI σ 68 b)

def sp_X12_isDumb : Sp := fun av σ Q => oR av fun this av => oI av fun b av => av = [] ∧ kd σ this = 13 ∧ (this = 61 ∧ MI σ ∧ (0 ≤ b ∧ b < 32) ∧ Q (some (vi (b2i (mDumb σ b)))) σ)
theorem us_X12_isDumb (this : Int) (b : Int) (σ : Hp) (Q : Option AV → Hp → Prop) : sp_X12_isDumb [vr this, vi b] σ Q = (kd σ this = 13 ∧ (this = 61 ∧ MI σ ∧ (0 ≤ b ∧ b < 32) ∧ Q (some (vi (b2i (mDumb σ b)))) σ)) := propext ⟨fun h => h.2, fun h => ⟨rfl, h⟩⟩
theorem el_X12_isDumb {av : List AV} {σ : Hp} {Q : Option AV → Hp → Prop} (h : sp_X12_isDumb av σ Q) : ∃ (this : Int) (b : Int), av = [vr this, vi b] ∧ (kd σ this = 13 ∧ (this = 61 ∧ MI σ ∧ (0 ≤ b ∧ b < 32) ∧ Q (some (vi (b2i (mDumb σ b)))) σ)) := by
  obtain ⟨this, a0, rfl, h0⟩ := oR_s h
  obtain ⟨b, a1, rfl, h1⟩ := oI_s h0
  obtain ⟨rfl, hz⟩ := h1
  exact ⟨this, b, rfl, hz⟩
theorem rc_X12_isDumb : ∀ (av : List AV) (σ : Hp) (Q : Option AV → Hp → Prop), sp_X12_isDumb av σ Q → ∃ r tl, av = vr r :: tl ∧ kd σ r = 12 + 1 := fun av σ Q h => by
  obtain ⟨this, b, rfl, hz, -⟩ := el_X12_isDumb h
  exact ⟨this, _, rfl, hz⟩

def tb_X12_isDumb : Tab := [(0, .iconst 0, 1, (0, 0, 0, 0)), (1, .istore_n 2, 1, (0, 0, 0, 0)), (2, .iconst 0, 1, (0, 0, 0, 0)), (3, .istore_n 3, 1, (0, 0, 0, 0)), (4, .aload_n 0, 1, (0, 0, 0, 0)), (5, .getfield 7, 3, (13, 1303, 2, 0)), (8, .iload_n 1, 1, (0, 0, 0, 0)), (9, .iaload, 1, (0, 0, 0, 0)), (10, .istore 4, 2, (0, 0, 0, 0)), (12, .iconst 0, 1, (0, 0, 0, 0)), (13, .istore 5, 2, (0, 0, 0, 0)), (15, .iload 5, 2, (0, 0, 0, 0)), (17, .aload_n 0, 1, (0, 0, 0, 0)), (18, .getfield 47, 3, (13, 1315, 2, 0)), (21, .iload 4, 2, (0, 0, 0, 0)), (23, .iaload, 1, (0, 0, 0, 0)), (24, .if_icmp .gt 46, 3, (0, 0, 0, 0)), (27, .aload_n 0, 1, (0, 0, 0, 0)), (28, .getfield 53, 3, (13, 1317, 2, 0)), (31, .bipush 13, 2, (0, 0, 0, 0)), (33, .iload 4, 2, (0, 0, 0, 0)), (35, .imul, 1, (0, 0, 0, 0)), (36, .iload 5, 2, (0, 0, 0, 0)), (38, .iadd, 1, (0, 0, 0, 0)), (39, .baload, 1, (0, 0, 0, 0)), (40, .ifCond .ne 6, 3, (0, 0, 0, 0)), (43, .goto 21, 3, (0, 0, 0, 0)), (46, .iload 5, 2, (0, 0, 0, 0)), (48, .aload_n 0, 1, (0, 0, 0, 0)), (49, .getfield 28, 3, (13, 1309, 2, 0)), (52, .iload_n 1, 1, (0, 0, 0, 0)), (53, .iaload, 1, (0, 0, 0, 0)), (54, .if_icmp .gt 8, 3, (0, 0, 0, 0)), (57, .iconst 1, 1, (0, 0, 0, 0)), (58, .istore_n 2, 1, (0, 0, 0, 0)), (59, .goto 5, 3, (0, 0, 0, 0)), (62, .iconst 1, 1, (0, 0, 0, 0)), (63, .istore_n 3, 1, (0, 0, 0, 0)), (64, .iinc 5 1, 3, (0, 0, 0, 0)), (67, .goto (-52), 3, (0, 0, 0, 0)), (70, .iload_n 2, 1, (0, 0, 0, 0)), (71, .ifCond .eq 11, 3, (0, 0, 0, 0)), (74, .iload_n 3, 1, (0, 0, 0, 0)), (75, .ifCond .eq 7, 3, (0, 0, 0, 0)), (78, .iconst 1, 1, (0, 0, 0, 0)), (79, .goto 4, 3, (0, 0, 0, 0)), (82, .iconst 0, 1, (0, 0, 0, 0)), (83, .ireturn, 1, (0, 0, 0, 0))]
set_option maxRecDepth 100000 in
theorem tk_X12_isDumb : TOK RX12 false cX12_isDumb tb_X12_isDumb := chkT_ok ft_X12 (by decide +kernel)
def mt_X12_isDumb : List (Nat × Mt) := []
theorem mk_X12_isDumb : MOK RX12 mt_X12_isDumb := fun q hq => by cases hq
noncomputable def xe_X12_isDumb (ct : Nat → Bool) (K : Kt) (R : Option AV → Hp → Prop) (n : Nat) : Kt := exS 6 1 0 0 2 tb_X12_isDumb mt_X12_isDumb ct K R n
noncomputable def xk_X12_isDumb (ct : Nat → Bool) (K : Kt) (R : Option AV → Hp → Prop) (n : Nat) : Kt := exkS 6 1 0 0 2 tb_X12_isDumb mt_X12_isDumb ct K R n
theorem xt_X12_isDumb {ct : Nat → Bool} {K : Kt} {R : Option AV → Hp → Prop} {n pc : Nat} {ls : List (Option AV)} {st : List AV} {σ : Hp} {k : Nat × Nat} (h : ct pc = true) : xk_X12_isDumb ct K R n pc ls st σ k = K pc ls st σ k := by unfold xk_X12_isDumb exkS; rw [h]
theorem xf_X12_isDumb {ct : Nat → Bool} {K : Kt} {R : Option AV → Hp → Prop} {n pc : Nat} {ls : List (Option AV)} {st : List AV} {σ : Hp} {k : Nat × Nat} (h : ct pc = false) : xk_X12_isDumb ct K R n pc ls st σ k = xe_X12_isDumb ct K R n pc ls st σ k := by unfold xk_X12_isDumb exkS xe_X12_isDumb; rw [h]
theorem ev_X12_isDumb {ct : Nat → Bool} {K : Kt} {R : Option AV → Hp → Prop} {n : Nat} {ls : List (Option AV)} {st : List AV} {σ : Hp} {k : Nat × Nat} :
  xe_X12_isDumb ct K R (n + 1) 0 ls st σ k = (xk_X12_isDumb ct K R n 1 ls (vi (0) :: st) σ k) ∧
  xe_X12_isDumb ct K R (n + 1) 1 ls st σ k = (oI st fun x st => 2 < 6 ∧ xk_X12_isDumb ct K R n 2 (stL ls 2 (vi x)) st σ k) ∧
  xe_X12_isDumb ct K R (n + 1) 2 ls st σ k = (xk_X12_isDumb ct K R n 3 ls (vi (0) :: st) σ k) ∧
  xe_X12_isDumb ct K R (n + 1) 3 ls st σ k = (oI st fun x st => 3 < 6 ∧ xk_X12_isDumb ct K R n 4 (stL ls 3 (vi x)) st σ k) ∧
  xe_X12_isDumb ct K R (n + 1) 4 ls st σ k = (lR ls 0 fun x => xk_X12_isDumb ct K R n 5 ls (vr x :: st) σ k) ∧
  xe_X12_isDumb ct K R (n + 1) 5 ls st σ k = (oR st fun x st => kd σ x = 13 ∧ xk_X12_isDumb ct K R n 8 ls (vr (fR σ 1303 x) :: st) σ k) ∧
  xe_X12_isDumb ct K R (n + 1) 8 ls st σ k = (lI ls 1 fun x => xk_X12_isDumb ct K R n 9 ls (vi x :: st) σ k) ∧
  xe_X12_isDumb ct K R (n + 1) 9 ls st σ k = (oI st fun j st => oR st fun x st => (kd σ x = 101 ∨ kd σ x = 108) ∧ (0 ≤ j ∧ j < ln σ x) ∧ xk_X12_isDumb ct K R n 10 ls (vi (aI σ x j) :: st) σ k) ∧
  xe_X12_isDumb ct K R (n + 1) 10 ls st σ k = (oI st fun x st => 4 < 6 ∧ xk_X12_isDumb ct K R n 12 (stL ls 4 (vi x)) st σ k) ∧
  xe_X12_isDumb ct K R (n + 1) 12 ls st σ k = (xk_X12_isDumb ct K R n 13 ls (vi (0) :: st) σ k) ∧
  xe_X12_isDumb ct K R (n + 1) 13 ls st σ k = (oI st fun x st => 5 < 6 ∧ xk_X12_isDumb ct K R n 15 (stL ls 5 (vi x)) st σ k) ∧
  xe_X12_isDumb ct K R (n + 1) 15 ls st σ k = (lI ls 5 fun x => xk_X12_isDumb ct K R n 17 ls (vi x :: st) σ k) ∧
  xe_X12_isDumb ct K R (n + 1) 17 ls st σ k = (lR ls 0 fun x => xk_X12_isDumb ct K R n 18 ls (vr x :: st) σ k) ∧
  xe_X12_isDumb ct K R (n + 1) 18 ls st σ k = (oR st fun x st => kd σ x = 13 ∧ xk_X12_isDumb ct K R n 21 ls (vr (fR σ 1315 x) :: st) σ k) ∧
  xe_X12_isDumb ct K R (n + 1) 21 ls st σ k = (lI ls 4 fun x => xk_X12_isDumb ct K R n 23 ls (vi x :: st) σ k) ∧
  xe_X12_isDumb ct K R (n + 1) 23 ls st σ k = (oI st fun j st => oR st fun x st => (kd σ x = 101 ∨ kd σ x = 108) ∧ (0 ≤ j ∧ j < ln σ x) ∧ xk_X12_isDumb ct K R n 24 ls (vi (aI σ x j) :: st) σ k) ∧
  xe_X12_isDumb ct K R (n + 1) 24 ls st σ k = (oI st fun y st => oI st fun x st => (wI y < wI x → xk_X12_isDumb ct K R n 70 ls st σ k) ∧ (¬ (wI y < wI x) → xk_X12_isDumb ct K R n 27 ls st σ k)) ∧
  xe_X12_isDumb ct K R (n + 1) 27 ls st σ k = (lR ls 0 fun x => xk_X12_isDumb ct K R n 28 ls (vr x :: st) σ k) ∧
  xe_X12_isDumb ct K R (n + 1) 28 ls st σ k = (oR st fun x st => kd σ x = 13 ∧ xk_X12_isDumb ct K R n 31 ls (vr (fR σ 1317 x) :: st) σ k) ∧
  xe_X12_isDumb ct K R (n + 1) 31 ls st σ k = (xk_X12_isDumb ct K R n 33 ls (vi (13) :: st) σ k) ∧
  xe_X12_isDumb ct K R (n + 1) 33 ls st σ k = (lI ls 4 fun x => xk_X12_isDumb ct K R n 35 ls (vi x :: st) σ k) ∧
  xe_X12_isDumb ct K R (n + 1) 35 ls st σ k = (oI st fun y st => oI st fun x st => xk_X12_isDumb ct K R n 36 ls (vi (x * y) :: st) σ k) ∧
  xe_X12_isDumb ct K R (n + 1) 36 ls st σ k = (lI ls 5 fun x => xk_X12_isDumb ct K R n 38 ls (vi x :: st) σ k) ∧
  xe_X12_isDumb ct K R (n + 1) 38 ls st σ k = (oI st fun y st => oI st fun x st => xk_X12_isDumb ct K R n 39 ls (vi (x + y) :: st) σ k) ∧
  xe_X12_isDumb ct K R (n + 1) 39 ls st σ k = (oI st fun j st => oR st fun x st => (kd σ x = 103 ∨ kd σ x = 21) ∧ (0 ≤ j ∧ j < ln σ x) ∧ xk_X12_isDumb ct K R n 40 ls (vi (aI σ x j) :: st) σ k) ∧
  xe_X12_isDumb ct K R (n + 1) 40 ls st σ k = (oI st fun x st => (¬ wI x = wI 0 → xk_X12_isDumb ct K R n 46 ls st σ k) ∧ (¬ (¬ wI x = wI 0) → xk_X12_isDumb ct K R n 43 ls st σ k)) ∧
  xe_X12_isDumb ct K R (n + 1) 43 ls st σ k = (xk_X12_isDumb ct K R n 64 ls st σ k) ∧
  xe_X12_isDumb ct K R (n + 1) 46 ls st σ k = (lI ls 5 fun x => xk_X12_isDumb ct K R n 48 ls (vi x :: st) σ k) ∧
  xe_X12_isDumb ct K R (n + 1) 48 ls st σ k = (lR ls 0 fun x => xk_X12_isDumb ct K R n 49 ls (vr x :: st) σ k) ∧
  xe_X12_isDumb ct K R (n + 1) 49 ls st σ k = (oR st fun x st => kd σ x = 13 ∧ xk_X12_isDumb ct K R n 52 ls (vr (fR σ 1309 x) :: st) σ k) ∧
  xe_X12_isDumb ct K R (n + 1) 52 ls st σ k = (lI ls 1 fun x => xk_X12_isDumb ct K R n 53 ls (vi x :: st) σ k) ∧
  xe_X12_isDumb ct K R (n + 1) 53 ls st σ k = (oI st fun j st => oR st fun x st => (kd σ x = 101 ∨ kd σ x = 108) ∧ (0 ≤ j ∧ j < ln σ x) ∧ xk_X12_isDumb ct K R n 54 ls (vi (aI σ x j) :: st) σ k) ∧
  xe_X12_isDumb ct K R (n + 1) 54 ls st σ k = (oI st fun y st => oI st fun x st => (wI y < wI x → xk_X12_isDumb ct K R n 62 ls st σ k) ∧ (¬ (wI y < wI x) → xk_X12_isDumb ct K R n 57 ls st σ k)) ∧
  xe_X12_isDumb ct K R (n + 1) 57 ls st σ k = (xk_X12_isDumb ct K R n 58 ls (vi (1) :: st) σ k) ∧
  xe_X12_isDumb ct K R (n + 1) 58 ls st σ k = (oI st fun x st => 2 < 6 ∧ xk_X12_isDumb ct K R n 59 (stL ls 2 (vi x)) st σ k) ∧
  xe_X12_isDumb ct K R (n + 1) 59 ls st σ k = (xk_X12_isDumb ct K R n 64 ls st σ k) ∧
  xe_X12_isDumb ct K R (n + 1) 62 ls st σ k = (xk_X12_isDumb ct K R n 63 ls (vi (1) :: st) σ k) ∧
  xe_X12_isDumb ct K R (n + 1) 63 ls st σ k = (oI st fun x st => 3 < 6 ∧ xk_X12_isDumb ct K R n 64 (stL ls 3 (vi x)) st σ k) ∧
  xe_X12_isDumb ct K R (n + 1) 64 ls st σ k = (lI ls 5 fun x => 5 < 6 ∧ xk_X12_isDumb ct K R n 67 (stL ls 5 (vi (x + (1)))) st σ k) ∧
  xe_X12_isDumb ct K R (n + 1) 67 ls st σ k = (xk_X12_isDumb ct K R n 15 ls st σ k) ∧
  xe_X12_isDumb ct K R (n + 1) 70 ls st σ k = (lI ls 2 fun x => xk_X12_isDumb ct K R n 71 ls (vi x :: st) σ k) ∧
  xe_X12_isDumb ct K R (n + 1) 71 ls st σ k = (oI st fun x st => (wI x = wI 0 → xk_X12_isDumb ct K R n 82 ls st σ k) ∧ (¬ (wI x = wI 0) → xk_X12_isDumb ct K R n 74 ls st σ k)) ∧
  xe_X12_isDumb ct K R (n + 1) 74 ls st σ k = (lI ls 3 fun x => xk_X12_isDumb ct K R n 75 ls (vi x :: st) σ k) ∧
  xe_X12_isDumb ct K R (n + 1) 75 ls st σ k = (oI st fun x st => (wI x = wI 0 → xk_X12_isDumb ct K R n 82 ls st σ k) ∧ (¬ (wI x = wI 0) → xk_X12_isDumb ct K R n 78 ls st σ k)) ∧
  xe_X12_isDumb ct K R (n + 1) 78 ls st σ k = (xk_X12_isDumb ct K R n 79 ls (vi (1) :: st) σ k) ∧
  xe_X12_isDumb ct K R (n + 1) 79 ls st σ k = (xk_X12_isDumb ct K R n 83 ls st σ k) ∧
  xe_X12_isDumb ct K R (n + 1) 82 ls st σ k = (xk_X12_isDumb ct K R n 83 ls (vi (0) :: st) σ k) ∧
  xe_X12_isDumb ct K R (n + 1) 83 ls st σ k = (oI st fun x st => st = [] ∧ (x = 0 ∨ x = 1) ∧ R (some (vi x)) σ) :=
  ⟨exS_step.trans rfl, exS_step.trans rfl, exS_step.trans rfl, exS_step.trans rfl, exS_step.trans rfl, exS_step.trans rfl, exS_step.trans rfl, exS_step.trans rfl, exS_step.trans rfl, exS_step.trans rfl, exS_step.trans rfl, exS_step.trans rfl, exS_step.trans rfl, exS_step.trans rfl, exS_step.trans rfl, exS_step.trans rfl, exS_step.trans rfl, exS_step.trans rfl, exS_step.trans rfl, exS_step.trans rfl, exS_step.trans rfl, exS_step.trans rfl, exS_step.trans rfl, exS_step.trans rfl, exS_step.trans rfl, exS_step.trans rfl, exS_step.trans rfl, exS_step.trans rfl, exS_step.trans rfl, exS_step.trans rfl, exS_step.trans rfl, exS_step.trans rfl, exS_step.trans rfl, exS_step.trans rfl, exS_step.trans rfl, exS_step.trans rfl, exS_step.trans rfl, exS_step.trans rfl, exS_step.trans rfl, exS_step.trans rfl, exS_step.trans rfl, exS_step.trans rfl, exS_step.trans rfl, exS_step.trans rfl, exS_step.trans rfl, exS_step.trans rfl, exS_step.trans rfl, exS_step.trans rfl⟩
def M_X12_isDumb : Md := (yX12_isDumb, cX12_isDumb, 6, (some FieldType.boolean), 1, 0, 0, 2, false, tb_X12_isDumb, mt_X12_isDumb)
theorem mm_X12_isDumb : MMOK M_X12_isDumb := ⟨by decide +kernel, tk_X12_isDumb, mk_X12_isDumb, rfl, fun h => by cases h⟩
theorem go_X12_isDumb {Q : Option AV → Hp → Prop} {ct : Nat → Bool} {pc : Nat} {ls : List (Option AV)} {st : List AV} {σ : Hp} {k : Nat × Nat} (n : Nat) (h : xe_X12_isDumb ct (Go M_X12_isDumb Q) Q n pc ls st σ k) : Go M_X12_isDumb Q pc ls st σ k := Go.exS mm_X12_isDumb h

set_option maxRecDepth 20000 in
theorem c_X12_isDumb : Ct yX12_isDumb cX12_isDumb 6 ((some FieldType.boolean)) 1 0 0 sp_X12_isDumb := by
  refine Ct.go (M := M_X12_isDumb) mm_X12_isDumb fun av σ Q h0 => ?_
  obtain ⟨this, b, rfl, hk, h⟩ := el_X12_isDumb h0
  clear h0
  refine ⟨Nat.le_of_ble_eq_true rfl, ?_⟩
  show Go M_X12_isDumb Q 0 [some (vr this), some (vi b), none, none, none, none] [] σ (0, 0)
  obtain ⟨rfl, hI, hb, h⟩ := h
  have h1 := hI.loop_ b
  have h2 := hI.many_ (aI σ 62 b)
  have h3 := hI.along_ b
  have loop : ∀ (n : Nat) (w : Int), 0 ≤ w → w + n = aI σ 74 (aI σ 62 b) + 1 → Go M_X12_isDumb Q 15 [some (vr 61), some (vi b), some (vi (b2i (bE w fun w => ¬ aI σ 76 (13 * aI σ 62 b + w) = 0 ∧ w ≤ aI σ 68 b))), some (vi (b2i (bE w fun w => ¬ aI σ 76 (13 * aI σ 62 b + w) = 0 ∧ ¬ w ≤ aI σ 68 b))), some (vi (aI σ 62 b)), some (vi w)] [] σ (0, 0) := by
    intro n
    induction n with
    | zero =>
      intro w h4 h5
      refine go_X12_isDumb (ct := fun p => p == 15) 60 ?_
      simp only [oI, oL, oR, o1, lI, lL, lR, popN, catS, gv, stL, stL2, swt, cnd, spObj, List.getElem?_cons_zero, List.getElem?_cons_succ, List.getD_cons_zero, List.getD_cons_succ, List.set_cons_zero, List.set_cons_succ, List.nil_append, List.cons_append, Option.toList, Bool.or_false, Bool.false_or, Bool.or_true, Bool.true_or, Nat.reduceBEq, Nat.reduceAdd, Nat.reduceLT, Nat.reduceLeDiff, Int.reduceAdd, Int.reduceToNat, true_and, and_true, Fin.isValue, Fin.val_zero, Fin.val_one, Fin.val_two, Fin.reduceFinMk, eq_self, Int.reduceNeg, imp_self, Nat.reduceMul, Nat.le_refl, not_true_eq_false, not_false_eq_true, List.getElem?_nil, reduceCtorEq, true_or, or_true, Classical.not_not, implies_true, or_self, wI_0, wI_1, wI_m1, b2i_w, b2i_eq0, b2i_eq1, b2i_bool, nor_self, nx_pI, kd_pI, ln_pI, fI_pI, fL_pI, fR_pI, aI_pI, aL_pI, aR_pI, nx_pL, kd_pL, ln_pL, fI_pL, fL_pL, fR_pL, aI_pL, aL_pL, aR_pL, nx_pR, kd_pR, ln_pR, fI_pR, fL_pR, fR_pR, aI_pR, aL_pR, aR_pR, nx_qI, kd_qI, ln_qI, fI_qI, fL_qI, fR_qI, aI_qI, aL_qI, aR_qI, nx_qL, kd_qL, ln_qL, fI_qL, fL_qL, fR_qL, aI_qL, aL_qL, aR_qL, nx_qR, kd_qR, ln_qR, fI_qR, fL_qR, fR_qR, aI_qR, aL_qR, aR_qR, nx_mk, kd_mk, ln_mk, fI_mk, fL_mk, fR_mk, aI_mk, aL_mk, aR_mk, false_and, and_false, if_false, if_true, and_self, Int.reduceEq, Nat.reduceEqDiff, ite_self, MLay_pI, MLay_pL, MLay_qI, MLay_qL, ev_X12_isDumb, xt_X12_isDumb, xf_X12_isDumb, hI.lay.eqs]
      try simp (disch := omega) only [wI_id, dv_nn, rm_nn]
      rw [show w = aI σ 74 (aI σ 62 b) + 1 by omega]
      refine ⟨by omega, fun _ => ⟨fun z => ?_, fun z => ⟨fun z2 => ?_, fun z2 => ?_⟩⟩, fun z => absurd (by omega) z⟩
      · rw [b2i_f (fun q => z q.1)] at h; exact h
      · rw [b2i_f (fun q => z2 q.2)] at h; exact h
      · rw [b2i_t ⟨z, z2⟩] at h; exact h
    | succ n ih =>
      intro w h4 h5
      have h6 := hI.isCut_ (13 * aI σ 62 b + w)
      have ih := ih (w + 1) (by omega) (by omega)
      refine go_X12_isDumb (ct := fun p => p == 15) 60 ?_
      simp only [oI, oL, oR, o1, lI, lL, lR, popN, catS, gv, stL, stL2, swt, cnd, spObj, List.getElem?_cons_zero, List.getElem?_cons_succ, List.getD_cons_zero, List.getD_cons_succ, List.set_cons_zero, List.set_cons_succ, List.nil_append, List.cons_append, Option.toList, Bool.or_false, Bool.false_or, Bool.or_true, Bool.true_or, Nat.reduceBEq, Nat.reduceAdd, Nat.reduceLT, Nat.reduceLeDiff, Int.reduceAdd, Int.reduceToNat, true_and, and_true, Fin.isValue, Fin.val_zero, Fin.val_one, Fin.val_two, Fin.reduceFinMk, eq_self, Int.reduceNeg, imp_self, Nat.reduceMul, Nat.le_refl, not_true_eq_false, not_false_eq_true, List.getElem?_nil, reduceCtorEq, true_or, or_true, Classical.not_not, implies_true, or_self, wI_0, wI_1, wI_m1, b2i_w, b2i_eq0, b2i_eq1, b2i_bool, nor_self, nx_pI, kd_pI, ln_pI, fI_pI, fL_pI, fR_pI, aI_pI, aL_pI, aR_pI, nx_pL, kd_pL, ln_pL, fI_pL, fL_pL, fR_pL, aI_pL, aL_pL, aR_pL, nx_pR, kd_pR, ln_pR, fI_pR, fL_pR, fR_pR, aI_pR, aL_pR, aR_pR, nx_qI, kd_qI, ln_qI, fI_qI, fL_qI, fR_qI, aI_qI, aL_qI, aR_qI, nx_qL, kd_qL, ln_qL, fI_qL, fL_qL, fR_qL, aI_qL, aL_qL, aR_qL, nx_qR, kd_qR, ln_qR, fI_qR, fL_qR, fR_qR, aI_qR, aL_qR, aR_qR, nx_mk, kd_mk, ln_mk, fI_mk, fL_mk, fR_mk, aI_mk, aL_mk, aR_mk, false_and, and_false, if_false, if_true, and_self, Int.reduceEq, Nat.reduceEqDiff, ite_self, MLay_pI, MLay_pL, MLay_qI, MLay_qL, ev_X12_isDumb, xt_X12_isDumb, xf_X12_isDumb, hI.lay.eqs]
      try simp (disch := omega) only [wI_id, dv_nn, rm_nn]
      refine ⟨by omega, fun z => absurd z (by omega), fun _ => ⟨by omega, fun z => ⟨by omega, fun z2 => ?_, fun z2 => ?_⟩, fun z => ?_⟩⟩
      · rw [b2i_sF h4 (fun q => absurd q.2 (by omega)), b2i_sT h4 ⟨z, by omega⟩] at ih; exact ih
      · rw [b2i_sT h4 ⟨z, by omega⟩, b2i_sF h4 (fun q => absurd q.2 (by omega))] at ih; exact ih
      · rw [b2i_sF h4 (fun q => q.1 z), b2i_sF h4 (fun q => q.1 z)] at ih; exact ih
  refine go_X12_isDumb (ct := fun p => p == 15) 60 ?_
  simp only [oI, oL, oR, o1, lI, lL, lR, popN, catS, gv, stL, stL2, swt, cnd, spObj, List.getElem?_cons_zero, List.getElem?_cons_succ, List.getD_cons_zero, List.getD_cons_succ, List.set_cons_zero, List.set_cons_succ, List.nil_append, List.cons_append, Option.toList, Bool.or_false, Bool.false_or, Bool.or_true, Bool.true_or, Nat.reduceBEq, Nat.reduceAdd, Nat.reduceLT, Nat.reduceLeDiff, Int.reduceAdd, Int.reduceToNat, true_and, and_true, Fin.isValue, Fin.val_zero, Fin.val_one, Fin.val_two, Fin.reduceFinMk, eq_self, Int.reduceNeg, imp_self, Nat.reduceMul, Nat.le_refl, not_true_eq_false, not_false_eq_true, List.getElem?_nil, reduceCtorEq, true_or, or_true, Classical.not_not, implies_true, or_self, wI_0, wI_1, wI_m1, b2i_w, b2i_eq0, b2i_eq1, b2i_bool, nor_self, nx_pI, kd_pI, ln_pI, fI_pI, fL_pI, fR_pI, aI_pI, aL_pI, aR_pI, nx_pL, kd_pL, ln_pL, fI_pL, fL_pL, fR_pL, aI_pL, aL_pL, aR_pL, nx_pR, kd_pR, ln_pR, fI_pR, fL_pR, fR_pR, aI_pR, aL_pR, aR_pR, nx_qI, kd_qI, ln_qI, fI_qI, fL_qI, fR_qI, aI_qI, aL_qI, aR_qI, nx_qL, kd_qL, ln_qL, fI_qL, fL_qL, fR_qL, aI_qL, aL_qL, aR_qL, nx_qR, kd_qR, ln_qR, fI_qR, fL_qR, fR_qR, aI_qR, aL_qR, aR_qR, nx_mk, kd_mk, ln_mk, fI_mk, fL_mk, fR_mk, aI_mk, aL_mk, aR_mk, false_and, and_false, if_false, if_true, and_self, Int.reduceEq, Nat.reduceEqDiff, ite_self, MLay_pI, MLay_pL, MLay_qI, MLay_qL, ev_X12_isDumb, xt_X12_isDumb, xf_X12_isDumb, hI.lay.eqs]
  have := loop (aI σ 74 (aI σ 62 b) + 1).toNat 0 (by omega) (by omega)
  rw [b2i_E0, b2i_E0] at this
  exact ⟨hb, this⟩

/-- a box knocks in a tick -/
def mKnk (σ : Hp) (b t : Int) : Prop := mGo σ b t ∧ bE (aI σ 72 b) fun i => aI σ 71 (15 * b + i) = (t - aI σ 69 b) % (aI σ 73 b + 7)

def sp_X12_knocksAt : Sp := fun av σ Q => oR av fun this av => oI av fun b av => oI av fun t av => av = [] ∧ kd σ this = 13 ∧ (this = 61 ∧ MI σ ∧ (0 ≤ b ∧ b < 32) ∧ (0 ≤ t ∧ t ≤ 2000000) ∧ Q (some (vi (b2i (mKnk σ b t)))) σ)
theorem us_X12_knocksAt (this : Int) (b : Int) (t : Int) (σ : Hp) (Q : Option AV → Hp → Prop) : sp_X12_knocksAt [vr this, vi b, vi t] σ Q = (kd σ this = 13 ∧ (this = 61 ∧ MI σ ∧ (0 ≤ b ∧ b < 32) ∧ (0 ≤ t ∧ t ≤ 2000000) ∧ Q (some (vi (b2i (mKnk σ b t)))) σ)) := propext ⟨fun h => h.2, fun h => ⟨rfl, h⟩⟩
theorem el_X12_knocksAt {av : List AV} {σ : Hp} {Q : Option AV → Hp → Prop} (h : sp_X12_knocksAt av σ Q) : ∃ (this : Int) (b : Int) (t : Int), av = [vr this, vi b, vi t] ∧ (kd σ this = 13 ∧ (this = 61 ∧ MI σ ∧ (0 ≤ b ∧ b < 32) ∧ (0 ≤ t ∧ t ≤ 2000000) ∧ Q (some (vi (b2i (mKnk σ b t)))) σ)) := by
  obtain ⟨this, a0, rfl, h0⟩ := oR_s h
  obtain ⟨b, a1, rfl, h1⟩ := oI_s h0
  obtain ⟨t, a2, rfl, h2⟩ := oI_s h1
  obtain ⟨rfl, hz⟩ := h2
  exact ⟨this, b, t, rfl, hz⟩
theorem rc_X12_knocksAt : ∀ (av : List AV) (σ : Hp) (Q : Option AV → Hp → Prop), sp_X12_knocksAt av σ Q → ∃ r tl, av = vr r :: tl ∧ kd σ r = 12 + 1 := fun av σ Q h => by
  obtain ⟨this, b, t, rfl, hz, -⟩ := el_X12_knocksAt h
  exact ⟨this, _, rfl, hz⟩

def tb_X12_knocksAt : Tab := [(0, .aload_n 0, 1, (0, 0, 0, 0)), (1, .iload_n 1, 1, (0, 0, 0, 0)), (2, .iload_n 2, 1, (0, 0, 0, 0)), (3, .invokevirtual 220, 3, (0, 0, 0, 0)), (6, .ifCond .ne 5, 3, (0, 0, 0, 0)), (9, .iconst 0, 1, (0, 0, 0, 0)), (10, .ireturn, 1, (0, 0, 0, 0)), (11, .iload_n 2, 1, (0, 0, 0, 0)), (12, .aload_n 0, 1, (0, 0, 0, 0)), (13, .getfield 31, 3, (13, 1310, 2, 0)), (16, .iload_n 1, 1, (0, 0, 0, 0)), (17, .iaload, 1, (0, 0, 0, 0)), (18, .isub, 1, (0, 0, 0, 0)), (19, .aload_n 0, 1, (0, 0, 0, 0)), (20, .getfield 44, 3, (13, 1314, 2, 0)), (23, .iload_n 1, 1, (0, 0, 0, 0)), (24, .iaload, 1, (0, 0, 0, 0)), (25, .bipush 7, 2, (0, 0, 0, 0)), (27, .iadd, 1, (0, 0, 0, 0)), (28, .irem, 1, (0, 0, 0, 0)), (29, .istore_n 3, 1, (0, 0, 0, 0)), (30, .iconst 0, 1, (0, 0, 0, 0)), (31, .istore 4, 2, (0, 0, 0, 0)), (33, .iload 4, 2, (0, 0, 0, 0)), (35, .aload_n 0, 1, (0, 0, 0, 0)), (36, .getfield 41, 3, (13, 1313, 2, 0)), (39, .iload_n 1, 1, (0, 0, 0, 0)), (40, .iaload, 1, (0, 0, 0, 0)), (41, .if_icmp .ge 27, 3, (0, 0, 0, 0)), (44, .aload_n 0, 1, (0, 0, 0, 0)), (45, .getfield 38, 3, (13, 1312, 2, 0)), (48, .bipush 15, 2, (0, 0, 0, 0)), (50, .iload_n 1, 1, (0, 0, 0, 0)), (51, .imul, 1, (0, 0, 0, 0)), (52, .iload 4, 2, (0, 0, 0, 0)), (54, .iadd, 1, (0, 0, 0, 0)), (55, .iaload, 1, (0, 0, 0, 0)), (56, .iload_n 3, 1, (0, 0, 0, 0)), (57, .if_icmp .ne 5, 3, (0, 0, 0, 0)), (60, .iconst 1, 1, (0, 0, 0, 0)), (61, .ireturn, 1, (0, 0, 0, 0)), (62, .iinc 4 1, 3, (0, 0, 0, 0)), (65, .goto (-32), 3, (0, 0, 0, 0)), (68, .iconst 0, 1, (0, 0, 0, 0)), (69, .ireturn, 1, (0, 0, 0, 0))]
set_option maxRecDepth 100000 in
theorem tk_X12_knocksAt : TOK RX12 false cX12_knocksAt tb_X12_knocksAt := chkT_ok ft_X12 (by decide +kernel)
theorem rw_X12_1760 : Row RX12 (.invokevirtual 220) 3 3 0 0 2 sp_X12_goesOn := row_V (n := 2) (ci := 12) c_X12_goesOn ⟨TBL_in 1786 (by decide +kernel) rfl, TBL_in 1789 (by decide +kernel) rfl, TBL_in 123 (by decide +kernel) rfl, by decide +kernel, by decide⟩ (by decide) rfl (TBL_in 1788 (by decide +kernel) rfl) (TBL_in 65 (by decide +kernel) rfl) rc_X12_goesOn
def mt_X12_knocksAt : List (Nat × Mt) := [(1760, 3, 0, 0, 2, sp_X12_goesOn)]
theorem em_X12_knocksAt : mt_X12_knocksAt.lookup 1760 = some (3, 0, 0, 2, sp_X12_goesOn) := rfl
theorem mk_X12_knocksAt : MOK RX12 mt_X12_knocksAt := by
  intro q hq
  simp only [mt_X12_knocksAt, List.mem_cons, List.not_mem_nil, or_false] at hq
  rcases hq with rfl
  · exact rw_X12_1760
noncomputable def xe_X12_knocksAt (ct : Nat → Bool) (K : Kt) (R : Option AV → Hp → Prop) (n : Nat) : Kt := exS 5 3 0 0 2 tb_X12_knocksAt mt_X12_knocksAt ct K R n
noncomputable def xk_X12_knocksAt (ct : Nat → Bool) (K : Kt) (R : Option AV → Hp → Prop) (n : Nat) : Kt := exkS 5 3 0 0 2 tb_X12_knocksAt mt_X12_knocksAt ct K R n
theorem xt_X12_knocksAt {ct : Nat → Bool} {K : Kt} {R : Option AV → Hp → Prop} {n pc : Nat} {ls : List (Option AV)} {st : List AV} {σ : Hp} {k : Nat × Nat} (h : ct pc = true) : xk_X12_knocksAt ct K R n pc ls st σ k = K pc ls st σ k := by unfold xk_X12_knocksAt exkS; rw [h]
theorem xf_X12_knocksAt {ct : Nat → Bool} {K : Kt} {R : Option AV → Hp → Prop} {n pc : Nat} {ls : List (Option AV)} {st : List AV} {σ : Hp} {k : Nat × Nat} (h : ct pc = false) : xk_X12_knocksAt ct K R n pc ls st σ k = xe_X12_knocksAt ct K R n pc ls st σ k := by unfold xk_X12_knocksAt exkS xe_X12_knocksAt; rw [h]
theorem ev_X12_knocksAt {ct : Nat → Bool} {K : Kt} {R : Option AV → Hp → Prop} {n : Nat} {ls : List (Option AV)} {st : List AV} {σ : Hp} {k : Nat × Nat} :
  xe_X12_knocksAt ct K R (n + 1) 0 ls st σ k = (lR ls 0 fun x => xk_X12_knocksAt ct K R n 1 ls (vr x :: st) σ k) ∧
  xe_X12_knocksAt ct K R (n + 1) 1 ls st σ k = (lI ls 1 fun x => xk_X12_knocksAt ct K R n 2 ls (vi x :: st) σ k) ∧
  xe_X12_knocksAt ct K R (n + 1) 2 ls st σ k = (lI ls 2 fun x => xk_X12_knocksAt ct K R n 3 ls (vi x :: st) σ k) ∧
  xe_X12_knocksAt ct K R (n + 1) 3 ls st σ k = (popN 3 st [] fun av rest => (catS rest ≤ 8 ∧ 2 < 3 ∧ k.1 + 0 ≤ 0 ∧ k.2 + 0 ≤ 0) ∧ (sp_X12_goesOn) av σ fun v σ' => xk_X12_knocksAt ct K R n 6 ls (v.toList ++ rest) σ' (k.1 + 0, k.2 + 0)) ∧
  xe_X12_knocksAt ct K R (n + 1) 6 ls st σ k = (oI st fun x st => (¬ wI x = wI 0 → xk_X12_knocksAt ct K R n 11 ls st σ k) ∧ (¬ (¬ wI x = wI 0) → xk_X12_knocksAt ct K R n 9 ls st σ k)) ∧
  xe_X12_knocksAt ct K R (n + 1) 9 ls st σ k = (xk_X12_knocksAt ct K R n 10 ls (vi (0) :: st) σ k) ∧
  xe_X12_knocksAt ct K R (n + 1) 10 ls st σ k = (oI st fun x st => st = [] ∧ (x = 0 ∨ x = 1) ∧ R (some (vi x)) σ) ∧
  xe_X12_knocksAt ct K R (n + 1) 11 ls st σ k = (lI ls 2 fun x => xk_X12_knocksAt ct K R n 12 ls (vi x :: st) σ k) ∧
  xe_X12_knocksAt ct K R (n + 1) 12 ls st σ k = (lR ls 0 fun x => xk_X12_knocksAt ct K R n 13 ls (vr x :: st) σ k) ∧
  xe_X12_knocksAt ct K R (n + 1) 13 ls st σ k = (oR st fun x st => kd σ x = 13 ∧ xk_X12_knocksAt ct K R n 16 ls (vr (fR σ 1310 x) :: st) σ k) ∧
  xe_X12_knocksAt ct K R (n + 1) 16 ls st σ k = (lI ls 1 fun x => xk_X12_knocksAt ct K R n 17 ls (vi x :: st) σ k) ∧
  xe_X12_knocksAt ct K R (n + 1) 17 ls st σ k = (oI st fun j st => oR st fun x st => (kd σ x = 101 ∨ kd σ x = 108) ∧ (0 ≤ j ∧ j < ln σ x) ∧ xk_X12_knocksAt ct K R n 18 ls (vi (aI σ x j) :: st) σ k) ∧
  xe_X12_knocksAt ct K R (n + 1) 18 ls st σ k = (oI st fun y st => oI st fun x st => xk_X12_knocksAt ct K R n 19 ls (vi (x - y) :: st) σ k) ∧
  xe_X12_knocksAt ct K R (n + 1) 19 ls st σ k = (lR ls 0 fun x => xk_X12_knocksAt ct K R n 20 ls (vr x :: st) σ k) ∧
  xe_X12_knocksAt ct K R (n + 1) 20 ls st σ k = (oR st fun x st => kd σ x = 13 ∧ xk_X12_knocksAt ct K R n 23 ls (vr (fR σ 1314 x) :: st) σ k) ∧
  xe_X12_knocksAt ct K R (n + 1) 23 ls st σ k = (lI ls 1 fun x => xk_X12_knocksAt ct K R n 24 ls (vi x :: st) σ k) ∧
  xe_X12_knocksAt ct K R (n + 1) 24 ls st σ k = (oI st fun j st => oR st fun x st => (kd σ x = 101 ∨ kd σ x = 108) ∧ (0 ≤ j ∧ j < ln σ x) ∧ xk_X12_knocksAt ct K R n 25 ls (vi (aI σ x j) :: st) σ k) ∧
  xe_X12_knocksAt ct K R (n + 1) 25 ls st σ k = (xk_X12_knocksAt ct K R n 27 ls (vi (7) :: st) σ k) ∧
  xe_X12_knocksAt ct K R (n + 1) 27 ls st σ k = (oI st fun y st => oI st fun x st => xk_X12_knocksAt ct K R n 28 ls (vi (x + y) :: st) σ k) ∧
  xe_X12_knocksAt ct K R (n + 1) 28 ls st σ k = (oI st fun y st => oI st fun x st => ¬ wI y = 0 ∧ xk_X12_knocksAt ct K R n 29 ls (vi (rmI x y) :: st) σ k) ∧
  xe_X12_knocksAt ct K R (n + 1) 29 ls st σ k = (oI st fun x st => 3 < 5 ∧ xk_X12_knocksAt ct K R n 30 (stL ls 3 (vi x)) st σ k) ∧
  xe_X12_knocksAt ct K R (n + 1) 30 ls st σ k = (xk_X12_knocksAt ct K R n 31 ls (vi (0) :: st) σ k) ∧
  xe_X12_knocksAt ct K R (n + 1) 31 ls st σ k = (oI st fun x st => 4 < 5 ∧ xk_X12_knocksAt ct K R n 33 (stL ls 4 (vi x)) st σ k) ∧
  xe_X12_knocksAt ct K R (n + 1) 33 ls st σ k = (lI ls 4 fun x => xk_X12_knocksAt ct K R n 35 ls (vi x :: st) σ k) ∧
  xe_X12_knocksAt ct K R (n + 1) 35 ls st σ k = (lR ls 0 fun x => xk_X12_knocksAt ct K R n 36 ls (vr x :: st) σ k) ∧
  xe_X12_knocksAt ct K R (n + 1) 36 ls st σ k = (oR st fun x st => kd σ x = 13 ∧ xk_X12_knocksAt ct K R n 39 ls (vr (fR σ 1313 x) :: st) σ k) ∧
  xe_X12_knocksAt ct K R (n + 1) 39 ls st σ k = (lI ls 1 fun x => xk_X12_knocksAt ct K R n 40 ls (vi x :: st) σ k) ∧
  xe_X12_knocksAt ct K R (n + 1) 40 ls st σ k = (oI st fun j st => oR st fun x st => (kd σ x = 101 ∨ kd σ x = 108) ∧ (0 ≤ j ∧ j < ln σ x) ∧ xk_X12_knocksAt ct K R n 41 ls (vi (aI σ x j) :: st) σ k) ∧
  xe_X12_knocksAt ct K R (n + 1) 41 ls st σ k = (oI st fun y st => oI st fun x st => (wI y ≤ wI x → xk_X12_knocksAt ct K R n 68 ls st σ k) ∧ (¬ (wI y ≤ wI x) → xk_X12_knocksAt ct K R n 44 ls st σ k)) ∧
  xe_X12_knocksAt ct K R (n + 1) 44 ls st σ k = (lR ls 0 fun x => xk_X12_knocksAt ct K R n 45 ls (vr x :: st) σ k) ∧
  xe_X12_knocksAt ct K R (n + 1) 45 ls st σ k = (oR st fun x st => kd σ x = 13 ∧ xk_X12_knocksAt ct K R n 48 ls (vr (fR σ 1312 x) :: st) σ k) ∧
  xe_X12_knocksAt ct K R (n + 1) 48 ls st σ k = (xk_X12_knocksAt ct K R n 50 ls (vi (15) :: st) σ k) ∧
  xe_X12_knocksAt ct K R (n + 1) 50 ls st σ k = (lI ls 1 fun x => xk_X12_knocksAt ct K R n 51 ls (vi x :: st) σ k) ∧
  xe_X12_knocksAt ct K R (n + 1) 51 ls st σ k = (oI st fun y st => oI st fun x st => xk_X12_knocksAt ct K R n 52 ls (vi (x * y) :: st) σ k) ∧
  xe_X12_knocksAt ct K R (n + 1) 52 ls st σ k = (lI ls 4 fun x => xk_X12_knocksAt ct K R n 54 ls (vi x :: st) σ k) ∧
  xe_X12_knocksAt ct K R (n + 1) 54 ls st σ k = (oI st fun y st => oI st fun x st => xk_X12_knocksAt ct K R n 55 ls (vi (x + y) :: st) σ k) ∧
  xe_X12_knocksAt ct K R (n + 1) 55 ls st σ k = (oI st fun j st => oR st fun x st => (kd σ x = 101 ∨ kd σ x = 108) ∧ (0 ≤ j ∧ j < ln σ x) ∧ xk_X12_knocksAt ct K R n 56 ls (vi (aI σ x j) :: st) σ k) ∧
  xe_X12_knocksAt ct K R (n + 1) 56 ls st σ k = (lI ls 3 fun x => xk_X12_knocksAt ct K R n 57 ls (vi x :: st) σ k) ∧
  xe_X12_knocksAt ct K R (n + 1) 57 ls st σ k = (oI st fun y st => oI st fun x st => (¬ wI x = wI y → xk_X12_knocksAt ct K R n 62 ls st σ k) ∧ (¬ (¬ wI x = wI y) → xk_X12_knocksAt ct K R n 60 ls st σ k)) ∧
  xe_X12_knocksAt ct K R (n + 1) 60 ls st σ k = (xk_X12_knocksAt ct K R n 61 ls (vi (1) :: st) σ k) ∧
  xe_X12_knocksAt ct K R (n + 1) 61 ls st σ k = (oI st fun x st => st = [] ∧ (x = 0 ∨ x = 1) ∧ R (some (vi x)) σ) ∧
  xe_X12_knocksAt ct K R (n + 1) 62 ls st σ k = (lI ls 4 fun x => 4 < 5 ∧ xk_X12_knocksAt ct K R n 65 (stL ls 4 (vi (x + (1)))) st σ k) ∧
  xe_X12_knocksAt ct K R (n + 1) 65 ls st σ k = (xk_X12_knocksAt ct K R n 33 ls st σ k) ∧
  xe_X12_knocksAt ct K R (n + 1) 68 ls st σ k = (xk_X12_knocksAt ct K R n 69 ls (vi (0) :: st) σ k) ∧
  xe_X12_knocksAt ct K R (n + 1) 69 ls st σ k = (oI st fun x st => st = [] ∧ (x = 0 ∨ x = 1) ∧ R (some (vi x)) σ) :=
  ⟨exS_step.trans rfl, exS_step.trans rfl, exS_step.trans rfl, exS_step.trans rfl, exS_step.trans rfl, exS_step.trans rfl, exS_step.trans rfl, exS_step.trans rfl, exS_step.trans rfl, exS_step.trans rfl, exS_step.trans rfl, exS_step.trans rfl, exS_step.trans rfl, exS_step.trans rfl, exS_step.trans rfl, exS_step.trans rfl, exS_step.trans rfl, exS_step.trans rfl, exS_step.trans rfl, exS_step.trans rfl, exS_step.trans rfl, exS_step.trans rfl, exS_step.trans rfl, exS_step.trans rfl, exS_step.trans rfl, exS_step.trans rfl, exS_step.trans rfl, exS_step.trans rfl, exS_step.trans rfl, exS_step.trans rfl, exS_step.trans rfl, exS_step.trans rfl, exS_step.trans rfl, exS_step.trans rfl, exS_step.trans rfl, exS_step.trans rfl, exS_step.trans rfl, exS_step.trans rfl, exS_step.trans rfl, exS_step.trans rfl, exS_step.trans rfl, exS_step.trans rfl, exS_step.trans rfl, exS_step.trans rfl, exS_step.trans rfl⟩
def M_X12_knocksAt : Md := (yX12_knocksAt, cX12_knocksAt, 5, (some FieldType.boolean), 3, 0, 0, 2, false, tb_X12_knocksAt, mt_X12_knocksAt)
theorem mm_X12_knocksAt : MMOK M_X12_knocksAt := ⟨by decide +kernel, tk_X12_knocksAt, mk_X12_knocksAt, rfl, fun h => by cases h⟩
theorem go_X12_knocksAt {Q : Option AV → Hp → Prop} {ct : Nat → Bool} {pc : Nat} {ls : List (Option AV)} {st : List AV} {σ : Hp} {k : Nat × Nat} (n : Nat) (h : xe_X12_knocksAt ct (Go M_X12_knocksAt Q) Q n pc ls st σ k) : Go M_X12_knocksAt Q pc ls st σ k := Go.exS mm_X12_knocksAt h

set_option maxRecDepth 20000 in
theorem c_X12_knocksAt : Ct yX12_knocksAt cX12_knocksAt 5 ((some FieldType.boolean)) 3 0 0 sp_X12_knocksAt := by
  refine Ct.go (M := M_X12_knocksAt) mm_X12_knocksAt fun av σ Q h0 => ?_
  obtain ⟨this, b, t, rfl, hk, h⟩ := el_X12_knocksAt h0
  clear h0
  refine ⟨Nat.le_of_ble_eq_true rfl, ?_⟩
  show Go M_X12_knocksAt Q 0 [some (vr this), some (vi b), some (vi t), none, none] [] σ (0, 0)
  obtain ⟨rfl, hI, hb, ht, h⟩ := h
  have h1 := hI.began_ b
  have h2 := hI.lastOf_ b
  have h3 := hI.knocks_ b
  have loop : mGo σ b t → ∀ (n : Nat) (w : Int), 0 ≤ w → w + n = aI σ 72 b → (∀ j, 0 ≤ j → j < w → ¬ aI σ 71 (15 * b + j) = (t - aI σ 69 b) % (aI σ 73 b + 7)) → Go M_X12_knocksAt Q 33 [some (vr 61), some (vi b), some (vi t), some (vi ((t - aI σ 69 b) % (aI σ 73 b + 7))), some (vi w)] [] σ (0, 0) := by
    intro hg n
    induction n with
    | zero =>
      intro w h4 h5 hno
      refine go_X12_knocksAt (ct := fun p => p == 33) 60 ?_
      simp only [oI, oL, oR, o1, lI, lL, lR, popN, catS, gv, stL, stL2, swt, cnd, spObj, List.getElem?_cons_zero, List.getElem?_cons_succ, List.getD_cons_zero, List.getD_cons_succ, List.set_cons_zero, List.set_cons_succ, List.nil_append, List.cons_append, Option.toList, Bool.or_false, Bool.false_or, Bool.or_true, Bool.true_or, Nat.reduceBEq, Nat.reduceAdd, Nat.reduceLT, Nat.reduceLeDiff, Int.reduceAdd, Int.reduceToNat, true_and, and_true, Fin.isValue, Fin.val_zero, Fin.val_one, Fin.val_two, Fin.reduceFinMk, eq_self, Int.reduceNeg, imp_self, Nat.reduceMul, Nat.le_refl, not_true_eq_false, not_false_eq_true, List.getElem?_nil, reduceCtorEq, true_or, or_true, Classical.not_not, implies_true, or_self, wI_0, wI_1, wI_m1, b2i_w, b2i_eq0, b2i_eq1, b2i_bool, nor_self, nx_pI, kd_pI, ln_pI, fI_pI, fL_pI, fR_pI, aI_pI, aL_pI, aR_pI, nx_pL, kd_pL, ln_pL, fI_pL, fL_pL, fR_pL, aI_pL, aL_pL, aR_pL, nx_pR, kd_pR, ln_pR, fI_pR, fL_pR, fR_pR, aI_pR, aL_pR, aR_pR, nx_qI, kd_qI, ln_qI, fI_qI, fL_qI, fR_qI, aI_qI, aL_qI, aR_qI, nx_qL, kd_qL, ln_qL, fI_qL, fL_qL, fR_qL, aI_qL, aL_qL, aR_qL, nx_qR, kd_qR, ln_qR, fI_qR, fL_qR, fR_qR, aI_qR, aL_qR, aR_qR, nx_mk, kd_mk, ln_mk, fI_mk, fL_mk, fR_mk, aI_mk, aL_mk, aR_mk, false_and, and_false, if_false, if_true, and_self, Int.reduceEq, Nat.reduceEqDiff, ite_self, MLay_pI, MLay_pL, MLay_qI, MLay_qL, ev_X12_knocksAt, xt_X12_knocksAt, xf_X12_knocksAt, us_X12_goesOn, hI.lay.eqs]
      try simp (disch := omega) only [wI_id, dv_nn, rm_nn]
      refine ⟨hb, fun _ => ?_, fun z => absurd (by omega) z⟩
      rw [b2i_f (by rintro ⟨-, j, a, c, d⟩; exact hno j a (by omega) d)] at h; exact h
    | succ n ih =>
      intro w h4 h5 hno
      have h6 := hI.knock_ (15 * b + w)
      have h7 : 0 ≤ (t - aI σ 69 b) % (aI σ 73 b + 7) := Int.emod_nonneg _ (by omega)
      have h8 : (t - aI σ 69 b) % (aI σ 73 b + 7) < aI σ 73 b + 7 := Int.emod_lt_of_pos _ (by omega)
      refine go_X12_knocksAt (ct := fun p => p == 33) 60 ?_
      simp only [oI, oL, oR, o1, lI, lL, lR, popN, catS, gv, stL, stL2, swt, cnd, spObj, List.getElem?_cons_zero, List.getElem?_cons_succ, List.getD_cons_zero, List.getD_cons_succ, List.set_cons_zero, List.set_cons_succ, List.nil_append, List.cons_append, Option.toList, Bool.or_false, Bool.false_or, Bool.or_true, Bool.true_or, Nat.reduceBEq, Nat.reduceAdd, Nat.reduceLT, Nat.reduceLeDiff, Int.reduceAdd, Int.reduceToNat, true_and, and_true, Fin.isValue, Fin.val_zero, Fin.val_one, Fin.val_two, Fin.reduceFinMk, eq_self, Int.reduceNeg, imp_self, Nat.reduceMul, Nat.le_refl, not_true_eq_false, not_false_eq_true, List.getElem?_nil, reduceCtorEq, true_or, or_true, Classical.not_not, implies_true, or_self, wI_0, wI_1, wI_m1, b2i_w, b2i_eq0, b2i_eq1, b2i_bool, nor_self, nx_pI, kd_pI, ln_pI, fI_pI, fL_pI, fR_pI, aI_pI, aL_pI, aR_pI, nx_pL, kd_pL, ln_pL, fI_pL, fL_pL, fR_pL, aI_pL, aL_pL, aR_pL, nx_pR, kd_pR, ln_pR, fI_pR, fL_pR, fR_pR, aI_pR, aL_pR, aR_pR, nx_qI, kd_qI, ln_qI, fI_qI, fL_qI, fR_qI, aI_qI, aL_qI, aR_qI, nx_qL, kd_qL, ln_qL, fI_qL, fL_qL, fR_qL, aI_qL, aL_qL, aR_qL, nx_qR, kd_qR, ln_qR, fI_qR, fL_qR, fR_qR, aI_qR, aL_qR, aR_qR, nx_mk, kd_mk, ln_mk, fI_mk, fL_mk, fR_mk, aI_mk, aL_mk, aR_mk, false_and, and_false, if_false, if_true, and_self, Int.reduceEq, Nat.reduceEqDiff, ite_self, MLay_pI, MLay_pL, MLay_qI, MLay_qL, ev_X12_knocksAt, xt_X12_knocksAt, xf_X12_knocksAt, us_X12_goesOn, hI.lay.eqs]
      try simp (disch := omega) only [wI_id, dv_nn, rm_nn]
      refine ⟨hb, fun z => absurd z (by omega), fun _ => ⟨by omega, fun hne => ?_, fun he => ?_⟩⟩
      · refine ih (w + 1) (by omega) (by omega) fun j a c => ?_
        by_cases e : j = w
        · subst e; exact hne
        · exact hno j a (by omega)
      · rw [b2i_t ⟨hg, w, h4, by omega, he⟩] at h; exact h
  refine go_X12_knocksAt (ct := fun p => p == 33) 60 ?_
  simp only [oI, oL, oR, o1, lI, lL, lR, popN, catS, gv, stL, stL2, swt, cnd, spObj, List.getElem?_cons_zero, List.getElem?_cons_succ, List.getD_cons_zero, List.getD_cons_succ, List.set_cons_zero, List.set_cons_succ, List.nil_append, List.cons_append, Option.toList, Bool.or_false, Bool.false_or, Bool.or_true, Bool.true_or, Nat.reduceBEq, Nat.reduceAdd, Nat.reduceLT, Nat.reduceLeDiff, Int.reduceAdd, Int.reduceToNat, true_and, and_true, Fin.isValue, Fin.val_zero, Fin.val_one, Fin.val_two, Fin.reduceFinMk, eq_self, Int.reduceNeg, imp_self, Nat.reduceMul, Nat.le_refl, not_true_eq_false, not_false_eq_true, List.getElem?_nil, reduceCtorEq, true_or, or_true, Classical.not_not, implies_true, or_self, wI_0, wI_1, wI_m1, b2i_w, b2i_eq0, b2i_eq1, b2i_bool, nor_self, nx_pI, kd_pI, ln_pI, fI_pI, fL_pI, fR_pI, aI_pI, aL_pI, aR_pI, nx_pL, kd_pL, ln_pL, fI_pL, fL_pL, fR_pL, aI_pL, aL_pL, aR_pL, nx_pR, kd_pR, ln_pR, fI_pR, fL_pR, fR_pR, aI_pR, aL_pR, aR_pR, nx_qI, kd_qI, ln_qI, fI_qI, fL_qI, fR_qI, aI_qI, aL_qI, aR_qI, nx_qL, kd_qL, ln_qL, fI_qL, fL_qL, fR_qL, aI_qL, aL_qL, aR_qL, nx_qR, kd_qR, ln_qR, fI_qR, fL_qR, fR_qR, aI_qR, aL_qR, aR_qR, nx_mk, kd_mk, ln_mk, fI_mk, fL_mk, fR_mk, aI_mk, aL_mk, aR_mk, false_and, and_false, if_false, if_true, and_self, Int.reduceEq, Nat.reduceEqDiff, ite_self, MLay_pI, MLay_pL, MLay_qI, MLay_qL, ev_X12_knocksAt, xt_X12_knocksAt, xf_X12_knocksAt, us_X12_goesOn, hI.lay.eqs, hI]
  refine ⟨hb, ht, fun z => ⟨hb, hb, ?_, ?_⟩, fun z => ?_⟩
  rotate_left 2
  · rw [b2i_f (fun q => z q.1)] at h; exact h
  · rw [wI_id (by omega) (by omega)]; omega
  · have hz := z
    unfold mGo at hz
    rw [rm_nn (by omega) (by omega) (by omega) (by omega)]
    exact loop z (aI σ 72 b).toNat 0 (by omega) (by omega) (fun j a c => by omega)

/-- the first box along a loop that waits, of the first k; -1: none -/
def mWhich (σ : Hp) (l : Int) : Nat → Int
  | 0 => -1
  | k + 1 => if 0 ≤ mWhich σ l k then mWhich σ l k else if aI σ 70 (aI σ 75 (12 * l + k)) = 0 then -1 else aI σ 75 (12 * l + k)
def mBusy (σ : Hp) (l t w : Int) : Prop := bE w fun k => mGo σ (aI σ 75 (12 * l + k)) t
noncomputable def mSt1 (σ : Hp) (l t : Int) : Hp := if 0 ≤ mWhich σ l (aI σ 74 l).toNat ∧ b2i (mBusy σ l t (aI σ 74 l)) = 0 ∧ 7 < t - aI σ 77 l then qI (qI σ 70 (mWhich σ l (aI σ 74 l).toNat) 0) 69 (mWhich σ l (aI σ 74 l).toNat) t else σ
def mHear (σ : Hp) (l t w : Int) : Prop := bE w fun k => mKnk σ (aI σ 75 (12 * l + k)) t ∧ ¬ mDumb σ (aI σ 75 (12 * l + k))
noncomputable def mSt2 (σ : Hp) (l t : Int) : Hp := if b2i (mHear σ l t (aI σ 74 l)) = 1 then qI (qI (qI σ 77 l t) 79 (500 * l + aI σ 78 l % 500) t) 78 l (aI σ 78 l + 1) else σ
/-- one tick of one loop -/
noncomputable def mStep (σ : Hp) (l t : Int) : Hp := mSt2 (mSt1 σ l t) l t
/-- one tick of the first loops -/
noncomputable def mTk (σ : Hp) (t : Int) : Nat → Hp
  | 0 => σ
  | l + 1 => mStep (mTk σ t l) l t
theorem mWhich_in {σ : Hp} (hI : MI σ) (l : Int) : ∀ k : Nat, -1 ≤ mWhich σ l k ∧ mWhich σ l k < 32
  | 0 => by unfold mWhich; omega
  | k + 1 => by
    have := mWhich_in hI l k
    have h2 := hI.boxAt_ (12 * l + k)
    unfold mWhich
    split
    · exact this
    · split <;> omega
theorem MI_mSt1 {σ : Hp} (hI : MI σ) {l t : Int} (ht : 0 ≤ t ∧ t ≤ 1000000) : MI (mSt1 σ l t) := by
  unfold mSt1
  split
  · exact MI_began_q (MI_waits_q hI (by omega)) (by omega)
  · exact hI
theorem MI_mSt2 {σ : Hp} (hI : MI σ) {l t : Int} (ht : 0 ≤ t ∧ t ≤ 999999) (h2 : aI σ 78 l < 1000000) : MI (mSt2 σ l t) := by
  have := hI.taped_ l
  unfold mSt2
  split
  · exact MI_taped_q (MI_tape_q (MI_lastKnock_q hI (by omega)) (by omega)) (by omega)
  · exact hI
theorem taped_mSt1 (σ : Hp) (l t : Int) (j : Int) : aI (mSt1 σ l t) 78 j = aI σ 78 j := by
  unfold mSt1
  split
  · simp only [aI_qI, show (78 : Int) ≠ 70 by decide, show (78 : Int) ≠ 69 by decide, false_and, if_false]
  · rfl
theorem taped_mSt2 (σ : Hp) (l t : Int) (j : Int) : aI (mSt2 σ l t) 78 j ≤ aI σ 78 j + 1 ∧ aI σ 78 j ≤ aI (mSt2 σ l t) 78 j := by
  unfold mSt2
  split
  · simp only [aI_qI]
    by_cases e : j = l
    · subst e; simp; omega
    · simp [e]; omega
  · omega
theorem taped_mStep (σ : Hp) (l t : Int) {j : Int} (h : j ≠ l) : aI (mStep σ l t) 78 j = aI σ 78 j := by
  unfold mStep
  rw [← taped_mSt1 σ l t j]
  unfold mSt2
  split
  · simp only [aI_qI, h, and_false, if_false]
    simp
  · rfl
theorem MI_mStep {σ : Hp} (hI : MI σ) {l t : Int} (ht : 0 ≤ t ∧ t ≤ 999999) (h2 : aI σ 78 l < 1000000) : MI (mStep σ l t) :=
  MI_mSt2 (MI_mSt1 hI (by omega)) ht (by rw [taped_mSt1]; exact h2)
theorem taped_mTk (σ : Hp) (t : Int) : ∀ (n : Nat) (j : Int), (n : Int) ≤ j → aI (mTk σ t n) 78 j = aI σ 78 j
  | 0, j, _ => rfl
  | n + 1, j, h => by
    show aI (mStep (mTk σ t n) n t) _ j = _
    rw [taped_mStep _ _ _ (by omega), taped_mTk σ t n j (by omega)]
theorem MI_mTk {σ : Hp} (hI : MI σ) {t : Int} (ht : 0 ≤ t ∧ t ≤ 999999) (h2 : ∀ j, aI σ 78 j < 1000000) : ∀ n : Nat, MI (mTk σ t n)
  | 0 => hI
  | n + 1 => MI_mStep (MI_mTk hI ht h2 n) ht (by rw [taped_mTk σ t n n (by omega)]; exact h2 n)

def sp_X12_tick : Sp := fun av σ Q => oR av fun this av => oI av fun t av => av = [] ∧ kd σ this = 13 ∧ (this = 61 ∧ MI σ ∧ (1 ≤ t ∧ t ≤ 999999) ∧ (∀ j, aI σ 78 j < 1000000) ∧ Q none (mTk σ t 4))
theorem us_X12_tick (this : Int) (t : Int) (σ : Hp) (Q : Option AV → Hp → Prop) : sp_X12_tick [vr this, vi t] σ Q = (kd σ this = 13 ∧ (this = 61 ∧ MI σ ∧ (1 ≤ t ∧ t ≤ 999999) ∧ (∀ j, aI σ 78 j < 1000000) ∧ Q none (mTk σ t 4))) := propext ⟨fun h => h.2, fun h => ⟨rfl, h⟩⟩
theorem el_X12_tick {av : List AV} {σ : Hp} {Q : Option AV → Hp → Prop} (h : sp_X12_tick av σ Q) : ∃ (this : Int) (t : Int), av = [vr this, vi t] ∧ (kd σ this = 13 ∧ (this = 61 ∧ MI σ ∧ (1 ≤ t ∧ t ≤ 999999) ∧ (∀ j, aI σ 78 j < 1000000) ∧ Q none (mTk σ t 4))) := by
  obtain ⟨this, a0, rfl, h0⟩ := oR_s h
  obtain ⟨t, a1, rfl, h1⟩ := oI_s h0
  obtain ⟨rfl, hz⟩ := h1
  exact ⟨this, t, rfl, hz⟩
theorem rc_X12_tick : ∀ (av : List AV) (σ : Hp) (Q : Option AV → Hp → Prop), sp_X12_tick av σ Q → ∃ r tl, av = vr r :: tl ∧ kd σ r = 12 + 1 := fun av σ Q h => by
  obtain ⟨this, t, rfl, hz, -⟩ := el_X12_tick h
  exact ⟨this, _, rfl, hz⟩

def tb_X12_tick : Tab := [(0, .iconst 0, 1, (0, 0, 0, 0)), (1, .istore_n 2, 1, (0, 0, 0, 0)), (2, .iload_n 2, 1, (0, 0, 0, 0)), (3, .iconst 4, 1, (0, 0, 0, 0)), (4, .if_icmp .ge 238, 3, (0, 0, 0, 0)), (7, .iconst 0, 1, (0, 0, 0, 0)), (8, .istore_n 3, 1, (0, 0, 0, 0)), (9, .iconst (-1), 1, (0, 0, 0, 0)), (10, .istore 4, 2, (0, 0, 0, 0)), (12, .iconst 0, 1, (0, 0, 0, 0)), (13, .istore 5, 2, (0, 0, 0, 0)), (15, .iload 5, 2, (0, 0, 0, 0)), (17, .aload_n 0, 1, (0, 0, 0, 0)), (18, .getfield 47, 3, (13, 1315, 2, 0)), (21, .iload_n 2, 1, (0, 0, 0, 0)), (22, .iaload, 1, (0, 0, 0, 0)), (23, .if_icmp .ge 54, 3, (0, 0, 0, 0)), (26, .aload_n 0, 1, (0, 0, 0, 0)), (27, .getfield 50, 3, (13, 1316, 2, 0)), (30, .bipush 12, 2, (0, 0, 0, 0)), (32, .iload_n 2, 1, (0, 0, 0, 0)), (33, .imul, 1, (0, 0, 0, 0)), (34, .iload 5, 2, (0, 0, 0, 0)), (36, .iadd, 1, (0, 0, 0, 0)), (37, .iaload, 1, (0, 0, 0, 0)), (38, .istore 6, 2, (0, 0, 0, 0)), (40, .aload_n 0, 1, (0, 0, 0, 0)), (41, .iload 6, 2, (0, 0, 0, 0)), (43, .iload_n 1, 1, (0, 0, 0, 0)), (44, .invokevirtual 220, 3, (0, 0, 0, 0)), (47, .ifCond .eq 5, 3, (0, 0, 0, 0)), (50, .iconst 1, 1, (0, 0, 0, 0)), (51, .istore_n 3, 1, (0, 0, 0, 0)), (52, .aload_n 0, 1, (0, 0, 0, 0)), (53, .getfield 34, 3, (13, 1311, 2, 0)), (56, .iload 6, 2, (0, 0, 0, 0)), (58, .baload, 1, (0, 0, 0, 0)), (59, .ifCond .eq 12, 3, (0, 0, 0, 0)), (62, .iload 4, 2, (0, 0, 0, 0)), (64, .ifCond .ge 7, 3, (0, 0, 0, 0)), (67, .iload 6, 2, (0, 0, 0, 0)), (69, .istore 4, 2, (0, 0, 0, 0)), (71, .iinc 5 1, 3, (0, 0, 0, 0)), (74, .goto (-59), 3, (0, 0, 0, 0)), (77, .iload 4, 2, (0, 0, 0, 0)), (79, .ifCond .lt 36, 3, (0, 0, 0, 0)), (82, .iload_n 3, 1, (0, 0, 0, 0)), (83, .ifCond .ne 32, 3, (0, 0, 0, 0)), (86, .iload_n 1, 1, (0, 0, 0, 0)), (87, .aload_n 0, 1, (0, 0, 0, 0)), (88, .getfield 56, 3, (13, 1318, 2, 0)), (91, .iload_n 2, 1, (0, 0, 0, 0)), (92, .iaload, 1, (0, 0, 0, 0)), (93, .isub, 1, (0, 0, 0, 0)), (94, .bipush 7, 2, (0, 0, 0, 0)), (96, .if_icmp .le 19, 3, (0, 0, 0, 0)), (99, .aload_n 0, 1, (0, 0, 0, 0)), (100, .getfield 34, 3, (13, 1311, 2, 0)), (103, .iload 4, 2, (0, 0, 0, 0)), (105, .iconst 0, 1, (0, 0, 0, 0)), (106, .bastore, 1, (0, 0, 0, 0)), (107, .aload_n 0, 1, (0, 0, 0, 0)), (108, .getfield 31, 3, (13, 1310, 2, 0)), (111, .iload 4, 2, (0, 0, 0, 0)), (113, .iload_n 1, 1, (0, 0, 0, 0)), (114, .iastore, 1, (0, 0, 0, 0)), (115, .iconst 0, 1, (0, 0, 0, 0)), (116, .istore 5, 2, (0, 0, 0, 0)), (118, .iconst 0, 1, (0, 0, 0, 0)), (119, .istore 6, 2, (0, 0, 0, 0)), (121, .iload 6, 2, (0, 0, 0, 0)), (123, .aload_n 0, 1, (0, 0, 0, 0)), (124, .getfield 47, 3, (13, 1315, 2, 0)), (127, .iload_n 2, 1, (0, 0, 0, 0)), (128, .iaload, 1, (0, 0, 0, 0)), (129, .if_icmp .ge 60, 3, (0, 0, 0, 0)), (132, .iload 5, 2, (0, 0, 0, 0)), (134, .ifCond .ne 55, 3, (0, 0, 0, 0)), (137, .aload_n 0, 1, (0, 0, 0, 0)), (138, .aload_n 0, 1, (0, 0, 0, 0)), (139, .getfield 50, 3, (13, 1316, 2, 0)), (142, .bipush 12, 2, (0, 0, 0, 0)), (144, .iload_n 2, 1, (0, 0, 0, 0)), (145, .imul, 1, (0, 0, 0, 0)), (146, .iload 6, 2, (0, 0, 0, 0)), (148, .iadd, 1, (0, 0, 0, 0)), (149, .iaload, 1, (0, 0, 0, 0)), (150, .iload_n 1, 1, (0, 0, 0, 0)), (151, .invokevirtual 224, 3, (0, 0, 0, 0)), (154, .ifCond .eq 26, 3, (0, 0, 0, 0)), (157, .aload_n 0, 1, (0, 0, 0, 0)), (158, .aload_n 0, 1, (0, 0, 0, 0)), (159, .getfield 50, 3, (13, 1316, 2, 0)), (162, .bipush 12, 2, (0, 0, 0, 0)), (164, .iload_n 2, 1, (0, 0, 0, 0)), (165, .imul, 1, (0, 0, 0, 0)), (166, .iload 6, 2, (0, 0, 0, 0)), (168, .iadd, 1, (0, 0, 0, 0)), (169, .iaload, 1, (0, 0, 0, 0)), (170, .invokevirtual 227, 3, (0, 0, 0, 0)), (173, .ifCond .ne 7, 3, (0, 0, 0, 0)), (176, .iconst 1, 1, (0, 0, 0, 0)), (177, .goto 4, 3, (0, 0, 0, 0)), (180, .iconst 0, 1, (0, 0, 0, 0)), (181, .istore 5, 2, (0, 0, 0, 0)), (183, .iinc 6 1, 3, (0, 0, 0, 0)), (186, .goto (-65), 3, (0, 0, 0, 0)), (189, .iload 5, 2, (0, 0, 0, 0)), (191, .ifCond .ne 6, 3, (0, 0, 0, 0)), (194, .goto 42, 3, (0, 0, 0, 0)), (197, .aload_n 0, 1, (0, 0, 0, 0)), (198, .getfield 56, 3, (13, 1318, 2, 0)), (201, .iload_n 2, 1, (0, 0, 0, 0)), (202, .iload_n 1, 1, (0, 0, 0, 0)), (203, .iastore, 1, (0, 0, 0, 0)), (204, .aload_n 0, 1, (0, 0, 0, 0)), (205, .getfield 62, 3, (13, 1320, 2, 0)), (208, .sipush 500, 3, (0, 0, 0, 0)), (211, .iload_n 2, 1, (0, 0, 0, 0)), (212, .imul, 1, (0, 0, 0, 0)), (213, .aload_n 0, 1, (0, 0, 0, 0)), (214, .getfield 59, 3, (13, 1319, 2, 0)), (217, .iload_n 2, 1, (0, 0, 0, 0)), (218, .iaload, 1, (0, 0, 0, 0)), (219, .sipush 500, 3, (0, 0, 0, 0)), (222, .irem, 1, (0, 0, 0, 0)), (223, .iadd, 1, (0, 0, 0, 0)), (224, .iload_n 1, 1, (0, 0, 0, 0)), (225, .iastore, 1, (0, 0, 0, 0)), (226, .aload_n 0, 1, (0, 0, 0, 0)), (227, .getfield 59, 3, (13, 1319, 2, 0)), (230, .iload_n 2, 1, (0, 0, 0, 0)), (231, .dup2, 1, (0, 0, 0, 0)), (232, .iaload, 1, (0, 0, 0, 0)), (233, .iconst 1, 1, (0, 0, 0, 0)), (234, .iadd, 1, (0, 0, 0, 0)), (235, .iastore, 1, (0, 0, 0, 0)), (236, .iinc 2 1, 3, (0, 0, 0, 0)), (239, .goto (-237), 3, (0, 0, 0, 0)), (242, .return_, 1, (0, 0, 0, 0))]
set_option maxRecDepth 100000 in
theorem tk_X12_tick : TOK RX12 false cX12_tick tb_X12_tick := chkT_ok ft_X12 (by decide +kernel)
theorem rw_X12_1792 : Row RX12 (.invokevirtual 224) 3 3 0 0 3 sp_X12_knocksAt := row_V (n := 2) (ci := 12) c_X12_knocksAt ⟨TBL_in 1807 (by decide +kernel) rfl, TBL_in 1810 (by decide +kernel) rfl, TBL_in 123 (by decide +kernel) rfl, by decide +kernel, by decide⟩ (by decide) rfl (TBL_in 1809 (by decide +kernel) rfl) (TBL_in 68 (by decide +kernel) rfl) rc_X12_knocksAt
theorem rw_X12_1816 : Row RX12 (.invokevirtual 227) 3 2 0 0 1 sp_X12_isDumb := row_V (n := 1) (ci := 12) c_X12_isDumb ⟨TBL_in 1811 (by decide +kernel) rfl, TBL_in 1814 (by decide +kernel) rfl, TBL_in 123 (by decide +kernel) rfl, by decide +kernel, by decide⟩ (by decide) rfl (TBL_in 1813 (by decide +kernel) rfl) (TBL_in 69 (by decide +kernel) rfl) rc_X12_isDumb
def mt_X12_tick : List (Nat × Mt) := [(1760, 3, 0, 0, 2, sp_X12_goesOn), (1792, 3, 0, 0, 3, sp_X12_knocksAt), (1816, 2, 0, 0, 1, sp_X12_isDumb)]
theorem em_X12_tick : mt_X12_tick.lookup 1760 = some (3, 0, 0, 2, sp_X12_goesOn) ∧ mt_X12_tick.lookup 1792 = some (3, 0, 0, 3, sp_X12_knocksAt) ∧ mt_X12_tick.lookup 1816 = some (2, 0, 0, 1, sp_X12_isDumb) := ⟨rfl, rfl, rfl⟩
theorem mk_X12_tick : MOK RX12 mt_X12_tick := by
  intro q hq
  simp only [mt_X12_tick, List.mem_cons, List.not_mem_nil, or_false] at hq
  rcases hq with rfl | rfl | rfl
  · exact rw_X12_1760
  · exact rw_X12_1792
  · exact rw_X12_1816
noncomputable def xe_X12_tick (ct : Nat → Bool) (K : Kt) (R : Option AV → Hp → Prop) (n : Nat) : Kt := exS 7 4 0 0 0 tb_X12_tick mt_X12_tick ct K R n
noncomputable def xk_X12_tick (ct : Nat → Bool) (K : Kt) (R : Option AV → Hp → Prop) (n : Nat) : Kt := exkS 7 4 0 0 0 tb_X12_tick mt_X12_tick ct K R n
theorem xt_X12_tick {ct : Nat → Bool} {K : Kt} {R : Option AV → Hp → Prop} {n pc : Nat} {ls : List (Option AV)} {st : List AV} {σ : Hp} {k : Nat × Nat} (h : ct pc = true) : xk_X12_tick ct K R n pc ls st σ k = K pc ls st σ k := by unfold xk_X12_tick exkS; rw [h]
theorem xf_X12_tick {ct : Nat → Bool} {K : Kt} {R : Option AV → Hp → Prop} {n pc : Nat} {ls : List (Option AV)} {st : List AV} {σ : Hp} {k : Nat × Nat} (h : ct pc = false) : xk_X12_tick ct K R n pc ls st σ k = xe_X12_tick ct K R n pc ls st σ k := by unfold xk_X12_tick exkS xe_X12_tick; rw [h]
theorem ev_X12_tick {ct : Nat → Bool} {K : Kt} {R : Option AV → Hp → Prop} {n : Nat} {ls : List (Option AV)} {st : List AV} {σ : Hp} {k : Nat × Nat} :
  xe_X12_tick ct K R (n + 1) 0 ls st σ k = (xk_X12_tick ct K R n 1 ls (vi (0) :: st) σ k) ∧
  xe_X12_tick ct K R (n + 1) 1 ls st σ k = (oI st fun x st => 2 < 7 ∧ xk_X12_tick ct K R n 2 (stL ls 2 (vi x)) st σ k) ∧
  xe_X12_tick ct K R (n + 1) 2 ls st σ k = (lI ls 2 fun x => xk_X12_tick ct K R n 3 ls (vi x :: st) σ k) ∧
  xe_X12_tick ct K R (n + 1) 3 ls st σ k = (xk_X12_tick ct K R n 4 ls (vi (4) :: st) σ k) ∧
  xe_X12_tick ct K R (n + 1) 4 ls st σ k = (oI st fun y st => oI st fun x st => (wI y ≤ wI x → xk_X12_tick ct K R n 242 ls st σ k) ∧ (¬ (wI y ≤ wI x) → xk_X12_tick ct K R n 7 ls st σ k)) ∧
  xe_X12_tick ct K R (n + 1) 7 ls st σ k = (xk_X12_tick ct K R n 8 ls (vi (0) :: st) σ k) ∧
  xe_X12_tick ct K R (n + 1) 8 ls st σ k = (oI st fun x st => 3 < 7 ∧ xk_X12_tick ct K R n 9 (stL ls 3 (vi x)) st σ k) ∧
  xe_X12_tick ct K R (n + 1) 9 ls st σ k = (xk_X12_tick ct K R n 10 ls (vi (-1) :: st) σ k) ∧
  xe_X12_tick ct K R (n + 1) 10 ls st σ k = (oI st fun x st => 4 < 7 ∧ xk_X12_tick ct K R n 12 (stL ls 4 (vi x)) st σ k) ∧
  xe_X12_tick ct K R (n + 1) 12 ls st σ k = (xk_X12_tick ct K R n 13 ls (vi (0) :: st) σ k) ∧
  xe_X12_tick ct K R (n + 1) 13 ls st σ k = (oI st fun x st => 5 < 7 ∧ xk_X12_tick ct K R n 15 (stL ls 5 (vi x)) st σ k) ∧
  xe_X12_tick ct K R (n + 1) 15 ls st σ k = (lI ls 5 fun x => xk_X12_tick ct K R n 17 ls (vi x :: st) σ k) ∧
  xe_X12_tick ct K R (n + 1) 17 ls st σ k = (lR ls 0 fun x => xk_X12_tick ct K R n 18 ls (vr x :: st) σ k) ∧
  xe_X12_tick ct K R (n + 1) 18 ls st σ k = (oR st fun x st => kd σ x = 13 ∧ xk_X12_tick ct K R n 21 ls (vr (fR σ 1315 x) :: st) σ k) ∧
  xe_X12_tick ct K R (n + 1) 21 ls st σ k = (lI ls 2 fun x => xk_X12_tick ct K R n 22 ls (vi x :: st) σ k) ∧
  xe_X12_tick ct K R (n + 1) 22 ls st σ k = (oI st fun j st => oR st fun x st => (kd σ x = 101 ∨ kd σ x = 108) ∧ (0 ≤ j ∧ j < ln σ x) ∧ xk_X12_tick ct K R n 23 ls (vi (aI σ x j) :: st) σ k) ∧
  xe_X12_tick ct K R (n + 1) 23 ls st σ k = (oI st fun y st => oI st fun x st => (wI y ≤ wI x → xk_X12_tick ct K R n 77 ls st σ k) ∧ (¬ (wI y ≤ wI x) → xk_X12_tick ct K R n 26 ls st σ k)) ∧
  xe_X12_tick ct K R (n + 1) 26 ls st σ k = (lR ls 0 fun x => xk_X12_tick ct K R n 27 ls (vr x :: st) σ k) ∧
  xe_X12_tick ct K R (n + 1) 27 ls st σ k = (oR st fun x st => kd σ x = 13 ∧ xk_X12_tick ct K R n 30 ls (vr (fR σ 1316 x) :: st) σ k) ∧
  xe_X12_tick ct K R (n + 1) 30 ls st σ k = (xk_X12_tick ct K R n 32 ls (vi (12) :: st) σ k) ∧
  xe_X12_tick ct K R (n + 1) 32 ls st σ k = (lI ls 2 fun x => xk_X12_tick ct K R n 33 ls (vi x :: st) σ k) ∧
  xe_X12_tick ct K R (n + 1) 33 ls st σ k = (oI st fun y st => oI st fun x st => xk_X12_tick ct K R n 34 ls (vi (x * y) :: st) σ k) ∧
  xe_X12_tick ct K R (n + 1) 34 ls st σ k = (lI ls 5 fun x => xk_X12_tick ct K R n 36 ls (vi x :: st) σ k) ∧
  xe_X12_tick ct K R (n + 1) 36 ls st σ k = (oI st fun y st => oI st fun x st => xk_X12_tick ct K R n 37 ls (vi (x + y) :: st) σ k) ∧
  xe_X12_tick ct K R (n + 1) 37 ls st σ k = (oI st fun j st => oR st fun x st => (kd σ x = 101 ∨ kd σ x = 108) ∧ (0 ≤ j ∧ j < ln σ x) ∧ xk_X12_tick ct K R n 38 ls (vi (aI σ x j) :: st) σ k) ∧
  xe_X12_tick ct K R (n + 1) 38 ls st σ k = (oI st fun x st => 6 < 7 ∧ xk_X12_tick ct K R n 40 (stL ls 6 (vi x)) st σ k) ∧
  xe_X12_tick ct K R (n + 1) 40 ls st σ k = (lR ls 0 fun x => xk_X12_tick ct K R n 41 ls (vr x :: st) σ k) ∧
  xe_X12_tick ct K R (n + 1) 41 ls st σ k = (lI ls 6 fun x => xk_X12_tick ct K R n 43 ls (vi x :: st) σ k) ∧
  xe_X12_tick ct K R (n + 1) 43 ls st σ k = (lI ls 1 fun x => xk_X12_tick ct K R n 44 ls (vi x :: st) σ k) ∧
  xe_X12_tick ct K R (n + 1) 44 ls st σ k = (popN 3 st [] fun av rest => (catS rest ≤ 8 ∧ 2 < 4 ∧ k.1 + 0 ≤ 0 ∧ k.2 + 0 ≤ 0) ∧ (sp_X12_goesOn) av σ fun v σ' => xk_X12_tick ct K R n 47 ls (v.toList ++ rest) σ' (k.1 + 0, k.2 + 0)) ∧
  xe_X12_tick ct K R (n + 1) 47 ls st σ k = (oI st fun x st => (wI x = wI 0 → xk_X12_tick ct K R n 52 ls st σ k) ∧ (¬ (wI x = wI 0) → xk_X12_tick ct K R n 50 ls st σ k)) ∧
  xe_X12_tick ct K R (n + 1) 50 ls st σ k = (xk_X12_tick ct K R n 51 ls (vi (1) :: st) σ k) ∧
  xe_X12_tick ct K R (n + 1) 51 ls st σ k = (oI st fun x st => 3 < 7 ∧ xk_X12_tick ct K R n 52 (stL ls 3 (vi x)) st σ k) ∧
  xe_X12_tick ct K R (n + 1) 52 ls st σ k = (lR ls 0 fun x => xk_X12_tick ct K R n 53 ls (vr x :: st) σ k) ∧
  xe_X12_tick ct K R (n + 1) 53 ls st σ k = (oR st fun x st => kd σ x = 13 ∧ xk_X12_tick ct K R n 56 ls (vr (fR σ 1311 x) :: st) σ k) ∧
  xe_X12_tick ct K R (n + 1) 56 ls st σ k = (lI ls 6 fun x => xk_X12_tick ct K R n 58 ls (vi x :: st) σ k) ∧
  xe_X12_tick ct K R (n + 1) 58 ls st σ k = (oI st fun j st => oR st fun x st => (kd σ x = 103 ∨ kd σ x = 21) ∧ (0 ≤ j ∧ j < ln σ x) ∧ xk_X12_tick ct K R n 59 ls (vi (aI σ x j) :: st) σ k) ∧
  xe_X12_tick ct K R (n + 1) 59 ls st σ k = (oI st fun x st => (wI x = wI 0 → xk_X12_tick ct K R n 71 ls st σ k) ∧ (¬ (wI x = wI 0) → xk_X12_tick ct K R n 62 ls st σ k)) ∧
  xe_X12_tick ct K R (n + 1) 62 ls st σ k = (lI ls 4 fun x => xk_X12_tick ct K R n 64 ls (vi x :: st) σ k) ∧
  xe_X12_tick ct K R (n + 1) 64 ls st σ k = (oI st fun x st => (wI 0 ≤ wI x → xk_X12_tick ct K R n 71 ls st σ k) ∧ (¬ (wI 0 ≤ wI x) → xk_X12_tick ct K R n 67 ls st σ k)) ∧
  xe_X12_tick ct K R (n + 1) 67 ls st σ k = (lI ls 6 fun x => xk_X12_tick ct K R n 69 ls (vi x :: st) σ k) ∧
  xe_X12_tick ct K R (n + 1) 69 ls st σ k = (oI st fun x st => 4 < 7 ∧ xk_X12_tick ct K R n 71 (stL ls 4 (vi x)) st σ k) ∧
  xe_X12_tick ct K R (n + 1) 71 ls st σ k = (lI ls 5 fun x => 5 < 7 ∧ xk_X12_tick ct K R n 74 (stL ls 5 (vi (x + (1)))) st σ k) ∧
  xe_X12_tick ct K R (n + 1) 74 ls st σ k = (xk_X12_tick ct K R n 15 ls st σ k) ∧
  xe_X12_tick ct K R (n + 1) 77 ls st σ k = (lI ls 4 fun x => xk_X12_tick ct K R n 79 ls (vi x :: st) σ k) ∧
  xe_X12_tick ct K R (n + 1) 79 ls st σ k = (oI st fun x st => (wI x < wI 0 → xk_X12_tick ct K R n 115 ls st σ k) ∧ (¬ (wI x < wI 0) → xk_X12_tick ct K R n 82 ls st σ k)) ∧
  xe_X12_tick ct K R (n + 1) 82 ls st σ k = (lI ls 3 fun x => xk_X12_tick ct K R n 83 ls (vi x :: st) σ k) ∧
  xe_X12_tick ct K R (n + 1) 83 ls st σ k = (oI st fun x st => (¬ wI x = wI 0 → xk_X12_tick ct K R n 115 ls st σ k) ∧ (¬ (¬ wI x = wI 0) → xk_X12_tick ct K R n 86 ls st σ k)) ∧
  xe_X12_tick ct K R (n + 1) 86 ls st σ k = (lI ls 1 fun x => xk_X12_tick ct K R n 87 ls (vi x :: st) σ k) ∧
  xe_X12_tick ct K R (n + 1) 87 ls st σ k = (lR ls 0 fun x => xk_X12_tick ct K R n 88 ls (vr x :: st) σ k) ∧
  xe_X12_tick ct K R (n + 1) 88 ls st σ k = (oR st fun x st => kd σ x = 13 ∧ xk_X12_tick ct K R n 91 ls (vr (fR σ 1318 x) :: st) σ k) ∧
  xe_X12_tick ct K R (n + 1) 91 ls st σ k = (lI ls 2 fun x => xk_X12_tick ct K R n 92 ls (vi x :: st) σ k) ∧
  xe_X12_tick ct K R (n + 1) 92 ls st σ k = (oI st fun j st => oR st fun x st => (kd σ x = 101 ∨ kd σ x = 108) ∧ (0 ≤ j ∧ j < ln σ x) ∧ xk_X12_tick ct K R n 93 ls (vi (aI σ x j) :: st) σ k) ∧
  xe_X12_tick ct K R (n + 1) 93 ls st σ k = (oI st fun y st => oI st fun x st => xk_X12_tick ct K R n 94 ls (vi (x - y) :: st) σ k) ∧
  xe_X12_tick ct K R (n + 1) 94 ls st σ k = (xk_X12_tick ct K R n 96 ls (vi (7) :: st) σ k) ∧
  xe_X12_tick ct K R (n + 1) 96 ls st σ k = (oI st fun y st => oI st fun x st => (wI x ≤ wI y → xk_X12_tick ct K R n 115 ls st σ k) ∧ (¬ (wI x ≤ wI y) → xk_X12_tick ct K R n 99 ls st σ k)) ∧
  xe_X12_tick ct K R (n + 1) 99 ls st σ k = (lR ls 0 fun x => xk_X12_tick ct K R n 100 ls (vr x :: st) σ k) ∧
  xe_X12_tick ct K R (n + 1) 100 ls st σ k = (oR st fun x st => kd σ x = 13 ∧ xk_X12_tick ct K R n 103 ls (vr (fR σ 1311 x) :: st) σ k) ∧
  xe_X12_tick ct K R (n + 1) 103 ls st σ k = (lI ls 4 fun x => xk_X12_tick ct K R n 105 ls (vi x :: st) σ k) ∧
  xe_X12_tick ct K R (n + 1) 105 ls st σ k = (xk_X12_tick ct K R n 106 ls (vi (0) :: st) σ k) ∧
  xe_X12_tick ct K R (n + 1) 106 ls st σ k = (oI st fun v st => oI st fun j st => oR st fun x st => kd σ x = 103 ∧ (0 ≤ j ∧ j < ln σ x) ∧ (v = 0 ∨ v = 1) ∧ xk_X12_tick ct K R n 107 ls st (qI σ x j v) k) ∧
  xe_X12_tick ct K R (n + 1) 107 ls st σ k = (lR ls 0 fun x => xk_X12_tick ct K R n 108 ls (vr x :: st) σ k) ∧
  xe_X12_tick ct K R (n + 1) 108 ls st σ k = (oR st fun x st => kd σ x = 13 ∧ xk_X12_tick ct K R n 111 ls (vr (fR σ 1310 x) :: st) σ k) ∧
  xe_X12_tick ct K R (n + 1) 111 ls st σ k = (lI ls 4 fun x => xk_X12_tick ct K R n 113 ls (vi x :: st) σ k) ∧
  xe_X12_tick ct K R (n + 1) 113 ls st σ k = (lI ls 1 fun x => xk_X12_tick ct K R n 114 ls (vi x :: st) σ k) ∧
  xe_X12_tick ct K R (n + 1) 114 ls st σ k = (oI st fun v st => oI st fun j st => oR st fun x st => kd σ x = 101 ∧ (0 ≤ j ∧ j < ln σ x) ∧ xk_X12_tick ct K R n 115 ls st (qI σ x j v) k) ∧
  xe_X12_tick ct K R (n + 1) 115 ls st σ k = (xk_X12_tick ct K R n 116 ls (vi (0) :: st) σ k) ∧
  xe_X12_tick ct K R (n + 1) 116 ls st σ k = (oI st fun x st => 5 < 7 ∧ xk_X12_tick ct K R n 118 (stL ls 5 (vi x)) st σ k) ∧
  xe_X12_tick ct K R (n + 1) 118 ls st σ k = (xk_X12_tick ct K R n 119 ls (vi (0) :: st) σ k) ∧
  xe_X12_tick ct K R (n + 1) 119 ls st σ k = (oI st fun x st => 6 < 7 ∧ xk_X12_tick ct K R n 121 (stL ls 6 (vi x)) st σ k) ∧
  xe_X12_tick ct K R (n + 1) 121 ls st σ k = (lI ls 6 fun x => xk_X12_tick ct K R n 123 ls (vi x :: st) σ k) ∧
  xe_X12_tick ct K R (n + 1) 123 ls st σ k = (lR ls 0 fun x => xk_X12_tick ct K R n 124 ls (vr x :: st) σ k) ∧
  xe_X12_tick ct K R (n + 1) 124 ls st σ k = (oR st fun x st => kd σ x = 13 ∧ xk_X12_tick ct K R n 127 ls (vr (fR σ 1315 x) :: st) σ k) ∧
  xe_X12_tick ct K R (n + 1) 127 ls st σ k = (lI ls 2 fun x => xk_X12_tick ct K R n 128 ls (vi x :: st) σ k) ∧
  xe_X12_tick ct K R (n + 1) 128 ls st σ k = (oI st fun j st => oR st fun x st => (kd σ x = 101 ∨ kd σ x = 108) ∧ (0 ≤ j ∧ j < ln σ x) ∧ xk_X12_tick ct K R n 129 ls (vi (aI σ x j) :: st) σ k) ∧
  xe_X12_tick ct K R (n + 1) 129 ls st σ k = (oI st fun y st => oI st fun x st => (wI y ≤ wI x → xk_X12_tick ct K R n 189 ls st σ k) ∧ (¬ (wI y ≤ wI x) → xk_X12_tick ct K R n 132 ls st σ k)) ∧
  xe_X12_tick ct K R (n + 1) 132 ls st σ k = (lI ls 5 fun x => xk_X12_tick ct K R n 134 ls (vi x :: st) σ k) ∧
  xe_X12_tick ct K R (n + 1) 134 ls st σ k = (oI st fun x st => (¬ wI x = wI 0 → xk_X12_tick ct K R n 189 ls st σ k) ∧ (¬ (¬ wI x = wI 0) → xk_X12_tick ct K R n 137 ls st σ k)) ∧
  xe_X12_tick ct K R (n + 1) 137 ls st σ k = (lR ls 0 fun x => xk_X12_tick ct K R n 138 ls (vr x :: st) σ k) ∧
  xe_X12_tick ct K R (n + 1) 138 ls st σ k = (lR ls 0 fun x => xk_X12_tick ct K R n 139 ls (vr x :: st) σ k) ∧
  xe_X12_tick ct K R (n + 1) 139 ls st σ k = (oR st fun x st => kd σ x = 13 ∧ xk_X12_tick ct K R n 142 ls (vr (fR σ 1316 x) :: st) σ k) ∧
  xe_X12_tick ct K R (n + 1) 142 ls st σ k = (xk_X12_tick ct K R n 144 ls (vi (12) :: st) σ k) ∧
  xe_X12_tick ct K R (n + 1) 144 ls st σ k = (lI ls 2 fun x => xk_X12_tick ct K R n 145 ls (vi x :: st) σ k) ∧
  xe_X12_tick ct K R (n + 1) 145 ls st σ k = (oI st fun y st => oI st fun x st => xk_X12_tick ct K R n 146 ls (vi (x * y) :: st) σ k) ∧
  xe_X12_tick ct K R (n + 1) 146 ls st σ k = (lI ls 6 fun x => xk_X12_tick ct K R n 148 ls (vi x :: st) σ k) ∧
  xe_X12_tick ct K R (n + 1) 148 ls st σ k = (oI st fun y st => oI st fun x st => xk_X12_tick ct K R n 149 ls (vi (x + y) :: st) σ k) ∧
  xe_X12_tick ct K R (n + 1) 149 ls st σ k = (oI st fun j st => oR st fun x st => (kd σ x = 101 ∨ kd σ x = 108) ∧ (0 ≤ j ∧ j < ln σ x) ∧ xk_X12_tick ct K R n 150 ls (vi (aI σ x j) :: st) σ k) ∧
  xe_X12_tick ct K R (n + 1) 150 ls st σ k = (lI ls 1 fun x => xk_X12_tick ct K R n 151 ls (vi x :: st) σ k) ∧
  xe_X12_tick ct K R (n + 1) 151 ls st σ k = (popN 3 st [] fun av rest => (catS rest ≤ 8 ∧ 3 < 4 ∧ k.1 + 0 ≤ 0 ∧ k.2 + 0 ≤ 0) ∧ (sp_X12_knocksAt) av σ fun v σ' => xk_X12_tick ct K R n 154 ls (v.toList ++ rest) σ' (k.1 + 0, k.2 + 0)) ∧
  xe_X12_tick ct K R (n + 1) 154 ls st σ k = (oI st fun x st => (wI x = wI 0 → xk_X12_tick ct K R n 180 ls st σ k) ∧ (¬ (wI x = wI 0) → xk_X12_tick ct K R n 157 ls st σ k)) ∧
  xe_X12_tick ct K R (n + 1) 157 ls st σ k = (lR ls 0 fun x => xk_X12_tick ct K R n 158 ls (vr x :: st) σ k) ∧
  xe_X12_tick ct K R (n + 1) 158 ls st σ k = (lR ls 0 fun x => xk_X12_tick ct K R n 159 ls (vr x :: st) σ k) ∧
  xe_X12_tick ct K R (n + 1) 159 ls st σ k = (oR st fun x st => kd σ x = 13 ∧ xk_X12_tick ct K R n 162 ls (vr (fR σ 1316 x) :: st) σ k) ∧
  xe_X12_tick ct K R (n + 1) 162 ls st σ k = (xk_X12_tick ct K R n 164 ls (vi (12) :: st) σ k) ∧
  xe_X12_tick ct K R (n + 1) 164 ls st σ k = (lI ls 2 fun x => xk_X12_tick ct K R n 165 ls (vi x :: st) σ k) ∧
  xe_X12_tick ct K R (n + 1) 165 ls st σ k = (oI st fun y st => oI st fun x st => xk_X12_tick ct K R n 166 ls (vi (x * y) :: st) σ k) ∧
  xe_X12_tick ct K R (n + 1) 166 ls st σ k = (lI ls 6 fun x => xk_X12_tick ct K R n 168 ls (vi x :: st) σ k) ∧
  xe_X12_tick ct K R (n + 1) 168 ls st σ k = (oI st fun y st => oI st fun x st => xk_X12_tick ct K R n 169 ls (vi (x + y) :: st) σ k) ∧
  xe_X12_tick ct K R (n + 1) 169 ls st σ k = (oI st fun j st => oR st fun x st => (kd σ x = 101 ∨ kd σ x = 108) ∧ (0 ≤ j ∧ j < ln σ x) ∧ xk_X12_tick ct K R n 170 ls (vi (aI σ x j) :: st) σ k) ∧
  xe_X12_tick ct K R (n + 1) 170 ls st σ k = (popN 2 st [] fun av rest => (catS rest ≤ 8 ∧ 1 < 4 ∧ k.1 + 0 ≤ 0 ∧ k.2 + 0 ≤ 0) ∧ (sp_X12_isDumb) av σ fun v σ' => xk_X12_tick ct K R n 173 ls (v.toList ++ rest) σ' (k.1 + 0, k.2 + 0)) ∧
  xe_X12_tick ct K R (n + 1) 173 ls st σ k = (oI st fun x st => (¬ wI x = wI 0 → xk_X12_tick ct K R n 180 ls st σ k) ∧ (¬ (¬ wI x = wI 0) → xk_X12_tick ct K R n 176 ls st σ k)) ∧
  xe_X12_tick ct K R (n + 1) 176 ls st σ k = (xk_X12_tick ct K R n 177 ls (vi (1) :: st) σ k) ∧
  xe_X12_tick ct K R (n + 1) 177 ls st σ k = (xk_X12_tick ct K R n 181 ls st σ k) ∧
  xe_X12_tick ct K R (n + 1) 180 ls st σ k = (xk_X12_tick ct K R n 181 ls (vi (0) :: st) σ k) ∧
  xe_X12_tick ct K R (n + 1) 181 ls st σ k = (oI st fun x st => 5 < 7 ∧ xk_X12_tick ct K R n 183 (stL ls 5 (vi x)) st σ k) ∧
  xe_X12_tick ct K R (n + 1) 183 ls st σ k = (lI ls 6 fun x => 6 < 7 ∧ xk_X12_tick ct K R n 186 (stL ls 6 (vi (x + (1)))) st σ k) ∧
  xe_X12_tick ct K R (n + 1) 186 ls st σ k = (xk_X12_tick ct K R n 121 ls st σ k) ∧
  xe_X12_tick ct K R (n + 1) 189 ls st σ k = (lI ls 5 fun x => xk_X12_tick ct K R n 191 ls (vi x :: st) σ k) ∧
  xe_X12_tick ct K R (n + 1) 191 ls st σ k = (oI st fun x st => (¬ wI x = wI 0 → xk_X12_tick ct K R n 197 ls st σ k) ∧ (¬ (¬ wI x = wI 0) → xk_X12_tick ct K R n 194 ls st σ k)) ∧
  xe_X12_tick ct K R (n + 1) 194 ls st σ k = (xk_X12_tick ct K R n 236 ls st σ k) ∧
  xe_X12_tick ct K R (n + 1) 197 ls st σ k = (lR ls 0 fun x => xk_X12_tick ct K R n 198 ls (vr x :: st) σ k) ∧
  xe_X12_tick ct K R (n + 1) 198 ls st σ k = (oR st fun x st => kd σ x = 13 ∧ xk_X12_tick ct K R n 201 ls (vr (fR σ 1318 x) :: st) σ k) ∧
  xe_X12_tick ct K R (n + 1) 201 ls st σ k = (lI ls 2 fun x => xk_X12_tick ct K R n 202 ls (vi x :: st) σ k) ∧
  xe_X12_tick ct K R (n + 1) 202 ls st σ k = (lI ls 1 fun x => xk_X12_tick ct K R n 203 ls (vi x :: st) σ k) ∧
  xe_X12_tick ct K R (n + 1) 203 ls st σ k = (oI st fun v st => oI st fun j st => oR st fun x st => kd σ x = 101 ∧ (0 ≤ j ∧ j < ln σ x) ∧ xk_X12_tick ct K R n 204 ls st (qI σ x j v) k) ∧
  xe_X12_tick ct K R (n + 1) 204 ls st σ k = (lR ls 0 fun x => xk_X12_tick ct K R n 205 ls (vr x :: st) σ k) ∧
  xe_X12_tick ct K R (n + 1) 205 ls st σ k = (oR st fun x st => kd σ x = 13 ∧ xk_X12_tick ct K R n 208 ls (vr (fR σ 1320 x) :: st) σ k) ∧
  xe_X12_tick ct K R (n + 1) 208 ls st σ k = (xk_X12_tick ct K R n 211 ls (vi (500) :: st) σ k) ∧
  xe_X12_tick ct K R (n + 1) 211 ls st σ k = (lI ls 2 fun x => xk_X12_tick ct K R n 212 ls (vi x :: st) σ k) ∧
  xe_X12_tick ct K R (n + 1) 212 ls st σ k = (oI st fun y st => oI st fun x st => xk_X12_tick ct K R n 213 ls (vi (x * y) :: st) σ k) ∧
  xe_X12_tick ct K R (n + 1) 213 ls st σ k = (lR ls 0 fun x => xk_X12_tick ct K R n 214 ls (vr x :: st) σ k) ∧
  xe_X12_tick ct K R (n + 1) 214 ls st σ k = (oR st fun x st => kd σ x = 13 ∧ xk_X12_tick ct K R n 217 ls (vr (fR σ 1319 x) :: st) σ k) ∧
  xe_X12_tick ct K R (n + 1) 217 ls st σ k = (lI ls 2 fun x => xk_X12_tick ct K R n 218 ls (vi x :: st) σ k) ∧
  xe_X12_tick ct K R (n + 1) 218 ls st σ k = (oI st fun j st => oR st fun x st => (kd σ x = 101 ∨ kd σ x = 108) ∧ (0 ≤ j ∧ j < ln σ x) ∧ xk_X12_tick ct K R n 219 ls (vi (aI σ x j) :: st) σ k) ∧
  xe_X12_tick ct K R (n + 1) 219 ls st σ k = (xk_X12_tick ct K R n 222 ls (vi (500) :: st) σ k) ∧
  xe_X12_tick ct K R (n + 1) 222 ls st σ k = (oI st fun y st => oI st fun x st => ¬ wI y = 0 ∧ xk_X12_tick ct K R n 223 ls (vi (rmI x y) :: st) σ k) ∧
  xe_X12_tick ct K R (n + 1) 223 ls st σ k = (oI st fun y st => oI st fun x st => xk_X12_tick ct K R n 224 ls (vi (x + y) :: st) σ k) ∧
  xe_X12_tick ct K R (n + 1) 224 ls st σ k = (lI ls 1 fun x => xk_X12_tick ct K R n 225 ls (vi x :: st) σ k) ∧
  xe_X12_tick ct K R (n + 1) 225 ls st σ k = (oI st fun v st => oI st fun j st => oR st fun x st => kd σ x = 101 ∧ (0 ≤ j ∧ j < ln σ x) ∧ xk_X12_tick ct K R n 226 ls st (qI σ x j v) k) ∧
  xe_X12_tick ct K R (n + 1) 226 ls st σ k = (lR ls 0 fun x => xk_X12_tick ct K R n 227 ls (vr x :: st) σ k) ∧
  xe_X12_tick ct K R (n + 1) 227 ls st σ k = (oR st fun x st => kd σ x = 13 ∧ xk_X12_tick ct K R n 230 ls (vr (fR σ 1319 x) :: st) σ k) ∧
  xe_X12_tick ct K R (n + 1) 230 ls st σ k = (lI ls 2 fun x => xk_X12_tick ct K R n 231 ls (vi x :: st) σ k) ∧
  xe_X12_tick ct K R (n + 1) 231 ls st σ k = (o1 st fun v st => o1 st fun u st => xk_X12_tick ct K R n 232 ls (v :: u :: v :: u :: st) σ k) ∧
  xe_X12_tick ct K R (n + 1) 232 ls st σ k = (oI st fun j st => oR st fun x st => (kd σ x = 101 ∨ kd σ x = 108) ∧ (0 ≤ j ∧ j < ln σ x) ∧ xk_X12_tick ct K R n 233 ls (vi (aI σ x j) :: st) σ k) ∧
  xe_X12_tick ct K R (n + 1) 233 ls st σ k = (xk_X12_tick ct K R n 234 ls (vi (1) :: st) σ k) ∧
  xe_X12_tick ct K R (n + 1) 234 ls st σ k = (oI st fun y st => oI st fun x st => xk_X12_tick ct K R n 235 ls (vi (x + y) :: st) σ k) ∧
  xe_X12_tick ct K R (n + 1) 235 ls st σ k = (oI st fun v st => oI st fun j st => oR st fun x st => kd σ x = 101 ∧ (0 ≤ j ∧ j < ln σ x) ∧ xk_X12_tick ct K R n 236 ls st (qI σ x j v) k) ∧
  xe_X12_tick ct K R (n + 1) 236 ls st σ k = (lI ls 2 fun x => 2 < 7 ∧ xk_X12_tick ct K R n 239 (stL ls 2 (vi (x + (1)))) st σ k) ∧
  xe_X12_tick ct K R (n + 1) 239 ls st σ k = (xk_X12_tick ct K R n 2 ls st σ k) ∧
  xe_X12_tick ct K R (n + 1) 242 ls st σ k = (st = [] ∧ 0 = 0 ∧ R none σ) :=
  ⟨exS_step.trans rfl, exS_step.trans rfl, exS_step.trans rfl, exS_step.trans rfl, exS_step.trans rfl, exS_step.trans rfl, exS_step.trans rfl, exS_step.trans rfl, exS_step.trans rfl, exS_step.trans rfl, exS_step.trans rfl, exS_step.trans rfl, exS_step.trans rfl, exS_step.trans rfl, exS_step.trans rfl, exS_step.trans rfl, exS_step.trans rfl, exS_step.trans rfl, exS_step.trans rfl, exS_step.trans rfl, exS_step.trans rfl, exS_step.trans rfl, exS_step.trans rfl, exS_step.trans rfl, exS_step.trans rfl, exS_step.trans rfl, exS_step.trans rfl, exS_step.trans rfl, exS_step.trans rfl, exS_step.trans rfl, exS_step.trans rfl, exS_step.trans rfl, exS_step.trans rfl, exS_step.trans rfl, exS_step.trans rfl, exS_step.trans rfl, exS_step.trans rfl, exS_step.trans rfl, exS_step.trans rfl, exS_step.trans rfl, exS_step.trans rfl, exS_step.trans rfl, exS_step.trans rfl, exS_step.trans rfl, exS_step.trans rfl, exS_step.trans rfl, exS_step.trans rfl, exS_step.trans rfl, exS_step.trans rfl, exS_step.trans rfl, exS_step.trans rfl, exS_step.trans rfl, exS_step.trans rfl, exS_step.trans rfl, exS_step.trans rfl, exS_step.trans rfl, exS_step.trans rfl, exS_step.trans rfl, exS_step.trans rfl, exS_step.trans rfl, exS_step.trans rfl, exS_step.trans rfl, exS_step.trans rfl, exS_step.trans rfl, exS_step.trans rfl, exS_step.trans rfl, exS_step.trans rfl, exS_step.trans rfl, exS_step.trans rfl, exS_step.trans rfl, exS_step.trans rfl, exS_step.trans rfl, exS_step.trans rfl, exS_step.trans rfl, exS_step.trans rfl, exS_step.trans rfl, exS_step.trans rfl, exS_step.trans rfl, exS_step.trans rfl, exS_step.trans rfl, exS_step.trans rfl, exS_step.trans rfl, exS_step.trans rfl, exS_step.trans rfl, exS_step.trans rfl, exS_step.trans rfl, exS_step.trans rfl, exS_step.trans rfl, exS_step.trans rfl, exS_step.trans rfl, exS_step.trans rfl, exS_step.trans rfl, exS_step.trans rfl, exS_step.trans rfl, exS_step.trans rfl, exS_step.trans rfl, exS_step.trans rfl, exS_step.trans rfl, exS_step.trans rfl, exS_step.trans rfl, exS_step.trans rfl, exS_step.trans rfl, exS_step.trans rfl, exS_step.trans rfl, exS_step.trans rfl, exS_step.trans rfl, exS_step.trans rfl, exS_step.trans rfl, exS_step.trans rfl, exS_step.trans rfl, exS_step.trans rfl, exS_step.trans rfl, exS_step.trans rfl, exS_step.trans rfl, exS_step.trans rfl, exS_step.trans rfl, exS_step.trans rfl, exS_step.trans rfl, exS_step.trans rfl, exS_step.trans rfl, exS_step.trans rfl, exS_step.trans rfl, exS_step.trans rfl, exS_step.trans rfl, exS_step.trans rfl, exS_step.trans rfl, exS_step.trans rfl, exS_step.trans rfl, exS_step.trans rfl, exS_step.trans rfl, exS_step.trans rfl, exS_step.trans rfl, exS_step.trans rfl, exS_step.trans rfl, exS_step.trans rfl, exS_step.trans rfl, exS_step.trans rfl, exS_step.trans rfl, exS_step.trans rfl, exS_step.trans rfl⟩
def M_X12_tick : Md := (yX12_tick, cX12_tick, 7, (none : Option FieldType), 4, 0, 0, 0, false, tb_X12_tick, mt_X12_tick)
theorem mm_X12_tick : MMOK M_X12_tick := ⟨by decide +kernel, tk_X12_tick, mk_X12_tick, rfl, fun h => by cases h⟩
theorem go_X12_tick {Q : Option AV → Hp → Prop} {ct : Nat → Bool} {pc : Nat} {ls : List (Option AV)} {st : List AV} {σ : Hp} {k : Nat × Nat} (n : Nat) (h : xe_X12_tick ct (Go M_X12_tick Q) Q n pc ls st σ k) : Go M_X12_tick Q pc ls st σ k := Go.exS mm_X12_tick h

set_option maxRecDepth 20000 in
theorem tick_189 {Q : Option AV → Hp → Prop} {t : Int} {l : Nat} {ρ : Hp} (ht : 1 ≤ t ∧ t ≤ 999999) (hk : kd ρ 61 = 13) (hR : MI ρ) (hl : l < 4) (htl2 : aI ρ 78 l < 1000000)
    (ih : ∀ a3 a4 a5 a6 : Option AV, Go M_X12_tick Q 2 [some (vr 61), some (vi t), some (vi (l + 1)), a3, a4, a5, a6] [] (mSt2 ρ l t) (0, 0))
    (a3 a6 : Option AV) (x4 : Int) (p : Prop) (hp : p ↔ mHear ρ l t (aI ρ 74 l)) : Go M_X12_tick Q 189 [some (vr 61), some (vi t), some (vi l), a3, some (vi x4), some (vi (b2i p)), a6] [] ρ (0, 0) := by
  have htp2 := hR.taped_ l
  have ih := ih a3 (some (vi x4)) (some (vi (b2i p))) a6
  unfold mSt2 at ih
  refine go_X12_tick (ct := fun p => p == 2 || p == 15 || p == 121) 60 ?_
  simp only [oI, oL, oR, o1, lI, lL, lR, popN, catS, gv, stL, stL2, swt, cnd, spObj, List.getElem?_cons_zero, List.getElem?_cons_succ, List.getD_cons_zero, List.getD_cons_succ, List.set_cons_zero, List.set_cons_succ, List.nil_append, List.cons_append, Option.toList, Bool.or_false, Bool.false_or, Bool.or_true, Bool.true_or, Nat.reduceBEq, Nat.reduceAdd, Nat.reduceLT, Nat.reduceLeDiff, Int.reduceAdd, Int.reduceToNat, true_and, and_true, Fin.isValue, Fin.val_zero, Fin.val_one, Fin.val_two, Fin.reduceFinMk, eq_self, Int.reduceNeg, imp_self, Nat.reduceMul, Nat.le_refl, not_true_eq_false, not_false_eq_true, List.getElem?_nil, reduceCtorEq, true_or, or_true, Classical.not_not, implies_true, or_self, wI_0, wI_1, wI_m1, b2i_w, b2i_eq0, b2i_eq1, b2i_bool, nor_self, nx_pI, kd_pI, ln_pI, fI_pI, fL_pI, fR_pI, aI_pI, aL_pI, aR_pI, nx_pL, kd_pL, ln_pL, fI_pL, fL_pL, fR_pL, aI_pL, aL_pL, aR_pL, nx_pR, kd_pR, ln_pR, fI_pR, fL_pR, fR_pR, aI_pR, aL_pR, aR_pR, nx_qI, kd_qI, ln_qI, fI_qI, fL_qI, fR_qI, aI_qI, aL_qI, aR_qI, nx_qL, kd_qL, ln_qL, fI_qL, fL_qL, fR_qL, aI_qL, aL_qL, aR_qL, nx_qR, kd_qR, ln_qR, fI_qR, fL_qR, fR_qR, aI_qR, aL_qR, aR_qR, nx_mk, kd_mk, ln_mk, fI_mk, fL_mk, fR_mk, aI_mk, aL_mk, aR_mk, false_and, and_false, if_false, if_true, and_self, Int.reduceEq, Nat.reduceEqDiff, ite_self, MLay_pI, MLay_pL, MLay_qI, MLay_qL, ev_X12_tick, xt_X12_tick, xf_X12_tick, us_X12_goesOn, us_X12_knocksAt, us_X12_isDumb, hk, hR.lay.eqs]
  try simp (disch := omega) only [wI_id, dv_nn, rm_nn]
  repeat' (first | intro z | apply And.intro)
  all_goals try omega
  · rw [if_pos (b2i_t (hp.mp ‹p›))] at ih
    exact ih
  · rw [if_neg (by rw [b2i_f (fun q => ‹¬ p› (hp.mpr q))]; decide)] at ih; exact ih

set_option maxRecDepth 20000 in
theorem tick_121 {Q : Option AV → Hp → Prop} {t : Int} {l : Nat} {ρ : Hp} (ht : 1 ≤ t ∧ t ≤ 999999) (hk : kd ρ 61 = 13) (hR : MI ρ) (hl : l < 4) (htl2 : aI ρ 78 l < 1000000)
    (ih : ∀ a3 a4 a5 a6 : Option AV, Go M_X12_tick Q 2 [some (vr 61), some (vi t), some (vi (l + 1)), a3, a4, a5, a6] [] (mSt2 ρ l t) (0, 0)) :
    ∀ (n k : Nat) (a3 : Option AV) (x4 : Int), (k : Int) + n = aI ρ 74 l → Go M_X12_tick Q 121 [some (vr 61), some (vi t), some (vi l), a3, some (vi x4), some (vi (b2i (mHear ρ l t k))), some (vi k)] [] ρ (0, 0) := by
  have hm2 := hR.many_ l
  have w189 := tick_189 ht hk hR hl htl2 ih
  intro n
  induction n with
  | zero =>
    intro k a3 x4 hk2
    have ek : (k : Int) = aI ρ 74 l := by omega
    rw [ek]
    refine go_X12_tick (ct := fun p => p == 2 || p == 15 || p == 121 || p == 189) 60 ?_
    simp only [oI, oL, oR, o1, lI, lL, lR, popN, catS, gv, stL, stL2, swt, cnd, spObj, List.getElem?_cons_zero, List.getElem?_cons_succ, List.getD_cons_zero, List.getD_cons_succ, List.set_cons_zero, List.set_cons_succ, List.nil_append, List.cons_append, Option.toList, Bool.or_false, Bool.false_or, Bool.or_true, Bool.true_or, Nat.reduceBEq, Nat.reduceAdd, Nat.reduceLT, Nat.reduceLeDiff, Int.reduceAdd, Int.reduceToNat, true_and, and_true, Fin.isValue, Fin.val_zero, Fin.val_one, Fin.val_two, Fin.reduceFinMk, eq_self, Int.reduceNeg, imp_self, Nat.reduceMul, Nat.le_refl, not_true_eq_false, not_false_eq_true, List.getElem?_nil, reduceCtorEq, true_or, or_true, Classical.not_not, implies_true, or_self, wI_0, wI_1, wI_m1, b2i_w, b2i_eq0, b2i_eq1, b2i_bool, nor_self, nx_pI, kd_pI, ln_pI, fI_pI, fL_pI, fR_pI, aI_pI, aL_pI, aR_pI, nx_pL, kd_pL, ln_pL, fI_pL, fL_pL, fR_pL, aI_pL, aL_pL, aR_pL, nx_pR, kd_pR, ln_pR, fI_pR, fL_pR, fR_pR, aI_pR, aL_pR, aR_pR, nx_qI, kd_qI, ln_qI, fI_qI, fL_qI, fR_qI, aI_qI, aL_qI, aR_qI, nx_qL, kd_qL, ln_qL, fI_qL, fL_qL, fR_qL, aI_qL, aL_qL, aR_qL, nx_qR, kd_qR, ln_qR, fI_qR, fL_qR, fR_qR, aI_qR, aL_qR, aR_qR, nx_mk, kd_mk, ln_mk, fI_mk, fL_mk, fR_mk, aI_mk, aL_mk, aR_mk, false_and, and_false, if_false, if_true, and_self, Int.reduceEq, Nat.reduceEqDiff, ite_self, MLay_pI, MLay_pL, MLay_qI, MLay_qL, ev_X12_tick, xt_X12_tick, xf_X12_tick, us_X12_goesOn, us_X12_knocksAt, us_X12_isDumb, hk, hR.lay.eqs]
    try simp (disch := omega) only [wI_id, dv_nn, rm_nn]
    refine ⟨by omega, fun _ => w189 _ _ _ _ Iff.rfl, fun z => absurd (Int.le_refl _) z⟩
  | succ n ihn =>
    intro k a3 x4 hk2
    have hbx := hR.boxAt_ (12 * l + k)
    have ihn := ihn (k + 1) a3 x4 (by omega)
    simp only [Int.natCast_add, Int.cast_ofNat_Int] at ihn
    refine go_X12_tick (ct := fun p => p == 2 || p == 15 || p == 121 || p == 189) 60 ?_
    simp only [oI, oL, oR, o1, lI, lL, lR, popN, catS, gv, stL, stL2, swt, cnd, spObj, List.getElem?_cons_zero, List.getElem?_cons_succ, List.getD_cons_zero, List.getD_cons_succ, List.set_cons_zero, List.set_cons_succ, List.nil_append, List.cons_append, Option.toList, Bool.or_false, Bool.false_or, Bool.or_true, Bool.true_or, Nat.reduceBEq, Nat.reduceAdd, Nat.reduceLT, Nat.reduceLeDiff, Int.reduceAdd, Int.reduceToNat, true_and, and_true, Fin.isValue, Fin.val_zero, Fin.val_one, Fin.val_two, Fin.reduceFinMk, eq_self, Int.reduceNeg, imp_self, Nat.reduceMul, Nat.le_refl, not_true_eq_false, not_false_eq_true, List.getElem?_nil, reduceCtorEq, true_or, or_true, Classical.not_not, implies_true, or_self, wI_0, wI_1, wI_m1, b2i_w, b2i_eq0, b2i_eq1, b2i_bool, nor_self, nx_pI, kd_pI, ln_pI, fI_pI, fL_pI, fR_pI, aI_pI, aL_pI, aR_pI, nx_pL, kd_pL, ln_pL, fI_pL, fL_pL, fR_pL, aI_pL, aL_pL, aR_pL, nx_pR, kd_pR, ln_pR, fI_pR, fL_pR, fR_pR, aI_pR, aL_pR, aR_pR, nx_qI, kd_qI, ln_qI, fI_qI, fL_qI, fR_qI, aI_qI, aL_qI, aR_qI, nx_qL, kd_qL, ln_qL, fI_qL, fL_qL, fR_qL, aI_qL, aL_qL, aR_qL, nx_qR, kd_qR, ln_qR, fI_qR, fL_qR, fR_qR, aI_qR, aL_qR, aR_qR, nx_mk, kd_mk, ln_mk, fI_mk, fL_mk, fR_mk, aI_mk, aL_mk, aR_mk, false_and, and_false, if_false, if_true, and_self, Int.reduceEq, Nat.reduceEqDiff, ite_self, MLay_pI, MLay_pL, MLay_qI, MLay_qL, ev_X12_tick, xt_X12_tick, xf_X12_tick, us_X12_goesOn, us_X12_knocksAt, us_X12_isDumb, hk, hR.lay.eqs, hR]
    try simp (disch := omega) only [wI_id, dv_nn, rm_nn]
    refine ⟨by omega, fun z => absurd z (by omega), fun _ => ⟨fun z => w189 _ _ _ _ ⟨fun q => bE_le (by omega) q, fun _ => z⟩, fun z => ⟨by omega, by omega, by omega, fun z2 => ?_, fun z2 => ⟨by omega, by omega, fun z3 => ?_, fun z3 => ?_⟩⟩⟩⟩
    · unfold mHear at ihn
      rw [b2i_sF (by omega) (fun q => z2 q.1), b2i_f (p := bE k _) z] at ihn; exact ihn
    · unfold mHear at ihn
      rw [b2i_sF (by omega) (fun q => q.2 z3), b2i_f (p := bE k _) z] at ihn; exact ihn
    · unfold mHear at ihn
      rw [b2i_sT (by omega) ⟨z2, z3⟩] at ihn; exact ihn

set_option maxRecDepth 20000 in
theorem tick_77 {Q : Option AV → Hp → Prop} {t : Int} {l : Nat} {τ : Hp} (ht : 1 ≤ t ∧ t ≤ 999999) (hk : kd τ 61 = 13) (hT : MI τ) (hl : l < 4) (htl : aI τ 78 l < 1000000)
    (ih : ∀ a3 a4 a5 a6 : Option AV, Go M_X12_tick Q 2 [some (vr 61), some (vi t), some (vi (l + 1)), a3, a4, a5, a6] [] (mSt2 (mSt1 τ l t) l t) (0, 0))
    (a5 a6 : Option AV) : Go M_X12_tick Q 77 [some (vr 61), some (vi t), some (vi l), some (vi (b2i (mBusy τ l t (aI τ 74 l)))), some (vi (mWhich τ l (aI τ 74 l).toNat)), a5, a6] [] τ (0, 0) := by
  have hR := MI_mSt1 hT (l := l) (t := t) (by omega)
  have htl2 : aI (mSt1 τ l t) 78 l < 1000000 := by rw [taped_mSt1]; exact htl
  have hk2 : kd (mSt1 τ l t) 61 = 13 := hR.lay.1
  have hw := mWhich_in hT l (aI τ 74 l).toNat
  have hlk := hT.lastKnock_ l
  have hm2 := hR.many_ l
  have p2 := fun a3 x4 => tick_121 ht hk2 hR hl htl2 ih (aI (mSt1 τ l t) 74 l).toNat 0 a3 x4 (by omega)
  simp only [mHear, Int.cast_ofNat_Int, b2i_E0] at p2
  unfold mSt1 at p2
  refine go_X12_tick (ct := fun p => p == 2 || p == 15 || p == 121) 60 ?_
  simp only [oI, oL, oR, o1, lI, lL, lR, popN, catS, gv, stL, stL2, swt, cnd, spObj, List.getElem?_cons_zero, List.getElem?_cons_succ, List.getD_cons_zero, List.getD_cons_succ, List.set_cons_zero, List.set_cons_succ, List.nil_append, List.cons_append, Option.toList, Bool.or_false, Bool.false_or, Bool.or_true, Bool.true_or, Nat.reduceBEq, Nat.reduceAdd, Nat.reduceLT, Nat.reduceLeDiff, Int.reduceAdd, Int.reduceToNat, true_and, and_true, Fin.isValue, Fin.val_zero, Fin.val_one, Fin.val_two, Fin.reduceFinMk, eq_self, Int.reduceNeg, imp_self, Nat.reduceMul, Nat.le_refl, not_true_eq_false, not_false_eq_true, List.getElem?_nil, reduceCtorEq, true_or, or_true, Classical.not_not, implies_true, or_self, wI_0, wI_1, wI_m1, b2i_w, b2i_eq0, b2i_eq1, b2i_bool, nor_self, nx_pI, kd_pI, ln_pI, fI_pI, fL_pI, fR_pI, aI_pI, aL_pI, aR_pI, nx_pL, kd_pL, ln_pL, fI_pL, fL_pL, fR_pL, aI_pL, aL_pL, aR_pL, nx_pR, kd_pR, ln_pR, fI_pR, fL_pR, fR_pR, aI_pR, aL_pR, aR_pR, nx_qI, kd_qI, ln_qI, fI_qI, fL_qI, fR_qI, aI_qI, aL_qI, aR_qI, nx_qL, kd_qL, ln_qL, fI_qL, fL_qL, fR_qL, aI_qL, aL_qL, aR_qL, nx_qR, kd_qR, ln_qR, fI_qR, fL_qR, fR_qR, aI_qR, aL_qR, aR_qR, nx_mk, kd_mk, ln_mk, fI_mk, fL_mk, fR_mk, aI_mk, aL_mk, aR_mk, false_and, and_false, if_false, if_true, and_self, Int.reduceEq, Nat.reduceEqDiff, ite_self, MLay_pI, MLay_pL, MLay_qI, MLay_qL, ev_X12_tick, xt_X12_tick, xf_X12_tick, us_X12_goesOn, us_X12_knocksAt, us_X12_isDumb, hk, hT.lay.eqs]
  try simp (disch := omega) only [wI_id, dv_nn, rm_nn]
  refine ⟨fun z => ?_, fun z => ⟨fun z2 => ?_, fun z2 => ⟨by omega, fun z3 => ?_, fun z3 => ⟨by omega, by omega, ?_⟩⟩⟩⟩
  · simp only [if_neg (show ¬ (0 ≤ mWhich τ l (aI τ 74 l).toNat ∧ b2i (mBusy τ l t (aI τ 74 l)) = 0 ∧ 7 < t - aI τ 77 l) from fun q => by omega)] at p2
    exact p2 _ _
  · simp only [if_neg (show ¬ (0 ≤ mWhich τ l (aI τ 74 l).toNat ∧ b2i (mBusy τ l t (aI τ 74 l)) = 0 ∧ 7 < t - aI τ 77 l) from fun q => by rw [b2i_t z2] at q; omega)] at p2
    exact p2 _ _
  · simp only [if_neg (show ¬ (0 ≤ mWhich τ l (aI τ 74 l).toNat ∧ b2i (mBusy τ l t (aI τ 74 l)) = 0 ∧ 7 < t - aI τ 77 l) from fun q => by omega)] at p2
    exact p2 _ _
  · simp only [if_pos (show (0 ≤ mWhich τ l (aI τ 74 l).toNat ∧ b2i (mBusy τ l t (aI τ 74 l)) = 0 ∧ 7 < t - aI τ 77 l) from ⟨by omega, b2i_f z2, by omega⟩)] at p2
    exact p2 _ _

set_option maxRecDepth 20000 in
theorem tick_15 {Q : Option AV → Hp → Prop} {t : Int} {l : Nat} {τ : Hp} (ht : 1 ≤ t ∧ t ≤ 999999) (hk : kd τ 61 = 13) (hT : MI τ) (hl : l < 4) (htl : aI τ 78 l < 1000000)
    (ih : ∀ a3 a4 a5 a6 : Option AV, Go M_X12_tick Q 2 [some (vr 61), some (vi t), some (vi (l + 1)), a3, a4, a5, a6] [] (mSt2 (mSt1 τ l t) l t) (0, 0)) :
    ∀ (n k : Nat) (a6 : Option AV), (k : Int) + n = aI τ 74 l → Go M_X12_tick Q 15 [some (vr 61), some (vi t), some (vi l), some (vi (b2i (mBusy τ l t k))), some (vi (mWhich τ l k)), some (vi k), a6] [] τ (0, 0) := by
  have hm := hT.many_ l
  intro n
  induction n with
  | zero =>
    intro k a6 hk2
    have ek : (k : Int) = aI τ 74 l := by omega
    have ek2 : (aI τ 74 l).toNat = k := by omega
    have w := tick_77 ht hk hT hl htl ih (some (vi k)) a6
    rw [ek2, ← ek] at w
    refine go_X12_tick (ct := fun p => p == 2 || p == 15 || p == 77 || p == 121) 60 ?_
    simp only [oI, oL, oR, o1, lI, lL, lR, popN, catS, gv, stL, stL2, swt, cnd, spObj, List.getElem?_cons_zero, List.getElem?_cons_succ, List.getD_cons_zero, List.getD_cons_succ, List.set_cons_zero, List.set_cons_succ, List.nil_append, List.cons_append, Option.toList, Bool.or_false, Bool.false_or, Bool.or_true, Bool.true_or, Nat.reduceBEq, Nat.reduceAdd, Nat.reduceLT, Nat.reduceLeDiff, Int.reduceAdd, Int.reduceToNat, true_and, and_true, Fin.isValue, Fin.val_zero, Fin.val_one, Fin.val_two, Fin.reduceFinMk, eq_self, Int.reduceNeg, imp_self, Nat.reduceMul, Nat.le_refl, not_true_eq_false, not_false_eq_true, List.getElem?_nil, reduceCtorEq, true_or, or_true, Classical.not_not, implies_true, or_self, wI_0, wI_1, wI_m1, b2i_w, b2i_eq0, b2i_eq1, b2i_bool, nor_self, nx_pI, kd_pI, ln_pI, fI_pI, fL_pI, fR_pI, aI_pI, aL_pI, aR_pI, nx_pL, kd_pL, ln_pL, fI_pL, fL_pL, fR_pL, aI_pL, aL_pL, aR_pL, nx_pR, kd_pR, ln_pR, fI_pR, fL_pR, fR_pR, aI_pR, aL_pR, aR_pR, nx_qI, kd_qI, ln_qI, fI_qI, fL_qI, fR_qI, aI_qI, aL_qI, aR_qI, nx_qL, kd_qL, ln_qL, fI_qL, fL_qL, fR_qL, aI_qL, aL_qL, aR_qL, nx_qR, kd_qR, ln_qR, fI_qR, fL_qR, fR_qR, aI_qR, aL_qR, aR_qR, nx_mk, kd_mk, ln_mk, fI_mk, fL_mk, fR_mk, aI_mk, aL_mk, aR_mk, false_and, and_false, if_false, if_true, and_self, Int.reduceEq, Nat.reduceEqDiff, ite_self, MLay_pI, MLay_pL, MLay_qI, MLay_qL, ev_X12_tick, xt_X12_tick, xf_X12_tick, us_X12_goesOn, us_X12_knocksAt, us_X12_isDumb, hk, hT.lay.eqs]
    rw [← ek]
    try simp (disch := omega) only [wI_id, dv_nn, rm_nn]
    exact ⟨by omega, fun _ => w, fun z => absurd (Int.le_refl _) z⟩
  | succ n ihn =>
    intro k a6 hk2
    have hbx := hT.boxAt_ (12 * l + k)
    have hwt := hT.waits_ (aI τ 75 (12 * l + k))
    have hw := mWhich_in hT l k
    have ihn := fun a6 => ihn (k + 1) a6 (by omega)
    simp only [Int.natCast_add, Int.cast_ofNat_Int, mWhich, mBusy] at ihn
    refine go_X12_tick (ct := fun p => p == 2 || p == 15 || p == 77 || p == 121) 60 ?_
    simp only [oI, oL, oR, o1, lI, lL, lR, popN, catS, gv, stL, stL2, swt, cnd, spObj, List.getElem?_cons_zero, List.getElem?_cons_succ, List.getD_cons_zero, List.getD_cons_succ, List.set_cons_zero, List.set_cons_succ, List.nil_append, List.cons_append, Option.toList, Bool.or_false, Bool.false_or, Bool.or_true, Bool.true_or, Nat.reduceBEq, Nat.reduceAdd, Nat.reduceLT, Nat.reduceLeDiff, Int.reduceAdd, Int.reduceToNat, true_and, and_true, Fin.isValue, Fin.val_zero, Fin.val_one, Fin.val_two, Fin.reduceFinMk, eq_self, Int.reduceNeg, imp_self, Nat.reduceMul, Nat.le_refl, not_true_eq_false, not_false_eq_true, List.getElem?_nil, reduceCtorEq, true_or, or_true, Classical.not_not, implies_true, or_self, wI_0, wI_1, wI_m1, b2i_w, b2i_eq0, b2i_eq1, b2i_bool, nor_self, nx_pI, kd_pI, ln_pI, fI_pI, fL_pI, fR_pI, aI_pI, aL_pI, aR_pI, nx_pL, kd_pL, ln_pL, fI_pL, fL_pL, fR_pL, aI_pL, aL_pL, aR_pL, nx_pR, kd_pR, ln_pR, fI_pR, fL_pR, fR_pR, aI_pR, aL_pR, aR_pR, nx_qI, kd_qI, ln_qI, fI_qI, fL_qI, fR_qI, aI_qI, aL_qI, aR_qI, nx_qL, kd_qL, ln_qL, fI_qL, fL_qL, fR_qL, aI_qL, aL_qL, aR_qL, nx_qR, kd_qR, ln_qR, fI_qR, fL_qR, fR_qR, aI_qR, aL_qR, aR_qR, nx_mk, kd_mk, ln_mk, fI_mk, fL_mk, fR_mk, aI_mk, aL_mk, aR_mk, false_and, and_false, if_false, if_true, and_self, Int.reduceEq, Nat.reduceEqDiff, ite_self, MLay_pI, MLay_pL, MLay_qI, MLay_qL, ev_X12_tick, xt_X12_tick, xf_X12_tick, us_X12_goesOn, us_X12_knocksAt, us_X12_isDumb, hk, hT.lay.eqs, hT]
    try simp (disch := omega) only [wI_id, dv_nn, rm_nn]
    simp only [mBusy]
    repeat' (first | intro z | apply And.intro)
    all_goals try omega
    · have w := ihn (some (vi (aI τ 75 (12 * l + k))))
      have e : (if 0 ≤ mWhich τ l k then mWhich τ l k else if aI τ 70 (aI τ 75 (12 * l + k)) = 0 then -1 else aI τ 75 (12 * l + k)) = mWhich τ l k := by
        rw [if_pos ‹aI τ 70 _ = 0›]
        split
        · rfl
        · omega
      rw [b2i_sF (P := fun k => mGo τ (aI τ 75 (12 * l + k)) t) (by omega) ‹¬ mGo τ _ t›, e] at w; exact w
    · have w := ihn (some (vi (aI τ 75 (12 * l + k))))
      rw [b2i_sF (P := fun k => mGo τ (aI τ 75 (12 * l + k)) t) (by omega) ‹¬ mGo τ _ t›, if_pos ‹0 ≤ mWhich τ l k›] at w; exact w
    · have w := ihn (some (vi (aI τ 75 (12 * l + k))))
      rw [b2i_sF (P := fun k => mGo τ (aI τ 75 (12 * l + k)) t) (by omega) ‹¬ mGo τ _ t›, if_neg ‹¬ 0 ≤ mWhich τ l k›, if_neg ‹¬ aI τ 70 _ = 0›] at w; exact w
    · have w := ihn (some (vi (aI τ 75 (12 * l + k))))
      have e : (if 0 ≤ mWhich τ l k then mWhich τ l k else if aI τ 70 (aI τ 75 (12 * l + k)) = 0 then -1 else aI τ 75 (12 * l + k)) = mWhich τ l k := by
        rw [if_pos ‹aI τ 70 _ = 0›]
        split
        · rfl
        · omega
      rw [b2i_sT (P := fun k => mGo τ (aI τ 75 (12 * l + k)) t) (by omega) ‹mGo τ _ t›, e] at w; exact w
    · have w := ihn (some (vi (aI τ 75 (12 * l + k))))
      rw [b2i_sT (P := fun k => mGo τ (aI τ 75 (12 * l + k)) t) (by omega) ‹mGo τ _ t›, if_pos ‹0 ≤ mWhich τ l k›] at w; exact w
    · have w := ihn (some (vi (aI τ 75 (12 * l + k))))
      rw [b2i_sT (P := fun k => mGo τ (aI τ 75 (12 * l + k)) t) (by omega) ‹mGo τ _ t›, if_neg ‹¬ 0 ≤ mWhich τ l k›, if_neg ‹¬ aI τ 70 _ = 0›] at w; exact w

set_option maxRecDepth 20000 in
theorem tick_2 {Q : Option AV → Hp → Prop} {t : Int} {σ : Hp} (ht : 1 ≤ t ∧ t ≤ 999999) (hI : MI σ) (htp : ∀ j, aI σ 78 j < 1000000) (h : Q none (mTk σ t 4)) :
    ∀ (n l : Nat) (a3 a4 a5 a6 : Option AV), l + n = 4 → Go M_X12_tick Q 2 [some (vr 61), some (vi t), some (vi l), a3, a4, a5, a6] [] (mTk σ t l) (0, 0) := by
  intro n
  induction n with
  | zero =>
    intro l a3 a4 a5 a6 hl
    have e : l = 4 := by omega
    subst e
    refine go_X12_tick (ct := fun p => p == 2 || p == 15 || p == 121) 60 ?_
    simp only [oI, oL, oR, o1, lI, lL, lR, popN, catS, gv, stL, stL2, swt, cnd, spObj, List.getElem?_cons_zero, List.getElem?_cons_succ, List.getD_cons_zero, List.getD_cons_succ, List.set_cons_zero, List.set_cons_succ, List.nil_append, List.cons_append, Option.toList, Bool.or_false, Bool.false_or, Bool.or_true, Bool.true_or, Nat.reduceBEq, Nat.reduceAdd, Nat.reduceLT, Nat.reduceLeDiff, Int.reduceAdd, Int.reduceToNat, true_and, and_true, Fin.isValue, Fin.val_zero, Fin.val_one, Fin.val_two, Fin.reduceFinMk, eq_self, Int.reduceNeg, imp_self, Nat.reduceMul, Nat.le_refl, not_true_eq_false, not_false_eq_true, List.getElem?_nil, reduceCtorEq, true_or, or_true, Classical.not_not, implies_true, or_self, wI_0, wI_1, wI_m1, b2i_w, b2i_eq0, b2i_eq1, b2i_bool, nor_self, nx_pI, kd_pI, ln_pI, fI_pI, fL_pI, fR_pI, aI_pI, aL_pI, aR_pI, nx_pL, kd_pL, ln_pL, fI_pL, fL_pL, fR_pL, aI_pL, aL_pL, aR_pL, nx_pR, kd_pR, ln_pR, fI_pR, fL_pR, fR_pR, aI_pR, aL_pR, aR_pR, nx_qI, kd_qI, ln_qI, fI_qI, fL_qI, fR_qI, aI_qI, aL_qI, aR_qI, nx_qL, kd_qL, ln_qL, fI_qL, fL_qL, fR_qL, aI_qL, aL_qL, aR_qL, nx_qR, kd_qR, ln_qR, fI_qR, fL_qR, fR_qR, aI_qR, aL_qR, aR_qR, nx_mk, kd_mk, ln_mk, fI_mk, fL_mk, fR_mk, aI_mk, aL_mk, aR_mk, false_and, and_false, if_false, if_true, and_self, Int.reduceEq, Nat.reduceEqDiff, ite_self, MLay_pI, MLay_pL, MLay_qI, MLay_qL, ev_X12_tick, xt_X12_tick, xf_X12_tick, us_X12_goesOn, us_X12_knocksAt, us_X12_isDumb, Int.cast_ofNat_Int, Int.le_refl]
    exact ⟨fun _ => h, fun z => z.elim⟩
  | succ n ih =>
    intro l a3 a4 a5 a6 hl
    have ih := fun a3 a4 a5 a6 => ih (l + 1) a3 a4 a5 a6 (by omega)
    have hT := MI_mTk hI (t := t) (by omega) htp l
    have htl : aI (mTk σ t l) 78 l < 1000000 := by rw [taped_mTk σ t l l (by omega)]; exact htp l
    have hk : kd (mTk σ t l) 61 = 13 := hT.lay.1
    have hm := hT.many_ l
    simp only [mTk, mStep, Int.natCast_add, Int.cast_ofNat_Int] at ih
    have w := fun a6 => tick_15 ht hk hT (by omega) htl ih (aI (mTk σ t l) 74 l).toNat 0 a6 (by omega)
    simp only [mBusy, mWhich, Int.cast_ofNat_Int, b2i_E0] at w
    refine go_X12_tick (ct := fun p => p == 2 || p == 15 || p == 121) 60 ?_
    simp only [oI, oL, oR, o1, lI, lL, lR, popN, catS, gv, stL, stL2, swt, cnd, spObj, List.getElem?_cons_zero, List.getElem?_cons_succ, List.getD_cons_zero, List.getD_cons_succ, List.set_cons_zero, List.set_cons_succ, List.nil_append, List.cons_append, Option.toList, Bool.or_false, Bool.false_or, Bool.or_true, Bool.true_or, Nat.reduceBEq, Nat.reduceAdd, Nat.reduceLT, Nat.reduceLeDiff, Int.reduceAdd, Int.reduceToNat, true_and, and_true, Fin.isValue, Fin.val_zero, Fin.val_one, Fin.val_two, Fin.reduceFinMk, eq_self, Int.reduceNeg, imp_self, Nat.reduceMul, Nat.le_refl, not_true_eq_false, not_false_eq_true, List.getElem?_nil, reduceCtorEq, true_or, or_true, Classical.not_not, implies_true, or_self, wI_0, wI_1, wI_m1, b2i_w, b2i_eq0, b2i_eq1, b2i_bool, nor_self, nx_pI, kd_pI, ln_pI, fI_pI, fL_pI, fR_pI, aI_pI, aL_pI, aR_pI, nx_pL, kd_pL, ln_pL, fI_pL, fL_pL, fR_pL, aI_pL, aL_pL, aR_pL, nx_pR, kd_pR, ln_pR, fI_pR, fL_pR, fR_pR, aI_pR, aL_pR, aR_pR, nx_qI, kd_qI, ln_qI, fI_qI, fL_qI, fR_qI, aI_qI, aL_qI, aR_qI, nx_qL, kd_qL, ln_qL, fI_qL, fL_qL, fR_qL, aI_qL, aL_qL, aR_qL, nx_qR, kd_qR, ln_qR, fI_qR, fL_qR, fR_qR, aI_qR, aL_qR, aR_qR, nx_mk, kd_mk, ln_mk, fI_mk, fL_mk, fR_mk, aI_mk, aL_mk, aR_mk, false_and, and_false, if_false, if_true, and_self, Int.reduceEq, Nat.reduceEqDiff, ite_self, MLay_pI, MLay_pL, MLay_qI, MLay_qL, ev_X12_tick, xt_X12_tick, xf_X12_tick, us_X12_goesOn, us_X12_knocksAt, us_X12_isDumb, hk, hT.lay.eqs]
    try simp (disch := omega) only [wI_id, dv_nn, rm_nn]
    repeat' (first | intro z | apply And.intro)
    all_goals try omega
    exact w _

set_option maxRecDepth 20000 in
theorem c_X12_tick : Ct yX12_tick cX12_tick 7 ((none : Option FieldType)) 4 0 0 sp_X12_tick := by
  refine Ct.go (M := M_X12_tick) mm_X12_tick fun av σ Q h0 => ?_
  obtain ⟨this, t, rfl, hk, h⟩ := el_X12_tick h0
  clear h0
  refine ⟨Nat.le_of_ble_eq_true rfl, ?_⟩
  show Go M_X12_tick Q 0 [some (vr this), some (vi t), none, none, none, none, none] [] σ (0, 0)
  obtain ⟨rfl, hI, ht, htp, h⟩ := h
  refine go_X12_tick (ct := fun p => p == 2 || p == 15 || p == 121) 60 ?_
  simp only [oI, oL, oR, o1, lI, lL, lR, popN, catS, gv, stL, stL2, swt, cnd, spObj, List.getElem?_cons_zero, List.getElem?_cons_succ, List.getD_cons_zero, List.getD_cons_succ, List.set_cons_zero, List.set_cons_succ, List.nil_append, List.cons_append, Option.toList, Bool.or_false, Bool.false_or, Bool.or_true, Bool.true_or, Nat.reduceBEq, Nat.reduceAdd, Nat.reduceLT, Nat.reduceLeDiff, Int.reduceAdd, Int.reduceToNat, true_and, and_true, Fin.isValue, Fin.val_zero, Fin.val_one, Fin.val_two, Fin.reduceFinMk, eq_self, Int.reduceNeg, imp_self, Nat.reduceMul, Nat.le_refl, not_true_eq_false, not_false_eq_true, List.getElem?_nil, reduceCtorEq, true_or, or_true, Classical.not_not, implies_true, or_self, wI_0, wI_1, wI_m1, b2i_w, b2i_eq0, b2i_eq1, b2i_bool, nor_self, nx_pI, kd_pI, ln_pI, fI_pI, fL_pI, fR_pI, aI_pI, aL_pI, aR_pI, nx_pL, kd_pL, ln_pL, fI_pL, fL_pL, fR_pL, aI_pL, aL_pL, aR_pL, nx_pR, kd_pR, ln_pR, fI_pR, fL_pR, fR_pR, aI_pR, aL_pR, aR_pR, nx_qI, kd_qI, ln_qI, fI_qI, fL_qI, fR_qI, aI_qI, aL_qI, aR_qI, nx_qL, kd_qL, ln_qL, fI_qL, fL_qL, fR_qL, aI_qL, aL_qL, aR_qL, nx_qR, kd_qR, ln_qR, fI_qR, fL_qR, fR_qR, aI_qR, aL_qR, aR_qR, nx_mk, kd_mk, ln_mk, fI_mk, fL_mk, fR_mk, aI_mk, aL_mk, aR_mk, false_and, and_false, if_false, if_true, and_self, Int.reduceEq, Nat.reduceEqDiff, ite_self, MLay_pI, MLay_pL, MLay_qI, MLay_qL, ev_X12_tick, xt_X12_tick, xf_X12_tick, us_X12_goesOn, us_X12_knocksAt, us_X12_isDumb]
  have w := tick_2 ht hI htp h 4 0 none none none none (by omega)
  simp only [mTk, Int.cast_ofNat_Int] at w
  exact w

def sp_X12_pull : Sp := fun av σ Q => oR av fun this av => oI av fun b av => av = [] ∧ kd σ this = 13 ∧ (this = 61 ∧ MI σ ∧ inR b ∧ (∀ j, aI σ 69 j ≤ fI σ 1301 61 + 1) ∧ ((0 ≤ b ∧ b < fI σ 1302 61 ∧ aI σ 70 b = 0 ∧ ¬ mGo σ b (fI σ 1301 61) ∧ ¬ aI σ 69 b = fI σ 1301 61 + 1) → (aI σ 64 b = 0 → Q (some (vi 1)) (qI (pI σ 1300 61 0) 69 b (fI σ 1301 61 + 1))) ∧ (¬ aI σ 64 b = 0 → Q (some (vi 1)) (qI (pI σ 1300 61 0) 70 b 1))) ∧ (¬ (0 ≤ b ∧ b < fI σ 1302 61 ∧ aI σ 70 b = 0 ∧ ¬ mGo σ b (fI σ 1301 61) ∧ ¬ aI σ 69 b = fI σ 1301 61 + 1) → Q (some (vi 0)) (pI σ 1300 61 0)))
theorem us_X12_pull (this : Int) (b : Int) (σ : Hp) (Q : Option AV → Hp → Prop) : sp_X12_pull [vr this, vi b] σ Q = (kd σ this = 13 ∧ (this = 61 ∧ MI σ ∧ inR b ∧ (∀ j, aI σ 69 j ≤ fI σ 1301 61 + 1) ∧ ((0 ≤ b ∧ b < fI σ 1302 61 ∧ aI σ 70 b = 0 ∧ ¬ mGo σ b (fI σ 1301 61) ∧ ¬ aI σ 69 b = fI σ 1301 61 + 1) → (aI σ 64 b = 0 → Q (some (vi 1)) (qI (pI σ 1300 61 0) 69 b (fI σ 1301 61 + 1))) ∧ (¬ aI σ 64 b = 0 → Q (some (vi 1)) (qI (pI σ 1300 61 0) 70 b 1))) ∧ (¬ (0 ≤ b ∧ b < fI σ 1302 61 ∧ aI σ 70 b = 0 ∧ ¬ mGo σ b (fI σ 1301 61) ∧ ¬ aI σ 69 b = fI σ 1301 61 + 1) → Q (some (vi 0)) (pI σ 1300 61 0)))) := propext ⟨fun h => h.2, fun h => ⟨rfl, h⟩⟩
theorem el_X12_pull {av : List AV} {σ : Hp} {Q : Option AV → Hp → Prop} (h : sp_X12_pull av σ Q) : ∃ (this : Int) (b : Int), av = [vr this, vi b] ∧ (kd σ this = 13 ∧ (this = 61 ∧ MI σ ∧ inR b ∧ (∀ j, aI σ 69 j ≤ fI σ 1301 61 + 1) ∧ ((0 ≤ b ∧ b < fI σ 1302 61 ∧ aI σ 70 b = 0 ∧ ¬ mGo σ b (fI σ 1301 61) ∧ ¬ aI σ 69 b = fI σ 1301 61 + 1) → (aI σ 64 b = 0 → Q (some (vi 1)) (qI (pI σ 1300 61 0) 69 b (fI σ 1301 61 + 1))) ∧ (¬ aI σ 64 b = 0 → Q (some (vi 1)) (qI (pI σ 1300 61 0) 70 b 1))) ∧ (¬ (0 ≤ b ∧ b < fI σ 1302 61 ∧ aI σ 70 b = 0 ∧ ¬ mGo σ b (fI σ 1301 61) ∧ ¬ aI σ 69 b = fI σ 1301 61 + 1) → Q (some (vi 0)) (pI σ 1300 61 0)))) := by
  obtain ⟨this, a0, rfl, h0⟩ := oR_s h
  obtain ⟨b, a1, rfl, h1⟩ := oI_s h0
  obtain ⟨rfl, hz⟩ := h1
  exact ⟨this, b, rfl, hz⟩
theorem rc_X12_pull : ∀ (av : List AV) (σ : Hp) (Q : Option AV → Hp → Prop), sp_X12_pull av σ Q → ∃ r tl, av = vr r :: tl ∧ kd σ r = 12 + 1 := fun av σ Q h => by
  obtain ⟨this, b, rfl, hz, -⟩ := el_X12_pull h
  exact ⟨this, _, rfl, hz⟩

def tb_X12_pull : Tab := [(0, .aload_n 0, 1, (0, 0, 0, 0)), (1, .iconst 0, 1, (0, 0, 0, 0)), (2, .putfield 196, 3, (13, 1300, 0, 0)), (5, .aload_n 0, 1, (0, 0, 0, 0)), (6, .iload_n 1, 1, (0, 0, 0, 0)), (7, .invokevirtual 214, 3, (0, 0, 0, 0)), (10, .ifCond .eq 39, 3, (0, 0, 0, 0)), (13, .aload_n 0, 1, (0, 0, 0, 0)), (14, .getfield 34, 3, (13, 1311, 2, 0)), (17, .iload_n 1, 1, (0, 0, 0, 0)), (18, .baload, 1, (0, 0, 0, 0)), (19, .ifCond .ne 30, 3, (0, 0, 0, 0)), (22, .aload_n 0, 1, (0, 0, 0, 0)), (23, .iload_n 1, 1, (0, 0, 0, 0)), (24, .aload_n 0, 1, (0, 0, 0, 0)), (25, .getfield 217, 3, (13, 1301, 0, 0)), (28, .invokevirtual 220, 3, (0, 0, 0, 0)), (31, .ifCond .ne 18, 3, (0, 0, 0, 0)), (34, .aload_n 0, 1, (0, 0, 0, 0)), (35, .getfield 31, 3, (13, 1310, 2, 0)), (38, .iload_n 1, 1, (0, 0, 0, 0)), (39, .iaload, 1, (0, 0, 0, 0)), (40, .aload_n 0, 1, (0, 0, 0, 0)), (41, .getfield 217, 3, (13, 1301, 0, 0)), (44, .iconst 1, 1, (0, 0, 0, 0)), (45, .iadd, 1, (0, 0, 0, 0)), (46, .if_icmp .ne 5, 3, (0, 0, 0, 0)), (49, .iconst 0, 1, (0, 0, 0, 0)), (50, .ireturn, 1, (0, 0, 0, 0)), (51, .aload_n 0, 1, (0, 0, 0, 0)), (52, .getfield 16, 3, (13, 1305, 2, 0)), (55, .iload_n 1, 1, (0, 0, 0, 0)), (56, .iaload, 1, (0, 0, 0, 0)), (57, .ifCond .ne 18, 3, (0, 0, 0, 0)), (60, .aload_n 0, 1, (0, 0, 0, 0)), (61, .getfield 31, 3, (13, 1310, 2, 0)), (64, .iload_n 1, 1, (0, 0, 0, 0)), (65, .aload_n 0, 1, (0, 0, 0, 0)), (66, .getfield 217, 3, (13, 1301, 0, 0)), (69, .iconst 1, 1, (0, 0, 0, 0)), (70, .iadd, 1, (0, 0, 0, 0)), (71, .iastore, 1, (0, 0, 0, 0)), (72, .goto 10, 3, (0, 0, 0, 0)), (75, .aload_n 0, 1, (0, 0, 0, 0)), (76, .getfield 34, 3, (13, 1311, 2, 0)), (79, .iload_n 1, 1, (0, 0, 0, 0)), (80, .iconst 1, 1, (0, 0, 0, 0)), (81, .bastore, 1, (0, 0, 0, 0)), (82, .iconst 1, 1, (0, 0, 0, 0)), (83, .ireturn, 1, (0, 0, 0, 0))]
set_option maxRecDepth 100000 in
theorem tk_X12_pull : TOK RX12 false cX12_pull tb_X12_pull := chkT_ok ft_X12 (by decide +kernel)
theorem rw_X12_1712 : Row RX12 (.invokevirtual 214) 3 2 0 0 2 sp_X12_isBox := row_V (n := 1) (ci := 12) c_X12_isBox ⟨TBL_in 1782 (by decide +kernel) rfl, TBL_in 1785 (by decide +kernel) rfl, TBL_in 123 (by decide +kernel) rfl, by decide +kernel, by decide⟩ (by decide) rfl (TBL_in 1784 (by decide +kernel) rfl) (TBL_in 64 (by decide +kernel) rfl) rc_X12_isBox
def mt_X12_pull : List (Nat × Mt) := [(1712, 2, 0, 0, 2, sp_X12_isBox), (1760, 3, 0, 0, 2, sp_X12_goesOn)]
theorem em_X12_pull : mt_X12_pull.lookup 1712 = some (2, 0, 0, 2, sp_X12_isBox) ∧ mt_X12_pull.lookup 1760 = some (3, 0, 0, 2, sp_X12_goesOn) := ⟨rfl, rfl⟩
theorem mk_X12_pull : MOK RX12 mt_X12_pull := by
  intro q hq
  simp only [mt_X12_pull, List.mem_cons, List.not_mem_nil, or_false] at hq
  rcases hq with rfl | rfl
  · exact rw_X12_1712
  · exact rw_X12_1760
noncomputable def xe_X12_pull (ct : Nat → Bool) (K : Kt) (R : Option AV → Hp → Prop) (n : Nat) : Kt := exS 2 5 0 0 2 tb_X12_pull mt_X12_pull ct K R n
noncomputable def xk_X12_pull (ct : Nat → Bool) (K : Kt) (R : Option AV → Hp → Prop) (n : Nat) : Kt := exkS 2 5 0 0 2 tb_X12_pull mt_X12_pull ct K R n
theorem xt_X12_pull {ct : Nat → Bool} {K : Kt} {R : Option AV → Hp → Prop} {n pc : Nat} {ls : List (Option AV)} {st : List AV} {σ : Hp} {k : Nat × Nat} (h : ct pc = true) : xk_X12_pull ct K R n pc ls st σ k = K pc ls st σ k := by unfold xk_X12_pull exkS; rw [h]
theorem xf_X12_pull {ct : Nat → Bool} {K : Kt} {R : Option AV → Hp → Prop} {n pc : Nat} {ls : List (Option AV)} {st : List AV} {σ : Hp} {k : Nat × Nat} (h : ct pc = false) : xk_X12_pull ct K R n pc ls st σ k = xe_X12_pull ct K R n pc ls st σ k := by unfold xk_X12_pull exkS xe_X12_pull; rw [h]
theorem ev_X12_pull {ct : Nat → Bool} {K : Kt} {R : Option AV → Hp → Prop} {n : Nat} {ls : List (Option AV)} {st : List AV} {σ : Hp} {k : Nat × Nat} :
  xe_X12_pull ct K R (n + 1) 0 ls st σ k = (lR ls 0 fun x => xk_X12_pull ct K R n 1 ls (vr x :: st) σ k) ∧
  xe_X12_pull ct K R (n + 1) 1 ls st σ k = (xk_X12_pull ct K R n 2 ls (vi (0) :: st) σ k) ∧
  xe_X12_pull ct K R (n + 1) 2 ls st σ k = (oI st fun v st => oR st fun x st => kd σ x = 13 ∧ xk_X12_pull ct K R n 5 ls st (pI σ 1300 x v) k) ∧
  xe_X12_pull ct K R (n + 1) 5 ls st σ k = (lR ls 0 fun x => xk_X12_pull ct K R n 6 ls (vr x :: st) σ k) ∧
  xe_X12_pull ct K R (n + 1) 6 ls st σ k = (lI ls 1 fun x => xk_X12_pull ct K R n 7 ls (vi x :: st) σ k) ∧
  xe_X12_pull ct K R (n + 1) 7 ls st σ k = (popN 2 st [] fun av rest => (catS rest ≤ 8 ∧ 2 < 5 ∧ k.1 + 0 ≤ 0 ∧ k.2 + 0 ≤ 0) ∧ (sp_X12_isBox) av σ fun v σ' => xk_X12_pull ct K R n 10 ls (v.toList ++ rest) σ' (k.1 + 0, k.2 + 0)) ∧
  xe_X12_pull ct K R (n + 1) 10 ls st σ k = (oI st fun x st => (wI x = wI 0 → xk_X12_pull ct K R n 49 ls st σ k) ∧ (¬ (wI x = wI 0) → xk_X12_pull ct K R n 13 ls st σ k)) ∧
  xe_X12_pull ct K R (n + 1) 13 ls st σ k = (lR ls 0 fun x => xk_X12_pull ct K R n 14 ls (vr x :: st) σ k) ∧
  xe_X12_pull ct K R (n + 1) 14 ls st σ k = (oR st fun x st => kd σ x = 13 ∧ xk_X12_pull ct K R n 17 ls (vr (fR σ 1311 x) :: st) σ k) ∧
  xe_X12_pull ct K R (n + 1) 17 ls st σ k = (lI ls 1 fun x => xk_X12_pull ct K R n 18 ls (vi x :: st) σ k) ∧
  xe_X12_pull ct K R (n + 1) 18 ls st σ k = (oI st fun j st => oR st fun x st => (kd σ x = 103 ∨ kd σ x = 21) ∧ (0 ≤ j ∧ j < ln σ x) ∧ xk_X12_pull ct K R n 19 ls (vi (aI σ x j) :: st) σ k) ∧
  xe_X12_pull ct K R (n + 1) 19 ls st σ k = (oI st fun x st => (¬ wI x = wI 0 → xk_X12_pull ct K R n 49 ls st σ k) ∧ (¬ (¬ wI x = wI 0) → xk_X12_pull ct K R n 22 ls st σ k)) ∧
  xe_X12_pull ct K R (n + 1) 22 ls st σ k = (lR ls 0 fun x => xk_X12_pull ct K R n 23 ls (vr x :: st) σ k) ∧
  xe_X12_pull ct K R (n + 1) 23 ls st σ k = (lI ls 1 fun x => xk_X12_pull ct K R n 24 ls (vi x :: st) σ k) ∧
  xe_X12_pull ct K R (n + 1) 24 ls st σ k = (lR ls 0 fun x => xk_X12_pull ct K R n 25 ls (vr x :: st) σ k) ∧
  xe_X12_pull ct K R (n + 1) 25 ls st σ k = (oR st fun x st => kd σ x = 13 ∧ xk_X12_pull ct K R n 28 ls (vi (fI σ 1301 x) :: st) σ k) ∧
  xe_X12_pull ct K R (n + 1) 28 ls st σ k = (popN 3 st [] fun av rest => (catS rest ≤ 8 ∧ 2 < 5 ∧ k.1 + 0 ≤ 0 ∧ k.2 + 0 ≤ 0) ∧ (sp_X12_goesOn) av σ fun v σ' => xk_X12_pull ct K R n 31 ls (v.toList ++ rest) σ' (k.1 + 0, k.2 + 0)) ∧
  xe_X12_pull ct K R (n + 1) 31 ls st σ k = (oI st fun x st => (¬ wI x = wI 0 → xk_X12_pull ct K R n 49 ls st σ k) ∧ (¬ (¬ wI x = wI 0) → xk_X12_pull ct K R n 34 ls st σ k)) ∧
  xe_X12_pull ct K R (n + 1) 34 ls st σ k = (lR ls 0 fun x => xk_X12_pull ct K R n 35 ls (vr x :: st) σ k) ∧
  xe_X12_pull ct K R (n + 1) 35 ls st σ k = (oR st fun x st => kd σ x = 13 ∧ xk_X12_pull ct K R n 38 ls (vr (fR σ 1310 x) :: st) σ k) ∧
  xe_X12_pull ct K R (n + 1) 38 ls st σ k = (lI ls 1 fun x => xk_X12_pull ct K R n 39 ls (vi x :: st) σ k) ∧
  xe_X12_pull ct K R (n + 1) 39 ls st σ k = (oI st fun j st => oR st fun x st => (kd σ x = 101 ∨ kd σ x = 108) ∧ (0 ≤ j ∧ j < ln σ x) ∧ xk_X12_pull ct K R n 40 ls (vi (aI σ x j) :: st) σ k) ∧
  xe_X12_pull ct K R (n + 1) 40 ls st σ k = (lR ls 0 fun x => xk_X12_pull ct K R n 41 ls (vr x :: st) σ k) ∧
  xe_X12_pull ct K R (n + 1) 41 ls st σ k = (oR st fun x st => kd σ x = 13 ∧ xk_X12_pull ct K R n 44 ls (vi (fI σ 1301 x) :: st) σ k) ∧
  xe_X12_pull ct K R (n + 1) 44 ls st σ k = (xk_X12_pull ct K R n 45 ls (vi (1) :: st) σ k) ∧
  xe_X12_pull ct K R (n + 1) 45 ls st σ k = (oI st fun y st => oI st fun x st => xk_X12_pull ct K R n 46 ls (vi (x + y) :: st) σ k) ∧
  xe_X12_pull ct K R (n + 1) 46 ls st σ k = (oI st fun y st => oI st fun x st => (¬ wI x = wI y → xk_X12_pull ct K R n 51 ls st σ k) ∧ (¬ (¬ wI x = wI y) → xk_X12_pull ct K R n 49 ls st σ k)) ∧
  xe_X12_pull ct K R (n + 1) 49 ls st σ k = (xk_X12_pull ct K R n 50 ls (vi (0) :: st) σ k) ∧
  xe_X12_pull ct K R (n + 1) 50 ls st σ k = (oI st fun x st => st = [] ∧ (x = 0 ∨ x = 1) ∧ R (some (vi x)) σ) ∧
  xe_X12_pull ct K R (n + 1) 51 ls st σ k = (lR ls 0 fun x => xk_X12_pull ct K R n 52 ls (vr x :: st) σ k) ∧
  xe_X12_pull ct K R (n + 1) 52 ls st σ k = (oR st fun x st => kd σ x = 13 ∧ xk_X12_pull ct K R n 55 ls (vr (fR σ 1305 x) :: st) σ k) ∧
  xe_X12_pull ct K R (n + 1) 55 ls st σ k = (lI ls 1 fun x => xk_X12_pull ct K R n 56 ls (vi x :: st) σ k) ∧
  xe_X12_pull ct K R (n + 1) 56 ls st σ k = (oI st fun j st => oR st fun x st => (kd σ x = 101 ∨ kd σ x = 108) ∧ (0 ≤ j ∧ j < ln σ x) ∧ xk_X12_pull ct K R n 57 ls (vi (aI σ x j) :: st) σ k) ∧
  xe_X12_pull ct K R (n + 1) 57 ls st σ k = (oI st fun x st => (¬ wI x = wI 0 → xk_X12_pull ct K R n 75 ls st σ k) ∧ (¬ (¬ wI x = wI 0) → xk_X12_pull ct K R n 60 ls st σ k)) ∧
  xe_X12_pull ct K R (n + 1) 60 ls st σ k = (lR ls 0 fun x => xk_X12_pull ct K R n 61 ls (vr x :: st) σ k) ∧
  xe_X12_pull ct K R (n + 1) 61 ls st σ k = (oR st fun x st => kd σ x = 13 ∧ xk_X12_pull ct K R n 64 ls (vr (fR σ 1310 x) :: st) σ k) ∧
  xe_X12_pull ct K R (n + 1) 64 ls st σ k = (lI ls 1 fun x => xk_X12_pull ct K R n 65 ls (vi x :: st) σ k) ∧
  xe_X12_pull ct K R (n + 1) 65 ls st σ k = (lR ls 0 fun x => xk_X12_pull ct K R n 66 ls (vr x :: st) σ k) ∧
  xe_X12_pull ct K R (n + 1) 66 ls st σ k = (oR st fun x st => kd σ x = 13 ∧ xk_X12_pull ct K R n 69 ls (vi (fI σ 1301 x) :: st) σ k) ∧
  xe_X12_pull ct K R (n + 1) 69 ls st σ k = (xk_X12_pull ct K R n 70 ls (vi (1) :: st) σ k) ∧
  xe_X12_pull ct K R (n + 1) 70 ls st σ k = (oI st fun y st => oI st fun x st => xk_X12_pull ct K R n 71 ls (vi (x + y) :: st) σ k) ∧
  xe_X12_pull ct K R (n + 1) 71 ls st σ k = (oI st fun v st => oI st fun j st => oR st fun x st => kd σ x = 101 ∧ (0 ≤ j ∧ j < ln σ x) ∧ xk_X12_pull ct K R n 72 ls st (qI σ x j v) k) ∧
  xe_X12_pull ct K R (n + 1) 72 ls st σ k = (xk_X12_pull ct K R n 82 ls st σ k) ∧
  xe_X12_pull ct K R (n + 1) 75 ls st σ k = (lR ls 0 fun x => xk_X12_pull ct K R n 76 ls (vr x :: st) σ k) ∧
  xe_X12_pull ct K R (n + 1) 76 ls st σ k = (oR st fun x st => kd σ x = 13 ∧ xk_X12_pull ct K R n 79 ls (vr (fR σ 1311 x) :: st) σ k) ∧
  xe_X12_pull ct K R (n + 1) 79 ls st σ k = (lI ls 1 fun x => xk_X12_pull ct K R n 80 ls (vi x :: st) σ k) ∧
  xe_X12_pull ct K R (n + 1) 80 ls st σ k = (xk_X12_pull ct K R n 81 ls (vi (1) :: st) σ k) ∧
  xe_X12_pull ct K R (n + 1) 81 ls st σ k = (oI st fun v st => oI st fun j st => oR st fun x st => kd σ x = 103 ∧ (0 ≤ j ∧ j < ln σ x) ∧ (v = 0 ∨ v = 1) ∧ xk_X12_pull ct K R n 82 ls st (qI σ x j v) k) ∧
  xe_X12_pull ct K R (n + 1) 82 ls st σ k = (xk_X12_pull ct K R n 83 ls (vi (1) :: st) σ k) ∧
  xe_X12_pull ct K R (n + 1) 83 ls st σ k = (oI st fun x st => st = [] ∧ (x = 0 ∨ x = 1) ∧ R (some (vi x)) σ) :=
  ⟨exS_step.trans rfl, exS_step.trans rfl, exS_step.trans rfl, exS_step.trans rfl, exS_step.trans rfl, exS_step.trans rfl, exS_step.trans rfl, exS_step.trans rfl, exS_step.trans rfl, exS_step.trans rfl, exS_step.trans rfl, exS_step.trans rfl, exS_step.trans rfl, exS_step.trans rfl, exS_step.trans rfl, exS_step.trans rfl, exS_step.trans rfl, exS_step.trans rfl, exS_step.trans rfl, exS_step.trans rfl, exS_step.trans rfl, exS_step.trans rfl, exS_step.trans rfl, exS_step.trans rfl, exS_step.trans rfl, exS_step.trans rfl, exS_step.trans rfl, exS_step.trans rfl, exS_step.trans rfl, exS_step.trans rfl, exS_step.trans rfl, exS_step.trans rfl, exS_step.trans rfl, exS_step.trans rfl, exS_step.trans rfl, exS_step.trans rfl, exS_step.trans rfl, exS_step.trans rfl, exS_step.trans rfl, exS_step.trans rfl, exS_step.trans rfl, exS_step.trans rfl, exS_step.trans rfl, exS_step.trans rfl, exS_step.trans rfl, exS_step.trans rfl, exS_step.trans rfl, exS_step.trans rfl, exS_step.trans rfl, exS_step.trans rfl⟩
def M_X12_pull : Md := (yX12_pull, cX12_pull, 2, (some FieldType.boolean), 5, 0, 0, 2, false, tb_X12_pull, mt_X12_pull)
theorem mm_X12_pull : MMOK M_X12_pull := ⟨by decide +kernel, tk_X12_pull, mk_X12_pull, rfl, fun h => by cases h⟩
theorem go_X12_pull {Q : Option AV → Hp → Prop} {ct : Nat → Bool} {pc : Nat} {ls : List (Option AV)} {st : List AV} {σ : Hp} {k : Nat × Nat} (n : Nat) (h : xe_X12_pull ct (Go M_X12_pull Q) Q n pc ls st σ k) : Go M_X12_pull Q pc ls st σ k := Go.exS mm_X12_pull h

set_option maxRecDepth 20000 in
theorem c_X12_pull : Ct yX12_pull cX12_pull 2 ((some FieldType.boolean)) 5 0 0 sp_X12_pull := by
  refine Ct.go (M := M_X12_pull) mm_X12_pull fun av σ Q h0 => ?_
  obtain ⟨this, b, rfl, hk, h⟩ := el_X12_pull h0
  clear h0
  refine ⟨Nat.le_of_ble_eq_true rfl, ?_⟩
  show Go M_X12_pull Q 0 [some (vr this), some (vi b)] [] σ (0, 0)
  obtain ⟨rfl, hI, hr, hbn, h1, h2⟩ := h
  have hn := hI.now_s
  have hb := hI.boxes_s
  have hI2 : MI (pI σ 1300 61 0) := MI_fre hI (by decide)
  have hx1 := hI.began_ b
  have hx2 := hI.waits_ b
  have hx3 := hI.kind_ b
  have eg : mGo (pI σ 1300 61 0) b (fI σ 1301 61) = mGo σ b (fI σ 1301 61) := rfl
  refine go_X12_pull (ct := fun p => false) 60 ?_
  simp only [oI, oL, oR, o1, lI, lL, lR, popN, catS, gv, stL, stL2, swt, cnd, spObj, List.getElem?_cons_zero, List.getElem?_cons_succ, List.getD_cons_zero, List.getD_cons_succ, List.set_cons_zero, List.set_cons_succ, List.nil_append, List.cons_append, Option.toList, Bool.or_false, Bool.false_or, Bool.or_true, Bool.true_or, Nat.reduceBEq, Nat.reduceAdd, Nat.reduceLT, Nat.reduceLeDiff, Int.reduceAdd, Int.reduceToNat, true_and, and_true, Fin.isValue, Fin.val_zero, Fin.val_one, Fin.val_two, Fin.reduceFinMk, eq_self, Int.reduceNeg, imp_self, Nat.reduceMul, Nat.le_refl, not_true_eq_false, not_false_eq_true, List.getElem?_nil, reduceCtorEq, true_or, or_true, Classical.not_not, implies_true, or_self, wI_0, wI_1, wI_m1, b2i_w, b2i_eq0, b2i_eq1, b2i_bool, nor_self, nx_pI, kd_pI, ln_pI, fI_pI, fL_pI, fR_pI, aI_pI, aL_pI, aR_pI, nx_pL, kd_pL, ln_pL, fI_pL, fL_pL, fR_pL, aI_pL, aL_pL, aR_pL, nx_pR, kd_pR, ln_pR, fI_pR, fL_pR, fR_pR, aI_pR, aL_pR, aR_pR, nx_qI, kd_qI, ln_qI, fI_qI, fL_qI, fR_qI, aI_qI, aL_qI, aR_qI, nx_qL, kd_qL, ln_qL, fI_qL, fL_qL, fR_qL, aI_qL, aL_qL, aR_qL, nx_qR, kd_qR, ln_qR, fI_qR, fL_qR, fR_qR, aI_qR, aL_qR, aR_qR, nx_mk, kd_mk, ln_mk, fI_mk, fL_mk, fR_mk, aI_mk, aL_mk, aR_mk, false_and, and_false, if_false, if_true, and_self, Int.reduceEq, Nat.reduceEqDiff, ite_self, MLay_pI, MLay_pL, MLay_qI, MLay_qL, ev_X12_pull, xt_X12_pull, xf_X12_pull, us_X12_isBox, us_X12_goesOn, hk, hI.lay.eqs, hI2, hr, eg]
  try simp (disch := omega) only [wI_id, dv_nn, rm_nn]
  repeat' (first | intro z | apply And.intro)
  all_goals try omega
  all_goals grind
