/-! the class: a reading: what fits, what is struck out, a key -/

theorem whl_neg {σ : Hp} {p o : Int} (h : o < 0) : whl σ p o = false := by unfold whl; rw [if_pos h]
theorem fit_word {v a b : BitVec 64} : (v &&& a) &&& (b ^^^ BitVec.ofInt 64 (-1)) = 0#64 ↔ ∀ j : Nat, j < 64 → v.getLsbD j = true → a.getLsbD j = true → b.getLsbD j = true := by
  have m1 : BitVec.ofInt 64 (-1) = BitVec.allOnes 64 := by decide
  rw [m1]
  constructor
  · intro e j hj q1 q2
    have e := congrArg (fun w => w.getLsbD j) e
    simp only [BitVec.getLsbD_and, BitVec.getLsbD_xor, BitVec.getLsbD_allOnes, BitVec.getLsbD_zero, hj, decide_true, q1, q2, Bool.true_and, Bool.xor_true] at e
    cases z : b.getLsbD j with
    | true => rfl
    | false => rw [z] at e; cases e
  · intro h
    apply BitVec.eq_of_getLsbD_eq
    intro j hj
    simp only [BitVec.getLsbD_and, BitVec.getLsbD_xor, BitVec.getLsbD_allOnes, BitVec.getLsbD_zero, hj, decide_true, Bool.xor_true]
    have h := h j hj
    cases z1 : v.getLsbD j with
    | false => rfl
    | true =>
      cases z2 : a.getLsbD j with
      | false => rfl
      | true => rw [h z1 z2]; rfl

def sp_X10_fits : Sp := fun av σ Q => oR av fun this av => oR av fun b av => oI av fun s av => av = [] ∧ kd σ this = 11 ∧ (this = 4 ∧ CLay σ ∧ kd σ b = 3 ∧ (0 ≤ s ∧ s < 300) ∧ ∃ (P : Int → Prop) (sp : Int), B64 (aL σ 5) P ∧ B64 (aL σ 6) (fun u => u < sp) ∧ Q (some (vi (b2i (∀ u, 0 ≤ u → u < 320 → whl σ b (u - s) = true → u < sp → P u)))) σ)
theorem us_X10_fits (this : Int) (b : Int) (s : Int) (σ : Hp) (Q : Option AV → Hp → Prop) : sp_X10_fits [vr this, vr b, vi s] σ Q = (kd σ this = 11 ∧ (this = 4 ∧ CLay σ ∧ kd σ b = 3 ∧ (0 ≤ s ∧ s < 300) ∧ ∃ (P : Int → Prop) (sp : Int), B64 (aL σ 5) P ∧ B64 (aL σ 6) (fun u => u < sp) ∧ Q (some (vi (b2i (∀ u, 0 ≤ u → u < 320 → whl σ b (u - s) = true → u < sp → P u)))) σ)) := propext ⟨fun h => h.2, fun h => ⟨rfl, h⟩⟩
theorem el_X10_fits {av : List AV} {σ : Hp} {Q : Option AV → Hp → Prop} (h : sp_X10_fits av σ Q) : ∃ (this : Int) (b : Int) (s : Int), av = [vr this, vr b, vi s] ∧ (kd σ this = 11 ∧ (this = 4 ∧ CLay σ ∧ kd σ b = 3 ∧ (0 ≤ s ∧ s < 300) ∧ ∃ (P : Int → Prop) (sp : Int), B64 (aL σ 5) P ∧ B64 (aL σ 6) (fun u => u < sp) ∧ Q (some (vi (b2i (∀ u, 0 ≤ u → u < 320 → whl σ b (u - s) = true → u < sp → P u)))) σ)) := by
  obtain ⟨this, a0, rfl, h0⟩ := oR_s h
  obtain ⟨b, a1, rfl, h1⟩ := oR_s h0
  obtain ⟨s, a2, rfl, h2⟩ := oI_s h1
  obtain ⟨rfl, hz⟩ := h2
  exact ⟨this, b, s, rfl, hz⟩
theorem rc_X10_fits : ∀ (av : List AV) (σ : Hp) (Q : Option AV → Hp → Prop), sp_X10_fits av σ Q → ∃ r tl, av = vr r :: tl ∧ kd σ r = 10 + 1 := fun av σ Q h => by
  obtain ⟨this, b, s, rfl, hz, -⟩ := el_X10_fits h
  exact ⟨this, _, rfl, hz⟩

def tb_X10_fits : Tab := [(0, .iload_n 2, 1, (0, 0, 0, 0)), (1, .bipush 6, 2, (0, 0, 0, 0)), (3, .ishr, 1, (0, 0, 0, 0)), (4, .istore_n 3, 1, (0, 0, 0, 0)), (5, .iload_n 3, 1, (0, 0, 0, 0)), (6, .ifCond .lt 62, 3, (0, 0, 0, 0)), (9, .iload_n 3, 1, (0, 0, 0, 0)), (10, .aload_n 0, 1, (0, 0, 0, 0)), (11, .getfield 9, 3, (11, 1100, 2, 0)), (14, .arraylength, 1, (0, 0, 0, 0)), (15, .if_icmp .ge 53, 3, (0, 0, 0, 0)), (18, .iload_n 3, 1, (0, 0, 0, 0)), (19, .aload_n 0, 1, (0, 0, 0, 0)), (20, .getfield 15, 3, (11, 1101, 2, 0)), (23, .arraylength, 1, (0, 0, 0, 0)), (24, .if_icmp .ge 44, 3, (0, 0, 0, 0)), (27, .aload_n 1, 1, (0, 0, 0, 0)), (28, .bipush 64, 2, (0, 0, 0, 0)), (30, .iload_n 3, 1, (0, 0, 0, 0)), (31, .imul, 1, (0, 0, 0, 0)), (32, .iload_n 2, 1, (0, 0, 0, 0)), (33, .isub, 1, (0, 0, 0, 0)), (34, .invokevirtual 130, 3, (0, 0, 0, 0)), (37, .aload_n 0, 1, (0, 0, 0, 0)), (38, .getfield 15, 3, (11, 1101, 2, 0)), (41, .iload_n 3, 1, (0, 0, 0, 0)), (42, .laload, 1, (0, 0, 0, 0)), (43, .land, 1, (0, 0, 0, 0)), (44, .aload_n 0, 1, (0, 0, 0, 0)), (45, .getfield 9, 3, (11, 1100, 2, 0)), (48, .iload_n 3, 1, (0, 0, 0, 0)), (49, .laload, 1, (0, 0, 0, 0)), (50, .ldc2_w 76, 3, (1, 0, 0, -1)), (53, .lxor, 1, (0, 0, 0, 0)), (54, .land, 1, (0, 0, 0, 0)), (55, .lconst 0, 1, (0, 0, 0, 0)), (56, .lcmp, 1, (0, 0, 0, 0)), (57, .ifCond .eq 5, 3, (0, 0, 0, 0)), (60, .iconst 0, 1, (0, 0, 0, 0)), (61, .ireturn, 1, (0, 0, 0, 0)), (62, .iinc 3 1, 3, (0, 0, 0, 0)), (65, .goto (-60), 3, (0, 0, 0, 0)), (68, .iconst 1, 1, (0, 0, 0, 0)), (69, .ireturn, 1, (0, 0, 0, 0))]
set_option maxRecDepth 100000 in
theorem tk_X10_fits : TOK RX10 false cX10_fits tb_X10_fits := chkT_ok ft_X10 (by decide +kernel)
theorem rw_X10_1040 : Row RX10 (.invokevirtual 130) 3 2 0 0 1 sp_X2_wheelFrom := row_V (n := 1) (ci := 2) c_X2_wheelFrom ⟨TBL_in 786 (by decide +kernel) rfl, TBL_in 789 (by decide +kernel) rfl, TBL_in 126 (by decide +kernel) rfl, by decide +kernel, by decide⟩ (by decide) rfl (TBL_in 787 (by decide +kernel) rfl) (TBL_in 788 (by decide +kernel) rfl) rc_X2_wheelFrom
def mt_X10_fits : List (Nat × Mt) := [(1040, 2, 0, 0, 1, sp_X2_wheelFrom)]
theorem em_X10_fits : mt_X10_fits.lookup 1040 = some (2, 0, 0, 1, sp_X2_wheelFrom) := rfl
theorem mk_X10_fits : MOK RX10 mt_X10_fits := by
  intro q hq
  simp only [mt_X10_fits, List.mem_cons, List.not_mem_nil, or_false] at hq
  rcases hq with rfl
  · exact rw_X10_1040
noncomputable def xe_X10_fits (ct : Nat → Bool) (K : Kt) (R : Option AV → Hp → Prop) (n : Nat) : Kt := exS 4 3 0 0 2 tb_X10_fits mt_X10_fits ct K R n
noncomputable def xk_X10_fits (ct : Nat → Bool) (K : Kt) (R : Option AV → Hp → Prop) (n : Nat) : Kt := exkS 4 3 0 0 2 tb_X10_fits mt_X10_fits ct K R n
theorem xt_X10_fits {ct : Nat → Bool} {K : Kt} {R : Option AV → Hp → Prop} {n pc : Nat} {ls : List (Option AV)} {st : List AV} {σ : Hp} {k : Nat × Nat} (h : ct pc = true) : xk_X10_fits ct K R n pc ls st σ k = K pc ls st σ k := by unfold xk_X10_fits exkS; rw [h]
theorem xf_X10_fits {ct : Nat → Bool} {K : Kt} {R : Option AV → Hp → Prop} {n pc : Nat} {ls : List (Option AV)} {st : List AV} {σ : Hp} {k : Nat × Nat} (h : ct pc = false) : xk_X10_fits ct K R n pc ls st σ k = xe_X10_fits ct K R n pc ls st σ k := by unfold xk_X10_fits exkS xe_X10_fits; rw [h]
theorem ev_X10_fits_0 {ct : Nat → Bool} {K : Kt} {R : Option AV → Hp → Prop} {n : Nat} {ls : List (Option AV)} {st : List AV} {σ : Hp} {k : Nat × Nat} : xe_X10_fits ct K R (n + 1) 0 ls st σ k = (lI ls 2 fun x => xk_X10_fits ct K R n 1 ls (vi x :: st) σ k) := exS_step.trans rfl
theorem ev_X10_fits_1 {ct : Nat → Bool} {K : Kt} {R : Option AV → Hp → Prop} {n : Nat} {ls : List (Option AV)} {st : List AV} {σ : Hp} {k : Nat × Nat} : xe_X10_fits ct K R (n + 1) 1 ls st σ k = (xk_X10_fits ct K R n 3 ls (vi (6) :: st) σ k) := exS_step.trans rfl
theorem ev_X10_fits_3 {ct : Nat → Bool} {K : Kt} {R : Option AV → Hp → Prop} {n : Nat} {ls : List (Option AV)} {st : List AV} {σ : Hp} {k : Nat × Nat} : xe_X10_fits ct K R (n + 1) 3 ls st σ k = (oI st fun y st => oI st fun x st => xk_X10_fits ct K R n 4 ls (vi (shrI x y) :: st) σ k) := exS_step.trans rfl
theorem ev_X10_fits_4 {ct : Nat → Bool} {K : Kt} {R : Option AV → Hp → Prop} {n : Nat} {ls : List (Option AV)} {st : List AV} {σ : Hp} {k : Nat × Nat} : xe_X10_fits ct K R (n + 1) 4 ls st σ k = (oI st fun x st => 3 < 4 ∧ xk_X10_fits ct K R n 5 (stL ls 3 (vi x)) st σ k) := exS_step.trans rfl
theorem ev_X10_fits_5 {ct : Nat → Bool} {K : Kt} {R : Option AV → Hp → Prop} {n : Nat} {ls : List (Option AV)} {st : List AV} {σ : Hp} {k : Nat × Nat} : xe_X10_fits ct K R (n + 1) 5 ls st σ k = (lI ls 3 fun x => xk_X10_fits ct K R n 6 ls (vi x :: st) σ k) := exS_step.trans rfl
theorem ev_X10_fits_6 {ct : Nat → Bool} {K : Kt} {R : Option AV → Hp → Prop} {n : Nat} {ls : List (Option AV)} {st : List AV} {σ : Hp} {k : Nat × Nat} : xe_X10_fits ct K R (n + 1) 6 ls st σ k = (oI st fun x st => (wI x < wI 0 → xk_X10_fits ct K R n 68 ls st σ k) ∧ (¬ (wI x < wI 0) → xk_X10_fits ct K R n 9 ls st σ k)) := exS_step.trans rfl
theorem ev_X10_fits_9 {ct : Nat → Bool} {K : Kt} {R : Option AV → Hp → Prop} {n : Nat} {ls : List (Option AV)} {st : List AV} {σ : Hp} {k : Nat × Nat} : xe_X10_fits ct K R (n + 1) 9 ls st σ k = (lI ls 3 fun x => xk_X10_fits ct K R n 10 ls (vi x :: st) σ k) := exS_step.trans rfl
theorem ev_X10_fits_10 {ct : Nat → Bool} {K : Kt} {R : Option AV → Hp → Prop} {n : Nat} {ls : List (Option AV)} {st : List AV} {σ : Hp} {k : Nat × Nat} : xe_X10_fits ct K R (n + 1) 10 ls st σ k = (lR ls 0 fun x => xk_X10_fits ct K R n 11 ls (vr x :: st) σ k) := exS_step.trans rfl
theorem ev_X10_fits_11 {ct : Nat → Bool} {K : Kt} {R : Option AV → Hp → Prop} {n : Nat} {ls : List (Option AV)} {st : List AV} {σ : Hp} {k : Nat × Nat} : xe_X10_fits ct K R (n + 1) 11 ls st σ k = (oR st fun x st => kd σ x = 11 ∧ xk_X10_fits ct K R n 14 ls (vr (fR σ 1100 x) :: st) σ k) := exS_step.trans rfl
theorem ev_X10_fits_14 {ct : Nat → Bool} {K : Kt} {R : Option AV → Hp → Prop} {n : Nat} {ls : List (Option AV)} {st : List AV} {σ : Hp} {k : Nat × Nat} : xe_X10_fits ct K R (n + 1) 14 ls st σ k = (oR st fun x st => (101 ≤ kd σ x ∨ kd σ x = 21) ∧ xk_X10_fits ct K R n 15 ls (vi (ln σ x) :: st) σ k) := exS_step.trans rfl
theorem ev_X10_fits_15 {ct : Nat → Bool} {K : Kt} {R : Option AV → Hp → Prop} {n : Nat} {ls : List (Option AV)} {st : List AV} {σ : Hp} {k : Nat × Nat} : xe_X10_fits ct K R (n + 1) 15 ls st σ k = (oI st fun y st => oI st fun x st => (wI y ≤ wI x → xk_X10_fits ct K R n 68 ls st σ k) ∧ (¬ (wI y ≤ wI x) → xk_X10_fits ct K R n 18 ls st σ k)) := exS_step.trans rfl
theorem ev_X10_fits_18 {ct : Nat → Bool} {K : Kt} {R : Option AV → Hp → Prop} {n : Nat} {ls : List (Option AV)} {st : List AV} {σ : Hp} {k : Nat × Nat} : xe_X10_fits ct K R (n + 1) 18 ls st σ k = (lI ls 3 fun x => xk_X10_fits ct K R n 19 ls (vi x :: st) σ k) := exS_step.trans rfl
theorem ev_X10_fits_19 {ct : Nat → Bool} {K : Kt} {R : Option AV → Hp → Prop} {n : Nat} {ls : List (Option AV)} {st : List AV} {σ : Hp} {k : Nat × Nat} : xe_X10_fits ct K R (n + 1) 19 ls st σ k = (lR ls 0 fun x => xk_X10_fits ct K R n 20 ls (vr x :: st) σ k) := exS_step.trans rfl
theorem ev_X10_fits_20 {ct : Nat → Bool} {K : Kt} {R : Option AV → Hp → Prop} {n : Nat} {ls : List (Option AV)} {st : List AV} {σ : Hp} {k : Nat × Nat} : xe_X10_fits ct K R (n + 1) 20 ls st σ k = (oR st fun x st => kd σ x = 11 ∧ xk_X10_fits ct K R n 23 ls (vr (fR σ 1101 x) :: st) σ k) := exS_step.trans rfl
theorem ev_X10_fits_23 {ct : Nat → Bool} {K : Kt} {R : Option AV → Hp → Prop} {n : Nat} {ls : List (Option AV)} {st : List AV} {σ : Hp} {k : Nat × Nat} : xe_X10_fits ct K R (n + 1) 23 ls st σ k = (oR st fun x st => (101 ≤ kd σ x ∨ kd σ x = 21) ∧ xk_X10_fits ct K R n 24 ls (vi (ln σ x) :: st) σ k) := exS_step.trans rfl
theorem ev_X10_fits_24 {ct : Nat → Bool} {K : Kt} {R : Option AV → Hp → Prop} {n : Nat} {ls : List (Option AV)} {st : List AV} {σ : Hp} {k : Nat × Nat} : xe_X10_fits ct K R (n + 1) 24 ls st σ k = (oI st fun y st => oI st fun x st => (wI y ≤ wI x → xk_X10_fits ct K R n 68 ls st σ k) ∧ (¬ (wI y ≤ wI x) → xk_X10_fits ct K R n 27 ls st σ k)) := exS_step.trans rfl
theorem ev_X10_fits_27 {ct : Nat → Bool} {K : Kt} {R : Option AV → Hp → Prop} {n : Nat} {ls : List (Option AV)} {st : List AV} {σ : Hp} {k : Nat × Nat} : xe_X10_fits ct K R (n + 1) 27 ls st σ k = (lR ls 1 fun x => xk_X10_fits ct K R n 28 ls (vr x :: st) σ k) := exS_step.trans rfl
theorem ev_X10_fits_28 {ct : Nat → Bool} {K : Kt} {R : Option AV → Hp → Prop} {n : Nat} {ls : List (Option AV)} {st : List AV} {σ : Hp} {k : Nat × Nat} : xe_X10_fits ct K R (n + 1) 28 ls st σ k = (xk_X10_fits ct K R n 30 ls (vi (64) :: st) σ k) := exS_step.trans rfl
theorem ev_X10_fits_30 {ct : Nat → Bool} {K : Kt} {R : Option AV → Hp → Prop} {n : Nat} {ls : List (Option AV)} {st : List AV} {σ : Hp} {k : Nat × Nat} : xe_X10_fits ct K R (n + 1) 30 ls st σ k = (lI ls 3 fun x => xk_X10_fits ct K R n 31 ls (vi x :: st) σ k) := exS_step.trans rfl
theorem ev_X10_fits_31 {ct : Nat → Bool} {K : Kt} {R : Option AV → Hp → Prop} {n : Nat} {ls : List (Option AV)} {st : List AV} {σ : Hp} {k : Nat × Nat} : xe_X10_fits ct K R (n + 1) 31 ls st σ k = (oI st fun y st => oI st fun x st => xk_X10_fits ct K R n 32 ls (vi (x * y) :: st) σ k) := exS_step.trans rfl
theorem ev_X10_fits_32 {ct : Nat → Bool} {K : Kt} {R : Option AV → Hp → Prop} {n : Nat} {ls : List (Option AV)} {st : List AV} {σ : Hp} {k : Nat × Nat} : xe_X10_fits ct K R (n + 1) 32 ls st σ k = (lI ls 2 fun x => xk_X10_fits ct K R n 33 ls (vi x :: st) σ k) := exS_step.trans rfl
theorem ev_X10_fits_33 {ct : Nat → Bool} {K : Kt} {R : Option AV → Hp → Prop} {n : Nat} {ls : List (Option AV)} {st : List AV} {σ : Hp} {k : Nat × Nat} : xe_X10_fits ct K R (n + 1) 33 ls st σ k = (oI st fun y st => oI st fun x st => xk_X10_fits ct K R n 34 ls (vi (x - y) :: st) σ k) := exS_step.trans rfl
theorem ev_X10_fits_34 {ct : Nat → Bool} {K : Kt} {R : Option AV → Hp → Prop} {n : Nat} {ls : List (Option AV)} {st : List AV} {σ : Hp} {k : Nat × Nat} : xe_X10_fits ct K R (n + 1) 34 ls st σ k = (popN 2 st [] fun av rest => (catS rest ≤ 8 ∧ 1 < 3 ∧ k.1 + 0 ≤ 0 ∧ k.2 + 0 ≤ 0) ∧ (sp_X2_wheelFrom) av σ fun v σ' => xk_X10_fits ct K R n 37 ls (v.toList ++ rest) σ' (k.1 + 0, k.2 + 0)) := exS_step.trans rfl
theorem ev_X10_fits_37 {ct : Nat → Bool} {K : Kt} {R : Option AV → Hp → Prop} {n : Nat} {ls : List (Option AV)} {st : List AV} {σ : Hp} {k : Nat × Nat} : xe_X10_fits ct K R (n + 1) 37 ls st σ k = (lR ls 0 fun x => xk_X10_fits ct K R n 38 ls (vr x :: st) σ k) := exS_step.trans rfl
theorem ev_X10_fits_38 {ct : Nat → Bool} {K : Kt} {R : Option AV → Hp → Prop} {n : Nat} {ls : List (Option AV)} {st : List AV} {σ : Hp} {k : Nat × Nat} : xe_X10_fits ct K R (n + 1) 38 ls st σ k = (oR st fun x st => kd σ x = 11 ∧ xk_X10_fits ct K R n 41 ls (vr (fR σ 1101 x) :: st) σ k) := exS_step.trans rfl
theorem ev_X10_fits_41 {ct : Nat → Bool} {K : Kt} {R : Option AV → Hp → Prop} {n : Nat} {ls : List (Option AV)} {st : List AV} {σ : Hp} {k : Nat × Nat} : xe_X10_fits ct K R (n + 1) 41 ls st σ k = (lI ls 3 fun x => xk_X10_fits ct K R n 42 ls (vi x :: st) σ k) := exS_step.trans rfl
theorem ev_X10_fits_42 {ct : Nat → Bool} {K : Kt} {R : Option AV → Hp → Prop} {n : Nat} {ls : List (Option AV)} {st : List AV} {σ : Hp} {k : Nat × Nat} : xe_X10_fits ct K R (n + 1) 42 ls st σ k = (oI st fun j st => oR st fun x st => kd σ x = 102 ∧ (0 ≤ j ∧ j < ln σ x) ∧ xk_X10_fits ct K R n 43 ls (vl (aL σ x j) :: st) σ k) := exS_step.trans rfl
theorem ev_X10_fits_43 {ct : Nat → Bool} {K : Kt} {R : Option AV → Hp → Prop} {n : Nat} {ls : List (Option AV)} {st : List AV} {σ : Hp} {k : Nat × Nat} : xe_X10_fits ct K R (n + 1) 43 ls st σ k = (oL st fun y st => oL st fun x st => xk_X10_fits ct K R n 44 ls (vl (x &&& y) :: st) σ k) := exS_step.trans rfl
theorem ev_X10_fits_44 {ct : Nat → Bool} {K : Kt} {R : Option AV → Hp → Prop} {n : Nat} {ls : List (Option AV)} {st : List AV} {σ : Hp} {k : Nat × Nat} : xe_X10_fits ct K R (n + 1) 44 ls st σ k = (lR ls 0 fun x => xk_X10_fits ct K R n 45 ls (vr x :: st) σ k) := exS_step.trans rfl
theorem ev_X10_fits_45 {ct : Nat → Bool} {K : Kt} {R : Option AV → Hp → Prop} {n : Nat} {ls : List (Option AV)} {st : List AV} {σ : Hp} {k : Nat × Nat} : xe_X10_fits ct K R (n + 1) 45 ls st σ k = (oR st fun x st => kd σ x = 11 ∧ xk_X10_fits ct K R n 48 ls (vr (fR σ 1100 x) :: st) σ k) := exS_step.trans rfl
theorem ev_X10_fits_48 {ct : Nat → Bool} {K : Kt} {R : Option AV → Hp → Prop} {n : Nat} {ls : List (Option AV)} {st : List AV} {σ : Hp} {k : Nat × Nat} : xe_X10_fits ct K R (n + 1) 48 ls st σ k = (lI ls 3 fun x => xk_X10_fits ct K R n 49 ls (vi x :: st) σ k) := exS_step.trans rfl
theorem ev_X10_fits_49 {ct : Nat → Bool} {K : Kt} {R : Option AV → Hp → Prop} {n : Nat} {ls : List (Option AV)} {st : List AV} {σ : Hp} {k : Nat × Nat} : xe_X10_fits ct K R (n + 1) 49 ls st σ k = (oI st fun j st => oR st fun x st => kd σ x = 102 ∧ (0 ≤ j ∧ j < ln σ x) ∧ xk_X10_fits ct K R n 50 ls (vl (aL σ x j) :: st) σ k) := exS_step.trans rfl
theorem ev_X10_fits_50 {ct : Nat → Bool} {K : Kt} {R : Option AV → Hp → Prop} {n : Nat} {ls : List (Option AV)} {st : List AV} {σ : Hp} {k : Nat × Nat} : xe_X10_fits ct K R (n + 1) 50 ls st σ k = (xk_X10_fits ct K R n 53 ls (vl (BitVec.ofInt 64 (-1)) :: st) σ k) := exS_step.trans rfl
theorem ev_X10_fits_53 {ct : Nat → Bool} {K : Kt} {R : Option AV → Hp → Prop} {n : Nat} {ls : List (Option AV)} {st : List AV} {σ : Hp} {k : Nat × Nat} : xe_X10_fits ct K R (n + 1) 53 ls st σ k = (oL st fun y st => oL st fun x st => xk_X10_fits ct K R n 54 ls (vl (x ^^^ y) :: st) σ k) := exS_step.trans rfl
theorem ev_X10_fits_54 {ct : Nat → Bool} {K : Kt} {R : Option AV → Hp → Prop} {n : Nat} {ls : List (Option AV)} {st : List AV} {σ : Hp} {k : Nat × Nat} : xe_X10_fits ct K R (n + 1) 54 ls st σ k = (oL st fun y st => oL st fun x st => xk_X10_fits ct K R n 55 ls (vl (x &&& y) :: st) σ k) := exS_step.trans rfl
theorem ev_X10_fits_55 {ct : Nat → Bool} {K : Kt} {R : Option AV → Hp → Prop} {n : Nat} {ls : List (Option AV)} {st : List AV} {σ : Hp} {k : Nat × Nat} : xe_X10_fits ct K R (n + 1) 55 ls st σ k = (xk_X10_fits ct K R n 56 ls (vl (BitVec.ofNat 64 0) :: st) σ k) := exS_step.trans rfl
theorem ev_X10_fits_56 {ct : Nat → Bool} {K : Kt} {R : Option AV → Hp → Prop} {n : Nat} {ls : List (Option AV)} {st : List AV} {σ : Hp} {k : Nat × Nat} : xe_X10_fits ct K R (n + 1) 56 ls st σ k = (oL st fun y st => oL st fun x st => xk_X10_fits ct K R n 57 ls (vi (cmL x y) :: st) σ k) := exS_step.trans rfl
theorem ev_X10_fits_57 {ct : Nat → Bool} {K : Kt} {R : Option AV → Hp → Prop} {n : Nat} {ls : List (Option AV)} {st : List AV} {σ : Hp} {k : Nat × Nat} : xe_X10_fits ct K R (n + 1) 57 ls st σ k = (oI st fun x st => (wI x = wI 0 → xk_X10_fits ct K R n 62 ls st σ k) ∧ (¬ (wI x = wI 0) → xk_X10_fits ct K R n 60 ls st σ k)) := exS_step.trans rfl
theorem ev_X10_fits_60 {ct : Nat → Bool} {K : Kt} {R : Option AV → Hp → Prop} {n : Nat} {ls : List (Option AV)} {st : List AV} {σ : Hp} {k : Nat × Nat} : xe_X10_fits ct K R (n + 1) 60 ls st σ k = (xk_X10_fits ct K R n 61 ls (vi (0) :: st) σ k) := exS_step.trans rfl
theorem ev_X10_fits_61 {ct : Nat → Bool} {K : Kt} {R : Option AV → Hp → Prop} {n : Nat} {ls : List (Option AV)} {st : List AV} {σ : Hp} {k : Nat × Nat} : xe_X10_fits ct K R (n + 1) 61 ls st σ k = (oI st fun x st => st = [] ∧ (x = 0 ∨ x = 1) ∧ R (some (vi x)) σ) := exS_step.trans rfl
theorem ev_X10_fits_62 {ct : Nat → Bool} {K : Kt} {R : Option AV → Hp → Prop} {n : Nat} {ls : List (Option AV)} {st : List AV} {σ : Hp} {k : Nat × Nat} : xe_X10_fits ct K R (n + 1) 62 ls st σ k = (lI ls 3 fun x => 3 < 4 ∧ xk_X10_fits ct K R n 65 (stL ls 3 (vi (x + (1)))) st σ k) := exS_step.trans rfl
theorem ev_X10_fits_65 {ct : Nat → Bool} {K : Kt} {R : Option AV → Hp → Prop} {n : Nat} {ls : List (Option AV)} {st : List AV} {σ : Hp} {k : Nat × Nat} : xe_X10_fits ct K R (n + 1) 65 ls st σ k = (xk_X10_fits ct K R n 5 ls st σ k) := exS_step.trans rfl
theorem ev_X10_fits_68 {ct : Nat → Bool} {K : Kt} {R : Option AV → Hp → Prop} {n : Nat} {ls : List (Option AV)} {st : List AV} {σ : Hp} {k : Nat × Nat} : xe_X10_fits ct K R (n + 1) 68 ls st σ k = (xk_X10_fits ct K R n 69 ls (vi (1) :: st) σ k) := exS_step.trans rfl
theorem ev_X10_fits_69 {ct : Nat → Bool} {K : Kt} {R : Option AV → Hp → Prop} {n : Nat} {ls : List (Option AV)} {st : List AV} {σ : Hp} {k : Nat × Nat} : xe_X10_fits ct K R (n + 1) 69 ls st σ k = (oI st fun x st => st = [] ∧ (x = 0 ∨ x = 1) ∧ R (some (vi x)) σ) := exS_step.trans rfl
def M_X10_fits : Md := (yX10_fits, cX10_fits, 4, (some FieldType.boolean), 3, 0, 0, 2, false, tb_X10_fits, mt_X10_fits)
theorem mm_X10_fits : MMOK M_X10_fits := ⟨by decide +kernel, tk_X10_fits, mk_X10_fits, rfl, fun h => by cases h⟩
theorem go_X10_fits {Q : Option AV → Hp → Prop} {ct : Nat → Bool} {pc : Nat} {ls : List (Option AV)} {st : List AV} {σ : Hp} {k : Nat × Nat} (n : Nat) (h : xe_X10_fits ct (Go M_X10_fits Q) Q n pc ls st σ k) : Go M_X10_fits Q pc ls st σ k := Go.exS mm_X10_fits h

set_option maxRecDepth 20000 in
theorem c_X10_fits : Ct yX10_fits cX10_fits 4 ((some FieldType.boolean)) 3 0 0 sp_X10_fits := by
  refine Ct.go (M := M_X10_fits) mm_X10_fits fun av σ Q h0 => ?_
  obtain ⟨this, b, s, rfl, hk, h⟩ := el_X10_fits h0
  clear h0
  refine ⟨Nat.le_of_ble_eq_true rfl, ?_⟩
  show Go M_X10_fits Q 0 [some (vr this), some (vr b), some (vi s), none] [] σ (0, 0)
  obtain ⟨rfl, hC, hkb, hs, P, sp, hB, hI, h⟩ := h
  have loop : ∀ (m : Nat) (w : Int), 0 ≤ w → w + m = 5 → (∀ u, 0 ≤ u → u < 64 * w → whl σ b (u - s) = true → u < sp → P u) → Go M_X10_fits Q 5 [some (vr 4), some (vr b), some (vi s), some (vi w)] [] σ (0, 0) := by
    intro m
    induction m with
    | zero =>
      intro w w0 hw hno
      rw [b2i_t (fun u a b => hno u a (by omega))] at h
      have e5 : w = 5 := by omega
      subst e5
      clear hno hB hI
      refine go_X10_fits (ct := fun p => p == 18) 20 ?_
      simp only [oI, oL, oR, o1, lI, lL, lR, popN, catS, gv, stL, stL2, swt, cnd, spObj, List.getElem?_cons_zero, List.getElem?_cons_succ, List.getD_cons_zero, List.getD_cons_succ, List.set_cons_zero, List.set_cons_succ, List.nil_append, List.cons_append, Option.toList, Bool.or_false, Bool.false_or, Bool.or_true, Bool.true_or, Nat.reduceBEq, Nat.reduceAdd, Nat.reduceLT, Nat.reduceLeDiff, Int.reduceAdd, Int.reduceToNat, true_and, and_true, Fin.isValue, Fin.val_zero, Fin.val_one, Fin.val_two, Fin.reduceFinMk, eq_self, Int.reduceNeg, imp_self, Nat.reduceMul, Nat.le_refl, not_true_eq_false, not_false_eq_true, List.getElem?_nil, reduceCtorEq, true_or, or_true, Classical.not_not, implies_true, or_self, wI_0, wI_1, wI_m1, b2i_w, b2i_eq0, b2i_eq1, b2i_bool, nor_self, nx_pI, kd_pI, ln_pI, fI_pI, fL_pI, fR_pI, aI_pI, aL_pI, aR_pI, nx_pL, kd_pL, ln_pL, fI_pL, fL_pL, fR_pL, aI_pL, aL_pL, aR_pL, nx_pR, kd_pR, ln_pR, fI_pR, fL_pR, fR_pR, aI_pR, aL_pR, aR_pR, nx_qI, kd_qI, ln_qI, fI_qI, fL_qI, fR_qI, aI_qI, aL_qI, aR_qI, nx_qL, kd_qL, ln_qL, fI_qL, fL_qL, fR_qL, aI_qL, aL_qL, aR_qL, nx_qR, kd_qR, ln_qR, fI_qR, fL_qR, fR_qR, aI_qR, aL_qR, aR_qR, nx_mk, kd_mk, ln_mk, fI_mk, fL_mk, fR_mk, aI_mk, aL_mk, aR_mk, false_and, and_false, if_false, if_true, and_self, Int.reduceEq, Nat.reduceEqDiff, ite_self, MLay_pI, MLay_pL, MLay_qI, MLay_qL, ev_X10_fits_5, ev_X10_fits_6, ev_X10_fits_9, ev_X10_fits_10, ev_X10_fits_11, ev_X10_fits_14, ev_X10_fits_15, ev_X10_fits_68, ev_X10_fits_69, xt_X10_fits, xf_X10_fits, us_X2_wheelFrom, hk, hC.eqs]
      try simp (disch := omega) only [wI_id, dv_nn, rm_nn]
      repeat' (first | intro z | apply And.intro)
      all_goals try omega
      all_goals try contradiction
      all_goals exact h
    | succ m ih =>
      intro w w0 hw hno
      have hw5 : 0 ≤ w ∧ w < 5 := by omega
      have w37 : ∀ v : BitVec 64, (∀ j : Nat, j < 64 → v.getLsbD j = whl σ b (64 * w - s + j)) → Go M_X10_fits Q 37 [some (vr 4), some (vr b), some (vi s), some (vi w)] [vl v] σ (0, 0) := fun v hv => by
        have e := fit_word (v := v) (a := aL σ 6 w) (b := aL σ 5 w)
        by_cases c : (v &&& aL σ 6 w) &&& (aL σ 5 w ^^^ BitVec.ofInt 64 (-1)) = 0#64
        · have q := e.mp c
          have w2 := ih (w + 1) (by omega) (by omega) (fun u a b' z1 z2 => by
            by_cases y : u < 64 * w
            · exact hno u a y z1 z2
            · have hj : (u - 64 * w).toNat < 64 := by omega
              have e1 : 64 * w + (((u - 64 * w).toNat : Nat) : Int) = u := by omega
              have q1 := hv _ hj
              rw [show 64 * w - s + (((u - 64 * w).toNat : Nat) : Int) = u - s by omega, z1] at q1
              have q2 := (hI w hw5.1 hw5.2 _ hj).mpr (by show 64 * w + (((u - 64 * w).toNat : Nat) : Int) < sp; omega)
              have q3 := (hB w hw5.1 hw5.2 _ hj).mp (q _ hj q1 q2)
              rw [e1] at q3
              exact q3)
          have c2 : wI (cmL ((v &&& aL σ 6 w) &&& (aL σ 5 w ^^^ BitVec.ofInt 64 (-1))) (BitVec.ofNat 64 0)) = 0 := (cmL_0 _ _).mpr c
          clear ih h hB hI hno e q hv c
          refine go_X10_fits (ct := fun p => p == 60 || p == 5) 40 ?_
          simp only [oI, oL, oR, o1, lI, lL, lR, popN, catS, gv, stL, stL2, swt, cnd, spObj, List.getElem?_cons_zero, List.getElem?_cons_succ, List.getD_cons_zero, List.getD_cons_succ, List.set_cons_zero, List.set_cons_succ, List.nil_append, List.cons_append, Option.toList, Bool.or_false, Bool.false_or, Bool.or_true, Bool.true_or, Nat.reduceBEq, Nat.reduceAdd, Nat.reduceLT, Nat.reduceLeDiff, Int.reduceAdd, Int.reduceToNat, true_and, and_true, Fin.isValue, Fin.val_zero, Fin.val_one, Fin.val_two, Fin.reduceFinMk, eq_self, Int.reduceNeg, imp_self, Nat.reduceMul, Nat.le_refl, not_true_eq_false, not_false_eq_true, List.getElem?_nil, reduceCtorEq, true_or, or_true, Classical.not_not, implies_true, or_self, wI_0, wI_1, wI_m1, b2i_w, b2i_eq0, b2i_eq1, b2i_bool, nor_self, nx_pI, kd_pI, ln_pI, fI_pI, fL_pI, fR_pI, aI_pI, aL_pI, aR_pI, nx_pL, kd_pL, ln_pL, fI_pL, fL_pL, fR_pL, aI_pL, aL_pL, aR_pL, nx_pR, kd_pR, ln_pR, fI_pR, fL_pR, fR_pR, aI_pR, aL_pR, aR_pR, nx_qI, kd_qI, ln_qI, fI_qI, fL_qI, fR_qI, aI_qI, aL_qI, aR_qI, nx_qL, kd_qL, ln_qL, fI_qL, fL_qL, fR_qL, aI_qL, aL_qL, aR_qL, nx_qR, kd_qR, ln_qR, fI_qR, fL_qR, fR_qR, aI_qR, aL_qR, aR_qR, nx_mk, kd_mk, ln_mk, fI_mk, fL_mk, fR_mk, aI_mk, aL_mk, aR_mk, false_and, and_false, if_false, if_true, and_self, Int.reduceEq, Nat.reduceEqDiff, ite_self, MLay_pI, MLay_pL, MLay_qI, MLay_qL, ev_X10_fits_37, ev_X10_fits_38, ev_X10_fits_41, ev_X10_fits_42, ev_X10_fits_43, ev_X10_fits_44, ev_X10_fits_45, ev_X10_fits_48, ev_X10_fits_49, ev_X10_fits_50, ev_X10_fits_53, ev_X10_fits_54, ev_X10_fits_55, ev_X10_fits_56, ev_X10_fits_57, ev_X10_fits_60, ev_X10_fits_61, ev_X10_fits_62, ev_X10_fits_65, xt_X10_fits, xf_X10_fits, us_X2_wheelFrom, hk, hC.eqs, c2]
          try simp (disch := omega) only [wI_id, dv_nn, rm_nn]
          repeat' (first | intro z | apply And.intro)
          all_goals try omega
          all_goals try contradiction
          all_goals exact w2
        · have q : ¬ ∀ u, 0 ≤ u → u < 320 → whl σ b (u - s) = true → u < sp → P u := fun z => c (e.mpr fun j hj z1 z2 => by
            have y1 := hv j hj
            rw [z1] at y1
            have y2 := (hI w hw5.1 hw5.2 j hj).mp z2
            exact (hB w hw5.1 hw5.2 j hj).mpr (z (64 * w + j) (by omega) (by omega) (by rw [show 64 * w + (j : Int) - s = 64 * w - s + j by omega]; exact y1.symm) y2))
          rw [b2i_f q] at h
          have c2 : ¬ wI (cmL ((v &&& aL σ 6 w) &&& (aL σ 5 w ^^^ BitVec.ofInt 64 (-1))) (BitVec.ofNat 64 0)) = 0 := fun z => c ((cmL_0 _ _).mp z)
          clear ih hB hI hno e q hv c
          refine go_X10_fits (ct := fun p => p == 62) 40 ?_
          simp only [oI, oL, oR, o1, lI, lL, lR, popN, catS, gv, stL, stL2, swt, cnd, spObj, List.getElem?_cons_zero, List.getElem?_cons_succ, List.getD_cons_zero, List.getD_cons_succ, List.set_cons_zero, List.set_cons_succ, List.nil_append, List.cons_append, Option.toList, Bool.or_false, Bool.false_or, Bool.or_true, Bool.true_or, Nat.reduceBEq, Nat.reduceAdd, Nat.reduceLT, Nat.reduceLeDiff, Int.reduceAdd, Int.reduceToNat, true_and, and_true, Fin.isValue, Fin.val_zero, Fin.val_one, Fin.val_two, Fin.reduceFinMk, eq_self, Int.reduceNeg, imp_self, Nat.reduceMul, Nat.le_refl, not_true_eq_false, not_false_eq_true, List.getElem?_nil, reduceCtorEq, true_or, or_true, Classical.not_not, implies_true, or_self, wI_0, wI_1, wI_m1, b2i_w, b2i_eq0, b2i_eq1, b2i_bool, nor_self, nx_pI, kd_pI, ln_pI, fI_pI, fL_pI, fR_pI, aI_pI, aL_pI, aR_pI, nx_pL, kd_pL, ln_pL, fI_pL, fL_pL, fR_pL, aI_pL, aL_pL, aR_pL, nx_pR, kd_pR, ln_pR, fI_pR, fL_pR, fR_pR, aI_pR, aL_pR, aR_pR, nx_qI, kd_qI, ln_qI, fI_qI, fL_qI, fR_qI, aI_qI, aL_qI, aR_qI, nx_qL, kd_qL, ln_qL, fI_qL, fL_qL, fR_qL, aI_qL, aL_qL, aR_qL, nx_qR, kd_qR, ln_qR, fI_qR, fL_qR, fR_qR, aI_qR, aL_qR, aR_qR, nx_mk, kd_mk, ln_mk, fI_mk, fL_mk, fR_mk, aI_mk, aL_mk, aR_mk, false_and, and_false, if_false, if_true, and_self, Int.reduceEq, Nat.reduceEqDiff, ite_self, MLay_pI, MLay_pL, MLay_qI, MLay_qL, ev_X10_fits_37, ev_X10_fits_38, ev_X10_fits_41, ev_X10_fits_42, ev_X10_fits_43, ev_X10_fits_44, ev_X10_fits_45, ev_X10_fits_48, ev_X10_fits_49, ev_X10_fits_50, ev_X10_fits_53, ev_X10_fits_54, ev_X10_fits_55, ev_X10_fits_56, ev_X10_fits_57, ev_X10_fits_60, ev_X10_fits_61, xt_X10_fits, xf_X10_fits, us_X2_wheelFrom, hk, hC.eqs, c2]
          try simp (disch := omega) only [wI_id, dv_nn, rm_nn]
          repeat' (first | intro z | apply And.intro)
          all_goals try omega
          all_goals try contradiction
          all_goals exact h
      have hr : -4000000 ≤ 64 * w - s ∧ 64 * w - s ≤ 4000000 := by omega
      clear ih h hB hI hno
      refine go_X10_fits (ct := fun p => p == 37 || p == 68) 40 ?_
      simp only [oI, oL, oR, o1, lI, lL, lR, popN, catS, gv, stL, stL2, swt, cnd, spObj, List.getElem?_cons_zero, List.getElem?_cons_succ, List.getD_cons_zero, List.getD_cons_succ, List.set_cons_zero, List.set_cons_succ, List.nil_append, List.cons_append, Option.toList, Bool.or_false, Bool.false_or, Bool.or_true, Bool.true_or, Nat.reduceBEq, Nat.reduceAdd, Nat.reduceLT, Nat.reduceLeDiff, Int.reduceAdd, Int.reduceToNat, true_and, and_true, Fin.isValue, Fin.val_zero, Fin.val_one, Fin.val_two, Fin.reduceFinMk, eq_self, Int.reduceNeg, imp_self, Nat.reduceMul, Nat.le_refl, not_true_eq_false, not_false_eq_true, List.getElem?_nil, reduceCtorEq, true_or, or_true, Classical.not_not, implies_true, or_self, wI_0, wI_1, wI_m1, b2i_w, b2i_eq0, b2i_eq1, b2i_bool, nor_self, nx_pI, kd_pI, ln_pI, fI_pI, fL_pI, fR_pI, aI_pI, aL_pI, aR_pI, nx_pL, kd_pL, ln_pL, fI_pL, fL_pL, fR_pL, aI_pL, aL_pL, aR_pL, nx_pR, kd_pR, ln_pR, fI_pR, fL_pR, fR_pR, aI_pR, aL_pR, aR_pR, nx_qI, kd_qI, ln_qI, fI_qI, fL_qI, fR_qI, aI_qI, aL_qI, aR_qI, nx_qL, kd_qL, ln_qL, fI_qL, fL_qL, fR_qL, aI_qL, aL_qL, aR_qL, nx_qR, kd_qR, ln_qR, fI_qR, fL_qR, fR_qR, aI_qR, aL_qR, aR_qR, nx_mk, kd_mk, ln_mk, fI_mk, fL_mk, fR_mk, aI_mk, aL_mk, aR_mk, false_and, and_false, if_false, if_true, and_self, Int.reduceEq, Nat.reduceEqDiff, ite_self, MLay_pI, MLay_pL, MLay_qI, MLay_qL, ev_X10_fits_5, ev_X10_fits_6, ev_X10_fits_9, ev_X10_fits_10, ev_X10_fits_11, ev_X10_fits_14, ev_X10_fits_15, ev_X10_fits_18, ev_X10_fits_19, ev_X10_fits_20, ev_X10_fits_23, ev_X10_fits_24, ev_X10_fits_27, ev_X10_fits_28, ev_X10_fits_30, ev_X10_fits_31, ev_X10_fits_32, ev_X10_fits_33, ev_X10_fits_34, xt_X10_fits, xf_X10_fits, us_X2_wheelFrom, hk, hC.eqs, hkb, hr]
      try simp (disch := omega) only [wI_id, dv_nn, rm_nn]
      repeat' (first | intro z | apply And.intro)
      all_goals try omega
      all_goals try contradiction
      all_goals exact w37 _ ‹_›
  have w := loop (5 - s / 64).toNat (s / 64) (by omega) (by omega) (fun u a b z => by
    rw [whl_neg (by omega)] at z
    cases z)
  have e6 : shrI s 6 = s / 64 := shrI_6 (by omega)
  clear loop h
  refine go_X10_fits (ct := fun p => p == 5) 20 ?_
  simp only [oI, oL, oR, o1, lI, lL, lR, popN, catS, gv, stL, stL2, swt, cnd, spObj, List.getElem?_cons_zero, List.getElem?_cons_succ, List.getD_cons_zero, List.getD_cons_succ, List.set_cons_zero, List.set_cons_succ, List.nil_append, List.cons_append, Option.toList, Bool.or_false, Bool.false_or, Bool.or_true, Bool.true_or, Nat.reduceBEq, Nat.reduceAdd, Nat.reduceLT, Nat.reduceLeDiff, Int.reduceAdd, Int.reduceToNat, true_and, and_true, Fin.isValue, Fin.val_zero, Fin.val_one, Fin.val_two, Fin.reduceFinMk, eq_self, Int.reduceNeg, imp_self, Nat.reduceMul, Nat.le_refl, not_true_eq_false, not_false_eq_true, List.getElem?_nil, reduceCtorEq, true_or, or_true, Classical.not_not, implies_true, or_self, wI_0, wI_1, wI_m1, b2i_w, b2i_eq0, b2i_eq1, b2i_bool, nor_self, nx_pI, kd_pI, ln_pI, fI_pI, fL_pI, fR_pI, aI_pI, aL_pI, aR_pI, nx_pL, kd_pL, ln_pL, fI_pL, fL_pL, fR_pL, aI_pL, aL_pL, aR_pL, nx_pR, kd_pR, ln_pR, fI_pR, fL_pR, fR_pR, aI_pR, aL_pR, aR_pR, nx_qI, kd_qI, ln_qI, fI_qI, fL_qI, fR_qI, aI_qI, aL_qI, aR_qI, nx_qL, kd_qL, ln_qL, fI_qL, fL_qL, fR_qL, aI_qL, aL_qL, aR_qL, nx_qR, kd_qR, ln_qR, fI_qR, fL_qR, fR_qR, aI_qR, aL_qR, aR_qR, nx_mk, kd_mk, ln_mk, fI_mk, fL_mk, fR_mk, aI_mk, aL_mk, aR_mk, false_and, and_false, if_false, if_true, and_self, Int.reduceEq, Nat.reduceEqDiff, ite_self, MLay_pI, MLay_pL, MLay_qI, MLay_qL, ev_X10_fits_0, ev_X10_fits_1, ev_X10_fits_3, ev_X10_fits_4, xt_X10_fits, xf_X10_fits, us_X2_wheelFrom, e6]
  exact w

theorem strk_bit {a v : BitVec 64} {j : Nat} (hj : j < 64) : (a &&& (v ^^^ BitVec.ofInt 64 (-1))).getLsbD j = (a.getLsbD j && !v.getLsbD j) := by
  have m1 : BitVec.ofInt 64 (-1) = BitVec.allOnes 64 := by decide
  rw [m1, BitVec.getLsbD_and, BitVec.getLsbD_xor, BitVec.getLsbD_allOnes]
  simp [hj]

def sp_X10_strikeOut : Sp := fun av σ Q => oR av fun this av => oR av fun b av => oI av fun s av => oI av fun d av => av = [] ∧ kd σ this = 11 ∧ (this = 4 ∧ CLay σ ∧ kd σ b = 3 ∧ (0 ≤ s ∧ s < 300) ∧ (0 ≤ d ∧ d < 3) ∧ (∀ σ', Fz [] noR (fun r => r = 8 + (d + 1)) σ σ' → (∀ w, 0 ≤ w → w < 5 → ∀ j : Nat, j < 64 → (aL σ' (8 + (d + 1)) w).getLsbD j = ((aL σ (8 + d) w).getLsbD j && !whl σ b (64 * w + j - s))) → Q none σ'))
theorem us_X10_strikeOut (this : Int) (b : Int) (s : Int) (d : Int) (σ : Hp) (Q : Option AV → Hp → Prop) : sp_X10_strikeOut [vr this, vr b, vi s, vi d] σ Q = (kd σ this = 11 ∧ (this = 4 ∧ CLay σ ∧ kd σ b = 3 ∧ (0 ≤ s ∧ s < 300) ∧ (0 ≤ d ∧ d < 3) ∧ (∀ σ', Fz [] noR (fun r => r = 8 + (d + 1)) σ σ' → (∀ w, 0 ≤ w → w < 5 → ∀ j : Nat, j < 64 → (aL σ' (8 + (d + 1)) w).getLsbD j = ((aL σ (8 + d) w).getLsbD j && !whl σ b (64 * w + j - s))) → Q none σ'))) := propext ⟨fun h => h.2, fun h => ⟨rfl, h⟩⟩
theorem el_X10_strikeOut {av : List AV} {σ : Hp} {Q : Option AV → Hp → Prop} (h : sp_X10_strikeOut av σ Q) : ∃ (this : Int) (b : Int) (s : Int) (d : Int), av = [vr this, vr b, vi s, vi d] ∧ (kd σ this = 11 ∧ (this = 4 ∧ CLay σ ∧ kd σ b = 3 ∧ (0 ≤ s ∧ s < 300) ∧ (0 ≤ d ∧ d < 3) ∧ (∀ σ', Fz [] noR (fun r => r = 8 + (d + 1)) σ σ' → (∀ w, 0 ≤ w → w < 5 → ∀ j : Nat, j < 64 → (aL σ' (8 + (d + 1)) w).getLsbD j = ((aL σ (8 + d) w).getLsbD j && !whl σ b (64 * w + j - s))) → Q none σ'))) := by
  obtain ⟨this, a0, rfl, h0⟩ := oR_s h
  obtain ⟨b, a1, rfl, h1⟩ := oR_s h0
  obtain ⟨s, a2, rfl, h2⟩ := oI_s h1
  obtain ⟨d, a3, rfl, h3⟩ := oI_s h2
  obtain ⟨rfl, hz⟩ := h3
  exact ⟨this, b, s, d, rfl, hz⟩
theorem rc_X10_strikeOut : ∀ (av : List AV) (σ : Hp) (Q : Option AV → Hp → Prop), sp_X10_strikeOut av σ Q → ∃ r tl, av = vr r :: tl ∧ kd σ r = 10 + 1 := fun av σ Q h => by
  obtain ⟨this, b, s, d, rfl, hz, -⟩ := el_X10_strikeOut h
  exact ⟨this, _, rfl, hz⟩

def tb_X10_strikeOut : Tab := [(0, .iconst 0, 1, (0, 0, 0, 0)), (1, .istore 4, 2, (0, 0, 0, 0)), (3, .iload 4, 2, (0, 0, 0, 0)), (5, .iconst 5, 1, (0, 0, 0, 0)), (6, .if_icmp .ge 58, 3, (0, 0, 0, 0)), (9, .iload_n 3, 1, (0, 0, 0, 0)), (10, .ifCond .lt 48, 3, (0, 0, 0, 0)), (13, .iload_n 3, 1, (0, 0, 0, 0)), (14, .iconst 1, 1, (0, 0, 0, 0)), (15, .iadd, 1, (0, 0, 0, 0)), (16, .aload_n 0, 1, (0, 0, 0, 0)), (17, .getfield 20, 3, (11, 1102, 2, 0)), (20, .arraylength, 1, (0, 0, 0, 0)), (21, .if_icmp .ge 37, 3, (0, 0, 0, 0)), (24, .aload_n 0, 1, (0, 0, 0, 0)), (25, .getfield 20, 3, (11, 1102, 2, 0)), (28, .iload_n 3, 1, (0, 0, 0, 0)), (29, .iconst 1, 1, (0, 0, 0, 0)), (30, .iadd, 1, (0, 0, 0, 0)), (31, .aaload, 1, (0, 0, 0, 0)), (32, .iload 4, 2, (0, 0, 0, 0)), (34, .aload_n 0, 1, (0, 0, 0, 0)), (35, .iload_n 3, 1, (0, 0, 0, 0)), (36, .iload 4, 2, (0, 0, 0, 0)), (38, .invokevirtual 82, 3, (0, 0, 0, 0)), (41, .aload_n 1, 1, (0, 0, 0, 0)), (42, .bipush 64, 2, (0, 0, 0, 0)), (44, .iload 4, 2, (0, 0, 0, 0)), (46, .imul, 1, (0, 0, 0, 0)), (47, .iload_n 2, 1, (0, 0, 0, 0)), (48, .isub, 1, (0, 0, 0, 0)), (49, .invokevirtual 130, 3, (0, 0, 0, 0)), (52, .ldc2_w 76, 3, (1, 0, 0, -1)), (55, .lxor, 1, (0, 0, 0, 0)), (56, .land, 1, (0, 0, 0, 0)), (57, .lastore, 1, (0, 0, 0, 0)), (58, .iinc 4 1, 3, (0, 0, 0, 0)), (61, .goto (-58), 3, (0, 0, 0, 0)), (64, .return_, 1, (0, 0, 0, 0))]
set_option maxRecDepth 100000 in
theorem tk_X10_strikeOut : TOK RX10 false cX10_strikeOut tb_X10_strikeOut := chkT_ok ft_X10 (by decide +kernel)
def mt_X10_strikeOut : List (Nat × Mt) := [(656, 3, 0, 0, 1, sp_X10_openWord), (1040, 2, 0, 0, 1, sp_X2_wheelFrom)]
theorem em_X10_strikeOut : mt_X10_strikeOut.lookup 656 = some (3, 0, 0, 1, sp_X10_openWord) ∧ mt_X10_strikeOut.lookup 1040 = some (2, 0, 0, 1, sp_X2_wheelFrom) := ⟨rfl, rfl⟩
theorem mk_X10_strikeOut : MOK RX10 mt_X10_strikeOut := by
  intro q hq
  simp only [mt_X10_strikeOut, List.mem_cons, List.not_mem_nil, or_false] at hq
  rcases hq with rfl | rfl
  · exact rw_X10_656
  · exact rw_X10_1040
noncomputable def xe_X10_strikeOut (ct : Nat → Bool) (K : Kt) (R : Option AV → Hp → Prop) (n : Nat) : Kt := exS 5 3 0 0 0 tb_X10_strikeOut mt_X10_strikeOut ct K R n
noncomputable def xk_X10_strikeOut (ct : Nat → Bool) (K : Kt) (R : Option AV → Hp → Prop) (n : Nat) : Kt := exkS 5 3 0 0 0 tb_X10_strikeOut mt_X10_strikeOut ct K R n
theorem xt_X10_strikeOut {ct : Nat → Bool} {K : Kt} {R : Option AV → Hp → Prop} {n pc : Nat} {ls : List (Option AV)} {st : List AV} {σ : Hp} {k : Nat × Nat} (h : ct pc = true) : xk_X10_strikeOut ct K R n pc ls st σ k = K pc ls st σ k := by unfold xk_X10_strikeOut exkS; rw [h]
theorem xf_X10_strikeOut {ct : Nat → Bool} {K : Kt} {R : Option AV → Hp → Prop} {n pc : Nat} {ls : List (Option AV)} {st : List AV} {σ : Hp} {k : Nat × Nat} (h : ct pc = false) : xk_X10_strikeOut ct K R n pc ls st σ k = xe_X10_strikeOut ct K R n pc ls st σ k := by unfold xk_X10_strikeOut exkS xe_X10_strikeOut; rw [h]
theorem ev_X10_strikeOut_0 {ct : Nat → Bool} {K : Kt} {R : Option AV → Hp → Prop} {n : Nat} {ls : List (Option AV)} {st : List AV} {σ : Hp} {k : Nat × Nat} : xe_X10_strikeOut ct K R (n + 1) 0 ls st σ k = (xk_X10_strikeOut ct K R n 1 ls (vi (0) :: st) σ k) := exS_step.trans rfl
theorem ev_X10_strikeOut_1 {ct : Nat → Bool} {K : Kt} {R : Option AV → Hp → Prop} {n : Nat} {ls : List (Option AV)} {st : List AV} {σ : Hp} {k : Nat × Nat} : xe_X10_strikeOut ct K R (n + 1) 1 ls st σ k = (oI st fun x st => 4 < 5 ∧ xk_X10_strikeOut ct K R n 3 (stL ls 4 (vi x)) st σ k) := exS_step.trans rfl
theorem ev_X10_strikeOut_3 {ct : Nat → Bool} {K : Kt} {R : Option AV → Hp → Prop} {n : Nat} {ls : List (Option AV)} {st : List AV} {σ : Hp} {k : Nat × Nat} : xe_X10_strikeOut ct K R (n + 1) 3 ls st σ k = (lI ls 4 fun x => xk_X10_strikeOut ct K R n 5 ls (vi x :: st) σ k) := exS_step.trans rfl
theorem ev_X10_strikeOut_5 {ct : Nat → Bool} {K : Kt} {R : Option AV → Hp → Prop} {n : Nat} {ls : List (Option AV)} {st : List AV} {σ : Hp} {k : Nat × Nat} : xe_X10_strikeOut ct K R (n + 1) 5 ls st σ k = (xk_X10_strikeOut ct K R n 6 ls (vi (5) :: st) σ k) := exS_step.trans rfl
theorem ev_X10_strikeOut_6 {ct : Nat → Bool} {K : Kt} {R : Option AV → Hp → Prop} {n : Nat} {ls : List (Option AV)} {st : List AV} {σ : Hp} {k : Nat × Nat} : xe_X10_strikeOut ct K R (n + 1) 6 ls st σ k = (oI st fun y st => oI st fun x st => (wI y ≤ wI x → xk_X10_strikeOut ct K R n 64 ls st σ k) ∧ (¬ (wI y ≤ wI x) → xk_X10_strikeOut ct K R n 9 ls st σ k)) := exS_step.trans rfl
theorem ev_X10_strikeOut_9 {ct : Nat → Bool} {K : Kt} {R : Option AV → Hp → Prop} {n : Nat} {ls : List (Option AV)} {st : List AV} {σ : Hp} {k : Nat × Nat} : xe_X10_strikeOut ct K R (n + 1) 9 ls st σ k = (lI ls 3 fun x => xk_X10_strikeOut ct K R n 10 ls (vi x :: st) σ k) := exS_step.trans rfl
theorem ev_X10_strikeOut_10 {ct : Nat → Bool} {K : Kt} {R : Option AV → Hp → Prop} {n : Nat} {ls : List (Option AV)} {st : List AV} {σ : Hp} {k : Nat × Nat} : xe_X10_strikeOut ct K R (n + 1) 10 ls st σ k = (oI st fun x st => (wI x < wI 0 → xk_X10_strikeOut ct K R n 58 ls st σ k) ∧ (¬ (wI x < wI 0) → xk_X10_strikeOut ct K R n 13 ls st σ k)) := exS_step.trans rfl
theorem ev_X10_strikeOut_13 {ct : Nat → Bool} {K : Kt} {R : Option AV → Hp → Prop} {n : Nat} {ls : List (Option AV)} {st : List AV} {σ : Hp} {k : Nat × Nat} : xe_X10_strikeOut ct K R (n + 1) 13 ls st σ k = (lI ls 3 fun x => xk_X10_strikeOut ct K R n 14 ls (vi x :: st) σ k) := exS_step.trans rfl
theorem ev_X10_strikeOut_14 {ct : Nat → Bool} {K : Kt} {R : Option AV → Hp → Prop} {n : Nat} {ls : List (Option AV)} {st : List AV} {σ : Hp} {k : Nat × Nat} : xe_X10_strikeOut ct K R (n + 1) 14 ls st σ k = (xk_X10_strikeOut ct K R n 15 ls (vi (1) :: st) σ k) := exS_step.trans rfl
theorem ev_X10_strikeOut_15 {ct : Nat → Bool} {K : Kt} {R : Option AV → Hp → Prop} {n : Nat} {ls : List (Option AV)} {st : List AV} {σ : Hp} {k : Nat × Nat} : xe_X10_strikeOut ct K R (n + 1) 15 ls st σ k = (oI st fun y st => oI st fun x st => xk_X10_strikeOut ct K R n 16 ls (vi (x + y) :: st) σ k) := exS_step.trans rfl
theorem ev_X10_strikeOut_16 {ct : Nat → Bool} {K : Kt} {R : Option AV → Hp → Prop} {n : Nat} {ls : List (Option AV)} {st : List AV} {σ : Hp} {k : Nat × Nat} : xe_X10_strikeOut ct K R (n + 1) 16 ls st σ k = (lR ls 0 fun x => xk_X10_strikeOut ct K R n 17 ls (vr x :: st) σ k) := exS_step.trans rfl
theorem ev_X10_strikeOut_17 {ct : Nat → Bool} {K : Kt} {R : Option AV → Hp → Prop} {n : Nat} {ls : List (Option AV)} {st : List AV} {σ : Hp} {k : Nat × Nat} : xe_X10_strikeOut ct K R (n + 1) 17 ls st σ k = (oR st fun x st => kd σ x = 11 ∧ xk_X10_strikeOut ct K R n 20 ls (vr (fR σ 1102 x) :: st) σ k) := exS_step.trans rfl
theorem ev_X10_strikeOut_20 {ct : Nat → Bool} {K : Kt} {R : Option AV → Hp → Prop} {n : Nat} {ls : List (Option AV)} {st : List AV} {σ : Hp} {k : Nat × Nat} : xe_X10_strikeOut ct K R (n + 1) 20 ls st σ k = (oR st fun x st => (101 ≤ kd σ x ∨ kd σ x = 21) ∧ xk_X10_strikeOut ct K R n 21 ls (vi (ln σ x) :: st) σ k) := exS_step.trans rfl
theorem ev_X10_strikeOut_21 {ct : Nat → Bool} {K : Kt} {R : Option AV → Hp → Prop} {n : Nat} {ls : List (Option AV)} {st : List AV} {σ : Hp} {k : Nat × Nat} : xe_X10_strikeOut ct K R (n + 1) 21 ls st σ k = (oI st fun y st => oI st fun x st => (wI y ≤ wI x → xk_X10_strikeOut ct K R n 58 ls st σ k) ∧ (¬ (wI y ≤ wI x) → xk_X10_strikeOut ct K R n 24 ls st σ k)) := exS_step.trans rfl
theorem ev_X10_strikeOut_24 {ct : Nat → Bool} {K : Kt} {R : Option AV → Hp → Prop} {n : Nat} {ls : List (Option AV)} {st : List AV} {σ : Hp} {k : Nat × Nat} : xe_X10_strikeOut ct K R (n + 1) 24 ls st σ k = (lR ls 0 fun x => xk_X10_strikeOut ct K R n 25 ls (vr x :: st) σ k) := exS_step.trans rfl
theorem ev_X10_strikeOut_25 {ct : Nat → Bool} {K : Kt} {R : Option AV → Hp → Prop} {n : Nat} {ls : List (Option AV)} {st : List AV} {σ : Hp} {k : Nat × Nat} : xe_X10_strikeOut ct K R (n + 1) 25 ls st σ k = (oR st fun x st => kd σ x = 11 ∧ xk_X10_strikeOut ct K R n 28 ls (vr (fR σ 1102 x) :: st) σ k) := exS_step.trans rfl
theorem ev_X10_strikeOut_28 {ct : Nat → Bool} {K : Kt} {R : Option AV → Hp → Prop} {n : Nat} {ls : List (Option AV)} {st : List AV} {σ : Hp} {k : Nat × Nat} : xe_X10_strikeOut ct K R (n + 1) 28 ls st σ k = (lI ls 3 fun x => xk_X10_strikeOut ct K R n 29 ls (vi x :: st) σ k) := exS_step.trans rfl
theorem ev_X10_strikeOut_29 {ct : Nat → Bool} {K : Kt} {R : Option AV → Hp → Prop} {n : Nat} {ls : List (Option AV)} {st : List AV} {σ : Hp} {k : Nat × Nat} : xe_X10_strikeOut ct K R (n + 1) 29 ls st σ k = (xk_X10_strikeOut ct K R n 30 ls (vi (1) :: st) σ k) := exS_step.trans rfl
theorem ev_X10_strikeOut_30 {ct : Nat → Bool} {K : Kt} {R : Option AV → Hp → Prop} {n : Nat} {ls : List (Option AV)} {st : List AV} {σ : Hp} {k : Nat × Nat} : xe_X10_strikeOut ct K R (n + 1) 30 ls st σ k = (oI st fun y st => oI st fun x st => xk_X10_strikeOut ct K R n 31 ls (vi (x + y) :: st) σ k) := exS_step.trans rfl
theorem ev_X10_strikeOut_31 {ct : Nat → Bool} {K : Kt} {R : Option AV → Hp → Prop} {n : Nat} {ls : List (Option AV)} {st : List AV} {σ : Hp} {k : Nat × Nat} : xe_X10_strikeOut ct K R (n + 1) 31 ls st σ k = (oI st fun j st => oR st fun x st => (kd σ x = 105 ∨ kd σ x = 106 ∨ kd σ x = 107) ∧ (0 ≤ j ∧ j < ln σ x) ∧ xk_X10_strikeOut ct K R n 32 ls (vr (aR σ x j) :: st) σ k) := exS_step.trans rfl
theorem ev_X10_strikeOut_32 {ct : Nat → Bool} {K : Kt} {R : Option AV → Hp → Prop} {n : Nat} {ls : List (Option AV)} {st : List AV} {σ : Hp} {k : Nat × Nat} : xe_X10_strikeOut ct K R (n + 1) 32 ls st σ k = (lI ls 4 fun x => xk_X10_strikeOut ct K R n 34 ls (vi x :: st) σ k) := exS_step.trans rfl
theorem ev_X10_strikeOut_34 {ct : Nat → Bool} {K : Kt} {R : Option AV → Hp → Prop} {n : Nat} {ls : List (Option AV)} {st : List AV} {σ : Hp} {k : Nat × Nat} : xe_X10_strikeOut ct K R (n + 1) 34 ls st σ k = (lR ls 0 fun x => xk_X10_strikeOut ct K R n 35 ls (vr x :: st) σ k) := exS_step.trans rfl
theorem ev_X10_strikeOut_35 {ct : Nat → Bool} {K : Kt} {R : Option AV → Hp → Prop} {n : Nat} {ls : List (Option AV)} {st : List AV} {σ : Hp} {k : Nat × Nat} : xe_X10_strikeOut ct K R (n + 1) 35 ls st σ k = (lI ls 3 fun x => xk_X10_strikeOut ct K R n 36 ls (vi x :: st) σ k) := exS_step.trans rfl
theorem ev_X10_strikeOut_36 {ct : Nat → Bool} {K : Kt} {R : Option AV → Hp → Prop} {n : Nat} {ls : List (Option AV)} {st : List AV} {σ : Hp} {k : Nat × Nat} : xe_X10_strikeOut ct K R (n + 1) 36 ls st σ k = (lI ls 4 fun x => xk_X10_strikeOut ct K R n 38 ls (vi x :: st) σ k) := exS_step.trans rfl
theorem ev_X10_strikeOut_38 {ct : Nat → Bool} {K : Kt} {R : Option AV → Hp → Prop} {n : Nat} {ls : List (Option AV)} {st : List AV} {σ : Hp} {k : Nat × Nat} : xe_X10_strikeOut ct K R (n + 1) 38 ls st σ k = (popN 3 st [] fun av rest => (catS rest ≤ 8 ∧ 1 < 3 ∧ k.1 + 0 ≤ 0 ∧ k.2 + 0 ≤ 0) ∧ (sp_X10_openWord) av σ fun v σ' => xk_X10_strikeOut ct K R n 41 ls (v.toList ++ rest) σ' (k.1 + 0, k.2 + 0)) := exS_step.trans rfl
theorem ev_X10_strikeOut_41 {ct : Nat → Bool} {K : Kt} {R : Option AV → Hp → Prop} {n : Nat} {ls : List (Option AV)} {st : List AV} {σ : Hp} {k : Nat × Nat} : xe_X10_strikeOut ct K R (n + 1) 41 ls st σ k = (lR ls 1 fun x => xk_X10_strikeOut ct K R n 42 ls (vr x :: st) σ k) := exS_step.trans rfl
theorem ev_X10_strikeOut_42 {ct : Nat → Bool} {K : Kt} {R : Option AV → Hp → Prop} {n : Nat} {ls : List (Option AV)} {st : List AV} {σ : Hp} {k : Nat × Nat} : xe_X10_strikeOut ct K R (n + 1) 42 ls st σ k = (xk_X10_strikeOut ct K R n 44 ls (vi (64) :: st) σ k) := exS_step.trans rfl
theorem ev_X10_strikeOut_44 {ct : Nat → Bool} {K : Kt} {R : Option AV → Hp → Prop} {n : Nat} {ls : List (Option AV)} {st : List AV} {σ : Hp} {k : Nat × Nat} : xe_X10_strikeOut ct K R (n + 1) 44 ls st σ k = (lI ls 4 fun x => xk_X10_strikeOut ct K R n 46 ls (vi x :: st) σ k) := exS_step.trans rfl
theorem ev_X10_strikeOut_46 {ct : Nat → Bool} {K : Kt} {R : Option AV → Hp → Prop} {n : Nat} {ls : List (Option AV)} {st : List AV} {σ : Hp} {k : Nat × Nat} : xe_X10_strikeOut ct K R (n + 1) 46 ls st σ k = (oI st fun y st => oI st fun x st => xk_X10_strikeOut ct K R n 47 ls (vi (x * y) :: st) σ k) := exS_step.trans rfl
theorem ev_X10_strikeOut_47 {ct : Nat → Bool} {K : Kt} {R : Option AV → Hp → Prop} {n : Nat} {ls : List (Option AV)} {st : List AV} {σ : Hp} {k : Nat × Nat} : xe_X10_strikeOut ct K R (n + 1) 47 ls st σ k = (lI ls 2 fun x => xk_X10_strikeOut ct K R n 48 ls (vi x :: st) σ k) := exS_step.trans rfl
theorem ev_X10_strikeOut_48 {ct : Nat → Bool} {K : Kt} {R : Option AV → Hp → Prop} {n : Nat} {ls : List (Option AV)} {st : List AV} {σ : Hp} {k : Nat × Nat} : xe_X10_strikeOut ct K R (n + 1) 48 ls st σ k = (oI st fun y st => oI st fun x st => xk_X10_strikeOut ct K R n 49 ls (vi (x - y) :: st) σ k) := exS_step.trans rfl
theorem ev_X10_strikeOut_49 {ct : Nat → Bool} {K : Kt} {R : Option AV → Hp → Prop} {n : Nat} {ls : List (Option AV)} {st : List AV} {σ : Hp} {k : Nat × Nat} : xe_X10_strikeOut ct K R (n + 1) 49 ls st σ k = (popN 2 st [] fun av rest => (catS rest ≤ 8 ∧ 1 < 3 ∧ k.1 + 0 ≤ 0 ∧ k.2 + 0 ≤ 0) ∧ (sp_X2_wheelFrom) av σ fun v σ' => xk_X10_strikeOut ct K R n 52 ls (v.toList ++ rest) σ' (k.1 + 0, k.2 + 0)) := exS_step.trans rfl
theorem ev_X10_strikeOut_52 {ct : Nat → Bool} {K : Kt} {R : Option AV → Hp → Prop} {n : Nat} {ls : List (Option AV)} {st : List AV} {σ : Hp} {k : Nat × Nat} : xe_X10_strikeOut ct K R (n + 1) 52 ls st σ k = (xk_X10_strikeOut ct K R n 55 ls (vl (BitVec.ofInt 64 (-1)) :: st) σ k) := exS_step.trans rfl
theorem ev_X10_strikeOut_55 {ct : Nat → Bool} {K : Kt} {R : Option AV → Hp → Prop} {n : Nat} {ls : List (Option AV)} {st : List AV} {σ : Hp} {k : Nat × Nat} : xe_X10_strikeOut ct K R (n + 1) 55 ls st σ k = (oL st fun y st => oL st fun x st => xk_X10_strikeOut ct K R n 56 ls (vl (x ^^^ y) :: st) σ k) := exS_step.trans rfl
theorem ev_X10_strikeOut_56 {ct : Nat → Bool} {K : Kt} {R : Option AV → Hp → Prop} {n : Nat} {ls : List (Option AV)} {st : List AV} {σ : Hp} {k : Nat × Nat} : xe_X10_strikeOut ct K R (n + 1) 56 ls st σ k = (oL st fun y st => oL st fun x st => xk_X10_strikeOut ct K R n 57 ls (vl (x &&& y) :: st) σ k) := exS_step.trans rfl
theorem ev_X10_strikeOut_57 {ct : Nat → Bool} {K : Kt} {R : Option AV → Hp → Prop} {n : Nat} {ls : List (Option AV)} {st : List AV} {σ : Hp} {k : Nat × Nat} : xe_X10_strikeOut ct K R (n + 1) 57 ls st σ k = (oL st fun v st => oI st fun j st => oR st fun x st => kd σ x = 102 ∧ (0 ≤ j ∧ j < ln σ x) ∧ xk_X10_strikeOut ct K R n 58 ls st (qL σ x j v) k) := exS_step.trans rfl
theorem ev_X10_strikeOut_58 {ct : Nat → Bool} {K : Kt} {R : Option AV → Hp → Prop} {n : Nat} {ls : List (Option AV)} {st : List AV} {σ : Hp} {k : Nat × Nat} : xe_X10_strikeOut ct K R (n + 1) 58 ls st σ k = (lI ls 4 fun x => 4 < 5 ∧ xk_X10_strikeOut ct K R n 61 (stL ls 4 (vi (x + (1)))) st σ k) := exS_step.trans rfl
theorem ev_X10_strikeOut_61 {ct : Nat → Bool} {K : Kt} {R : Option AV → Hp → Prop} {n : Nat} {ls : List (Option AV)} {st : List AV} {σ : Hp} {k : Nat × Nat} : xe_X10_strikeOut ct K R (n + 1) 61 ls st σ k = (xk_X10_strikeOut ct K R n 3 ls st σ k) := exS_step.trans rfl
theorem ev_X10_strikeOut_64 {ct : Nat → Bool} {K : Kt} {R : Option AV → Hp → Prop} {n : Nat} {ls : List (Option AV)} {st : List AV} {σ : Hp} {k : Nat × Nat} : xe_X10_strikeOut ct K R (n + 1) 64 ls st σ k = (st = [] ∧ 0 = 0 ∧ R none σ) := exS_step.trans rfl
def M_X10_strikeOut : Md := (yX10_strikeOut, cX10_strikeOut, 5, (none : Option FieldType), 3, 0, 0, 0, false, tb_X10_strikeOut, mt_X10_strikeOut)
theorem mm_X10_strikeOut : MMOK M_X10_strikeOut := ⟨by decide +kernel, tk_X10_strikeOut, mk_X10_strikeOut, rfl, fun h => by cases h⟩
theorem go_X10_strikeOut {Q : Option AV → Hp → Prop} {ct : Nat → Bool} {pc : Nat} {ls : List (Option AV)} {st : List AV} {σ : Hp} {k : Nat × Nat} (n : Nat) (h : xe_X10_strikeOut ct (Go M_X10_strikeOut Q) Q n pc ls st σ k) : Go M_X10_strikeOut Q pc ls st σ k := Go.exS mm_X10_strikeOut h

set_option maxRecDepth 20000 in
theorem c_X10_strikeOut : Ct yX10_strikeOut cX10_strikeOut 5 ((none : Option FieldType)) 3 0 0 sp_X10_strikeOut := by
  refine Ct.go (M := M_X10_strikeOut) mm_X10_strikeOut fun av σ Q h0 => ?_
  obtain ⟨this, b, s, d, rfl, hk, h⟩ := el_X10_strikeOut h0
  clear h0
  refine ⟨Nat.le_of_ble_eq_true rfl, ?_⟩
  show Go M_X10_strikeOut Q 0 [some (vr this), some (vr b), some (vi s), some (vi d), none] [] σ (0, 0)
  obtain ⟨rfl, hC, hkb, hs, hd, h⟩ := h
  have loop : ∀ (m : Nat) (w : Int) (ρ : Hp), 0 ≤ w → w + m = 5 → Fz [] noR (fun r => r = 8 + (d + 1)) σ ρ → (∀ w', 0 ≤ w' → w' < w → ∀ j : Nat, j < 64 → (aL ρ (8 + (d + 1)) w').getLsbD j = ((aL σ (8 + d) w').getLsbD j && !whl σ b (64 * w' + j - s))) → Go M_X10_strikeOut Q 3 [some (vr 4), some (vr b), some (vi s), some (vi d), some (vi w)] [] ρ (0, 0) := by
    intro m
    induction m with
    | zero =>
      intro w ρ w0 hw zz hno
      have h := h ρ zz (fun w' a b => hno w' a (by omega))
      have e5 : w = 5 := by omega
      subst e5
      clear hno zz
      refine go_X10_strikeOut (ct := fun p => p == 9) 20 ?_
      simp only [oI, oL, oR, o1, lI, lL, lR, popN, catS, gv, stL, stL2, swt, cnd, spObj, List.getElem?_cons_zero, List.getElem?_cons_succ, List.getD_cons_zero, List.getD_cons_succ, List.set_cons_zero, List.set_cons_succ, List.nil_append, List.cons_append, Option.toList, Bool.or_false, Bool.false_or, Bool.or_true, Bool.true_or, Nat.reduceBEq, Nat.reduceAdd, Nat.reduceLT, Nat.reduceLeDiff, Int.reduceAdd, Int.reduceToNat, true_and, and_true, Fin.isValue, Fin.val_zero, Fin.val_one, Fin.val_two, Fin.reduceFinMk, eq_self, Int.reduceNeg, imp_self, Nat.reduceMul, Nat.le_refl, not_true_eq_false, not_false_eq_true, List.getElem?_nil, reduceCtorEq, true_or, or_true, Classical.not_not, implies_true, or_self, wI_0, wI_1, wI_m1, b2i_w, b2i_eq0, b2i_eq1, b2i_bool, nor_self, nx_pI, kd_pI, ln_pI, fI_pI, fL_pI, fR_pI, aI_pI, aL_pI, aR_pI, nx_pL, kd_pL, ln_pL, fI_pL, fL_pL, fR_pL, aI_pL, aL_pL, aR_pL, nx_pR, kd_pR, ln_pR, fI_pR, fL_pR, fR_pR, aI_pR, aL_pR, aR_pR, nx_qI, kd_qI, ln_qI, fI_qI, fL_qI, fR_qI, aI_qI, aL_qI, aR_qI, nx_qL, kd_qL, ln_qL, fI_qL, fL_qL, fR_qL, aI_qL, aL_qL, aR_qL, nx_qR, kd_qR, ln_qR, fI_qR, fL_qR, fR_qR, aI_qR, aL_qR, aR_qR, nx_mk, kd_mk, ln_mk, fI_mk, fL_mk, fR_mk, aI_mk, aL_mk, aR_mk, false_and, and_false, if_false, if_true, and_self, Int.reduceEq, Nat.reduceEqDiff, ite_self, MLay_pI, MLay_pL, MLay_qI, MLay_qL, ev_X10_strikeOut_3, ev_X10_strikeOut_5, ev_X10_strikeOut_6, ev_X10_strikeOut_64, xt_X10_strikeOut, xf_X10_strikeOut, us_X10_openWord, us_X2_wheelFrom]
      try simp (disch := omega) only [wI_id, dv_nn, rm_nn]
      repeat' (first | intro z | apply And.intro)
      all_goals try omega
      all_goals try contradiction
      all_goals exact h
    | succ m ih =>
      intro w ρ w0 hw zz hno
      have hw5 : 0 ≤ w ∧ w < 5 := by omega
      have C := hC.fz zz (by decide)
      have g := row_at C (show 0 ≤ d + 1 ∧ d + 1 < 4 by omega)
      have g1 := g.1
      have g2 := g.2.1
      have g3 := g.2.2
      have hd4 : 0 ≤ d ∧ d < 4 := by omega
      have ew : ∀ o, whl ρ b o = whl σ b o := fun o => by unfold whl; rw [zz.fL (by decide), zz.fL (by decide)]
      have eo : aL ρ (8 + d) = aL σ (8 + d) := zz.aL (by omega)
      have k2 : kd ρ 4 = 11 := by simp only [C.eqs]
      have kb2 : kd ρ b = 3 := by rw [zz.kd]; exact hkb
      have w52 : ∀ v : BitVec 64, (∀ j : Nat, j < 64 → v.getLsbD j = whl ρ b (64 * w - s + j)) → Go M_X10_strikeOut Q 52 [some (vr 4), some (vr b), some (vi s), some (vi d), some (vi w)] [vl v, vl (aL ρ (8 + d) w), vi w, vr (8 + (d + 1))] ρ (0, 0) := fun v hv => by
        have w2 := ih (w + 1) (qL ρ (8 + (d + 1)) w (aL ρ (8 + d) w &&& (v ^^^ BitVec.ofInt 64 (-1)))) (by omega) (by omega) (zz.tr (Fz_qL _ _ _ rfl)) (fun w' a b' j hj => by
          rw [aL_qL]
          by_cases e : w' = w
          · rw [if_pos ⟨rfl, e⟩, strk_bit hj, hv j hj, ew, eo, e, show 64 * w - s + (j : Int) = 64 * w + j - s by omega]
          · rw [if_neg (fun q => e q.2)]
            exact hno w' a (by omega) j hj)
        clear ih h hno zz hv
        refine go_X10_strikeOut (ct := fun p => p == 3) 20 ?_
        simp only [oI, oL, oR, o1, lI, lL, lR, popN, catS, gv, stL, stL2, swt, cnd, spObj, List.getElem?_cons_zero, List.getElem?_cons_succ, List.getD_cons_zero, List.getD_cons_succ, List.set_cons_zero, List.set_cons_succ, List.nil_append, List.cons_append, Option.toList, Bool.or_false, Bool.false_or, Bool.or_true, Bool.true_or, Nat.reduceBEq, Nat.reduceAdd, Nat.reduceLT, Nat.reduceLeDiff, Int.reduceAdd, Int.reduceToNat, true_and, and_true, Fin.isValue, Fin.val_zero, Fin.val_one, Fin.val_two, Fin.reduceFinMk, eq_self, Int.reduceNeg, imp_self, Nat.reduceMul, Nat.le_refl, not_true_eq_false, not_false_eq_true, List.getElem?_nil, reduceCtorEq, true_or, or_true, Classical.not_not, implies_true, or_self, wI_0, wI_1, wI_m1, b2i_w, b2i_eq0, b2i_eq1, b2i_bool, nor_self, nx_pI, kd_pI, ln_pI, fI_pI, fL_pI, fR_pI, aI_pI, aL_pI, aR_pI, nx_pL, kd_pL, ln_pL, fI_pL, fL_pL, fR_pL, aI_pL, aL_pL, aR_pL, nx_pR, kd_pR, ln_pR, fI_pR, fL_pR, fR_pR, aI_pR, aL_pR, aR_pR, nx_qI, kd_qI, ln_qI, fI_qI, fL_qI, fR_qI, aI_qI, aL_qI, aR_qI, nx_qL, kd_qL, ln_qL, fI_qL, fL_qL, fR_qL, aI_qL, aL_qL, aR_qL, nx_qR, kd_qR, ln_qR, fI_qR, fL_qR, fR_qR, aI_qR, aL_qR, aR_qR, nx_mk, kd_mk, ln_mk, fI_mk, fL_mk, fR_mk, aI_mk, aL_mk, aR_mk, false_and, and_false, if_false, if_true, and_self, Int.reduceEq, Nat.reduceEqDiff, ite_self, MLay_pI, MLay_pL, MLay_qI, MLay_qL, ev_X10_strikeOut_52, ev_X10_strikeOut_55, ev_X10_strikeOut_56, ev_X10_strikeOut_57, ev_X10_strikeOut_58, ev_X10_strikeOut_61, xt_X10_strikeOut, xf_X10_strikeOut, us_X10_openWord, us_X2_wheelFrom, g2, g3]
        try simp (disch := omega) only [wI_id, dv_nn, rm_nn]
        repeat' (first | intro z | apply And.intro)
        all_goals try omega
        all_goals try contradiction
        all_goals exact w2
      have hr : -4000000 ≤ 64 * w - s ∧ 64 * w - s ≤ 4000000 := by omega
      clear ih h hno zz
      refine go_X10_strikeOut (ct := fun p => p == 52 || p == 58 || p == 64) 60 ?_
      simp only [oI, oL, oR, o1, lI, lL, lR, popN, catS, gv, stL, stL2, swt, cnd, spObj, List.getElem?_cons_zero, List.getElem?_cons_succ, List.getD_cons_zero, List.getD_cons_succ, List.set_cons_zero, List.set_cons_succ, List.nil_append, List.cons_append, Option.toList, Bool.or_false, Bool.false_or, Bool.or_true, Bool.true_or, Nat.reduceBEq, Nat.reduceAdd, Nat.reduceLT, Nat.reduceLeDiff, Int.reduceAdd, Int.reduceToNat, true_and, and_true, Fin.isValue, Fin.val_zero, Fin.val_one, Fin.val_two, Fin.reduceFinMk, eq_self, Int.reduceNeg, imp_self, Nat.reduceMul, Nat.le_refl, not_true_eq_false, not_false_eq_true, List.getElem?_nil, reduceCtorEq, true_or, or_true, Classical.not_not, implies_true, or_self, wI_0, wI_1, wI_m1, b2i_w, b2i_eq0, b2i_eq1, b2i_bool, nor_self, nx_pI, kd_pI, ln_pI, fI_pI, fL_pI, fR_pI, aI_pI, aL_pI, aR_pI, nx_pL, kd_pL, ln_pL, fI_pL, fL_pL, fR_pL, aI_pL, aL_pL, aR_pL, nx_pR, kd_pR, ln_pR, fI_pR, fL_pR, fR_pR, aI_pR, aL_pR, aR_pR, nx_qI, kd_qI, ln_qI, fI_qI, fL_qI, fR_qI, aI_qI, aL_qI, aR_qI, nx_qL, kd_qL, ln_qL, fI_qL, fL_qL, fR_qL, aI_qL, aL_qL, aR_qL, nx_qR, kd_qR, ln_qR, fI_qR, fL_qR, fR_qR, aI_qR, aL_qR, aR_qR, nx_mk, kd_mk, ln_mk, fI_mk, fL_mk, fR_mk, aI_mk, aL_mk, aR_mk, false_and, and_false, if_false, if_true, and_self, Int.reduceEq, Nat.reduceEqDiff, ite_self, MLay_pI, MLay_pL, MLay_qI, MLay_qL, ev_X10_strikeOut_3, ev_X10_strikeOut_5, ev_X10_strikeOut_6, ev_X10_strikeOut_9, ev_X10_strikeOut_10, ev_X10_strikeOut_13, ev_X10_strikeOut_14, ev_X10_strikeOut_15, ev_X10_strikeOut_16, ev_X10_strikeOut_17, ev_X10_strikeOut_20, ev_X10_strikeOut_21, ev_X10_strikeOut_24, ev_X10_strikeOut_25, ev_X10_strikeOut_28, ev_X10_strikeOut_29, ev_X10_strikeOut_30, ev_X10_strikeOut_31, ev_X10_strikeOut_32, ev_X10_strikeOut_34, ev_X10_strikeOut_35, ev_X10_strikeOut_36, ev_X10_strikeOut_38, ev_X10_strikeOut_41, ev_X10_strikeOut_42, ev_X10_strikeOut_44, ev_X10_strikeOut_46, ev_X10_strikeOut_47, ev_X10_strikeOut_48, ev_X10_strikeOut_49, xt_X10_strikeOut, xf_X10_strikeOut, us_X10_openWord, us_X2_wheelFrom, k2, C, C.eqs, kb2, hr, g1, hd4, hw5]
      try simp (disch := omega) only [wI_id, dv_nn, rm_nn]
      repeat' (first | intro z | apply And.intro)
      all_goals try omega
      all_goals try contradiction
      all_goals exact w52 _ ‹_›
  have w := loop 5 0 σ (by omega) (by omega) (Fz.rf σ) (fun w' a b => by omega)
  clear loop h
  refine go_X10_strikeOut (ct := fun p => p == 3) 20 ?_
  simp only [oI, oL, oR, o1, lI, lL, lR, popN, catS, gv, stL, stL2, swt, cnd, spObj, List.getElem?_cons_zero, List.getElem?_cons_succ, List.getD_cons_zero, List.getD_cons_succ, List.set_cons_zero, List.set_cons_succ, List.nil_append, List.cons_append, Option.toList, Bool.or_false, Bool.false_or, Bool.or_true, Bool.true_or, Nat.reduceBEq, Nat.reduceAdd, Nat.reduceLT, Nat.reduceLeDiff, Int.reduceAdd, Int.reduceToNat, true_and, and_true, Fin.isValue, Fin.val_zero, Fin.val_one, Fin.val_two, Fin.reduceFinMk, eq_self, Int.reduceNeg, imp_self, Nat.reduceMul, Nat.le_refl, not_true_eq_false, not_false_eq_true, List.getElem?_nil, reduceCtorEq, true_or, or_true, Classical.not_not, implies_true, or_self, wI_0, wI_1, wI_m1, b2i_w, b2i_eq0, b2i_eq1, b2i_bool, nor_self, nx_pI, kd_pI, ln_pI, fI_pI, fL_pI, fR_pI, aI_pI, aL_pI, aR_pI, nx_pL, kd_pL, ln_pL, fI_pL, fL_pL, fR_pL, aI_pL, aL_pL, aR_pL, nx_pR, kd_pR, ln_pR, fI_pR, fL_pR, fR_pR, aI_pR, aL_pR, aR_pR, nx_qI, kd_qI, ln_qI, fI_qI, fL_qI, fR_qI, aI_qI, aL_qI, aR_qI, nx_qL, kd_qL, ln_qL, fI_qL, fL_qL, fR_qL, aI_qL, aL_qL, aR_qL, nx_qR, kd_qR, ln_qR, fI_qR, fL_qR, fR_qR, aI_qR, aL_qR, aR_qR, nx_mk, kd_mk, ln_mk, fI_mk, fL_mk, fR_mk, aI_mk, aL_mk, aR_mk, false_and, and_false, if_false, if_true, and_self, Int.reduceEq, Nat.reduceEqDiff, ite_self, MLay_pI, MLay_pL, MLay_qI, MLay_qL, ev_X10_strikeOut_0, ev_X10_strikeOut_1, xt_X10_strikeOut, xf_X10_strikeOut, us_X10_openWord, us_X2_wheelFrom]
  exact w

def srtN (pk : List Int) (a : Nat) : List Int := (List.range a).flatMap (fun a : Nat => pk.filter (fun p => decide (p / 300 = (a : Int))))
theorem srt_N (pk : List Int) : srt pk = srtN pk 12 := by
  unfold srt srtN
  rfl
theorem srtN_s (pk : List Int) (a : Nat) : srtN pk (a + 1) = srtN pk a ++ pk.filter (fun p => decide (p / 300 = (a : Int))) := by
  unfold srtN
  rw [List.range_succ, List.flatMap_append, List.flatMap_singleton]
theorem keyL_snoc (x : List Int) (p : Int) : keyL (x ++ [p]) = keyL x * 8192 + k13 p := by
  unfold keyL
  rw [List.foldl_append]
  rfl
theorem keyL_acc : ∀ (x : List Int) (a : Int), (∀ p ∈ x, 0 ≤ p ∧ p / 300 < 12) → 0 ≤ a → 0 ≤ x.foldl (fun a p => a * 8192 + k13 p) a ∧ x.foldl (fun a p => a * 8192 + k13 p) a < (a + 1) * 8192 ^ x.length
  | [], a, _, h => by
    show 0 ≤ a ∧ a < (a + 1) * 8192 ^ 0
    rw [Int.pow_zero]
    omega
  | p :: x, a, h, ha => by
    have hp := h p List.mem_cons_self
    have h13 : 0 ≤ k13 p ∧ k13 p < 8192 := by unfold k13; omega
    have ih := keyL_acc x (a * 8192 + k13 p) (fun q hq => h q (List.mem_cons_of_mem _ hq)) (by omega)
    rw [List.foldl_cons, List.length_cons, Int.pow_succ]
    refine ⟨ih.1, ?_⟩
    have hpos : (0 : Int) ≤ 8192 ^ x.length := Int.le_of_lt (Int.pow_pos (by decide))
    have h1 := Int.mul_le_mul_of_nonneg_right (show a * 8192 + k13 p + 1 ≤ (a + 1) * 8192 by omega) hpos
    have e : (a + 1) * 8192 * 8192 ^ x.length = (a + 1) * (8192 ^ x.length * 8192) := by rw [Int.mul_assoc, Int.mul_comm 8192]
    rw [e] at h1
    omega
theorem keyL_in (x : List Int) (h : ∀ p ∈ x, 0 ≤ p ∧ p / 300 < 12) : 0 ≤ keyL x ∧ keyL x < 8192 ^ x.length := by
  have := keyL_acc x 0 h (Int.le_refl _)
  rw [Int.zero_add, Int.one_mul] at this
  exact this
theorem key_or {k a s : Int} (hk : 0 ≤ k ∧ k < 67108864) (ha : 0 ≤ a ∧ a < 12) (hs : 0 ≤ s ∧ s < 512) : ((BitVec.ofInt 64 k <<< 13) ||| BitVec.ofInt 64 (a * 512)) ||| BitVec.ofInt 64 s = BitVec.ofInt 64 (k * 8192 + (a * 512 + s)) := by
  obtain ⟨k, rfl⟩ : ∃ n : Nat, k = n := ⟨k.toNat, by omega⟩
  obtain ⟨a, rfl⟩ : ∃ n : Nat, a = n := ⟨a.toNat, by omega⟩
  obtain ⟨s, rfl⟩ : ∃ n : Nat, s = n := ⟨s.toNat, by omega⟩
  have h1 : ((k : Int) * 8192 + ((a : Int) * 512 + s)) = ((k * 8192 + (a * 512 + s) : Nat) : Int) := by omega
  have h2 : (a : Int) * 512 = ((a * 512 : Nat) : Int) := by omega
  rw [h1, h2, BitVec.ofInt_natCast, BitVec.ofInt_natCast, BitVec.ofInt_natCast, BitVec.ofInt_natCast]
  apply BitVec.eq_of_toNat_eq
  rw [BitVec.toNat_or, BitVec.toNat_or, BitVec.toNat_shiftLeft, BitVec.toNat_ofNat, BitVec.toNat_ofNat, BitVec.toNat_ofNat, BitVec.toNat_ofNat]
  rw [Nat.mod_eq_of_lt (show k < 2 ^ 64 by omega), Nat.mod_eq_of_lt (show a * 512 < 2 ^ 64 by omega), Nat.mod_eq_of_lt (show s < 2 ^ 64 by omega), Nat.mod_eq_of_lt (show k * 8192 + (a * 512 + s) < 2 ^ 64 by omega)]
  have e1 : k <<< 13 = k * 8192 := by rw [Nat.shiftLeft_eq]
  rw [e1, Nat.mod_eq_of_lt (show k * 8192 < 2 ^ 64 by omega)]
  have e2 : k * 8192 ||| a * 512 = k * 8192 + a * 512 := by
    have := Nat.shiftLeft_add_eq_or_of_lt (show a * 512 < 2 ^ 13 by omega) k
    rw [e1] at this
    exact this.symm
  have e3 : (k * 16 + a) <<< 9 = k * 8192 + a * 512 := by rw [Nat.shiftLeft_eq]; omega
  rw [e2, ← e3, ← Nat.shiftLeft_add_eq_or_of_lt (show s < 2 ^ 9 by omega), e3]
  omega
theorem take_snoc {xs : List Int} {i : Nat} {p : Int} (h : xs[i]? = some p) : xs.take (i + 1) = xs.take i ++ [p] := by
  rw [List.take_add_one, h]
  rfl

def sp_X10_keyOfPicked : Sp := fun av σ Q => oR av fun this av => av = [] ∧ kd σ this = 11 ∧ (this = 4 ∧ CLay σ ∧ ∃ pk : List Int, pk.length ≤ 3 ∧ fI σ 1108 4 = pk.length ∧ (∀ p ∈ pk, 0 ≤ p ∧ p / 300 < 12) ∧ (∀ (i : Nat) (p : Int), pk[i]? = some p → aI σ 12 i = p / 300 ∧ aI σ 13 i = p % 300) ∧ pk.Pairwise (fun p q => p / 300 ≠ q / 300) ∧ Q (some (vl (BitVec.ofInt 64 (keyL (srt pk))))) σ)
theorem us_X10_keyOfPicked (this : Int) (σ : Hp) (Q : Option AV → Hp → Prop) : sp_X10_keyOfPicked [vr this] σ Q = (kd σ this = 11 ∧ (this = 4 ∧ CLay σ ∧ ∃ pk : List Int, pk.length ≤ 3 ∧ fI σ 1108 4 = pk.length ∧ (∀ p ∈ pk, 0 ≤ p ∧ p / 300 < 12) ∧ (∀ (i : Nat) (p : Int), pk[i]? = some p → aI σ 12 i = p / 300 ∧ aI σ 13 i = p % 300) ∧ pk.Pairwise (fun p q => p / 300 ≠ q / 300) ∧ Q (some (vl (BitVec.ofInt 64 (keyL (srt pk))))) σ)) := propext ⟨fun h => h.2, fun h => ⟨rfl, h⟩⟩
theorem el_X10_keyOfPicked {av : List AV} {σ : Hp} {Q : Option AV → Hp → Prop} (h : sp_X10_keyOfPicked av σ Q) : ∃ (this : Int), av = [vr this] ∧ (kd σ this = 11 ∧ (this = 4 ∧ CLay σ ∧ ∃ pk : List Int, pk.length ≤ 3 ∧ fI σ 1108 4 = pk.length ∧ (∀ p ∈ pk, 0 ≤ p ∧ p / 300 < 12) ∧ (∀ (i : Nat) (p : Int), pk[i]? = some p → aI σ 12 i = p / 300 ∧ aI σ 13 i = p % 300) ∧ pk.Pairwise (fun p q => p / 300 ≠ q / 300) ∧ Q (some (vl (BitVec.ofInt 64 (keyL (srt pk))))) σ)) := by
  obtain ⟨this, a0, rfl, h0⟩ := oR_s h
  obtain ⟨rfl, hz⟩ := h0
  exact ⟨this, rfl, hz⟩
theorem rc_X10_keyOfPicked : ∀ (av : List AV) (σ : Hp) (Q : Option AV → Hp → Prop), sp_X10_keyOfPicked av σ Q → ∃ r tl, av = vr r :: tl ∧ kd σ r = 10 + 1 := fun av σ Q h => by
  obtain ⟨this, rfl, hz, -⟩ := el_X10_keyOfPicked h
  exact ⟨this, _, rfl, hz⟩

def tb_X10_keyOfPicked : Tab := [(0, .lconst 0, 1, (0, 0, 0, 0)), (1, .lstore_n 1, 1, (0, 0, 0, 0)), (2, .iconst 0, 1, (0, 0, 0, 0)), (3, .istore_n 3, 1, (0, 0, 0, 0)), (4, .iload_n 3, 1, (0, 0, 0, 0)), (5, .bipush 12, 2, (0, 0, 0, 0)), (7, .if_icmp .ge 78, 3, (0, 0, 0, 0)), (10, .iconst 0, 1, (0, 0, 0, 0)), (11, .istore 4, 2, (0, 0, 0, 0)), (13, .iload 4, 2, (0, 0, 0, 0)), (15, .aload_n 0, 1, (0, 0, 0, 0)), (16, .getfield 44, 3, (11, 1108, 0, 0)), (19, .if_icmp .ge 60, 3, (0, 0, 0, 0)), (22, .iload 4, 2, (0, 0, 0, 0)), (24, .aload_n 0, 1, (0, 0, 0, 0)), (25, .getfield 23, 3, (11, 1103, 2, 0)), (28, .arraylength, 1, (0, 0, 0, 0)), (29, .if_icmp .ge 50, 3, (0, 0, 0, 0)), (32, .iload 4, 2, (0, 0, 0, 0)), (34, .aload_n 0, 1, (0, 0, 0, 0)), (35, .getfield 27, 3, (11, 1104, 2, 0)), (38, .arraylength, 1, (0, 0, 0, 0)), (39, .if_icmp .ge 40, 3, (0, 0, 0, 0)), (42, .aload_n 0, 1, (0, 0, 0, 0)), (43, .getfield 23, 3, (11, 1103, 2, 0)), (46, .iload 4, 2, (0, 0, 0, 0)), (48, .iaload, 1, (0, 0, 0, 0)), (49, .iload_n 3, 1, (0, 0, 0, 0)), (50, .if_icmp .ne 23, 3, (0, 0, 0, 0)), (53, .lload_n 1, 1, (0, 0, 0, 0)), (54, .bipush 13, 2, (0, 0, 0, 0)), (56, .lshl, 1, (0, 0, 0, 0)), (57, .iload_n 3, 1, (0, 0, 0, 0)), (58, .bipush 9, 2, (0, 0, 0, 0)), (60, .ishl, 1, (0, 0, 0, 0)), (61, .i2l, 1, (0, 0, 0, 0)), (62, .lor, 1, (0, 0, 0, 0)), (63, .aload_n 0, 1, (0, 0, 0, 0)), (64, .getfield 27, 3, (11, 1104, 2, 0)), (67, .iload 4, 2, (0, 0, 0, 0)), (69, .iaload, 1, (0, 0, 0, 0)), (70, .i2l, 1, (0, 0, 0, 0)), (71, .lor, 1, (0, 0, 0, 0)), (72, .lstore_n 1, 1, (0, 0, 0, 0)), (73, .iinc 4 1, 3, (0, 0, 0, 0)), (76, .goto (-63), 3, (0, 0, 0, 0)), (79, .iinc 3 1, 3, (0, 0, 0, 0)), (82, .goto (-78), 3, (0, 0, 0, 0)), (85, .lload_n 1, 1, (0, 0, 0, 0)), (86, .lreturn, 1, (0, 0, 0, 0))]
set_option maxRecDepth 100000 in
theorem tk_X10_keyOfPicked : TOK RX10 false cX10_keyOfPicked tb_X10_keyOfPicked := chkT_ok ft_X10 (by decide +kernel)
def mt_X10_keyOfPicked : List (Nat × Mt) := []
theorem mk_X10_keyOfPicked : MOK RX10 mt_X10_keyOfPicked := fun q hq => by cases hq
noncomputable def xe_X10_keyOfPicked (ct : Nat → Bool) (K : Kt) (R : Option AV → Hp → Prop) (n : Nat) : Kt := exS 5 1 0 0 4 tb_X10_keyOfPicked mt_X10_keyOfPicked ct K R n
noncomputable def xk_X10_keyOfPicked (ct : Nat → Bool) (K : Kt) (R : Option AV → Hp → Prop) (n : Nat) : Kt := exkS 5 1 0 0 4 tb_X10_keyOfPicked mt_X10_keyOfPicked ct K R n
theorem xt_X10_keyOfPicked {ct : Nat → Bool} {K : Kt} {R : Option AV → Hp → Prop} {n pc : Nat} {ls : List (Option AV)} {st : List AV} {σ : Hp} {k : Nat × Nat} (h : ct pc = true) : xk_X10_keyOfPicked ct K R n pc ls st σ k = K pc ls st σ k := by unfold xk_X10_keyOfPicked exkS; rw [h]
theorem xf_X10_keyOfPicked {ct : Nat → Bool} {K : Kt} {R : Option AV → Hp → Prop} {n pc : Nat} {ls : List (Option AV)} {st : List AV} {σ : Hp} {k : Nat × Nat} (h : ct pc = false) : xk_X10_keyOfPicked ct K R n pc ls st σ k = xe_X10_keyOfPicked ct K R n pc ls st σ k := by unfold xk_X10_keyOfPicked exkS xe_X10_keyOfPicked; rw [h]
theorem ev_X10_keyOfPicked_0 {ct : Nat → Bool} {K : Kt} {R : Option AV → Hp → Prop} {n : Nat} {ls : List (Option AV)} {st : List AV} {σ : Hp} {k : Nat × Nat} : xe_X10_keyOfPicked ct K R (n + 1) 0 ls st σ k = (xk_X10_keyOfPicked ct K R n 1 ls (vl (BitVec.ofNat 64 0) :: st) σ k) := exS_step.trans rfl
theorem ev_X10_keyOfPicked_1 {ct : Nat → Bool} {K : Kt} {R : Option AV → Hp → Prop} {n : Nat} {ls : List (Option AV)} {st : List AV} {σ : Hp} {k : Nat × Nat} : xe_X10_keyOfPicked ct K R (n + 1) 1 ls st σ k = (oL st fun x st => 1 + 1 < 5 ∧ xk_X10_keyOfPicked ct K R n 2 (stL2 ls 1 (vl x)) st σ k) := exS_step.trans rfl
theorem ev_X10_keyOfPicked_2 {ct : Nat → Bool} {K : Kt} {R : Option AV → Hp → Prop} {n : Nat} {ls : List (Option AV)} {st : List AV} {σ : Hp} {k : Nat × Nat} : xe_X10_keyOfPicked ct K R (n + 1) 2 ls st σ k = (xk_X10_keyOfPicked ct K R n 3 ls (vi (0) :: st) σ k) := exS_step.trans rfl
theorem ev_X10_keyOfPicked_3 {ct : Nat → Bool} {K : Kt} {R : Option AV → Hp → Prop} {n : Nat} {ls : List (Option AV)} {st : List AV} {σ : Hp} {k : Nat × Nat} : xe_X10_keyOfPicked ct K R (n + 1) 3 ls st σ k = (oI st fun x st => 3 < 5 ∧ xk_X10_keyOfPicked ct K R n 4 (stL ls 3 (vi x)) st σ k) := exS_step.trans rfl
theorem ev_X10_keyOfPicked_4 {ct : Nat → Bool} {K : Kt} {R : Option AV → Hp → Prop} {n : Nat} {ls : List (Option AV)} {st : List AV} {σ : Hp} {k : Nat × Nat} : xe_X10_keyOfPicked ct K R (n + 1) 4 ls st σ k = (lI ls 3 fun x => xk_X10_keyOfPicked ct K R n 5 ls (vi x :: st) σ k) := exS_step.trans rfl
theorem ev_X10_keyOfPicked_5 {ct : Nat → Bool} {K : Kt} {R : Option AV → Hp → Prop} {n : Nat} {ls : List (Option AV)} {st : List AV} {σ : Hp} {k : Nat × Nat} : xe_X10_keyOfPicked ct K R (n + 1) 5 ls st σ k = (xk_X10_keyOfPicked ct K R n 7 ls (vi (12) :: st) σ k) := exS_step.trans rfl
theorem ev_X10_keyOfPicked_7 {ct : Nat → Bool} {K : Kt} {R : Option AV → Hp → Prop} {n : Nat} {ls : List (Option AV)} {st : List AV} {σ : Hp} {k : Nat × Nat} : xe_X10_keyOfPicked ct K R (n + 1) 7 ls st σ k = (oI st fun y st => oI st fun x st => (wI y ≤ wI x → xk_X10_keyOfPicked ct K R n 85 ls st σ k) ∧ (¬ (wI y ≤ wI x) → xk_X10_keyOfPicked ct K R n 10 ls st σ k)) := exS_step.trans rfl
theorem ev_X10_keyOfPicked_10 {ct : Nat → Bool} {K : Kt} {R : Option AV → Hp → Prop} {n : Nat} {ls : List (Option AV)} {st : List AV} {σ : Hp} {k : Nat × Nat} : xe_X10_keyOfPicked ct K R (n + 1) 10 ls st σ k = (xk_X10_keyOfPicked ct K R n 11 ls (vi (0) :: st) σ k) := exS_step.trans rfl
theorem ev_X10_keyOfPicked_11 {ct : Nat → Bool} {K : Kt} {R : Option AV → Hp → Prop} {n : Nat} {ls : List (Option AV)} {st : List AV} {σ : Hp} {k : Nat × Nat} : xe_X10_keyOfPicked ct K R (n + 1) 11 ls st σ k = (oI st fun x st => 4 < 5 ∧ xk_X10_keyOfPicked ct K R n 13 (stL ls 4 (vi x)) st σ k) := exS_step.trans rfl
theorem ev_X10_keyOfPicked_13 {ct : Nat → Bool} {K : Kt} {R : Option AV → Hp → Prop} {n : Nat} {ls : List (Option AV)} {st : List AV} {σ : Hp} {k : Nat × Nat} : xe_X10_keyOfPicked ct K R (n + 1) 13 ls st σ k = (lI ls 4 fun x => xk_X10_keyOfPicked ct K R n 15 ls (vi x :: st) σ k) := exS_step.trans rfl
theorem ev_X10_keyOfPicked_15 {ct : Nat → Bool} {K : Kt} {R : Option AV → Hp → Prop} {n : Nat} {ls : List (Option AV)} {st : List AV} {σ : Hp} {k : Nat × Nat} : xe_X10_keyOfPicked ct K R (n + 1) 15 ls st σ k = (lR ls 0 fun x => xk_X10_keyOfPicked ct K R n 16 ls (vr x :: st) σ k) := exS_step.trans rfl
theorem ev_X10_keyOfPicked_16 {ct : Nat → Bool} {K : Kt} {R : Option AV → Hp → Prop} {n : Nat} {ls : List (Option AV)} {st : List AV} {σ : Hp} {k : Nat × Nat} : xe_X10_keyOfPicked ct K R (n + 1) 16 ls st σ k = (oR st fun x st => kd σ x = 11 ∧ xk_X10_keyOfPicked ct K R n 19 ls (vi (fI σ 1108 x) :: st) σ k) := exS_step.trans rfl
theorem ev_X10_keyOfPicked_19 {ct : Nat → Bool} {K : Kt} {R : Option AV → Hp → Prop} {n : Nat} {ls : List (Option AV)} {st : List AV} {σ : Hp} {k : Nat × Nat} : xe_X10_keyOfPicked ct K R (n + 1) 19 ls st σ k = (oI st fun y st => oI st fun x st => (wI y ≤ wI x → xk_X10_keyOfPicked ct K R n 79 ls st σ k) ∧ (¬ (wI y ≤ wI x) → xk_X10_keyOfPicked ct K R n 22 ls st σ k)) := exS_step.trans rfl
theorem ev_X10_keyOfPicked_22 {ct : Nat → Bool} {K : Kt} {R : Option AV → Hp → Prop} {n : Nat} {ls : List (Option AV)} {st : List AV} {σ : Hp} {k : Nat × Nat} : xe_X10_keyOfPicked ct K R (n + 1) 22 ls st σ k = (lI ls 4 fun x => xk_X10_keyOfPicked ct K R n 24 ls (vi x :: st) σ k) := exS_step.trans rfl
theorem ev_X10_keyOfPicked_24 {ct : Nat → Bool} {K : Kt} {R : Option AV → Hp → Prop} {n : Nat} {ls : List (Option AV)} {st : List AV} {σ : Hp} {k : Nat × Nat} : xe_X10_keyOfPicked ct K R (n + 1) 24 ls st σ k = (lR ls 0 fun x => xk_X10_keyOfPicked ct K R n 25 ls (vr x :: st) σ k) := exS_step.trans rfl
theorem ev_X10_keyOfPicked_25 {ct : Nat → Bool} {K : Kt} {R : Option AV → Hp → Prop} {n : Nat} {ls : List (Option AV)} {st : List AV} {σ : Hp} {k : Nat × Nat} : xe_X10_keyOfPicked ct K R (n + 1) 25 ls st σ k = (oR st fun x st => kd σ x = 11 ∧ xk_X10_keyOfPicked ct K R n 28 ls (vr (fR σ 1103 x) :: st) σ k) := exS_step.trans rfl
theorem ev_X10_keyOfPicked_28 {ct : Nat → Bool} {K : Kt} {R : Option AV → Hp → Prop} {n : Nat} {ls : List (Option AV)} {st : List AV} {σ : Hp} {k : Nat × Nat} : xe_X10_keyOfPicked ct K R (n + 1) 28 ls st σ k = (oR st fun x st => (101 ≤ kd σ x ∨ kd σ x = 21) ∧ xk_X10_keyOfPicked ct K R n 29 ls (vi (ln σ x) :: st) σ k) := exS_step.trans rfl
theorem ev_X10_keyOfPicked_29 {ct : Nat → Bool} {K : Kt} {R : Option AV → Hp → Prop} {n : Nat} {ls : List (Option AV)} {st : List AV} {σ : Hp} {k : Nat × Nat} : xe_X10_keyOfPicked ct K R (n + 1) 29 ls st σ k = (oI st fun y st => oI st fun x st => (wI y ≤ wI x → xk_X10_keyOfPicked ct K R n 79 ls st σ k) ∧ (¬ (wI y ≤ wI x) → xk_X10_keyOfPicked ct K R n 32 ls st σ k)) := exS_step.trans rfl
theorem ev_X10_keyOfPicked_32 {ct : Nat → Bool} {K : Kt} {R : Option AV → Hp → Prop} {n : Nat} {ls : List (Option AV)} {st : List AV} {σ : Hp} {k : Nat × Nat} : xe_X10_keyOfPicked ct K R (n + 1) 32 ls st σ k = (lI ls 4 fun x => xk_X10_keyOfPicked ct K R n 34 ls (vi x :: st) σ k) := exS_step.trans rfl
theorem ev_X10_keyOfPicked_34 {ct : Nat → Bool} {K : Kt} {R : Option AV → Hp → Prop} {n : Nat} {ls : List (Option AV)} {st : List AV} {σ : Hp} {k : Nat × Nat} : xe_X10_keyOfPicked ct K R (n + 1) 34 ls st σ k = (lR ls 0 fun x => xk_X10_keyOfPicked ct K R n 35 ls (vr x :: st) σ k) := exS_step.trans rfl
theorem ev_X10_keyOfPicked_35 {ct : Nat → Bool} {K : Kt} {R : Option AV → Hp → Prop} {n : Nat} {ls : List (Option AV)} {st : List AV} {σ : Hp} {k : Nat × Nat} : xe_X10_keyOfPicked ct K R (n + 1) 35 ls st σ k = (oR st fun x st => kd σ x = 11 ∧ xk_X10_keyOfPicked ct K R n 38 ls (vr (fR σ 1104 x) :: st) σ k) := exS_step.trans rfl
theorem ev_X10_keyOfPicked_38 {ct : Nat → Bool} {K : Kt} {R : Option AV → Hp → Prop} {n : Nat} {ls : List (Option AV)} {st : List AV} {σ : Hp} {k : Nat × Nat} : xe_X10_keyOfPicked ct K R (n + 1) 38 ls st σ k = (oR st fun x st => (101 ≤ kd σ x ∨ kd σ x = 21) ∧ xk_X10_keyOfPicked ct K R n 39 ls (vi (ln σ x) :: st) σ k) := exS_step.trans rfl
theorem ev_X10_keyOfPicked_39 {ct : Nat → Bool} {K : Kt} {R : Option AV → Hp → Prop} {n : Nat} {ls : List (Option AV)} {st : List AV} {σ : Hp} {k : Nat × Nat} : xe_X10_keyOfPicked ct K R (n + 1) 39 ls st σ k = (oI st fun y st => oI st fun x st => (wI y ≤ wI x → xk_X10_keyOfPicked ct K R n 79 ls st σ k) ∧ (¬ (wI y ≤ wI x) → xk_X10_keyOfPicked ct K R n 42 ls st σ k)) := exS_step.trans rfl
theorem ev_X10_keyOfPicked_42 {ct : Nat → Bool} {K : Kt} {R : Option AV → Hp → Prop} {n : Nat} {ls : List (Option AV)} {st : List AV} {σ : Hp} {k : Nat × Nat} : xe_X10_keyOfPicked ct K R (n + 1) 42 ls st σ k = (lR ls 0 fun x => xk_X10_keyOfPicked ct K R n 43 ls (vr x :: st) σ k) := exS_step.trans rfl
theorem ev_X10_keyOfPicked_43 {ct : Nat → Bool} {K : Kt} {R : Option AV → Hp → Prop} {n : Nat} {ls : List (Option AV)} {st : List AV} {σ : Hp} {k : Nat × Nat} : xe_X10_keyOfPicked ct K R (n + 1) 43 ls st σ k = (oR st fun x st => kd σ x = 11 ∧ xk_X10_keyOfPicked ct K R n 46 ls (vr (fR σ 1103 x) :: st) σ k) := exS_step.trans rfl
theorem ev_X10_keyOfPicked_46 {ct : Nat → Bool} {K : Kt} {R : Option AV → Hp → Prop} {n : Nat} {ls : List (Option AV)} {st : List AV} {σ : Hp} {k : Nat × Nat} : xe_X10_keyOfPicked ct K R (n + 1) 46 ls st σ k = (lI ls 4 fun x => xk_X10_keyOfPicked ct K R n 48 ls (vi x :: st) σ k) := exS_step.trans rfl
theorem ev_X10_keyOfPicked_48 {ct : Nat → Bool} {K : Kt} {R : Option AV → Hp → Prop} {n : Nat} {ls : List (Option AV)} {st : List AV} {σ : Hp} {k : Nat × Nat} : xe_X10_keyOfPicked ct K R (n + 1) 48 ls st σ k = (oI st fun j st => oR st fun x st => (kd σ x = 101 ∨ kd σ x = 108) ∧ (0 ≤ j ∧ j < ln σ x) ∧ xk_X10_keyOfPicked ct K R n 49 ls (vi (aI σ x j) :: st) σ k) := exS_step.trans rfl
theorem ev_X10_keyOfPicked_49 {ct : Nat → Bool} {K : Kt} {R : Option AV → Hp → Prop} {n : Nat} {ls : List (Option AV)} {st : List AV} {σ : Hp} {k : Nat × Nat} : xe_X10_keyOfPicked ct K R (n + 1) 49 ls st σ k = (lI ls 3 fun x => xk_X10_keyOfPicked ct K R n 50 ls (vi x :: st) σ k) := exS_step.trans rfl
theorem ev_X10_keyOfPicked_50 {ct : Nat → Bool} {K : Kt} {R : Option AV → Hp → Prop} {n : Nat} {ls : List (Option AV)} {st : List AV} {σ : Hp} {k : Nat × Nat} : xe_X10_keyOfPicked ct K R (n + 1) 50 ls st σ k = (oI st fun y st => oI st fun x st => (¬ wI x = wI y → xk_X10_keyOfPicked ct K R n 73 ls st σ k) ∧ (¬ (¬ wI x = wI y) → xk_X10_keyOfPicked ct K R n 53 ls st σ k)) := exS_step.trans rfl
theorem ev_X10_keyOfPicked_53 {ct : Nat → Bool} {K : Kt} {R : Option AV → Hp → Prop} {n : Nat} {ls : List (Option AV)} {st : List AV} {σ : Hp} {k : Nat × Nat} : xe_X10_keyOfPicked ct K R (n + 1) 53 ls st σ k = (lL ls 1 fun x => xk_X10_keyOfPicked ct K R n 54 ls (vl x :: st) σ k) := exS_step.trans rfl
theorem ev_X10_keyOfPicked_54 {ct : Nat → Bool} {K : Kt} {R : Option AV → Hp → Prop} {n : Nat} {ls : List (Option AV)} {st : List AV} {σ : Hp} {k : Nat × Nat} : xe_X10_keyOfPicked ct K R (n + 1) 54 ls st σ k = (xk_X10_keyOfPicked ct K R n 56 ls (vi (13) :: st) σ k) := exS_step.trans rfl
theorem ev_X10_keyOfPicked_56 {ct : Nat → Bool} {K : Kt} {R : Option AV → Hp → Prop} {n : Nat} {ls : List (Option AV)} {st : List AV} {σ : Hp} {k : Nat × Nat} : xe_X10_keyOfPicked ct K R (n + 1) 56 ls st σ k = (oI st fun y st => oL st fun x st => xk_X10_keyOfPicked ct K R n 57 ls (vl (x <<< (y % 64).toNat) :: st) σ k) := exS_step.trans rfl
theorem ev_X10_keyOfPicked_57 {ct : Nat → Bool} {K : Kt} {R : Option AV → Hp → Prop} {n : Nat} {ls : List (Option AV)} {st : List AV} {σ : Hp} {k : Nat × Nat} : xe_X10_keyOfPicked ct K R (n + 1) 57 ls st σ k = (lI ls 3 fun x => xk_X10_keyOfPicked ct K R n 58 ls (vi x :: st) σ k) := exS_step.trans rfl
theorem ev_X10_keyOfPicked_58 {ct : Nat → Bool} {K : Kt} {R : Option AV → Hp → Prop} {n : Nat} {ls : List (Option AV)} {st : List AV} {σ : Hp} {k : Nat × Nat} : xe_X10_keyOfPicked ct K R (n + 1) 58 ls st σ k = (xk_X10_keyOfPicked ct K R n 60 ls (vi (9) :: st) σ k) := exS_step.trans rfl
theorem ev_X10_keyOfPicked_60 {ct : Nat → Bool} {K : Kt} {R : Option AV → Hp → Prop} {n : Nat} {ls : List (Option AV)} {st : List AV} {σ : Hp} {k : Nat × Nat} : xe_X10_keyOfPicked ct K R (n + 1) 60 ls st σ k = (oI st fun y st => oI st fun x st => xk_X10_keyOfPicked ct K R n 61 ls (vi (shlI x y) :: st) σ k) := exS_step.trans rfl
theorem ev_X10_keyOfPicked_61 {ct : Nat → Bool} {K : Kt} {R : Option AV → Hp → Prop} {n : Nat} {ls : List (Option AV)} {st : List AV} {σ : Hp} {k : Nat × Nat} : xe_X10_keyOfPicked ct K R (n + 1) 61 ls st σ k = (oI st fun x st => xk_X10_keyOfPicked ct K R n 62 ls (vl (BitVec.ofInt 64 (wI x)) :: st) σ k) := exS_step.trans rfl
theorem ev_X10_keyOfPicked_62 {ct : Nat → Bool} {K : Kt} {R : Option AV → Hp → Prop} {n : Nat} {ls : List (Option AV)} {st : List AV} {σ : Hp} {k : Nat × Nat} : xe_X10_keyOfPicked ct K R (n + 1) 62 ls st σ k = (oL st fun y st => oL st fun x st => xk_X10_keyOfPicked ct K R n 63 ls (vl (x ||| y) :: st) σ k) := exS_step.trans rfl
theorem ev_X10_keyOfPicked_63 {ct : Nat → Bool} {K : Kt} {R : Option AV → Hp → Prop} {n : Nat} {ls : List (Option AV)} {st : List AV} {σ : Hp} {k : Nat × Nat} : xe_X10_keyOfPicked ct K R (n + 1) 63 ls st σ k = (lR ls 0 fun x => xk_X10_keyOfPicked ct K R n 64 ls (vr x :: st) σ k) := exS_step.trans rfl
theorem ev_X10_keyOfPicked_64 {ct : Nat → Bool} {K : Kt} {R : Option AV → Hp → Prop} {n : Nat} {ls : List (Option AV)} {st : List AV} {σ : Hp} {k : Nat × Nat} : xe_X10_keyOfPicked ct K R (n + 1) 64 ls st σ k = (oR st fun x st => kd σ x = 11 ∧ xk_X10_keyOfPicked ct K R n 67 ls (vr (fR σ 1104 x) :: st) σ k) := exS_step.trans rfl
theorem ev_X10_keyOfPicked_67 {ct : Nat → Bool} {K : Kt} {R : Option AV → Hp → Prop} {n : Nat} {ls : List (Option AV)} {st : List AV} {σ : Hp} {k : Nat × Nat} : xe_X10_keyOfPicked ct K R (n + 1) 67 ls st σ k = (lI ls 4 fun x => xk_X10_keyOfPicked ct K R n 69 ls (vi x :: st) σ k) := exS_step.trans rfl
theorem ev_X10_keyOfPicked_69 {ct : Nat → Bool} {K : Kt} {R : Option AV → Hp → Prop} {n : Nat} {ls : List (Option AV)} {st : List AV} {σ : Hp} {k : Nat × Nat} : xe_X10_keyOfPicked ct K R (n + 1) 69 ls st σ k = (oI st fun j st => oR st fun x st => (kd σ x = 101 ∨ kd σ x = 108) ∧ (0 ≤ j ∧ j < ln σ x) ∧ xk_X10_keyOfPicked ct K R n 70 ls (vi (aI σ x j) :: st) σ k) := exS_step.trans rfl
theorem ev_X10_keyOfPicked_70 {ct : Nat → Bool} {K : Kt} {R : Option AV → Hp → Prop} {n : Nat} {ls : List (Option AV)} {st : List AV} {σ : Hp} {k : Nat × Nat} : xe_X10_keyOfPicked ct K R (n + 1) 70 ls st σ k = (oI st fun x st => xk_X10_keyOfPicked ct K R n 71 ls (vl (BitVec.ofInt 64 (wI x)) :: st) σ k) := exS_step.trans rfl
theorem ev_X10_keyOfPicked_71 {ct : Nat → Bool} {K : Kt} {R : Option AV → Hp → Prop} {n : Nat} {ls : List (Option AV)} {st : List AV} {σ : Hp} {k : Nat × Nat} : xe_X10_keyOfPicked ct K R (n + 1) 71 ls st σ k = (oL st fun y st => oL st fun x st => xk_X10_keyOfPicked ct K R n 72 ls (vl (x ||| y) :: st) σ k) := exS_step.trans rfl
theorem ev_X10_keyOfPicked_72 {ct : Nat → Bool} {K : Kt} {R : Option AV → Hp → Prop} {n : Nat} {ls : List (Option AV)} {st : List AV} {σ : Hp} {k : Nat × Nat} : xe_X10_keyOfPicked ct K R (n + 1) 72 ls st σ k = (oL st fun x st => 1 + 1 < 5 ∧ xk_X10_keyOfPicked ct K R n 73 (stL2 ls 1 (vl x)) st σ k) := exS_step.trans rfl
theorem ev_X10_keyOfPicked_73 {ct : Nat → Bool} {K : Kt} {R : Option AV → Hp → Prop} {n : Nat} {ls : List (Option AV)} {st : List AV} {σ : Hp} {k : Nat × Nat} : xe_X10_keyOfPicked ct K R (n + 1) 73 ls st σ k = (lI ls 4 fun x => 4 < 5 ∧ xk_X10_keyOfPicked ct K R n 76 (stL ls 4 (vi (x + (1)))) st σ k) := exS_step.trans rfl
theorem ev_X10_keyOfPicked_76 {ct : Nat → Bool} {K : Kt} {R : Option AV → Hp → Prop} {n : Nat} {ls : List (Option AV)} {st : List AV} {σ : Hp} {k : Nat × Nat} : xe_X10_keyOfPicked ct K R (n + 1) 76 ls st σ k = (xk_X10_keyOfPicked ct K R n 13 ls st σ k) := exS_step.trans rfl
theorem ev_X10_keyOfPicked_79 {ct : Nat → Bool} {K : Kt} {R : Option AV → Hp → Prop} {n : Nat} {ls : List (Option AV)} {st : List AV} {σ : Hp} {k : Nat × Nat} : xe_X10_keyOfPicked ct K R (n + 1) 79 ls st σ k = (lI ls 3 fun x => 3 < 5 ∧ xk_X10_keyOfPicked ct K R n 82 (stL ls 3 (vi (x + (1)))) st σ k) := exS_step.trans rfl
theorem ev_X10_keyOfPicked_82 {ct : Nat → Bool} {K : Kt} {R : Option AV → Hp → Prop} {n : Nat} {ls : List (Option AV)} {st : List AV} {σ : Hp} {k : Nat × Nat} : xe_X10_keyOfPicked ct K R (n + 1) 82 ls st σ k = (xk_X10_keyOfPicked ct K R n 4 ls st σ k) := exS_step.trans rfl
theorem ev_X10_keyOfPicked_85 {ct : Nat → Bool} {K : Kt} {R : Option AV → Hp → Prop} {n : Nat} {ls : List (Option AV)} {st : List AV} {σ : Hp} {k : Nat × Nat} : xe_X10_keyOfPicked ct K R (n + 1) 85 ls st σ k = (lL ls 1 fun x => xk_X10_keyOfPicked ct K R n 86 ls (vl x :: st) σ k) := exS_step.trans rfl
theorem ev_X10_keyOfPicked_86 {ct : Nat → Bool} {K : Kt} {R : Option AV → Hp → Prop} {n : Nat} {ls : List (Option AV)} {st : List AV} {σ : Hp} {k : Nat × Nat} : xe_X10_keyOfPicked ct K R (n + 1) 86 ls st σ k = (oL st fun x st => st = [] ∧ 4 = 4 ∧ R (some (vl x)) σ) := exS_step.trans rfl
def M_X10_keyOfPicked : Md := (yX10_keyOfPicked, cX10_keyOfPicked, 5, (some FieldType.long), 1, 0, 0, 4, false, tb_X10_keyOfPicked, mt_X10_keyOfPicked)
theorem mm_X10_keyOfPicked : MMOK M_X10_keyOfPicked := ⟨by decide +kernel, tk_X10_keyOfPicked, mk_X10_keyOfPicked, rfl, fun h => by cases h⟩
theorem go_X10_keyOfPicked {Q : Option AV → Hp → Prop} {ct : Nat → Bool} {pc : Nat} {ls : List (Option AV)} {st : List AV} {σ : Hp} {k : Nat × Nat} (n : Nat) (h : xe_X10_keyOfPicked ct (Go M_X10_keyOfPicked Q) Q n pc ls st σ k) : Go M_X10_keyOfPicked Q pc ls st σ k := Go.exS mm_X10_keyOfPicked h

set_option maxRecDepth 20000 in
theorem kop_13 {Q : Option AV → Hp → Prop} {σ : Hp} (hk : kd σ 4 = 11) (hC : CLay σ) {pk : List Int} (hl : pk.length ≤ 3) (hz : fI σ 1108 4 = pk.length) (hp : ∀ p ∈ pk, 0 ≤ p ∧ p / 300 < 12) (hP : ∀ (i : Nat) (p : Int), pk[i]? = some p → aI σ 12 i = p / 300 ∧ aI σ 13 i = p % 300) {a : Nat} (ha : a < 12) (pre : List Int) (hpre : ∀ p ∈ pre, 0 ≤ p ∧ p / 300 < 12) (hlen : pre.length + (pk.filter (fun p => decide (p / 300 = (a : Int)))).length ≤ 3) (w79 : ∀ a4 : Option AV, Go M_X10_keyOfPicked Q 79 [some (vr 4), some (vl (BitVec.ofInt 64 (keyL (pre ++ pk.filter (fun p => decide (p / 300 = (a : Int))))))), none, some (vi a), a4] [] σ (0, 0)) : ∀ (m i : Nat), i + m = pk.length → Go M_X10_keyOfPicked Q 13 [some (vr 4), some (vl (BitVec.ofInt 64 (keyL (pre ++ (pk.take i).filter (fun p => decide (p / 300 = (a : Int))))))), none, some (vi a), some (vi i)] [] σ (0, 0) := by
  intro m
  induction m with
  | zero =>
    intro i hi
    have e : pk.take i = pk := List.take_of_length_le (by omega)
    rw [e]
    have w := w79 (some (vi i))
    clear w79 hP hp
    refine go_X10_keyOfPicked (ct := fun p => p == 22 || p == 79) 20 ?_
    simp only [oI, oL, oR, o1, lI, lL, lR, popN, catS, gv, stL, stL2, swt, cnd, spObj, List.getElem?_cons_zero, List.getElem?_cons_succ, List.getD_cons_zero, List.getD_cons_succ, List.set_cons_zero, List.set_cons_succ, List.nil_append, List.cons_append, Option.toList, Bool.or_false, Bool.false_or, Bool.or_true, Bool.true_or, Nat.reduceBEq, Nat.reduceAdd, Nat.reduceLT, Nat.reduceLeDiff, Int.reduceAdd, Int.reduceToNat, true_and, and_true, Fin.isValue, Fin.val_zero, Fin.val_one, Fin.val_two, Fin.reduceFinMk, eq_self, Int.reduceNeg, imp_self, Nat.reduceMul, Nat.le_refl, not_true_eq_false, not_false_eq_true, List.getElem?_nil, reduceCtorEq, true_or, or_true, Classical.not_not, implies_true, or_self, wI_0, wI_1, wI_m1, b2i_w, b2i_eq0, b2i_eq1, b2i_bool, nor_self, nx_pI, kd_pI, ln_pI, fI_pI, fL_pI, fR_pI, aI_pI, aL_pI, aR_pI, nx_pL, kd_pL, ln_pL, fI_pL, fL_pL, fR_pL, aI_pL, aL_pL, aR_pL, nx_pR, kd_pR, ln_pR, fI_pR, fL_pR, fR_pR, aI_pR, aL_pR, aR_pR, nx_qI, kd_qI, ln_qI, fI_qI, fL_qI, fR_qI, aI_qI, aL_qI, aR_qI, nx_qL, kd_qL, ln_qL, fI_qL, fL_qL, fR_qL, aI_qL, aL_qL, aR_qL, nx_qR, kd_qR, ln_qR, fI_qR, fL_qR, fR_qR, aI_qR, aL_qR, aR_qR, nx_mk, kd_mk, ln_mk, fI_mk, fL_mk, fR_mk, aI_mk, aL_mk, aR_mk, false_and, and_false, if_false, if_true, and_self, Int.reduceEq, Nat.reduceEqDiff, ite_self, MLay_pI, MLay_pL, MLay_qI, MLay_qL, ev_X10_keyOfPicked_13, ev_X10_keyOfPicked_15, ev_X10_keyOfPicked_16, ev_X10_keyOfPicked_19, xt_X10_keyOfPicked, xf_X10_keyOfPicked, hk, hz]
    try simp (disch := omega) only [wI_id, dv_nn, rm_nn]
    repeat' (first | intro z | apply And.intro)
    all_goals try omega
    all_goals try contradiction
    all_goals exact w
  | succ m ih =>
    intro i hi
    have w := ih (i + 1) (by omega)
    obtain ⟨p, hpi⟩ : ∃ p, pk[i]? = some p := ⟨pk[i]'(by omega), List.getElem?_eq_getElem (by omega)⟩
    have q := hP i p hpi
    have hpm := hp p (List.mem_of_getElem? hpi)
    rw [take_snoc hpi, List.filter_append] at w
    rw [Int.natCast_add] at w
    by_cases c : p / 300 = (a : Int)
    · have ef : [p].filter (fun p => decide (p / 300 = (a : Int))) = [p] := by rw [List.filter_cons_of_pos (by rw [decide_eq_true_eq]; exact c), List.filter_nil]
      rw [ef, ← List.append_assoc, keyL_snoc] at w
      have hb : 0 ≤ keyL (pre ++ (pk.take i).filter (fun p => decide (p / 300 = (a : Int)))) ∧ keyL (pre ++ (pk.take i).filter (fun p => decide (p / 300 = (a : Int)))) < 67108864 := by
        have h1 := keyL_in (pre ++ (pk.take i).filter (fun p => decide (p / 300 = (a : Int)))) (fun y hy => by
          rcases List.mem_append.mp hy with z | z
          · exact hpre y z
          · exact hp y (List.mem_of_mem_take (List.mem_filter.mp z).1))
        have h2 : (pre ++ (pk.take i).filter (fun p => decide (p / 300 = (a : Int)))).length ≤ 2 := by
          have h3 : ((pk.take (i + 1)).filter (fun p => decide (p / 300 = (a : Int)))).length ≤ (pk.filter (fun p => decide (p / 300 = (a : Int)))).length := ((List.take_sublist _ _).filter _).length_le
          rw [take_snoc hpi, List.filter_append, ef, List.length_append, List.length_singleton] at h3
          rw [List.length_append]
          omega
        generalize (pre ++ (pk.take i).filter (fun p => decide (p / 300 = (a : Int)))).length = n at *
        have h3 : (8192 : Int) ^ n ≤ 67108864 := by
          match n, h2 with
          | 0, _ => decide
          | 1, _ => decide
          | 2, _ => decide
          | n + 3, h2 => omega
        omega
      have ek := key_or (k := keyL (pre ++ (pk.take i).filter (fun p => decide (p / 300 = (a : Int))))) (a := a) (s := p % 300) hb (by omega) (by omega)
      have e13 : k13 p = (a : Int) * 512 + p % 300 := by unfold k13; rw [c]
      rw [e13, ← ek] at w
      have es : shlI (a : Int) 9 = (a : Int) * 512 := by unfold shlI; rfl
      have ew : wI ((a : Int) * 512) = (a : Int) * 512 := wI_id (by omega) (by omega)
      have ew2 : wI (p % 300) = p % 300 := wI_id (by omega) (by omega)
      have em : ((13 : Int) % 64).toNat = 13 := by decide
      have q1 := q.1
      have q2 := q.2
      rw [c] at q1
      clear ih w79 hP hp hpre hb ek q
      generalize keyL (pre ++ (pk.take i).filter (fun p => decide (p / 300 = (a : Int)))) = kk at *
      refine go_X10_keyOfPicked (ct := fun p => p == 79 || p == 13) 60 ?_
      simp only [oI, oL, oR, o1, lI, lL, lR, popN, catS, gv, stL, stL2, swt, cnd, spObj, List.getElem?_cons_zero, List.getElem?_cons_succ, List.getD_cons_zero, List.getD_cons_succ, List.set_cons_zero, List.set_cons_succ, List.nil_append, List.cons_append, Option.toList, Bool.or_false, Bool.false_or, Bool.or_true, Bool.true_or, Nat.reduceBEq, Nat.reduceAdd, Nat.reduceLT, Nat.reduceLeDiff, Int.reduceAdd, Int.reduceToNat, true_and, and_true, Fin.isValue, Fin.val_zero, Fin.val_one, Fin.val_two, Fin.reduceFinMk, eq_self, Int.reduceNeg, imp_self, Nat.reduceMul, Nat.le_refl, not_true_eq_false, not_false_eq_true, List.getElem?_nil, reduceCtorEq, true_or, or_true, Classical.not_not, implies_true, or_self, wI_0, wI_1, wI_m1, b2i_w, b2i_eq0, b2i_eq1, b2i_bool, nor_self, nx_pI, kd_pI, ln_pI, fI_pI, fL_pI, fR_pI, aI_pI, aL_pI, aR_pI, nx_pL, kd_pL, ln_pL, fI_pL, fL_pL, fR_pL, aI_pL, aL_pL, aR_pL, nx_pR, kd_pR, ln_pR, fI_pR, fL_pR, fR_pR, aI_pR, aL_pR, aR_pR, nx_qI, kd_qI, ln_qI, fI_qI, fL_qI, fR_qI, aI_qI, aL_qI, aR_qI, nx_qL, kd_qL, ln_qL, fI_qL, fL_qL, fR_qL, aI_qL, aL_qL, aR_qL, nx_qR, kd_qR, ln_qR, fI_qR, fL_qR, fR_qR, aI_qR, aL_qR, aR_qR, nx_mk, kd_mk, ln_mk, fI_mk, fL_mk, fR_mk, aI_mk, aL_mk, aR_mk, false_and, and_false, if_false, if_true, and_self, Int.reduceEq, Nat.reduceEqDiff, ite_self, MLay_pI, MLay_pL, MLay_qI, MLay_qL, ev_X10_keyOfPicked_13, ev_X10_keyOfPicked_15, ev_X10_keyOfPicked_16, ev_X10_keyOfPicked_19, ev_X10_keyOfPicked_22, ev_X10_keyOfPicked_24, ev_X10_keyOfPicked_25, ev_X10_keyOfPicked_28, ev_X10_keyOfPicked_29, ev_X10_keyOfPicked_32, ev_X10_keyOfPicked_34, ev_X10_keyOfPicked_35, ev_X10_keyOfPicked_38, ev_X10_keyOfPicked_39, ev_X10_keyOfPicked_42, ev_X10_keyOfPicked_43, ev_X10_keyOfPicked_46, ev_X10_keyOfPicked_48, ev_X10_keyOfPicked_49, ev_X10_keyOfPicked_50, ev_X10_keyOfPicked_53, ev_X10_keyOfPicked_54, ev_X10_keyOfPicked_56, ev_X10_keyOfPicked_57, ev_X10_keyOfPicked_58, ev_X10_keyOfPicked_60, ev_X10_keyOfPicked_61, ev_X10_keyOfPicked_62, ev_X10_keyOfPicked_63, ev_X10_keyOfPicked_64, ev_X10_keyOfPicked_67, ev_X10_keyOfPicked_69, ev_X10_keyOfPicked_70, ev_X10_keyOfPicked_71, ev_X10_keyOfPicked_72, ev_X10_keyOfPicked_73, ev_X10_keyOfPicked_76, xt_X10_keyOfPicked, xf_X10_keyOfPicked, hk, hC.eqs, hz, q1, q2, es, ew, ew2, em]
      try simp (disch := omega) only [wI_id, dv_nn, rm_nn]
      repeat' (first | intro z | apply And.intro)
      all_goals first | exact w | omega | exact (‹False›).elim
    · have ef : [p].filter (fun p => decide (p / 300 = (a : Int))) = [] := by rw [List.filter_cons_of_neg (by rw [decide_eq_true_eq]; exact c), List.filter_nil]
      rw [ef, List.append_nil] at w
      have q1 := q.1
      clear ih w79 hP hp hpre q
      generalize keyL (pre ++ (pk.take i).filter (fun p => decide (p / 300 = (a : Int)))) = kk at *
      refine go_X10_keyOfPicked (ct := fun p => p == 79 || p == 53 || p == 13) 60 ?_
      simp only [oI, oL, oR, o1, lI, lL, lR, popN, catS, gv, stL, stL2, swt, cnd, spObj, List.getElem?_cons_zero, List.getElem?_cons_succ, List.getD_cons_zero, List.getD_cons_succ, List.set_cons_zero, List.set_cons_succ, List.nil_append, List.cons_append, Option.toList, Bool.or_false, Bool.false_or, Bool.or_true, Bool.true_or, Nat.reduceBEq, Nat.reduceAdd, Nat.reduceLT, Nat.reduceLeDiff, Int.reduceAdd, Int.reduceToNat, true_and, and_true, Fin.isValue, Fin.val_zero, Fin.val_one, Fin.val_two, Fin.reduceFinMk, eq_self, Int.reduceNeg, imp_self, Nat.reduceMul, Nat.le_refl, not_true_eq_false, not_false_eq_true, List.getElem?_nil, reduceCtorEq, true_or, or_true, Classical.not_not, implies_true, or_self, wI_0, wI_1, wI_m1, b2i_w, b2i_eq0, b2i_eq1, b2i_bool, nor_self, nx_pI, kd_pI, ln_pI, fI_pI, fL_pI, fR_pI, aI_pI, aL_pI, aR_pI, nx_pL, kd_pL, ln_pL, fI_pL, fL_pL, fR_pL, aI_pL, aL_pL, aR_pL, nx_pR, kd_pR, ln_pR, fI_pR, fL_pR, fR_pR, aI_pR, aL_pR, aR_pR, nx_qI, kd_qI, ln_qI, fI_qI, fL_qI, fR_qI, aI_qI, aL_qI, aR_qI, nx_qL, kd_qL, ln_qL, fI_qL, fL_qL, fR_qL, aI_qL, aL_qL, aR_qL, nx_qR, kd_qR, ln_qR, fI_qR, fL_qR, fR_qR, aI_qR, aL_qR, aR_qR, nx_mk, kd_mk, ln_mk, fI_mk, fL_mk, fR_mk, aI_mk, aL_mk, aR_mk, false_and, and_false, if_false, if_true, and_self, Int.reduceEq, Nat.reduceEqDiff, ite_self, MLay_pI, MLay_pL, MLay_qI, MLay_qL, ev_X10_keyOfPicked_13, ev_X10_keyOfPicked_15, ev_X10_keyOfPicked_16, ev_X10_keyOfPicked_19, ev_X10_keyOfPicked_22, ev_X10_keyOfPicked_24, ev_X10_keyOfPicked_25, ev_X10_keyOfPicked_28, ev_X10_keyOfPicked_29, ev_X10_keyOfPicked_32, ev_X10_keyOfPicked_34, ev_X10_keyOfPicked_35, ev_X10_keyOfPicked_38, ev_X10_keyOfPicked_39, ev_X10_keyOfPicked_42, ev_X10_keyOfPicked_43, ev_X10_keyOfPicked_46, ev_X10_keyOfPicked_48, ev_X10_keyOfPicked_49, ev_X10_keyOfPicked_50, ev_X10_keyOfPicked_53, ev_X10_keyOfPicked_54, ev_X10_keyOfPicked_56, ev_X10_keyOfPicked_57, ev_X10_keyOfPicked_58, ev_X10_keyOfPicked_60, ev_X10_keyOfPicked_61, ev_X10_keyOfPicked_62, ev_X10_keyOfPicked_63, ev_X10_keyOfPicked_64, ev_X10_keyOfPicked_67, ev_X10_keyOfPicked_69, ev_X10_keyOfPicked_70, ev_X10_keyOfPicked_71, ev_X10_keyOfPicked_72, ev_X10_keyOfPicked_73, ev_X10_keyOfPicked_76, xt_X10_keyOfPicked, xf_X10_keyOfPicked, hk, hC.eqs, hz, q1]
      try simp (disch := omega) only [wI_id, dv_nn, rm_nn]
      repeat' (first | intro z | apply And.intro)
      all_goals try omega
      all_goals try contradiction
      all_goals exact w

set_option maxRecDepth 20000 in
theorem c_X10_keyOfPicked : Ct yX10_keyOfPicked cX10_keyOfPicked 5 ((some FieldType.long)) 1 0 0 sp_X10_keyOfPicked := by
  refine Ct.go (M := M_X10_keyOfPicked) mm_X10_keyOfPicked fun av σ Q h0 => ?_
  obtain ⟨this, rfl, hk, h⟩ := el_X10_keyOfPicked h0
  clear h0
  refine ⟨Nat.le_of_ble_eq_true rfl, ?_⟩
  show Go M_X10_keyOfPicked Q 0 [some (vr this), none, none, none, none] [] σ (0, 0)
  obtain ⟨rfl, hC, pk, hl, hz, hp, hP, hd, h⟩ := h
  have hlen : ∀ a : Nat, a ≤ 12 → (srtN pk a).length ≤ pk.length := fun a ha => by
    have h1 := srt_len hp hd
    rw [srt_N] at h1
    have h2 : (srtN pk a).length ≤ (srtN pk 12).length := by
      obtain ⟨b, hb⟩ : ∃ b, 12 = a + b := ⟨12 - a, by omega⟩
      rw [hb]
      clear hb h1
      induction b with
      | zero => exact Nat.le_refl _
      | succ b ih => rw [← Nat.add_assoc, srtN_s, List.length_append]; omega
    omega
  have hin : ∀ a : Nat, ∀ p ∈ srtN pk a, 0 ≤ p ∧ p / 300 < 12 := fun a p q => by
    unfold srtN at q
    obtain ⟨b, -, q⟩ := List.mem_flatMap.mp q
    exact hp p (List.mem_filter.mp q).1
  have loop : ∀ (m a : Nat) (a4 : Option AV), a + m = 12 → Go M_X10_keyOfPicked Q 4 [some (vr 4), some (vl (BitVec.ofInt 64 (keyL (srtN pk a)))), none, some (vi a), a4] [] σ (0, 0) := by
    intro m
    induction m with
    | zero =>
      intro a a4 ha
      have e : a = 12 := by omega
      subst e
      rw [srt_N] at h
      clear hP hp hin hlen
      generalize keyL (srtN pk 12) = kk at *
      refine go_X10_keyOfPicked (ct := fun p => p == 10) 20 ?_
      simp only [oI, oL, oR, o1, lI, lL, lR, popN, catS, gv, stL, stL2, swt, cnd, spObj, List.getElem?_cons_zero, List.getElem?_cons_succ, List.getD_cons_zero, List.getD_cons_succ, List.set_cons_zero, List.set_cons_succ, List.nil_append, List.cons_append, Option.toList, Bool.or_false, Bool.false_or, Bool.or_true, Bool.true_or, Nat.reduceBEq, Nat.reduceAdd, Nat.reduceLT, Nat.reduceLeDiff, Int.reduceAdd, Int.reduceToNat, true_and, and_true, Fin.isValue, Fin.val_zero, Fin.val_one, Fin.val_two, Fin.reduceFinMk, eq_self, Int.reduceNeg, imp_self, Nat.reduceMul, Nat.le_refl, not_true_eq_false, not_false_eq_true, List.getElem?_nil, reduceCtorEq, true_or, or_true, Classical.not_not, implies_true, or_self, wI_0, wI_1, wI_m1, b2i_w, b2i_eq0, b2i_eq1, b2i_bool, nor_self, nx_pI, kd_pI, ln_pI, fI_pI, fL_pI, fR_pI, aI_pI, aL_pI, aR_pI, nx_pL, kd_pL, ln_pL, fI_pL, fL_pL, fR_pL, aI_pL, aL_pL, aR_pL, nx_pR, kd_pR, ln_pR, fI_pR, fL_pR, fR_pR, aI_pR, aL_pR, aR_pR, nx_qI, kd_qI, ln_qI, fI_qI, fL_qI, fR_qI, aI_qI, aL_qI, aR_qI, nx_qL, kd_qL, ln_qL, fI_qL, fL_qL, fR_qL, aI_qL, aL_qL, aR_qL, nx_qR, kd_qR, ln_qR, fI_qR, fL_qR, fR_qR, aI_qR, aL_qR, aR_qR, nx_mk, kd_mk, ln_mk, fI_mk, fL_mk, fR_mk, aI_mk, aL_mk, aR_mk, false_and, and_false, if_false, if_true, and_self, Int.reduceEq, Nat.reduceEqDiff, ite_self, MLay_pI, MLay_pL, MLay_qI, MLay_qL, ev_X10_keyOfPicked_4, ev_X10_keyOfPicked_5, ev_X10_keyOfPicked_7, ev_X10_keyOfPicked_85, ev_X10_keyOfPicked_86, xt_X10_keyOfPicked, xf_X10_keyOfPicked]
      try simp (disch := omega) only [wI_id, dv_nn, rm_nn]
      repeat' (first | intro z | apply And.intro)
      all_goals try omega
      all_goals try contradiction
      all_goals exact h
    | succ m ih =>
      intro a a4 ha
      have w79 : ∀ a4 : Option AV, Go M_X10_keyOfPicked Q 79 [some (vr 4), some (vl (BitVec.ofInt 64 (keyL (srtN pk a ++ pk.filter (fun p => decide (p / 300 = (a : Int))))))), none, some (vi a), a4] [] σ (0, 0) := fun a4 => by
        have w := ih (a + 1) a4 (by omega)
        rw [srtN_s, Int.natCast_add] at w
        clear ih h hP hp hin hlen
        generalize keyL (srtN pk a ++ pk.filter (fun p => decide (p / 300 = (a : Int)))) = kk at *
        refine go_X10_keyOfPicked (ct := fun p => p == 4) 20 ?_
        simp only [oI, oL, oR, o1, lI, lL, lR, popN, catS, gv, stL, stL2, swt, cnd, spObj, List.getElem?_cons_zero, List.getElem?_cons_succ, List.getD_cons_zero, List.getD_cons_succ, List.set_cons_zero, List.set_cons_succ, List.nil_append, List.cons_append, Option.toList, Bool.or_false, Bool.false_or, Bool.or_true, Bool.true_or, Nat.reduceBEq, Nat.reduceAdd, Nat.reduceLT, Nat.reduceLeDiff, Int.reduceAdd, Int.reduceToNat, true_and, and_true, Fin.isValue, Fin.val_zero, Fin.val_one, Fin.val_two, Fin.reduceFinMk, eq_self, Int.reduceNeg, imp_self, Nat.reduceMul, Nat.le_refl, not_true_eq_false, not_false_eq_true, List.getElem?_nil, reduceCtorEq, true_or, or_true, Classical.not_not, implies_true, or_self, wI_0, wI_1, wI_m1, b2i_w, b2i_eq0, b2i_eq1, b2i_bool, nor_self, nx_pI, kd_pI, ln_pI, fI_pI, fL_pI, fR_pI, aI_pI, aL_pI, aR_pI, nx_pL, kd_pL, ln_pL, fI_pL, fL_pL, fR_pL, aI_pL, aL_pL, aR_pL, nx_pR, kd_pR, ln_pR, fI_pR, fL_pR, fR_pR, aI_pR, aL_pR, aR_pR, nx_qI, kd_qI, ln_qI, fI_qI, fL_qI, fR_qI, aI_qI, aL_qI, aR_qI, nx_qL, kd_qL, ln_qL, fI_qL, fL_qL, fR_qL, aI_qL, aL_qL, aR_qL, nx_qR, kd_qR, ln_qR, fI_qR, fL_qR, fR_qR, aI_qR, aL_qR, aR_qR, nx_mk, kd_mk, ln_mk, fI_mk, fL_mk, fR_mk, aI_mk, aL_mk, aR_mk, false_and, and_false, if_false, if_true, and_self, Int.reduceEq, Nat.reduceEqDiff, ite_self, MLay_pI, MLay_pL, MLay_qI, MLay_qL, ev_X10_keyOfPicked_79, ev_X10_keyOfPicked_82, xt_X10_keyOfPicked, xf_X10_keyOfPicked]
        exact w
      have hl9 := hlen (a + 1) (by omega)
      rw [srtN_s, List.length_append] at hl9
      have w := kop_13 hk hC hl hz hp hP (show a < 12 by omega) (srtN pk a) (hin a) (by omega) w79 pk.length 0 (by omega)
      rw [List.take_zero, List.filter_nil, List.append_nil] at w
      clear ih h w79 hP hp hin hlen
      generalize keyL (srtN pk a) = kk at *
      refine go_X10_keyOfPicked (ct := fun p => p == 13 || p == 85) 20 ?_
      simp only [oI, oL, oR, o1, lI, lL, lR, popN, catS, gv, stL, stL2, swt, cnd, spObj, List.getElem?_cons_zero, List.getElem?_cons_succ, List.getD_cons_zero, List.getD_cons_succ, List.set_cons_zero, List.set_cons_succ, List.nil_append, List.cons_append, Option.toList, Bool.or_false, Bool.false_or, Bool.or_true, Bool.true_or, Nat.reduceBEq, Nat.reduceAdd, Nat.reduceLT, Nat.reduceLeDiff, Int.reduceAdd, Int.reduceToNat, true_and, and_true, Fin.isValue, Fin.val_zero, Fin.val_one, Fin.val_two, Fin.reduceFinMk, eq_self, Int.reduceNeg, imp_self, Nat.reduceMul, Nat.le_refl, not_true_eq_false, not_false_eq_true, List.getElem?_nil, reduceCtorEq, true_or, or_true, Classical.not_not, implies_true, or_self, wI_0, wI_1, wI_m1, b2i_w, b2i_eq0, b2i_eq1, b2i_bool, nor_self, nx_pI, kd_pI, ln_pI, fI_pI, fL_pI, fR_pI, aI_pI, aL_pI, aR_pI, nx_pL, kd_pL, ln_pL, fI_pL, fL_pL, fR_pL, aI_pL, aL_pL, aR_pL, nx_pR, kd_pR, ln_pR, fI_pR, fL_pR, fR_pR, aI_pR, aL_pR, aR_pR, nx_qI, kd_qI, ln_qI, fI_qI, fL_qI, fR_qI, aI_qI, aL_qI, aR_qI, nx_qL, kd_qL, ln_qL, fI_qL, fL_qL, fR_qL, aI_qL, aL_qL, aR_qL, nx_qR, kd_qR, ln_qR, fI_qR, fL_qR, fR_qR, aI_qR, aL_qR, aR_qR, nx_mk, kd_mk, ln_mk, fI_mk, fL_mk, fR_mk, aI_mk, aL_mk, aR_mk, false_and, and_false, if_false, if_true, and_self, Int.reduceEq, Nat.reduceEqDiff, ite_self, MLay_pI, MLay_pL, MLay_qI, MLay_qL, ev_X10_keyOfPicked_4, ev_X10_keyOfPicked_5, ev_X10_keyOfPicked_7, ev_X10_keyOfPicked_10, ev_X10_keyOfPicked_11, xt_X10_keyOfPicked, xf_X10_keyOfPicked]
      try simp (disch := omega) only [wI_id, dv_nn, rm_nn]
      repeat' (first | intro z | apply And.intro)
      all_goals try omega
      all_goals try contradiction
      all_goals exact w
  have w := loop 12 0 none rfl
  clear loop h
  refine go_X10_keyOfPicked (ct := fun p => p == 4) 20 ?_
  simp only [oI, oL, oR, o1, lI, lL, lR, popN, catS, gv, stL, stL2, swt, cnd, spObj, List.getElem?_cons_zero, List.getElem?_cons_succ, List.getD_cons_zero, List.getD_cons_succ, List.set_cons_zero, List.set_cons_succ, List.nil_append, List.cons_append, Option.toList, Bool.or_false, Bool.false_or, Bool.or_true, Bool.true_or, Nat.reduceBEq, Nat.reduceAdd, Nat.reduceLT, Nat.reduceLeDiff, Int.reduceAdd, Int.reduceToNat, true_and, and_true, Fin.isValue, Fin.val_zero, Fin.val_one, Fin.val_two, Fin.reduceFinMk, eq_self, Int.reduceNeg, imp_self, Nat.reduceMul, Nat.le_refl, not_true_eq_false, not_false_eq_true, List.getElem?_nil, reduceCtorEq, true_or, or_true, Classical.not_not, implies_true, or_self, wI_0, wI_1, wI_m1, b2i_w, b2i_eq0, b2i_eq1, b2i_bool, nor_self, nx_pI, kd_pI, ln_pI, fI_pI, fL_pI, fR_pI, aI_pI, aL_pI, aR_pI, nx_pL, kd_pL, ln_pL, fI_pL, fL_pL, fR_pL, aI_pL, aL_pL, aR_pL, nx_pR, kd_pR, ln_pR, fI_pR, fL_pR, fR_pR, aI_pR, aL_pR, aR_pR, nx_qI, kd_qI, ln_qI, fI_qI, fL_qI, fR_qI, aI_qI, aL_qI, aR_qI, nx_qL, kd_qL, ln_qL, fI_qL, fL_qL, fR_qL, aI_qL, aL_qL, aR_qL, nx_qR, kd_qR, ln_qR, fI_qR, fL_qR, fR_qR, aI_qR, aL_qR, aR_qR, nx_mk, kd_mk, ln_mk, fI_mk, fL_mk, fR_mk, aI_mk, aL_mk, aR_mk, false_and, and_false, if_false, if_true, and_self, Int.reduceEq, Nat.reduceEqDiff, ite_self, MLay_pI, MLay_pL, MLay_qI, MLay_qL, ev_X10_keyOfPicked_0, ev_X10_keyOfPicked_1, ev_X10_keyOfPicked_2, ev_X10_keyOfPicked_3, xt_X10_keyOfPicked, xf_X10_keyOfPicked]
  exact w
