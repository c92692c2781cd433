/-! the class: cover, its bits -/

def btb (x : Int) (j : Nat) : Bool := (tB x).getLsbD j
theorem tB_toInt (b : BitVec 32) : tB b.toInt = b := by
  unfold tB
  exact BitVec.ofInt_toInt
theorem btb_or (x y : Int) (j : Nat) : btb (bOr x y) j = (btb x j || btb y j) := by
  unfold btb bOr
  rw [tB_toInt, BitVec.getLsbD_or]
theorem btb_and (x y : Int) (j : Nat) : btb (bAnd x y) j = (btb x j && btb y j) := by
  unfold btb bAnd
  rw [tB_toInt, BitVec.getLsbD_and]
theorem btb_xor (x y : Int) (j : Nat) : btb (bXor x y) j = (btb x j ^^ btb y j) := by
  unfold btb bXor
  rw [tB_toInt, BitVec.getLsbD_xor]
theorem btb_0 (j : Nat) : btb 0 j = false := by
  unfold btb tB
  exact BitVec.getLsbD_zero
theorem btb_m1 {j : Nat} (h : j < 32) : btb (-1) j = true := by
  have : ∀ j : Fin 32, btb (-1) j.val = true := by decide +kernel
  exact this ⟨j, h⟩
theorem btb_ge (x : Int) {j : Nat} (h : 32 ≤ j) : btb x j = false := BitVec.getLsbD_of_ge _ _ h
theorem btb_shl {h : Int} (h0 : 0 ≤ h ∧ h < 32) (j : Nat) : btb (shlI 1 h) j = decide ((j : Int) = h) := by
  by_cases c : j < 32
  · have : ∀ a : Fin 32, ∀ j : Fin 32, btb (shlI 1 (a.val : Int)) j.val = decide ((j.val : Int) = (a.val : Int)) := by decide +kernel
    have h2 := this ⟨h.toNat, by omega⟩ ⟨j, c⟩
    rw [show ((h.toNat : Nat) : Int) = h by omega] at h2
    exact h2
  · rw [btb_ge _ (by omega), decide_eq_false (by omega)]
theorem wI_toInt (b : BitVec 32) : wI b.toInt = b.toInt := by
  have h1 := BitVec.toInt_lt (x := b)
  have h2 := BitVec.le_toInt (x := b)
  exact wI_id (by omega) (by omega)
theorem bAnd_z (x y : Int) : (wI (bAnd x y) = 0) = ∀ j, ¬ (btb x j = true ∧ btb y j = true) := by
  apply propext
  unfold bAnd
  rw [wI_toInt]
  constructor
  · intro h j
    have e : tB x &&& tB y = 0#32 := by
      apply BitVec.eq_of_toInt_eq
      rw [h]; rfl
    have := congrArg (fun z => z.getLsbD j) e
    simp only [BitVec.getLsbD_and, BitVec.getLsbD_zero] at this
    unfold btb
    intro q
    rw [q.1, q.2] at this
    cases this
  · intro h
    have e : tB x &&& tB y = 0#32 := by
      apply BitVec.eq_of_getLsbD_eq
      intro j hj
      rw [BitVec.getLsbD_and, BitVec.getLsbD_zero]
      have := h j
      unfold btb at this
      cases c1 : (tB x).getLsbD j <;> cases c2 : (tB y).getLsbD j <;> simp_all
    rw [e]; rfl
theorem btb_shr {x h : Int} (h0 : 0 ≤ h ∧ h < 32) : (wI (bAnd (shrI x h) 1) = 0) = (btb x h.toNat = false) := by
  have e : shrI x h = ((tB x).sshiftRight h.toNat).toInt := by
    unfold shrI
    rw [BitVec.toInt_sshiftRight, Int.shiftRight_eq_div_pow]
    have e1 : (tB x).toInt = wI x := by
      have := c32_toInt x
      exact this
    have e2 : (h % 32).toNat = h.toNat := by omega
    rw [e1, e2, Int.natCast_pow]
    rfl
  rw [e, bAnd_z]
  apply propext
  have b0 : btb ((tB x).sshiftRight h.toNat).toInt 0 = btb x h.toNat := by
    unfold btb
    rw [tB_toInt, BitVec.getLsbD_sshiftRight]
    simp
    intro z
    omega
  have b1 : ∀ j, btb 1 j = decide (j = 0) := fun j => by
    by_cases c : j < 32
    · have : ∀ j : Fin 32, btb 1 j.val = decide (j.val = 0) := by decide +kernel
      exact this ⟨j, c⟩
    · rw [btb_ge _ (by omega), decide_eq_false (by omega)]
  constructor
  · intro z
    have := z 0
    rw [b0, b1 0] at this
    cases hb : btb x h.toNat
    · rfl
    · exact absurd ⟨hb, rfl⟩ this
  · intro z j q
    rw [b1 j] at q
    have e : j = 0 := of_decide_eq_true q.2
    subst e
    rw [b0, z] at q
    cases q.1
def cPut (σ : Hp) (u : Int) : Hp := pI (qI σ 21 u (aI σ 21 u + 1)) 707 19 (bOr (fI σ 707 19) (shlI 1 u))
def cLft (σ : Hp) (u : Int) : Hp := pI (qI σ 21 u (aI σ 21 u - 1)) 707 19 (bAnd (fI σ 707 19) (if 0 < aI σ 21 u - 1 then -1 else bXor (shlI 1 u) (-1)))

def sp_X6_putEngine : Sp := fun av σ Q => oR av fun this av => oI av fun u av => av = [] ∧ kd σ this = 7 ∧ (this = 19 ∧ CLay σ ∧ (0 ≤ u ∧ u ≤ 11) ∧ Q none (cPut σ u))
theorem us_X6_putEngine (this : Int) (u : Int) (σ : Hp) (Q : Option AV → Hp → Prop) : sp_X6_putEngine [vr this, vi u] σ Q = (kd σ this = 7 ∧ (this = 19 ∧ CLay σ ∧ (0 ≤ u ∧ u ≤ 11) ∧ Q none (cPut σ u))) := propext ⟨fun h => h.2, fun h => ⟨rfl, h⟩⟩
theorem el_X6_putEngine {av : List AV} {σ : Hp} {Q : Option AV → Hp → Prop} (h : sp_X6_putEngine av σ Q) : ∃ (this : Int) (u : Int), av = [vr this, vi u] ∧ (kd σ this = 7 ∧ (this = 19 ∧ CLay σ ∧ (0 ≤ u ∧ u ≤ 11) ∧ Q none (cPut σ u))) := by
  obtain ⟨this, a0, rfl, h0⟩ := oR_s h
  obtain ⟨u, a1, rfl, h1⟩ := oI_s h0
  obtain ⟨rfl, hz⟩ := h1
  exact ⟨this, u, rfl, hz⟩
theorem rc_X6_putEngine : ∀ (av : List AV) (σ : Hp) (Q : Option AV → Hp → Prop), sp_X6_putEngine av σ Q → ∃ r tl, av = vr r :: tl ∧ kd σ r = 6 + 1 := fun av σ Q h => by
  obtain ⟨this, u, rfl, hz, -⟩ := el_X6_putEngine h
  exact ⟨this, _, rfl, hz⟩

def tb_X6_putEngine : Tab := [(0, .iload_n 1, 1, (0, 0, 0, 0)), (1, .ifCond .lt 34, 3, (0, 0, 0, 0)), (4, .iload_n 1, 1, (0, 0, 0, 0)), (5, .aload_n 0, 1, (0, 0, 0, 0)), (6, .getfield 15, 3, (7, 701, 2, 0)), (9, .arraylength, 1, (0, 0, 0, 0)), (10, .if_icmp .ge 25, 3, (0, 0, 0, 0)), (13, .aload_n 0, 1, (0, 0, 0, 0)), (14, .getfield 15, 3, (7, 701, 2, 0)), (17, .iload_n 1, 1, (0, 0, 0, 0)), (18, .dup2, 1, (0, 0, 0, 0)), (19, .iaload, 1, (0, 0, 0, 0)), (20, .iconst 1, 1, (0, 0, 0, 0)), (21, .iadd, 1, (0, 0, 0, 0)), (22, .iastore, 1, (0, 0, 0, 0)), (23, .aload_n 0, 1, (0, 0, 0, 0)), (24, .dup, 1, (0, 0, 0, 0)), (25, .getfield 42, 3, (7, 707, 0, 0)), (28, .iconst 1, 1, (0, 0, 0, 0)), (29, .iload_n 1, 1, (0, 0, 0, 0)), (30, .ishl, 1, (0, 0, 0, 0)), (31, .ior, 1, (0, 0, 0, 0)), (32, .putfield 42, 3, (7, 707, 0, 0)), (35, .return_, 1, (0, 0, 0, 0))]
set_option maxRecDepth 100000 in
theorem tk_X6_putEngine : TOK RX6 false cX6_putEngine tb_X6_putEngine := chkT_ok ft_X6 (by decide +kernel)
def mt_X6_putEngine : List (Nat × Mt) := []
theorem mk_X6_putEngine : MOK RX6 mt_X6_putEngine := fun q hq => by cases hq
noncomputable def xe_X6_putEngine (ct : Nat → Bool) (K : Kt) (R : Option AV → Hp → Prop) (n : Nat) : Kt := exS 2 1 0 0 0 tb_X6_putEngine mt_X6_putEngine ct K R n
noncomputable def xk_X6_putEngine (ct : Nat → Bool) (K : Kt) (R : Option AV → Hp → Prop) (n : Nat) : Kt := exkS 2 1 0 0 0 tb_X6_putEngine mt_X6_putEngine ct K R n
theorem xt_X6_putEngine {ct : Nat → Bool} {K : Kt} {R : Option AV → Hp → Prop} {n pc : Nat} {ls : List (Option AV)} {st : List AV} {σ : Hp} {k : Nat × Nat} (h : ct pc = true) : xk_X6_putEngine ct K R n pc ls st σ k = K pc ls st σ k := by unfold xk_X6_putEngine exkS; rw [h]
theorem xf_X6_putEngine {ct : Nat → Bool} {K : Kt} {R : Option AV → Hp → Prop} {n pc : Nat} {ls : List (Option AV)} {st : List AV} {σ : Hp} {k : Nat × Nat} (h : ct pc = false) : xk_X6_putEngine ct K R n pc ls st σ k = xe_X6_putEngine ct K R n pc ls st σ k := by unfold xk_X6_putEngine exkS xe_X6_putEngine; rw [h]
theorem ev_X6_putEngine_0 {ct : Nat → Bool} {K : Kt} {R : Option AV → Hp → Prop} {n : Nat} {ls : List (Option AV)} {st : List AV} {σ : Hp} {k : Nat × Nat} : xe_X6_putEngine ct K R (n + 1) 0 ls st σ k = (lI ls 1 fun x => xk_X6_putEngine ct K R n 1 ls (vi x :: st) σ k) := exS_step.trans rfl
theorem ev_X6_putEngine_1 {ct : Nat → Bool} {K : Kt} {R : Option AV → Hp → Prop} {n : Nat} {ls : List (Option AV)} {st : List AV} {σ : Hp} {k : Nat × Nat} : xe_X6_putEngine ct K R (n + 1) 1 ls st σ k = (oI st fun x st => (wI x < wI 0 → xk_X6_putEngine ct K R n 35 ls st σ k) ∧ (¬ (wI x < wI 0) → xk_X6_putEngine ct K R n 4 ls st σ k)) := exS_step.trans rfl
theorem ev_X6_putEngine_4 {ct : Nat → Bool} {K : Kt} {R : Option AV → Hp → Prop} {n : Nat} {ls : List (Option AV)} {st : List AV} {σ : Hp} {k : Nat × Nat} : xe_X6_putEngine ct K R (n + 1) 4 ls st σ k = (lI ls 1 fun x => xk_X6_putEngine ct K R n 5 ls (vi x :: st) σ k) := exS_step.trans rfl
theorem ev_X6_putEngine_5 {ct : Nat → Bool} {K : Kt} {R : Option AV → Hp → Prop} {n : Nat} {ls : List (Option AV)} {st : List AV} {σ : Hp} {k : Nat × Nat} : xe_X6_putEngine ct K R (n + 1) 5 ls st σ k = (lR ls 0 fun x => xk_X6_putEngine ct K R n 6 ls (vr x :: st) σ k) := exS_step.trans rfl
theorem ev_X6_putEngine_6 {ct : Nat → Bool} {K : Kt} {R : Option AV → Hp → Prop} {n : Nat} {ls : List (Option AV)} {st : List AV} {σ : Hp} {k : Nat × Nat} : xe_X6_putEngine ct K R (n + 1) 6 ls st σ k = (oR st fun x st => kd σ x = 7 ∧ xk_X6_putEngine ct K R n 9 ls (vr (fR σ 701 x) :: st) σ k) := exS_step.trans rfl
theorem ev_X6_putEngine_9 {ct : Nat → Bool} {K : Kt} {R : Option AV → Hp → Prop} {n : Nat} {ls : List (Option AV)} {st : List AV} {σ : Hp} {k : Nat × Nat} : xe_X6_putEngine ct K R (n + 1) 9 ls st σ k = (oR st fun x st => (101 ≤ kd σ x ∨ kd σ x = 21) ∧ xk_X6_putEngine ct K R n 10 ls (vi (ln σ x) :: st) σ k) := exS_step.trans rfl
theorem ev_X6_putEngine_10 {ct : Nat → Bool} {K : Kt} {R : Option AV → Hp → Prop} {n : Nat} {ls : List (Option AV)} {st : List AV} {σ : Hp} {k : Nat × Nat} : xe_X6_putEngine ct K R (n + 1) 10 ls st σ k = (oI st fun y st => oI st fun x st => (wI y ≤ wI x → xk_X6_putEngine ct K R n 35 ls st σ k) ∧ (¬ (wI y ≤ wI x) → xk_X6_putEngine ct K R n 13 ls st σ k)) := exS_step.trans rfl
theorem ev_X6_putEngine_13 {ct : Nat → Bool} {K : Kt} {R : Option AV → Hp → Prop} {n : Nat} {ls : List (Option AV)} {st : List AV} {σ : Hp} {k : Nat × Nat} : xe_X6_putEngine ct K R (n + 1) 13 ls st σ k = (lR ls 0 fun x => xk_X6_putEngine ct K R n 14 ls (vr x :: st) σ k) := exS_step.trans rfl
theorem ev_X6_putEngine_14 {ct : Nat → Bool} {K : Kt} {R : Option AV → Hp → Prop} {n : Nat} {ls : List (Option AV)} {st : List AV} {σ : Hp} {k : Nat × Nat} : xe_X6_putEngine ct K R (n + 1) 14 ls st σ k = (oR st fun x st => kd σ x = 7 ∧ xk_X6_putEngine ct K R n 17 ls (vr (fR σ 701 x) :: st) σ k) := exS_step.trans rfl
theorem ev_X6_putEngine_17 {ct : Nat → Bool} {K : Kt} {R : Option AV → Hp → Prop} {n : Nat} {ls : List (Option AV)} {st : List AV} {σ : Hp} {k : Nat × Nat} : xe_X6_putEngine ct K R (n + 1) 17 ls st σ k = (lI ls 1 fun x => xk_X6_putEngine ct K R n 18 ls (vi x :: st) σ k) := exS_step.trans rfl
theorem ev_X6_putEngine_18 {ct : Nat → Bool} {K : Kt} {R : Option AV → Hp → Prop} {n : Nat} {ls : List (Option AV)} {st : List AV} {σ : Hp} {k : Nat × Nat} : xe_X6_putEngine ct K R (n + 1) 18 ls st σ k = (o1 st fun v st => o1 st fun u st => xk_X6_putEngine ct K R n 19 ls (v :: u :: v :: u :: st) σ k) := exS_step.trans rfl
theorem ev_X6_putEngine_19 {ct : Nat → Bool} {K : Kt} {R : Option AV → Hp → Prop} {n : Nat} {ls : List (Option AV)} {st : List AV} {σ : Hp} {k : Nat × Nat} : xe_X6_putEngine ct K R (n + 1) 19 ls st σ k = (oI st fun j st => oR st fun x st => (kd σ x = 101 ∨ kd σ x = 108) ∧ (0 ≤ j ∧ j < ln σ x) ∧ xk_X6_putEngine ct K R n 20 ls (vi (aI σ x j) :: st) σ k) := exS_step.trans rfl
theorem ev_X6_putEngine_20 {ct : Nat → Bool} {K : Kt} {R : Option AV → Hp → Prop} {n : Nat} {ls : List (Option AV)} {st : List AV} {σ : Hp} {k : Nat × Nat} : xe_X6_putEngine ct K R (n + 1) 20 ls st σ k = (xk_X6_putEngine ct K R n 21 ls (vi (1) :: st) σ k) := exS_step.trans rfl
theorem ev_X6_putEngine_21 {ct : Nat → Bool} {K : Kt} {R : Option AV → Hp → Prop} {n : Nat} {ls : List (Option AV)} {st : List AV} {σ : Hp} {k : Nat × Nat} : xe_X6_putEngine ct K R (n + 1) 21 ls st σ k = (oI st fun y st => oI st fun x st => xk_X6_putEngine ct K R n 22 ls (vi (x + y) :: st) σ k) := exS_step.trans rfl
theorem ev_X6_putEngine_22 {ct : Nat → Bool} {K : Kt} {R : Option AV → Hp → Prop} {n : Nat} {ls : List (Option AV)} {st : List AV} {σ : Hp} {k : Nat × Nat} : xe_X6_putEngine ct K R (n + 1) 22 ls st σ k = (oI st fun v st => oI st fun j st => oR st fun x st => kd σ x = 101 ∧ (0 ≤ j ∧ j < ln σ x) ∧ xk_X6_putEngine ct K R n 23 ls st (qI σ x j v) k) := exS_step.trans rfl
theorem ev_X6_putEngine_23 {ct : Nat → Bool} {K : Kt} {R : Option AV → Hp → Prop} {n : Nat} {ls : List (Option AV)} {st : List AV} {σ : Hp} {k : Nat × Nat} : xe_X6_putEngine ct K R (n + 1) 23 ls st σ k = (lR ls 0 fun x => xk_X6_putEngine ct K R n 24 ls (vr x :: st) σ k) := exS_step.trans rfl
theorem ev_X6_putEngine_24 {ct : Nat → Bool} {K : Kt} {R : Option AV → Hp → Prop} {n : Nat} {ls : List (Option AV)} {st : List AV} {σ : Hp} {k : Nat × Nat} : xe_X6_putEngine ct K R (n + 1) 24 ls st σ k = (o1 st fun v st => xk_X6_putEngine ct K R n 25 ls (v :: v :: st) σ k) := exS_step.trans rfl
theorem ev_X6_putEngine_25 {ct : Nat → Bool} {K : Kt} {R : Option AV → Hp → Prop} {n : Nat} {ls : List (Option AV)} {st : List AV} {σ : Hp} {k : Nat × Nat} : xe_X6_putEngine ct K R (n + 1) 25 ls st σ k = (oR st fun x st => kd σ x = 7 ∧ xk_X6_putEngine ct K R n 28 ls (vi (fI σ 707 x) :: st) σ k) := exS_step.trans rfl
theorem ev_X6_putEngine_28 {ct : Nat → Bool} {K : Kt} {R : Option AV → Hp → Prop} {n : Nat} {ls : List (Option AV)} {st : List AV} {σ : Hp} {k : Nat × Nat} : xe_X6_putEngine ct K R (n + 1) 28 ls st σ k = (xk_X6_putEngine ct K R n 29 ls (vi (1) :: st) σ k) := exS_step.trans rfl
theorem ev_X6_putEngine_29 {ct : Nat → Bool} {K : Kt} {R : Option AV → Hp → Prop} {n : Nat} {ls : List (Option AV)} {st : List AV} {σ : Hp} {k : Nat × Nat} : xe_X6_putEngine ct K R (n + 1) 29 ls st σ k = (lI ls 1 fun x => xk_X6_putEngine ct K R n 30 ls (vi x :: st) σ k) := exS_step.trans rfl
theorem ev_X6_putEngine_30 {ct : Nat → Bool} {K : Kt} {R : Option AV → Hp → Prop} {n : Nat} {ls : List (Option AV)} {st : List AV} {σ : Hp} {k : Nat × Nat} : xe_X6_putEngine ct K R (n + 1) 30 ls st σ k = (oI st fun y st => oI st fun x st => xk_X6_putEngine ct K R n 31 ls (vi (shlI x y) :: st) σ k) := exS_step.trans rfl
theorem ev_X6_putEngine_31 {ct : Nat → Bool} {K : Kt} {R : Option AV → Hp → Prop} {n : Nat} {ls : List (Option AV)} {st : List AV} {σ : Hp} {k : Nat × Nat} : xe_X6_putEngine ct K R (n + 1) 31 ls st σ k = (oI st fun y st => oI st fun x st => xk_X6_putEngine ct K R n 32 ls (vi (bOr x y) :: st) σ k) := exS_step.trans rfl
theorem ev_X6_putEngine_32 {ct : Nat → Bool} {K : Kt} {R : Option AV → Hp → Prop} {n : Nat} {ls : List (Option AV)} {st : List AV} {σ : Hp} {k : Nat × Nat} : xe_X6_putEngine ct K R (n + 1) 32 ls st σ k = (oI st fun v st => oR st fun x st => kd σ x = 7 ∧ xk_X6_putEngine ct K R n 35 ls st (pI σ 707 x v) k) := exS_step.trans rfl
theorem ev_X6_putEngine_35 {ct : Nat → Bool} {K : Kt} {R : Option AV → Hp → Prop} {n : Nat} {ls : List (Option AV)} {st : List AV} {σ : Hp} {k : Nat × Nat} : xe_X6_putEngine ct K R (n + 1) 35 ls st σ k = (st = [] ∧ 0 = 0 ∧ R none σ) := exS_step.trans rfl
def M_X6_putEngine : Md := (yX6_putEngine, cX6_putEngine, 2, (none : Option FieldType), 1, 0, 0, 0, false, tb_X6_putEngine, mt_X6_putEngine)
theorem mm_X6_putEngine : MMOK M_X6_putEngine := ⟨by decide +kernel, tk_X6_putEngine, mk_X6_putEngine, rfl, fun h => by cases h⟩
theorem go_X6_putEngine {Q : Option AV → Hp → Prop} {ct : Nat → Bool} {pc : Nat} {ls : List (Option AV)} {st : List AV} {σ : Hp} {k : Nat × Nat} (n : Nat) (h : xe_X6_putEngine ct (Go M_X6_putEngine Q) Q n pc ls st σ k) : Go M_X6_putEngine Q pc ls st σ k := Go.exS mm_X6_putEngine h

set_option maxRecDepth 20000 in
theorem c_X6_putEngine : Ct yX6_putEngine cX6_putEngine 2 ((none : Option FieldType)) 1 0 0 sp_X6_putEngine := by
  refine Ct.go (M := M_X6_putEngine) mm_X6_putEngine fun av σ Q h0 => ?_
  obtain ⟨this, u, rfl, hk, h⟩ := el_X6_putEngine h0
  clear h0
  refine ⟨Nat.le_of_ble_eq_true rfl, ?_⟩
  show Go M_X6_putEngine Q 0 [some (vr this), some (vi u)] [] σ (0, 0)
  obtain ⟨rfl, hC, hu, h⟩ := h
  unfold cPut at h
  refine go_X6_putEngine (ct := fun p => p == 99) 60 ?_
  simp only [oI, oL, oR, o1, lI, lL, lR, popN, catS, gv, stL, stL2, swt, cnd, spObj, List.getElem?_cons_zero, List.getElem?_cons_succ, List.getD_cons_zero, List.getD_cons_succ, List.set_cons_zero, List.set_cons_succ, List.nil_append, List.cons_append, Option.toList, Bool.or_false, Bool.false_or, Bool.or_true, Bool.true_or, Nat.reduceBEq, Nat.reduceAdd, Nat.reduceLT, Nat.reduceLeDiff, Int.reduceAdd, Int.reduceToNat, true_and, and_true, Fin.isValue, Fin.val_zero, Fin.val_one, Fin.val_two, Fin.reduceFinMk, eq_self, Int.reduceNeg, imp_self, Nat.reduceMul, Nat.le_refl, not_true_eq_false, not_false_eq_true, List.getElem?_nil, reduceCtorEq, true_or, or_true, Classical.not_not, implies_true, or_self, wI_0, wI_1, wI_m1, b2i_w, b2i_eq0, b2i_eq1, b2i_bool, nor_self, nx_pI, kd_pI, ln_pI, fI_pI, fL_pI, fR_pI, aI_pI, aL_pI, aR_pI, nx_pL, kd_pL, ln_pL, fI_pL, fL_pL, fR_pL, aI_pL, aL_pL, aR_pL, nx_pR, kd_pR, ln_pR, fI_pR, fL_pR, fR_pR, aI_pR, aL_pR, aR_pR, nx_qI, kd_qI, ln_qI, fI_qI, fL_qI, fR_qI, aI_qI, aL_qI, aR_qI, nx_qL, kd_qL, ln_qL, fI_qL, fL_qL, fR_qL, aI_qL, aL_qL, aR_qL, nx_qR, kd_qR, ln_qR, fI_qR, fL_qR, fR_qR, aI_qR, aL_qR, aR_qR, nx_mk, kd_mk, ln_mk, fI_mk, fL_mk, fR_mk, aI_mk, aL_mk, aR_mk, false_and, and_false, if_false, if_true, and_self, Int.reduceEq, Nat.reduceEqDiff, ite_self, MLay_pI, MLay_pL, MLay_qI, MLay_qL, ev_X6_putEngine_0, ev_X6_putEngine_1, ev_X6_putEngine_4, ev_X6_putEngine_5, ev_X6_putEngine_6, ev_X6_putEngine_9, ev_X6_putEngine_10, ev_X6_putEngine_13, ev_X6_putEngine_14, ev_X6_putEngine_17, ev_X6_putEngine_18, ev_X6_putEngine_19, ev_X6_putEngine_20, ev_X6_putEngine_21, ev_X6_putEngine_22, ev_X6_putEngine_23, ev_X6_putEngine_24, ev_X6_putEngine_25, ev_X6_putEngine_28, ev_X6_putEngine_29, ev_X6_putEngine_30, ev_X6_putEngine_31, ev_X6_putEngine_32, ev_X6_putEngine_35, xt_X6_putEngine, xf_X6_putEngine, hC.eqs]
  try simp (disch := omega) only [wI_id, dv_nn, rm_nn]
  repeat' (first | intro z | apply And.intro)
  all_goals try omega
  all_goals try contradiction
  all_goals exact h

def sp_X6_liftEngine : Sp := fun av σ Q => oR av fun this av => oI av fun u av => av = [] ∧ kd σ this = 7 ∧ (this = 19 ∧ CLay σ ∧ (0 ≤ u ∧ u ≤ 11) ∧ (0 ≤ aI σ 21 u ∧ aI σ 21 u ≤ 100) ∧ Q none (cLft σ u))
theorem us_X6_liftEngine (this : Int) (u : Int) (σ : Hp) (Q : Option AV → Hp → Prop) : sp_X6_liftEngine [vr this, vi u] σ Q = (kd σ this = 7 ∧ (this = 19 ∧ CLay σ ∧ (0 ≤ u ∧ u ≤ 11) ∧ (0 ≤ aI σ 21 u ∧ aI σ 21 u ≤ 100) ∧ Q none (cLft σ u))) := propext ⟨fun h => h.2, fun h => ⟨rfl, h⟩⟩
theorem el_X6_liftEngine {av : List AV} {σ : Hp} {Q : Option AV → Hp → Prop} (h : sp_X6_liftEngine av σ Q) : ∃ (this : Int) (u : Int), av = [vr this, vi u] ∧ (kd σ this = 7 ∧ (this = 19 ∧ CLay σ ∧ (0 ≤ u ∧ u ≤ 11) ∧ (0 ≤ aI σ 21 u ∧ aI σ 21 u ≤ 100) ∧ Q none (cLft σ u))) := by
  obtain ⟨this, a0, rfl, h0⟩ := oR_s h
  obtain ⟨u, a1, rfl, h1⟩ := oI_s h0
  obtain ⟨rfl, hz⟩ := h1
  exact ⟨this, u, rfl, hz⟩
theorem rc_X6_liftEngine : ∀ (av : List AV) (σ : Hp) (Q : Option AV → Hp → Prop), sp_X6_liftEngine av σ Q → ∃ r tl, av = vr r :: tl ∧ kd σ r = 6 + 1 := fun av σ Q h => by
  obtain ⟨this, u, rfl, hz, -⟩ := el_X6_liftEngine h
  exact ⟨this, _, rfl, hz⟩

def tb_X6_liftEngine : Tab := [(0, .iload_n 1, 1, (0, 0, 0, 0)), (1, .ifCond .lt 49, 3, (0, 0, 0, 0)), (4, .iload_n 1, 1, (0, 0, 0, 0)), (5, .aload_n 0, 1, (0, 0, 0, 0)), (6, .getfield 15, 3, (7, 701, 2, 0)), (9, .arraylength, 1, (0, 0, 0, 0)), (10, .if_icmp .ge 40, 3, (0, 0, 0, 0)), (13, .aload_n 0, 1, (0, 0, 0, 0)), (14, .getfield 15, 3, (7, 701, 2, 0)), (17, .iload_n 1, 1, (0, 0, 0, 0)), (18, .dup2, 1, (0, 0, 0, 0)), (19, .iaload, 1, (0, 0, 0, 0)), (20, .iconst 1, 1, (0, 0, 0, 0)), (21, .isub, 1, (0, 0, 0, 0)), (22, .iastore, 1, (0, 0, 0, 0)), (23, .aload_n 0, 1, (0, 0, 0, 0)), (24, .dup, 1, (0, 0, 0, 0)), (25, .getfield 42, 3, (7, 707, 0, 0)), (28, .aload_n 0, 1, (0, 0, 0, 0)), (29, .getfield 15, 3, (7, 701, 2, 0)), (32, .iload_n 1, 1, (0, 0, 0, 0)), (33, .iaload, 1, (0, 0, 0, 0)), (34, .ifCond .le 7, 3, (0, 0, 0, 0)), (37, .iconst (-1), 1, (0, 0, 0, 0)), (38, .goto 8, 3, (0, 0, 0, 0)), (41, .iconst 1, 1, (0, 0, 0, 0)), (42, .iload_n 1, 1, (0, 0, 0, 0)), (43, .ishl, 1, (0, 0, 0, 0)), (44, .iconst (-1), 1, (0, 0, 0, 0)), (45, .ixor, 1, (0, 0, 0, 0)), (46, .iand, 1, (0, 0, 0, 0)), (47, .putfield 42, 3, (7, 707, 0, 0)), (50, .return_, 1, (0, 0, 0, 0))]
set_option maxRecDepth 100000 in
theorem tk_X6_liftEngine : TOK RX6 false cX6_liftEngine tb_X6_liftEngine := chkT_ok ft_X6 (by decide +kernel)
def mt_X6_liftEngine : List (Nat × Mt) := []
theorem mk_X6_liftEngine : MOK RX6 mt_X6_liftEngine := fun q hq => by cases hq
noncomputable def xe_X6_liftEngine (ct : Nat → Bool) (K : Kt) (R : Option AV → Hp → Prop) (n : Nat) : Kt := exS 2 1 0 0 0 tb_X6_liftEngine mt_X6_liftEngine ct K R n
noncomputable def xk_X6_liftEngine (ct : Nat → Bool) (K : Kt) (R : Option AV → Hp → Prop) (n : Nat) : Kt := exkS 2 1 0 0 0 tb_X6_liftEngine mt_X6_liftEngine ct K R n
theorem xt_X6_liftEngine {ct : Nat → Bool} {K : Kt} {R : Option AV → Hp → Prop} {n pc : Nat} {ls : List (Option AV)} {st : List AV} {σ : Hp} {k : Nat × Nat} (h : ct pc = true) : xk_X6_liftEngine ct K R n pc ls st σ k = K pc ls st σ k := by unfold xk_X6_liftEngine exkS; rw [h]
theorem xf_X6_liftEngine {ct : Nat → Bool} {K : Kt} {R : Option AV → Hp → Prop} {n pc : Nat} {ls : List (Option AV)} {st : List AV} {σ : Hp} {k : Nat × Nat} (h : ct pc = false) : xk_X6_liftEngine ct K R n pc ls st σ k = xe_X6_liftEngine ct K R n pc ls st σ k := by unfold xk_X6_liftEngine exkS xe_X6_liftEngine; rw [h]
theorem ev_X6_liftEngine_0 {ct : Nat → Bool} {K : Kt} {R : Option AV → Hp → Prop} {n : Nat} {ls : List (Option AV)} {st : List AV} {σ : Hp} {k : Nat × Nat} : xe_X6_liftEngine ct K R (n + 1) 0 ls st σ k = (lI ls 1 fun x => xk_X6_liftEngine ct K R n 1 ls (vi x :: st) σ k) := exS_step.trans rfl
theorem ev_X6_liftEngine_1 {ct : Nat → Bool} {K : Kt} {R : Option AV → Hp → Prop} {n : Nat} {ls : List (Option AV)} {st : List AV} {σ : Hp} {k : Nat × Nat} : xe_X6_liftEngine ct K R (n + 1) 1 ls st σ k = (oI st fun x st => (wI x < wI 0 → xk_X6_liftEngine ct K R n 50 ls st σ k) ∧ (¬ (wI x < wI 0) → xk_X6_liftEngine ct K R n 4 ls st σ k)) := exS_step.trans rfl
theorem ev_X6_liftEngine_4 {ct : Nat → Bool} {K : Kt} {R : Option AV → Hp → Prop} {n : Nat} {ls : List (Option AV)} {st : List AV} {σ : Hp} {k : Nat × Nat} : xe_X6_liftEngine ct K R (n + 1) 4 ls st σ k = (lI ls 1 fun x => xk_X6_liftEngine ct K R n 5 ls (vi x :: st) σ k) := exS_step.trans rfl
theorem ev_X6_liftEngine_5 {ct : Nat → Bool} {K : Kt} {R : Option AV → Hp → Prop} {n : Nat} {ls : List (Option AV)} {st : List AV} {σ : Hp} {k : Nat × Nat} : xe_X6_liftEngine ct K R (n + 1) 5 ls st σ k = (lR ls 0 fun x => xk_X6_liftEngine ct K R n 6 ls (vr x :: st) σ k) := exS_step.trans rfl
theorem ev_X6_liftEngine_6 {ct : Nat → Bool} {K : Kt} {R : Option AV → Hp → Prop} {n : Nat} {ls : List (Option AV)} {st : List AV} {σ : Hp} {k : Nat × Nat} : xe_X6_liftEngine ct K R (n + 1) 6 ls st σ k = (oR st fun x st => kd σ x = 7 ∧ xk_X6_liftEngine ct K R n 9 ls (vr (fR σ 701 x) :: st) σ k) := exS_step.trans rfl
theorem ev_X6_liftEngine_9 {ct : Nat → Bool} {K : Kt} {R : Option AV → Hp → Prop} {n : Nat} {ls : List (Option AV)} {st : List AV} {σ : Hp} {k : Nat × Nat} : xe_X6_liftEngine ct K R (n + 1) 9 ls st σ k = (oR st fun x st => (101 ≤ kd σ x ∨ kd σ x = 21) ∧ xk_X6_liftEngine ct K R n 10 ls (vi (ln σ x) :: st) σ k) := exS_step.trans rfl
theorem ev_X6_liftEngine_10 {ct : Nat → Bool} {K : Kt} {R : Option AV → Hp → Prop} {n : Nat} {ls : List (Option AV)} {st : List AV} {σ : Hp} {k : Nat × Nat} : xe_X6_liftEngine ct K R (n + 1) 10 ls st σ k = (oI st fun y st => oI st fun x st => (wI y ≤ wI x → xk_X6_liftEngine ct K R n 50 ls st σ k) ∧ (¬ (wI y ≤ wI x) → xk_X6_liftEngine ct K R n 13 ls st σ k)) := exS_step.trans rfl
theorem ev_X6_liftEngine_13 {ct : Nat → Bool} {K : Kt} {R : Option AV → Hp → Prop} {n : Nat} {ls : List (Option AV)} {st : List AV} {σ : Hp} {k : Nat × Nat} : xe_X6_liftEngine ct K R (n + 1) 13 ls st σ k = (lR ls 0 fun x => xk_X6_liftEngine ct K R n 14 ls (vr x :: st) σ k) := exS_step.trans rfl
theorem ev_X6_liftEngine_14 {ct : Nat → Bool} {K : Kt} {R : Option AV → Hp → Prop} {n : Nat} {ls : List (Option AV)} {st : List AV} {σ : Hp} {k : Nat × Nat} : xe_X6_liftEngine ct K R (n + 1) 14 ls st σ k = (oR st fun x st => kd σ x = 7 ∧ xk_X6_liftEngine ct K R n 17 ls (vr (fR σ 701 x) :: st) σ k) := exS_step.trans rfl
theorem ev_X6_liftEngine_17 {ct : Nat → Bool} {K : Kt} {R : Option AV → Hp → Prop} {n : Nat} {ls : List (Option AV)} {st : List AV} {σ : Hp} {k : Nat × Nat} : xe_X6_liftEngine ct K R (n + 1) 17 ls st σ k = (lI ls 1 fun x => xk_X6_liftEngine ct K R n 18 ls (vi x :: st) σ k) := exS_step.trans rfl
theorem ev_X6_liftEngine_18 {ct : Nat → Bool} {K : Kt} {R : Option AV → Hp → Prop} {n : Nat} {ls : List (Option AV)} {st : List AV} {σ : Hp} {k : Nat × Nat} : xe_X6_liftEngine ct K R (n + 1) 18 ls st σ k = (o1 st fun v st => o1 st fun u st => xk_X6_liftEngine ct K R n 19 ls (v :: u :: v :: u :: st) σ k) := exS_step.trans rfl
theorem ev_X6_liftEngine_19 {ct : Nat → Bool} {K : Kt} {R : Option AV → Hp → Prop} {n : Nat} {ls : List (Option AV)} {st : List AV} {σ : Hp} {k : Nat × Nat} : xe_X6_liftEngine ct K R (n + 1) 19 ls st σ k = (oI st fun j st => oR st fun x st => (kd σ x = 101 ∨ kd σ x = 108) ∧ (0 ≤ j ∧ j < ln σ x) ∧ xk_X6_liftEngine ct K R n 20 ls (vi (aI σ x j) :: st) σ k) := exS_step.trans rfl
theorem ev_X6_liftEngine_20 {ct : Nat → Bool} {K : Kt} {R : Option AV → Hp → Prop} {n : Nat} {ls : List (Option AV)} {st : List AV} {σ : Hp} {k : Nat × Nat} : xe_X6_liftEngine ct K R (n + 1) 20 ls st σ k = (xk_X6_liftEngine ct K R n 21 ls (vi (1) :: st) σ k) := exS_step.trans rfl
theorem ev_X6_liftEngine_21 {ct : Nat → Bool} {K : Kt} {R : Option AV → Hp → Prop} {n : Nat} {ls : List (Option AV)} {st : List AV} {σ : Hp} {k : Nat × Nat} : xe_X6_liftEngine ct K R (n + 1) 21 ls st σ k = (oI st fun y st => oI st fun x st => xk_X6_liftEngine ct K R n 22 ls (vi (x - y) :: st) σ k) := exS_step.trans rfl
theorem ev_X6_liftEngine_22 {ct : Nat → Bool} {K : Kt} {R : Option AV → Hp → Prop} {n : Nat} {ls : List (Option AV)} {st : List AV} {σ : Hp} {k : Nat × Nat} : xe_X6_liftEngine ct K R (n + 1) 22 ls st σ k = (oI st fun v st => oI st fun j st => oR st fun x st => kd σ x = 101 ∧ (0 ≤ j ∧ j < ln σ x) ∧ xk_X6_liftEngine ct K R n 23 ls st (qI σ x j v) k) := exS_step.trans rfl
theorem ev_X6_liftEngine_23 {ct : Nat → Bool} {K : Kt} {R : Option AV → Hp → Prop} {n : Nat} {ls : List (Option AV)} {st : List AV} {σ : Hp} {k : Nat × Nat} : xe_X6_liftEngine ct K R (n + 1) 23 ls st σ k = (lR ls 0 fun x => xk_X6_liftEngine ct K R n 24 ls (vr x :: st) σ k) := exS_step.trans rfl
theorem ev_X6_liftEngine_24 {ct : Nat → Bool} {K : Kt} {R : Option AV → Hp → Prop} {n : Nat} {ls : List (Option AV)} {st : List AV} {σ : Hp} {k : Nat × Nat} : xe_X6_liftEngine ct K R (n + 1) 24 ls st σ k = (o1 st fun v st => xk_X6_liftEngine ct K R n 25 ls (v :: v :: st) σ k) := exS_step.trans rfl
theorem ev_X6_liftEngine_25 {ct : Nat → Bool} {K : Kt} {R : Option AV → Hp → Prop} {n : Nat} {ls : List (Option AV)} {st : List AV} {σ : Hp} {k : Nat × Nat} : xe_X6_liftEngine ct K R (n + 1) 25 ls st σ k = (oR st fun x st => kd σ x = 7 ∧ xk_X6_liftEngine ct K R n 28 ls (vi (fI σ 707 x) :: st) σ k) := exS_step.trans rfl
theorem ev_X6_liftEngine_28 {ct : Nat → Bool} {K : Kt} {R : Option AV → Hp → Prop} {n : Nat} {ls : List (Option AV)} {st : List AV} {σ : Hp} {k : Nat × Nat} : xe_X6_liftEngine ct K R (n + 1) 28 ls st σ k = (lR ls 0 fun x => xk_X6_liftEngine ct K R n 29 ls (vr x :: st) σ k) := exS_step.trans rfl
theorem ev_X6_liftEngine_29 {ct : Nat → Bool} {K : Kt} {R : Option AV → Hp → Prop} {n : Nat} {ls : List (Option AV)} {st : List AV} {σ : Hp} {k : Nat × Nat} : xe_X6_liftEngine ct K R (n + 1) 29 ls st σ k = (oR st fun x st => kd σ x = 7 ∧ xk_X6_liftEngine ct K R n 32 ls (vr (fR σ 701 x) :: st) σ k) := exS_step.trans rfl
theorem ev_X6_liftEngine_32 {ct : Nat → Bool} {K : Kt} {R : Option AV → Hp → Prop} {n : Nat} {ls : List (Option AV)} {st : List AV} {σ : Hp} {k : Nat × Nat} : xe_X6_liftEngine ct K R (n + 1) 32 ls st σ k = (lI ls 1 fun x => xk_X6_liftEngine ct K R n 33 ls (vi x :: st) σ k) := exS_step.trans rfl
theorem ev_X6_liftEngine_33 {ct : Nat → Bool} {K : Kt} {R : Option AV → Hp → Prop} {n : Nat} {ls : List (Option AV)} {st : List AV} {σ : Hp} {k : Nat × Nat} : xe_X6_liftEngine ct K R (n + 1) 33 ls st σ k = (oI st fun j st => oR st fun x st => (kd σ x = 101 ∨ kd σ x = 108) ∧ (0 ≤ j ∧ j < ln σ x) ∧ xk_X6_liftEngine ct K R n 34 ls (vi (aI σ x j) :: st) σ k) := exS_step.trans rfl
theorem ev_X6_liftEngine_34 {ct : Nat → Bool} {K : Kt} {R : Option AV → Hp → Prop} {n : Nat} {ls : List (Option AV)} {st : List AV} {σ : Hp} {k : Nat × Nat} : xe_X6_liftEngine ct K R (n + 1) 34 ls st σ k = (oI st fun x st => (wI x ≤ wI 0 → xk_X6_liftEngine ct K R n 41 ls st σ k) ∧ (¬ (wI x ≤ wI 0) → xk_X6_liftEngine ct K R n 37 ls st σ k)) := exS_step.trans rfl
theorem ev_X6_liftEngine_37 {ct : Nat → Bool} {K : Kt} {R : Option AV → Hp → Prop} {n : Nat} {ls : List (Option AV)} {st : List AV} {σ : Hp} {k : Nat × Nat} : xe_X6_liftEngine ct K R (n + 1) 37 ls st σ k = (xk_X6_liftEngine ct K R n 38 ls (vi (-1) :: st) σ k) := exS_step.trans rfl
theorem ev_X6_liftEngine_38 {ct : Nat → Bool} {K : Kt} {R : Option AV → Hp → Prop} {n : Nat} {ls : List (Option AV)} {st : List AV} {σ : Hp} {k : Nat × Nat} : xe_X6_liftEngine ct K R (n + 1) 38 ls st σ k = (xk_X6_liftEngine ct K R n 46 ls st σ k) := exS_step.trans rfl
theorem ev_X6_liftEngine_41 {ct : Nat → Bool} {K : Kt} {R : Option AV → Hp → Prop} {n : Nat} {ls : List (Option AV)} {st : List AV} {σ : Hp} {k : Nat × Nat} : xe_X6_liftEngine ct K R (n + 1) 41 ls st σ k = (xk_X6_liftEngine ct K R n 42 ls (vi (1) :: st) σ k) := exS_step.trans rfl
theorem ev_X6_liftEngine_42 {ct : Nat → Bool} {K : Kt} {R : Option AV → Hp → Prop} {n : Nat} {ls : List (Option AV)} {st : List AV} {σ : Hp} {k : Nat × Nat} : xe_X6_liftEngine ct K R (n + 1) 42 ls st σ k = (lI ls 1 fun x => xk_X6_liftEngine ct K R n 43 ls (vi x :: st) σ k) := exS_step.trans rfl
theorem ev_X6_liftEngine_43 {ct : Nat → Bool} {K : Kt} {R : Option AV → Hp → Prop} {n : Nat} {ls : List (Option AV)} {st : List AV} {σ : Hp} {k : Nat × Nat} : xe_X6_liftEngine ct K R (n + 1) 43 ls st σ k = (oI st fun y st => oI st fun x st => xk_X6_liftEngine ct K R n 44 ls (vi (shlI x y) :: st) σ k) := exS_step.trans rfl
theorem ev_X6_liftEngine_44 {ct : Nat → Bool} {K : Kt} {R : Option AV → Hp → Prop} {n : Nat} {ls : List (Option AV)} {st : List AV} {σ : Hp} {k : Nat × Nat} : xe_X6_liftEngine ct K R (n + 1) 44 ls st σ k = (xk_X6_liftEngine ct K R n 45 ls (vi (-1) :: st) σ k) := exS_step.trans rfl
theorem ev_X6_liftEngine_45 {ct : Nat → Bool} {K : Kt} {R : Option AV → Hp → Prop} {n : Nat} {ls : List (Option AV)} {st : List AV} {σ : Hp} {k : Nat × Nat} : xe_X6_liftEngine ct K R (n + 1) 45 ls st σ k = (oI st fun y st => oI st fun x st => xk_X6_liftEngine ct K R n 46 ls (vi (bXor x y) :: st) σ k) := exS_step.trans rfl
theorem ev_X6_liftEngine_46 {ct : Nat → Bool} {K : Kt} {R : Option AV → Hp → Prop} {n : Nat} {ls : List (Option AV)} {st : List AV} {σ : Hp} {k : Nat × Nat} : xe_X6_liftEngine ct K R (n + 1) 46 ls st σ k = (oI st fun y st => oI st fun x st => xk_X6_liftEngine ct K R n 47 ls (vi (bAnd x y) :: st) σ k) := exS_step.trans rfl
theorem ev_X6_liftEngine_47 {ct : Nat → Bool} {K : Kt} {R : Option AV → Hp → Prop} {n : Nat} {ls : List (Option AV)} {st : List AV} {σ : Hp} {k : Nat × Nat} : xe_X6_liftEngine ct K R (n + 1) 47 ls st σ k = (oI st fun v st => oR st fun x st => kd σ x = 7 ∧ xk_X6_liftEngine ct K R n 50 ls st (pI σ 707 x v) k) := exS_step.trans rfl
theorem ev_X6_liftEngine_50 {ct : Nat → Bool} {K : Kt} {R : Option AV → Hp → Prop} {n : Nat} {ls : List (Option AV)} {st : List AV} {σ : Hp} {k : Nat × Nat} : xe_X6_liftEngine ct K R (n + 1) 50 ls st σ k = (st = [] ∧ 0 = 0 ∧ R none σ) := exS_step.trans rfl
def M_X6_liftEngine : Md := (yX6_liftEngine, cX6_liftEngine, 2, (none : Option FieldType), 1, 0, 0, 0, false, tb_X6_liftEngine, mt_X6_liftEngine)
theorem mm_X6_liftEngine : MMOK M_X6_liftEngine := ⟨by decide +kernel, tk_X6_liftEngine, mk_X6_liftEngine, rfl, fun h => by cases h⟩
theorem go_X6_liftEngine {Q : Option AV → Hp → Prop} {ct : Nat → Bool} {pc : Nat} {ls : List (Option AV)} {st : List AV} {σ : Hp} {k : Nat × Nat} (n : Nat) (h : xe_X6_liftEngine ct (Go M_X6_liftEngine Q) Q n pc ls st σ k) : Go M_X6_liftEngine Q pc ls st σ k := Go.exS mm_X6_liftEngine h

set_option maxRecDepth 20000 in
theorem c_X6_liftEngine : Ct yX6_liftEngine cX6_liftEngine 2 ((none : Option FieldType)) 1 0 0 sp_X6_liftEngine := by
  refine Ct.go (M := M_X6_liftEngine) mm_X6_liftEngine fun av σ Q h0 => ?_
  obtain ⟨this, u, rfl, hk, h⟩ := el_X6_liftEngine h0
  clear h0
  refine ⟨Nat.le_of_ble_eq_true rfl, ?_⟩
  show Go M_X6_liftEngine Q 0 [some (vr this), some (vi u)] [] σ (0, 0)
  obtain ⟨rfl, hC, hu, hN, h⟩ := h
  unfold cLft at h
  by_cases c : 0 < aI σ 21 u - 1
  · rw [if_pos c] at h
    refine go_X6_liftEngine (ct := fun p => p == 41) 60 ?_
    simp only [oI, oL, oR, o1, lI, lL, lR, popN, catS, gv, stL, stL2, swt, cnd, spObj, List.getElem?_cons_zero, List.getElem?_cons_succ, List.getD_cons_zero, List.getD_cons_succ, List.set_cons_zero, List.set_cons_succ, List.nil_append, List.cons_append, Option.toList, Bool.or_false, Bool.false_or, Bool.or_true, Bool.true_or, Nat.reduceBEq, Nat.reduceAdd, Nat.reduceLT, Nat.reduceLeDiff, Int.reduceAdd, Int.reduceToNat, true_and, and_true, Fin.isValue, Fin.val_zero, Fin.val_one, Fin.val_two, Fin.reduceFinMk, eq_self, Int.reduceNeg, imp_self, Nat.reduceMul, Nat.le_refl, not_true_eq_false, not_false_eq_true, List.getElem?_nil, reduceCtorEq, true_or, or_true, Classical.not_not, implies_true, or_self, wI_0, wI_1, wI_m1, b2i_w, b2i_eq0, b2i_eq1, b2i_bool, nor_self, nx_pI, kd_pI, ln_pI, fI_pI, fL_pI, fR_pI, aI_pI, aL_pI, aR_pI, nx_pL, kd_pL, ln_pL, fI_pL, fL_pL, fR_pL, aI_pL, aL_pL, aR_pL, nx_pR, kd_pR, ln_pR, fI_pR, fL_pR, fR_pR, aI_pR, aL_pR, aR_pR, nx_qI, kd_qI, ln_qI, fI_qI, fL_qI, fR_qI, aI_qI, aL_qI, aR_qI, nx_qL, kd_qL, ln_qL, fI_qL, fL_qL, fR_qL, aI_qL, aL_qL, aR_qL, nx_qR, kd_qR, ln_qR, fI_qR, fL_qR, fR_qR, aI_qR, aL_qR, aR_qR, nx_mk, kd_mk, ln_mk, fI_mk, fL_mk, fR_mk, aI_mk, aL_mk, aR_mk, false_and, and_false, if_false, if_true, and_self, Int.reduceEq, Nat.reduceEqDiff, ite_self, MLay_pI, MLay_pL, MLay_qI, MLay_qL, ev_X6_liftEngine_0, ev_X6_liftEngine_1, ev_X6_liftEngine_4, ev_X6_liftEngine_5, ev_X6_liftEngine_6, ev_X6_liftEngine_9, ev_X6_liftEngine_10, ev_X6_liftEngine_13, ev_X6_liftEngine_14, ev_X6_liftEngine_17, ev_X6_liftEngine_18, ev_X6_liftEngine_19, ev_X6_liftEngine_20, ev_X6_liftEngine_21, ev_X6_liftEngine_22, ev_X6_liftEngine_23, ev_X6_liftEngine_24, ev_X6_liftEngine_25, ev_X6_liftEngine_28, ev_X6_liftEngine_29, ev_X6_liftEngine_32, ev_X6_liftEngine_33, ev_X6_liftEngine_34, ev_X6_liftEngine_37, ev_X6_liftEngine_38, ev_X6_liftEngine_41, ev_X6_liftEngine_42, ev_X6_liftEngine_43, ev_X6_liftEngine_44, ev_X6_liftEngine_45, ev_X6_liftEngine_46, ev_X6_liftEngine_47, ev_X6_liftEngine_50, xt_X6_liftEngine, xf_X6_liftEngine, hC.eqs]
    try simp (disch := omega) only [wI_id, dv_nn, rm_nn]
    repeat' (first | intro z | apply And.intro)
    all_goals try omega
    all_goals try contradiction
    all_goals exact h
  · rw [if_neg c] at h
    refine go_X6_liftEngine (ct := fun p => p == 37) 60 ?_
    simp only [oI, oL, oR, o1, lI, lL, lR, popN, catS, gv, stL, stL2, swt, cnd, spObj, List.getElem?_cons_zero, List.getElem?_cons_succ, List.getD_cons_zero, List.getD_cons_succ, List.set_cons_zero, List.set_cons_succ, List.nil_append, List.cons_append, Option.toList, Bool.or_false, Bool.false_or, Bool.or_true, Bool.true_or, Nat.reduceBEq, Nat.reduceAdd, Nat.reduceLT, Nat.reduceLeDiff, Int.reduceAdd, Int.reduceToNat, true_and, and_true, Fin.isValue, Fin.val_zero, Fin.val_one, Fin.val_two, Fin.reduceFinMk, eq_self, Int.reduceNeg, imp_self, Nat.reduceMul, Nat.le_refl, not_true_eq_false, not_false_eq_true, List.getElem?_nil, reduceCtorEq, true_or, or_true, Classical.not_not, implies_true, or_self, wI_0, wI_1, wI_m1, b2i_w, b2i_eq0, b2i_eq1, b2i_bool, nor_self, nx_pI, kd_pI, ln_pI, fI_pI, fL_pI, fR_pI, aI_pI, aL_pI, aR_pI, nx_pL, kd_pL, ln_pL, fI_pL, fL_pL, fR_pL, aI_pL, aL_pL, aR_pL, nx_pR, kd_pR, ln_pR, fI_pR, fL_pR, fR_pR, aI_pR, aL_pR, aR_pR, nx_qI, kd_qI, ln_qI, fI_qI, fL_qI, fR_qI, aI_qI, aL_qI, aR_qI, nx_qL, kd_qL, ln_qL, fI_qL, fL_qL, fR_qL, aI_qL, aL_qL, aR_qL, nx_qR, kd_qR, ln_qR, fI_qR, fL_qR, fR_qR, aI_qR, aL_qR, aR_qR, nx_mk, kd_mk, ln_mk, fI_mk, fL_mk, fR_mk, aI_mk, aL_mk, aR_mk, false_and, and_false, if_false, if_true, and_self, Int.reduceEq, Nat.reduceEqDiff, ite_self, MLay_pI, MLay_pL, MLay_qI, MLay_qL, ev_X6_liftEngine_0, ev_X6_liftEngine_1, ev_X6_liftEngine_4, ev_X6_liftEngine_5, ev_X6_liftEngine_6, ev_X6_liftEngine_9, ev_X6_liftEngine_10, ev_X6_liftEngine_13, ev_X6_liftEngine_14, ev_X6_liftEngine_17, ev_X6_liftEngine_18, ev_X6_liftEngine_19, ev_X6_liftEngine_20, ev_X6_liftEngine_21, ev_X6_liftEngine_22, ev_X6_liftEngine_23, ev_X6_liftEngine_24, ev_X6_liftEngine_25, ev_X6_liftEngine_28, ev_X6_liftEngine_29, ev_X6_liftEngine_32, ev_X6_liftEngine_33, ev_X6_liftEngine_34, ev_X6_liftEngine_37, ev_X6_liftEngine_38, ev_X6_liftEngine_41, ev_X6_liftEngine_42, ev_X6_liftEngine_43, ev_X6_liftEngine_44, ev_X6_liftEngine_45, ev_X6_liftEngine_46, ev_X6_liftEngine_47, ev_X6_liftEngine_50, xt_X6_liftEngine, xf_X6_liftEngine, hC.eqs]
    try simp (disch := omega) only [wI_id, dv_nn, rm_nn]
    repeat' (first | intro z | apply And.intro)
    all_goals try omega
    all_goals try contradiction
    all_goals exact h

def sp_X6_companyAt : Sp := fun av σ Q => oR av fun this av => oI av fun i av => av = [] ∧ kd σ this = 7 ∧ (this = 19 ∧ CLay σ ∧ inR i ∧ Q (some (vi (if 0 ≤ i ∧ i < 2 then aI σ 22 i else -1))) σ)
theorem us_X6_companyAt (this : Int) (i : Int) (σ : Hp) (Q : Option AV → Hp → Prop) : sp_X6_companyAt [vr this, vi i] σ Q = (kd σ this = 7 ∧ (this = 19 ∧ CLay σ ∧ inR i ∧ Q (some (vi (if 0 ≤ i ∧ i < 2 then aI σ 22 i else -1))) σ)) := propext ⟨fun h => h.2, fun h => ⟨rfl, h⟩⟩
theorem el_X6_companyAt {av : List AV} {σ : Hp} {Q : Option AV → Hp → Prop} (h : sp_X6_companyAt av σ Q) : ∃ (this : Int) (i : Int), av = [vr this, vi i] ∧ (kd σ this = 7 ∧ (this = 19 ∧ CLay σ ∧ inR i ∧ Q (some (vi (if 0 ≤ i ∧ i < 2 then aI σ 22 i else -1))) σ)) := by
  obtain ⟨this, a0, rfl, h0⟩ := oR_s h
  obtain ⟨i, a1, rfl, h1⟩ := oI_s h0
  obtain ⟨rfl, hz⟩ := h1
  exact ⟨this, i, rfl, hz⟩
theorem rc_X6_companyAt : ∀ (av : List AV) (σ : Hp) (Q : Option AV → Hp → Prop), sp_X6_companyAt av σ Q → ∃ r tl, av = vr r :: tl ∧ kd σ r = 6 + 1 := fun av σ Q h => by
  obtain ⟨this, i, rfl, hz, -⟩ := el_X6_companyAt h
  exact ⟨this, _, rfl, hz⟩

def tb_X6_companyAt : Tab := [(0, .iload_n 1, 1, (0, 0, 0, 0)), (1, .ifCond .lt 21, 3, (0, 0, 0, 0)), (4, .iload_n 1, 1, (0, 0, 0, 0)), (5, .aload_n 0, 1, (0, 0, 0, 0)), (6, .getfield 18, 3, (7, 702, 2, 0)), (9, .arraylength, 1, (0, 0, 0, 0)), (10, .if_icmp .ge 12, 3, (0, 0, 0, 0)), (13, .aload_n 0, 1, (0, 0, 0, 0)), (14, .getfield 18, 3, (7, 702, 2, 0)), (17, .iload_n 1, 1, (0, 0, 0, 0)), (18, .iaload, 1, (0, 0, 0, 0)), (19, .goto 4, 3, (0, 0, 0, 0)), (22, .iconst (-1), 1, (0, 0, 0, 0)), (23, .ireturn, 1, (0, 0, 0, 0))]
set_option maxRecDepth 100000 in
theorem tk_X6_companyAt : TOK RX6 false cX6_companyAt tb_X6_companyAt := chkT_ok ft_X6 (by decide +kernel)
def mt_X6_companyAt : List (Nat × Mt) := []
theorem mk_X6_companyAt : MOK RX6 mt_X6_companyAt := fun q hq => by cases hq
noncomputable def xe_X6_companyAt (ct : Nat → Bool) (K : Kt) (R : Option AV → Hp → Prop) (n : Nat) : Kt := exS 2 1 0 0 1 tb_X6_companyAt mt_X6_companyAt ct K R n
noncomputable def xk_X6_companyAt (ct : Nat → Bool) (K : Kt) (R : Option AV → Hp → Prop) (n : Nat) : Kt := exkS 2 1 0 0 1 tb_X6_companyAt mt_X6_companyAt ct K R n
theorem xt_X6_companyAt {ct : Nat → Bool} {K : Kt} {R : Option AV → Hp → Prop} {n pc : Nat} {ls : List (Option AV)} {st : List AV} {σ : Hp} {k : Nat × Nat} (h : ct pc = true) : xk_X6_companyAt ct K R n pc ls st σ k = K pc ls st σ k := by unfold xk_X6_companyAt exkS; rw [h]
theorem xf_X6_companyAt {ct : Nat → Bool} {K : Kt} {R : Option AV → Hp → Prop} {n pc : Nat} {ls : List (Option AV)} {st : List AV} {σ : Hp} {k : Nat × Nat} (h : ct pc = false) : xk_X6_companyAt ct K R n pc ls st σ k = xe_X6_companyAt ct K R n pc ls st σ k := by unfold xk_X6_companyAt exkS xe_X6_companyAt; rw [h]
theorem ev_X6_companyAt_0 {ct : Nat → Bool} {K : Kt} {R : Option AV → Hp → Prop} {n : Nat} {ls : List (Option AV)} {st : List AV} {σ : Hp} {k : Nat × Nat} : xe_X6_companyAt ct K R (n + 1) 0 ls st σ k = (lI ls 1 fun x => xk_X6_companyAt ct K R n 1 ls (vi x :: st) σ k) := exS_step.trans rfl
theorem ev_X6_companyAt_1 {ct : Nat → Bool} {K : Kt} {R : Option AV → Hp → Prop} {n : Nat} {ls : List (Option AV)} {st : List AV} {σ : Hp} {k : Nat × Nat} : xe_X6_companyAt ct K R (n + 1) 1 ls st σ k = (oI st fun x st => (wI x < wI 0 → xk_X6_companyAt ct K R n 22 ls st σ k) ∧ (¬ (wI x < wI 0) → xk_X6_companyAt ct K R n 4 ls st σ k)) := exS_step.trans rfl
theorem ev_X6_companyAt_4 {ct : Nat → Bool} {K : Kt} {R : Option AV → Hp → Prop} {n : Nat} {ls : List (Option AV)} {st : List AV} {σ : Hp} {k : Nat × Nat} : xe_X6_companyAt ct K R (n + 1) 4 ls st σ k = (lI ls 1 fun x => xk_X6_companyAt ct K R n 5 ls (vi x :: st) σ k) := exS_step.trans rfl
theorem ev_X6_companyAt_5 {ct : Nat → Bool} {K : Kt} {R : Option AV → Hp → Prop} {n : Nat} {ls : List (Option AV)} {st : List AV} {σ : Hp} {k : Nat × Nat} : xe_X6_companyAt ct K R (n + 1) 5 ls st σ k = (lR ls 0 fun x => xk_X6_companyAt ct K R n 6 ls (vr x :: st) σ k) := exS_step.trans rfl
theorem ev_X6_companyAt_6 {ct : Nat → Bool} {K : Kt} {R : Option AV → Hp → Prop} {n : Nat} {ls : List (Option AV)} {st : List AV} {σ : Hp} {k : Nat × Nat} : xe_X6_companyAt ct K R (n + 1) 6 ls st σ k = (oR st fun x st => kd σ x = 7 ∧ xk_X6_companyAt ct K R n 9 ls (vr (fR σ 702 x) :: st) σ k) := exS_step.trans rfl
theorem ev_X6_companyAt_9 {ct : Nat → Bool} {K : Kt} {R : Option AV → Hp → Prop} {n : Nat} {ls : List (Option AV)} {st : List AV} {σ : Hp} {k : Nat × Nat} : xe_X6_companyAt ct K R (n + 1) 9 ls st σ k = (oR st fun x st => (101 ≤ kd σ x ∨ kd σ x = 21) ∧ xk_X6_companyAt ct K R n 10 ls (vi (ln σ x) :: st) σ k) := exS_step.trans rfl
theorem ev_X6_companyAt_10 {ct : Nat → Bool} {K : Kt} {R : Option AV → Hp → Prop} {n : Nat} {ls : List (Option AV)} {st : List AV} {σ : Hp} {k : Nat × Nat} : xe_X6_companyAt ct K R (n + 1) 10 ls st σ k = (oI st fun y st => oI st fun x st => (wI y ≤ wI x → xk_X6_companyAt ct K R n 22 ls st σ k) ∧ (¬ (wI y ≤ wI x) → xk_X6_companyAt ct K R n 13 ls st σ k)) := exS_step.trans rfl
theorem ev_X6_companyAt_13 {ct : Nat → Bool} {K : Kt} {R : Option AV → Hp → Prop} {n : Nat} {ls : List (Option AV)} {st : List AV} {σ : Hp} {k : Nat × Nat} : xe_X6_companyAt ct K R (n + 1) 13 ls st σ k = (lR ls 0 fun x => xk_X6_companyAt ct K R n 14 ls (vr x :: st) σ k) := exS_step.trans rfl
theorem ev_X6_companyAt_14 {ct : Nat → Bool} {K : Kt} {R : Option AV → Hp → Prop} {n : Nat} {ls : List (Option AV)} {st : List AV} {σ : Hp} {k : Nat × Nat} : xe_X6_companyAt ct K R (n + 1) 14 ls st σ k = (oR st fun x st => kd σ x = 7 ∧ xk_X6_companyAt ct K R n 17 ls (vr (fR σ 702 x) :: st) σ k) := exS_step.trans rfl
theorem ev_X6_companyAt_17 {ct : Nat → Bool} {K : Kt} {R : Option AV → Hp → Prop} {n : Nat} {ls : List (Option AV)} {st : List AV} {σ : Hp} {k : Nat × Nat} : xe_X6_companyAt ct K R (n + 1) 17 ls st σ k = (lI ls 1 fun x => xk_X6_companyAt ct K R n 18 ls (vi x :: st) σ k) := exS_step.trans rfl
theorem ev_X6_companyAt_18 {ct : Nat → Bool} {K : Kt} {R : Option AV → Hp → Prop} {n : Nat} {ls : List (Option AV)} {st : List AV} {σ : Hp} {k : Nat × Nat} : xe_X6_companyAt ct K R (n + 1) 18 ls st σ k = (oI st fun j st => oR st fun x st => (kd σ x = 101 ∨ kd σ x = 108) ∧ (0 ≤ j ∧ j < ln σ x) ∧ xk_X6_companyAt ct K R n 19 ls (vi (aI σ x j) :: st) σ k) := exS_step.trans rfl
theorem ev_X6_companyAt_19 {ct : Nat → Bool} {K : Kt} {R : Option AV → Hp → Prop} {n : Nat} {ls : List (Option AV)} {st : List AV} {σ : Hp} {k : Nat × Nat} : xe_X6_companyAt ct K R (n + 1) 19 ls st σ k = (xk_X6_companyAt ct K R n 23 ls st σ k) := exS_step.trans rfl
theorem ev_X6_companyAt_22 {ct : Nat → Bool} {K : Kt} {R : Option AV → Hp → Prop} {n : Nat} {ls : List (Option AV)} {st : List AV} {σ : Hp} {k : Nat × Nat} : xe_X6_companyAt ct K R (n + 1) 22 ls st σ k = (xk_X6_companyAt ct K R n 23 ls (vi (-1) :: st) σ k) := exS_step.trans rfl
theorem ev_X6_companyAt_23 {ct : Nat → Bool} {K : Kt} {R : Option AV → Hp → Prop} {n : Nat} {ls : List (Option AV)} {st : List AV} {σ : Hp} {k : Nat × Nat} : xe_X6_companyAt ct K R (n + 1) 23 ls st σ k = (oI st fun x st => st = [] ∧ True ∧ R (some (vi x)) σ) := exS_step.trans rfl
def M_X6_companyAt : Md := (yX6_companyAt, cX6_companyAt, 2, (some FieldType.int), 1, 0, 0, 1, false, tb_X6_companyAt, mt_X6_companyAt)
theorem mm_X6_companyAt : MMOK M_X6_companyAt := ⟨by decide +kernel, tk_X6_companyAt, mk_X6_companyAt, rfl, fun h => by cases h⟩
theorem go_X6_companyAt {Q : Option AV → Hp → Prop} {ct : Nat → Bool} {pc : Nat} {ls : List (Option AV)} {st : List AV} {σ : Hp} {k : Nat × Nat} (n : Nat) (h : xe_X6_companyAt ct (Go M_X6_companyAt Q) Q n pc ls st σ k) : Go M_X6_companyAt Q pc ls st σ k := Go.exS mm_X6_companyAt h

set_option maxRecDepth 20000 in
theorem c_X6_companyAt : Ct yX6_companyAt cX6_companyAt 2 ((some FieldType.int)) 1 0 0 sp_X6_companyAt := by
  refine Ct.go (M := M_X6_companyAt) mm_X6_companyAt fun av σ Q h0 => ?_
  obtain ⟨this, i, rfl, hk, h⟩ := el_X6_companyAt h0
  clear h0
  refine ⟨Nat.le_of_ble_eq_true rfl, ?_⟩
  show Go M_X6_companyAt Q 0 [some (vr this), some (vi i)] [] σ (0, 0)
  obtain ⟨rfl, hC, hi, h⟩ := h
  unfold inR at hi
  by_cases c : 0 ≤ i ∧ i < 2
  · rw [if_pos c] at h
    refine go_X6_companyAt (ct := fun p => p == 22) 60 ?_
    simp only [oI, oL, oR, o1, lI, lL, lR, popN, catS, gv, stL, stL2, swt, cnd, spObj, List.getElem?_cons_zero, List.getElem?_cons_succ, List.getD_cons_zero, List.getD_cons_succ, List.set_cons_zero, List.set_cons_succ, List.nil_append, List.cons_append, Option.toList, Bool.or_false, Bool.false_or, Bool.or_true, Bool.true_or, Nat.reduceBEq, Nat.reduceAdd, Nat.reduceLT, Nat.reduceLeDiff, Int.reduceAdd, Int.reduceToNat, true_and, and_true, Fin.isValue, Fin.val_zero, Fin.val_one, Fin.val_two, Fin.reduceFinMk, eq_self, Int.reduceNeg, imp_self, Nat.reduceMul, Nat.le_refl, not_true_eq_false, not_false_eq_true, List.getElem?_nil, reduceCtorEq, true_or, or_true, Classical.not_not, implies_true, or_self, wI_0, wI_1, wI_m1, b2i_w, b2i_eq0, b2i_eq1, b2i_bool, nor_self, nx_pI, kd_pI, ln_pI, fI_pI, fL_pI, fR_pI, aI_pI, aL_pI, aR_pI, nx_pL, kd_pL, ln_pL, fI_pL, fL_pL, fR_pL, aI_pL, aL_pL, aR_pL, nx_pR, kd_pR, ln_pR, fI_pR, fL_pR, fR_pR, aI_pR, aL_pR, aR_pR, nx_qI, kd_qI, ln_qI, fI_qI, fL_qI, fR_qI, aI_qI, aL_qI, aR_qI, nx_qL, kd_qL, ln_qL, fI_qL, fL_qL, fR_qL, aI_qL, aL_qL, aR_qL, nx_qR, kd_qR, ln_qR, fI_qR, fL_qR, fR_qR, aI_qR, aL_qR, aR_qR, nx_mk, kd_mk, ln_mk, fI_mk, fL_mk, fR_mk, aI_mk, aL_mk, aR_mk, false_and, and_false, if_false, if_true, and_self, Int.reduceEq, Nat.reduceEqDiff, ite_self, MLay_pI, MLay_pL, MLay_qI, MLay_qL, ev_X6_companyAt_0, ev_X6_companyAt_1, ev_X6_companyAt_4, ev_X6_companyAt_5, ev_X6_companyAt_6, ev_X6_companyAt_9, ev_X6_companyAt_10, ev_X6_companyAt_13, ev_X6_companyAt_14, ev_X6_companyAt_17, ev_X6_companyAt_18, ev_X6_companyAt_19, ev_X6_companyAt_22, ev_X6_companyAt_23, xt_X6_companyAt, xf_X6_companyAt, hC.eqs]
    try simp (disch := omega) only [wI_id, dv_nn, rm_nn]
    repeat' (first | intro z | apply And.intro)
    all_goals try omega
    all_goals try contradiction
    all_goals exact h
  · rw [if_neg c] at h
    refine go_X6_companyAt (ct := fun p => p == 12) 60 ?_
    simp only [oI, oL, oR, o1, lI, lL, lR, popN, catS, gv, stL, stL2, swt, cnd, spObj, List.getElem?_cons_zero, List.getElem?_cons_succ, List.getD_cons_zero, List.getD_cons_succ, List.set_cons_zero, List.set_cons_succ, List.nil_append, List.cons_append, Option.toList, Bool.or_false, Bool.false_or, Bool.or_true, Bool.true_or, Nat.reduceBEq, Nat.reduceAdd, Nat.reduceLT, Nat.reduceLeDiff, Int.reduceAdd, Int.reduceToNat, true_and, and_true, Fin.isValue, Fin.val_zero, Fin.val_one, Fin.val_two, Fin.reduceFinMk, eq_self, Int.reduceNeg, imp_self, Nat.reduceMul, Nat.le_refl, not_true_eq_false, not_false_eq_true, List.getElem?_nil, reduceCtorEq, true_or, or_true, Classical.not_not, implies_true, or_self, wI_0, wI_1, wI_m1, b2i_w, b2i_eq0, b2i_eq1, b2i_bool, nor_self, nx_pI, kd_pI, ln_pI, fI_pI, fL_pI, fR_pI, aI_pI, aL_pI, aR_pI, nx_pL, kd_pL, ln_pL, fI_pL, fL_pL, fR_pL, aI_pL, aL_pL, aR_pL, nx_pR, kd_pR, ln_pR, fI_pR, fL_pR, fR_pR, aI_pR, aL_pR, aR_pR, nx_qI, kd_qI, ln_qI, fI_qI, fL_qI, fR_qI, aI_qI, aL_qI, aR_qI, nx_qL, kd_qL, ln_qL, fI_qL, fL_qL, fR_qL, aI_qL, aL_qL, aR_qL, nx_qR, kd_qR, ln_qR, fI_qR, fL_qR, fR_qR, aI_qR, aL_qR, aR_qR, nx_mk, kd_mk, ln_mk, fI_mk, fL_mk, fR_mk, aI_mk, aL_mk, aR_mk, false_and, and_false, if_false, if_true, and_self, Int.reduceEq, Nat.reduceEqDiff, ite_self, MLay_pI, MLay_pL, MLay_qI, MLay_qL, ev_X6_companyAt_0, ev_X6_companyAt_1, ev_X6_companyAt_4, ev_X6_companyAt_5, ev_X6_companyAt_6, ev_X6_companyAt_9, ev_X6_companyAt_10, ev_X6_companyAt_13, ev_X6_companyAt_14, ev_X6_companyAt_17, ev_X6_companyAt_18, ev_X6_companyAt_19, ev_X6_companyAt_22, ev_X6_companyAt_23, xt_X6_companyAt, xf_X6_companyAt, hC.eqs]
    try simp (disch := omega) only [wI_id, dv_nn, rm_nn]
    repeat' (first | intro z | apply And.intro)
    all_goals try omega
    all_goals try contradiction
    all_goals exact h

def sp_X6_houseAt : Sp := fun av σ Q => oR av fun this av => oI av fun i av => av = [] ∧ kd σ this = 7 ∧ (this = 19 ∧ CLay σ ∧ inR i ∧ Q (some (vi (if 0 ≤ i ∧ i < 2 then aI σ 23 i else -1))) σ)
theorem us_X6_houseAt (this : Int) (i : Int) (σ : Hp) (Q : Option AV → Hp → Prop) : sp_X6_houseAt [vr this, vi i] σ Q = (kd σ this = 7 ∧ (this = 19 ∧ CLay σ ∧ inR i ∧ Q (some (vi (if 0 ≤ i ∧ i < 2 then aI σ 23 i else -1))) σ)) := propext ⟨fun h => h.2, fun h => ⟨rfl, h⟩⟩
theorem el_X6_houseAt {av : List AV} {σ : Hp} {Q : Option AV → Hp → Prop} (h : sp_X6_houseAt av σ Q) : ∃ (this : Int) (i : Int), av = [vr this, vi i] ∧ (kd σ this = 7 ∧ (this = 19 ∧ CLay σ ∧ inR i ∧ Q (some (vi (if 0 ≤ i ∧ i < 2 then aI σ 23 i else -1))) σ)) := by
  obtain ⟨this, a0, rfl, h0⟩ := oR_s h
  obtain ⟨i, a1, rfl, h1⟩ := oI_s h0
  obtain ⟨rfl, hz⟩ := h1
  exact ⟨this, i, rfl, hz⟩
theorem rc_X6_houseAt : ∀ (av : List AV) (σ : Hp) (Q : Option AV → Hp → Prop), sp_X6_houseAt av σ Q → ∃ r tl, av = vr r :: tl ∧ kd σ r = 6 + 1 := fun av σ Q h => by
  obtain ⟨this, i, rfl, hz, -⟩ := el_X6_houseAt h
  exact ⟨this, _, rfl, hz⟩

def tb_X6_houseAt : Tab := [(0, .iload_n 1, 1, (0, 0, 0, 0)), (1, .ifCond .lt 21, 3, (0, 0, 0, 0)), (4, .iload_n 1, 1, (0, 0, 0, 0)), (5, .aload_n 0, 1, (0, 0, 0, 0)), (6, .getfield 21, 3, (7, 703, 2, 0)), (9, .arraylength, 1, (0, 0, 0, 0)), (10, .if_icmp .ge 12, 3, (0, 0, 0, 0)), (13, .aload_n 0, 1, (0, 0, 0, 0)), (14, .getfield 21, 3, (7, 703, 2, 0)), (17, .iload_n 1, 1, (0, 0, 0, 0)), (18, .iaload, 1, (0, 0, 0, 0)), (19, .goto 4, 3, (0, 0, 0, 0)), (22, .iconst (-1), 1, (0, 0, 0, 0)), (23, .ireturn, 1, (0, 0, 0, 0))]
set_option maxRecDepth 100000 in
theorem tk_X6_houseAt : TOK RX6 false cX6_houseAt tb_X6_houseAt := chkT_ok ft_X6 (by decide +kernel)
def mt_X6_houseAt : List (Nat × Mt) := []
theorem mk_X6_houseAt : MOK RX6 mt_X6_houseAt := fun q hq => by cases hq
noncomputable def xe_X6_houseAt (ct : Nat → Bool) (K : Kt) (R : Option AV → Hp → Prop) (n : Nat) : Kt := exS 2 1 0 0 1 tb_X6_houseAt mt_X6_houseAt ct K R n
noncomputable def xk_X6_houseAt (ct : Nat → Bool) (K : Kt) (R : Option AV → Hp → Prop) (n : Nat) : Kt := exkS 2 1 0 0 1 tb_X6_houseAt mt_X6_houseAt ct K R n
theorem xt_X6_houseAt {ct : Nat → Bool} {K : Kt} {R : Option AV → Hp → Prop} {n pc : Nat} {ls : List (Option AV)} {st : List AV} {σ : Hp} {k : Nat × Nat} (h : ct pc = true) : xk_X6_houseAt ct K R n pc ls st σ k = K pc ls st σ k := by unfold xk_X6_houseAt exkS; rw [h]
theorem xf_X6_houseAt {ct : Nat → Bool} {K : Kt} {R : Option AV → Hp → Prop} {n pc : Nat} {ls : List (Option AV)} {st : List AV} {σ : Hp} {k : Nat × Nat} (h : ct pc = false) : xk_X6_houseAt ct K R n pc ls st σ k = xe_X6_houseAt ct K R n pc ls st σ k := by unfold xk_X6_houseAt exkS xe_X6_houseAt; rw [h]
theorem ev_X6_houseAt_0 {ct : Nat → Bool} {K : Kt} {R : Option AV → Hp → Prop} {n : Nat} {ls : List (Option AV)} {st : List AV} {σ : Hp} {k : Nat × Nat} : xe_X6_houseAt ct K R (n + 1) 0 ls st σ k = (lI ls 1 fun x => xk_X6_houseAt ct K R n 1 ls (vi x :: st) σ k) := exS_step.trans rfl
theorem ev_X6_houseAt_1 {ct : Nat → Bool} {K : Kt} {R : Option AV → Hp → Prop} {n : Nat} {ls : List (Option AV)} {st : List AV} {σ : Hp} {k : Nat × Nat} : xe_X6_houseAt ct K R (n + 1) 1 ls st σ k = (oI st fun x st => (wI x < wI 0 → xk_X6_houseAt ct K R n 22 ls st σ k) ∧ (¬ (wI x < wI 0) → xk_X6_houseAt ct K R n 4 ls st σ k)) := exS_step.trans rfl
theorem ev_X6_houseAt_4 {ct : Nat → Bool} {K : Kt} {R : Option AV → Hp → Prop} {n : Nat} {ls : List (Option AV)} {st : List AV} {σ : Hp} {k : Nat × Nat} : xe_X6_houseAt ct K R (n + 1) 4 ls st σ k = (lI ls 1 fun x => xk_X6_houseAt ct K R n 5 ls (vi x :: st) σ k) := exS_step.trans rfl
theorem ev_X6_houseAt_5 {ct : Nat → Bool} {K : Kt} {R : Option AV → Hp → Prop} {n : Nat} {ls : List (Option AV)} {st : List AV} {σ : Hp} {k : Nat × Nat} : xe_X6_houseAt ct K R (n + 1) 5 ls st σ k = (lR ls 0 fun x => xk_X6_houseAt ct K R n 6 ls (vr x :: st) σ k) := exS_step.trans rfl
theorem ev_X6_houseAt_6 {ct : Nat → Bool} {K : Kt} {R : Option AV → Hp → Prop} {n : Nat} {ls : List (Option AV)} {st : List AV} {σ : Hp} {k : Nat × Nat} : xe_X6_houseAt ct K R (n + 1) 6 ls st σ k = (oR st fun x st => kd σ x = 7 ∧ xk_X6_houseAt ct K R n 9 ls (vr (fR σ 703 x) :: st) σ k) := exS_step.trans rfl
theorem ev_X6_houseAt_9 {ct : Nat → Bool} {K : Kt} {R : Option AV → Hp → Prop} {n : Nat} {ls : List (Option AV)} {st : List AV} {σ : Hp} {k : Nat × Nat} : xe_X6_houseAt ct K R (n + 1) 9 ls st σ k = (oR st fun x st => (101 ≤ kd σ x ∨ kd σ x = 21) ∧ xk_X6_houseAt ct K R n 10 ls (vi (ln σ x) :: st) σ k) := exS_step.trans rfl
theorem ev_X6_houseAt_10 {ct : Nat → Bool} {K : Kt} {R : Option AV → Hp → Prop} {n : Nat} {ls : List (Option AV)} {st : List AV} {σ : Hp} {k : Nat × Nat} : xe_X6_houseAt ct K R (n + 1) 10 ls st σ k = (oI st fun y st => oI st fun x st => (wI y ≤ wI x → xk_X6_houseAt ct K R n 22 ls st σ k) ∧ (¬ (wI y ≤ wI x) → xk_X6_houseAt ct K R n 13 ls st σ k)) := exS_step.trans rfl
theorem ev_X6_houseAt_13 {ct : Nat → Bool} {K : Kt} {R : Option AV → Hp → Prop} {n : Nat} {ls : List (Option AV)} {st : List AV} {σ : Hp} {k : Nat × Nat} : xe_X6_houseAt ct K R (n + 1) 13 ls st σ k = (lR ls 0 fun x => xk_X6_houseAt ct K R n 14 ls (vr x :: st) σ k) := exS_step.trans rfl
theorem ev_X6_houseAt_14 {ct : Nat → Bool} {K : Kt} {R : Option AV → Hp → Prop} {n : Nat} {ls : List (Option AV)} {st : List AV} {σ : Hp} {k : Nat × Nat} : xe_X6_houseAt ct K R (n + 1) 14 ls st σ k = (oR st fun x st => kd σ x = 7 ∧ xk_X6_houseAt ct K R n 17 ls (vr (fR σ 703 x) :: st) σ k) := exS_step.trans rfl
theorem ev_X6_houseAt_17 {ct : Nat → Bool} {K : Kt} {R : Option AV → Hp → Prop} {n : Nat} {ls : List (Option AV)} {st : List AV} {σ : Hp} {k : Nat × Nat} : xe_X6_houseAt ct K R (n + 1) 17 ls st σ k = (lI ls 1 fun x => xk_X6_houseAt ct K R n 18 ls (vi x :: st) σ k) := exS_step.trans rfl
theorem ev_X6_houseAt_18 {ct : Nat → Bool} {K : Kt} {R : Option AV → Hp → Prop} {n : Nat} {ls : List (Option AV)} {st : List AV} {σ : Hp} {k : Nat × Nat} : xe_X6_houseAt ct K R (n + 1) 18 ls st σ k = (oI st fun j st => oR st fun x st => (kd σ x = 101 ∨ kd σ x = 108) ∧ (0 ≤ j ∧ j < ln σ x) ∧ xk_X6_houseAt ct K R n 19 ls (vi (aI σ x j) :: st) σ k) := exS_step.trans rfl
theorem ev_X6_houseAt_19 {ct : Nat → Bool} {K : Kt} {R : Option AV → Hp → Prop} {n : Nat} {ls : List (Option AV)} {st : List AV} {σ : Hp} {k : Nat × Nat} : xe_X6_houseAt ct K R (n + 1) 19 ls st σ k = (xk_X6_houseAt ct K R n 23 ls st σ k) := exS_step.trans rfl
theorem ev_X6_houseAt_22 {ct : Nat → Bool} {K : Kt} {R : Option AV → Hp → Prop} {n : Nat} {ls : List (Option AV)} {st : List AV} {σ : Hp} {k : Nat × Nat} : xe_X6_houseAt ct K R (n + 1) 22 ls st σ k = (xk_X6_houseAt ct K R n 23 ls (vi (-1) :: st) σ k) := exS_step.trans rfl
theorem ev_X6_houseAt_23 {ct : Nat → Bool} {K : Kt} {R : Option AV → Hp → Prop} {n : Nat} {ls : List (Option AV)} {st : List AV} {σ : Hp} {k : Nat × Nat} : xe_X6_houseAt ct K R (n + 1) 23 ls st σ k = (oI st fun x st => st = [] ∧ True ∧ R (some (vi x)) σ) := exS_step.trans rfl
def M_X6_houseAt : Md := (yX6_houseAt, cX6_houseAt, 2, (some FieldType.int), 1, 0, 0, 1, false, tb_X6_houseAt, mt_X6_houseAt)
theorem mm_X6_houseAt : MMOK M_X6_houseAt := ⟨by decide +kernel, tk_X6_houseAt, mk_X6_houseAt, rfl, fun h => by cases h⟩
theorem go_X6_houseAt {Q : Option AV → Hp → Prop} {ct : Nat → Bool} {pc : Nat} {ls : List (Option AV)} {st : List AV} {σ : Hp} {k : Nat × Nat} (n : Nat) (h : xe_X6_houseAt ct (Go M_X6_houseAt Q) Q n pc ls st σ k) : Go M_X6_houseAt Q pc ls st σ k := Go.exS mm_X6_houseAt h

set_option maxRecDepth 20000 in
theorem c_X6_houseAt : Ct yX6_houseAt cX6_houseAt 2 ((some FieldType.int)) 1 0 0 sp_X6_houseAt := by
  refine Ct.go (M := M_X6_houseAt) mm_X6_houseAt fun av σ Q h0 => ?_
  obtain ⟨this, i, rfl, hk, h⟩ := el_X6_houseAt h0
  clear h0
  refine ⟨Nat.le_of_ble_eq_true rfl, ?_⟩
  show Go M_X6_houseAt Q 0 [some (vr this), some (vi i)] [] σ (0, 0)
  obtain ⟨rfl, hC, hi, h⟩ := h
  unfold inR at hi
  by_cases c : 0 ≤ i ∧ i < 2
  · rw [if_pos c] at h
    refine go_X6_houseAt (ct := fun p => p == 22) 60 ?_
    simp only [oI, oL, oR, o1, lI, lL, lR, popN, catS, gv, stL, stL2, swt, cnd, spObj, List.getElem?_cons_zero, List.getElem?_cons_succ, List.getD_cons_zero, List.getD_cons_succ, List.set_cons_zero, List.set_cons_succ, List.nil_append, List.cons_append, Option.toList, Bool.or_false, Bool.false_or, Bool.or_true, Bool.true_or, Nat.reduceBEq, Nat.reduceAdd, Nat.reduceLT, Nat.reduceLeDiff, Int.reduceAdd, Int.reduceToNat, true_and, and_true, Fin.isValue, Fin.val_zero, Fin.val_one, Fin.val_two, Fin.reduceFinMk, eq_self, Int.reduceNeg, imp_self, Nat.reduceMul, Nat.le_refl, not_true_eq_false, not_false_eq_true, List.getElem?_nil, reduceCtorEq, true_or, or_true, Classical.not_not, implies_true, or_self, wI_0, wI_1, wI_m1, b2i_w, b2i_eq0, b2i_eq1, b2i_bool, nor_self, nx_pI, kd_pI, ln_pI, fI_pI, fL_pI, fR_pI, aI_pI, aL_pI, aR_pI, nx_pL, kd_pL, ln_pL, fI_pL, fL_pL, fR_pL, aI_pL, aL_pL, aR_pL, nx_pR, kd_pR, ln_pR, fI_pR, fL_pR, fR_pR, aI_pR, aL_pR, aR_pR, nx_qI, kd_qI, ln_qI, fI_qI, fL_qI, fR_qI, aI_qI, aL_qI, aR_qI, nx_qL, kd_qL, ln_qL, fI_qL, fL_qL, fR_qL, aI_qL, aL_qL, aR_qL, nx_qR, kd_qR, ln_qR, fI_qR, fL_qR, fR_qR, aI_qR, aL_qR, aR_qR, nx_mk, kd_mk, ln_mk, fI_mk, fL_mk, fR_mk, aI_mk, aL_mk, aR_mk, false_and, and_false, if_false, if_true, and_self, Int.reduceEq, Nat.reduceEqDiff, ite_self, MLay_pI, MLay_pL, MLay_qI, MLay_qL, ev_X6_houseAt_0, ev_X6_houseAt_1, ev_X6_houseAt_4, ev_X6_houseAt_5, ev_X6_houseAt_6, ev_X6_houseAt_9, ev_X6_houseAt_10, ev_X6_houseAt_13, ev_X6_houseAt_14, ev_X6_houseAt_17, ev_X6_houseAt_18, ev_X6_houseAt_19, ev_X6_houseAt_22, ev_X6_houseAt_23, xt_X6_houseAt, xf_X6_houseAt, hC.eqs]
    try simp (disch := omega) only [wI_id, dv_nn, rm_nn]
    repeat' (first | intro z | apply And.intro)
    all_goals try omega
    all_goals try contradiction
    all_goals exact h
  · rw [if_neg c] at h
    refine go_X6_houseAt (ct := fun p => p == 12) 60 ?_
    simp only [oI, oL, oR, o1, lI, lL, lR, popN, catS, gv, stL, stL2, swt, cnd, spObj, List.getElem?_cons_zero, List.getElem?_cons_succ, List.getD_cons_zero, List.getD_cons_succ, List.set_cons_zero, List.set_cons_succ, List.nil_append, List.cons_append, Option.toList, Bool.or_false, Bool.false_or, Bool.or_true, Bool.true_or, Nat.reduceBEq, Nat.reduceAdd, Nat.reduceLT, Nat.reduceLeDiff, Int.reduceAdd, Int.reduceToNat, true_and, and_true, Fin.isValue, Fin.val_zero, Fin.val_one, Fin.val_two, Fin.reduceFinMk, eq_self, Int.reduceNeg, imp_self, Nat.reduceMul, Nat.le_refl, not_true_eq_false, not_false_eq_true, List.getElem?_nil, reduceCtorEq, true_or, or_true, Classical.not_not, implies_true, or_self, wI_0, wI_1, wI_m1, b2i_w, b2i_eq0, b2i_eq1, b2i_bool, nor_self, nx_pI, kd_pI, ln_pI, fI_pI, fL_pI, fR_pI, aI_pI, aL_pI, aR_pI, nx_pL, kd_pL, ln_pL, fI_pL, fL_pL, fR_pL, aI_pL, aL_pL, aR_pL, nx_pR, kd_pR, ln_pR, fI_pR, fL_pR, fR_pR, aI_pR, aL_pR, aR_pR, nx_qI, kd_qI, ln_qI, fI_qI, fL_qI, fR_qI, aI_qI, aL_qI, aR_qI, nx_qL, kd_qL, ln_qL, fI_qL, fL_qL, fR_qL, aI_qL, aL_qL, aR_qL, nx_qR, kd_qR, ln_qR, fI_qR, fL_qR, fR_qR, aI_qR, aL_qR, aR_qR, nx_mk, kd_mk, ln_mk, fI_mk, fL_mk, fR_mk, aI_mk, aL_mk, aR_mk, false_and, and_false, if_false, if_true, and_self, Int.reduceEq, Nat.reduceEqDiff, ite_self, MLay_pI, MLay_pL, MLay_qI, MLay_qL, ev_X6_houseAt_0, ev_X6_houseAt_1, ev_X6_houseAt_4, ev_X6_houseAt_5, ev_X6_houseAt_6, ev_X6_houseAt_9, ev_X6_houseAt_10, ev_X6_houseAt_13, ev_X6_houseAt_14, ev_X6_houseAt_17, ev_X6_houseAt_18, ev_X6_houseAt_19, ev_X6_houseAt_22, ev_X6_houseAt_23, xt_X6_houseAt, xf_X6_houseAt, hC.eqs]
    try simp (disch := omega) only [wI_id, dv_nn, rm_nn]
    repeat' (first | intro z | apply And.intro)
    all_goals try omega
    all_goals try contradiction
    all_goals exact h

def sp_X6_isFree : Sp := fun av σ Q => oR av fun this av => oI av fun u av => oI av fun i av => av = [] ∧ kd σ this = 7 ∧ (this = 19 ∧ CLay σ ∧ (0 ≤ u ∧ u ≤ 11) ∧ (0 ≤ i ∧ i ≤ 1) ∧ (0 ≤ aI σ 23 0 ∧ aI σ 23 0 ≤ 11) ∧ Q (some (vi (b2i (btb (fI σ 708 19) u.toNat = false ∧ ¬ (0 < i ∧ aI σ 23 0 = u))))) σ)
theorem us_X6_isFree (this : Int) (u : Int) (i : Int) (σ : Hp) (Q : Option AV → Hp → Prop) : sp_X6_isFree [vr this, vi u, vi i] σ Q = (kd σ this = 7 ∧ (this = 19 ∧ CLay σ ∧ (0 ≤ u ∧ u ≤ 11) ∧ (0 ≤ i ∧ i ≤ 1) ∧ (0 ≤ aI σ 23 0 ∧ aI σ 23 0 ≤ 11) ∧ Q (some (vi (b2i (btb (fI σ 708 19) u.toNat = false ∧ ¬ (0 < i ∧ aI σ 23 0 = u))))) σ)) := propext ⟨fun h => h.2, fun h => ⟨rfl, h⟩⟩
theorem el_X6_isFree {av : List AV} {σ : Hp} {Q : Option AV → Hp → Prop} (h : sp_X6_isFree av σ Q) : ∃ (this : Int) (u : Int) (i : Int), av = [vr this, vi u, vi i] ∧ (kd σ this = 7 ∧ (this = 19 ∧ CLay σ ∧ (0 ≤ u ∧ u ≤ 11) ∧ (0 ≤ i ∧ i ≤ 1) ∧ (0 ≤ aI σ 23 0 ∧ aI σ 23 0 ≤ 11) ∧ Q (some (vi (b2i (btb (fI σ 708 19) u.toNat = false ∧ ¬ (0 < i ∧ aI σ 23 0 = u))))) σ)) := by
  obtain ⟨this, a0, rfl, h0⟩ := oR_s h
  obtain ⟨u, a1, rfl, h1⟩ := oI_s h0
  obtain ⟨i, a2, rfl, h2⟩ := oI_s h1
  obtain ⟨rfl, hz⟩ := h2
  exact ⟨this, u, i, rfl, hz⟩
theorem rc_X6_isFree : ∀ (av : List AV) (σ : Hp) (Q : Option AV → Hp → Prop), sp_X6_isFree av σ Q → ∃ r tl, av = vr r :: tl ∧ kd σ r = 6 + 1 := fun av σ Q h => by
  obtain ⟨this, u, i, rfl, hz, -⟩ := el_X6_isFree h
  exact ⟨this, _, rfl, hz⟩

def tb_X6_isFree : Tab := [(0, .aload_n 0, 1, (0, 0, 0, 0)), (1, .getfield 45, 3, (7, 708, 0, 0)), (4, .iload_n 1, 1, (0, 0, 0, 0)), (5, .ishr, 1, (0, 0, 0, 0)), (6, .iconst 1, 1, (0, 0, 0, 0)), (7, .iand, 1, (0, 0, 0, 0)), (8, .ifCond .ne 20, 3, (0, 0, 0, 0)), (11, .iload_n 2, 1, (0, 0, 0, 0)), (12, .ifCond .eq 12, 3, (0, 0, 0, 0)), (15, .aload_n 0, 1, (0, 0, 0, 0)), (16, .iconst 0, 1, (0, 0, 0, 0)), (17, .invokevirtual 121, 3, (0, 0, 0, 0)), (20, .iload_n 1, 1, (0, 0, 0, 0)), (21, .if_icmp .eq 7, 3, (0, 0, 0, 0)), (24, .iconst 1, 1, (0, 0, 0, 0)), (25, .goto 4, 3, (0, 0, 0, 0)), (28, .iconst 0, 1, (0, 0, 0, 0)), (29, .ireturn, 1, (0, 0, 0, 0))]
set_option maxRecDepth 100000 in
theorem tk_X6_isFree : TOK RX6 false cX6_isFree tb_X6_isFree := chkT_ok ft_X6 (by decide +kernel)
theorem rw_X6_968 : Row RX6 (.invokevirtual 121) 3 2 0 0 1 sp_X6_houseAt := row_V (n := 1) (ci := 6) c_X6_houseAt ⟨TBL_in 1352 (by decide +kernel) rfl, TBL_in 1355 (by decide +kernel) rfl, TBL_in 116 (by decide +kernel) rfl, by decide +kernel, by decide⟩ (by decide) rfl (TBL_in 1353 (by decide +kernel) rfl) (TBL_in 1354 (by decide +kernel) rfl) rc_X6_houseAt
def mt_X6_isFree : List (Nat × Mt) := [(968, 2, 0, 0, 1, sp_X6_houseAt)]
theorem em_X6_isFree : mt_X6_isFree.lookup 968 = some (2, 0, 0, 1, sp_X6_houseAt) := rfl
theorem mk_X6_isFree : MOK RX6 mt_X6_isFree := by
  intro q hq
  simp only [mt_X6_isFree, List.mem_cons, List.not_mem_nil, or_false] at hq
  rcases hq with rfl
  · exact rw_X6_968
noncomputable def xe_X6_isFree (ct : Nat → Bool) (K : Kt) (R : Option AV → Hp → Prop) (n : Nat) : Kt := exS 3 2 0 0 2 tb_X6_isFree mt_X6_isFree ct K R n
noncomputable def xk_X6_isFree (ct : Nat → Bool) (K : Kt) (R : Option AV → Hp → Prop) (n : Nat) : Kt := exkS 3 2 0 0 2 tb_X6_isFree mt_X6_isFree ct K R n
theorem xt_X6_isFree {ct : Nat → Bool} {K : Kt} {R : Option AV → Hp → Prop} {n pc : Nat} {ls : List (Option AV)} {st : List AV} {σ : Hp} {k : Nat × Nat} (h : ct pc = true) : xk_X6_isFree ct K R n pc ls st σ k = K pc ls st σ k := by unfold xk_X6_isFree exkS; rw [h]
theorem xf_X6_isFree {ct : Nat → Bool} {K : Kt} {R : Option AV → Hp → Prop} {n pc : Nat} {ls : List (Option AV)} {st : List AV} {σ : Hp} {k : Nat × Nat} (h : ct pc = false) : xk_X6_isFree ct K R n pc ls st σ k = xe_X6_isFree ct K R n pc ls st σ k := by unfold xk_X6_isFree exkS xe_X6_isFree; rw [h]
theorem ev_X6_isFree_0 {ct : Nat → Bool} {K : Kt} {R : Option AV → Hp → Prop} {n : Nat} {ls : List (Option AV)} {st : List AV} {σ : Hp} {k : Nat × Nat} : xe_X6_isFree ct K R (n + 1) 0 ls st σ k = (lR ls 0 fun x => xk_X6_isFree ct K R n 1 ls (vr x :: st) σ k) := exS_step.trans rfl
theorem ev_X6_isFree_1 {ct : Nat → Bool} {K : Kt} {R : Option AV → Hp → Prop} {n : Nat} {ls : List (Option AV)} {st : List AV} {σ : Hp} {k : Nat × Nat} : xe_X6_isFree ct K R (n + 1) 1 ls st σ k = (oR st fun x st => kd σ x = 7 ∧ xk_X6_isFree ct K R n 4 ls (vi (fI σ 708 x) :: st) σ k) := exS_step.trans rfl
theorem ev_X6_isFree_4 {ct : Nat → Bool} {K : Kt} {R : Option AV → Hp → Prop} {n : Nat} {ls : List (Option AV)} {st : List AV} {σ : Hp} {k : Nat × Nat} : xe_X6_isFree ct K R (n + 1) 4 ls st σ k = (lI ls 1 fun x => xk_X6_isFree ct K R n 5 ls (vi x :: st) σ k) := exS_step.trans rfl
theorem ev_X6_isFree_5 {ct : Nat → Bool} {K : Kt} {R : Option AV → Hp → Prop} {n : Nat} {ls : List (Option AV)} {st : List AV} {σ : Hp} {k : Nat × Nat} : xe_X6_isFree ct K R (n + 1) 5 ls st σ k = (oI st fun y st => oI st fun x st => xk_X6_isFree ct K R n 6 ls (vi (shrI x y) :: st) σ k) := exS_step.trans rfl
theorem ev_X6_isFree_6 {ct : Nat → Bool} {K : Kt} {R : Option AV → Hp → Prop} {n : Nat} {ls : List (Option AV)} {st : List AV} {σ : Hp} {k : Nat × Nat} : xe_X6_isFree ct K R (n + 1) 6 ls st σ k = (xk_X6_isFree ct K R n 7 ls (vi (1) :: st) σ k) := exS_step.trans rfl
theorem ev_X6_isFree_7 {ct : Nat → Bool} {K : Kt} {R : Option AV → Hp → Prop} {n : Nat} {ls : List (Option AV)} {st : List AV} {σ : Hp} {k : Nat × Nat} : xe_X6_isFree ct K R (n + 1) 7 ls st σ k = (oI st fun y st => oI st fun x st => xk_X6_isFree ct K R n 8 ls (vi (bAnd x y) :: st) σ k) := exS_step.trans rfl
theorem ev_X6_isFree_8 {ct : Nat → Bool} {K : Kt} {R : Option AV → Hp → Prop} {n : Nat} {ls : List (Option AV)} {st : List AV} {σ : Hp} {k : Nat × Nat} : xe_X6_isFree ct K R (n + 1) 8 ls st σ k = (oI st fun x st => (¬ wI x = wI 0 → xk_X6_isFree ct K R n 28 ls st σ k) ∧ (¬ (¬ wI x = wI 0) → xk_X6_isFree ct K R n 11 ls st σ k)) := exS_step.trans rfl
theorem ev_X6_isFree_11 {ct : Nat → Bool} {K : Kt} {R : Option AV → Hp → Prop} {n : Nat} {ls : List (Option AV)} {st : List AV} {σ : Hp} {k : Nat × Nat} : xe_X6_isFree ct K R (n + 1) 11 ls st σ k = (lI ls 2 fun x => xk_X6_isFree ct K R n 12 ls (vi x :: st) σ k) := exS_step.trans rfl
theorem ev_X6_isFree_12 {ct : Nat → Bool} {K : Kt} {R : Option AV → Hp → Prop} {n : Nat} {ls : List (Option AV)} {st : List AV} {σ : Hp} {k : Nat × Nat} : xe_X6_isFree ct K R (n + 1) 12 ls st σ k = (oI st fun x st => (wI x = wI 0 → xk_X6_isFree ct K R n 24 ls st σ k) ∧ (¬ (wI x = wI 0) → xk_X6_isFree ct K R n 15 ls st σ k)) := exS_step.trans rfl
theorem ev_X6_isFree_15 {ct : Nat → Bool} {K : Kt} {R : Option AV → Hp → Prop} {n : Nat} {ls : List (Option AV)} {st : List AV} {σ : Hp} {k : Nat × Nat} : xe_X6_isFree ct K R (n + 1) 15 ls st σ k = (lR ls 0 fun x => xk_X6_isFree ct K R n 16 ls (vr x :: st) σ k) := exS_step.trans rfl
theorem ev_X6_isFree_16 {ct : Nat → Bool} {K : Kt} {R : Option AV → Hp → Prop} {n : Nat} {ls : List (Option AV)} {st : List AV} {σ : Hp} {k : Nat × Nat} : xe_X6_isFree ct K R (n + 1) 16 ls st σ k = (xk_X6_isFree ct K R n 17 ls (vi (0) :: st) σ k) := exS_step.trans rfl
theorem ev_X6_isFree_17 {ct : Nat → Bool} {K : Kt} {R : Option AV → Hp → Prop} {n : Nat} {ls : List (Option AV)} {st : List AV} {σ : Hp} {k : Nat × Nat} : xe_X6_isFree ct K R (n + 1) 17 ls st σ k = (popN 2 st [] fun av rest => (catS rest ≤ 8 ∧ 1 < 2 ∧ k.1 + 0 ≤ 0 ∧ k.2 + 0 ≤ 0) ∧ (sp_X6_houseAt) av σ fun v σ' => xk_X6_isFree ct K R n 20 ls (v.toList ++ rest) σ' (k.1 + 0, k.2 + 0)) := exS_step.trans rfl
theorem ev_X6_isFree_20 {ct : Nat → Bool} {K : Kt} {R : Option AV → Hp → Prop} {n : Nat} {ls : List (Option AV)} {st : List AV} {σ : Hp} {k : Nat × Nat} : xe_X6_isFree ct K R (n + 1) 20 ls st σ k = (lI ls 1 fun x => xk_X6_isFree ct K R n 21 ls (vi x :: st) σ k) := exS_step.trans rfl
theorem ev_X6_isFree_21 {ct : Nat → Bool} {K : Kt} {R : Option AV → Hp → Prop} {n : Nat} {ls : List (Option AV)} {st : List AV} {σ : Hp} {k : Nat × Nat} : xe_X6_isFree ct K R (n + 1) 21 ls st σ k = (oI st fun y st => oI st fun x st => (wI x = wI y → xk_X6_isFree ct K R n 28 ls st σ k) ∧ (¬ (wI x = wI y) → xk_X6_isFree ct K R n 24 ls st σ k)) := exS_step.trans rfl
theorem ev_X6_isFree_24 {ct : Nat → Bool} {K : Kt} {R : Option AV → Hp → Prop} {n : Nat} {ls : List (Option AV)} {st : List AV} {σ : Hp} {k : Nat × Nat} : xe_X6_isFree ct K R (n + 1) 24 ls st σ k = (xk_X6_isFree ct K R n 25 ls (vi (1) :: st) σ k) := exS_step.trans rfl
theorem ev_X6_isFree_25 {ct : Nat → Bool} {K : Kt} {R : Option AV → Hp → Prop} {n : Nat} {ls : List (Option AV)} {st : List AV} {σ : Hp} {k : Nat × Nat} : xe_X6_isFree ct K R (n + 1) 25 ls st σ k = (xk_X6_isFree ct K R n 29 ls st σ k) := exS_step.trans rfl
theorem ev_X6_isFree_28 {ct : Nat → Bool} {K : Kt} {R : Option AV → Hp → Prop} {n : Nat} {ls : List (Option AV)} {st : List AV} {σ : Hp} {k : Nat × Nat} : xe_X6_isFree ct K R (n + 1) 28 ls st σ k = (xk_X6_isFree ct K R n 29 ls (vi (0) :: st) σ k) := exS_step.trans rfl
theorem ev_X6_isFree_29 {ct : Nat → Bool} {K : Kt} {R : Option AV → Hp → Prop} {n : Nat} {ls : List (Option AV)} {st : List AV} {σ : Hp} {k : Nat × Nat} : xe_X6_isFree ct K R (n + 1) 29 ls st σ k = (oI st fun x st => st = [] ∧ (x = 0 ∨ x = 1) ∧ R (some (vi x)) σ) := exS_step.trans rfl
def M_X6_isFree : Md := (yX6_isFree, cX6_isFree, 3, (some FieldType.boolean), 2, 0, 0, 2, false, tb_X6_isFree, mt_X6_isFree)
theorem mm_X6_isFree : MMOK M_X6_isFree := ⟨by decide +kernel, tk_X6_isFree, mk_X6_isFree, rfl, fun h => by cases h⟩
theorem go_X6_isFree {Q : Option AV → Hp → Prop} {ct : Nat → Bool} {pc : Nat} {ls : List (Option AV)} {st : List AV} {σ : Hp} {k : Nat × Nat} (n : Nat) (h : xe_X6_isFree ct (Go M_X6_isFree Q) Q n pc ls st σ k) : Go M_X6_isFree Q pc ls st σ k := Go.exS mm_X6_isFree h

set_option maxRecDepth 20000 in
theorem c_X6_isFree : Ct yX6_isFree cX6_isFree 3 ((some FieldType.boolean)) 2 0 0 sp_X6_isFree := by
  refine Ct.go (M := M_X6_isFree) mm_X6_isFree fun av σ Q h0 => ?_
  obtain ⟨this, u, i, rfl, hk, h⟩ := el_X6_isFree h0
  clear h0
  refine ⟨Nat.le_of_ble_eq_true rfl, ?_⟩
  show Go M_X6_isFree Q 0 [some (vr this), some (vi u), some (vi i)] [] σ (0, 0)
  obtain ⟨rfl, hC, hu, hi, ht, h⟩ := h
  have hs := btb_shr (x := fI σ 708 19) (h := u) (by omega)
  have hr : inR 0 := by unfold inR; omega
  have e0 : (if (0 : Int) ≤ 0 ∧ (0 : Int) < 2 then aI σ 23 0 else -1) = aI σ 23 0 := rfl
  by_cases c1 : btb (fI σ 708 19) u.toNat = false
  · by_cases c2 : 0 < i ∧ aI σ 23 0 = u
    · rw [b2i_f (fun z => z.2 c2)] at h
      refine go_X6_isFree (ct := fun p => p == 24) 60 ?_
      simp only [oI, oL, oR, o1, lI, lL, lR, popN, catS, gv, stL, stL2, swt, cnd, spObj, List.getElem?_cons_zero, List.getElem?_cons_succ, List.getD_cons_zero, List.getD_cons_succ, List.set_cons_zero, List.set_cons_succ, List.nil_append, List.cons_append, Option.toList, Bool.or_false, Bool.false_or, Bool.or_true, Bool.true_or, Nat.reduceBEq, Nat.reduceAdd, Nat.reduceLT, Nat.reduceLeDiff, Int.reduceAdd, Int.reduceToNat, true_and, and_true, Fin.isValue, Fin.val_zero, Fin.val_one, Fin.val_two, Fin.reduceFinMk, eq_self, Int.reduceNeg, imp_self, Nat.reduceMul, Nat.le_refl, not_true_eq_false, not_false_eq_true, List.getElem?_nil, reduceCtorEq, true_or, or_true, Classical.not_not, implies_true, or_self, wI_0, wI_1, wI_m1, b2i_w, b2i_eq0, b2i_eq1, b2i_bool, nor_self, nx_pI, kd_pI, ln_pI, fI_pI, fL_pI, fR_pI, aI_pI, aL_pI, aR_pI, nx_pL, kd_pL, ln_pL, fI_pL, fL_pL, fR_pL, aI_pL, aL_pL, aR_pL, nx_pR, kd_pR, ln_pR, fI_pR, fL_pR, fR_pR, aI_pR, aL_pR, aR_pR, nx_qI, kd_qI, ln_qI, fI_qI, fL_qI, fR_qI, aI_qI, aL_qI, aR_qI, nx_qL, kd_qL, ln_qL, fI_qL, fL_qL, fR_qL, aI_qL, aL_qL, aR_qL, nx_qR, kd_qR, ln_qR, fI_qR, fL_qR, fR_qR, aI_qR, aL_qR, aR_qR, nx_mk, kd_mk, ln_mk, fI_mk, fL_mk, fR_mk, aI_mk, aL_mk, aR_mk, false_and, and_false, if_false, if_true, and_self, Int.reduceEq, Nat.reduceEqDiff, ite_self, MLay_pI, MLay_pL, MLay_qI, MLay_qL, ev_X6_isFree_0, ev_X6_isFree_1, ev_X6_isFree_4, ev_X6_isFree_5, ev_X6_isFree_6, ev_X6_isFree_7, ev_X6_isFree_8, ev_X6_isFree_11, ev_X6_isFree_12, ev_X6_isFree_15, ev_X6_isFree_16, ev_X6_isFree_17, ev_X6_isFree_20, ev_X6_isFree_21, ev_X6_isFree_24, ev_X6_isFree_25, ev_X6_isFree_28, ev_X6_isFree_29, xt_X6_isFree, xf_X6_isFree, us_X6_houseAt, hC.eqs, hC, hs, c1, hr, e0]
      try simp (disch := omega) only [wI_id, dv_nn, rm_nn]
      repeat' (first | intro z | apply And.intro)
      all_goals try omega
      all_goals try contradiction
      all_goals exact h
    · rw [b2i_t ⟨c1, c2⟩] at h
      refine go_X6_isFree (ct := fun p => p == 28) 60 ?_
      simp only [oI, oL, oR, o1, lI, lL, lR, popN, catS, gv, stL, stL2, swt, cnd, spObj, List.getElem?_cons_zero, List.getElem?_cons_succ, List.getD_cons_zero, List.getD_cons_succ, List.set_cons_zero, List.set_cons_succ, List.nil_append, List.cons_append, Option.toList, Bool.or_false, Bool.false_or, Bool.or_true, Bool.true_or, Nat.reduceBEq, Nat.reduceAdd, Nat.reduceLT, Nat.reduceLeDiff, Int.reduceAdd, Int.reduceToNat, true_and, and_true, Fin.isValue, Fin.val_zero, Fin.val_one, Fin.val_two, Fin.reduceFinMk, eq_self, Int.reduceNeg, imp_self, Nat.reduceMul, Nat.le_refl, not_true_eq_false, not_false_eq_true, List.getElem?_nil, reduceCtorEq, true_or, or_true, Classical.not_not, implies_true, or_self, wI_0, wI_1, wI_m1, b2i_w, b2i_eq0, b2i_eq1, b2i_bool, nor_self, nx_pI, kd_pI, ln_pI, fI_pI, fL_pI, fR_pI, aI_pI, aL_pI, aR_pI, nx_pL, kd_pL, ln_pL, fI_pL, fL_pL, fR_pL, aI_pL, aL_pL, aR_pL, nx_pR, kd_pR, ln_pR, fI_pR, fL_pR, fR_pR, aI_pR, aL_pR, aR_pR, nx_qI, kd_qI, ln_qI, fI_qI, fL_qI, fR_qI, aI_qI, aL_qI, aR_qI, nx_qL, kd_qL, ln_qL, fI_qL, fL_qL, fR_qL, aI_qL, aL_qL, aR_qL, nx_qR, kd_qR, ln_qR, fI_qR, fL_qR, fR_qR, aI_qR, aL_qR, aR_qR, nx_mk, kd_mk, ln_mk, fI_mk, fL_mk, fR_mk, aI_mk, aL_mk, aR_mk, false_and, and_false, if_false, if_true, and_self, Int.reduceEq, Nat.reduceEqDiff, ite_self, MLay_pI, MLay_pL, MLay_qI, MLay_qL, ev_X6_isFree_0, ev_X6_isFree_1, ev_X6_isFree_4, ev_X6_isFree_5, ev_X6_isFree_6, ev_X6_isFree_7, ev_X6_isFree_8, ev_X6_isFree_11, ev_X6_isFree_12, ev_X6_isFree_15, ev_X6_isFree_16, ev_X6_isFree_17, ev_X6_isFree_20, ev_X6_isFree_21, ev_X6_isFree_24, ev_X6_isFree_25, ev_X6_isFree_28, ev_X6_isFree_29, xt_X6_isFree, xf_X6_isFree, us_X6_houseAt, hC.eqs, hC, hs, c1, hr, e0]
      try simp (disch := omega) only [wI_id, dv_nn, rm_nn]
      repeat' (first | intro z | apply And.intro)
      all_goals try omega
      all_goals try contradiction
      all_goals exact h
  · rw [b2i_f (fun z => c1 z.1)] at h
    refine go_X6_isFree (ct := fun p => p == 24 || p == 15) 60 ?_
    simp only [oI, oL, oR, o1, lI, lL, lR, popN, catS, gv, stL, stL2, swt, cnd, spObj, List.getElem?_cons_zero, List.getElem?_cons_succ, List.getD_cons_zero, List.getD_cons_succ, List.set_cons_zero, List.set_cons_succ, List.nil_append, List.cons_append, Option.toList, Bool.or_false, Bool.false_or, Bool.or_true, Bool.true_or, Nat.reduceBEq, Nat.reduceAdd, Nat.reduceLT, Nat.reduceLeDiff, Int.reduceAdd, Int.reduceToNat, true_and, and_true, Fin.isValue, Fin.val_zero, Fin.val_one, Fin.val_two, Fin.reduceFinMk, eq_self, Int.reduceNeg, imp_self, Nat.reduceMul, Nat.le_refl, not_true_eq_false, not_false_eq_true, List.getElem?_nil, reduceCtorEq, true_or, or_true, Classical.not_not, implies_true, or_self, wI_0, wI_1, wI_m1, b2i_w, b2i_eq0, b2i_eq1, b2i_bool, nor_self, nx_pI, kd_pI, ln_pI, fI_pI, fL_pI, fR_pI, aI_pI, aL_pI, aR_pI, nx_pL, kd_pL, ln_pL, fI_pL, fL_pL, fR_pL, aI_pL, aL_pL, aR_pL, nx_pR, kd_pR, ln_pR, fI_pR, fL_pR, fR_pR, aI_pR, aL_pR, aR_pR, nx_qI, kd_qI, ln_qI, fI_qI, fL_qI, fR_qI, aI_qI, aL_qI, aR_qI, nx_qL, kd_qL, ln_qL, fI_qL, fL_qL, fR_qL, aI_qL, aL_qL, aR_qL, nx_qR, kd_qR, ln_qR, fI_qR, fL_qR, fR_qR, aI_qR, aL_qR, aR_qR, nx_mk, kd_mk, ln_mk, fI_mk, fL_mk, fR_mk, aI_mk, aL_mk, aR_mk, false_and, and_false, if_false, if_true, and_self, Int.reduceEq, Nat.reduceEqDiff, ite_self, MLay_pI, MLay_pL, MLay_qI, MLay_qL, ev_X6_isFree_0, ev_X6_isFree_1, ev_X6_isFree_4, ev_X6_isFree_5, ev_X6_isFree_6, ev_X6_isFree_7, ev_X6_isFree_8, ev_X6_isFree_11, ev_X6_isFree_12, ev_X6_isFree_15, ev_X6_isFree_16, ev_X6_isFree_17, ev_X6_isFree_20, ev_X6_isFree_21, ev_X6_isFree_24, ev_X6_isFree_25, ev_X6_isFree_28, ev_X6_isFree_29, xt_X6_isFree, xf_X6_isFree, us_X6_houseAt, hC.eqs, hC, hs, c1]
    try simp (disch := omega) only [wI_id, dv_nn, rm_nn]
    repeat' (first | intro z | apply And.intro)
    all_goals try omega
    all_goals try contradiction
    all_goals exact h

/-- a box that none is near -/
def cUn (σ : Hp) (i : Int) : Prop := wI (bAnd (aI σ 20 i) (fI σ 707 19)) = 0
def cAll (σ : Hp) : Prop := ¬ bE (fI σ 706 19) (cUn σ)

def sp_X6_coversAll : Sp := fun av σ Q => oR av fun this av => av = [] ∧ kd σ this = 7 ∧ (this = 19 ∧ CLay σ ∧ (0 ≤ fI σ 706 19 ∧ fI σ 706 19 ≤ 32) ∧ Q (some (vi (b2i (cAll σ)))) σ)
theorem us_X6_coversAll (this : Int) (σ : Hp) (Q : Option AV → Hp → Prop) : sp_X6_coversAll [vr this] σ Q = (kd σ this = 7 ∧ (this = 19 ∧ CLay σ ∧ (0 ≤ fI σ 706 19 ∧ fI σ 706 19 ≤ 32) ∧ Q (some (vi (b2i (cAll σ)))) σ)) := propext ⟨fun h => h.2, fun h => ⟨rfl, h⟩⟩
theorem el_X6_coversAll {av : List AV} {σ : Hp} {Q : Option AV → Hp → Prop} (h : sp_X6_coversAll av σ Q) : ∃ (this : Int), av = [vr this] ∧ (kd σ this = 7 ∧ (this = 19 ∧ CLay σ ∧ (0 ≤ fI σ 706 19 ∧ fI σ 706 19 ≤ 32) ∧ Q (some (vi (b2i (cAll σ)))) σ)) := by
  obtain ⟨this, a0, rfl, h0⟩ := oR_s h
  obtain ⟨rfl, hz⟩ := h0
  exact ⟨this, rfl, hz⟩
theorem rc_X6_coversAll : ∀ (av : List AV) (σ : Hp) (Q : Option AV → Hp → Prop), sp_X6_coversAll av σ Q → ∃ r tl, av = vr r :: tl ∧ kd σ r = 6 + 1 := fun av σ Q h => by
  obtain ⟨this, rfl, hz, -⟩ := el_X6_coversAll h
  exact ⟨this, _, rfl, hz⟩

def tb_X6_coversAll : Tab := [(0, .iconst 0, 1, (0, 0, 0, 0)), (1, .istore_n 1, 1, (0, 0, 0, 0)), (2, .iload_n 1, 1, (0, 0, 0, 0)), (3, .aload_n 0, 1, (0, 0, 0, 0)), (4, .getfield 38, 3, (7, 706, 0, 0)), (7, .if_icmp .ge 34, 3, (0, 0, 0, 0)), (10, .iload_n 1, 1, (0, 0, 0, 0)), (11, .aload_n 0, 1, (0, 0, 0, 0)), (12, .getfield 9, 3, (7, 700, 2, 0)), (15, .arraylength, 1, (0, 0, 0, 0)), (16, .if_icmp .ge 25, 3, (0, 0, 0, 0)), (19, .aload_n 0, 1, (0, 0, 0, 0)), (20, .getfield 9, 3, (7, 700, 2, 0)), (23, .iload_n 1, 1, (0, 0, 0, 0)), (24, .iaload, 1, (0, 0, 0, 0)), (25, .aload_n 0, 1, (0, 0, 0, 0)), (26, .getfield 42, 3, (7, 707, 0, 0)), (29, .iand, 1, (0, 0, 0, 0)), (30, .ifCond .ne 5, 3, (0, 0, 0, 0)), (33, .iconst 0, 1, (0, 0, 0, 0)), (34, .ireturn, 1, (0, 0, 0, 0)), (35, .iinc 1 1, 3, (0, 0, 0, 0)), (38, .goto (-36), 3, (0, 0, 0, 0)), (41, .iconst 1, 1, (0, 0, 0, 0)), (42, .ireturn, 1, (0, 0, 0, 0))]
set_option maxRecDepth 100000 in
theorem tk_X6_coversAll : TOK RX6 false cX6_coversAll tb_X6_coversAll := chkT_ok ft_X6 (by decide +kernel)
def mt_X6_coversAll : List (Nat × Mt) := []
theorem mk_X6_coversAll : MOK RX6 mt_X6_coversAll := fun q hq => by cases hq
noncomputable def xe_X6_coversAll (ct : Nat → Bool) (K : Kt) (R : Option AV → Hp → Prop) (n : Nat) : Kt := exS 2 1 0 0 2 tb_X6_coversAll mt_X6_coversAll ct K R n
noncomputable def xk_X6_coversAll (ct : Nat → Bool) (K : Kt) (R : Option AV → Hp → Prop) (n : Nat) : Kt := exkS 2 1 0 0 2 tb_X6_coversAll mt_X6_coversAll ct K R n
theorem xt_X6_coversAll {ct : Nat → Bool} {K : Kt} {R : Option AV → Hp → Prop} {n pc : Nat} {ls : List (Option AV)} {st : List AV} {σ : Hp} {k : Nat × Nat} (h : ct pc = true) : xk_X6_coversAll ct K R n pc ls st σ k = K pc ls st σ k := by unfold xk_X6_coversAll exkS; rw [h]
theorem xf_X6_coversAll {ct : Nat → Bool} {K : Kt} {R : Option AV → Hp → Prop} {n pc : Nat} {ls : List (Option AV)} {st : List AV} {σ : Hp} {k : Nat × Nat} (h : ct pc = false) : xk_X6_coversAll ct K R n pc ls st σ k = xe_X6_coversAll ct K R n pc ls st σ k := by unfold xk_X6_coversAll exkS xe_X6_coversAll; rw [h]
theorem ev_X6_coversAll_0 {ct : Nat → Bool} {K : Kt} {R : Option AV → Hp → Prop} {n : Nat} {ls : List (Option AV)} {st : List AV} {σ : Hp} {k : Nat × Nat} : xe_X6_coversAll ct K R (n + 1) 0 ls st σ k = (xk_X6_coversAll ct K R n 1 ls (vi (0) :: st) σ k) := exS_step.trans rfl
theorem ev_X6_coversAll_1 {ct : Nat → Bool} {K : Kt} {R : Option AV → Hp → Prop} {n : Nat} {ls : List (Option AV)} {st : List AV} {σ : Hp} {k : Nat × Nat} : xe_X6_coversAll ct K R (n + 1) 1 ls st σ k = (oI st fun x st => 1 < 2 ∧ xk_X6_coversAll ct K R n 2 (stL ls 1 (vi x)) st σ k) := exS_step.trans rfl
theorem ev_X6_coversAll_2 {ct : Nat → Bool} {K : Kt} {R : Option AV → Hp → Prop} {n : Nat} {ls : List (Option AV)} {st : List AV} {σ : Hp} {k : Nat × Nat} : xe_X6_coversAll ct K R (n + 1) 2 ls st σ k = (lI ls 1 fun x => xk_X6_coversAll ct K R n 3 ls (vi x :: st) σ k) := exS_step.trans rfl
theorem ev_X6_coversAll_3 {ct : Nat → Bool} {K : Kt} {R : Option AV → Hp → Prop} {n : Nat} {ls : List (Option AV)} {st : List AV} {σ : Hp} {k : Nat × Nat} : xe_X6_coversAll ct K R (n + 1) 3 ls st σ k = (lR ls 0 fun x => xk_X6_coversAll ct K R n 4 ls (vr x :: st) σ k) := exS_step.trans rfl
theorem ev_X6_coversAll_4 {ct : Nat → Bool} {K : Kt} {R : Option AV → Hp → Prop} {n : Nat} {ls : List (Option AV)} {st : List AV} {σ : Hp} {k : Nat × Nat} : xe_X6_coversAll ct K R (n + 1) 4 ls st σ k = (oR st fun x st => kd σ x = 7 ∧ xk_X6_coversAll ct K R n 7 ls (vi (fI σ 706 x) :: st) σ k) := exS_step.trans rfl
theorem ev_X6_coversAll_7 {ct : Nat → Bool} {K : Kt} {R : Option AV → Hp → Prop} {n : Nat} {ls : List (Option AV)} {st : List AV} {σ : Hp} {k : Nat × Nat} : xe_X6_coversAll ct K R (n + 1) 7 ls st σ k = (oI st fun y st => oI st fun x st => (wI y ≤ wI x → xk_X6_coversAll ct K R n 41 ls st σ k) ∧ (¬ (wI y ≤ wI x) → xk_X6_coversAll ct K R n 10 ls st σ k)) := exS_step.trans rfl
theorem ev_X6_coversAll_10 {ct : Nat → Bool} {K : Kt} {R : Option AV → Hp → Prop} {n : Nat} {ls : List (Option AV)} {st : List AV} {σ : Hp} {k : Nat × Nat} : xe_X6_coversAll ct K R (n + 1) 10 ls st σ k = (lI ls 1 fun x => xk_X6_coversAll ct K R n 11 ls (vi x :: st) σ k) := exS_step.trans rfl
theorem ev_X6_coversAll_11 {ct : Nat → Bool} {K : Kt} {R : Option AV → Hp → Prop} {n : Nat} {ls : List (Option AV)} {st : List AV} {σ : Hp} {k : Nat × Nat} : xe_X6_coversAll ct K R (n + 1) 11 ls st σ k = (lR ls 0 fun x => xk_X6_coversAll ct K R n 12 ls (vr x :: st) σ k) := exS_step.trans rfl
theorem ev_X6_coversAll_12 {ct : Nat → Bool} {K : Kt} {R : Option AV → Hp → Prop} {n : Nat} {ls : List (Option AV)} {st : List AV} {σ : Hp} {k : Nat × Nat} : xe_X6_coversAll ct K R (n + 1) 12 ls st σ k = (oR st fun x st => kd σ x = 7 ∧ xk_X6_coversAll ct K R n 15 ls (vr (fR σ 700 x) :: st) σ k) := exS_step.trans rfl
theorem ev_X6_coversAll_15 {ct : Nat → Bool} {K : Kt} {R : Option AV → Hp → Prop} {n : Nat} {ls : List (Option AV)} {st : List AV} {σ : Hp} {k : Nat × Nat} : xe_X6_coversAll ct K R (n + 1) 15 ls st σ k = (oR st fun x st => (101 ≤ kd σ x ∨ kd σ x = 21) ∧ xk_X6_coversAll ct K R n 16 ls (vi (ln σ x) :: st) σ k) := exS_step.trans rfl
theorem ev_X6_coversAll_16 {ct : Nat → Bool} {K : Kt} {R : Option AV → Hp → Prop} {n : Nat} {ls : List (Option AV)} {st : List AV} {σ : Hp} {k : Nat × Nat} : xe_X6_coversAll ct K R (n + 1) 16 ls st σ k = (oI st fun y st => oI st fun x st => (wI y ≤ wI x → xk_X6_coversAll ct K R n 41 ls st σ k) ∧ (¬ (wI y ≤ wI x) → xk_X6_coversAll ct K R n 19 ls st σ k)) := exS_step.trans rfl
theorem ev_X6_coversAll_19 {ct : Nat → Bool} {K : Kt} {R : Option AV → Hp → Prop} {n : Nat} {ls : List (Option AV)} {st : List AV} {σ : Hp} {k : Nat × Nat} : xe_X6_coversAll ct K R (n + 1) 19 ls st σ k = (lR ls 0 fun x => xk_X6_coversAll ct K R n 20 ls (vr x :: st) σ k) := exS_step.trans rfl
theorem ev_X6_coversAll_20 {ct : Nat → Bool} {K : Kt} {R : Option AV → Hp → Prop} {n : Nat} {ls : List (Option AV)} {st : List AV} {σ : Hp} {k : Nat × Nat} : xe_X6_coversAll ct K R (n + 1) 20 ls st σ k = (oR st fun x st => kd σ x = 7 ∧ xk_X6_coversAll ct K R n 23 ls (vr (fR σ 700 x) :: st) σ k) := exS_step.trans rfl
theorem ev_X6_coversAll_23 {ct : Nat → Bool} {K : Kt} {R : Option AV → Hp → Prop} {n : Nat} {ls : List (Option AV)} {st : List AV} {σ : Hp} {k : Nat × Nat} : xe_X6_coversAll ct K R (n + 1) 23 ls st σ k = (lI ls 1 fun x => xk_X6_coversAll ct K R n 24 ls (vi x :: st) σ k) := exS_step.trans rfl
theorem ev_X6_coversAll_24 {ct : Nat → Bool} {K : Kt} {R : Option AV → Hp → Prop} {n : Nat} {ls : List (Option AV)} {st : List AV} {σ : Hp} {k : Nat × Nat} : xe_X6_coversAll ct K R (n + 1) 24 ls st σ k = (oI st fun j st => oR st fun x st => (kd σ x = 101 ∨ kd σ x = 108) ∧ (0 ≤ j ∧ j < ln σ x) ∧ xk_X6_coversAll ct K R n 25 ls (vi (aI σ x j) :: st) σ k) := exS_step.trans rfl
theorem ev_X6_coversAll_25 {ct : Nat → Bool} {K : Kt} {R : Option AV → Hp → Prop} {n : Nat} {ls : List (Option AV)} {st : List AV} {σ : Hp} {k : Nat × Nat} : xe_X6_coversAll ct K R (n + 1) 25 ls st σ k = (lR ls 0 fun x => xk_X6_coversAll ct K R n 26 ls (vr x :: st) σ k) := exS_step.trans rfl
theorem ev_X6_coversAll_26 {ct : Nat → Bool} {K : Kt} {R : Option AV → Hp → Prop} {n : Nat} {ls : List (Option AV)} {st : List AV} {σ : Hp} {k : Nat × Nat} : xe_X6_coversAll ct K R (n + 1) 26 ls st σ k = (oR st fun x st => kd σ x = 7 ∧ xk_X6_coversAll ct K R n 29 ls (vi (fI σ 707 x) :: st) σ k) := exS_step.trans rfl
theorem ev_X6_coversAll_29 {ct : Nat → Bool} {K : Kt} {R : Option AV → Hp → Prop} {n : Nat} {ls : List (Option AV)} {st : List AV} {σ : Hp} {k : Nat × Nat} : xe_X6_coversAll ct K R (n + 1) 29 ls st σ k = (oI st fun y st => oI st fun x st => xk_X6_coversAll ct K R n 30 ls (vi (bAnd x y) :: st) σ k) := exS_step.trans rfl
theorem ev_X6_coversAll_30 {ct : Nat → Bool} {K : Kt} {R : Option AV → Hp → Prop} {n : Nat} {ls : List (Option AV)} {st : List AV} {σ : Hp} {k : Nat × Nat} : xe_X6_coversAll ct K R (n + 1) 30 ls st σ k = (oI st fun x st => (¬ wI x = wI 0 → xk_X6_coversAll ct K R n 35 ls st σ k) ∧ (¬ (¬ wI x = wI 0) → xk_X6_coversAll ct K R n 33 ls st σ k)) := exS_step.trans rfl
theorem ev_X6_coversAll_33 {ct : Nat → Bool} {K : Kt} {R : Option AV → Hp → Prop} {n : Nat} {ls : List (Option AV)} {st : List AV} {σ : Hp} {k : Nat × Nat} : xe_X6_coversAll ct K R (n + 1) 33 ls st σ k = (xk_X6_coversAll ct K R n 34 ls (vi (0) :: st) σ k) := exS_step.trans rfl
theorem ev_X6_coversAll_34 {ct : Nat → Bool} {K : Kt} {R : Option AV → Hp → Prop} {n : Nat} {ls : List (Option AV)} {st : List AV} {σ : Hp} {k : Nat × Nat} : xe_X6_coversAll ct K R (n + 1) 34 ls st σ k = (oI st fun x st => st = [] ∧ (x = 0 ∨ x = 1) ∧ R (some (vi x)) σ) := exS_step.trans rfl
theorem ev_X6_coversAll_35 {ct : Nat → Bool} {K : Kt} {R : Option AV → Hp → Prop} {n : Nat} {ls : List (Option AV)} {st : List AV} {σ : Hp} {k : Nat × Nat} : xe_X6_coversAll ct K R (n + 1) 35 ls st σ k = (lI ls 1 fun x => 1 < 2 ∧ xk_X6_coversAll ct K R n 38 (stL ls 1 (vi (x + (1)))) st σ k) := exS_step.trans rfl
theorem ev_X6_coversAll_38 {ct : Nat → Bool} {K : Kt} {R : Option AV → Hp → Prop} {n : Nat} {ls : List (Option AV)} {st : List AV} {σ : Hp} {k : Nat × Nat} : xe_X6_coversAll ct K R (n + 1) 38 ls st σ k = (xk_X6_coversAll ct K R n 2 ls st σ k) := exS_step.trans rfl
theorem ev_X6_coversAll_41 {ct : Nat → Bool} {K : Kt} {R : Option AV → Hp → Prop} {n : Nat} {ls : List (Option AV)} {st : List AV} {σ : Hp} {k : Nat × Nat} : xe_X6_coversAll ct K R (n + 1) 41 ls st σ k = (xk_X6_coversAll ct K R n 42 ls (vi (1) :: st) σ k) := exS_step.trans rfl
theorem ev_X6_coversAll_42 {ct : Nat → Bool} {K : Kt} {R : Option AV → Hp → Prop} {n : Nat} {ls : List (Option AV)} {st : List AV} {σ : Hp} {k : Nat × Nat} : xe_X6_coversAll ct K R (n + 1) 42 ls st σ k = (oI st fun x st => st = [] ∧ (x = 0 ∨ x = 1) ∧ R (some (vi x)) σ) := exS_step.trans rfl
def M_X6_coversAll : Md := (yX6_coversAll, cX6_coversAll, 2, (some FieldType.boolean), 1, 0, 0, 2, false, tb_X6_coversAll, mt_X6_coversAll)
theorem mm_X6_coversAll : MMOK M_X6_coversAll := ⟨by decide +kernel, tk_X6_coversAll, mk_X6_coversAll, rfl, fun h => by cases h⟩
theorem go_X6_coversAll {Q : Option AV → Hp → Prop} {ct : Nat → Bool} {pc : Nat} {ls : List (Option AV)} {st : List AV} {σ : Hp} {k : Nat × Nat} (n : Nat) (h : xe_X6_coversAll ct (Go M_X6_coversAll Q) Q n pc ls st σ k) : Go M_X6_coversAll Q pc ls st σ k := Go.exS mm_X6_coversAll h

set_option maxRecDepth 20000 in
theorem c_X6_coversAll : Ct yX6_coversAll cX6_coversAll 2 ((some FieldType.boolean)) 1 0 0 sp_X6_coversAll := by
  refine Ct.go (M := M_X6_coversAll) mm_X6_coversAll fun av σ Q h0 => ?_
  obtain ⟨this, rfl, hk, h⟩ := el_X6_coversAll h0
  clear h0
  refine ⟨Nat.le_of_ble_eq_true rfl, ?_⟩
  show Go M_X6_coversAll Q 0 [some (vr this), none] [] σ (0, 0)
  obtain ⟨rfl, hC, hn, h⟩ := h
  have loop : ∀ (m : Nat) (i : Int), 0 ≤ i → i + m = fI σ 706 19 → (∀ j, 0 ≤ j → j < i → ¬ cUn σ j) → Go M_X6_coversAll Q 2 [some (vr 19), some (vi i)] [] σ (0, 0) := by
    intro m
    induction m with
    | zero =>
      intro i h0 h1 hno
      rw [b2i_t (show cAll σ from fun ⟨j, a, b, c⟩ => hno j a (by omega) c)] at h
      clear hno
      refine go_X6_coversAll (ct := fun p => p == 10) 40 ?_
      simp only [oI, oL, oR, o1, lI, lL, lR, popN, catS, gv, stL, stL2, swt, cnd, spObj, List.getElem?_cons_zero, List.getElem?_cons_succ, List.getD_cons_zero, List.getD_cons_succ, List.set_cons_zero, List.set_cons_succ, List.nil_append, List.cons_append, Option.toList, Bool.or_false, Bool.false_or, Bool.or_true, Bool.true_or, Nat.reduceBEq, Nat.reduceAdd, Nat.reduceLT, Nat.reduceLeDiff, Int.reduceAdd, Int.reduceToNat, true_and, and_true, Fin.isValue, Fin.val_zero, Fin.val_one, Fin.val_two, Fin.reduceFinMk, eq_self, Int.reduceNeg, imp_self, Nat.reduceMul, Nat.le_refl, not_true_eq_false, not_false_eq_true, List.getElem?_nil, reduceCtorEq, true_or, or_true, Classical.not_not, implies_true, or_self, wI_0, wI_1, wI_m1, b2i_w, b2i_eq0, b2i_eq1, b2i_bool, nor_self, nx_pI, kd_pI, ln_pI, fI_pI, fL_pI, fR_pI, aI_pI, aL_pI, aR_pI, nx_pL, kd_pL, ln_pL, fI_pL, fL_pL, fR_pL, aI_pL, aL_pL, aR_pL, nx_pR, kd_pR, ln_pR, fI_pR, fL_pR, fR_pR, aI_pR, aL_pR, aR_pR, nx_qI, kd_qI, ln_qI, fI_qI, fL_qI, fR_qI, aI_qI, aL_qI, aR_qI, nx_qL, kd_qL, ln_qL, fI_qL, fL_qL, fR_qL, aI_qL, aL_qL, aR_qL, nx_qR, kd_qR, ln_qR, fI_qR, fL_qR, fR_qR, aI_qR, aL_qR, aR_qR, nx_mk, kd_mk, ln_mk, fI_mk, fL_mk, fR_mk, aI_mk, aL_mk, aR_mk, false_and, and_false, if_false, if_true, and_self, Int.reduceEq, Nat.reduceEqDiff, ite_self, MLay_pI, MLay_pL, MLay_qI, MLay_qL, ev_X6_coversAll_0, ev_X6_coversAll_1, ev_X6_coversAll_2, ev_X6_coversAll_3, ev_X6_coversAll_4, ev_X6_coversAll_7, ev_X6_coversAll_10, ev_X6_coversAll_11, ev_X6_coversAll_12, ev_X6_coversAll_15, ev_X6_coversAll_16, ev_X6_coversAll_19, ev_X6_coversAll_20, ev_X6_coversAll_23, ev_X6_coversAll_24, ev_X6_coversAll_25, ev_X6_coversAll_26, ev_X6_coversAll_29, ev_X6_coversAll_30, ev_X6_coversAll_33, ev_X6_coversAll_34, ev_X6_coversAll_35, ev_X6_coversAll_38, ev_X6_coversAll_41, ev_X6_coversAll_42, xt_X6_coversAll, xf_X6_coversAll, hC.eqs]
      try simp (disch := omega) only [wI_id, dv_nn, rm_nn]
      repeat' (first | intro z | apply And.intro)
      all_goals try omega
      all_goals try contradiction
      all_goals exact h
    | succ m ih =>
      intro i h0 h1 hno
      by_cases c : cUn σ i
      · rw [b2i_f (show ¬ cAll σ from fun z => z ⟨i, h0, by omega, c⟩)] at h
        unfold cUn at c
        clear ih hno
        refine go_X6_coversAll (ct := fun p => p == 41 || p == 35) 40 ?_
        simp only [oI, oL, oR, o1, lI, lL, lR, popN, catS, gv, stL, stL2, swt, cnd, spObj, List.getElem?_cons_zero, List.getElem?_cons_succ, List.getD_cons_zero, List.getD_cons_succ, List.set_cons_zero, List.set_cons_succ, List.nil_append, List.cons_append, Option.toList, Bool.or_false, Bool.false_or, Bool.or_true, Bool.true_or, Nat.reduceBEq, Nat.reduceAdd, Nat.reduceLT, Nat.reduceLeDiff, Int.reduceAdd, Int.reduceToNat, true_and, and_true, Fin.isValue, Fin.val_zero, Fin.val_one, Fin.val_two, Fin.reduceFinMk, eq_self, Int.reduceNeg, imp_self, Nat.reduceMul, Nat.le_refl, not_true_eq_false, not_false_eq_true, List.getElem?_nil, reduceCtorEq, true_or, or_true, Classical.not_not, implies_true, or_self, wI_0, wI_1, wI_m1, b2i_w, b2i_eq0, b2i_eq1, b2i_bool, nor_self, nx_pI, kd_pI, ln_pI, fI_pI, fL_pI, fR_pI, aI_pI, aL_pI, aR_pI, nx_pL, kd_pL, ln_pL, fI_pL, fL_pL, fR_pL, aI_pL, aL_pL, aR_pL, nx_pR, kd_pR, ln_pR, fI_pR, fL_pR, fR_pR, aI_pR, aL_pR, aR_pR, nx_qI, kd_qI, ln_qI, fI_qI, fL_qI, fR_qI, aI_qI, aL_qI, aR_qI, nx_qL, kd_qL, ln_qL, fI_qL, fL_qL, fR_qL, aI_qL, aL_qL, aR_qL, nx_qR, kd_qR, ln_qR, fI_qR, fL_qR, fR_qR, aI_qR, aL_qR, aR_qR, nx_mk, kd_mk, ln_mk, fI_mk, fL_mk, fR_mk, aI_mk, aL_mk, aR_mk, false_and, and_false, if_false, if_true, and_self, Int.reduceEq, Nat.reduceEqDiff, ite_self, MLay_pI, MLay_pL, MLay_qI, MLay_qL, ev_X6_coversAll_0, ev_X6_coversAll_1, ev_X6_coversAll_2, ev_X6_coversAll_3, ev_X6_coversAll_4, ev_X6_coversAll_7, ev_X6_coversAll_10, ev_X6_coversAll_11, ev_X6_coversAll_12, ev_X6_coversAll_15, ev_X6_coversAll_16, ev_X6_coversAll_19, ev_X6_coversAll_20, ev_X6_coversAll_23, ev_X6_coversAll_24, ev_X6_coversAll_25, ev_X6_coversAll_26, ev_X6_coversAll_29, ev_X6_coversAll_30, ev_X6_coversAll_33, ev_X6_coversAll_34, ev_X6_coversAll_35, ev_X6_coversAll_38, ev_X6_coversAll_41, ev_X6_coversAll_42, xt_X6_coversAll, xf_X6_coversAll, hC.eqs, c]
        try simp (disch := omega) only [wI_id, dv_nn, rm_nn]
        repeat' (first | intro z | apply And.intro)
        all_goals try omega
        all_goals try contradiction
        all_goals exact h
      · have w := ih (i + 1) (by omega) (by omega) (fun j a b => by
          by_cases e : j = i
          · rw [e]; exact c
          · exact hno j a (by omega))
        unfold cUn at c
        clear ih hno h
        refine go_X6_coversAll (ct := fun p => p == 41 || p == 33 || p == 2) 40 ?_
        simp only [oI, oL, oR, o1, lI, lL, lR, popN, catS, gv, stL, stL2, swt, cnd, spObj, List.getElem?_cons_zero, List.getElem?_cons_succ, List.getD_cons_zero, List.getD_cons_succ, List.set_cons_zero, List.set_cons_succ, List.nil_append, List.cons_append, Option.toList, Bool.or_false, Bool.false_or, Bool.or_true, Bool.true_or, Nat.reduceBEq, Nat.reduceAdd, Nat.reduceLT, Nat.reduceLeDiff, Int.reduceAdd, Int.reduceToNat, true_and, and_true, Fin.isValue, Fin.val_zero, Fin.val_one, Fin.val_two, Fin.reduceFinMk, eq_self, Int.reduceNeg, imp_self, Nat.reduceMul, Nat.le_refl, not_true_eq_false, not_false_eq_true, List.getElem?_nil, reduceCtorEq, true_or, or_true, Classical.not_not, implies_true, or_self, wI_0, wI_1, wI_m1, b2i_w, b2i_eq0, b2i_eq1, b2i_bool, nor_self, nx_pI, kd_pI, ln_pI, fI_pI, fL_pI, fR_pI, aI_pI, aL_pI, aR_pI, nx_pL, kd_pL, ln_pL, fI_pL, fL_pL, fR_pL, aI_pL, aL_pL, aR_pL, nx_pR, kd_pR, ln_pR, fI_pR, fL_pR, fR_pR, aI_pR, aL_pR, aR_pR, nx_qI, kd_qI, ln_qI, fI_qI, fL_qI, fR_qI, aI_qI, aL_qI, aR_qI, nx_qL, kd_qL, ln_qL, fI_qL, fL_qL, fR_qL, aI_qL, aL_qL, aR_qL, nx_qR, kd_qR, ln_qR, fI_qR, fL_qR, fR_qR, aI_qR, aL_qR, aR_qR, nx_mk, kd_mk, ln_mk, fI_mk, fL_mk, fR_mk, aI_mk, aL_mk, aR_mk, false_and, and_false, if_false, if_true, and_self, Int.reduceEq, Nat.reduceEqDiff, ite_self, MLay_pI, MLay_pL, MLay_qI, MLay_qL, ev_X6_coversAll_0, ev_X6_coversAll_1, ev_X6_coversAll_2, ev_X6_coversAll_3, ev_X6_coversAll_4, ev_X6_coversAll_7, ev_X6_coversAll_10, ev_X6_coversAll_11, ev_X6_coversAll_12, ev_X6_coversAll_15, ev_X6_coversAll_16, ev_X6_coversAll_19, ev_X6_coversAll_20, ev_X6_coversAll_23, ev_X6_coversAll_24, ev_X6_coversAll_25, ev_X6_coversAll_26, ev_X6_coversAll_29, ev_X6_coversAll_30, ev_X6_coversAll_33, ev_X6_coversAll_34, ev_X6_coversAll_35, ev_X6_coversAll_38, ev_X6_coversAll_41, ev_X6_coversAll_42, xt_X6_coversAll, xf_X6_coversAll, hC.eqs, c]
        try simp (disch := omega) only [wI_id, dv_nn, rm_nn]
        repeat' (first | intro z | apply And.intro)
        all_goals try omega
        all_goals try contradiction
        all_goals exact w
  have w := loop (fI σ 706 19).toNat 0 (Int.le_refl 0) (by omega) (fun j a b => by omega)
  refine go_X6_coversAll (ct := fun p => p == 2) 20 ?_
  simp only [oI, oL, oR, o1, lI, lL, lR, popN, catS, gv, stL, stL2, swt, cnd, spObj, List.getElem?_cons_zero, List.getElem?_cons_succ, List.getD_cons_zero, List.getD_cons_succ, List.set_cons_zero, List.set_cons_succ, List.nil_append, List.cons_append, Option.toList, Bool.or_false, Bool.false_or, Bool.or_true, Bool.true_or, Nat.reduceBEq, Nat.reduceAdd, Nat.reduceLT, Nat.reduceLeDiff, Int.reduceAdd, Int.reduceToNat, true_and, and_true, Fin.isValue, Fin.val_zero, Fin.val_one, Fin.val_two, Fin.reduceFinMk, eq_self, Int.reduceNeg, imp_self, Nat.reduceMul, Nat.le_refl, not_true_eq_false, not_false_eq_true, List.getElem?_nil, reduceCtorEq, true_or, or_true, Classical.not_not, implies_true, or_self, wI_0, wI_1, wI_m1, b2i_w, b2i_eq0, b2i_eq1, b2i_bool, nor_self, nx_pI, kd_pI, ln_pI, fI_pI, fL_pI, fR_pI, aI_pI, aL_pI, aR_pI, nx_pL, kd_pL, ln_pL, fI_pL, fL_pL, fR_pL, aI_pL, aL_pL, aR_pL, nx_pR, kd_pR, ln_pR, fI_pR, fL_pR, fR_pR, aI_pR, aL_pR, aR_pR, nx_qI, kd_qI, ln_qI, fI_qI, fL_qI, fR_qI, aI_qI, aL_qI, aR_qI, nx_qL, kd_qL, ln_qL, fI_qL, fL_qL, fR_qL, aI_qL, aL_qL, aR_qL, nx_qR, kd_qR, ln_qR, fI_qR, fL_qR, fR_qR, aI_qR, aL_qR, aR_qR, nx_mk, kd_mk, ln_mk, fI_mk, fL_mk, fR_mk, aI_mk, aL_mk, aR_mk, false_and, and_false, if_false, if_true, and_self, Int.reduceEq, Nat.reduceEqDiff, ite_self, MLay_pI, MLay_pL, MLay_qI, MLay_qL, ev_X6_coversAll_0, ev_X6_coversAll_1, xt_X6_coversAll, xf_X6_coversAll]
  exact w

def sp_X6_coversWard : Sp := fun av σ Q => oR av fun this av => oI av fun w av => av = [] ∧ kd σ this = 7 ∧ (this = 19 ∧ CLay σ ∧ inR w ∧ LOk σ 3 2 ∧ (0 ≤ fI σ 706 19 ∧ fI σ 706 19 ≤ 32) ∧ fI σ 706 19 = fI σ 1402 3 ∧ (∀ i, 0 ≤ i → i < fI σ 1402 3 → 0 ≤ fI σ 307 (lat σ 3 i) ∧ fI σ 307 (lat σ 3 i) ≤ 7) ∧ Q (some (vi (b2i (¬ bE (fI σ 706 19) fun i => fI σ 307 (lat σ 3 i) = w ∧ cUn σ i)))) σ)
theorem us_X6_coversWard (this : Int) (w : Int) (σ : Hp) (Q : Option AV → Hp → Prop) : sp_X6_coversWard [vr this, vi w] σ Q = (kd σ this = 7 ∧ (this = 19 ∧ CLay σ ∧ inR w ∧ LOk σ 3 2 ∧ (0 ≤ fI σ 706 19 ∧ fI σ 706 19 ≤ 32) ∧ fI σ 706 19 = fI σ 1402 3 ∧ (∀ i, 0 ≤ i → i < fI σ 1402 3 → 0 ≤ fI σ 307 (lat σ 3 i) ∧ fI σ 307 (lat σ 3 i) ≤ 7) ∧ Q (some (vi (b2i (¬ bE (fI σ 706 19) fun i => fI σ 307 (lat σ 3 i) = w ∧ cUn σ i)))) σ)) := propext ⟨fun h => h.2, fun h => ⟨rfl, h⟩⟩
theorem el_X6_coversWard {av : List AV} {σ : Hp} {Q : Option AV → Hp → Prop} (h : sp_X6_coversWard av σ Q) : ∃ (this : Int) (w : Int), av = [vr this, vi w] ∧ (kd σ this = 7 ∧ (this = 19 ∧ CLay σ ∧ inR w ∧ LOk σ 3 2 ∧ (0 ≤ fI σ 706 19 ∧ fI σ 706 19 ≤ 32) ∧ fI σ 706 19 = fI σ 1402 3 ∧ (∀ i, 0 ≤ i → i < fI σ 1402 3 → 0 ≤ fI σ 307 (lat σ 3 i) ∧ fI σ 307 (lat σ 3 i) ≤ 7) ∧ Q (some (vi (b2i (¬ bE (fI σ 706 19) fun i => fI σ 307 (lat σ 3 i) = w ∧ cUn σ i)))) σ)) := by
  obtain ⟨this, a0, rfl, h0⟩ := oR_s h
  obtain ⟨w, a1, rfl, h1⟩ := oI_s h0
  obtain ⟨rfl, hz⟩ := h1
  exact ⟨this, w, rfl, hz⟩
theorem rc_X6_coversWard : ∀ (av : List AV) (σ : Hp) (Q : Option AV → Hp → Prop), sp_X6_coversWard av σ Q → ∃ r tl, av = vr r :: tl ∧ kd σ r = 6 + 1 := fun av σ Q h => by
  obtain ⟨this, w, rfl, hz, -⟩ := el_X6_coversWard h
  exact ⟨this, _, rfl, hz⟩

def tb_X6_coversWard : Tab := [(0, .iconst 0, 1, (0, 0, 0, 0)), (1, .istore_n 2, 1, (0, 0, 0, 0)), (2, .iload_n 2, 1, (0, 0, 0, 0)), (3, .aload_n 0, 1, (0, 0, 0, 0)), (4, .getfield 38, 3, (7, 706, 0, 0)), (7, .if_icmp .ge 63, 3, (0, 0, 0, 0)), (10, .iload_n 2, 1, (0, 0, 0, 0)), (11, .aload_n 0, 1, (0, 0, 0, 0)), (12, .getfield 9, 3, (7, 700, 2, 0)), (15, .arraylength, 1, (0, 0, 0, 0)), (16, .if_icmp .ge 54, 3, (0, 0, 0, 0)), (19, .iload_n 2, 1, (0, 0, 0, 0)), (20, .aload_n 0, 1, (0, 0, 0, 0)), (21, .getfield 34, 3, (7, 705, 2, 0)), (24, .invokevirtual 48, 3, (0, 0, 0, 0)), (27, .if_icmp .ge 43, 3, (0, 0, 0, 0)), (30, .aload_n 0, 1, (0, 0, 0, 0)), (31, .getfield 34, 3, (7, 705, 2, 0)), (34, .iload_n 2, 1, (0, 0, 0, 0)), (35, .invokevirtual 58, 3, (0, 0, 0, 0)), (38, .checkcast 62, 3, (3, 0, 0, 0)), (41, .getfield 94, 3, (3, 307, 0, 0)), (44, .iload_n 1, 1, (0, 0, 0, 0)), (45, .if_icmp .ne 19, 3, (0, 0, 0, 0)), (48, .aload_n 0, 1, (0, 0, 0, 0)), (49, .getfield 9, 3, (7, 700, 2, 0)), (52, .iload_n 2, 1, (0, 0, 0, 0)), (53, .iaload, 1, (0, 0, 0, 0)), (54, .aload_n 0, 1, (0, 0, 0, 0)), (55, .getfield 42, 3, (7, 707, 0, 0)), (58, .iand, 1, (0, 0, 0, 0)), (59, .ifCond .ne 5, 3, (0, 0, 0, 0)), (62, .iconst 0, 1, (0, 0, 0, 0)), (63, .ireturn, 1, (0, 0, 0, 0)), (64, .iinc 2 1, 3, (0, 0, 0, 0)), (67, .goto (-65), 3, (0, 0, 0, 0)), (70, .iconst 1, 1, (0, 0, 0, 0)), (71, .ireturn, 1, (0, 0, 0, 0))]
set_option maxRecDepth 100000 in
theorem tk_X6_coversWard : TOK RX6 false cX6_coversWard tb_X6_coversWard := chkT_ok ft_X6 (by decide +kernel)
theorem rw_X6_384 : Row RX6 (.invokevirtual 48) 3 1 0 0 1 sp_Jx4a65c_size_8abf5 := row_V (n := 0) (ci := 13) c_Jx4a65c_size_8abf5 ⟨TBL_in 1303 (by decide +kernel) rfl, TBL_in 485 (by decide +kernel) rfl, TBL_in 115 (by decide +kernel) rfl, by decide +kernel, by decide⟩ (by decide) rfl (TBL_in 483 (by decide +kernel) rfl) (TBL_in 484 (by decide +kernel) rfl) rc_Jx4a65c_size_8abf5
theorem rw_X6_464 : Row RX6 (.invokevirtual 58) 3 2 0 0 3 sp_Jx4a65c_get_915e3 := row_V (n := 1) (ci := 13) c_Jx4a65c_get_915e3 ⟨TBL_in 1305 (by decide +kernel) rfl, TBL_in 489 (by decide +kernel) rfl, TBL_in 115 (by decide +kernel) rfl, by decide +kernel, by decide⟩ (by decide) rfl (TBL_in 487 (by decide +kernel) rfl) (TBL_in 488 (by decide +kernel) rfl) rc_Jx4a65c_get_915e3
def mt_X6_coversWard : List (Nat × Mt) := [(384, 1, 0, 0, 1, sp_Jx4a65c_size_8abf5), (464, 2, 0, 0, 3, sp_Jx4a65c_get_915e3)]
theorem em_X6_coversWard : mt_X6_coversWard.lookup 384 = some (1, 0, 0, 1, sp_Jx4a65c_size_8abf5) ∧ mt_X6_coversWard.lookup 464 = some (2, 0, 0, 3, sp_Jx4a65c_get_915e3) := ⟨rfl, rfl⟩
theorem mk_X6_coversWard : MOK RX6 mt_X6_coversWard := by
  intro q hq
  simp only [mt_X6_coversWard, List.mem_cons, List.not_mem_nil, or_false] at hq
  rcases hq with rfl | rfl
  · exact rw_X6_384
  · exact rw_X6_464
noncomputable def xe_X6_coversWard (ct : Nat → Bool) (K : Kt) (R : Option AV → Hp → Prop) (n : Nat) : Kt := exS 3 4 0 0 2 tb_X6_coversWard mt_X6_coversWard ct K R n
noncomputable def xk_X6_coversWard (ct : Nat → Bool) (K : Kt) (R : Option AV → Hp → Prop) (n : Nat) : Kt := exkS 3 4 0 0 2 tb_X6_coversWard mt_X6_coversWard ct K R n
theorem xt_X6_coversWard {ct : Nat → Bool} {K : Kt} {R : Option AV → Hp → Prop} {n pc : Nat} {ls : List (Option AV)} {st : List AV} {σ : Hp} {k : Nat × Nat} (h : ct pc = true) : xk_X6_coversWard ct K R n pc ls st σ k = K pc ls st σ k := by unfold xk_X6_coversWard exkS; rw [h]
theorem xf_X6_coversWard {ct : Nat → Bool} {K : Kt} {R : Option AV → Hp → Prop} {n pc : Nat} {ls : List (Option AV)} {st : List AV} {σ : Hp} {k : Nat × Nat} (h : ct pc = false) : xk_X6_coversWard ct K R n pc ls st σ k = xe_X6_coversWard ct K R n pc ls st σ k := by unfold xk_X6_coversWard exkS xe_X6_coversWard; rw [h]
theorem ev_X6_coversWard_0 {ct : Nat → Bool} {K : Kt} {R : Option AV → Hp → Prop} {n : Nat} {ls : List (Option AV)} {st : List AV} {σ : Hp} {k : Nat × Nat} : xe_X6_coversWard ct K R (n + 1) 0 ls st σ k = (xk_X6_coversWard ct K R n 1 ls (vi (0) :: st) σ k) := exS_step.trans rfl
theorem ev_X6_coversWard_1 {ct : Nat → Bool} {K : Kt} {R : Option AV → Hp → Prop} {n : Nat} {ls : List (Option AV)} {st : List AV} {σ : Hp} {k : Nat × Nat} : xe_X6_coversWard ct K R (n + 1) 1 ls st σ k = (oI st fun x st => 2 < 3 ∧ xk_X6_coversWard ct K R n 2 (stL ls 2 (vi x)) st σ k) := exS_step.trans rfl
theorem ev_X6_coversWard_2 {ct : Nat → Bool} {K : Kt} {R : Option AV → Hp → Prop} {n : Nat} {ls : List (Option AV)} {st : List AV} {σ : Hp} {k : Nat × Nat} : xe_X6_coversWard ct K R (n + 1) 2 ls st σ k = (lI ls 2 fun x => xk_X6_coversWard ct K R n 3 ls (vi x :: st) σ k) := exS_step.trans rfl
theorem ev_X6_coversWard_3 {ct : Nat → Bool} {K : Kt} {R : Option AV → Hp → Prop} {n : Nat} {ls : List (Option AV)} {st : List AV} {σ : Hp} {k : Nat × Nat} : xe_X6_coversWard ct K R (n + 1) 3 ls st σ k = (lR ls 0 fun x => xk_X6_coversWard ct K R n 4 ls (vr x :: st) σ k) := exS_step.trans rfl
theorem ev_X6_coversWard_4 {ct : Nat → Bool} {K : Kt} {R : Option AV → Hp → Prop} {n : Nat} {ls : List (Option AV)} {st : List AV} {σ : Hp} {k : Nat × Nat} : xe_X6_coversWard ct K R (n + 1) 4 ls st σ k = (oR st fun x st => kd σ x = 7 ∧ xk_X6_coversWard ct K R n 7 ls (vi (fI σ 706 x) :: st) σ k) := exS_step.trans rfl
theorem ev_X6_coversWard_7 {ct : Nat → Bool} {K : Kt} {R : Option AV → Hp → Prop} {n : Nat} {ls : List (Option AV)} {st : List AV} {σ : Hp} {k : Nat × Nat} : xe_X6_coversWard ct K R (n + 1) 7 ls st σ k = (oI st fun y st => oI st fun x st => (wI y ≤ wI x → xk_X6_coversWard ct K R n 70 ls st σ k) ∧ (¬ (wI y ≤ wI x) → xk_X6_coversWard ct K R n 10 ls st σ k)) := exS_step.trans rfl
theorem ev_X6_coversWard_10 {ct : Nat → Bool} {K : Kt} {R : Option AV → Hp → Prop} {n : Nat} {ls : List (Option AV)} {st : List AV} {σ : Hp} {k : Nat × Nat} : xe_X6_coversWard ct K R (n + 1) 10 ls st σ k = (lI ls 2 fun x => xk_X6_coversWard ct K R n 11 ls (vi x :: st) σ k) := exS_step.trans rfl
theorem ev_X6_coversWard_11 {ct : Nat → Bool} {K : Kt} {R : Option AV → Hp → Prop} {n : Nat} {ls : List (Option AV)} {st : List AV} {σ : Hp} {k : Nat × Nat} : xe_X6_coversWard ct K R (n + 1) 11 ls st σ k = (lR ls 0 fun x => xk_X6_coversWard ct K R n 12 ls (vr x :: st) σ k) := exS_step.trans rfl
theorem ev_X6_coversWard_12 {ct : Nat → Bool} {K : Kt} {R : Option AV → Hp → Prop} {n : Nat} {ls : List (Option AV)} {st : List AV} {σ : Hp} {k : Nat × Nat} : xe_X6_coversWard ct K R (n + 1) 12 ls st σ k = (oR st fun x st => kd σ x = 7 ∧ xk_X6_coversWard ct K R n 15 ls (vr (fR σ 700 x) :: st) σ k) := exS_step.trans rfl
theorem ev_X6_coversWard_15 {ct : Nat → Bool} {K : Kt} {R : Option AV → Hp → Prop} {n : Nat} {ls : List (Option AV)} {st : List AV} {σ : Hp} {k : Nat × Nat} : xe_X6_coversWard ct K R (n + 1) 15 ls st σ k = (oR st fun x st => (101 ≤ kd σ x ∨ kd σ x = 21) ∧ xk_X6_coversWard ct K R n 16 ls (vi (ln σ x) :: st) σ k) := exS_step.trans rfl
theorem ev_X6_coversWard_16 {ct : Nat → Bool} {K : Kt} {R : Option AV → Hp → Prop} {n : Nat} {ls : List (Option AV)} {st : List AV} {σ : Hp} {k : Nat × Nat} : xe_X6_coversWard ct K R (n + 1) 16 ls st σ k = (oI st fun y st => oI st fun x st => (wI y ≤ wI x → xk_X6_coversWard ct K R n 70 ls st σ k) ∧ (¬ (wI y ≤ wI x) → xk_X6_coversWard ct K R n 19 ls st σ k)) := exS_step.trans rfl
theorem ev_X6_coversWard_19 {ct : Nat → Bool} {K : Kt} {R : Option AV → Hp → Prop} {n : Nat} {ls : List (Option AV)} {st : List AV} {σ : Hp} {k : Nat × Nat} : xe_X6_coversWard ct K R (n + 1) 19 ls st σ k = (lI ls 2 fun x => xk_X6_coversWard ct K R n 20 ls (vi x :: st) σ k) := exS_step.trans rfl
theorem ev_X6_coversWard_20 {ct : Nat → Bool} {K : Kt} {R : Option AV → Hp → Prop} {n : Nat} {ls : List (Option AV)} {st : List AV} {σ : Hp} {k : Nat × Nat} : xe_X6_coversWard ct K R (n + 1) 20 ls st σ k = (lR ls 0 fun x => xk_X6_coversWard ct K R n 21 ls (vr x :: st) σ k) := exS_step.trans rfl
theorem ev_X6_coversWard_21 {ct : Nat → Bool} {K : Kt} {R : Option AV → Hp → Prop} {n : Nat} {ls : List (Option AV)} {st : List AV} {σ : Hp} {k : Nat × Nat} : xe_X6_coversWard ct K R (n + 1) 21 ls st σ k = (oR st fun x st => kd σ x = 7 ∧ xk_X6_coversWard ct K R n 24 ls (vr (fR σ 705 x) :: st) σ k) := exS_step.trans rfl
theorem ev_X6_coversWard_24 {ct : Nat → Bool} {K : Kt} {R : Option AV → Hp → Prop} {n : Nat} {ls : List (Option AV)} {st : List AV} {σ : Hp} {k : Nat × Nat} : xe_X6_coversWard ct K R (n + 1) 24 ls st σ k = (popN 1 st [] fun av rest => (catS rest ≤ 8 ∧ 1 < 4 ∧ k.1 + 0 ≤ 0 ∧ k.2 + 0 ≤ 0) ∧ (sp_Jx4a65c_size_8abf5) av σ fun v σ' => xk_X6_coversWard ct K R n 27 ls (v.toList ++ rest) σ' (k.1 + 0, k.2 + 0)) := exS_step.trans rfl
theorem ev_X6_coversWard_27 {ct : Nat → Bool} {K : Kt} {R : Option AV → Hp → Prop} {n : Nat} {ls : List (Option AV)} {st : List AV} {σ : Hp} {k : Nat × Nat} : xe_X6_coversWard ct K R (n + 1) 27 ls st σ k = (oI st fun y st => oI st fun x st => (wI y ≤ wI x → xk_X6_coversWard ct K R n 70 ls st σ k) ∧ (¬ (wI y ≤ wI x) → xk_X6_coversWard ct K R n 30 ls st σ k)) := exS_step.trans rfl
theorem ev_X6_coversWard_30 {ct : Nat → Bool} {K : Kt} {R : Option AV → Hp → Prop} {n : Nat} {ls : List (Option AV)} {st : List AV} {σ : Hp} {k : Nat × Nat} : xe_X6_coversWard ct K R (n + 1) 30 ls st σ k = (lR ls 0 fun x => xk_X6_coversWard ct K R n 31 ls (vr x :: st) σ k) := exS_step.trans rfl
theorem ev_X6_coversWard_31 {ct : Nat → Bool} {K : Kt} {R : Option AV → Hp → Prop} {n : Nat} {ls : List (Option AV)} {st : List AV} {σ : Hp} {k : Nat × Nat} : xe_X6_coversWard ct K R (n + 1) 31 ls st σ k = (oR st fun x st => kd σ x = 7 ∧ xk_X6_coversWard ct K R n 34 ls (vr (fR σ 705 x) :: st) σ k) := exS_step.trans rfl
theorem ev_X6_coversWard_34 {ct : Nat → Bool} {K : Kt} {R : Option AV → Hp → Prop} {n : Nat} {ls : List (Option AV)} {st : List AV} {σ : Hp} {k : Nat × Nat} : xe_X6_coversWard ct K R (n + 1) 34 ls st σ k = (lI ls 2 fun x => xk_X6_coversWard ct K R n 35 ls (vi x :: st) σ k) := exS_step.trans rfl
theorem ev_X6_coversWard_35 {ct : Nat → Bool} {K : Kt} {R : Option AV → Hp → Prop} {n : Nat} {ls : List (Option AV)} {st : List AV} {σ : Hp} {k : Nat × Nat} : xe_X6_coversWard ct K R (n + 1) 35 ls st σ k = (popN 2 st [] fun av rest => (catS rest ≤ 8 ∧ 3 < 4 ∧ k.1 + 0 ≤ 0 ∧ k.2 + 0 ≤ 0) ∧ (sp_Jx4a65c_get_915e3) av σ fun v σ' => xk_X6_coversWard ct K R n 38 ls (v.toList ++ rest) σ' (k.1 + 0, k.2 + 0)) := exS_step.trans rfl
theorem ev_X6_coversWard_38 {ct : Nat → Bool} {K : Kt} {R : Option AV → Hp → Prop} {n : Nat} {ls : List (Option AV)} {st : List AV} {σ : Hp} {k : Nat × Nat} : xe_X6_coversWard ct K R (n + 1) 38 ls st σ k = (oR st fun x st => kd σ x = 3 ∧ xk_X6_coversWard ct K R n 41 ls (vr x :: st) σ k) := exS_step.trans rfl
theorem ev_X6_coversWard_41 {ct : Nat → Bool} {K : Kt} {R : Option AV → Hp → Prop} {n : Nat} {ls : List (Option AV)} {st : List AV} {σ : Hp} {k : Nat × Nat} : xe_X6_coversWard ct K R (n + 1) 41 ls st σ k = (oR st fun x st => kd σ x = 3 ∧ xk_X6_coversWard ct K R n 44 ls (vi (fI σ 307 x) :: st) σ k) := exS_step.trans rfl
theorem ev_X6_coversWard_44 {ct : Nat → Bool} {K : Kt} {R : Option AV → Hp → Prop} {n : Nat} {ls : List (Option AV)} {st : List AV} {σ : Hp} {k : Nat × Nat} : xe_X6_coversWard ct K R (n + 1) 44 ls st σ k = (lI ls 1 fun x => xk_X6_coversWard ct K R n 45 ls (vi x :: st) σ k) := exS_step.trans rfl
theorem ev_X6_coversWard_45 {ct : Nat → Bool} {K : Kt} {R : Option AV → Hp → Prop} {n : Nat} {ls : List (Option AV)} {st : List AV} {σ : Hp} {k : Nat × Nat} : xe_X6_coversWard ct K R (n + 1) 45 ls st σ k = (oI st fun y st => oI st fun x st => (¬ wI x = wI y → xk_X6_coversWard ct K R n 64 ls st σ k) ∧ (¬ (¬ wI x = wI y) → xk_X6_coversWard ct K R n 48 ls st σ k)) := exS_step.trans rfl
theorem ev_X6_coversWard_48 {ct : Nat → Bool} {K : Kt} {R : Option AV → Hp → Prop} {n : Nat} {ls : List (Option AV)} {st : List AV} {σ : Hp} {k : Nat × Nat} : xe_X6_coversWard ct K R (n + 1) 48 ls st σ k = (lR ls 0 fun x => xk_X6_coversWard ct K R n 49 ls (vr x :: st) σ k) := exS_step.trans rfl
theorem ev_X6_coversWard_49 {ct : Nat → Bool} {K : Kt} {R : Option AV → Hp → Prop} {n : Nat} {ls : List (Option AV)} {st : List AV} {σ : Hp} {k : Nat × Nat} : xe_X6_coversWard ct K R (n + 1) 49 ls st σ k = (oR st fun x st => kd σ x = 7 ∧ xk_X6_coversWard ct K R n 52 ls (vr (fR σ 700 x) :: st) σ k) := exS_step.trans rfl
theorem ev_X6_coversWard_52 {ct : Nat → Bool} {K : Kt} {R : Option AV → Hp → Prop} {n : Nat} {ls : List (Option AV)} {st : List AV} {σ : Hp} {k : Nat × Nat} : xe_X6_coversWard ct K R (n + 1) 52 ls st σ k = (lI ls 2 fun x => xk_X6_coversWard ct K R n 53 ls (vi x :: st) σ k) := exS_step.trans rfl
theorem ev_X6_coversWard_53 {ct : Nat → Bool} {K : Kt} {R : Option AV → Hp → Prop} {n : Nat} {ls : List (Option AV)} {st : List AV} {σ : Hp} {k : Nat × Nat} : xe_X6_coversWard ct K R (n + 1) 53 ls st σ k = (oI st fun j st => oR st fun x st => (kd σ x = 101 ∨ kd σ x = 108) ∧ (0 ≤ j ∧ j < ln σ x) ∧ xk_X6_coversWard ct K R n 54 ls (vi (aI σ x j) :: st) σ k) := exS_step.trans rfl
theorem ev_X6_coversWard_54 {ct : Nat → Bool} {K : Kt} {R : Option AV → Hp → Prop} {n : Nat} {ls : List (Option AV)} {st : List AV} {σ : Hp} {k : Nat × Nat} : xe_X6_coversWard ct K R (n + 1) 54 ls st σ k = (lR ls 0 fun x => xk_X6_coversWard ct K R n 55 ls (vr x :: st) σ k) := exS_step.trans rfl
theorem ev_X6_coversWard_55 {ct : Nat → Bool} {K : Kt} {R : Option AV → Hp → Prop} {n : Nat} {ls : List (Option AV)} {st : List AV} {σ : Hp} {k : Nat × Nat} : xe_X6_coversWard ct K R (n + 1) 55 ls st σ k = (oR st fun x st => kd σ x = 7 ∧ xk_X6_coversWard ct K R n 58 ls (vi (fI σ 707 x) :: st) σ k) := exS_step.trans rfl
theorem ev_X6_coversWard_58 {ct : Nat → Bool} {K : Kt} {R : Option AV → Hp → Prop} {n : Nat} {ls : List (Option AV)} {st : List AV} {σ : Hp} {k : Nat × Nat} : xe_X6_coversWard ct K R (n + 1) 58 ls st σ k = (oI st fun y st => oI st fun x st => xk_X6_coversWard ct K R n 59 ls (vi (bAnd x y) :: st) σ k) := exS_step.trans rfl
theorem ev_X6_coversWard_59 {ct : Nat → Bool} {K : Kt} {R : Option AV → Hp → Prop} {n : Nat} {ls : List (Option AV)} {st : List AV} {σ : Hp} {k : Nat × Nat} : xe_X6_coversWard ct K R (n + 1) 59 ls st σ k = (oI st fun x st => (¬ wI x = wI 0 → xk_X6_coversWard ct K R n 64 ls st σ k) ∧ (¬ (¬ wI x = wI 0) → xk_X6_coversWard ct K R n 62 ls st σ k)) := exS_step.trans rfl
theorem ev_X6_coversWard_62 {ct : Nat → Bool} {K : Kt} {R : Option AV → Hp → Prop} {n : Nat} {ls : List (Option AV)} {st : List AV} {σ : Hp} {k : Nat × Nat} : xe_X6_coversWard ct K R (n + 1) 62 ls st σ k = (xk_X6_coversWard ct K R n 63 ls (vi (0) :: st) σ k) := exS_step.trans rfl
theorem ev_X6_coversWard_63 {ct : Nat → Bool} {K : Kt} {R : Option AV → Hp → Prop} {n : Nat} {ls : List (Option AV)} {st : List AV} {σ : Hp} {k : Nat × Nat} : xe_X6_coversWard ct K R (n + 1) 63 ls st σ k = (oI st fun x st => st = [] ∧ (x = 0 ∨ x = 1) ∧ R (some (vi x)) σ) := exS_step.trans rfl
theorem ev_X6_coversWard_64 {ct : Nat → Bool} {K : Kt} {R : Option AV → Hp → Prop} {n : Nat} {ls : List (Option AV)} {st : List AV} {σ : Hp} {k : Nat × Nat} : xe_X6_coversWard ct K R (n + 1) 64 ls st σ k = (lI ls 2 fun x => 2 < 3 ∧ xk_X6_coversWard ct K R n 67 (stL ls 2 (vi (x + (1)))) st σ k) := exS_step.trans rfl
theorem ev_X6_coversWard_67 {ct : Nat → Bool} {K : Kt} {R : Option AV → Hp → Prop} {n : Nat} {ls : List (Option AV)} {st : List AV} {σ : Hp} {k : Nat × Nat} : xe_X6_coversWard ct K R (n + 1) 67 ls st σ k = (xk_X6_coversWard ct K R n 2 ls st σ k) := exS_step.trans rfl
theorem ev_X6_coversWard_70 {ct : Nat → Bool} {K : Kt} {R : Option AV → Hp → Prop} {n : Nat} {ls : List (Option AV)} {st : List AV} {σ : Hp} {k : Nat × Nat} : xe_X6_coversWard ct K R (n + 1) 70 ls st σ k = (xk_X6_coversWard ct K R n 71 ls (vi (1) :: st) σ k) := exS_step.trans rfl
theorem ev_X6_coversWard_71 {ct : Nat → Bool} {K : Kt} {R : Option AV → Hp → Prop} {n : Nat} {ls : List (Option AV)} {st : List AV} {σ : Hp} {k : Nat × Nat} : xe_X6_coversWard ct K R (n + 1) 71 ls st σ k = (oI st fun x st => st = [] ∧ (x = 0 ∨ x = 1) ∧ R (some (vi x)) σ) := exS_step.trans rfl
def M_X6_coversWard : Md := (yX6_coversWard, cX6_coversWard, 3, (some FieldType.boolean), 4, 0, 0, 2, false, tb_X6_coversWard, mt_X6_coversWard)
theorem mm_X6_coversWard : MMOK M_X6_coversWard := ⟨by decide +kernel, tk_X6_coversWard, mk_X6_coversWard, rfl, fun h => by cases h⟩
theorem go_X6_coversWard {Q : Option AV → Hp → Prop} {ct : Nat → Bool} {pc : Nat} {ls : List (Option AV)} {st : List AV} {σ : Hp} {k : Nat × Nat} (n : Nat) (h : xe_X6_coversWard ct (Go M_X6_coversWard Q) Q n pc ls st σ k) : Go M_X6_coversWard Q pc ls st σ k := Go.exS mm_X6_coversWard h

set_option maxRecDepth 20000 in
theorem c_X6_coversWard : Ct yX6_coversWard cX6_coversWard 3 ((some FieldType.boolean)) 4 0 0 sp_X6_coversWard := by
  refine Ct.go (M := M_X6_coversWard) mm_X6_coversWard fun av σ Q h0 => ?_
  obtain ⟨this, w, rfl, hk, h⟩ := el_X6_coversWard h0
  clear h0
  refine ⟨Nat.le_of_ble_eq_true rfl, ?_⟩
  show Go M_X6_coversWard Q 0 [some (vr this), some (vi w), none] [] σ (0, 0)
  obtain ⟨rfl, hC, hw, hL, hn, hns, hb, h⟩ := h
  unfold inR at hw
  have hLe : ∃ ci, LOk σ 3 ci := ⟨2, hL⟩
  have loop : ∀ (m : Nat) (i : Int), 0 ≤ i → i + m = fI σ 706 19 → (∀ j, 0 ≤ j → j < i → ¬ (fI σ 307 (lat σ 3 j) = w ∧ cUn σ j)) → Go M_X6_coversWard Q 2 [some (vr 19), some (vi w), some (vi i)] [] σ (0, 0) := by
    intro m
    induction m with
    | zero =>
      intro i h0 h1 hno
      rw [b2i_t (fun ⟨j, a, b, c⟩ => hno j a (by omega) c)] at h
      clear hno hb
      refine go_X6_coversWard (ct := fun p => p == 10) 40 ?_
      simp only [oI, oL, oR, o1, lI, lL, lR, popN, catS, gv, stL, stL2, swt, cnd, spObj, List.getElem?_cons_zero, List.getElem?_cons_succ, List.getD_cons_zero, List.getD_cons_succ, List.set_cons_zero, List.set_cons_succ, List.nil_append, List.cons_append, Option.toList, Bool.or_false, Bool.false_or, Bool.or_true, Bool.true_or, Nat.reduceBEq, Nat.reduceAdd, Nat.reduceLT, Nat.reduceLeDiff, Int.reduceAdd, Int.reduceToNat, true_and, and_true, Fin.isValue, Fin.val_zero, Fin.val_one, Fin.val_two, Fin.reduceFinMk, eq_self, Int.reduceNeg, imp_self, Nat.reduceMul, Nat.le_refl, not_true_eq_false, not_false_eq_true, List.getElem?_nil, reduceCtorEq, true_or, or_true, Classical.not_not, implies_true, or_self, wI_0, wI_1, wI_m1, b2i_w, b2i_eq0, b2i_eq1, b2i_bool, nor_self, nx_pI, kd_pI, ln_pI, fI_pI, fL_pI, fR_pI, aI_pI, aL_pI, aR_pI, nx_pL, kd_pL, ln_pL, fI_pL, fL_pL, fR_pL, aI_pL, aL_pL, aR_pL, nx_pR, kd_pR, ln_pR, fI_pR, fL_pR, fR_pR, aI_pR, aL_pR, aR_pR, nx_qI, kd_qI, ln_qI, fI_qI, fL_qI, fR_qI, aI_qI, aL_qI, aR_qI, nx_qL, kd_qL, ln_qL, fI_qL, fL_qL, fR_qL, aI_qL, aL_qL, aR_qL, nx_qR, kd_qR, ln_qR, fI_qR, fL_qR, fR_qR, aI_qR, aL_qR, aR_qR, nx_mk, kd_mk, ln_mk, fI_mk, fL_mk, fR_mk, aI_mk, aL_mk, aR_mk, false_and, and_false, if_false, if_true, and_self, Int.reduceEq, Nat.reduceEqDiff, ite_self, MLay_pI, MLay_pL, MLay_qI, MLay_qL, ev_X6_coversWard_0, ev_X6_coversWard_1, ev_X6_coversWard_2, ev_X6_coversWard_3, ev_X6_coversWard_4, ev_X6_coversWard_7, ev_X6_coversWard_10, ev_X6_coversWard_11, ev_X6_coversWard_12, ev_X6_coversWard_15, ev_X6_coversWard_16, ev_X6_coversWard_19, ev_X6_coversWard_20, ev_X6_coversWard_21, ev_X6_coversWard_24, ev_X6_coversWard_27, ev_X6_coversWard_30, ev_X6_coversWard_31, ev_X6_coversWard_34, ev_X6_coversWard_35, ev_X6_coversWard_38, ev_X6_coversWard_41, ev_X6_coversWard_44, ev_X6_coversWard_45, ev_X6_coversWard_48, ev_X6_coversWard_49, ev_X6_coversWard_52, ev_X6_coversWard_53, ev_X6_coversWard_54, ev_X6_coversWard_55, ev_X6_coversWard_58, ev_X6_coversWard_59, ev_X6_coversWard_62, ev_X6_coversWard_63, ev_X6_coversWard_64, ev_X6_coversWard_67, ev_X6_coversWard_70, ev_X6_coversWard_71, xt_X6_coversWard, xf_X6_coversWard, us_Jx4a65c_size_8abf5, us_Jx4a65c_get_915e3, hC.eqs]
      try simp (disch := omega) only [wI_id, dv_nn, rm_nn]
      repeat' (first | intro z | apply And.intro)
      all_goals try omega
      all_goals try contradiction
      all_goals exact h
    | succ m ih =>
      intro i h0 h1 hno
      have hbk : kd σ (lat σ 3 i) = 3 := hL.2.2.2.2.2 i h0 (by omega)
      have hb := hb i h0 (by omega)
      by_cases c : fI σ 307 (lat σ 3 i) = w ∧ cUn σ i
      · rw [b2i_f (fun z => z ⟨i, h0, by omega, c⟩)] at h
        unfold cUn at c
        have c2 := c.2
        clear ih hno
        refine go_X6_coversWard (ct := fun p => p == 70 || p == 64) 60 ?_
        simp only [oI, oL, oR, o1, lI, lL, lR, popN, catS, gv, stL, stL2, swt, cnd, spObj, List.getElem?_cons_zero, List.getElem?_cons_succ, List.getD_cons_zero, List.getD_cons_succ, List.set_cons_zero, List.set_cons_succ, List.nil_append, List.cons_append, Option.toList, Bool.or_false, Bool.false_or, Bool.or_true, Bool.true_or, Nat.reduceBEq, Nat.reduceAdd, Nat.reduceLT, Nat.reduceLeDiff, Int.reduceAdd, Int.reduceToNat, true_and, and_true, Fin.isValue, Fin.val_zero, Fin.val_one, Fin.val_two, Fin.reduceFinMk, eq_self, Int.reduceNeg, imp_self, Nat.reduceMul, Nat.le_refl, not_true_eq_false, not_false_eq_true, List.getElem?_nil, reduceCtorEq, true_or, or_true, Classical.not_not, implies_true, or_self, wI_0, wI_1, wI_m1, b2i_w, b2i_eq0, b2i_eq1, b2i_bool, nor_self, nx_pI, kd_pI, ln_pI, fI_pI, fL_pI, fR_pI, aI_pI, aL_pI, aR_pI, nx_pL, kd_pL, ln_pL, fI_pL, fL_pL, fR_pL, aI_pL, aL_pL, aR_pL, nx_pR, kd_pR, ln_pR, fI_pR, fL_pR, fR_pR, aI_pR, aL_pR, aR_pR, nx_qI, kd_qI, ln_qI, fI_qI, fL_qI, fR_qI, aI_qI, aL_qI, aR_qI, nx_qL, kd_qL, ln_qL, fI_qL, fL_qL, fR_qL, aI_qL, aL_qL, aR_qL, nx_qR, kd_qR, ln_qR, fI_qR, fL_qR, fR_qR, aI_qR, aL_qR, aR_qR, nx_mk, kd_mk, ln_mk, fI_mk, fL_mk, fR_mk, aI_mk, aL_mk, aR_mk, false_and, and_false, if_false, if_true, and_self, Int.reduceEq, Nat.reduceEqDiff, ite_self, MLay_pI, MLay_pL, MLay_qI, MLay_qL, ev_X6_coversWard_0, ev_X6_coversWard_1, ev_X6_coversWard_2, ev_X6_coversWard_3, ev_X6_coversWard_4, ev_X6_coversWard_7, ev_X6_coversWard_10, ev_X6_coversWard_11, ev_X6_coversWard_12, ev_X6_coversWard_15, ev_X6_coversWard_16, ev_X6_coversWard_19, ev_X6_coversWard_20, ev_X6_coversWard_21, ev_X6_coversWard_24, ev_X6_coversWard_27, ev_X6_coversWard_30, ev_X6_coversWard_31, ev_X6_coversWard_34, ev_X6_coversWard_35, ev_X6_coversWard_38, ev_X6_coversWard_41, ev_X6_coversWard_44, ev_X6_coversWard_45, ev_X6_coversWard_48, ev_X6_coversWard_49, ev_X6_coversWard_52, ev_X6_coversWard_53, ev_X6_coversWard_54, ev_X6_coversWard_55, ev_X6_coversWard_58, ev_X6_coversWard_59, ev_X6_coversWard_62, ev_X6_coversWard_63, ev_X6_coversWard_64, ev_X6_coversWard_67, ev_X6_coversWard_70, ev_X6_coversWard_71, xt_X6_coversWard, xf_X6_coversWard, us_Jx4a65c_size_8abf5, us_Jx4a65c_get_915e3, hC.eqs, hLe, hbk, c2]
        try simp (disch := omega) only [wI_id, dv_nn, rm_nn]
        repeat' (first | intro z | apply And.intro)
        all_goals try omega
        all_goals try contradiction
        all_goals exact h
      · have w := ih (i + 1) (by omega) (by omega) (fun j a b => by
          by_cases e : j = i
          · rw [e]; exact c
          · exact hno j a (by omega))
        unfold cUn at c
        clear ih hno h
        refine go_X6_coversWard (ct := fun p => p == 70 || p == 62 || p == 2) 60 ?_
        simp only [oI, oL, oR, o1, lI, lL, lR, popN, catS, gv, stL, stL2, swt, cnd, spObj, List.getElem?_cons_zero, List.getElem?_cons_succ, List.getD_cons_zero, List.getD_cons_succ, List.set_cons_zero, List.set_cons_succ, List.nil_append, List.cons_append, Option.toList, Bool.or_false, Bool.false_or, Bool.or_true, Bool.true_or, Nat.reduceBEq, Nat.reduceAdd, Nat.reduceLT, Nat.reduceLeDiff, Int.reduceAdd, Int.reduceToNat, true_and, and_true, Fin.isValue, Fin.val_zero, Fin.val_one, Fin.val_two, Fin.reduceFinMk, eq_self, Int.reduceNeg, imp_self, Nat.reduceMul, Nat.le_refl, not_true_eq_false, not_false_eq_true, List.getElem?_nil, reduceCtorEq, true_or, or_true, Classical.not_not, implies_true, or_self, wI_0, wI_1, wI_m1, b2i_w, b2i_eq0, b2i_eq1, b2i_bool, nor_self, nx_pI, kd_pI, ln_pI, fI_pI, fL_pI, fR_pI, aI_pI, aL_pI, aR_pI, nx_pL, kd_pL, ln_pL, fI_pL, fL_pL, fR_pL, aI_pL, aL_pL, aR_pL, nx_pR, kd_pR, ln_pR, fI_pR, fL_pR, fR_pR, aI_pR, aL_pR, aR_pR, nx_qI, kd_qI, ln_qI, fI_qI, fL_qI, fR_qI, aI_qI, aL_qI, aR_qI, nx_qL, kd_qL, ln_qL, fI_qL, fL_qL, fR_qL, aI_qL, aL_qL, aR_qL, nx_qR, kd_qR, ln_qR, fI_qR, fL_qR, fR_qR, aI_qR, aL_qR, aR_qR, nx_mk, kd_mk, ln_mk, fI_mk, fL_mk, fR_mk, aI_mk, aL_mk, aR_mk, false_and, and_false, if_false, if_true, and_self, Int.reduceEq, Nat.reduceEqDiff, ite_self, MLay_pI, MLay_pL, MLay_qI, MLay_qL, ev_X6_coversWard_0, ev_X6_coversWard_1, ev_X6_coversWard_2, ev_X6_coversWard_3, ev_X6_coversWard_4, ev_X6_coversWard_7, ev_X6_coversWard_10, ev_X6_coversWard_11, ev_X6_coversWard_12, ev_X6_coversWard_15, ev_X6_coversWard_16, ev_X6_coversWard_19, ev_X6_coversWard_20, ev_X6_coversWard_21, ev_X6_coversWard_24, ev_X6_coversWard_27, ev_X6_coversWard_30, ev_X6_coversWard_31, ev_X6_coversWard_34, ev_X6_coversWard_35, ev_X6_coversWard_38, ev_X6_coversWard_41, ev_X6_coversWard_44, ev_X6_coversWard_45, ev_X6_coversWard_48, ev_X6_coversWard_49, ev_X6_coversWard_52, ev_X6_coversWard_53, ev_X6_coversWard_54, ev_X6_coversWard_55, ev_X6_coversWard_58, ev_X6_coversWard_59, ev_X6_coversWard_62, ev_X6_coversWard_63, ev_X6_coversWard_64, ev_X6_coversWard_67, ev_X6_coversWard_70, ev_X6_coversWard_71, xt_X6_coversWard, xf_X6_coversWard, us_Jx4a65c_size_8abf5, us_Jx4a65c_get_915e3, hC.eqs, hLe, hbk]
        try simp (disch := omega) only [wI_id, dv_nn, rm_nn]
        repeat' (first | intro z | apply And.intro)
        all_goals try omega
        all_goals try contradiction
        all_goals first | exact w | (exfalso; exact c ⟨by omega, by assumption⟩)
  have w := loop (fI σ 706 19).toNat 0 (Int.le_refl 0) (by omega) (fun j a b => by omega)
  refine go_X6_coversWard (ct := fun p => p == 2) 20 ?_
  simp only [oI, oL, oR, o1, lI, lL, lR, popN, catS, gv, stL, stL2, swt, cnd, spObj, List.getElem?_cons_zero, List.getElem?_cons_succ, List.getD_cons_zero, List.getD_cons_succ, List.set_cons_zero, List.set_cons_succ, List.nil_append, List.cons_append, Option.toList, Bool.or_false, Bool.false_or, Bool.or_true, Bool.true_or, Nat.reduceBEq, Nat.reduceAdd, Nat.reduceLT, Nat.reduceLeDiff, Int.reduceAdd, Int.reduceToNat, true_and, and_true, Fin.isValue, Fin.val_zero, Fin.val_one, Fin.val_two, Fin.reduceFinMk, eq_self, Int.reduceNeg, imp_self, Nat.reduceMul, Nat.le_refl, not_true_eq_false, not_false_eq_true, List.getElem?_nil, reduceCtorEq, true_or, or_true, Classical.not_not, implies_true, or_self, wI_0, wI_1, wI_m1, b2i_w, b2i_eq0, b2i_eq1, b2i_bool, nor_self, nx_pI, kd_pI, ln_pI, fI_pI, fL_pI, fR_pI, aI_pI, aL_pI, aR_pI, nx_pL, kd_pL, ln_pL, fI_pL, fL_pL, fR_pL, aI_pL, aL_pL, aR_pL, nx_pR, kd_pR, ln_pR, fI_pR, fL_pR, fR_pR, aI_pR, aL_pR, aR_pR, nx_qI, kd_qI, ln_qI, fI_qI, fL_qI, fR_qI, aI_qI, aL_qI, aR_qI, nx_qL, kd_qL, ln_qL, fI_qL, fL_qL, fR_qL, aI_qL, aL_qL, aR_qL, nx_qR, kd_qR, ln_qR, fI_qR, fL_qR, fR_qR, aI_qR, aL_qR, aR_qR, nx_mk, kd_mk, ln_mk, fI_mk, fL_mk, fR_mk, aI_mk, aL_mk, aR_mk, false_and, and_false, if_false, if_true, and_self, Int.reduceEq, Nat.reduceEqDiff, ite_self, MLay_pI, MLay_pL, MLay_qI, MLay_qL, ev_X6_coversWard_0, ev_X6_coversWard_1, xt_X6_coversWard, xf_X6_coversWard, us_Jx4a65c_size_8abf5, us_Jx4a65c_get_915e3]
  exact w

/-- the houses near a box, as bits, of the first k -/
def cNb (σ : Hp) (p : Int) : Nat → Int
  | 0 => 0
  | k + 1 => bOr (cNb σ p k) (if cWay σ k p ≤ fI σ 405 15 then shlI 1 k else 0)
theorem btb_cNb (σ : Hp) (p : Int) : ∀ k : Nat, k ≤ 12 → ∀ j : Nat, (btb (cNb σ p k) j = true ↔ (j < k ∧ cWay σ j p ≤ fI σ 405 15))
  | 0, _, j => by
    unfold cNb
    rw [btb_0]
    simp
  | k + 1, hk, j => by
    have ih := btb_cNb σ p k (by omega) j
    unfold cNb
    rw [btb_or, Bool.or_eq_true, ih]
    by_cases c : cWay σ k p ≤ fI σ 405 15
    · rw [if_pos c, btb_shl (by omega), decide_eq_true_eq]
      constructor
      · rintro (q | q)
        · exact ⟨by omega, q.2⟩
        · have : j = k := by omega
          subst this
          exact ⟨by omega, c⟩
      · rintro ⟨q1, q2⟩
        by_cases e : j = k
        · right; omega
        · left; exact ⟨by omega, q2⟩
    · rw [if_neg c, btb_0]
      constructor
      · rintro (q | q)
        · exact ⟨by omega, q.2⟩
        · cases q
      · rintro ⟨q1, q2⟩
        left
        refine ⟨?_, q2⟩
        by_cases e : j = k
        · subst e; exact absurd q2 c
        · omega

def sp_X6_housesNear : Sp := fun av σ Q => oR av fun this av => oR av fun p av => av = [] ∧ kd σ this = 7 ∧ (this = 19 ∧ CLay σ ∧ kd σ p = 3 ∧ (∀ h, (0 ≤ aI σ 16 h ∧ aI σ 16 h ≤ 99) ∧ (0 ≤ aI σ 17 h ∧ aI σ 17 h ≤ 99)) ∧ (0 ≤ fI σ 305 p ∧ fI σ 305 p ≤ 99) ∧ (0 ≤ fI σ 306 p ∧ fI σ 306 p ≤ 99) ∧ (0 ≤ fI σ 403 15 ∧ fI σ 403 15 ≤ 12) ∧ (0 ≤ fI σ 405 15 ∧ fI σ 405 15 ≤ 198) ∧ Q (some (vi (cNb σ p (fI σ 403 15).toNat))) σ)
theorem us_X6_housesNear (this : Int) (p : Int) (σ : Hp) (Q : Option AV → Hp → Prop) : sp_X6_housesNear [vr this, vr p] σ Q = (kd σ this = 7 ∧ (this = 19 ∧ CLay σ ∧ kd σ p = 3 ∧ (∀ h, (0 ≤ aI σ 16 h ∧ aI σ 16 h ≤ 99) ∧ (0 ≤ aI σ 17 h ∧ aI σ 17 h ≤ 99)) ∧ (0 ≤ fI σ 305 p ∧ fI σ 305 p ≤ 99) ∧ (0 ≤ fI σ 306 p ∧ fI σ 306 p ≤ 99) ∧ (0 ≤ fI σ 403 15 ∧ fI σ 403 15 ≤ 12) ∧ (0 ≤ fI σ 405 15 ∧ fI σ 405 15 ≤ 198) ∧ Q (some (vi (cNb σ p (fI σ 403 15).toNat))) σ)) := propext ⟨fun h => h.2, fun h => ⟨rfl, h⟩⟩
theorem el_X6_housesNear {av : List AV} {σ : Hp} {Q : Option AV → Hp → Prop} (h : sp_X6_housesNear av σ Q) : ∃ (this : Int) (p : Int), av = [vr this, vr p] ∧ (kd σ this = 7 ∧ (this = 19 ∧ CLay σ ∧ kd σ p = 3 ∧ (∀ h, (0 ≤ aI σ 16 h ∧ aI σ 16 h ≤ 99) ∧ (0 ≤ aI σ 17 h ∧ aI σ 17 h ≤ 99)) ∧ (0 ≤ fI σ 305 p ∧ fI σ 305 p ≤ 99) ∧ (0 ≤ fI σ 306 p ∧ fI σ 306 p ≤ 99) ∧ (0 ≤ fI σ 403 15 ∧ fI σ 403 15 ≤ 12) ∧ (0 ≤ fI σ 405 15 ∧ fI σ 405 15 ≤ 198) ∧ Q (some (vi (cNb σ p (fI σ 403 15).toNat))) σ)) := by
  obtain ⟨this, a0, rfl, h0⟩ := oR_s h
  obtain ⟨p, a1, rfl, h1⟩ := oR_s h0
  obtain ⟨rfl, hz⟩ := h1
  exact ⟨this, p, rfl, hz⟩
theorem rc_X6_housesNear : ∀ (av : List AV) (σ : Hp) (Q : Option AV → Hp → Prop), sp_X6_housesNear av σ Q → ∃ r tl, av = vr r :: tl ∧ kd σ r = 6 + 1 := fun av σ Q h => by
  obtain ⟨this, p, rfl, hz, -⟩ := el_X6_housesNear h
  exact ⟨this, _, rfl, hz⟩

def tb_X6_housesNear : Tab := [(0, .iconst 0, 1, (0, 0, 0, 0)), (1, .istore_n 2, 1, (0, 0, 0, 0)), (2, .iconst 0, 1, (0, 0, 0, 0)), (3, .istore_n 3, 1, (0, 0, 0, 0)), (4, .iload_n 3, 1, (0, 0, 0, 0)), (5, .aload_n 0, 1, (0, 0, 0, 0)), (6, .getfield 27, 3, (7, 704, 2, 0)), (9, .getfield 84, 3, (4, 403, 0, 0)), (12, .if_icmp .ge 38, 3, (0, 0, 0, 0)), (15, .iload_n 2, 1, (0, 0, 0, 0)), (16, .aload_n 0, 1, (0, 0, 0, 0)), (17, .getfield 27, 3, (7, 704, 2, 0)), (20, .iload_n 3, 1, (0, 0, 0, 0)), (21, .aload_n 1, 1, (0, 0, 0, 0)), (22, .invokevirtual 87, 3, (0, 0, 0, 0)), (25, .aload_n 0, 1, (0, 0, 0, 0)), (26, .getfield 27, 3, (7, 704, 2, 0)), (29, .getfield 91, 3, (4, 405, 0, 0)), (32, .if_icmp .gt 9, 3, (0, 0, 0, 0)), (35, .iconst 1, 1, (0, 0, 0, 0)), (36, .iload_n 3, 1, (0, 0, 0, 0)), (37, .ishl, 1, (0, 0, 0, 0)), (38, .goto 4, 3, (0, 0, 0, 0)), (41, .iconst 0, 1, (0, 0, 0, 0)), (42, .ior, 1, (0, 0, 0, 0)), (43, .istore_n 2, 1, (0, 0, 0, 0)), (44, .iinc 3 1, 3, (0, 0, 0, 0)), (47, .goto (-43), 3, (0, 0, 0, 0)), (50, .iload_n 2, 1, (0, 0, 0, 0)), (51, .ireturn, 1, (0, 0, 0, 0))]
set_option maxRecDepth 100000 in
theorem tk_X6_housesNear : TOK RX6 false cX6_housesNear tb_X6_housesNear := chkT_ok ft_X6 (by decide +kernel)
theorem rw_X6_696 : Row RX6 (.invokevirtual 87) 3 3 0 0 2 sp_X3_wayTo := row_V (n := 2) (ci := 3) c_X3_wayTo ⟨TBL_in 1311 (by decide +kernel) rfl, TBL_in 1240 (by decide +kernel) rfl, TBL_in 117 (by decide +kernel) rfl, by decide +kernel, by decide⟩ (by decide) rfl (TBL_in 1238 (by decide +kernel) rfl) (TBL_in 1239 (by decide +kernel) rfl) rc_X3_wayTo
def mt_X6_housesNear : List (Nat × Mt) := [(696, 3, 0, 0, 2, sp_X3_wayTo)]
theorem em_X6_housesNear : mt_X6_housesNear.lookup 696 = some (3, 0, 0, 2, sp_X3_wayTo) := rfl
theorem mk_X6_housesNear : MOK RX6 mt_X6_housesNear := by
  intro q hq
  simp only [mt_X6_housesNear, List.mem_cons, List.not_mem_nil, or_false] at hq
  rcases hq with rfl
  · exact rw_X6_696
noncomputable def xe_X6_housesNear (ct : Nat → Bool) (K : Kt) (R : Option AV → Hp → Prop) (n : Nat) : Kt := exS 4 3 0 0 1 tb_X6_housesNear mt_X6_housesNear ct K R n
noncomputable def xk_X6_housesNear (ct : Nat → Bool) (K : Kt) (R : Option AV → Hp → Prop) (n : Nat) : Kt := exkS 4 3 0 0 1 tb_X6_housesNear mt_X6_housesNear ct K R n
theorem xt_X6_housesNear {ct : Nat → Bool} {K : Kt} {R : Option AV → Hp → Prop} {n pc : Nat} {ls : List (Option AV)} {st : List AV} {σ : Hp} {k : Nat × Nat} (h : ct pc = true) : xk_X6_housesNear ct K R n pc ls st σ k = K pc ls st σ k := by unfold xk_X6_housesNear exkS; rw [h]
theorem xf_X6_housesNear {ct : Nat → Bool} {K : Kt} {R : Option AV → Hp → Prop} {n pc : Nat} {ls : List (Option AV)} {st : List AV} {σ : Hp} {k : Nat × Nat} (h : ct pc = false) : xk_X6_housesNear ct K R n pc ls st σ k = xe_X6_housesNear ct K R n pc ls st σ k := by unfold xk_X6_housesNear exkS xe_X6_housesNear; rw [h]
theorem ev_X6_housesNear_0 {ct : Nat → Bool} {K : Kt} {R : Option AV → Hp → Prop} {n : Nat} {ls : List (Option AV)} {st : List AV} {σ : Hp} {k : Nat × Nat} : xe_X6_housesNear ct K R (n + 1) 0 ls st σ k = (xk_X6_housesNear ct K R n 1 ls (vi (0) :: st) σ k) := exS_step.trans rfl
theorem ev_X6_housesNear_1 {ct : Nat → Bool} {K : Kt} {R : Option AV → Hp → Prop} {n : Nat} {ls : List (Option AV)} {st : List AV} {σ : Hp} {k : Nat × Nat} : xe_X6_housesNear ct K R (n + 1) 1 ls st σ k = (oI st fun x st => 2 < 4 ∧ xk_X6_housesNear ct K R n 2 (stL ls 2 (vi x)) st σ k) := exS_step.trans rfl
theorem ev_X6_housesNear_2 {ct : Nat → Bool} {K : Kt} {R : Option AV → Hp → Prop} {n : Nat} {ls : List (Option AV)} {st : List AV} {σ : Hp} {k : Nat × Nat} : xe_X6_housesNear ct K R (n + 1) 2 ls st σ k = (xk_X6_housesNear ct K R n 3 ls (vi (0) :: st) σ k) := exS_step.trans rfl
theorem ev_X6_housesNear_3 {ct : Nat → Bool} {K : Kt} {R : Option AV → Hp → Prop} {n : Nat} {ls : List (Option AV)} {st : List AV} {σ : Hp} {k : Nat × Nat} : xe_X6_housesNear ct K R (n + 1) 3 ls st σ k = (oI st fun x st => 3 < 4 ∧ xk_X6_housesNear ct K R n 4 (stL ls 3 (vi x)) st σ k) := exS_step.trans rfl
theorem ev_X6_housesNear_4 {ct : Nat → Bool} {K : Kt} {R : Option AV → Hp → Prop} {n : Nat} {ls : List (Option AV)} {st : List AV} {σ : Hp} {k : Nat × Nat} : xe_X6_housesNear ct K R (n + 1) 4 ls st σ k = (lI ls 3 fun x => xk_X6_housesNear ct K R n 5 ls (vi x :: st) σ k) := exS_step.trans rfl
theorem ev_X6_housesNear_5 {ct : Nat → Bool} {K : Kt} {R : Option AV → Hp → Prop} {n : Nat} {ls : List (Option AV)} {st : List AV} {σ : Hp} {k : Nat × Nat} : xe_X6_housesNear ct K R (n + 1) 5 ls st σ k = (lR ls 0 fun x => xk_X6_housesNear ct K R n 6 ls (vr x :: st) σ k) := exS_step.trans rfl
theorem ev_X6_housesNear_6 {ct : Nat → Bool} {K : Kt} {R : Option AV → Hp → Prop} {n : Nat} {ls : List (Option AV)} {st : List AV} {σ : Hp} {k : Nat × Nat} : xe_X6_housesNear ct K R (n + 1) 6 ls st σ k = (oR st fun x st => kd σ x = 7 ∧ xk_X6_housesNear ct K R n 9 ls (vr (fR σ 704 x) :: st) σ k) := exS_step.trans rfl
theorem ev_X6_housesNear_9 {ct : Nat → Bool} {K : Kt} {R : Option AV → Hp → Prop} {n : Nat} {ls : List (Option AV)} {st : List AV} {σ : Hp} {k : Nat × Nat} : xe_X6_housesNear ct K R (n + 1) 9 ls st σ k = (oR st fun x st => kd σ x = 4 ∧ xk_X6_housesNear ct K R n 12 ls (vi (fI σ 403 x) :: st) σ k) := exS_step.trans rfl
theorem ev_X6_housesNear_12 {ct : Nat → Bool} {K : Kt} {R : Option AV → Hp → Prop} {n : Nat} {ls : List (Option AV)} {st : List AV} {σ : Hp} {k : Nat × Nat} : xe_X6_housesNear ct K R (n + 1) 12 ls st σ k = (oI st fun y st => oI st fun x st => (wI y ≤ wI x → xk_X6_housesNear ct K R n 50 ls st σ k) ∧ (¬ (wI y ≤ wI x) → xk_X6_housesNear ct K R n 15 ls st σ k)) := exS_step.trans rfl
theorem ev_X6_housesNear_15 {ct : Nat → Bool} {K : Kt} {R : Option AV → Hp → Prop} {n : Nat} {ls : List (Option AV)} {st : List AV} {σ : Hp} {k : Nat × Nat} : xe_X6_housesNear ct K R (n + 1) 15 ls st σ k = (lI ls 2 fun x => xk_X6_housesNear ct K R n 16 ls (vi x :: st) σ k) := exS_step.trans rfl
theorem ev_X6_housesNear_16 {ct : Nat → Bool} {K : Kt} {R : Option AV → Hp → Prop} {n : Nat} {ls : List (Option AV)} {st : List AV} {σ : Hp} {k : Nat × Nat} : xe_X6_housesNear ct K R (n + 1) 16 ls st σ k = (lR ls 0 fun x => xk_X6_housesNear ct K R n 17 ls (vr x :: st) σ k) := exS_step.trans rfl
theorem ev_X6_housesNear_17 {ct : Nat → Bool} {K : Kt} {R : Option AV → Hp → Prop} {n : Nat} {ls : List (Option AV)} {st : List AV} {σ : Hp} {k : Nat × Nat} : xe_X6_housesNear ct K R (n + 1) 17 ls st σ k = (oR st fun x st => kd σ x = 7 ∧ xk_X6_housesNear ct K R n 20 ls (vr (fR σ 704 x) :: st) σ k) := exS_step.trans rfl
theorem ev_X6_housesNear_20 {ct : Nat → Bool} {K : Kt} {R : Option AV → Hp → Prop} {n : Nat} {ls : List (Option AV)} {st : List AV} {σ : Hp} {k : Nat × Nat} : xe_X6_housesNear ct K R (n + 1) 20 ls st σ k = (lI ls 3 fun x => xk_X6_housesNear ct K R n 21 ls (vi x :: st) σ k) := exS_step.trans rfl
theorem ev_X6_housesNear_21 {ct : Nat → Bool} {K : Kt} {R : Option AV → Hp → Prop} {n : Nat} {ls : List (Option AV)} {st : List AV} {σ : Hp} {k : Nat × Nat} : xe_X6_housesNear ct K R (n + 1) 21 ls st σ k = (lR ls 1 fun x => xk_X6_housesNear ct K R n 22 ls (vr x :: st) σ k) := exS_step.trans rfl
theorem ev_X6_housesNear_22 {ct : Nat → Bool} {K : Kt} {R : Option AV → Hp → Prop} {n : Nat} {ls : List (Option AV)} {st : List AV} {σ : Hp} {k : Nat × Nat} : xe_X6_housesNear ct K R (n + 1) 22 ls st σ k = (popN 3 st [] fun av rest => (catS rest ≤ 8 ∧ 2 < 3 ∧ k.1 + 0 ≤ 0 ∧ k.2 + 0 ≤ 0) ∧ (sp_X3_wayTo) av σ fun v σ' => xk_X6_housesNear ct K R n 25 ls (v.toList ++ rest) σ' (k.1 + 0, k.2 + 0)) := exS_step.trans rfl
theorem ev_X6_housesNear_25 {ct : Nat → Bool} {K : Kt} {R : Option AV → Hp → Prop} {n : Nat} {ls : List (Option AV)} {st : List AV} {σ : Hp} {k : Nat × Nat} : xe_X6_housesNear ct K R (n + 1) 25 ls st σ k = (lR ls 0 fun x => xk_X6_housesNear ct K R n 26 ls (vr x :: st) σ k) := exS_step.trans rfl
theorem ev_X6_housesNear_26 {ct : Nat → Bool} {K : Kt} {R : Option AV → Hp → Prop} {n : Nat} {ls : List (Option AV)} {st : List AV} {σ : Hp} {k : Nat × Nat} : xe_X6_housesNear ct K R (n + 1) 26 ls st σ k = (oR st fun x st => kd σ x = 7 ∧ xk_X6_housesNear ct K R n 29 ls (vr (fR σ 704 x) :: st) σ k) := exS_step.trans rfl
theorem ev_X6_housesNear_29 {ct : Nat → Bool} {K : Kt} {R : Option AV → Hp → Prop} {n : Nat} {ls : List (Option AV)} {st : List AV} {σ : Hp} {k : Nat × Nat} : xe_X6_housesNear ct K R (n + 1) 29 ls st σ k = (oR st fun x st => kd σ x = 4 ∧ xk_X6_housesNear ct K R n 32 ls (vi (fI σ 405 x) :: st) σ k) := exS_step.trans rfl
theorem ev_X6_housesNear_32 {ct : Nat → Bool} {K : Kt} {R : Option AV → Hp → Prop} {n : Nat} {ls : List (Option AV)} {st : List AV} {σ : Hp} {k : Nat × Nat} : xe_X6_housesNear ct K R (n + 1) 32 ls st σ k = (oI st fun y st => oI st fun x st => (wI y < wI x → xk_X6_housesNear ct K R n 41 ls st σ k) ∧ (¬ (wI y < wI x) → xk_X6_housesNear ct K R n 35 ls st σ k)) := exS_step.trans rfl
theorem ev_X6_housesNear_35 {ct : Nat → Bool} {K : Kt} {R : Option AV → Hp → Prop} {n : Nat} {ls : List (Option AV)} {st : List AV} {σ : Hp} {k : Nat × Nat} : xe_X6_housesNear ct K R (n + 1) 35 ls st σ k = (xk_X6_housesNear ct K R n 36 ls (vi (1) :: st) σ k) := exS_step.trans rfl
theorem ev_X6_housesNear_36 {ct : Nat → Bool} {K : Kt} {R : Option AV → Hp → Prop} {n : Nat} {ls : List (Option AV)} {st : List AV} {σ : Hp} {k : Nat × Nat} : xe_X6_housesNear ct K R (n + 1) 36 ls st σ k = (lI ls 3 fun x => xk_X6_housesNear ct K R n 37 ls (vi x :: st) σ k) := exS_step.trans rfl
theorem ev_X6_housesNear_37 {ct : Nat → Bool} {K : Kt} {R : Option AV → Hp → Prop} {n : Nat} {ls : List (Option AV)} {st : List AV} {σ : Hp} {k : Nat × Nat} : xe_X6_housesNear ct K R (n + 1) 37 ls st σ k = (oI st fun y st => oI st fun x st => xk_X6_housesNear ct K R n 38 ls (vi (shlI x y) :: st) σ k) := exS_step.trans rfl
theorem ev_X6_housesNear_38 {ct : Nat → Bool} {K : Kt} {R : Option AV → Hp → Prop} {n : Nat} {ls : List (Option AV)} {st : List AV} {σ : Hp} {k : Nat × Nat} : xe_X6_housesNear ct K R (n + 1) 38 ls st σ k = (xk_X6_housesNear ct K R n 42 ls st σ k) := exS_step.trans rfl
theorem ev_X6_housesNear_41 {ct : Nat → Bool} {K : Kt} {R : Option AV → Hp → Prop} {n : Nat} {ls : List (Option AV)} {st : List AV} {σ : Hp} {k : Nat × Nat} : xe_X6_housesNear ct K R (n + 1) 41 ls st σ k = (xk_X6_housesNear ct K R n 42 ls (vi (0) :: st) σ k) := exS_step.trans rfl
theorem ev_X6_housesNear_42 {ct : Nat → Bool} {K : Kt} {R : Option AV → Hp → Prop} {n : Nat} {ls : List (Option AV)} {st : List AV} {σ : Hp} {k : Nat × Nat} : xe_X6_housesNear ct K R (n + 1) 42 ls st σ k = (oI st fun y st => oI st fun x st => xk_X6_housesNear ct K R n 43 ls (vi (bOr x y) :: st) σ k) := exS_step.trans rfl
theorem ev_X6_housesNear_43 {ct : Nat → Bool} {K : Kt} {R : Option AV → Hp → Prop} {n : Nat} {ls : List (Option AV)} {st : List AV} {σ : Hp} {k : Nat × Nat} : xe_X6_housesNear ct K R (n + 1) 43 ls st σ k = (oI st fun x st => 2 < 4 ∧ xk_X6_housesNear ct K R n 44 (stL ls 2 (vi x)) st σ k) := exS_step.trans rfl
theorem ev_X6_housesNear_44 {ct : Nat → Bool} {K : Kt} {R : Option AV → Hp → Prop} {n : Nat} {ls : List (Option AV)} {st : List AV} {σ : Hp} {k : Nat × Nat} : xe_X6_housesNear ct K R (n + 1) 44 ls st σ k = (lI ls 3 fun x => 3 < 4 ∧ xk_X6_housesNear ct K R n 47 (stL ls 3 (vi (x + (1)))) st σ k) := exS_step.trans rfl
theorem ev_X6_housesNear_47 {ct : Nat → Bool} {K : Kt} {R : Option AV → Hp → Prop} {n : Nat} {ls : List (Option AV)} {st : List AV} {σ : Hp} {k : Nat × Nat} : xe_X6_housesNear ct K R (n + 1) 47 ls st σ k = (xk_X6_housesNear ct K R n 4 ls st σ k) := exS_step.trans rfl
theorem ev_X6_housesNear_50 {ct : Nat → Bool} {K : Kt} {R : Option AV → Hp → Prop} {n : Nat} {ls : List (Option AV)} {st : List AV} {σ : Hp} {k : Nat × Nat} : xe_X6_housesNear ct K R (n + 1) 50 ls st σ k = (lI ls 2 fun x => xk_X6_housesNear ct K R n 51 ls (vi x :: st) σ k) := exS_step.trans rfl
theorem ev_X6_housesNear_51 {ct : Nat → Bool} {K : Kt} {R : Option AV → Hp → Prop} {n : Nat} {ls : List (Option AV)} {st : List AV} {σ : Hp} {k : Nat × Nat} : xe_X6_housesNear ct K R (n + 1) 51 ls st σ k = (oI st fun x st => st = [] ∧ True ∧ R (some (vi x)) σ) := exS_step.trans rfl
def M_X6_housesNear : Md := (yX6_housesNear, cX6_housesNear, 4, (some FieldType.int), 3, 0, 0, 1, false, tb_X6_housesNear, mt_X6_housesNear)
theorem mm_X6_housesNear : MMOK M_X6_housesNear := ⟨by decide +kernel, tk_X6_housesNear, mk_X6_housesNear, rfl, fun h => by cases h⟩
theorem go_X6_housesNear {Q : Option AV → Hp → Prop} {ct : Nat → Bool} {pc : Nat} {ls : List (Option AV)} {st : List AV} {σ : Hp} {k : Nat × Nat} (n : Nat) (h : xe_X6_housesNear ct (Go M_X6_housesNear Q) Q n pc ls st σ k) : Go M_X6_housesNear Q pc ls st σ k := Go.exS mm_X6_housesNear h

set_option maxRecDepth 20000 in
theorem c_X6_housesNear : Ct yX6_housesNear cX6_housesNear 4 ((some FieldType.int)) 3 0 0 sp_X6_housesNear := by
  refine Ct.go (M := M_X6_housesNear) mm_X6_housesNear fun av σ Q h0 => ?_
  obtain ⟨this, p, rfl, hk, h⟩ := el_X6_housesNear h0
  clear h0
  refine ⟨Nat.le_of_ble_eq_true rfl, ?_⟩
  show Go M_X6_housesNear Q 0 [some (vr this), some (vr p), none, none] [] σ (0, 0)
  obtain ⟨rfl, hC, hp, ha, hx, hy, hh, hr, h⟩ := h
  have hwy : ∀ u, 0 ≤ cWay σ u p ∧ cWay σ u p ≤ 198 := fun u => by
    have h1 := ha u
    have h2 := ab_in (x := aI σ 16 u - fI σ 305 p) (a := 99) (by omega)
    have h3 := ab_in (x := aI σ 17 u - fI σ 306 p) (a := 99) (by omega)
    unfold cWay
    omega
  have loop : ∀ (m k : Nat), (k : Int) + m = fI σ 403 15 → Go M_X6_housesNear Q 4 [some (vr 19), some (vr p), some (vi (cNb σ p k)), some (vi k)] [] σ (0, 0) := by
    intro m
    induction m with
    | zero =>
      intro k hk2
      have e : (fI σ 403 15).toNat = k := by omega
      rw [e] at h
      clear hwy ha
      refine go_X6_housesNear (ct := fun p => p == 15) 40 ?_
      simp only [oI, oL, oR, o1, lI, lL, lR, popN, catS, gv, stL, stL2, swt, cnd, spObj, List.getElem?_cons_zero, List.getElem?_cons_succ, List.getD_cons_zero, List.getD_cons_succ, List.set_cons_zero, List.set_cons_succ, List.nil_append, List.cons_append, Option.toList, Bool.or_false, Bool.false_or, Bool.or_true, Bool.true_or, Nat.reduceBEq, Nat.reduceAdd, Nat.reduceLT, Nat.reduceLeDiff, Int.reduceAdd, Int.reduceToNat, true_and, and_true, Fin.isValue, Fin.val_zero, Fin.val_one, Fin.val_two, Fin.reduceFinMk, eq_self, Int.reduceNeg, imp_self, Nat.reduceMul, Nat.le_refl, not_true_eq_false, not_false_eq_true, List.getElem?_nil, reduceCtorEq, true_or, or_true, Classical.not_not, implies_true, or_self, wI_0, wI_1, wI_m1, b2i_w, b2i_eq0, b2i_eq1, b2i_bool, nor_self, nx_pI, kd_pI, ln_pI, fI_pI, fL_pI, fR_pI, aI_pI, aL_pI, aR_pI, nx_pL, kd_pL, ln_pL, fI_pL, fL_pL, fR_pL, aI_pL, aL_pL, aR_pL, nx_pR, kd_pR, ln_pR, fI_pR, fL_pR, fR_pR, aI_pR, aL_pR, aR_pR, nx_qI, kd_qI, ln_qI, fI_qI, fL_qI, fR_qI, aI_qI, aL_qI, aR_qI, nx_qL, kd_qL, ln_qL, fI_qL, fL_qL, fR_qL, aI_qL, aL_qL, aR_qL, nx_qR, kd_qR, ln_qR, fI_qR, fL_qR, fR_qR, aI_qR, aL_qR, aR_qR, nx_mk, kd_mk, ln_mk, fI_mk, fL_mk, fR_mk, aI_mk, aL_mk, aR_mk, false_and, and_false, if_false, if_true, and_self, Int.reduceEq, Nat.reduceEqDiff, ite_self, MLay_pI, MLay_pL, MLay_qI, MLay_qL, ev_X6_housesNear_0, ev_X6_housesNear_1, ev_X6_housesNear_2, ev_X6_housesNear_3, ev_X6_housesNear_4, ev_X6_housesNear_5, ev_X6_housesNear_6, ev_X6_housesNear_9, ev_X6_housesNear_12, ev_X6_housesNear_15, ev_X6_housesNear_16, ev_X6_housesNear_17, ev_X6_housesNear_20, ev_X6_housesNear_21, ev_X6_housesNear_22, ev_X6_housesNear_25, ev_X6_housesNear_26, ev_X6_housesNear_29, ev_X6_housesNear_32, ev_X6_housesNear_35, ev_X6_housesNear_36, ev_X6_housesNear_37, ev_X6_housesNear_38, ev_X6_housesNear_41, ev_X6_housesNear_42, ev_X6_housesNear_43, ev_X6_housesNear_44, ev_X6_housesNear_47, ev_X6_housesNear_50, ev_X6_housesNear_51, xt_X6_housesNear, xf_X6_housesNear, us_X3_wayTo, hC.eqs]
      try simp (disch := omega) only [wI_id, dv_nn, rm_nn]
      repeat' (first | intro z | apply And.intro)
      all_goals try omega
      all_goals try contradiction
      all_goals exact h
    | succ m ih =>
      intro k hk2
      have w := ih (k + 1) (by omega)
      have hw := hwy k
      simp only [cNb] at w
      by_cases c : cWay σ k p ≤ fI σ 405 15
      · rw [if_pos c] at w
        clear ih h hwy
        refine go_X6_housesNear (ct := fun p => p == 50 || p == 41 || p == 4) 60 ?_
        simp only [oI, oL, oR, o1, lI, lL, lR, popN, catS, gv, stL, stL2, swt, cnd, spObj, List.getElem?_cons_zero, List.getElem?_cons_succ, List.getD_cons_zero, List.getD_cons_succ, List.set_cons_zero, List.set_cons_succ, List.nil_append, List.cons_append, Option.toList, Bool.or_false, Bool.false_or, Bool.or_true, Bool.true_or, Nat.reduceBEq, Nat.reduceAdd, Nat.reduceLT, Nat.reduceLeDiff, Int.reduceAdd, Int.reduceToNat, true_and, and_true, Fin.isValue, Fin.val_zero, Fin.val_one, Fin.val_two, Fin.reduceFinMk, eq_self, Int.reduceNeg, imp_self, Nat.reduceMul, Nat.le_refl, not_true_eq_false, not_false_eq_true, List.getElem?_nil, reduceCtorEq, true_or, or_true, Classical.not_not, implies_true, or_self, wI_0, wI_1, wI_m1, b2i_w, b2i_eq0, b2i_eq1, b2i_bool, nor_self, nx_pI, kd_pI, ln_pI, fI_pI, fL_pI, fR_pI, aI_pI, aL_pI, aR_pI, nx_pL, kd_pL, ln_pL, fI_pL, fL_pL, fR_pL, aI_pL, aL_pL, aR_pL, nx_pR, kd_pR, ln_pR, fI_pR, fL_pR, fR_pR, aI_pR, aL_pR, aR_pR, nx_qI, kd_qI, ln_qI, fI_qI, fL_qI, fR_qI, aI_qI, aL_qI, aR_qI, nx_qL, kd_qL, ln_qL, fI_qL, fL_qL, fR_qL, aI_qL, aL_qL, aR_qL, nx_qR, kd_qR, ln_qR, fI_qR, fL_qR, fR_qR, aI_qR, aL_qR, aR_qR, nx_mk, kd_mk, ln_mk, fI_mk, fL_mk, fR_mk, aI_mk, aL_mk, aR_mk, false_and, and_false, if_false, if_true, and_self, Int.reduceEq, Nat.reduceEqDiff, ite_self, MLay_pI, MLay_pL, MLay_qI, MLay_qL, ev_X6_housesNear_0, ev_X6_housesNear_1, ev_X6_housesNear_2, ev_X6_housesNear_3, ev_X6_housesNear_4, ev_X6_housesNear_5, ev_X6_housesNear_6, ev_X6_housesNear_9, ev_X6_housesNear_12, ev_X6_housesNear_15, ev_X6_housesNear_16, ev_X6_housesNear_17, ev_X6_housesNear_20, ev_X6_housesNear_21, ev_X6_housesNear_22, ev_X6_housesNear_25, ev_X6_housesNear_26, ev_X6_housesNear_29, ev_X6_housesNear_32, ev_X6_housesNear_35, ev_X6_housesNear_36, ev_X6_housesNear_37, ev_X6_housesNear_38, ev_X6_housesNear_41, ev_X6_housesNear_42, ev_X6_housesNear_43, ev_X6_housesNear_44, ev_X6_housesNear_47, ev_X6_housesNear_50, ev_X6_housesNear_51, xt_X6_housesNear, xf_X6_housesNear, us_X3_wayTo, hC.eqs, hC, hp, ha, hx, hy]
        try simp (disch := omega) only [wI_id, dv_nn, rm_nn]
        repeat' (first | intro z | apply And.intro)
        all_goals try omega
        all_goals try contradiction
        all_goals exact w
      · rw [if_neg c] at w
        clear ih h hwy
        refine go_X6_housesNear (ct := fun p => p == 50 || p == 35 || p == 4) 60 ?_
        simp only [oI, oL, oR, o1, lI, lL, lR, popN, catS, gv, stL, stL2, swt, cnd, spObj, List.getElem?_cons_zero, List.getElem?_cons_succ, List.getD_cons_zero, List.getD_cons_succ, List.set_cons_zero, List.set_cons_succ, List.nil_append, List.cons_append, Option.toList, Bool.or_false, Bool.false_or, Bool.or_true, Bool.true_or, Nat.reduceBEq, Nat.reduceAdd, Nat.reduceLT, Nat.reduceLeDiff, Int.reduceAdd, Int.reduceToNat, true_and, and_true, Fin.isValue, Fin.val_zero, Fin.val_one, Fin.val_two, Fin.reduceFinMk, eq_self, Int.reduceNeg, imp_self, Nat.reduceMul, Nat.le_refl, not_true_eq_false, not_false_eq_true, List.getElem?_nil, reduceCtorEq, true_or, or_true, Classical.not_not, implies_true, or_self, wI_0, wI_1, wI_m1, b2i_w, b2i_eq0, b2i_eq1, b2i_bool, nor_self, nx_pI, kd_pI, ln_pI, fI_pI, fL_pI, fR_pI, aI_pI, aL_pI, aR_pI, nx_pL, kd_pL, ln_pL, fI_pL, fL_pL, fR_pL, aI_pL, aL_pL, aR_pL, nx_pR, kd_pR, ln_pR, fI_pR, fL_pR, fR_pR, aI_pR, aL_pR, aR_pR, nx_qI, kd_qI, ln_qI, fI_qI, fL_qI, fR_qI, aI_qI, aL_qI, aR_qI, nx_qL, kd_qL, ln_qL, fI_qL, fL_qL, fR_qL, aI_qL, aL_qL, aR_qL, nx_qR, kd_qR, ln_qR, fI_qR, fL_qR, fR_qR, aI_qR, aL_qR, aR_qR, nx_mk, kd_mk, ln_mk, fI_mk, fL_mk, fR_mk, aI_mk, aL_mk, aR_mk, false_and, and_false, if_false, if_true, and_self, Int.reduceEq, Nat.reduceEqDiff, ite_self, MLay_pI, MLay_pL, MLay_qI, MLay_qL, ev_X6_housesNear_0, ev_X6_housesNear_1, ev_X6_housesNear_2, ev_X6_housesNear_3, ev_X6_housesNear_4, ev_X6_housesNear_5, ev_X6_housesNear_6, ev_X6_housesNear_9, ev_X6_housesNear_12, ev_X6_housesNear_15, ev_X6_housesNear_16, ev_X6_housesNear_17, ev_X6_housesNear_20, ev_X6_housesNear_21, ev_X6_housesNear_22, ev_X6_housesNear_25, ev_X6_housesNear_26, ev_X6_housesNear_29, ev_X6_housesNear_32, ev_X6_housesNear_35, ev_X6_housesNear_36, ev_X6_housesNear_37, ev_X6_housesNear_38, ev_X6_housesNear_41, ev_X6_housesNear_42, ev_X6_housesNear_43, ev_X6_housesNear_44, ev_X6_housesNear_47, ev_X6_housesNear_50, ev_X6_housesNear_51, xt_X6_housesNear, xf_X6_housesNear, us_X3_wayTo, hC.eqs, hC, hp, ha, hx, hy]
        try simp (disch := omega) only [wI_id, dv_nn, rm_nn]
        repeat' (first | intro z | apply And.intro)
        all_goals try omega
        all_goals try contradiction
        all_goals exact w
  have w := loop (fI σ 403 15).toNat 0 (by omega)
  refine go_X6_housesNear (ct := fun p => p == 4) 20 ?_
  simp only [oI, oL, oR, o1, lI, lL, lR, popN, catS, gv, stL, stL2, swt, cnd, spObj, List.getElem?_cons_zero, List.getElem?_cons_succ, List.getD_cons_zero, List.getD_cons_succ, List.set_cons_zero, List.set_cons_succ, List.nil_append, List.cons_append, Option.toList, Bool.or_false, Bool.false_or, Bool.or_true, Bool.true_or, Nat.reduceBEq, Nat.reduceAdd, Nat.reduceLT, Nat.reduceLeDiff, Int.reduceAdd, Int.reduceToNat, true_and, and_true, Fin.isValue, Fin.val_zero, Fin.val_one, Fin.val_two, Fin.reduceFinMk, eq_self, Int.reduceNeg, imp_self, Nat.reduceMul, Nat.le_refl, not_true_eq_false, not_false_eq_true, List.getElem?_nil, reduceCtorEq, true_or, or_true, Classical.not_not, implies_true, or_self, wI_0, wI_1, wI_m1, b2i_w, b2i_eq0, b2i_eq1, b2i_bool, nor_self, nx_pI, kd_pI, ln_pI, fI_pI, fL_pI, fR_pI, aI_pI, aL_pI, aR_pI, nx_pL, kd_pL, ln_pL, fI_pL, fL_pL, fR_pL, aI_pL, aL_pL, aR_pL, nx_pR, kd_pR, ln_pR, fI_pR, fL_pR, fR_pR, aI_pR, aL_pR, aR_pR, nx_qI, kd_qI, ln_qI, fI_qI, fL_qI, fR_qI, aI_qI, aL_qI, aR_qI, nx_qL, kd_qL, ln_qL, fI_qL, fL_qL, fR_qL, aI_qL, aL_qL, aR_qL, nx_qR, kd_qR, ln_qR, fI_qR, fL_qR, fR_qR, aI_qR, aL_qR, aR_qR, nx_mk, kd_mk, ln_mk, fI_mk, fL_mk, fR_mk, aI_mk, aL_mk, aR_mk, false_and, and_false, if_false, if_true, and_self, Int.reduceEq, Nat.reduceEqDiff, ite_self, MLay_pI, MLay_pL, MLay_qI, MLay_qL, ev_X6_housesNear_0, ev_X6_housesNear_1, ev_X6_housesNear_2, ev_X6_housesNear_3, xt_X6_housesNear, xf_X6_housesNear, us_X3_wayTo]
  exact w
