/-! the class: a box -/

/-- what a box's numbers keep to -/
def BxR (σ : Hp) (p : Int) : Prop := kd σ p = 3 ∧ (0 ≤ fI σ 300 p ∧ fI σ 300 p ≤ 555) ∧ (0 ≤ fI σ 301 p ∧ fI σ 301 p ≤ 1) ∧ (0 ≤ fI σ 302 p ∧ fI σ 302 p ≤ 31) ∧ (0 ≤ fI σ 303 p ∧ fI σ 303 p ≤ 3) ∧ (0 ≤ fI σ 304 p ∧ fI σ 304 p ≤ 11) ∧ (0 ≤ fI σ 305 p ∧ fI σ 305 p ≤ 99) ∧ (0 ≤ fI σ 306 p ∧ fI σ 306 p ≤ 99) ∧ (0 ≤ fI σ 307 p ∧ fI σ 307 p ≤ 7) ∧ (0 ≤ fI σ 308 p ∧ fI σ 308 p ≤ 15) ∧ (0 ≤ fI σ 309 p ∧ fI σ 309 p ≤ 150) ∧ (0 ≤ fI σ 312 p ∧ fI σ 312 p ≤ 1) ∧ (-1 ≤ fI σ 313 p ∧ fI σ 313 p ≤ 1000000)
def cGo (σ : Hp) (p t : Int) : Prop := ¬ fI σ 313 p = -1 ∧ t < fI σ 313 p + fI σ 309 p
/-- a wheel's bit -/
def whl (σ : Hp) (p o : Int) : Bool := if o < 0 then false else if o < 64 then (fL σ 310 p).getLsbD o.toNat else (fL σ 311 p).getLsbD (o.toNat - 64)
theorem bAnd_63 {x : Int} (h : 0 ≤ x ∧ x < 512) : bAnd x 63 = x % 64 := by
  have : ∀ n : Fin 512, bAnd (n.val : Int) 63 = (n.val : Int) % 64 := by decide +kernel
  have h2 := this ⟨x.toNat, by omega⟩
  rw [show ((x.toNat : Nat) : Int) = x by omega] at h2
  exact h2
theorem bit1_0 (h : BitVec 64) (k : Nat) : (h >>> k &&& 1#64 = 0#64) = (h.getLsbD k = false) := by
  apply propext
  constructor
  · intro e
    have := congrArg (fun z => z.getLsbD 0) e
    simpa using this
  · intro e
    apply BitVec.eq_of_getLsbD_eq
    intro i hi
    rw [BitVec.getLsbD_and, BitVec.getLsbD_ushiftRight]
    by_cases c : i = 0
    · subst c; simp [e]
    · rw [BitVec.getLsbD_one]; simp [c]

def sp_X2_goesOn : Sp := fun av σ Q => oR av fun this av => oI av fun t av => av = [] ∧ kd σ this = 3 ∧ ((-1 ≤ fI σ 313 this ∧ fI σ 313 this ≤ 1000000) ∧ (0 ≤ fI σ 309 this ∧ fI σ 309 this ≤ 150) ∧ (0 ≤ t ∧ t ≤ 2000000) ∧ Q (some (vi (b2i (cGo σ this t)))) σ)
theorem us_X2_goesOn (this : Int) (t : Int) (σ : Hp) (Q : Option AV → Hp → Prop) : sp_X2_goesOn [vr this, vi t] σ Q = (kd σ this = 3 ∧ ((-1 ≤ fI σ 313 this ∧ fI σ 313 this ≤ 1000000) ∧ (0 ≤ fI σ 309 this ∧ fI σ 309 this ≤ 150) ∧ (0 ≤ t ∧ t ≤ 2000000) ∧ Q (some (vi (b2i (cGo σ this t)))) σ)) := propext ⟨fun h => h.2, fun h => ⟨rfl, h⟩⟩
theorem el_X2_goesOn {av : List AV} {σ : Hp} {Q : Option AV → Hp → Prop} (h : sp_X2_goesOn av σ Q) : ∃ (this : Int) (t : Int), av = [vr this, vi t] ∧ (kd σ this = 3 ∧ ((-1 ≤ fI σ 313 this ∧ fI σ 313 this ≤ 1000000) ∧ (0 ≤ fI σ 309 this ∧ fI σ 309 this ≤ 150) ∧ (0 ≤ t ∧ t ≤ 2000000) ∧ Q (some (vi (b2i (cGo σ this t)))) σ)) := by
  obtain ⟨this, a0, rfl, h0⟩ := oR_s h
  obtain ⟨t, a1, rfl, h1⟩ := oI_s h0
  obtain ⟨rfl, hz⟩ := h1
  exact ⟨this, t, rfl, hz⟩
theorem rc_X2_goesOn : ∀ (av : List AV) (σ : Hp) (Q : Option AV → Hp → Prop), sp_X2_goesOn av σ Q → ∃ r tl, av = vr r :: tl ∧ kd σ r = 2 + 1 := fun av σ Q h => by
  obtain ⟨this, t, rfl, hz, -⟩ := el_X2_goesOn h
  exact ⟨this, _, rfl, hz⟩

def tb_X2_goesOn : Tab := [(0, .aload_n 0, 1, (0, 0, 0, 0)), (1, .getfield 9, 3, (3, 313, 0, 0)), (4, .iconst (-1), 1, (0, 0, 0, 0)), (5, .if_icmp .eq 20, 3, (0, 0, 0, 0)), (8, .iload_n 1, 1, (0, 0, 0, 0)), (9, .aload_n 0, 1, (0, 0, 0, 0)), (10, .getfield 9, 3, (3, 313, 0, 0)), (13, .aload_n 0, 1, (0, 0, 0, 0)), (14, .getfield 49, 3, (3, 309, 0, 0)), (17, .iadd, 1, (0, 0, 0, 0)), (18, .if_icmp .ge 7, 3, (0, 0, 0, 0)), (21, .iconst 1, 1, (0, 0, 0, 0)), (22, .goto 4, 3, (0, 0, 0, 0)), (25, .iconst 0, 1, (0, 0, 0, 0)), (26, .ireturn, 1, (0, 0, 0, 0))]
set_option maxRecDepth 100000 in
theorem tk_X2_goesOn : TOK RX2 false cX2_goesOn tb_X2_goesOn := chkT_ok ft_X2 (by decide +kernel)
def mt_X2_goesOn : List (Nat × Mt) := []
theorem mk_X2_goesOn : MOK RX2 mt_X2_goesOn := fun q hq => by cases hq
noncomputable def xe_X2_goesOn (ct : Nat → Bool) (K : Kt) (R : Option AV → Hp → Prop) (n : Nat) : Kt := exS 2 1 0 0 2 tb_X2_goesOn mt_X2_goesOn ct K R n
noncomputable def xk_X2_goesOn (ct : Nat → Bool) (K : Kt) (R : Option AV → Hp → Prop) (n : Nat) : Kt := exkS 2 1 0 0 2 tb_X2_goesOn mt_X2_goesOn ct K R n
theorem xt_X2_goesOn {ct : Nat → Bool} {K : Kt} {R : Option AV → Hp → Prop} {n pc : Nat} {ls : List (Option AV)} {st : List AV} {σ : Hp} {k : Nat × Nat} (h : ct pc = true) : xk_X2_goesOn ct K R n pc ls st σ k = K pc ls st σ k := by unfold xk_X2_goesOn exkS; rw [h]
theorem xf_X2_goesOn {ct : Nat → Bool} {K : Kt} {R : Option AV → Hp → Prop} {n pc : Nat} {ls : List (Option AV)} {st : List AV} {σ : Hp} {k : Nat × Nat} (h : ct pc = false) : xk_X2_goesOn ct K R n pc ls st σ k = xe_X2_goesOn ct K R n pc ls st σ k := by unfold xk_X2_goesOn exkS xe_X2_goesOn; rw [h]
theorem ev_X2_goesOn_0 {ct : Nat → Bool} {K : Kt} {R : Option AV → Hp → Prop} {n : Nat} {ls : List (Option AV)} {st : List AV} {σ : Hp} {k : Nat × Nat} : xe_X2_goesOn ct K R (n + 1) 0 ls st σ k = (lR ls 0 fun x => xk_X2_goesOn ct K R n 1 ls (vr x :: st) σ k) := exS_step.trans rfl
theorem ev_X2_goesOn_1 {ct : Nat → Bool} {K : Kt} {R : Option AV → Hp → Prop} {n : Nat} {ls : List (Option AV)} {st : List AV} {σ : Hp} {k : Nat × Nat} : xe_X2_goesOn ct K R (n + 1) 1 ls st σ k = (oR st fun x st => kd σ x = 3 ∧ xk_X2_goesOn ct K R n 4 ls (vi (fI σ 313 x) :: st) σ k) := exS_step.trans rfl
theorem ev_X2_goesOn_4 {ct : Nat → Bool} {K : Kt} {R : Option AV → Hp → Prop} {n : Nat} {ls : List (Option AV)} {st : List AV} {σ : Hp} {k : Nat × Nat} : xe_X2_goesOn ct K R (n + 1) 4 ls st σ k = (xk_X2_goesOn ct K R n 5 ls (vi (-1) :: st) σ k) := exS_step.trans rfl
theorem ev_X2_goesOn_5 {ct : Nat → Bool} {K : Kt} {R : Option AV → Hp → Prop} {n : Nat} {ls : List (Option AV)} {st : List AV} {σ : Hp} {k : Nat × Nat} : xe_X2_goesOn ct K R (n + 1) 5 ls st σ k = (oI st fun y st => oI st fun x st => (wI x = wI y → xk_X2_goesOn ct K R n 25 ls st σ k) ∧ (¬ (wI x = wI y) → xk_X2_goesOn ct K R n 8 ls st σ k)) := exS_step.trans rfl
theorem ev_X2_goesOn_8 {ct : Nat → Bool} {K : Kt} {R : Option AV → Hp → Prop} {n : Nat} {ls : List (Option AV)} {st : List AV} {σ : Hp} {k : Nat × Nat} : xe_X2_goesOn ct K R (n + 1) 8 ls st σ k = (lI ls 1 fun x => xk_X2_goesOn ct K R n 9 ls (vi x :: st) σ k) := exS_step.trans rfl
theorem ev_X2_goesOn_9 {ct : Nat → Bool} {K : Kt} {R : Option AV → Hp → Prop} {n : Nat} {ls : List (Option AV)} {st : List AV} {σ : Hp} {k : Nat × Nat} : xe_X2_goesOn ct K R (n + 1) 9 ls st σ k = (lR ls 0 fun x => xk_X2_goesOn ct K R n 10 ls (vr x :: st) σ k) := exS_step.trans rfl
theorem ev_X2_goesOn_10 {ct : Nat → Bool} {K : Kt} {R : Option AV → Hp → Prop} {n : Nat} {ls : List (Option AV)} {st : List AV} {σ : Hp} {k : Nat × Nat} : xe_X2_goesOn ct K R (n + 1) 10 ls st σ k = (oR st fun x st => kd σ x = 3 ∧ xk_X2_goesOn ct K R n 13 ls (vi (fI σ 313 x) :: st) σ k) := exS_step.trans rfl
theorem ev_X2_goesOn_13 {ct : Nat → Bool} {K : Kt} {R : Option AV → Hp → Prop} {n : Nat} {ls : List (Option AV)} {st : List AV} {σ : Hp} {k : Nat × Nat} : xe_X2_goesOn ct K R (n + 1) 13 ls st σ k = (lR ls 0 fun x => xk_X2_goesOn ct K R n 14 ls (vr x :: st) σ k) := exS_step.trans rfl
theorem ev_X2_goesOn_14 {ct : Nat → Bool} {K : Kt} {R : Option AV → Hp → Prop} {n : Nat} {ls : List (Option AV)} {st : List AV} {σ : Hp} {k : Nat × Nat} : xe_X2_goesOn ct K R (n + 1) 14 ls st σ k = (oR st fun x st => kd σ x = 3 ∧ xk_X2_goesOn ct K R n 17 ls (vi (fI σ 309 x) :: st) σ k) := exS_step.trans rfl
theorem ev_X2_goesOn_17 {ct : Nat → Bool} {K : Kt} {R : Option AV → Hp → Prop} {n : Nat} {ls : List (Option AV)} {st : List AV} {σ : Hp} {k : Nat × Nat} : xe_X2_goesOn ct K R (n + 1) 17 ls st σ k = (oI st fun y st => oI st fun x st => xk_X2_goesOn ct K R n 18 ls (vi (x + y) :: st) σ k) := exS_step.trans rfl
theorem ev_X2_goesOn_18 {ct : Nat → Bool} {K : Kt} {R : Option AV → Hp → Prop} {n : Nat} {ls : List (Option AV)} {st : List AV} {σ : Hp} {k : Nat × Nat} : xe_X2_goesOn ct K R (n + 1) 18 ls st σ k = (oI st fun y st => oI st fun x st => (wI y ≤ wI x → xk_X2_goesOn ct K R n 25 ls st σ k) ∧ (¬ (wI y ≤ wI x) → xk_X2_goesOn ct K R n 21 ls st σ k)) := exS_step.trans rfl
theorem ev_X2_goesOn_21 {ct : Nat → Bool} {K : Kt} {R : Option AV → Hp → Prop} {n : Nat} {ls : List (Option AV)} {st : List AV} {σ : Hp} {k : Nat × Nat} : xe_X2_goesOn ct K R (n + 1) 21 ls st σ k = (xk_X2_goesOn ct K R n 22 ls (vi (1) :: st) σ k) := exS_step.trans rfl
theorem ev_X2_goesOn_22 {ct : Nat → Bool} {K : Kt} {R : Option AV → Hp → Prop} {n : Nat} {ls : List (Option AV)} {st : List AV} {σ : Hp} {k : Nat × Nat} : xe_X2_goesOn ct K R (n + 1) 22 ls st σ k = (xk_X2_goesOn ct K R n 26 ls st σ k) := exS_step.trans rfl
theorem ev_X2_goesOn_25 {ct : Nat → Bool} {K : Kt} {R : Option AV → Hp → Prop} {n : Nat} {ls : List (Option AV)} {st : List AV} {σ : Hp} {k : Nat × Nat} : xe_X2_goesOn ct K R (n + 1) 25 ls st σ k = (xk_X2_goesOn ct K R n 26 ls (vi (0) :: st) σ k) := exS_step.trans rfl
theorem ev_X2_goesOn_26 {ct : Nat → Bool} {K : Kt} {R : Option AV → Hp → Prop} {n : Nat} {ls : List (Option AV)} {st : List AV} {σ : Hp} {k : Nat × Nat} : xe_X2_goesOn ct K R (n + 1) 26 ls st σ k = (oI st fun x st => st = [] ∧ (x = 0 ∨ x = 1) ∧ R (some (vi x)) σ) := exS_step.trans rfl
def M_X2_goesOn : Md := (yX2_goesOn, cX2_goesOn, 2, (some FieldType.boolean), 1, 0, 0, 2, false, tb_X2_goesOn, mt_X2_goesOn)
theorem mm_X2_goesOn : MMOK M_X2_goesOn := ⟨by decide +kernel, tk_X2_goesOn, mk_X2_goesOn, rfl, fun h => by cases h⟩
theorem go_X2_goesOn {Q : Option AV → Hp → Prop} {ct : Nat → Bool} {pc : Nat} {ls : List (Option AV)} {st : List AV} {σ : Hp} {k : Nat × Nat} (n : Nat) (h : xe_X2_goesOn ct (Go M_X2_goesOn Q) Q n pc ls st σ k) : Go M_X2_goesOn Q pc ls st σ k := Go.exS mm_X2_goesOn h

set_option maxRecDepth 20000 in
theorem c_X2_goesOn : Ct yX2_goesOn cX2_goesOn 2 ((some FieldType.boolean)) 1 0 0 sp_X2_goesOn := by
  refine Ct.go (M := M_X2_goesOn) mm_X2_goesOn fun av σ Q h0 => ?_
  obtain ⟨this, t, rfl, hk, h⟩ := el_X2_goesOn h0
  clear h0
  refine ⟨Nat.le_of_ble_eq_true rfl, ?_⟩
  show Go M_X2_goesOn Q 0 [some (vr this), some (vi t)] [] σ (0, 0)
  obtain ⟨h1, h2, h3, h⟩ := h
  unfold cGo at h
  refine go_X2_goesOn (ct := fun p => false) 40 ?_
  simp only [oI, oL, oR, o1, lI, lL, lR, popN, catS, gv, stL, stL2, swt, cnd, spObj, List.getElem?_cons_zero, List.getElem?_cons_succ, List.getD_cons_zero, List.getD_cons_succ, List.set_cons_zero, List.set_cons_succ, List.nil_append, List.cons_append, Option.toList, Bool.or_false, Bool.false_or, Bool.or_true, Bool.true_or, Nat.reduceBEq, Nat.reduceAdd, Nat.reduceLT, Nat.reduceLeDiff, Int.reduceAdd, Int.reduceToNat, true_and, and_true, Fin.isValue, Fin.val_zero, Fin.val_one, Fin.val_two, Fin.reduceFinMk, eq_self, Int.reduceNeg, imp_self, Nat.reduceMul, Nat.le_refl, not_true_eq_false, not_false_eq_true, List.getElem?_nil, reduceCtorEq, true_or, or_true, Classical.not_not, implies_true, or_self, wI_0, wI_1, wI_m1, b2i_w, b2i_eq0, b2i_eq1, b2i_bool, nor_self, nx_pI, kd_pI, ln_pI, fI_pI, fL_pI, fR_pI, aI_pI, aL_pI, aR_pI, nx_pL, kd_pL, ln_pL, fI_pL, fL_pL, fR_pL, aI_pL, aL_pL, aR_pL, nx_pR, kd_pR, ln_pR, fI_pR, fL_pR, fR_pR, aI_pR, aL_pR, aR_pR, nx_qI, kd_qI, ln_qI, fI_qI, fL_qI, fR_qI, aI_qI, aL_qI, aR_qI, nx_qL, kd_qL, ln_qL, fI_qL, fL_qL, fR_qL, aI_qL, aL_qL, aR_qL, nx_qR, kd_qR, ln_qR, fI_qR, fL_qR, fR_qR, aI_qR, aL_qR, aR_qR, nx_mk, kd_mk, ln_mk, fI_mk, fL_mk, fR_mk, aI_mk, aL_mk, aR_mk, false_and, and_false, if_false, if_true, and_self, Int.reduceEq, Nat.reduceEqDiff, ite_self, MLay_pI, MLay_pL, MLay_qI, MLay_qL, ev_X2_goesOn_0, ev_X2_goesOn_1, ev_X2_goesOn_4, ev_X2_goesOn_5, ev_X2_goesOn_8, ev_X2_goesOn_9, ev_X2_goesOn_10, ev_X2_goesOn_13, ev_X2_goesOn_14, ev_X2_goesOn_17, ev_X2_goesOn_18, ev_X2_goesOn_21, ev_X2_goesOn_22, ev_X2_goesOn_25, ev_X2_goesOn_26, xt_X2_goesOn, xf_X2_goesOn, hk]
  try simp (disch := omega) only [wI_id, dv_nn, rm_nn]
  by_cases c1 : fI σ 313 this = -1
  · rw [b2i_f (by omega)] at h
    repeat' (first | intro z | apply And.intro)
    all_goals try omega
    all_goals try contradiction
    all_goals exact h
  · by_cases c2 : t < fI σ 313 this + fI σ 309 this
    · rw [b2i_t ⟨c1, c2⟩] at h
      repeat' (first | intro z | apply And.intro)
      all_goals try omega
      all_goals try contradiction
      all_goals exact h
    · rw [b2i_f (fun q => c2 q.2)] at h
      repeat' (first | intro z | apply And.intro)
      all_goals try omega
      all_goals try contradiction
      all_goals exact h

def sp_X2_stateAt : Sp := fun av σ Q => oR av fun this av => oI av fun t av => av = [] ∧ kd σ this = 3 ∧ ((-1 ≤ fI σ 313 this ∧ fI σ 313 this ≤ 1000000) ∧ (0 ≤ fI σ 309 this ∧ fI σ 309 this ≤ 150) ∧ (0 ≤ fI σ 312 this ∧ fI σ 312 this ≤ 1) ∧ (0 ≤ t ∧ t ≤ 2000000) ∧ Q (some (vi (if ¬ fI σ 312 this = 0 then 1 else 2 * b2i (cGo σ this t)))) σ)
theorem us_X2_stateAt (this : Int) (t : Int) (σ : Hp) (Q : Option AV → Hp → Prop) : sp_X2_stateAt [vr this, vi t] σ Q = (kd σ this = 3 ∧ ((-1 ≤ fI σ 313 this ∧ fI σ 313 this ≤ 1000000) ∧ (0 ≤ fI σ 309 this ∧ fI σ 309 this ≤ 150) ∧ (0 ≤ fI σ 312 this ∧ fI σ 312 this ≤ 1) ∧ (0 ≤ t ∧ t ≤ 2000000) ∧ Q (some (vi (if ¬ fI σ 312 this = 0 then 1 else 2 * b2i (cGo σ this t)))) σ)) := propext ⟨fun h => h.2, fun h => ⟨rfl, h⟩⟩
theorem el_X2_stateAt {av : List AV} {σ : Hp} {Q : Option AV → Hp → Prop} (h : sp_X2_stateAt av σ Q) : ∃ (this : Int) (t : Int), av = [vr this, vi t] ∧ (kd σ this = 3 ∧ ((-1 ≤ fI σ 313 this ∧ fI σ 313 this ≤ 1000000) ∧ (0 ≤ fI σ 309 this ∧ fI σ 309 this ≤ 150) ∧ (0 ≤ fI σ 312 this ∧ fI σ 312 this ≤ 1) ∧ (0 ≤ t ∧ t ≤ 2000000) ∧ Q (some (vi (if ¬ fI σ 312 this = 0 then 1 else 2 * b2i (cGo σ this t)))) σ)) := by
  obtain ⟨this, a0, rfl, h0⟩ := oR_s h
  obtain ⟨t, a1, rfl, h1⟩ := oI_s h0
  obtain ⟨rfl, hz⟩ := h1
  exact ⟨this, t, rfl, hz⟩
theorem rc_X2_stateAt : ∀ (av : List AV) (σ : Hp) (Q : Option AV → Hp → Prop), sp_X2_stateAt av σ Q → ∃ r tl, av = vr r :: tl ∧ kd σ r = 2 + 1 := fun av σ Q h => by
  obtain ⟨this, t, rfl, hz, -⟩ := el_X2_stateAt h
  exact ⟨this, _, rfl, hz⟩

def tb_X2_stateAt : Tab := [(0, .aload_n 0, 1, (0, 0, 0, 0)), (1, .getfield 59, 3, (3, 312, 0, 0)), (4, .ifCond .eq 7, 3, (0, 0, 0, 0)), (7, .iconst 1, 1, (0, 0, 0, 0)), (8, .goto 16, 3, (0, 0, 0, 0)), (11, .aload_n 0, 1, (0, 0, 0, 0)), (12, .iload_n 1, 1, (0, 0, 0, 0)), (13, .invokevirtual 63, 3, (0, 0, 0, 0)), (16, .ifCond .eq 7, 3, (0, 0, 0, 0)), (19, .iconst 2, 1, (0, 0, 0, 0)), (20, .goto 4, 3, (0, 0, 0, 0)), (23, .iconst 0, 1, (0, 0, 0, 0)), (24, .ireturn, 1, (0, 0, 0, 0))]
set_option maxRecDepth 100000 in
theorem tk_X2_stateAt : TOK RX2 false cX2_stateAt tb_X2_stateAt := chkT_ok ft_X2 (by decide +kernel)
theorem rw_X2_504 : Row RX2 (.invokevirtual 63) 3 2 0 0 1 sp_X2_goesOn := row_V (n := 1) (ci := 2) c_X2_goesOn ⟨TBL_in 1410 (by decide +kernel) rfl, TBL_in 508 (by decide +kernel) rfl, TBL_in 126 (by decide +kernel) rfl, by decide +kernel, by decide⟩ (by decide) rfl (TBL_in 506 (by decide +kernel) rfl) (TBL_in 507 (by decide +kernel) rfl) rc_X2_goesOn
def mt_X2_stateAt : List (Nat × Mt) := [(504, 2, 0, 0, 1, sp_X2_goesOn)]
theorem em_X2_stateAt : mt_X2_stateAt.lookup 504 = some (2, 0, 0, 1, sp_X2_goesOn) := rfl
theorem mk_X2_stateAt : MOK RX2 mt_X2_stateAt := by
  intro q hq
  simp only [mt_X2_stateAt, List.mem_cons, List.not_mem_nil, or_false] at hq
  rcases hq with rfl
  · exact rw_X2_504
noncomputable def xe_X2_stateAt (ct : Nat → Bool) (K : Kt) (R : Option AV → Hp → Prop) (n : Nat) : Kt := exS 2 2 0 0 1 tb_X2_stateAt mt_X2_stateAt ct K R n
noncomputable def xk_X2_stateAt (ct : Nat → Bool) (K : Kt) (R : Option AV → Hp → Prop) (n : Nat) : Kt := exkS 2 2 0 0 1 tb_X2_stateAt mt_X2_stateAt ct K R n
theorem xt_X2_stateAt {ct : Nat → Bool} {K : Kt} {R : Option AV → Hp → Prop} {n pc : Nat} {ls : List (Option AV)} {st : List AV} {σ : Hp} {k : Nat × Nat} (h : ct pc = true) : xk_X2_stateAt ct K R n pc ls st σ k = K pc ls st σ k := by unfold xk_X2_stateAt exkS; rw [h]
theorem xf_X2_stateAt {ct : Nat → Bool} {K : Kt} {R : Option AV → Hp → Prop} {n pc : Nat} {ls : List (Option AV)} {st : List AV} {σ : Hp} {k : Nat × Nat} (h : ct pc = false) : xk_X2_stateAt ct K R n pc ls st σ k = xe_X2_stateAt ct K R n pc ls st σ k := by unfold xk_X2_stateAt exkS xe_X2_stateAt; rw [h]
theorem ev_X2_stateAt_0 {ct : Nat → Bool} {K : Kt} {R : Option AV → Hp → Prop} {n : Nat} {ls : List (Option AV)} {st : List AV} {σ : Hp} {k : Nat × Nat} : xe_X2_stateAt ct K R (n + 1) 0 ls st σ k = (lR ls 0 fun x => xk_X2_stateAt ct K R n 1 ls (vr x :: st) σ k) := exS_step.trans rfl
theorem ev_X2_stateAt_1 {ct : Nat → Bool} {K : Kt} {R : Option AV → Hp → Prop} {n : Nat} {ls : List (Option AV)} {st : List AV} {σ : Hp} {k : Nat × Nat} : xe_X2_stateAt ct K R (n + 1) 1 ls st σ k = (oR st fun x st => kd σ x = 3 ∧ xk_X2_stateAt ct K R n 4 ls (vi (fI σ 312 x) :: st) σ k) := exS_step.trans rfl
theorem ev_X2_stateAt_4 {ct : Nat → Bool} {K : Kt} {R : Option AV → Hp → Prop} {n : Nat} {ls : List (Option AV)} {st : List AV} {σ : Hp} {k : Nat × Nat} : xe_X2_stateAt ct K R (n + 1) 4 ls st σ k = (oI st fun x st => (wI x = wI 0 → xk_X2_stateAt ct K R n 11 ls st σ k) ∧ (¬ (wI x = wI 0) → xk_X2_stateAt ct K R n 7 ls st σ k)) := exS_step.trans rfl
theorem ev_X2_stateAt_7 {ct : Nat → Bool} {K : Kt} {R : Option AV → Hp → Prop} {n : Nat} {ls : List (Option AV)} {st : List AV} {σ : Hp} {k : Nat × Nat} : xe_X2_stateAt ct K R (n + 1) 7 ls st σ k = (xk_X2_stateAt ct K R n 8 ls (vi (1) :: st) σ k) := exS_step.trans rfl
theorem ev_X2_stateAt_8 {ct : Nat → Bool} {K : Kt} {R : Option AV → Hp → Prop} {n : Nat} {ls : List (Option AV)} {st : List AV} {σ : Hp} {k : Nat × Nat} : xe_X2_stateAt ct K R (n + 1) 8 ls st σ k = (xk_X2_stateAt ct K R n 24 ls st σ k) := exS_step.trans rfl
theorem ev_X2_stateAt_11 {ct : Nat → Bool} {K : Kt} {R : Option AV → Hp → Prop} {n : Nat} {ls : List (Option AV)} {st : List AV} {σ : Hp} {k : Nat × Nat} : xe_X2_stateAt ct K R (n + 1) 11 ls st σ k = (lR ls 0 fun x => xk_X2_stateAt ct K R n 12 ls (vr x :: st) σ k) := exS_step.trans rfl
theorem ev_X2_stateAt_12 {ct : Nat → Bool} {K : Kt} {R : Option AV → Hp → Prop} {n : Nat} {ls : List (Option AV)} {st : List AV} {σ : Hp} {k : Nat × Nat} : xe_X2_stateAt ct K R (n + 1) 12 ls st σ k = (lI ls 1 fun x => xk_X2_stateAt ct K R n 13 ls (vi x :: st) σ k) := exS_step.trans rfl
theorem ev_X2_stateAt_13 {ct : Nat → Bool} {K : Kt} {R : Option AV → Hp → Prop} {n : Nat} {ls : List (Option AV)} {st : List AV} {σ : Hp} {k : Nat × Nat} : xe_X2_stateAt ct K R (n + 1) 13 ls st σ k = (popN 2 st [] fun av rest => (catS rest ≤ 8 ∧ 1 < 2 ∧ k.1 + 0 ≤ 0 ∧ k.2 + 0 ≤ 0) ∧ (sp_X2_goesOn) av σ fun v σ' => xk_X2_stateAt ct K R n 16 ls (v.toList ++ rest) σ' (k.1 + 0, k.2 + 0)) := exS_step.trans rfl
theorem ev_X2_stateAt_16 {ct : Nat → Bool} {K : Kt} {R : Option AV → Hp → Prop} {n : Nat} {ls : List (Option AV)} {st : List AV} {σ : Hp} {k : Nat × Nat} : xe_X2_stateAt ct K R (n + 1) 16 ls st σ k = (oI st fun x st => (wI x = wI 0 → xk_X2_stateAt ct K R n 23 ls st σ k) ∧ (¬ (wI x = wI 0) → xk_X2_stateAt ct K R n 19 ls st σ k)) := exS_step.trans rfl
theorem ev_X2_stateAt_19 {ct : Nat → Bool} {K : Kt} {R : Option AV → Hp → Prop} {n : Nat} {ls : List (Option AV)} {st : List AV} {σ : Hp} {k : Nat × Nat} : xe_X2_stateAt ct K R (n + 1) 19 ls st σ k = (xk_X2_stateAt ct K R n 20 ls (vi (2) :: st) σ k) := exS_step.trans rfl
theorem ev_X2_stateAt_20 {ct : Nat → Bool} {K : Kt} {R : Option AV → Hp → Prop} {n : Nat} {ls : List (Option AV)} {st : List AV} {σ : Hp} {k : Nat × Nat} : xe_X2_stateAt ct K R (n + 1) 20 ls st σ k = (xk_X2_stateAt ct K R n 24 ls st σ k) := exS_step.trans rfl
theorem ev_X2_stateAt_23 {ct : Nat → Bool} {K : Kt} {R : Option AV → Hp → Prop} {n : Nat} {ls : List (Option AV)} {st : List AV} {σ : Hp} {k : Nat × Nat} : xe_X2_stateAt ct K R (n + 1) 23 ls st σ k = (xk_X2_stateAt ct K R n 24 ls (vi (0) :: st) σ k) := exS_step.trans rfl
theorem ev_X2_stateAt_24 {ct : Nat → Bool} {K : Kt} {R : Option AV → Hp → Prop} {n : Nat} {ls : List (Option AV)} {st : List AV} {σ : Hp} {k : Nat × Nat} : xe_X2_stateAt ct K R (n + 1) 24 ls st σ k = (oI st fun x st => st = [] ∧ True ∧ R (some (vi x)) σ) := exS_step.trans rfl
def M_X2_stateAt : Md := (yX2_stateAt, cX2_stateAt, 2, (some FieldType.int), 2, 0, 0, 1, false, tb_X2_stateAt, mt_X2_stateAt)
theorem mm_X2_stateAt : MMOK M_X2_stateAt := ⟨by decide +kernel, tk_X2_stateAt, mk_X2_stateAt, rfl, fun h => by cases h⟩
theorem go_X2_stateAt {Q : Option AV → Hp → Prop} {ct : Nat → Bool} {pc : Nat} {ls : List (Option AV)} {st : List AV} {σ : Hp} {k : Nat × Nat} (n : Nat) (h : xe_X2_stateAt ct (Go M_X2_stateAt Q) Q n pc ls st σ k) : Go M_X2_stateAt Q pc ls st σ k := Go.exS mm_X2_stateAt h

set_option maxRecDepth 20000 in
theorem c_X2_stateAt : Ct yX2_stateAt cX2_stateAt 2 ((some FieldType.int)) 2 0 0 sp_X2_stateAt := by
  refine Ct.go (M := M_X2_stateAt) mm_X2_stateAt fun av σ Q h0 => ?_
  obtain ⟨this, t, rfl, hk, h⟩ := el_X2_stateAt h0
  clear h0
  refine ⟨Nat.le_of_ble_eq_true rfl, ?_⟩
  show Go M_X2_stateAt Q 0 [some (vr this), some (vi t)] [] σ (0, 0)
  obtain ⟨h1, h2, h4, h3, h⟩ := h
  by_cases c : fI σ 312 this = 0
  · rw [if_neg (by omega)] at h
    by_cases c2 : cGo σ this t
    · rw [b2i_t c2] at h
      refine go_X2_stateAt (ct := fun p => false) 40 ?_
      simp only [oI, oL, oR, o1, lI, lL, lR, popN, catS, gv, stL, stL2, swt, cnd, spObj, List.getElem?_cons_zero, List.getElem?_cons_succ, List.getD_cons_zero, List.getD_cons_succ, List.set_cons_zero, List.set_cons_succ, List.nil_append, List.cons_append, Option.toList, Bool.or_false, Bool.false_or, Bool.or_true, Bool.true_or, Nat.reduceBEq, Nat.reduceAdd, Nat.reduceLT, Nat.reduceLeDiff, Int.reduceAdd, Int.reduceToNat, true_and, and_true, Fin.isValue, Fin.val_zero, Fin.val_one, Fin.val_two, Fin.reduceFinMk, eq_self, Int.reduceNeg, imp_self, Nat.reduceMul, Nat.le_refl, not_true_eq_false, not_false_eq_true, List.getElem?_nil, reduceCtorEq, true_or, or_true, Classical.not_not, implies_true, or_self, wI_0, wI_1, wI_m1, b2i_w, b2i_eq0, b2i_eq1, b2i_bool, nor_self, nx_pI, kd_pI, ln_pI, fI_pI, fL_pI, fR_pI, aI_pI, aL_pI, aR_pI, nx_pL, kd_pL, ln_pL, fI_pL, fL_pL, fR_pL, aI_pL, aL_pL, aR_pL, nx_pR, kd_pR, ln_pR, fI_pR, fL_pR, fR_pR, aI_pR, aL_pR, aR_pR, nx_qI, kd_qI, ln_qI, fI_qI, fL_qI, fR_qI, aI_qI, aL_qI, aR_qI, nx_qL, kd_qL, ln_qL, fI_qL, fL_qL, fR_qL, aI_qL, aL_qL, aR_qL, nx_qR, kd_qR, ln_qR, fI_qR, fL_qR, fR_qR, aI_qR, aL_qR, aR_qR, nx_mk, kd_mk, ln_mk, fI_mk, fL_mk, fR_mk, aI_mk, aL_mk, aR_mk, false_and, and_false, if_false, if_true, and_self, Int.reduceEq, Nat.reduceEqDiff, ite_self, MLay_pI, MLay_pL, MLay_qI, MLay_qL, ev_X2_stateAt_0, ev_X2_stateAt_1, ev_X2_stateAt_4, ev_X2_stateAt_7, ev_X2_stateAt_8, ev_X2_stateAt_11, ev_X2_stateAt_12, ev_X2_stateAt_13, ev_X2_stateAt_16, ev_X2_stateAt_19, ev_X2_stateAt_20, ev_X2_stateAt_23, ev_X2_stateAt_24, xt_X2_stateAt, xf_X2_stateAt, us_X2_goesOn, hk, c, c2]
      try simp (disch := omega) only [wI_id, dv_nn, rm_nn]
      repeat' (first | intro z | apply And.intro)
      all_goals try omega
      all_goals try contradiction
      all_goals exact h
    · rw [b2i_f c2] at h
      refine go_X2_stateAt (ct := fun p => false) 40 ?_
      simp only [oI, oL, oR, o1, lI, lL, lR, popN, catS, gv, stL, stL2, swt, cnd, spObj, List.getElem?_cons_zero, List.getElem?_cons_succ, List.getD_cons_zero, List.getD_cons_succ, List.set_cons_zero, List.set_cons_succ, List.nil_append, List.cons_append, Option.toList, Bool.or_false, Bool.false_or, Bool.or_true, Bool.true_or, Nat.reduceBEq, Nat.reduceAdd, Nat.reduceLT, Nat.reduceLeDiff, Int.reduceAdd, Int.reduceToNat, true_and, and_true, Fin.isValue, Fin.val_zero, Fin.val_one, Fin.val_two, Fin.reduceFinMk, eq_self, Int.reduceNeg, imp_self, Nat.reduceMul, Nat.le_refl, not_true_eq_false, not_false_eq_true, List.getElem?_nil, reduceCtorEq, true_or, or_true, Classical.not_not, implies_true, or_self, wI_0, wI_1, wI_m1, b2i_w, b2i_eq0, b2i_eq1, b2i_bool, nor_self, nx_pI, kd_pI, ln_pI, fI_pI, fL_pI, fR_pI, aI_pI, aL_pI, aR_pI, nx_pL, kd_pL, ln_pL, fI_pL, fL_pL, fR_pL, aI_pL, aL_pL, aR_pL, nx_pR, kd_pR, ln_pR, fI_pR, fL_pR, fR_pR, aI_pR, aL_pR, aR_pR, nx_qI, kd_qI, ln_qI, fI_qI, fL_qI, fR_qI, aI_qI, aL_qI, aR_qI, nx_qL, kd_qL, ln_qL, fI_qL, fL_qL, fR_qL, aI_qL, aL_qL, aR_qL, nx_qR, kd_qR, ln_qR, fI_qR, fL_qR, fR_qR, aI_qR, aL_qR, aR_qR, nx_mk, kd_mk, ln_mk, fI_mk, fL_mk, fR_mk, aI_mk, aL_mk, aR_mk, false_and, and_false, if_false, if_true, and_self, Int.reduceEq, Nat.reduceEqDiff, ite_self, MLay_pI, MLay_pL, MLay_qI, MLay_qL, ev_X2_stateAt_0, ev_X2_stateAt_1, ev_X2_stateAt_4, ev_X2_stateAt_7, ev_X2_stateAt_8, ev_X2_stateAt_11, ev_X2_stateAt_12, ev_X2_stateAt_13, ev_X2_stateAt_16, ev_X2_stateAt_19, ev_X2_stateAt_20, ev_X2_stateAt_23, ev_X2_stateAt_24, xt_X2_stateAt, xf_X2_stateAt, us_X2_goesOn, hk, c, c2]
      try simp (disch := omega) only [wI_id, dv_nn, rm_nn]
      repeat' (first | intro z | apply And.intro)
      all_goals try omega
      all_goals try contradiction
      all_goals exact h
  · rw [if_pos c] at h
    refine go_X2_stateAt (ct := fun p => p == 11) 40 ?_
    simp only [oI, oL, oR, o1, lI, lL, lR, popN, catS, gv, stL, stL2, swt, cnd, spObj, List.getElem?_cons_zero, List.getElem?_cons_succ, List.getD_cons_zero, List.getD_cons_succ, List.set_cons_zero, List.set_cons_succ, List.nil_append, List.cons_append, Option.toList, Bool.or_false, Bool.false_or, Bool.or_true, Bool.true_or, Nat.reduceBEq, Nat.reduceAdd, Nat.reduceLT, Nat.reduceLeDiff, Int.reduceAdd, Int.reduceToNat, true_and, and_true, Fin.isValue, Fin.val_zero, Fin.val_one, Fin.val_two, Fin.reduceFinMk, eq_self, Int.reduceNeg, imp_self, Nat.reduceMul, Nat.le_refl, not_true_eq_false, not_false_eq_true, List.getElem?_nil, reduceCtorEq, true_or, or_true, Classical.not_not, implies_true, or_self, wI_0, wI_1, wI_m1, b2i_w, b2i_eq0, b2i_eq1, b2i_bool, nor_self, nx_pI, kd_pI, ln_pI, fI_pI, fL_pI, fR_pI, aI_pI, aL_pI, aR_pI, nx_pL, kd_pL, ln_pL, fI_pL, fL_pL, fR_pL, aI_pL, aL_pL, aR_pL, nx_pR, kd_pR, ln_pR, fI_pR, fL_pR, fR_pR, aI_pR, aL_pR, aR_pR, nx_qI, kd_qI, ln_qI, fI_qI, fL_qI, fR_qI, aI_qI, aL_qI, aR_qI, nx_qL, kd_qL, ln_qL, fI_qL, fL_qL, fR_qL, aI_qL, aL_qL, aR_qL, nx_qR, kd_qR, ln_qR, fI_qR, fL_qR, fR_qR, aI_qR, aL_qR, aR_qR, nx_mk, kd_mk, ln_mk, fI_mk, fL_mk, fR_mk, aI_mk, aL_mk, aR_mk, false_and, and_false, if_false, if_true, and_self, Int.reduceEq, Nat.reduceEqDiff, ite_self, MLay_pI, MLay_pL, MLay_qI, MLay_qL, ev_X2_stateAt_0, ev_X2_stateAt_1, ev_X2_stateAt_4, ev_X2_stateAt_7, ev_X2_stateAt_8, ev_X2_stateAt_11, ev_X2_stateAt_12, ev_X2_stateAt_13, ev_X2_stateAt_16, ev_X2_stateAt_19, ev_X2_stateAt_20, ev_X2_stateAt_23, ev_X2_stateAt_24, xt_X2_stateAt, xf_X2_stateAt, us_X2_goesOn, hk]
    try simp (disch := omega) only [wI_id, dv_nn, rm_nn]
    repeat' (first | intro z | apply And.intro)
    all_goals try omega
    all_goals try contradiction
    all_goals exact h

def sp_X2_hang : Sp := fun av σ Q => oR av fun this av => oI av fun i av => oI av fun l av => oI av fun a av => av = [] ∧ kd σ this = 3 ∧ (Q none (pI (pI (pI σ 302 this i) 303 this l) 304 this a))
theorem us_X2_hang (this : Int) (i : Int) (l : Int) (a : Int) (σ : Hp) (Q : Option AV → Hp → Prop) : sp_X2_hang [vr this, vi i, vi l, vi a] σ Q = (kd σ this = 3 ∧ (Q none (pI (pI (pI σ 302 this i) 303 this l) 304 this a))) := propext ⟨fun h => h.2, fun h => ⟨rfl, h⟩⟩
theorem el_X2_hang {av : List AV} {σ : Hp} {Q : Option AV → Hp → Prop} (h : sp_X2_hang av σ Q) : ∃ (this : Int) (i : Int) (l : Int) (a : Int), av = [vr this, vi i, vi l, vi a] ∧ (kd σ this = 3 ∧ (Q none (pI (pI (pI σ 302 this i) 303 this l) 304 this a))) := by
  obtain ⟨this, a0, rfl, h0⟩ := oR_s h
  obtain ⟨i, a1, rfl, h1⟩ := oI_s h0
  obtain ⟨l, a2, rfl, h2⟩ := oI_s h1
  obtain ⟨a, a3, rfl, h3⟩ := oI_s h2
  obtain ⟨rfl, hz⟩ := h3
  exact ⟨this, i, l, a, rfl, hz⟩
theorem rc_X2_hang : ∀ (av : List AV) (σ : Hp) (Q : Option AV → Hp → Prop), sp_X2_hang av σ Q → ∃ r tl, av = vr r :: tl ∧ kd σ r = 2 + 1 := fun av σ Q h => by
  obtain ⟨this, i, l, a, rfl, hz, -⟩ := el_X2_hang h
  exact ⟨this, _, rfl, hz⟩

def tb_X2_hang : Tab := [(0, .aload_n 0, 1, (0, 0, 0, 0)), (1, .iload_n 1, 1, (0, 0, 0, 0)), (2, .putfield 24, 3, (3, 302, 0, 0)), (5, .aload_n 0, 1, (0, 0, 0, 0)), (6, .iload_n 2, 1, (0, 0, 0, 0)), (7, .putfield 27, 3, (3, 303, 0, 0)), (10, .aload_n 0, 1, (0, 0, 0, 0)), (11, .iload_n 3, 1, (0, 0, 0, 0)), (12, .putfield 30, 3, (3, 304, 0, 0)), (15, .return_, 1, (0, 0, 0, 0))]
set_option maxRecDepth 100000 in
theorem tk_X2_hang : TOK RX2 false cX2_hang tb_X2_hang := chkT_ok ft_X2 (by decide +kernel)
def mt_X2_hang : List (Nat × Mt) := []
theorem mk_X2_hang : MOK RX2 mt_X2_hang := fun q hq => by cases hq
noncomputable def xe_X2_hang (ct : Nat → Bool) (K : Kt) (R : Option AV → Hp → Prop) (n : Nat) : Kt := exS 4 1 0 0 0 tb_X2_hang mt_X2_hang ct K R n
noncomputable def xk_X2_hang (ct : Nat → Bool) (K : Kt) (R : Option AV → Hp → Prop) (n : Nat) : Kt := exkS 4 1 0 0 0 tb_X2_hang mt_X2_hang ct K R n
theorem xt_X2_hang {ct : Nat → Bool} {K : Kt} {R : Option AV → Hp → Prop} {n pc : Nat} {ls : List (Option AV)} {st : List AV} {σ : Hp} {k : Nat × Nat} (h : ct pc = true) : xk_X2_hang ct K R n pc ls st σ k = K pc ls st σ k := by unfold xk_X2_hang exkS; rw [h]
theorem xf_X2_hang {ct : Nat → Bool} {K : Kt} {R : Option AV → Hp → Prop} {n pc : Nat} {ls : List (Option AV)} {st : List AV} {σ : Hp} {k : Nat × Nat} (h : ct pc = false) : xk_X2_hang ct K R n pc ls st σ k = xe_X2_hang ct K R n pc ls st σ k := by unfold xk_X2_hang exkS xe_X2_hang; rw [h]
theorem ev_X2_hang_0 {ct : Nat → Bool} {K : Kt} {R : Option AV → Hp → Prop} {n : Nat} {ls : List (Option AV)} {st : List AV} {σ : Hp} {k : Nat × Nat} : xe_X2_hang ct K R (n + 1) 0 ls st σ k = (lR ls 0 fun x => xk_X2_hang ct K R n 1 ls (vr x :: st) σ k) := exS_step.trans rfl
theorem ev_X2_hang_1 {ct : Nat → Bool} {K : Kt} {R : Option AV → Hp → Prop} {n : Nat} {ls : List (Option AV)} {st : List AV} {σ : Hp} {k : Nat × Nat} : xe_X2_hang ct K R (n + 1) 1 ls st σ k = (lI ls 1 fun x => xk_X2_hang ct K R n 2 ls (vi x :: st) σ k) := exS_step.trans rfl
theorem ev_X2_hang_2 {ct : Nat → Bool} {K : Kt} {R : Option AV → Hp → Prop} {n : Nat} {ls : List (Option AV)} {st : List AV} {σ : Hp} {k : Nat × Nat} : xe_X2_hang ct K R (n + 1) 2 ls st σ k = (oI st fun v st => oR st fun x st => kd σ x = 3 ∧ xk_X2_hang ct K R n 5 ls st (pI σ 302 x v) k) := exS_step.trans rfl
theorem ev_X2_hang_5 {ct : Nat → Bool} {K : Kt} {R : Option AV → Hp → Prop} {n : Nat} {ls : List (Option AV)} {st : List AV} {σ : Hp} {k : Nat × Nat} : xe_X2_hang ct K R (n + 1) 5 ls st σ k = (lR ls 0 fun x => xk_X2_hang ct K R n 6 ls (vr x :: st) σ k) := exS_step.trans rfl
theorem ev_X2_hang_6 {ct : Nat → Bool} {K : Kt} {R : Option AV → Hp → Prop} {n : Nat} {ls : List (Option AV)} {st : List AV} {σ : Hp} {k : Nat × Nat} : xe_X2_hang ct K R (n + 1) 6 ls st σ k = (lI ls 2 fun x => xk_X2_hang ct K R n 7 ls (vi x :: st) σ k) := exS_step.trans rfl
theorem ev_X2_hang_7 {ct : Nat → Bool} {K : Kt} {R : Option AV → Hp → Prop} {n : Nat} {ls : List (Option AV)} {st : List AV} {σ : Hp} {k : Nat × Nat} : xe_X2_hang ct K R (n + 1) 7 ls st σ k = (oI st fun v st => oR st fun x st => kd σ x = 3 ∧ xk_X2_hang ct K R n 10 ls st (pI σ 303 x v) k) := exS_step.trans rfl
theorem ev_X2_hang_10 {ct : Nat → Bool} {K : Kt} {R : Option AV → Hp → Prop} {n : Nat} {ls : List (Option AV)} {st : List AV} {σ : Hp} {k : Nat × Nat} : xe_X2_hang ct K R (n + 1) 10 ls st σ k = (lR ls 0 fun x => xk_X2_hang ct K R n 11 ls (vr x :: st) σ k) := exS_step.trans rfl
theorem ev_X2_hang_11 {ct : Nat → Bool} {K : Kt} {R : Option AV → Hp → Prop} {n : Nat} {ls : List (Option AV)} {st : List AV} {σ : Hp} {k : Nat × Nat} : xe_X2_hang ct K R (n + 1) 11 ls st σ k = (lI ls 3 fun x => xk_X2_hang ct K R n 12 ls (vi x :: st) σ k) := exS_step.trans rfl
theorem ev_X2_hang_12 {ct : Nat → Bool} {K : Kt} {R : Option AV → Hp → Prop} {n : Nat} {ls : List (Option AV)} {st : List AV} {σ : Hp} {k : Nat × Nat} : xe_X2_hang ct K R (n + 1) 12 ls st σ k = (oI st fun v st => oR st fun x st => kd σ x = 3 ∧ xk_X2_hang ct K R n 15 ls st (pI σ 304 x v) k) := exS_step.trans rfl
theorem ev_X2_hang_15 {ct : Nat → Bool} {K : Kt} {R : Option AV → Hp → Prop} {n : Nat} {ls : List (Option AV)} {st : List AV} {σ : Hp} {k : Nat × Nat} : xe_X2_hang ct K R (n + 1) 15 ls st σ k = (st = [] ∧ 0 = 0 ∧ R none σ) := exS_step.trans rfl
def M_X2_hang : Md := (yX2_hang, cX2_hang, 4, (none : Option FieldType), 1, 0, 0, 0, false, tb_X2_hang, mt_X2_hang)
theorem mm_X2_hang : MMOK M_X2_hang := ⟨by decide +kernel, tk_X2_hang, mk_X2_hang, rfl, fun h => by cases h⟩
theorem go_X2_hang {Q : Option AV → Hp → Prop} {ct : Nat → Bool} {pc : Nat} {ls : List (Option AV)} {st : List AV} {σ : Hp} {k : Nat × Nat} (n : Nat) (h : xe_X2_hang ct (Go M_X2_hang Q) Q n pc ls st σ k) : Go M_X2_hang Q pc ls st σ k := Go.exS mm_X2_hang h

set_option maxRecDepth 20000 in
theorem c_X2_hang : Ct yX2_hang cX2_hang 4 ((none : Option FieldType)) 1 0 0 sp_X2_hang := by
  refine Ct.go (M := M_X2_hang) mm_X2_hang fun av σ Q h0 => ?_
  obtain ⟨this, i, l, a, rfl, hk, h⟩ := el_X2_hang h0
  clear h0
  refine ⟨Nat.le_of_ble_eq_true rfl, ?_⟩
  show Go M_X2_hang Q 0 [some (vr this), some (vi i), some (vi l), some (vi a)] [] σ (0, 0)
  refine go_X2_hang (ct := fun p => false) 40 ?_
  simp only [oI, oL, oR, o1, lI, lL, lR, popN, catS, gv, stL, stL2, swt, cnd, spObj, List.getElem?_cons_zero, List.getElem?_cons_succ, List.getD_cons_zero, List.getD_cons_succ, List.set_cons_zero, List.set_cons_succ, List.nil_append, List.cons_append, Option.toList, Bool.or_false, Bool.false_or, Bool.or_true, Bool.true_or, Nat.reduceBEq, Nat.reduceAdd, Nat.reduceLT, Nat.reduceLeDiff, Int.reduceAdd, Int.reduceToNat, true_and, and_true, Fin.isValue, Fin.val_zero, Fin.val_one, Fin.val_two, Fin.reduceFinMk, eq_self, Int.reduceNeg, imp_self, Nat.reduceMul, Nat.le_refl, not_true_eq_false, not_false_eq_true, List.getElem?_nil, reduceCtorEq, true_or, or_true, Classical.not_not, implies_true, or_self, wI_0, wI_1, wI_m1, b2i_w, b2i_eq0, b2i_eq1, b2i_bool, nor_self, nx_pI, kd_pI, ln_pI, fI_pI, fL_pI, fR_pI, aI_pI, aL_pI, aR_pI, nx_pL, kd_pL, ln_pL, fI_pL, fL_pL, fR_pL, aI_pL, aL_pL, aR_pL, nx_pR, kd_pR, ln_pR, fI_pR, fL_pR, fR_pR, aI_pR, aL_pR, aR_pR, nx_qI, kd_qI, ln_qI, fI_qI, fL_qI, fR_qI, aI_qI, aL_qI, aR_qI, nx_qL, kd_qL, ln_qL, fI_qL, fL_qL, fR_qL, aI_qL, aL_qL, aR_qL, nx_qR, kd_qR, ln_qR, fI_qR, fL_qR, fR_qR, aI_qR, aL_qR, aR_qR, nx_mk, kd_mk, ln_mk, fI_mk, fL_mk, fR_mk, aI_mk, aL_mk, aR_mk, false_and, and_false, if_false, if_true, and_self, Int.reduceEq, Nat.reduceEqDiff, ite_self, MLay_pI, MLay_pL, MLay_qI, MLay_qL, ev_X2_hang_0, ev_X2_hang_1, ev_X2_hang_2, ev_X2_hang_5, ev_X2_hang_6, ev_X2_hang_7, ev_X2_hang_10, ev_X2_hang_11, ev_X2_hang_12, ev_X2_hang_15, xt_X2_hang, xf_X2_hang, hk]
  exact h

def sp_X2_stand : Sp := fun av σ Q => oR av fun this av => oI av fun x av => oI av fun y av => oI av fun w av => av = [] ∧ kd σ this = 3 ∧ (Q none (pI (pI (pI σ 305 this x) 306 this y) 307 this w))
theorem us_X2_stand (this : Int) (x : Int) (y : Int) (w : Int) (σ : Hp) (Q : Option AV → Hp → Prop) : sp_X2_stand [vr this, vi x, vi y, vi w] σ Q = (kd σ this = 3 ∧ (Q none (pI (pI (pI σ 305 this x) 306 this y) 307 this w))) := propext ⟨fun h => h.2, fun h => ⟨rfl, h⟩⟩
theorem el_X2_stand {av : List AV} {σ : Hp} {Q : Option AV → Hp → Prop} (h : sp_X2_stand av σ Q) : ∃ (this : Int) (x : Int) (y : Int) (w : Int), av = [vr this, vi x, vi y, vi w] ∧ (kd σ this = 3 ∧ (Q none (pI (pI (pI σ 305 this x) 306 this y) 307 this w))) := by
  obtain ⟨this, a0, rfl, h0⟩ := oR_s h
  obtain ⟨x, a1, rfl, h1⟩ := oI_s h0
  obtain ⟨y, a2, rfl, h2⟩ := oI_s h1
  obtain ⟨w, a3, rfl, h3⟩ := oI_s h2
  obtain ⟨rfl, hz⟩ := h3
  exact ⟨this, x, y, w, rfl, hz⟩
theorem rc_X2_stand : ∀ (av : List AV) (σ : Hp) (Q : Option AV → Hp → Prop), sp_X2_stand av σ Q → ∃ r tl, av = vr r :: tl ∧ kd σ r = 2 + 1 := fun av σ Q h => by
  obtain ⟨this, x, y, w, rfl, hz, -⟩ := el_X2_stand h
  exact ⟨this, _, rfl, hz⟩

def tb_X2_stand : Tab := [(0, .aload_n 0, 1, (0, 0, 0, 0)), (1, .iload_n 1, 1, (0, 0, 0, 0)), (2, .putfield 33, 3, (3, 305, 0, 0)), (5, .aload_n 0, 1, (0, 0, 0, 0)), (6, .iload_n 2, 1, (0, 0, 0, 0)), (7, .putfield 36, 3, (3, 306, 0, 0)), (10, .aload_n 0, 1, (0, 0, 0, 0)), (11, .iload_n 3, 1, (0, 0, 0, 0)), (12, .putfield 39, 3, (3, 307, 0, 0)), (15, .return_, 1, (0, 0, 0, 0))]
set_option maxRecDepth 100000 in
theorem tk_X2_stand : TOK RX2 false cX2_stand tb_X2_stand := chkT_ok ft_X2 (by decide +kernel)
def mt_X2_stand : List (Nat × Mt) := []
theorem mk_X2_stand : MOK RX2 mt_X2_stand := fun q hq => by cases hq
noncomputable def xe_X2_stand (ct : Nat → Bool) (K : Kt) (R : Option AV → Hp → Prop) (n : Nat) : Kt := exS 4 1 0 0 0 tb_X2_stand mt_X2_stand ct K R n
noncomputable def xk_X2_stand (ct : Nat → Bool) (K : Kt) (R : Option AV → Hp → Prop) (n : Nat) : Kt := exkS 4 1 0 0 0 tb_X2_stand mt_X2_stand ct K R n
theorem xt_X2_stand {ct : Nat → Bool} {K : Kt} {R : Option AV → Hp → Prop} {n pc : Nat} {ls : List (Option AV)} {st : List AV} {σ : Hp} {k : Nat × Nat} (h : ct pc = true) : xk_X2_stand ct K R n pc ls st σ k = K pc ls st σ k := by unfold xk_X2_stand exkS; rw [h]
theorem xf_X2_stand {ct : Nat → Bool} {K : Kt} {R : Option AV → Hp → Prop} {n pc : Nat} {ls : List (Option AV)} {st : List AV} {σ : Hp} {k : Nat × Nat} (h : ct pc = false) : xk_X2_stand ct K R n pc ls st σ k = xe_X2_stand ct K R n pc ls st σ k := by unfold xk_X2_stand exkS xe_X2_stand; rw [h]
theorem ev_X2_stand_0 {ct : Nat → Bool} {K : Kt} {R : Option AV → Hp → Prop} {n : Nat} {ls : List (Option AV)} {st : List AV} {σ : Hp} {k : Nat × Nat} : xe_X2_stand ct K R (n + 1) 0 ls st σ k = (lR ls 0 fun x => xk_X2_stand ct K R n 1 ls (vr x :: st) σ k) := exS_step.trans rfl
theorem ev_X2_stand_1 {ct : Nat → Bool} {K : Kt} {R : Option AV → Hp → Prop} {n : Nat} {ls : List (Option AV)} {st : List AV} {σ : Hp} {k : Nat × Nat} : xe_X2_stand ct K R (n + 1) 1 ls st σ k = (lI ls 1 fun x => xk_X2_stand ct K R n 2 ls (vi x :: st) σ k) := exS_step.trans rfl
theorem ev_X2_stand_2 {ct : Nat → Bool} {K : Kt} {R : Option AV → Hp → Prop} {n : Nat} {ls : List (Option AV)} {st : List AV} {σ : Hp} {k : Nat × Nat} : xe_X2_stand ct K R (n + 1) 2 ls st σ k = (oI st fun v st => oR st fun x st => kd σ x = 3 ∧ xk_X2_stand ct K R n 5 ls st (pI σ 305 x v) k) := exS_step.trans rfl
theorem ev_X2_stand_5 {ct : Nat → Bool} {K : Kt} {R : Option AV → Hp → Prop} {n : Nat} {ls : List (Option AV)} {st : List AV} {σ : Hp} {k : Nat × Nat} : xe_X2_stand ct K R (n + 1) 5 ls st σ k = (lR ls 0 fun x => xk_X2_stand ct K R n 6 ls (vr x :: st) σ k) := exS_step.trans rfl
theorem ev_X2_stand_6 {ct : Nat → Bool} {K : Kt} {R : Option AV → Hp → Prop} {n : Nat} {ls : List (Option AV)} {st : List AV} {σ : Hp} {k : Nat × Nat} : xe_X2_stand ct K R (n + 1) 6 ls st σ k = (lI ls 2 fun x => xk_X2_stand ct K R n 7 ls (vi x :: st) σ k) := exS_step.trans rfl
theorem ev_X2_stand_7 {ct : Nat → Bool} {K : Kt} {R : Option AV → Hp → Prop} {n : Nat} {ls : List (Option AV)} {st : List AV} {σ : Hp} {k : Nat × Nat} : xe_X2_stand ct K R (n + 1) 7 ls st σ k = (oI st fun v st => oR st fun x st => kd σ x = 3 ∧ xk_X2_stand ct K R n 10 ls st (pI σ 306 x v) k) := exS_step.trans rfl
theorem ev_X2_stand_10 {ct : Nat → Bool} {K : Kt} {R : Option AV → Hp → Prop} {n : Nat} {ls : List (Option AV)} {st : List AV} {σ : Hp} {k : Nat × Nat} : xe_X2_stand ct K R (n + 1) 10 ls st σ k = (lR ls 0 fun x => xk_X2_stand ct K R n 11 ls (vr x :: st) σ k) := exS_step.trans rfl
theorem ev_X2_stand_11 {ct : Nat → Bool} {K : Kt} {R : Option AV → Hp → Prop} {n : Nat} {ls : List (Option AV)} {st : List AV} {σ : Hp} {k : Nat × Nat} : xe_X2_stand ct K R (n + 1) 11 ls st σ k = (lI ls 3 fun x => xk_X2_stand ct K R n 12 ls (vi x :: st) σ k) := exS_step.trans rfl
theorem ev_X2_stand_12 {ct : Nat → Bool} {K : Kt} {R : Option AV → Hp → Prop} {n : Nat} {ls : List (Option AV)} {st : List AV} {σ : Hp} {k : Nat × Nat} : xe_X2_stand ct K R (n + 1) 12 ls st σ k = (oI st fun v st => oR st fun x st => kd σ x = 3 ∧ xk_X2_stand ct K R n 15 ls st (pI σ 307 x v) k) := exS_step.trans rfl
theorem ev_X2_stand_15 {ct : Nat → Bool} {K : Kt} {R : Option AV → Hp → Prop} {n : Nat} {ls : List (Option AV)} {st : List AV} {σ : Hp} {k : Nat × Nat} : xe_X2_stand ct K R (n + 1) 15 ls st σ k = (st = [] ∧ 0 = 0 ∧ R none σ) := exS_step.trans rfl
def M_X2_stand : Md := (yX2_stand, cX2_stand, 4, (none : Option FieldType), 1, 0, 0, 0, false, tb_X2_stand, mt_X2_stand)
theorem mm_X2_stand : MMOK M_X2_stand := ⟨by decide +kernel, tk_X2_stand, mk_X2_stand, rfl, fun h => by cases h⟩
theorem go_X2_stand {Q : Option AV → Hp → Prop} {ct : Nat → Bool} {pc : Nat} {ls : List (Option AV)} {st : List AV} {σ : Hp} {k : Nat × Nat} (n : Nat) (h : xe_X2_stand ct (Go M_X2_stand Q) Q n pc ls st σ k) : Go M_X2_stand Q pc ls st σ k := Go.exS mm_X2_stand h

set_option maxRecDepth 20000 in
theorem c_X2_stand : Ct yX2_stand cX2_stand 4 ((none : Option FieldType)) 1 0 0 sp_X2_stand := by
  refine Ct.go (M := M_X2_stand) mm_X2_stand fun av σ Q h0 => ?_
  obtain ⟨this, x, y, w, rfl, hk, h⟩ := el_X2_stand h0
  clear h0
  refine ⟨Nat.le_of_ble_eq_true rfl, ?_⟩
  show Go M_X2_stand Q 0 [some (vr this), some (vi x), some (vi y), some (vi w)] [] σ (0, 0)
  refine go_X2_stand (ct := fun p => false) 40 ?_
  simp only [oI, oL, oR, o1, lI, lL, lR, popN, catS, gv, stL, stL2, swt, cnd, spObj, List.getElem?_cons_zero, List.getElem?_cons_succ, List.getD_cons_zero, List.getD_cons_succ, List.set_cons_zero, List.set_cons_succ, List.nil_append, List.cons_append, Option.toList, Bool.or_false, Bool.false_or, Bool.or_true, Bool.true_or, Nat.reduceBEq, Nat.reduceAdd, Nat.reduceLT, Nat.reduceLeDiff, Int.reduceAdd, Int.reduceToNat, true_and, and_true, Fin.isValue, Fin.val_zero, Fin.val_one, Fin.val_two, Fin.reduceFinMk, eq_self, Int.reduceNeg, imp_self, Nat.reduceMul, Nat.le_refl, not_true_eq_false, not_false_eq_true, List.getElem?_nil, reduceCtorEq, true_or, or_true, Classical.not_not, implies_true, or_self, wI_0, wI_1, wI_m1, b2i_w, b2i_eq0, b2i_eq1, b2i_bool, nor_self, nx_pI, kd_pI, ln_pI, fI_pI, fL_pI, fR_pI, aI_pI, aL_pI, aR_pI, nx_pL, kd_pL, ln_pL, fI_pL, fL_pL, fR_pL, aI_pL, aL_pL, aR_pL, nx_pR, kd_pR, ln_pR, fI_pR, fL_pR, fR_pR, aI_pR, aL_pR, aR_pR, nx_qI, kd_qI, ln_qI, fI_qI, fL_qI, fR_qI, aI_qI, aL_qI, aR_qI, nx_qL, kd_qL, ln_qL, fI_qL, fL_qL, fR_qL, aI_qL, aL_qL, aR_qL, nx_qR, kd_qR, ln_qR, fI_qR, fL_qR, fR_qR, aI_qR, aL_qR, aR_qR, nx_mk, kd_mk, ln_mk, fI_mk, fL_mk, fR_mk, aI_mk, aL_mk, aR_mk, false_and, and_false, if_false, if_true, and_self, Int.reduceEq, Nat.reduceEqDiff, ite_self, MLay_pI, MLay_pL, MLay_qI, MLay_qL, ev_X2_stand_0, ev_X2_stand_1, ev_X2_stand_2, ev_X2_stand_5, ev_X2_stand_6, ev_X2_stand_7, ev_X2_stand_10, ev_X2_stand_11, ev_X2_stand_12, ev_X2_stand_15, xt_X2_stand, xf_X2_stand, hk]
  exact h

def sp_X2_knocksBehind : Sp := fun av σ Q => oR av fun this av => oI av fun o av => av = [] ∧ kd σ this = 3 ∧ ((-4000000 ≤ o ∧ o ≤ 4000000) ∧ Q (some (vi (b2i (whl σ this o = true)))) σ)
theorem us_X2_knocksBehind (this : Int) (o : Int) (σ : Hp) (Q : Option AV → Hp → Prop) : sp_X2_knocksBehind [vr this, vi o] σ Q = (kd σ this = 3 ∧ ((-4000000 ≤ o ∧ o ≤ 4000000) ∧ Q (some (vi (b2i (whl σ this o = true)))) σ)) := propext ⟨fun h => h.2, fun h => ⟨rfl, h⟩⟩
theorem el_X2_knocksBehind {av : List AV} {σ : Hp} {Q : Option AV → Hp → Prop} (h : sp_X2_knocksBehind av σ Q) : ∃ (this : Int) (o : Int), av = [vr this, vi o] ∧ (kd σ this = 3 ∧ ((-4000000 ≤ o ∧ o ≤ 4000000) ∧ Q (some (vi (b2i (whl σ this o = true)))) σ)) := by
  obtain ⟨this, a0, rfl, h0⟩ := oR_s h
  obtain ⟨o, a1, rfl, h1⟩ := oI_s h0
  obtain ⟨rfl, hz⟩ := h1
  exact ⟨this, o, rfl, hz⟩
theorem rc_X2_knocksBehind : ∀ (av : List AV) (σ : Hp) (Q : Option AV → Hp → Prop), sp_X2_knocksBehind av σ Q → ∃ r tl, av = vr r :: tl ∧ kd σ r = 2 + 1 := fun av σ Q h => by
  obtain ⟨this, o, rfl, hz, -⟩ := el_X2_knocksBehind h
  exact ⟨this, _, rfl, hz⟩

def tb_X2_knocksBehind : Tab := [(0, .iload_n 1, 1, (0, 0, 0, 0)), (1, .ifCond .lt 10, 3, (0, 0, 0, 0)), (4, .iload_n 1, 1, (0, 0, 0, 0)), (5, .sipush 128, 3, (0, 0, 0, 0)), (8, .if_icmp .lt 5, 3, (0, 0, 0, 0)), (11, .iconst 0, 1, (0, 0, 0, 0)), (12, .ireturn, 1, (0, 0, 0, 0)), (13, .iload_n 1, 1, (0, 0, 0, 0)), (14, .bipush 64, 2, (0, 0, 0, 0)), (16, .if_icmp .ge 10, 3, (0, 0, 0, 0)), (19, .aload_n 0, 1, (0, 0, 0, 0)), (20, .getfield 52, 3, (3, 310, 1, 0)), (23, .goto 7, 3, (0, 0, 0, 0)), (26, .aload_n 0, 1, (0, 0, 0, 0)), (27, .getfield 56, 3, (3, 311, 1, 0)), (30, .lstore_n 2, 1, (0, 0, 0, 0)), (31, .lload_n 2, 1, (0, 0, 0, 0)), (32, .iload_n 1, 1, (0, 0, 0, 0)), (33, .bipush 63, 2, (0, 0, 0, 0)), (35, .iand, 1, (0, 0, 0, 0)), (36, .lushr, 1, (0, 0, 0, 0)), (37, .lconst 1, 1, (0, 0, 0, 0)), (38, .land, 1, (0, 0, 0, 0)), (39, .lconst 0, 1, (0, 0, 0, 0)), (40, .lcmp, 1, (0, 0, 0, 0)), (41, .ifCond .eq 7, 3, (0, 0, 0, 0)), (44, .iconst 1, 1, (0, 0, 0, 0)), (45, .goto 4, 3, (0, 0, 0, 0)), (48, .iconst 0, 1, (0, 0, 0, 0)), (49, .ireturn, 1, (0, 0, 0, 0))]
set_option maxRecDepth 100000 in
theorem tk_X2_knocksBehind : TOK RX2 false cX2_knocksBehind tb_X2_knocksBehind := chkT_ok ft_X2 (by decide +kernel)
def mt_X2_knocksBehind : List (Nat × Mt) := []
theorem mk_X2_knocksBehind : MOK RX2 mt_X2_knocksBehind := fun q hq => by cases hq
noncomputable def xe_X2_knocksBehind (ct : Nat → Bool) (K : Kt) (R : Option AV → Hp → Prop) (n : Nat) : Kt := exS 4 1 0 0 2 tb_X2_knocksBehind mt_X2_knocksBehind ct K R n
noncomputable def xk_X2_knocksBehind (ct : Nat → Bool) (K : Kt) (R : Option AV → Hp → Prop) (n : Nat) : Kt := exkS 4 1 0 0 2 tb_X2_knocksBehind mt_X2_knocksBehind ct K R n
theorem xt_X2_knocksBehind {ct : Nat → Bool} {K : Kt} {R : Option AV → Hp → Prop} {n pc : Nat} {ls : List (Option AV)} {st : List AV} {σ : Hp} {k : Nat × Nat} (h : ct pc = true) : xk_X2_knocksBehind ct K R n pc ls st σ k = K pc ls st σ k := by unfold xk_X2_knocksBehind exkS; rw [h]
theorem xf_X2_knocksBehind {ct : Nat → Bool} {K : Kt} {R : Option AV → Hp → Prop} {n pc : Nat} {ls : List (Option AV)} {st : List AV} {σ : Hp} {k : Nat × Nat} (h : ct pc = false) : xk_X2_knocksBehind ct K R n pc ls st σ k = xe_X2_knocksBehind ct K R n pc ls st σ k := by unfold xk_X2_knocksBehind exkS xe_X2_knocksBehind; rw [h]
theorem ev_X2_knocksBehind_0 {ct : Nat → Bool} {K : Kt} {R : Option AV → Hp → Prop} {n : Nat} {ls : List (Option AV)} {st : List AV} {σ : Hp} {k : Nat × Nat} : xe_X2_knocksBehind ct K R (n + 1) 0 ls st σ k = (lI ls 1 fun x => xk_X2_knocksBehind ct K R n 1 ls (vi x :: st) σ k) := exS_step.trans rfl
theorem ev_X2_knocksBehind_1 {ct : Nat → Bool} {K : Kt} {R : Option AV → Hp → Prop} {n : Nat} {ls : List (Option AV)} {st : List AV} {σ : Hp} {k : Nat × Nat} : xe_X2_knocksBehind ct K R (n + 1) 1 ls st σ k = (oI st fun x st => (wI x < wI 0 → xk_X2_knocksBehind ct K R n 11 ls st σ k) ∧ (¬ (wI x < wI 0) → xk_X2_knocksBehind ct K R n 4 ls st σ k)) := exS_step.trans rfl
theorem ev_X2_knocksBehind_4 {ct : Nat → Bool} {K : Kt} {R : Option AV → Hp → Prop} {n : Nat} {ls : List (Option AV)} {st : List AV} {σ : Hp} {k : Nat × Nat} : xe_X2_knocksBehind ct K R (n + 1) 4 ls st σ k = (lI ls 1 fun x => xk_X2_knocksBehind ct K R n 5 ls (vi x :: st) σ k) := exS_step.trans rfl
theorem ev_X2_knocksBehind_5 {ct : Nat → Bool} {K : Kt} {R : Option AV → Hp → Prop} {n : Nat} {ls : List (Option AV)} {st : List AV} {σ : Hp} {k : Nat × Nat} : xe_X2_knocksBehind ct K R (n + 1) 5 ls st σ k = (xk_X2_knocksBehind ct K R n 8 ls (vi (128) :: st) σ k) := exS_step.trans rfl
theorem ev_X2_knocksBehind_8 {ct : Nat → Bool} {K : Kt} {R : Option AV → Hp → Prop} {n : Nat} {ls : List (Option AV)} {st : List AV} {σ : Hp} {k : Nat × Nat} : xe_X2_knocksBehind ct K R (n + 1) 8 ls st σ k = (oI st fun y st => oI st fun x st => (wI x < wI y → xk_X2_knocksBehind ct K R n 13 ls st σ k) ∧ (¬ (wI x < wI y) → xk_X2_knocksBehind ct K R n 11 ls st σ k)) := exS_step.trans rfl
theorem ev_X2_knocksBehind_11 {ct : Nat → Bool} {K : Kt} {R : Option AV → Hp → Prop} {n : Nat} {ls : List (Option AV)} {st : List AV} {σ : Hp} {k : Nat × Nat} : xe_X2_knocksBehind ct K R (n + 1) 11 ls st σ k = (xk_X2_knocksBehind ct K R n 12 ls (vi (0) :: st) σ k) := exS_step.trans rfl
theorem ev_X2_knocksBehind_12 {ct : Nat → Bool} {K : Kt} {R : Option AV → Hp → Prop} {n : Nat} {ls : List (Option AV)} {st : List AV} {σ : Hp} {k : Nat × Nat} : xe_X2_knocksBehind ct K R (n + 1) 12 ls st σ k = (oI st fun x st => st = [] ∧ (x = 0 ∨ x = 1) ∧ R (some (vi x)) σ) := exS_step.trans rfl
theorem ev_X2_knocksBehind_13 {ct : Nat → Bool} {K : Kt} {R : Option AV → Hp → Prop} {n : Nat} {ls : List (Option AV)} {st : List AV} {σ : Hp} {k : Nat × Nat} : xe_X2_knocksBehind ct K R (n + 1) 13 ls st σ k = (lI ls 1 fun x => xk_X2_knocksBehind ct K R n 14 ls (vi x :: st) σ k) := exS_step.trans rfl
theorem ev_X2_knocksBehind_14 {ct : Nat → Bool} {K : Kt} {R : Option AV → Hp → Prop} {n : Nat} {ls : List (Option AV)} {st : List AV} {σ : Hp} {k : Nat × Nat} : xe_X2_knocksBehind ct K R (n + 1) 14 ls st σ k = (xk_X2_knocksBehind ct K R n 16 ls (vi (64) :: st) σ k) := exS_step.trans rfl
theorem ev_X2_knocksBehind_16 {ct : Nat → Bool} {K : Kt} {R : Option AV → Hp → Prop} {n : Nat} {ls : List (Option AV)} {st : List AV} {σ : Hp} {k : Nat × Nat} : xe_X2_knocksBehind ct K R (n + 1) 16 ls st σ k = (oI st fun y st => oI st fun x st => (wI y ≤ wI x → xk_X2_knocksBehind ct K R n 26 ls st σ k) ∧ (¬ (wI y ≤ wI x) → xk_X2_knocksBehind ct K R n 19 ls st σ k)) := exS_step.trans rfl
theorem ev_X2_knocksBehind_19 {ct : Nat → Bool} {K : Kt} {R : Option AV → Hp → Prop} {n : Nat} {ls : List (Option AV)} {st : List AV} {σ : Hp} {k : Nat × Nat} : xe_X2_knocksBehind ct K R (n + 1) 19 ls st σ k = (lR ls 0 fun x => xk_X2_knocksBehind ct K R n 20 ls (vr x :: st) σ k) := exS_step.trans rfl
theorem ev_X2_knocksBehind_20 {ct : Nat → Bool} {K : Kt} {R : Option AV → Hp → Prop} {n : Nat} {ls : List (Option AV)} {st : List AV} {σ : Hp} {k : Nat × Nat} : xe_X2_knocksBehind ct K R (n + 1) 20 ls st σ k = (oR st fun x st => kd σ x = 3 ∧ xk_X2_knocksBehind ct K R n 23 ls (vl (fL σ 310 x) :: st) σ k) := exS_step.trans rfl
theorem ev_X2_knocksBehind_23 {ct : Nat → Bool} {K : Kt} {R : Option AV → Hp → Prop} {n : Nat} {ls : List (Option AV)} {st : List AV} {σ : Hp} {k : Nat × Nat} : xe_X2_knocksBehind ct K R (n + 1) 23 ls st σ k = (xk_X2_knocksBehind ct K R n 30 ls st σ k) := exS_step.trans rfl
theorem ev_X2_knocksBehind_26 {ct : Nat → Bool} {K : Kt} {R : Option AV → Hp → Prop} {n : Nat} {ls : List (Option AV)} {st : List AV} {σ : Hp} {k : Nat × Nat} : xe_X2_knocksBehind ct K R (n + 1) 26 ls st σ k = (lR ls 0 fun x => xk_X2_knocksBehind ct K R n 27 ls (vr x :: st) σ k) := exS_step.trans rfl
theorem ev_X2_knocksBehind_27 {ct : Nat → Bool} {K : Kt} {R : Option AV → Hp → Prop} {n : Nat} {ls : List (Option AV)} {st : List AV} {σ : Hp} {k : Nat × Nat} : xe_X2_knocksBehind ct K R (n + 1) 27 ls st σ k = (oR st fun x st => kd σ x = 3 ∧ xk_X2_knocksBehind ct K R n 30 ls (vl (fL σ 311 x) :: st) σ k) := exS_step.trans rfl
theorem ev_X2_knocksBehind_30 {ct : Nat → Bool} {K : Kt} {R : Option AV → Hp → Prop} {n : Nat} {ls : List (Option AV)} {st : List AV} {σ : Hp} {k : Nat × Nat} : xe_X2_knocksBehind ct K R (n + 1) 30 ls st σ k = (oL st fun x st => 2 + 1 < 4 ∧ xk_X2_knocksBehind ct K R n 31 (stL2 ls 2 (vl x)) st σ k) := exS_step.trans rfl
theorem ev_X2_knocksBehind_31 {ct : Nat → Bool} {K : Kt} {R : Option AV → Hp → Prop} {n : Nat} {ls : List (Option AV)} {st : List AV} {σ : Hp} {k : Nat × Nat} : xe_X2_knocksBehind ct K R (n + 1) 31 ls st σ k = (lL ls 2 fun x => xk_X2_knocksBehind ct K R n 32 ls (vl x :: st) σ k) := exS_step.trans rfl
theorem ev_X2_knocksBehind_32 {ct : Nat → Bool} {K : Kt} {R : Option AV → Hp → Prop} {n : Nat} {ls : List (Option AV)} {st : List AV} {σ : Hp} {k : Nat × Nat} : xe_X2_knocksBehind ct K R (n + 1) 32 ls st σ k = (lI ls 1 fun x => xk_X2_knocksBehind ct K R n 33 ls (vi x :: st) σ k) := exS_step.trans rfl
theorem ev_X2_knocksBehind_33 {ct : Nat → Bool} {K : Kt} {R : Option AV → Hp → Prop} {n : Nat} {ls : List (Option AV)} {st : List AV} {σ : Hp} {k : Nat × Nat} : xe_X2_knocksBehind ct K R (n + 1) 33 ls st σ k = (xk_X2_knocksBehind ct K R n 35 ls (vi (63) :: st) σ k) := exS_step.trans rfl
theorem ev_X2_knocksBehind_35 {ct : Nat → Bool} {K : Kt} {R : Option AV → Hp → Prop} {n : Nat} {ls : List (Option AV)} {st : List AV} {σ : Hp} {k : Nat × Nat} : xe_X2_knocksBehind ct K R (n + 1) 35 ls st σ k = (oI st fun y st => oI st fun x st => xk_X2_knocksBehind ct K R n 36 ls (vi (bAnd x y) :: st) σ k) := exS_step.trans rfl
theorem ev_X2_knocksBehind_36 {ct : Nat → Bool} {K : Kt} {R : Option AV → Hp → Prop} {n : Nat} {ls : List (Option AV)} {st : List AV} {σ : Hp} {k : Nat × Nat} : xe_X2_knocksBehind ct K R (n + 1) 36 ls st σ k = (oI st fun y st => oL st fun x st => xk_X2_knocksBehind ct K R n 37 ls (vl (x >>> (y % 64).toNat) :: st) σ k) := exS_step.trans rfl
theorem ev_X2_knocksBehind_37 {ct : Nat → Bool} {K : Kt} {R : Option AV → Hp → Prop} {n : Nat} {ls : List (Option AV)} {st : List AV} {σ : Hp} {k : Nat × Nat} : xe_X2_knocksBehind ct K R (n + 1) 37 ls st σ k = (xk_X2_knocksBehind ct K R n 38 ls (vl (BitVec.ofNat 64 1) :: st) σ k) := exS_step.trans rfl
theorem ev_X2_knocksBehind_38 {ct : Nat → Bool} {K : Kt} {R : Option AV → Hp → Prop} {n : Nat} {ls : List (Option AV)} {st : List AV} {σ : Hp} {k : Nat × Nat} : xe_X2_knocksBehind ct K R (n + 1) 38 ls st σ k = (oL st fun y st => oL st fun x st => xk_X2_knocksBehind ct K R n 39 ls (vl (x &&& y) :: st) σ k) := exS_step.trans rfl
theorem ev_X2_knocksBehind_39 {ct : Nat → Bool} {K : Kt} {R : Option AV → Hp → Prop} {n : Nat} {ls : List (Option AV)} {st : List AV} {σ : Hp} {k : Nat × Nat} : xe_X2_knocksBehind ct K R (n + 1) 39 ls st σ k = (xk_X2_knocksBehind ct K R n 40 ls (vl (BitVec.ofNat 64 0) :: st) σ k) := exS_step.trans rfl
theorem ev_X2_knocksBehind_40 {ct : Nat → Bool} {K : Kt} {R : Option AV → Hp → Prop} {n : Nat} {ls : List (Option AV)} {st : List AV} {σ : Hp} {k : Nat × Nat} : xe_X2_knocksBehind ct K R (n + 1) 40 ls st σ k = (oL st fun y st => oL st fun x st => xk_X2_knocksBehind ct K R n 41 ls (vi (cmL x y) :: st) σ k) := exS_step.trans rfl
theorem ev_X2_knocksBehind_41 {ct : Nat → Bool} {K : Kt} {R : Option AV → Hp → Prop} {n : Nat} {ls : List (Option AV)} {st : List AV} {σ : Hp} {k : Nat × Nat} : xe_X2_knocksBehind ct K R (n + 1) 41 ls st σ k = (oI st fun x st => (wI x = wI 0 → xk_X2_knocksBehind ct K R n 48 ls st σ k) ∧ (¬ (wI x = wI 0) → xk_X2_knocksBehind ct K R n 44 ls st σ k)) := exS_step.trans rfl
theorem ev_X2_knocksBehind_44 {ct : Nat → Bool} {K : Kt} {R : Option AV → Hp → Prop} {n : Nat} {ls : List (Option AV)} {st : List AV} {σ : Hp} {k : Nat × Nat} : xe_X2_knocksBehind ct K R (n + 1) 44 ls st σ k = (xk_X2_knocksBehind ct K R n 45 ls (vi (1) :: st) σ k) := exS_step.trans rfl
theorem ev_X2_knocksBehind_45 {ct : Nat → Bool} {K : Kt} {R : Option AV → Hp → Prop} {n : Nat} {ls : List (Option AV)} {st : List AV} {σ : Hp} {k : Nat × Nat} : xe_X2_knocksBehind ct K R (n + 1) 45 ls st σ k = (xk_X2_knocksBehind ct K R n 49 ls st σ k) := exS_step.trans rfl
theorem ev_X2_knocksBehind_48 {ct : Nat → Bool} {K : Kt} {R : Option AV → Hp → Prop} {n : Nat} {ls : List (Option AV)} {st : List AV} {σ : Hp} {k : Nat × Nat} : xe_X2_knocksBehind ct K R (n + 1) 48 ls st σ k = (xk_X2_knocksBehind ct K R n 49 ls (vi (0) :: st) σ k) := exS_step.trans rfl
theorem ev_X2_knocksBehind_49 {ct : Nat → Bool} {K : Kt} {R : Option AV → Hp → Prop} {n : Nat} {ls : List (Option AV)} {st : List AV} {σ : Hp} {k : Nat × Nat} : xe_X2_knocksBehind ct K R (n + 1) 49 ls st σ k = (oI st fun x st => st = [] ∧ (x = 0 ∨ x = 1) ∧ R (some (vi x)) σ) := exS_step.trans rfl
def M_X2_knocksBehind : Md := (yX2_knocksBehind, cX2_knocksBehind, 4, (some FieldType.boolean), 1, 0, 0, 2, false, tb_X2_knocksBehind, mt_X2_knocksBehind)
theorem mm_X2_knocksBehind : MMOK M_X2_knocksBehind := ⟨by decide +kernel, tk_X2_knocksBehind, mk_X2_knocksBehind, rfl, fun h => by cases h⟩
theorem go_X2_knocksBehind {Q : Option AV → Hp → Prop} {ct : Nat → Bool} {pc : Nat} {ls : List (Option AV)} {st : List AV} {σ : Hp} {k : Nat × Nat} (n : Nat) (h : xe_X2_knocksBehind ct (Go M_X2_knocksBehind Q) Q n pc ls st σ k) : Go M_X2_knocksBehind Q pc ls st σ k := Go.exS mm_X2_knocksBehind h

set_option maxRecDepth 20000 in
theorem c_X2_knocksBehind : Ct yX2_knocksBehind cX2_knocksBehind 4 ((some FieldType.boolean)) 1 0 0 sp_X2_knocksBehind := by
  refine Ct.go (M := M_X2_knocksBehind) mm_X2_knocksBehind fun av σ Q h0 => ?_
  obtain ⟨this, o, rfl, hk, h⟩ := el_X2_knocksBehind h0
  clear h0
  refine ⟨Nat.le_of_ble_eq_true rfl, ?_⟩
  show Go M_X2_knocksBehind Q 0 [some (vr this), some (vi o), none, none] [] σ (0, 0)
  obtain ⟨ho, h⟩ := h
  unfold whl at h
  by_cases c0 : 0 ≤ o ∧ o < 128
  · have hb : bAnd o 63 % 64 = o % 64 := by rw [bAnd_63 (by omega)]; omega
    by_cases c1 : o < 64
    · have e1 : (o % 64).toNat = o.toNat := by omega
      rw [if_neg (by omega), if_pos c1] at h
      by_cases c2 : (fL σ 310 this).getLsbD o.toNat = true
      · rw [b2i_t c2] at h
        refine go_X2_knocksBehind (ct := fun p => p == 11 || p == 26) 40 ?_
        simp only [oI, oL, oR, o1, lI, lL, lR, popN, catS, gv, stL, stL2, swt, cnd, spObj, List.getElem?_cons_zero, List.getElem?_cons_succ, List.getD_cons_zero, List.getD_cons_succ, List.set_cons_zero, List.set_cons_succ, List.nil_append, List.cons_append, Option.toList, Bool.or_false, Bool.false_or, Bool.or_true, Bool.true_or, Nat.reduceBEq, Nat.reduceAdd, Nat.reduceLT, Nat.reduceLeDiff, Int.reduceAdd, Int.reduceToNat, true_and, and_true, Fin.isValue, Fin.val_zero, Fin.val_one, Fin.val_two, Fin.reduceFinMk, eq_self, Int.reduceNeg, imp_self, Nat.reduceMul, Nat.le_refl, not_true_eq_false, not_false_eq_true, List.getElem?_nil, reduceCtorEq, true_or, or_true, Classical.not_not, implies_true, or_self, wI_0, wI_1, wI_m1, b2i_w, b2i_eq0, b2i_eq1, b2i_bool, nor_self, nx_pI, kd_pI, ln_pI, fI_pI, fL_pI, fR_pI, aI_pI, aL_pI, aR_pI, nx_pL, kd_pL, ln_pL, fI_pL, fL_pL, fR_pL, aI_pL, aL_pL, aR_pL, nx_pR, kd_pR, ln_pR, fI_pR, fL_pR, fR_pR, aI_pR, aL_pR, aR_pR, nx_qI, kd_qI, ln_qI, fI_qI, fL_qI, fR_qI, aI_qI, aL_qI, aR_qI, nx_qL, kd_qL, ln_qL, fI_qL, fL_qL, fR_qL, aI_qL, aL_qL, aR_qL, nx_qR, kd_qR, ln_qR, fI_qR, fL_qR, fR_qR, aI_qR, aL_qR, aR_qR, nx_mk, kd_mk, ln_mk, fI_mk, fL_mk, fR_mk, aI_mk, aL_mk, aR_mk, false_and, and_false, if_false, if_true, and_self, Int.reduceEq, Nat.reduceEqDiff, ite_self, MLay_pI, MLay_pL, MLay_qI, MLay_qL, ev_X2_knocksBehind_0, ev_X2_knocksBehind_1, ev_X2_knocksBehind_4, ev_X2_knocksBehind_5, ev_X2_knocksBehind_8, ev_X2_knocksBehind_11, ev_X2_knocksBehind_12, ev_X2_knocksBehind_13, ev_X2_knocksBehind_14, ev_X2_knocksBehind_16, ev_X2_knocksBehind_19, ev_X2_knocksBehind_20, ev_X2_knocksBehind_23, ev_X2_knocksBehind_26, ev_X2_knocksBehind_27, ev_X2_knocksBehind_30, ev_X2_knocksBehind_31, ev_X2_knocksBehind_32, ev_X2_knocksBehind_33, ev_X2_knocksBehind_35, ev_X2_knocksBehind_36, ev_X2_knocksBehind_37, ev_X2_knocksBehind_38, ev_X2_knocksBehind_39, ev_X2_knocksBehind_40, ev_X2_knocksBehind_41, ev_X2_knocksBehind_44, ev_X2_knocksBehind_45, ev_X2_knocksBehind_48, ev_X2_knocksBehind_49, xt_X2_knocksBehind, xf_X2_knocksBehind, hk, hb, e1, cmL_0, bit1_0, c2]
        try simp (disch := omega) only [wI_id, dv_nn, rm_nn]
        repeat' (first | intro z | apply And.intro)
        all_goals try omega
        all_goals try contradiction
        all_goals exact h
      · rw [b2i_f c2] at h
        have c3 := eq_false_of_ne_true c2
        refine go_X2_knocksBehind (ct := fun p => p == 11 || p == 26) 40 ?_
        simp only [oI, oL, oR, o1, lI, lL, lR, popN, catS, gv, stL, stL2, swt, cnd, spObj, List.getElem?_cons_zero, List.getElem?_cons_succ, List.getD_cons_zero, List.getD_cons_succ, List.set_cons_zero, List.set_cons_succ, List.nil_append, List.cons_append, Option.toList, Bool.or_false, Bool.false_or, Bool.or_true, Bool.true_or, Nat.reduceBEq, Nat.reduceAdd, Nat.reduceLT, Nat.reduceLeDiff, Int.reduceAdd, Int.reduceToNat, true_and, and_true, Fin.isValue, Fin.val_zero, Fin.val_one, Fin.val_two, Fin.reduceFinMk, eq_self, Int.reduceNeg, imp_self, Nat.reduceMul, Nat.le_refl, not_true_eq_false, not_false_eq_true, List.getElem?_nil, reduceCtorEq, true_or, or_true, Classical.not_not, implies_true, or_self, wI_0, wI_1, wI_m1, b2i_w, b2i_eq0, b2i_eq1, b2i_bool, nor_self, nx_pI, kd_pI, ln_pI, fI_pI, fL_pI, fR_pI, aI_pI, aL_pI, aR_pI, nx_pL, kd_pL, ln_pL, fI_pL, fL_pL, fR_pL, aI_pL, aL_pL, aR_pL, nx_pR, kd_pR, ln_pR, fI_pR, fL_pR, fR_pR, aI_pR, aL_pR, aR_pR, nx_qI, kd_qI, ln_qI, fI_qI, fL_qI, fR_qI, aI_qI, aL_qI, aR_qI, nx_qL, kd_qL, ln_qL, fI_qL, fL_qL, fR_qL, aI_qL, aL_qL, aR_qL, nx_qR, kd_qR, ln_qR, fI_qR, fL_qR, fR_qR, aI_qR, aL_qR, aR_qR, nx_mk, kd_mk, ln_mk, fI_mk, fL_mk, fR_mk, aI_mk, aL_mk, aR_mk, false_and, and_false, if_false, if_true, and_self, Int.reduceEq, Nat.reduceEqDiff, ite_self, MLay_pI, MLay_pL, MLay_qI, MLay_qL, ev_X2_knocksBehind_0, ev_X2_knocksBehind_1, ev_X2_knocksBehind_4, ev_X2_knocksBehind_5, ev_X2_knocksBehind_8, ev_X2_knocksBehind_11, ev_X2_knocksBehind_12, ev_X2_knocksBehind_13, ev_X2_knocksBehind_14, ev_X2_knocksBehind_16, ev_X2_knocksBehind_19, ev_X2_knocksBehind_20, ev_X2_knocksBehind_23, ev_X2_knocksBehind_26, ev_X2_knocksBehind_27, ev_X2_knocksBehind_30, ev_X2_knocksBehind_31, ev_X2_knocksBehind_32, ev_X2_knocksBehind_33, ev_X2_knocksBehind_35, ev_X2_knocksBehind_36, ev_X2_knocksBehind_37, ev_X2_knocksBehind_38, ev_X2_knocksBehind_39, ev_X2_knocksBehind_40, ev_X2_knocksBehind_41, ev_X2_knocksBehind_44, ev_X2_knocksBehind_45, ev_X2_knocksBehind_48, ev_X2_knocksBehind_49, xt_X2_knocksBehind, xf_X2_knocksBehind, hk, hb, e1, cmL_0, bit1_0, c3]
        try simp (disch := omega) only [wI_id, dv_nn, rm_nn]
        repeat' (first | intro z | apply And.intro)
        all_goals try omega
        all_goals try contradiction
        all_goals exact h
    · have e1 : (o % 64).toNat = o.toNat - 64 := by omega
      rw [if_neg (by omega), if_neg c1] at h
      by_cases c2 : (fL σ 311 this).getLsbD (o.toNat - 64) = true
      · rw [b2i_t c2] at h
        refine go_X2_knocksBehind (ct := fun p => p == 11 || p == 19) 40 ?_
        simp only [oI, oL, oR, o1, lI, lL, lR, popN, catS, gv, stL, stL2, swt, cnd, spObj, List.getElem?_cons_zero, List.getElem?_cons_succ, List.getD_cons_zero, List.getD_cons_succ, List.set_cons_zero, List.set_cons_succ, List.nil_append, List.cons_append, Option.toList, Bool.or_false, Bool.false_or, Bool.or_true, Bool.true_or, Nat.reduceBEq, Nat.reduceAdd, Nat.reduceLT, Nat.reduceLeDiff, Int.reduceAdd, Int.reduceToNat, true_and, and_true, Fin.isValue, Fin.val_zero, Fin.val_one, Fin.val_two, Fin.reduceFinMk, eq_self, Int.reduceNeg, imp_self, Nat.reduceMul, Nat.le_refl, not_true_eq_false, not_false_eq_true, List.getElem?_nil, reduceCtorEq, true_or, or_true, Classical.not_not, implies_true, or_self, wI_0, wI_1, wI_m1, b2i_w, b2i_eq0, b2i_eq1, b2i_bool, nor_self, nx_pI, kd_pI, ln_pI, fI_pI, fL_pI, fR_pI, aI_pI, aL_pI, aR_pI, nx_pL, kd_pL, ln_pL, fI_pL, fL_pL, fR_pL, aI_pL, aL_pL, aR_pL, nx_pR, kd_pR, ln_pR, fI_pR, fL_pR, fR_pR, aI_pR, aL_pR, aR_pR, nx_qI, kd_qI, ln_qI, fI_qI, fL_qI, fR_qI, aI_qI, aL_qI, aR_qI, nx_qL, kd_qL, ln_qL, fI_qL, fL_qL, fR_qL, aI_qL, aL_qL, aR_qL, nx_qR, kd_qR, ln_qR, fI_qR, fL_qR, fR_qR, aI_qR, aL_qR, aR_qR, nx_mk, kd_mk, ln_mk, fI_mk, fL_mk, fR_mk, aI_mk, aL_mk, aR_mk, false_and, and_false, if_false, if_true, and_self, Int.reduceEq, Nat.reduceEqDiff, ite_self, MLay_pI, MLay_pL, MLay_qI, MLay_qL, ev_X2_knocksBehind_0, ev_X2_knocksBehind_1, ev_X2_knocksBehind_4, ev_X2_knocksBehind_5, ev_X2_knocksBehind_8, ev_X2_knocksBehind_11, ev_X2_knocksBehind_12, ev_X2_knocksBehind_13, ev_X2_knocksBehind_14, ev_X2_knocksBehind_16, ev_X2_knocksBehind_19, ev_X2_knocksBehind_20, ev_X2_knocksBehind_23, ev_X2_knocksBehind_26, ev_X2_knocksBehind_27, ev_X2_knocksBehind_30, ev_X2_knocksBehind_31, ev_X2_knocksBehind_32, ev_X2_knocksBehind_33, ev_X2_knocksBehind_35, ev_X2_knocksBehind_36, ev_X2_knocksBehind_37, ev_X2_knocksBehind_38, ev_X2_knocksBehind_39, ev_X2_knocksBehind_40, ev_X2_knocksBehind_41, ev_X2_knocksBehind_44, ev_X2_knocksBehind_45, ev_X2_knocksBehind_48, ev_X2_knocksBehind_49, xt_X2_knocksBehind, xf_X2_knocksBehind, hk, hb, e1, cmL_0, bit1_0, c2]
        try simp (disch := omega) only [wI_id, dv_nn, rm_nn]
        repeat' (first | intro z | apply And.intro)
        all_goals try omega
        all_goals try contradiction
        all_goals exact h
      · rw [b2i_f c2] at h
        have c3 := eq_false_of_ne_true c2
        refine go_X2_knocksBehind (ct := fun p => p == 11 || p == 19) 40 ?_
        simp only [oI, oL, oR, o1, lI, lL, lR, popN, catS, gv, stL, stL2, swt, cnd, spObj, List.getElem?_cons_zero, List.getElem?_cons_succ, List.getD_cons_zero, List.getD_cons_succ, List.set_cons_zero, List.set_cons_succ, List.nil_append, List.cons_append, Option.toList, Bool.or_false, Bool.false_or, Bool.or_true, Bool.true_or, Nat.reduceBEq, Nat.reduceAdd, Nat.reduceLT, Nat.reduceLeDiff, Int.reduceAdd, Int.reduceToNat, true_and, and_true, Fin.isValue, Fin.val_zero, Fin.val_one, Fin.val_two, Fin.reduceFinMk, eq_self, Int.reduceNeg, imp_self, Nat.reduceMul, Nat.le_refl, not_true_eq_false, not_false_eq_true, List.getElem?_nil, reduceCtorEq, true_or, or_true, Classical.not_not, implies_true, or_self, wI_0, wI_1, wI_m1, b2i_w, b2i_eq0, b2i_eq1, b2i_bool, nor_self, nx_pI, kd_pI, ln_pI, fI_pI, fL_pI, fR_pI, aI_pI, aL_pI, aR_pI, nx_pL, kd_pL, ln_pL, fI_pL, fL_pL, fR_pL, aI_pL, aL_pL, aR_pL, nx_pR, kd_pR, ln_pR, fI_pR, fL_pR, fR_pR, aI_pR, aL_pR, aR_pR, nx_qI, kd_qI, ln_qI, fI_qI, fL_qI, fR_qI, aI_qI, aL_qI, aR_qI, nx_qL, kd_qL, ln_qL, fI_qL, fL_qL, fR_qL, aI_qL, aL_qL, aR_qL, nx_qR, kd_qR, ln_qR, fI_qR, fL_qR, fR_qR, aI_qR, aL_qR, aR_qR, nx_mk, kd_mk, ln_mk, fI_mk, fL_mk, fR_mk, aI_mk, aL_mk, aR_mk, false_and, and_false, if_false, if_true, and_self, Int.reduceEq, Nat.reduceEqDiff, ite_self, MLay_pI, MLay_pL, MLay_qI, MLay_qL, ev_X2_knocksBehind_0, ev_X2_knocksBehind_1, ev_X2_knocksBehind_4, ev_X2_knocksBehind_5, ev_X2_knocksBehind_8, ev_X2_knocksBehind_11, ev_X2_knocksBehind_12, ev_X2_knocksBehind_13, ev_X2_knocksBehind_14, ev_X2_knocksBehind_16, ev_X2_knocksBehind_19, ev_X2_knocksBehind_20, ev_X2_knocksBehind_23, ev_X2_knocksBehind_26, ev_X2_knocksBehind_27, ev_X2_knocksBehind_30, ev_X2_knocksBehind_31, ev_X2_knocksBehind_32, ev_X2_knocksBehind_33, ev_X2_knocksBehind_35, ev_X2_knocksBehind_36, ev_X2_knocksBehind_37, ev_X2_knocksBehind_38, ev_X2_knocksBehind_39, ev_X2_knocksBehind_40, ev_X2_knocksBehind_41, ev_X2_knocksBehind_44, ev_X2_knocksBehind_45, ev_X2_knocksBehind_48, ev_X2_knocksBehind_49, xt_X2_knocksBehind, xf_X2_knocksBehind, hk, hb, e1, cmL_0, bit1_0, c3]
        try simp (disch := omega) only [wI_id, dv_nn, rm_nn]
        repeat' (first | intro z | apply And.intro)
        all_goals try omega
        all_goals try contradiction
        all_goals exact h
  · have e : (if o < 0 then false else if o < 64 then (fL σ 310 this).getLsbD o.toNat else (fL σ 311 this).getLsbD (o.toNat - 64)) = false := by
      split
      · rfl
      · rw [if_neg (by omega)]; exact BitVec.getLsbD_of_ge _ _ (by omega)
    rw [e, b2i_f (by decide)] at h
    refine go_X2_knocksBehind (ct := fun p => p == 13) 40 ?_
    simp only [oI, oL, oR, o1, lI, lL, lR, popN, catS, gv, stL, stL2, swt, cnd, spObj, List.getElem?_cons_zero, List.getElem?_cons_succ, List.getD_cons_zero, List.getD_cons_succ, List.set_cons_zero, List.set_cons_succ, List.nil_append, List.cons_append, Option.toList, Bool.or_false, Bool.false_or, Bool.or_true, Bool.true_or, Nat.reduceBEq, Nat.reduceAdd, Nat.reduceLT, Nat.reduceLeDiff, Int.reduceAdd, Int.reduceToNat, true_and, and_true, Fin.isValue, Fin.val_zero, Fin.val_one, Fin.val_two, Fin.reduceFinMk, eq_self, Int.reduceNeg, imp_self, Nat.reduceMul, Nat.le_refl, not_true_eq_false, not_false_eq_true, List.getElem?_nil, reduceCtorEq, true_or, or_true, Classical.not_not, implies_true, or_self, wI_0, wI_1, wI_m1, b2i_w, b2i_eq0, b2i_eq1, b2i_bool, nor_self, nx_pI, kd_pI, ln_pI, fI_pI, fL_pI, fR_pI, aI_pI, aL_pI, aR_pI, nx_pL, kd_pL, ln_pL, fI_pL, fL_pL, fR_pL, aI_pL, aL_pL, aR_pL, nx_pR, kd_pR, ln_pR, fI_pR, fL_pR, fR_pR, aI_pR, aL_pR, aR_pR, nx_qI, kd_qI, ln_qI, fI_qI, fL_qI, fR_qI, aI_qI, aL_qI, aR_qI, nx_qL, kd_qL, ln_qL, fI_qL, fL_qL, fR_qL, aI_qL, aL_qL, aR_qL, nx_qR, kd_qR, ln_qR, fI_qR, fL_qR, fR_qR, aI_qR, aL_qR, aR_qR, nx_mk, kd_mk, ln_mk, fI_mk, fL_mk, fR_mk, aI_mk, aL_mk, aR_mk, false_and, and_false, if_false, if_true, and_self, Int.reduceEq, Nat.reduceEqDiff, ite_self, MLay_pI, MLay_pL, MLay_qI, MLay_qL, ev_X2_knocksBehind_0, ev_X2_knocksBehind_1, ev_X2_knocksBehind_4, ev_X2_knocksBehind_5, ev_X2_knocksBehind_8, ev_X2_knocksBehind_11, ev_X2_knocksBehind_12, xt_X2_knocksBehind, xf_X2_knocksBehind, hk]
    try simp (disch := omega) only [wI_id, dv_nn, rm_nn]
    repeat' (first | intro z | apply And.intro)
    all_goals try omega
    all_goals try contradiction
    all_goals exact h

def sp_X2_wheelFrom : Sp := fun av σ Q => oR av fun this av => oI av fun o av => av = [] ∧ kd σ this = 3 ∧ ((-4000000 ≤ o ∧ o ≤ 4000000) ∧ (∀ v : BitVec 64, (∀ j : Nat, j < 64 → v.getLsbD j = whl σ this (o + j)) → Q (some (vl v)) σ))
theorem us_X2_wheelFrom (this : Int) (o : Int) (σ : Hp) (Q : Option AV → Hp → Prop) : sp_X2_wheelFrom [vr this, vi o] σ Q = (kd σ this = 3 ∧ ((-4000000 ≤ o ∧ o ≤ 4000000) ∧ (∀ v : BitVec 64, (∀ j : Nat, j < 64 → v.getLsbD j = whl σ this (o + j)) → Q (some (vl v)) σ))) := propext ⟨fun h => h.2, fun h => ⟨rfl, h⟩⟩
theorem el_X2_wheelFrom {av : List AV} {σ : Hp} {Q : Option AV → Hp → Prop} (h : sp_X2_wheelFrom av σ Q) : ∃ (this : Int) (o : Int), av = [vr this, vi o] ∧ (kd σ this = 3 ∧ ((-4000000 ≤ o ∧ o ≤ 4000000) ∧ (∀ v : BitVec 64, (∀ j : Nat, j < 64 → v.getLsbD j = whl σ this (o + j)) → Q (some (vl v)) σ))) := by
  obtain ⟨this, a0, rfl, h0⟩ := oR_s h
  obtain ⟨o, a1, rfl, h1⟩ := oI_s h0
  obtain ⟨rfl, hz⟩ := h1
  exact ⟨this, o, rfl, hz⟩
theorem rc_X2_wheelFrom : ∀ (av : List AV) (σ : Hp) (Q : Option AV → Hp → Prop), sp_X2_wheelFrom av σ Q → ∃ r tl, av = vr r :: tl ∧ kd σ r = 2 + 1 := fun av σ Q h => by
  obtain ⟨this, o, rfl, hz, -⟩ := el_X2_wheelFrom h
  exact ⟨this, _, rfl, hz⟩

def tb_X2_wheelFrom : Tab := [(0, .iload_n 1, 1, (0, 0, 0, 0)), (1, .bipush (-64), 2, (0, 0, 0, 0)), (3, .if_icmp .le 10, 3, (0, 0, 0, 0)), (6, .iload_n 1, 1, (0, 0, 0, 0)), (7, .sipush 128, 3, (0, 0, 0, 0)), (10, .if_icmp .lt 5, 3, (0, 0, 0, 0)), (13, .lconst 0, 1, (0, 0, 0, 0)), (14, .lreturn, 1, (0, 0, 0, 0)), (15, .iload_n 1, 1, (0, 0, 0, 0)), (16, .ifCond .gt 11, 3, (0, 0, 0, 0)), (19, .aload_n 0, 1, (0, 0, 0, 0)), (20, .getfield 52, 3, (3, 310, 1, 0)), (23, .iload_n 1, 1, (0, 0, 0, 0)), (24, .ineg, 1, (0, 0, 0, 0)), (25, .lshl, 1, (0, 0, 0, 0)), (26, .lreturn, 1, (0, 0, 0, 0)), (27, .iload_n 1, 1, (0, 0, 0, 0)), (28, .bipush 64, 2, (0, 0, 0, 0)), (30, .if_icmp .ge 20, 3, (0, 0, 0, 0)), (33, .aload_n 0, 1, (0, 0, 0, 0)), (34, .getfield 52, 3, (3, 310, 1, 0)), (37, .iload_n 1, 1, (0, 0, 0, 0)), (38, .lushr, 1, (0, 0, 0, 0)), (39, .aload_n 0, 1, (0, 0, 0, 0)), (40, .getfield 56, 3, (3, 311, 1, 0)), (43, .bipush 64, 2, (0, 0, 0, 0)), (45, .iload_n 1, 1, (0, 0, 0, 0)), (46, .isub, 1, (0, 0, 0, 0)), (47, .lshl, 1, (0, 0, 0, 0)), (48, .lor, 1, (0, 0, 0, 0)), (49, .lreturn, 1, (0, 0, 0, 0)), (50, .aload_n 0, 1, (0, 0, 0, 0)), (51, .getfield 56, 3, (3, 311, 1, 0)), (54, .iload_n 1, 1, (0, 0, 0, 0)), (55, .bipush 64, 2, (0, 0, 0, 0)), (57, .isub, 1, (0, 0, 0, 0)), (58, .lushr, 1, (0, 0, 0, 0)), (59, .lreturn, 1, (0, 0, 0, 0))]
set_option maxRecDepth 100000 in
theorem tk_X2_wheelFrom : TOK RX2 false cX2_wheelFrom tb_X2_wheelFrom := chkT_ok ft_X2 (by decide +kernel)
def mt_X2_wheelFrom : List (Nat × Mt) := []
theorem mk_X2_wheelFrom : MOK RX2 mt_X2_wheelFrom := fun q hq => by cases hq
noncomputable def xe_X2_wheelFrom (ct : Nat → Bool) (K : Kt) (R : Option AV → Hp → Prop) (n : Nat) : Kt := exS 2 1 0 0 4 tb_X2_wheelFrom mt_X2_wheelFrom ct K R n
noncomputable def xk_X2_wheelFrom (ct : Nat → Bool) (K : Kt) (R : Option AV → Hp → Prop) (n : Nat) : Kt := exkS 2 1 0 0 4 tb_X2_wheelFrom mt_X2_wheelFrom ct K R n
theorem xt_X2_wheelFrom {ct : Nat → Bool} {K : Kt} {R : Option AV → Hp → Prop} {n pc : Nat} {ls : List (Option AV)} {st : List AV} {σ : Hp} {k : Nat × Nat} (h : ct pc = true) : xk_X2_wheelFrom ct K R n pc ls st σ k = K pc ls st σ k := by unfold xk_X2_wheelFrom exkS; rw [h]
theorem xf_X2_wheelFrom {ct : Nat → Bool} {K : Kt} {R : Option AV → Hp → Prop} {n pc : Nat} {ls : List (Option AV)} {st : List AV} {σ : Hp} {k : Nat × Nat} (h : ct pc = false) : xk_X2_wheelFrom ct K R n pc ls st σ k = xe_X2_wheelFrom ct K R n pc ls st σ k := by unfold xk_X2_wheelFrom exkS xe_X2_wheelFrom; rw [h]
theorem ev_X2_wheelFrom_0 {ct : Nat → Bool} {K : Kt} {R : Option AV → Hp → Prop} {n : Nat} {ls : List (Option AV)} {st : List AV} {σ : Hp} {k : Nat × Nat} : xe_X2_wheelFrom ct K R (n + 1) 0 ls st σ k = (lI ls 1 fun x => xk_X2_wheelFrom ct K R n 1 ls (vi x :: st) σ k) := exS_step.trans rfl
theorem ev_X2_wheelFrom_1 {ct : Nat → Bool} {K : Kt} {R : Option AV → Hp → Prop} {n : Nat} {ls : List (Option AV)} {st : List AV} {σ : Hp} {k : Nat × Nat} : xe_X2_wheelFrom ct K R (n + 1) 1 ls st σ k = (xk_X2_wheelFrom ct K R n 3 ls (vi (-64) :: st) σ k) := exS_step.trans rfl
theorem ev_X2_wheelFrom_3 {ct : Nat → Bool} {K : Kt} {R : Option AV → Hp → Prop} {n : Nat} {ls : List (Option AV)} {st : List AV} {σ : Hp} {k : Nat × Nat} : xe_X2_wheelFrom ct K R (n + 1) 3 ls st σ k = (oI st fun y st => oI st fun x st => (wI x ≤ wI y → xk_X2_wheelFrom ct K R n 13 ls st σ k) ∧ (¬ (wI x ≤ wI y) → xk_X2_wheelFrom ct K R n 6 ls st σ k)) := exS_step.trans rfl
theorem ev_X2_wheelFrom_6 {ct : Nat → Bool} {K : Kt} {R : Option AV → Hp → Prop} {n : Nat} {ls : List (Option AV)} {st : List AV} {σ : Hp} {k : Nat × Nat} : xe_X2_wheelFrom ct K R (n + 1) 6 ls st σ k = (lI ls 1 fun x => xk_X2_wheelFrom ct K R n 7 ls (vi x :: st) σ k) := exS_step.trans rfl
theorem ev_X2_wheelFrom_7 {ct : Nat → Bool} {K : Kt} {R : Option AV → Hp → Prop} {n : Nat} {ls : List (Option AV)} {st : List AV} {σ : Hp} {k : Nat × Nat} : xe_X2_wheelFrom ct K R (n + 1) 7 ls st σ k = (xk_X2_wheelFrom ct K R n 10 ls (vi (128) :: st) σ k) := exS_step.trans rfl
theorem ev_X2_wheelFrom_10 {ct : Nat → Bool} {K : Kt} {R : Option AV → Hp → Prop} {n : Nat} {ls : List (Option AV)} {st : List AV} {σ : Hp} {k : Nat × Nat} : xe_X2_wheelFrom ct K R (n + 1) 10 ls st σ k = (oI st fun y st => oI st fun x st => (wI x < wI y → xk_X2_wheelFrom ct K R n 15 ls st σ k) ∧ (¬ (wI x < wI y) → xk_X2_wheelFrom ct K R n 13 ls st σ k)) := exS_step.trans rfl
theorem ev_X2_wheelFrom_13 {ct : Nat → Bool} {K : Kt} {R : Option AV → Hp → Prop} {n : Nat} {ls : List (Option AV)} {st : List AV} {σ : Hp} {k : Nat × Nat} : xe_X2_wheelFrom ct K R (n + 1) 13 ls st σ k = (xk_X2_wheelFrom ct K R n 14 ls (vl (BitVec.ofNat 64 0) :: st) σ k) := exS_step.trans rfl
theorem ev_X2_wheelFrom_14 {ct : Nat → Bool} {K : Kt} {R : Option AV → Hp → Prop} {n : Nat} {ls : List (Option AV)} {st : List AV} {σ : Hp} {k : Nat × Nat} : xe_X2_wheelFrom ct K R (n + 1) 14 ls st σ k = (oL st fun x st => st = [] ∧ 4 = 4 ∧ R (some (vl x)) σ) := exS_step.trans rfl
theorem ev_X2_wheelFrom_15 {ct : Nat → Bool} {K : Kt} {R : Option AV → Hp → Prop} {n : Nat} {ls : List (Option AV)} {st : List AV} {σ : Hp} {k : Nat × Nat} : xe_X2_wheelFrom ct K R (n + 1) 15 ls st σ k = (lI ls 1 fun x => xk_X2_wheelFrom ct K R n 16 ls (vi x :: st) σ k) := exS_step.trans rfl
theorem ev_X2_wheelFrom_16 {ct : Nat → Bool} {K : Kt} {R : Option AV → Hp → Prop} {n : Nat} {ls : List (Option AV)} {st : List AV} {σ : Hp} {k : Nat × Nat} : xe_X2_wheelFrom ct K R (n + 1) 16 ls st σ k = (oI st fun x st => (wI 0 < wI x → xk_X2_wheelFrom ct K R n 27 ls st σ k) ∧ (¬ (wI 0 < wI x) → xk_X2_wheelFrom ct K R n 19 ls st σ k)) := exS_step.trans rfl
theorem ev_X2_wheelFrom_19 {ct : Nat → Bool} {K : Kt} {R : Option AV → Hp → Prop} {n : Nat} {ls : List (Option AV)} {st : List AV} {σ : Hp} {k : Nat × Nat} : xe_X2_wheelFrom ct K R (n + 1) 19 ls st σ k = (lR ls 0 fun x => xk_X2_wheelFrom ct K R n 20 ls (vr x :: st) σ k) := exS_step.trans rfl
theorem ev_X2_wheelFrom_20 {ct : Nat → Bool} {K : Kt} {R : Option AV → Hp → Prop} {n : Nat} {ls : List (Option AV)} {st : List AV} {σ : Hp} {k : Nat × Nat} : xe_X2_wheelFrom ct K R (n + 1) 20 ls st σ k = (oR st fun x st => kd σ x = 3 ∧ xk_X2_wheelFrom ct K R n 23 ls (vl (fL σ 310 x) :: st) σ k) := exS_step.trans rfl
theorem ev_X2_wheelFrom_23 {ct : Nat → Bool} {K : Kt} {R : Option AV → Hp → Prop} {n : Nat} {ls : List (Option AV)} {st : List AV} {σ : Hp} {k : Nat × Nat} : xe_X2_wheelFrom ct K R (n + 1) 23 ls st σ k = (lI ls 1 fun x => xk_X2_wheelFrom ct K R n 24 ls (vi x :: st) σ k) := exS_step.trans rfl
theorem ev_X2_wheelFrom_24 {ct : Nat → Bool} {K : Kt} {R : Option AV → Hp → Prop} {n : Nat} {ls : List (Option AV)} {st : List AV} {σ : Hp} {k : Nat × Nat} : xe_X2_wheelFrom ct K R (n + 1) 24 ls st σ k = (oI st fun x st => xk_X2_wheelFrom ct K R n 25 ls (vi (-x) :: st) σ k) := exS_step.trans rfl
theorem ev_X2_wheelFrom_25 {ct : Nat → Bool} {K : Kt} {R : Option AV → Hp → Prop} {n : Nat} {ls : List (Option AV)} {st : List AV} {σ : Hp} {k : Nat × Nat} : xe_X2_wheelFrom ct K R (n + 1) 25 ls st σ k = (oI st fun y st => oL st fun x st => xk_X2_wheelFrom ct K R n 26 ls (vl (x <<< (y % 64).toNat) :: st) σ k) := exS_step.trans rfl
theorem ev_X2_wheelFrom_26 {ct : Nat → Bool} {K : Kt} {R : Option AV → Hp → Prop} {n : Nat} {ls : List (Option AV)} {st : List AV} {σ : Hp} {k : Nat × Nat} : xe_X2_wheelFrom ct K R (n + 1) 26 ls st σ k = (oL st fun x st => st = [] ∧ 4 = 4 ∧ R (some (vl x)) σ) := exS_step.trans rfl
theorem ev_X2_wheelFrom_27 {ct : Nat → Bool} {K : Kt} {R : Option AV → Hp → Prop} {n : Nat} {ls : List (Option AV)} {st : List AV} {σ : Hp} {k : Nat × Nat} : xe_X2_wheelFrom ct K R (n + 1) 27 ls st σ k = (lI ls 1 fun x => xk_X2_wheelFrom ct K R n 28 ls (vi x :: st) σ k) := exS_step.trans rfl
theorem ev_X2_wheelFrom_28 {ct : Nat → Bool} {K : Kt} {R : Option AV → Hp → Prop} {n : Nat} {ls : List (Option AV)} {st : List AV} {σ : Hp} {k : Nat × Nat} : xe_X2_wheelFrom ct K R (n + 1) 28 ls st σ k = (xk_X2_wheelFrom ct K R n 30 ls (vi (64) :: st) σ k) := exS_step.trans rfl
theorem ev_X2_wheelFrom_30 {ct : Nat → Bool} {K : Kt} {R : Option AV → Hp → Prop} {n : Nat} {ls : List (Option AV)} {st : List AV} {σ : Hp} {k : Nat × Nat} : xe_X2_wheelFrom ct K R (n + 1) 30 ls st σ k = (oI st fun y st => oI st fun x st => (wI y ≤ wI x → xk_X2_wheelFrom ct K R n 50 ls st σ k) ∧ (¬ (wI y ≤ wI x) → xk_X2_wheelFrom ct K R n 33 ls st σ k)) := exS_step.trans rfl
theorem ev_X2_wheelFrom_33 {ct : Nat → Bool} {K : Kt} {R : Option AV → Hp → Prop} {n : Nat} {ls : List (Option AV)} {st : List AV} {σ : Hp} {k : Nat × Nat} : xe_X2_wheelFrom ct K R (n + 1) 33 ls st σ k = (lR ls 0 fun x => xk_X2_wheelFrom ct K R n 34 ls (vr x :: st) σ k) := exS_step.trans rfl
theorem ev_X2_wheelFrom_34 {ct : Nat → Bool} {K : Kt} {R : Option AV → Hp → Prop} {n : Nat} {ls : List (Option AV)} {st : List AV} {σ : Hp} {k : Nat × Nat} : xe_X2_wheelFrom ct K R (n + 1) 34 ls st σ k = (oR st fun x st => kd σ x = 3 ∧ xk_X2_wheelFrom ct K R n 37 ls (vl (fL σ 310 x) :: st) σ k) := exS_step.trans rfl
theorem ev_X2_wheelFrom_37 {ct : Nat → Bool} {K : Kt} {R : Option AV → Hp → Prop} {n : Nat} {ls : List (Option AV)} {st : List AV} {σ : Hp} {k : Nat × Nat} : xe_X2_wheelFrom ct K R (n + 1) 37 ls st σ k = (lI ls 1 fun x => xk_X2_wheelFrom ct K R n 38 ls (vi x :: st) σ k) := exS_step.trans rfl
theorem ev_X2_wheelFrom_38 {ct : Nat → Bool} {K : Kt} {R : Option AV → Hp → Prop} {n : Nat} {ls : List (Option AV)} {st : List AV} {σ : Hp} {k : Nat × Nat} : xe_X2_wheelFrom ct K R (n + 1) 38 ls st σ k = (oI st fun y st => oL st fun x st => xk_X2_wheelFrom ct K R n 39 ls (vl (x >>> (y % 64).toNat) :: st) σ k) := exS_step.trans rfl
theorem ev_X2_wheelFrom_39 {ct : Nat → Bool} {K : Kt} {R : Option AV → Hp → Prop} {n : Nat} {ls : List (Option AV)} {st : List AV} {σ : Hp} {k : Nat × Nat} : xe_X2_wheelFrom ct K R (n + 1) 39 ls st σ k = (lR ls 0 fun x => xk_X2_wheelFrom ct K R n 40 ls (vr x :: st) σ k) := exS_step.trans rfl
theorem ev_X2_wheelFrom_40 {ct : Nat → Bool} {K : Kt} {R : Option AV → Hp → Prop} {n : Nat} {ls : List (Option AV)} {st : List AV} {σ : Hp} {k : Nat × Nat} : xe_X2_wheelFrom ct K R (n + 1) 40 ls st σ k = (oR st fun x st => kd σ x = 3 ∧ xk_X2_wheelFrom ct K R n 43 ls (vl (fL σ 311 x) :: st) σ k) := exS_step.trans rfl
theorem ev_X2_wheelFrom_43 {ct : Nat → Bool} {K : Kt} {R : Option AV → Hp → Prop} {n : Nat} {ls : List (Option AV)} {st : List AV} {σ : Hp} {k : Nat × Nat} : xe_X2_wheelFrom ct K R (n + 1) 43 ls st σ k = (xk_X2_wheelFrom ct K R n 45 ls (vi (64) :: st) σ k) := exS_step.trans rfl
theorem ev_X2_wheelFrom_45 {ct : Nat → Bool} {K : Kt} {R : Option AV → Hp → Prop} {n : Nat} {ls : List (Option AV)} {st : List AV} {σ : Hp} {k : Nat × Nat} : xe_X2_wheelFrom ct K R (n + 1) 45 ls st σ k = (lI ls 1 fun x => xk_X2_wheelFrom ct K R n 46 ls (vi x :: st) σ k) := exS_step.trans rfl
theorem ev_X2_wheelFrom_46 {ct : Nat → Bool} {K : Kt} {R : Option AV → Hp → Prop} {n : Nat} {ls : List (Option AV)} {st : List AV} {σ : Hp} {k : Nat × Nat} : xe_X2_wheelFrom ct K R (n + 1) 46 ls st σ k = (oI st fun y st => oI st fun x st => xk_X2_wheelFrom ct K R n 47 ls (vi (x - y) :: st) σ k) := exS_step.trans rfl
theorem ev_X2_wheelFrom_47 {ct : Nat → Bool} {K : Kt} {R : Option AV → Hp → Prop} {n : Nat} {ls : List (Option AV)} {st : List AV} {σ : Hp} {k : Nat × Nat} : xe_X2_wheelFrom ct K R (n + 1) 47 ls st σ k = (oI st fun y st => oL st fun x st => xk_X2_wheelFrom ct K R n 48 ls (vl (x <<< (y % 64).toNat) :: st) σ k) := exS_step.trans rfl
theorem ev_X2_wheelFrom_48 {ct : Nat → Bool} {K : Kt} {R : Option AV → Hp → Prop} {n : Nat} {ls : List (Option AV)} {st : List AV} {σ : Hp} {k : Nat × Nat} : xe_X2_wheelFrom ct K R (n + 1) 48 ls st σ k = (oL st fun y st => oL st fun x st => xk_X2_wheelFrom ct K R n 49 ls (vl (x ||| y) :: st) σ k) := exS_step.trans rfl
theorem ev_X2_wheelFrom_49 {ct : Nat → Bool} {K : Kt} {R : Option AV → Hp → Prop} {n : Nat} {ls : List (Option AV)} {st : List AV} {σ : Hp} {k : Nat × Nat} : xe_X2_wheelFrom ct K R (n + 1) 49 ls st σ k = (oL st fun x st => st = [] ∧ 4 = 4 ∧ R (some (vl x)) σ) := exS_step.trans rfl
theorem ev_X2_wheelFrom_50 {ct : Nat → Bool} {K : Kt} {R : Option AV → Hp → Prop} {n : Nat} {ls : List (Option AV)} {st : List AV} {σ : Hp} {k : Nat × Nat} : xe_X2_wheelFrom ct K R (n + 1) 50 ls st σ k = (lR ls 0 fun x => xk_X2_wheelFrom ct K R n 51 ls (vr x :: st) σ k) := exS_step.trans rfl
theorem ev_X2_wheelFrom_51 {ct : Nat → Bool} {K : Kt} {R : Option AV → Hp → Prop} {n : Nat} {ls : List (Option AV)} {st : List AV} {σ : Hp} {k : Nat × Nat} : xe_X2_wheelFrom ct K R (n + 1) 51 ls st σ k = (oR st fun x st => kd σ x = 3 ∧ xk_X2_wheelFrom ct K R n 54 ls (vl (fL σ 311 x) :: st) σ k) := exS_step.trans rfl
theorem ev_X2_wheelFrom_54 {ct : Nat → Bool} {K : Kt} {R : Option AV → Hp → Prop} {n : Nat} {ls : List (Option AV)} {st : List AV} {σ : Hp} {k : Nat × Nat} : xe_X2_wheelFrom ct K R (n + 1) 54 ls st σ k = (lI ls 1 fun x => xk_X2_wheelFrom ct K R n 55 ls (vi x :: st) σ k) := exS_step.trans rfl
theorem ev_X2_wheelFrom_55 {ct : Nat → Bool} {K : Kt} {R : Option AV → Hp → Prop} {n : Nat} {ls : List (Option AV)} {st : List AV} {σ : Hp} {k : Nat × Nat} : xe_X2_wheelFrom ct K R (n + 1) 55 ls st σ k = (xk_X2_wheelFrom ct K R n 57 ls (vi (64) :: st) σ k) := exS_step.trans rfl
theorem ev_X2_wheelFrom_57 {ct : Nat → Bool} {K : Kt} {R : Option AV → Hp → Prop} {n : Nat} {ls : List (Option AV)} {st : List AV} {σ : Hp} {k : Nat × Nat} : xe_X2_wheelFrom ct K R (n + 1) 57 ls st σ k = (oI st fun y st => oI st fun x st => xk_X2_wheelFrom ct K R n 58 ls (vi (x - y) :: st) σ k) := exS_step.trans rfl
theorem ev_X2_wheelFrom_58 {ct : Nat → Bool} {K : Kt} {R : Option AV → Hp → Prop} {n : Nat} {ls : List (Option AV)} {st : List AV} {σ : Hp} {k : Nat × Nat} : xe_X2_wheelFrom ct K R (n + 1) 58 ls st σ k = (oI st fun y st => oL st fun x st => xk_X2_wheelFrom ct K R n 59 ls (vl (x >>> (y % 64).toNat) :: st) σ k) := exS_step.trans rfl
theorem ev_X2_wheelFrom_59 {ct : Nat → Bool} {K : Kt} {R : Option AV → Hp → Prop} {n : Nat} {ls : List (Option AV)} {st : List AV} {σ : Hp} {k : Nat × Nat} : xe_X2_wheelFrom ct K R (n + 1) 59 ls st σ k = (oL st fun x st => st = [] ∧ 4 = 4 ∧ R (some (vl x)) σ) := exS_step.trans rfl
def M_X2_wheelFrom : Md := (yX2_wheelFrom, cX2_wheelFrom, 2, (some FieldType.long), 1, 0, 0, 4, false, tb_X2_wheelFrom, mt_X2_wheelFrom)
theorem mm_X2_wheelFrom : MMOK M_X2_wheelFrom := ⟨by decide +kernel, tk_X2_wheelFrom, mk_X2_wheelFrom, rfl, fun h => by cases h⟩
theorem go_X2_wheelFrom {Q : Option AV → Hp → Prop} {ct : Nat → Bool} {pc : Nat} {ls : List (Option AV)} {st : List AV} {σ : Hp} {k : Nat × Nat} (n : Nat) (h : xe_X2_wheelFrom ct (Go M_X2_wheelFrom Q) Q n pc ls st σ k) : Go M_X2_wheelFrom Q pc ls st σ k := Go.exS mm_X2_wheelFrom h

set_option maxRecDepth 20000 in
theorem c_X2_wheelFrom : Ct yX2_wheelFrom cX2_wheelFrom 2 ((some FieldType.long)) 1 0 0 sp_X2_wheelFrom := by
  refine Ct.go (M := M_X2_wheelFrom) mm_X2_wheelFrom fun av σ Q h0 => ?_
  obtain ⟨this, o, rfl, hk, h⟩ := el_X2_wheelFrom h0
  clear h0
  refine ⟨Nat.le_of_ble_eq_true rfl, ?_⟩
  show Go M_X2_wheelFrom Q 0 [some (vr this), some (vi o)] [] σ (0, 0)
  obtain ⟨ho, h⟩ := h
  by_cases c0 : o ≤ -64 ∨ 128 ≤ o
  · have h := h 0#64 (fun j hj => by
      unfold whl
      rw [BitVec.getLsbD_zero]
      split
      · rfl
      · rw [if_neg (by omega)]; exact (BitVec.getLsbD_of_ge _ _ (by omega)).symm)
    refine go_X2_wheelFrom (ct := fun p => p == 15) 40 ?_
    simp only [oI, oL, oR, o1, lI, lL, lR, popN, catS, gv, stL, stL2, swt, cnd, spObj, List.getElem?_cons_zero, List.getElem?_cons_succ, List.getD_cons_zero, List.getD_cons_succ, List.set_cons_zero, List.set_cons_succ, List.nil_append, List.cons_append, Option.toList, Bool.or_false, Bool.false_or, Bool.or_true, Bool.true_or, Nat.reduceBEq, Nat.reduceAdd, Nat.reduceLT, Nat.reduceLeDiff, Int.reduceAdd, Int.reduceToNat, true_and, and_true, Fin.isValue, Fin.val_zero, Fin.val_one, Fin.val_two, Fin.reduceFinMk, eq_self, Int.reduceNeg, imp_self, Nat.reduceMul, Nat.le_refl, not_true_eq_false, not_false_eq_true, List.getElem?_nil, reduceCtorEq, true_or, or_true, Classical.not_not, implies_true, or_self, wI_0, wI_1, wI_m1, b2i_w, b2i_eq0, b2i_eq1, b2i_bool, nor_self, nx_pI, kd_pI, ln_pI, fI_pI, fL_pI, fR_pI, aI_pI, aL_pI, aR_pI, nx_pL, kd_pL, ln_pL, fI_pL, fL_pL, fR_pL, aI_pL, aL_pL, aR_pL, nx_pR, kd_pR, ln_pR, fI_pR, fL_pR, fR_pR, aI_pR, aL_pR, aR_pR, nx_qI, kd_qI, ln_qI, fI_qI, fL_qI, fR_qI, aI_qI, aL_qI, aR_qI, nx_qL, kd_qL, ln_qL, fI_qL, fL_qL, fR_qL, aI_qL, aL_qL, aR_qL, nx_qR, kd_qR, ln_qR, fI_qR, fL_qR, fR_qR, aI_qR, aL_qR, aR_qR, nx_mk, kd_mk, ln_mk, fI_mk, fL_mk, fR_mk, aI_mk, aL_mk, aR_mk, false_and, and_false, if_false, if_true, and_self, Int.reduceEq, Nat.reduceEqDiff, ite_self, MLay_pI, MLay_pL, MLay_qI, MLay_qL, ev_X2_wheelFrom_0, ev_X2_wheelFrom_1, ev_X2_wheelFrom_3, ev_X2_wheelFrom_6, ev_X2_wheelFrom_7, ev_X2_wheelFrom_10, ev_X2_wheelFrom_13, ev_X2_wheelFrom_14, xt_X2_wheelFrom, xf_X2_wheelFrom, hk]
    try simp (disch := omega) only [wI_id, dv_nn, rm_nn]
    repeat' (first | intro z | apply And.intro)
    all_goals try omega
    all_goals try contradiction
    all_goals exact h
  · by_cases c1 : o ≤ 0
    · have e1 : (-o % 64).toNat = (-o).toNat := by omega
      have h := h ((fL σ 310 this) <<< (-o).toNat) (fun j hj => by
        rw [BitVec.getLsbD_shiftLeft]
        unfold whl
        by_cases c2 : o + j < 0
        · rw [if_pos c2]; simp; omega
        · rw [if_neg c2, if_pos (by omega), show (o + (j : Int)).toNat = j - (-o).toNat by omega]
          simp; omega)
      refine go_X2_wheelFrom (ct := fun p => p == 13 || p == 27) 40 ?_
      simp only [oI, oL, oR, o1, lI, lL, lR, popN, catS, gv, stL, stL2, swt, cnd, spObj, List.getElem?_cons_zero, List.getElem?_cons_succ, List.getD_cons_zero, List.getD_cons_succ, List.set_cons_zero, List.set_cons_succ, List.nil_append, List.cons_append, Option.toList, Bool.or_false, Bool.false_or, Bool.or_true, Bool.true_or, Nat.reduceBEq, Nat.reduceAdd, Nat.reduceLT, Nat.reduceLeDiff, Int.reduceAdd, Int.reduceToNat, true_and, and_true, Fin.isValue, Fin.val_zero, Fin.val_one, Fin.val_two, Fin.reduceFinMk, eq_self, Int.reduceNeg, imp_self, Nat.reduceMul, Nat.le_refl, not_true_eq_false, not_false_eq_true, List.getElem?_nil, reduceCtorEq, true_or, or_true, Classical.not_not, implies_true, or_self, wI_0, wI_1, wI_m1, b2i_w, b2i_eq0, b2i_eq1, b2i_bool, nor_self, nx_pI, kd_pI, ln_pI, fI_pI, fL_pI, fR_pI, aI_pI, aL_pI, aR_pI, nx_pL, kd_pL, ln_pL, fI_pL, fL_pL, fR_pL, aI_pL, aL_pL, aR_pL, nx_pR, kd_pR, ln_pR, fI_pR, fL_pR, fR_pR, aI_pR, aL_pR, aR_pR, nx_qI, kd_qI, ln_qI, fI_qI, fL_qI, fR_qI, aI_qI, aL_qI, aR_qI, nx_qL, kd_qL, ln_qL, fI_qL, fL_qL, fR_qL, aI_qL, aL_qL, aR_qL, nx_qR, kd_qR, ln_qR, fI_qR, fL_qR, fR_qR, aI_qR, aL_qR, aR_qR, nx_mk, kd_mk, ln_mk, fI_mk, fL_mk, fR_mk, aI_mk, aL_mk, aR_mk, false_and, and_false, if_false, if_true, and_self, Int.reduceEq, Nat.reduceEqDiff, ite_self, MLay_pI, MLay_pL, MLay_qI, MLay_qL, ev_X2_wheelFrom_0, ev_X2_wheelFrom_1, ev_X2_wheelFrom_3, ev_X2_wheelFrom_6, ev_X2_wheelFrom_7, ev_X2_wheelFrom_10, ev_X2_wheelFrom_13, ev_X2_wheelFrom_14, ev_X2_wheelFrom_15, ev_X2_wheelFrom_16, ev_X2_wheelFrom_19, ev_X2_wheelFrom_20, ev_X2_wheelFrom_23, ev_X2_wheelFrom_24, ev_X2_wheelFrom_25, ev_X2_wheelFrom_26, xt_X2_wheelFrom, xf_X2_wheelFrom, hk, e1]
      try simp (disch := omega) only [wI_id, dv_nn, rm_nn]
      repeat' (first | intro z | apply And.intro)
      all_goals try omega
      all_goals try contradiction
      all_goals exact h
    · by_cases c2 : o < 64
      · have e1 : (o % 64).toNat = o.toNat := by omega
        have e2 : ((64 - o) % 64).toNat = (64 - o).toNat := by omega
        have h := h ((fL σ 310 this) >>> o.toNat ||| (fL σ 311 this) <<< (64 - o).toNat) (fun j hj => by
          rw [BitVec.getLsbD_or, BitVec.getLsbD_ushiftRight, BitVec.getLsbD_shiftLeft]
          unfold whl
          rw [if_neg (by omega)]
          by_cases c3 : o + j < 64
          · rw [if_pos c3, show (o + (j : Int)).toNat = o.toNat + j by omega]
            have : j < (64 - o).toNat := by omega
            simp [this]
          · rw [if_neg c3, show (o + (j : Int)).toNat - 64 = j - (64 - o).toNat by omega, BitVec.getLsbD_of_ge _ _ (show 64 ≤ o.toNat + j by omega)]
            have : ¬ j < (64 - o).toNat := by omega
            simp [this, hj])
        refine go_X2_wheelFrom (ct := fun p => p == 13 || p == 19 || p == 50) 40 ?_
        simp only [oI, oL, oR, o1, lI, lL, lR, popN, catS, gv, stL, stL2, swt, cnd, spObj, List.getElem?_cons_zero, List.getElem?_cons_succ, List.getD_cons_zero, List.getD_cons_succ, List.set_cons_zero, List.set_cons_succ, List.nil_append, List.cons_append, Option.toList, Bool.or_false, Bool.false_or, Bool.or_true, Bool.true_or, Nat.reduceBEq, Nat.reduceAdd, Nat.reduceLT, Nat.reduceLeDiff, Int.reduceAdd, Int.reduceToNat, true_and, and_true, Fin.isValue, Fin.val_zero, Fin.val_one, Fin.val_two, Fin.reduceFinMk, eq_self, Int.reduceNeg, imp_self, Nat.reduceMul, Nat.le_refl, not_true_eq_false, not_false_eq_true, List.getElem?_nil, reduceCtorEq, true_or, or_true, Classical.not_not, implies_true, or_self, wI_0, wI_1, wI_m1, b2i_w, b2i_eq0, b2i_eq1, b2i_bool, nor_self, nx_pI, kd_pI, ln_pI, fI_pI, fL_pI, fR_pI, aI_pI, aL_pI, aR_pI, nx_pL, kd_pL, ln_pL, fI_pL, fL_pL, fR_pL, aI_pL, aL_pL, aR_pL, nx_pR, kd_pR, ln_pR, fI_pR, fL_pR, fR_pR, aI_pR, aL_pR, aR_pR, nx_qI, kd_qI, ln_qI, fI_qI, fL_qI, fR_qI, aI_qI, aL_qI, aR_qI, nx_qL, kd_qL, ln_qL, fI_qL, fL_qL, fR_qL, aI_qL, aL_qL, aR_qL, nx_qR, kd_qR, ln_qR, fI_qR, fL_qR, fR_qR, aI_qR, aL_qR, aR_qR, nx_mk, kd_mk, ln_mk, fI_mk, fL_mk, fR_mk, aI_mk, aL_mk, aR_mk, false_and, and_false, if_false, if_true, and_self, Int.reduceEq, Nat.reduceEqDiff, ite_self, MLay_pI, MLay_pL, MLay_qI, MLay_qL, ev_X2_wheelFrom_0, ev_X2_wheelFrom_1, ev_X2_wheelFrom_3, ev_X2_wheelFrom_6, ev_X2_wheelFrom_7, ev_X2_wheelFrom_10, ev_X2_wheelFrom_13, ev_X2_wheelFrom_14, ev_X2_wheelFrom_15, ev_X2_wheelFrom_16, ev_X2_wheelFrom_19, ev_X2_wheelFrom_20, ev_X2_wheelFrom_23, ev_X2_wheelFrom_24, ev_X2_wheelFrom_25, ev_X2_wheelFrom_26, ev_X2_wheelFrom_27, ev_X2_wheelFrom_28, ev_X2_wheelFrom_30, ev_X2_wheelFrom_33, ev_X2_wheelFrom_34, ev_X2_wheelFrom_37, ev_X2_wheelFrom_38, ev_X2_wheelFrom_39, ev_X2_wheelFrom_40, ev_X2_wheelFrom_43, ev_X2_wheelFrom_45, ev_X2_wheelFrom_46, ev_X2_wheelFrom_47, ev_X2_wheelFrom_48, ev_X2_wheelFrom_49, xt_X2_wheelFrom, xf_X2_wheelFrom, hk, e1, e2]
        try simp (disch := omega) only [wI_id, dv_nn, rm_nn]
        repeat' (first | intro z | apply And.intro)
        all_goals try omega
        all_goals try contradiction
        all_goals exact h
      · have e1 : ((o - 64) % 64).toNat = (o - 64).toNat := by omega
        have h := h ((fL σ 311 this) >>> (o - 64).toNat) (fun j hj => by
          rw [BitVec.getLsbD_ushiftRight]
          unfold whl
          rw [if_neg (by omega), if_neg (by omega), show (o + (j : Int)).toNat - 64 = (o - 64).toNat + j by omega])
        refine go_X2_wheelFrom (ct := fun p => p == 13 || p == 19 || p == 33) 40 ?_
        simp only [oI, oL, oR, o1, lI, lL, lR, popN, catS, gv, stL, stL2, swt, cnd, spObj, List.getElem?_cons_zero, List.getElem?_cons_succ, List.getD_cons_zero, List.getD_cons_succ, List.set_cons_zero, List.set_cons_succ, List.nil_append, List.cons_append, Option.toList, Bool.or_false, Bool.false_or, Bool.or_true, Bool.true_or, Nat.reduceBEq, Nat.reduceAdd, Nat.reduceLT, Nat.reduceLeDiff, Int.reduceAdd, Int.reduceToNat, true_and, and_true, Fin.isValue, Fin.val_zero, Fin.val_one, Fin.val_two, Fin.reduceFinMk, eq_self, Int.reduceNeg, imp_self, Nat.reduceMul, Nat.le_refl, not_true_eq_false, not_false_eq_true, List.getElem?_nil, reduceCtorEq, true_or, or_true, Classical.not_not, implies_true, or_self, wI_0, wI_1, wI_m1, b2i_w, b2i_eq0, b2i_eq1, b2i_bool, nor_self, nx_pI, kd_pI, ln_pI, fI_pI, fL_pI, fR_pI, aI_pI, aL_pI, aR_pI, nx_pL, kd_pL, ln_pL, fI_pL, fL_pL, fR_pL, aI_pL, aL_pL, aR_pL, nx_pR, kd_pR, ln_pR, fI_pR, fL_pR, fR_pR, aI_pR, aL_pR, aR_pR, nx_qI, kd_qI, ln_qI, fI_qI, fL_qI, fR_qI, aI_qI, aL_qI, aR_qI, nx_qL, kd_qL, ln_qL, fI_qL, fL_qL, fR_qL, aI_qL, aL_qL, aR_qL, nx_qR, kd_qR, ln_qR, fI_qR, fL_qR, fR_qR, aI_qR, aL_qR, aR_qR, nx_mk, kd_mk, ln_mk, fI_mk, fL_mk, fR_mk, aI_mk, aL_mk, aR_mk, false_and, and_false, if_false, if_true, and_self, Int.reduceEq, Nat.reduceEqDiff, ite_self, MLay_pI, MLay_pL, MLay_qI, MLay_qL, ev_X2_wheelFrom_0, ev_X2_wheelFrom_1, ev_X2_wheelFrom_3, ev_X2_wheelFrom_6, ev_X2_wheelFrom_7, ev_X2_wheelFrom_10, ev_X2_wheelFrom_13, ev_X2_wheelFrom_14, ev_X2_wheelFrom_15, ev_X2_wheelFrom_16, ev_X2_wheelFrom_19, ev_X2_wheelFrom_20, ev_X2_wheelFrom_23, ev_X2_wheelFrom_24, ev_X2_wheelFrom_25, ev_X2_wheelFrom_26, ev_X2_wheelFrom_27, ev_X2_wheelFrom_28, ev_X2_wheelFrom_30, ev_X2_wheelFrom_33, ev_X2_wheelFrom_34, ev_X2_wheelFrom_37, ev_X2_wheelFrom_38, ev_X2_wheelFrom_39, ev_X2_wheelFrom_40, ev_X2_wheelFrom_43, ev_X2_wheelFrom_45, ev_X2_wheelFrom_46, ev_X2_wheelFrom_47, ev_X2_wheelFrom_48, ev_X2_wheelFrom_49, ev_X2_wheelFrom_50, ev_X2_wheelFrom_51, ev_X2_wheelFrom_54, ev_X2_wheelFrom_55, ev_X2_wheelFrom_57, ev_X2_wheelFrom_58, ev_X2_wheelFrom_59, xt_X2_wheelFrom, xf_X2_wheelFrom, hk, e1]
        try simp (disch := omega) only [wI_id, dv_nn, rm_nn]
        repeat' (first | intro z | apply And.intro)
        all_goals try omega
        all_goals try contradiction
        all_goals exact h

/-- a round of knocks laid on the wheel -/
def cRnd (σ : Hp) (p : Int) (r : BitVec 64) (s : Int) : Hp := if s = 0 then pL σ 310 p (fL σ 310 p ||| r) else if s < 64 then pL (pL σ 310 p (fL σ 310 p ||| r <<< s.toNat)) 311 p (fL σ 311 p ||| r >>> (64 - s).toNat) else pL σ 311 p (fL σ 311 p ||| r <<< (s - 64).toNat)

def sp_X2_cutRound : Sp := fun av σ Q => oR av fun this av => oL av fun r av => oI av fun s av => av = [] ∧ kd σ this = 3 ∧ ((0 ≤ s ∧ s < 128) ∧ Q none (cRnd σ this r s))
theorem us_X2_cutRound (this : Int) (r : BitVec 64) (s : Int) (σ : Hp) (Q : Option AV → Hp → Prop) : sp_X2_cutRound [vr this, vl r, vi s] σ Q = (kd σ this = 3 ∧ ((0 ≤ s ∧ s < 128) ∧ Q none (cRnd σ this r s))) := propext ⟨fun h => h.2, fun h => ⟨rfl, h⟩⟩
theorem el_X2_cutRound {av : List AV} {σ : Hp} {Q : Option AV → Hp → Prop} (h : sp_X2_cutRound av σ Q) : ∃ (this : Int) (r : BitVec 64) (s : Int), av = [vr this, vl r, vi s] ∧ (kd σ this = 3 ∧ ((0 ≤ s ∧ s < 128) ∧ Q none (cRnd σ this r s))) := by
  obtain ⟨this, a0, rfl, h0⟩ := oR_s h
  obtain ⟨r, a1, rfl, h1⟩ := oL_s h0
  obtain ⟨s, a2, rfl, h2⟩ := oI_s h1
  obtain ⟨rfl, hz⟩ := h2
  exact ⟨this, r, s, rfl, hz⟩
theorem rc_X2_cutRound : ∀ (av : List AV) (σ : Hp) (Q : Option AV → Hp → Prop), sp_X2_cutRound av σ Q → ∃ r tl, av = vr r :: tl ∧ kd σ r = 2 + 1 := fun av σ Q h => by
  obtain ⟨this, r, s, rfl, hz, -⟩ := el_X2_cutRound h
  exact ⟨this, _, rfl, hz⟩

def tb_X2_cutRound : Tab := [(0, .iload_n 3, 1, (0, 0, 0, 0)), (1, .ifCond .ne 16, 3, (0, 0, 0, 0)), (4, .aload_n 0, 1, (0, 0, 0, 0)), (5, .dup, 1, (0, 0, 0, 0)), (6, .getfield 52, 3, (3, 310, 1, 0)), (9, .lload_n 1, 1, (0, 0, 0, 0)), (10, .lor, 1, (0, 0, 0, 0)), (11, .putfield 52, 3, (3, 310, 1, 0)), (14, .goto 54, 3, (0, 0, 0, 0)), (17, .iload_n 3, 1, (0, 0, 0, 0)), (18, .bipush 64, 2, (0, 0, 0, 0)), (20, .if_icmp .ge 33, 3, (0, 0, 0, 0)), (23, .aload_n 0, 1, (0, 0, 0, 0)), (24, .dup, 1, (0, 0, 0, 0)), (25, .getfield 52, 3, (3, 310, 1, 0)), (28, .lload_n 1, 1, (0, 0, 0, 0)), (29, .iload_n 3, 1, (0, 0, 0, 0)), (30, .lshl, 1, (0, 0, 0, 0)), (31, .lor, 1, (0, 0, 0, 0)), (32, .putfield 52, 3, (3, 310, 1, 0)), (35, .aload_n 0, 1, (0, 0, 0, 0)), (36, .dup, 1, (0, 0, 0, 0)), (37, .getfield 56, 3, (3, 311, 1, 0)), (40, .lload_n 1, 1, (0, 0, 0, 0)), (41, .bipush 64, 2, (0, 0, 0, 0)), (43, .iload_n 3, 1, (0, 0, 0, 0)), (44, .isub, 1, (0, 0, 0, 0)), (45, .lushr, 1, (0, 0, 0, 0)), (46, .lor, 1, (0, 0, 0, 0)), (47, .putfield 56, 3, (3, 311, 1, 0)), (50, .goto 18, 3, (0, 0, 0, 0)), (53, .aload_n 0, 1, (0, 0, 0, 0)), (54, .dup, 1, (0, 0, 0, 0)), (55, .getfield 56, 3, (3, 311, 1, 0)), (58, .lload_n 1, 1, (0, 0, 0, 0)), (59, .iload_n 3, 1, (0, 0, 0, 0)), (60, .bipush 64, 2, (0, 0, 0, 0)), (62, .isub, 1, (0, 0, 0, 0)), (63, .lshl, 1, (0, 0, 0, 0)), (64, .lor, 1, (0, 0, 0, 0)), (65, .putfield 56, 3, (3, 311, 1, 0)), (68, .return_, 1, (0, 0, 0, 0))]
set_option maxRecDepth 100000 in
theorem tk_X2_cutRound : TOK RX2 false cX2_cutRound tb_X2_cutRound := chkT_ok ft_X2 (by decide +kernel)
def mt_X2_cutRound : List (Nat × Mt) := []
theorem mk_X2_cutRound : MOK RX2 mt_X2_cutRound := fun q hq => by cases hq
noncomputable def xe_X2_cutRound (ct : Nat → Bool) (K : Kt) (R : Option AV → Hp → Prop) (n : Nat) : Kt := exS 4 1 0 0 0 tb_X2_cutRound mt_X2_cutRound ct K R n
noncomputable def xk_X2_cutRound (ct : Nat → Bool) (K : Kt) (R : Option AV → Hp → Prop) (n : Nat) : Kt := exkS 4 1 0 0 0 tb_X2_cutRound mt_X2_cutRound ct K R n
theorem xt_X2_cutRound {ct : Nat → Bool} {K : Kt} {R : Option AV → Hp → Prop} {n pc : Nat} {ls : List (Option AV)} {st : List AV} {σ : Hp} {k : Nat × Nat} (h : ct pc = true) : xk_X2_cutRound ct K R n pc ls st σ k = K pc ls st σ k := by unfold xk_X2_cutRound exkS; rw [h]
theorem xf_X2_cutRound {ct : Nat → Bool} {K : Kt} {R : Option AV → Hp → Prop} {n pc : Nat} {ls : List (Option AV)} {st : List AV} {σ : Hp} {k : Nat × Nat} (h : ct pc = false) : xk_X2_cutRound ct K R n pc ls st σ k = xe_X2_cutRound ct K R n pc ls st σ k := by unfold xk_X2_cutRound exkS xe_X2_cutRound; rw [h]
theorem ev_X2_cutRound_0 {ct : Nat → Bool} {K : Kt} {R : Option AV → Hp → Prop} {n : Nat} {ls : List (Option AV)} {st : List AV} {σ : Hp} {k : Nat × Nat} : xe_X2_cutRound ct K R (n + 1) 0 ls st σ k = (lI ls 3 fun x => xk_X2_cutRound ct K R n 1 ls (vi x :: st) σ k) := exS_step.trans rfl
theorem ev_X2_cutRound_1 {ct : Nat → Bool} {K : Kt} {R : Option AV → Hp → Prop} {n : Nat} {ls : List (Option AV)} {st : List AV} {σ : Hp} {k : Nat × Nat} : xe_X2_cutRound ct K R (n + 1) 1 ls st σ k = (oI st fun x st => (¬ wI x = wI 0 → xk_X2_cutRound ct K R n 17 ls st σ k) ∧ (¬ (¬ wI x = wI 0) → xk_X2_cutRound ct K R n 4 ls st σ k)) := exS_step.trans rfl
theorem ev_X2_cutRound_4 {ct : Nat → Bool} {K : Kt} {R : Option AV → Hp → Prop} {n : Nat} {ls : List (Option AV)} {st : List AV} {σ : Hp} {k : Nat × Nat} : xe_X2_cutRound ct K R (n + 1) 4 ls st σ k = (lR ls 0 fun x => xk_X2_cutRound ct K R n 5 ls (vr x :: st) σ k) := exS_step.trans rfl
theorem ev_X2_cutRound_5 {ct : Nat → Bool} {K : Kt} {R : Option AV → Hp → Prop} {n : Nat} {ls : List (Option AV)} {st : List AV} {σ : Hp} {k : Nat × Nat} : xe_X2_cutRound ct K R (n + 1) 5 ls st σ k = (o1 st fun v st => xk_X2_cutRound ct K R n 6 ls (v :: v :: st) σ k) := exS_step.trans rfl
theorem ev_X2_cutRound_6 {ct : Nat → Bool} {K : Kt} {R : Option AV → Hp → Prop} {n : Nat} {ls : List (Option AV)} {st : List AV} {σ : Hp} {k : Nat × Nat} : xe_X2_cutRound ct K R (n + 1) 6 ls st σ k = (oR st fun x st => kd σ x = 3 ∧ xk_X2_cutRound ct K R n 9 ls (vl (fL σ 310 x) :: st) σ k) := exS_step.trans rfl
theorem ev_X2_cutRound_9 {ct : Nat → Bool} {K : Kt} {R : Option AV → Hp → Prop} {n : Nat} {ls : List (Option AV)} {st : List AV} {σ : Hp} {k : Nat × Nat} : xe_X2_cutRound ct K R (n + 1) 9 ls st σ k = (lL ls 1 fun x => xk_X2_cutRound ct K R n 10 ls (vl x :: st) σ k) := exS_step.trans rfl
theorem ev_X2_cutRound_10 {ct : Nat → Bool} {K : Kt} {R : Option AV → Hp → Prop} {n : Nat} {ls : List (Option AV)} {st : List AV} {σ : Hp} {k : Nat × Nat} : xe_X2_cutRound ct K R (n + 1) 10 ls st σ k = (oL st fun y st => oL st fun x st => xk_X2_cutRound ct K R n 11 ls (vl (x ||| y) :: st) σ k) := exS_step.trans rfl
theorem ev_X2_cutRound_11 {ct : Nat → Bool} {K : Kt} {R : Option AV → Hp → Prop} {n : Nat} {ls : List (Option AV)} {st : List AV} {σ : Hp} {k : Nat × Nat} : xe_X2_cutRound ct K R (n + 1) 11 ls st σ k = (oL st fun v st => oR st fun x st => kd σ x = 3 ∧ xk_X2_cutRound ct K R n 14 ls st (pL σ 310 x v) k) := exS_step.trans rfl
theorem ev_X2_cutRound_14 {ct : Nat → Bool} {K : Kt} {R : Option AV → Hp → Prop} {n : Nat} {ls : List (Option AV)} {st : List AV} {σ : Hp} {k : Nat × Nat} : xe_X2_cutRound ct K R (n + 1) 14 ls st σ k = (xk_X2_cutRound ct K R n 68 ls st σ k) := exS_step.trans rfl
theorem ev_X2_cutRound_17 {ct : Nat → Bool} {K : Kt} {R : Option AV → Hp → Prop} {n : Nat} {ls : List (Option AV)} {st : List AV} {σ : Hp} {k : Nat × Nat} : xe_X2_cutRound ct K R (n + 1) 17 ls st σ k = (lI ls 3 fun x => xk_X2_cutRound ct K R n 18 ls (vi x :: st) σ k) := exS_step.trans rfl
theorem ev_X2_cutRound_18 {ct : Nat → Bool} {K : Kt} {R : Option AV → Hp → Prop} {n : Nat} {ls : List (Option AV)} {st : List AV} {σ : Hp} {k : Nat × Nat} : xe_X2_cutRound ct K R (n + 1) 18 ls st σ k = (xk_X2_cutRound ct K R n 20 ls (vi (64) :: st) σ k) := exS_step.trans rfl
theorem ev_X2_cutRound_20 {ct : Nat → Bool} {K : Kt} {R : Option AV → Hp → Prop} {n : Nat} {ls : List (Option AV)} {st : List AV} {σ : Hp} {k : Nat × Nat} : xe_X2_cutRound ct K R (n + 1) 20 ls st σ k = (oI st fun y st => oI st fun x st => (wI y ≤ wI x → xk_X2_cutRound ct K R n 53 ls st σ k) ∧ (¬ (wI y ≤ wI x) → xk_X2_cutRound ct K R n 23 ls st σ k)) := exS_step.trans rfl
theorem ev_X2_cutRound_23 {ct : Nat → Bool} {K : Kt} {R : Option AV → Hp → Prop} {n : Nat} {ls : List (Option AV)} {st : List AV} {σ : Hp} {k : Nat × Nat} : xe_X2_cutRound ct K R (n + 1) 23 ls st σ k = (lR ls 0 fun x => xk_X2_cutRound ct K R n 24 ls (vr x :: st) σ k) := exS_step.trans rfl
theorem ev_X2_cutRound_24 {ct : Nat → Bool} {K : Kt} {R : Option AV → Hp → Prop} {n : Nat} {ls : List (Option AV)} {st : List AV} {σ : Hp} {k : Nat × Nat} : xe_X2_cutRound ct K R (n + 1) 24 ls st σ k = (o1 st fun v st => xk_X2_cutRound ct K R n 25 ls (v :: v :: st) σ k) := exS_step.trans rfl
theorem ev_X2_cutRound_25 {ct : Nat → Bool} {K : Kt} {R : Option AV → Hp → Prop} {n : Nat} {ls : List (Option AV)} {st : List AV} {σ : Hp} {k : Nat × Nat} : xe_X2_cutRound ct K R (n + 1) 25 ls st σ k = (oR st fun x st => kd σ x = 3 ∧ xk_X2_cutRound ct K R n 28 ls (vl (fL σ 310 x) :: st) σ k) := exS_step.trans rfl
theorem ev_X2_cutRound_28 {ct : Nat → Bool} {K : Kt} {R : Option AV → Hp → Prop} {n : Nat} {ls : List (Option AV)} {st : List AV} {σ : Hp} {k : Nat × Nat} : xe_X2_cutRound ct K R (n + 1) 28 ls st σ k = (lL ls 1 fun x => xk_X2_cutRound ct K R n 29 ls (vl x :: st) σ k) := exS_step.trans rfl
theorem ev_X2_cutRound_29 {ct : Nat → Bool} {K : Kt} {R : Option AV → Hp → Prop} {n : Nat} {ls : List (Option AV)} {st : List AV} {σ : Hp} {k : Nat × Nat} : xe_X2_cutRound ct K R (n + 1) 29 ls st σ k = (lI ls 3 fun x => xk_X2_cutRound ct K R n 30 ls (vi x :: st) σ k) := exS_step.trans rfl
theorem ev_X2_cutRound_30 {ct : Nat → Bool} {K : Kt} {R : Option AV → Hp → Prop} {n : Nat} {ls : List (Option AV)} {st : List AV} {σ : Hp} {k : Nat × Nat} : xe_X2_cutRound ct K R (n + 1) 30 ls st σ k = (oI st fun y st => oL st fun x st => xk_X2_cutRound ct K R n 31 ls (vl (x <<< (y % 64).toNat) :: st) σ k) := exS_step.trans rfl
theorem ev_X2_cutRound_31 {ct : Nat → Bool} {K : Kt} {R : Option AV → Hp → Prop} {n : Nat} {ls : List (Option AV)} {st : List AV} {σ : Hp} {k : Nat × Nat} : xe_X2_cutRound ct K R (n + 1) 31 ls st σ k = (oL st fun y st => oL st fun x st => xk_X2_cutRound ct K R n 32 ls (vl (x ||| y) :: st) σ k) := exS_step.trans rfl
theorem ev_X2_cutRound_32 {ct : Nat → Bool} {K : Kt} {R : Option AV → Hp → Prop} {n : Nat} {ls : List (Option AV)} {st : List AV} {σ : Hp} {k : Nat × Nat} : xe_X2_cutRound ct K R (n + 1) 32 ls st σ k = (oL st fun v st => oR st fun x st => kd σ x = 3 ∧ xk_X2_cutRound ct K R n 35 ls st (pL σ 310 x v) k) := exS_step.trans rfl
theorem ev_X2_cutRound_35 {ct : Nat → Bool} {K : Kt} {R : Option AV → Hp → Prop} {n : Nat} {ls : List (Option AV)} {st : List AV} {σ : Hp} {k : Nat × Nat} : xe_X2_cutRound ct K R (n + 1) 35 ls st σ k = (lR ls 0 fun x => xk_X2_cutRound ct K R n 36 ls (vr x :: st) σ k) := exS_step.trans rfl
theorem ev_X2_cutRound_36 {ct : Nat → Bool} {K : Kt} {R : Option AV → Hp → Prop} {n : Nat} {ls : List (Option AV)} {st : List AV} {σ : Hp} {k : Nat × Nat} : xe_X2_cutRound ct K R (n + 1) 36 ls st σ k = (o1 st fun v st => xk_X2_cutRound ct K R n 37 ls (v :: v :: st) σ k) := exS_step.trans rfl
theorem ev_X2_cutRound_37 {ct : Nat → Bool} {K : Kt} {R : Option AV → Hp → Prop} {n : Nat} {ls : List (Option AV)} {st : List AV} {σ : Hp} {k : Nat × Nat} : xe_X2_cutRound ct K R (n + 1) 37 ls st σ k = (oR st fun x st => kd σ x = 3 ∧ xk_X2_cutRound ct K R n 40 ls (vl (fL σ 311 x) :: st) σ k) := exS_step.trans rfl
theorem ev_X2_cutRound_40 {ct : Nat → Bool} {K : Kt} {R : Option AV → Hp → Prop} {n : Nat} {ls : List (Option AV)} {st : List AV} {σ : Hp} {k : Nat × Nat} : xe_X2_cutRound ct K R (n + 1) 40 ls st σ k = (lL ls 1 fun x => xk_X2_cutRound ct K R n 41 ls (vl x :: st) σ k) := exS_step.trans rfl
theorem ev_X2_cutRound_41 {ct : Nat → Bool} {K : Kt} {R : Option AV → Hp → Prop} {n : Nat} {ls : List (Option AV)} {st : List AV} {σ : Hp} {k : Nat × Nat} : xe_X2_cutRound ct K R (n + 1) 41 ls st σ k = (xk_X2_cutRound ct K R n 43 ls (vi (64) :: st) σ k) := exS_step.trans rfl
theorem ev_X2_cutRound_43 {ct : Nat → Bool} {K : Kt} {R : Option AV → Hp → Prop} {n : Nat} {ls : List (Option AV)} {st : List AV} {σ : Hp} {k : Nat × Nat} : xe_X2_cutRound ct K R (n + 1) 43 ls st σ k = (lI ls 3 fun x => xk_X2_cutRound ct K R n 44 ls (vi x :: st) σ k) := exS_step.trans rfl
theorem ev_X2_cutRound_44 {ct : Nat → Bool} {K : Kt} {R : Option AV → Hp → Prop} {n : Nat} {ls : List (Option AV)} {st : List AV} {σ : Hp} {k : Nat × Nat} : xe_X2_cutRound ct K R (n + 1) 44 ls st σ k = (oI st fun y st => oI st fun x st => xk_X2_cutRound ct K R n 45 ls (vi (x - y) :: st) σ k) := exS_step.trans rfl
theorem ev_X2_cutRound_45 {ct : Nat → Bool} {K : Kt} {R : Option AV → Hp → Prop} {n : Nat} {ls : List (Option AV)} {st : List AV} {σ : Hp} {k : Nat × Nat} : xe_X2_cutRound ct K R (n + 1) 45 ls st σ k = (oI st fun y st => oL st fun x st => xk_X2_cutRound ct K R n 46 ls (vl (x >>> (y % 64).toNat) :: st) σ k) := exS_step.trans rfl
theorem ev_X2_cutRound_46 {ct : Nat → Bool} {K : Kt} {R : Option AV → Hp → Prop} {n : Nat} {ls : List (Option AV)} {st : List AV} {σ : Hp} {k : Nat × Nat} : xe_X2_cutRound ct K R (n + 1) 46 ls st σ k = (oL st fun y st => oL st fun x st => xk_X2_cutRound ct K R n 47 ls (vl (x ||| y) :: st) σ k) := exS_step.trans rfl
theorem ev_X2_cutRound_47 {ct : Nat → Bool} {K : Kt} {R : Option AV → Hp → Prop} {n : Nat} {ls : List (Option AV)} {st : List AV} {σ : Hp} {k : Nat × Nat} : xe_X2_cutRound ct K R (n + 1) 47 ls st σ k = (oL st fun v st => oR st fun x st => kd σ x = 3 ∧ xk_X2_cutRound ct K R n 50 ls st (pL σ 311 x v) k) := exS_step.trans rfl
theorem ev_X2_cutRound_50 {ct : Nat → Bool} {K : Kt} {R : Option AV → Hp → Prop} {n : Nat} {ls : List (Option AV)} {st : List AV} {σ : Hp} {k : Nat × Nat} : xe_X2_cutRound ct K R (n + 1) 50 ls st σ k = (xk_X2_cutRound ct K R n 68 ls st σ k) := exS_step.trans rfl
theorem ev_X2_cutRound_53 {ct : Nat → Bool} {K : Kt} {R : Option AV → Hp → Prop} {n : Nat} {ls : List (Option AV)} {st : List AV} {σ : Hp} {k : Nat × Nat} : xe_X2_cutRound ct K R (n + 1) 53 ls st σ k = (lR ls 0 fun x => xk_X2_cutRound ct K R n 54 ls (vr x :: st) σ k) := exS_step.trans rfl
theorem ev_X2_cutRound_54 {ct : Nat → Bool} {K : Kt} {R : Option AV → Hp → Prop} {n : Nat} {ls : List (Option AV)} {st : List AV} {σ : Hp} {k : Nat × Nat} : xe_X2_cutRound ct K R (n + 1) 54 ls st σ k = (o1 st fun v st => xk_X2_cutRound ct K R n 55 ls (v :: v :: st) σ k) := exS_step.trans rfl
theorem ev_X2_cutRound_55 {ct : Nat → Bool} {K : Kt} {R : Option AV → Hp → Prop} {n : Nat} {ls : List (Option AV)} {st : List AV} {σ : Hp} {k : Nat × Nat} : xe_X2_cutRound ct K R (n + 1) 55 ls st σ k = (oR st fun x st => kd σ x = 3 ∧ xk_X2_cutRound ct K R n 58 ls (vl (fL σ 311 x) :: st) σ k) := exS_step.trans rfl
theorem ev_X2_cutRound_58 {ct : Nat → Bool} {K : Kt} {R : Option AV → Hp → Prop} {n : Nat} {ls : List (Option AV)} {st : List AV} {σ : Hp} {k : Nat × Nat} : xe_X2_cutRound ct K R (n + 1) 58 ls st σ k = (lL ls 1 fun x => xk_X2_cutRound ct K R n 59 ls (vl x :: st) σ k) := exS_step.trans rfl
theorem ev_X2_cutRound_59 {ct : Nat → Bool} {K : Kt} {R : Option AV → Hp → Prop} {n : Nat} {ls : List (Option AV)} {st : List AV} {σ : Hp} {k : Nat × Nat} : xe_X2_cutRound ct K R (n + 1) 59 ls st σ k = (lI ls 3 fun x => xk_X2_cutRound ct K R n 60 ls (vi x :: st) σ k) := exS_step.trans rfl
theorem ev_X2_cutRound_60 {ct : Nat → Bool} {K : Kt} {R : Option AV → Hp → Prop} {n : Nat} {ls : List (Option AV)} {st : List AV} {σ : Hp} {k : Nat × Nat} : xe_X2_cutRound ct K R (n + 1) 60 ls st σ k = (xk_X2_cutRound ct K R n 62 ls (vi (64) :: st) σ k) := exS_step.trans rfl
theorem ev_X2_cutRound_62 {ct : Nat → Bool} {K : Kt} {R : Option AV → Hp → Prop} {n : Nat} {ls : List (Option AV)} {st : List AV} {σ : Hp} {k : Nat × Nat} : xe_X2_cutRound ct K R (n + 1) 62 ls st σ k = (oI st fun y st => oI st fun x st => xk_X2_cutRound ct K R n 63 ls (vi (x - y) :: st) σ k) := exS_step.trans rfl
theorem ev_X2_cutRound_63 {ct : Nat → Bool} {K : Kt} {R : Option AV → Hp → Prop} {n : Nat} {ls : List (Option AV)} {st : List AV} {σ : Hp} {k : Nat × Nat} : xe_X2_cutRound ct K R (n + 1) 63 ls st σ k = (oI st fun y st => oL st fun x st => xk_X2_cutRound ct K R n 64 ls (vl (x <<< (y % 64).toNat) :: st) σ k) := exS_step.trans rfl
theorem ev_X2_cutRound_64 {ct : Nat → Bool} {K : Kt} {R : Option AV → Hp → Prop} {n : Nat} {ls : List (Option AV)} {st : List AV} {σ : Hp} {k : Nat × Nat} : xe_X2_cutRound ct K R (n + 1) 64 ls st σ k = (oL st fun y st => oL st fun x st => xk_X2_cutRound ct K R n 65 ls (vl (x ||| y) :: st) σ k) := exS_step.trans rfl
theorem ev_X2_cutRound_65 {ct : Nat → Bool} {K : Kt} {R : Option AV → Hp → Prop} {n : Nat} {ls : List (Option AV)} {st : List AV} {σ : Hp} {k : Nat × Nat} : xe_X2_cutRound ct K R (n + 1) 65 ls st σ k = (oL st fun v st => oR st fun x st => kd σ x = 3 ∧ xk_X2_cutRound ct K R n 68 ls st (pL σ 311 x v) k) := exS_step.trans rfl
theorem ev_X2_cutRound_68 {ct : Nat → Bool} {K : Kt} {R : Option AV → Hp → Prop} {n : Nat} {ls : List (Option AV)} {st : List AV} {σ : Hp} {k : Nat × Nat} : xe_X2_cutRound ct K R (n + 1) 68 ls st σ k = (st = [] ∧ 0 = 0 ∧ R none σ) := exS_step.trans rfl
def M_X2_cutRound : Md := (yX2_cutRound, cX2_cutRound, 4, (none : Option FieldType), 1, 0, 0, 0, false, tb_X2_cutRound, mt_X2_cutRound)
theorem mm_X2_cutRound : MMOK M_X2_cutRound := ⟨by decide +kernel, tk_X2_cutRound, mk_X2_cutRound, rfl, fun h => by cases h⟩
theorem go_X2_cutRound {Q : Option AV → Hp → Prop} {ct : Nat → Bool} {pc : Nat} {ls : List (Option AV)} {st : List AV} {σ : Hp} {k : Nat × Nat} (n : Nat) (h : xe_X2_cutRound ct (Go M_X2_cutRound Q) Q n pc ls st σ k) : Go M_X2_cutRound Q pc ls st σ k := Go.exS mm_X2_cutRound h

set_option maxRecDepth 20000 in
theorem c_X2_cutRound : Ct yX2_cutRound cX2_cutRound 4 ((none : Option FieldType)) 1 0 0 sp_X2_cutRound := by
  refine Ct.go (M := M_X2_cutRound) mm_X2_cutRound fun av σ Q h0 => ?_
  obtain ⟨this, r, s, rfl, hk, h⟩ := el_X2_cutRound h0
  clear h0
  refine ⟨Nat.le_of_ble_eq_true rfl, ?_⟩
  show Go M_X2_cutRound Q 0 [some (vr this), some (vl r), none, some (vi s)] [] σ (0, 0)
  obtain ⟨hs, h⟩ := h
  unfold cRnd at h
  by_cases c0 : s = 0
  · subst c0
    rw [if_pos rfl] at h
    refine go_X2_cutRound (ct := fun p => p == 17) 40 ?_
    simp only [oI, oL, oR, o1, lI, lL, lR, popN, catS, gv, stL, stL2, swt, cnd, spObj, List.getElem?_cons_zero, List.getElem?_cons_succ, List.getD_cons_zero, List.getD_cons_succ, List.set_cons_zero, List.set_cons_succ, List.nil_append, List.cons_append, Option.toList, Bool.or_false, Bool.false_or, Bool.or_true, Bool.true_or, Nat.reduceBEq, Nat.reduceAdd, Nat.reduceLT, Nat.reduceLeDiff, Int.reduceAdd, Int.reduceToNat, true_and, and_true, Fin.isValue, Fin.val_zero, Fin.val_one, Fin.val_two, Fin.reduceFinMk, eq_self, Int.reduceNeg, imp_self, Nat.reduceMul, Nat.le_refl, not_true_eq_false, not_false_eq_true, List.getElem?_nil, reduceCtorEq, true_or, or_true, Classical.not_not, implies_true, or_self, wI_0, wI_1, wI_m1, b2i_w, b2i_eq0, b2i_eq1, b2i_bool, nor_self, nx_pI, kd_pI, ln_pI, fI_pI, fL_pI, fR_pI, aI_pI, aL_pI, aR_pI, nx_pL, kd_pL, ln_pL, fI_pL, fL_pL, fR_pL, aI_pL, aL_pL, aR_pL, nx_pR, kd_pR, ln_pR, fI_pR, fL_pR, fR_pR, aI_pR, aL_pR, aR_pR, nx_qI, kd_qI, ln_qI, fI_qI, fL_qI, fR_qI, aI_qI, aL_qI, aR_qI, nx_qL, kd_qL, ln_qL, fI_qL, fL_qL, fR_qL, aI_qL, aL_qL, aR_qL, nx_qR, kd_qR, ln_qR, fI_qR, fL_qR, fR_qR, aI_qR, aL_qR, aR_qR, nx_mk, kd_mk, ln_mk, fI_mk, fL_mk, fR_mk, aI_mk, aL_mk, aR_mk, false_and, and_false, if_false, if_true, and_self, Int.reduceEq, Nat.reduceEqDiff, ite_self, MLay_pI, MLay_pL, MLay_qI, MLay_qL, ev_X2_cutRound_0, ev_X2_cutRound_1, ev_X2_cutRound_4, ev_X2_cutRound_5, ev_X2_cutRound_6, ev_X2_cutRound_9, ev_X2_cutRound_10, ev_X2_cutRound_11, ev_X2_cutRound_14, ev_X2_cutRound_68, xt_X2_cutRound, xf_X2_cutRound, hk]
    try simp (disch := omega) only [wI_id, dv_nn, rm_nn]
    repeat' (first | intro z | apply And.intro)
    all_goals try omega
    all_goals try contradiction
    all_goals exact h
  · rw [if_neg c0] at h
    by_cases c1 : s < 64
    · rw [if_pos c1] at h
      have e1 : (s % 64).toNat = s.toNat := by omega
      have e2 : ((64 - s) % 64).toNat = (64 - s).toNat := by omega
      refine go_X2_cutRound (ct := fun p => p == 4 || p == 53) 40 ?_
      simp only [oI, oL, oR, o1, lI, lL, lR, popN, catS, gv, stL, stL2, swt, cnd, spObj, List.getElem?_cons_zero, List.getElem?_cons_succ, List.getD_cons_zero, List.getD_cons_succ, List.set_cons_zero, List.set_cons_succ, List.nil_append, List.cons_append, Option.toList, Bool.or_false, Bool.false_or, Bool.or_true, Bool.true_or, Nat.reduceBEq, Nat.reduceAdd, Nat.reduceLT, Nat.reduceLeDiff, Int.reduceAdd, Int.reduceToNat, true_and, and_true, Fin.isValue, Fin.val_zero, Fin.val_one, Fin.val_two, Fin.reduceFinMk, eq_self, Int.reduceNeg, imp_self, Nat.reduceMul, Nat.le_refl, not_true_eq_false, not_false_eq_true, List.getElem?_nil, reduceCtorEq, true_or, or_true, Classical.not_not, implies_true, or_self, wI_0, wI_1, wI_m1, b2i_w, b2i_eq0, b2i_eq1, b2i_bool, nor_self, nx_pI, kd_pI, ln_pI, fI_pI, fL_pI, fR_pI, aI_pI, aL_pI, aR_pI, nx_pL, kd_pL, ln_pL, fI_pL, fL_pL, fR_pL, aI_pL, aL_pL, aR_pL, nx_pR, kd_pR, ln_pR, fI_pR, fL_pR, fR_pR, aI_pR, aL_pR, aR_pR, nx_qI, kd_qI, ln_qI, fI_qI, fL_qI, fR_qI, aI_qI, aL_qI, aR_qI, nx_qL, kd_qL, ln_qL, fI_qL, fL_qL, fR_qL, aI_qL, aL_qL, aR_qL, nx_qR, kd_qR, ln_qR, fI_qR, fL_qR, fR_qR, aI_qR, aL_qR, aR_qR, nx_mk, kd_mk, ln_mk, fI_mk, fL_mk, fR_mk, aI_mk, aL_mk, aR_mk, false_and, and_false, if_false, if_true, and_self, Int.reduceEq, Nat.reduceEqDiff, ite_self, MLay_pI, MLay_pL, MLay_qI, MLay_qL, ev_X2_cutRound_0, ev_X2_cutRound_1, ev_X2_cutRound_4, ev_X2_cutRound_5, ev_X2_cutRound_6, ev_X2_cutRound_9, ev_X2_cutRound_10, ev_X2_cutRound_11, ev_X2_cutRound_14, ev_X2_cutRound_17, ev_X2_cutRound_18, ev_X2_cutRound_20, ev_X2_cutRound_23, ev_X2_cutRound_24, ev_X2_cutRound_25, ev_X2_cutRound_28, ev_X2_cutRound_29, ev_X2_cutRound_30, ev_X2_cutRound_31, ev_X2_cutRound_32, ev_X2_cutRound_35, ev_X2_cutRound_36, ev_X2_cutRound_37, ev_X2_cutRound_40, ev_X2_cutRound_41, ev_X2_cutRound_43, ev_X2_cutRound_44, ev_X2_cutRound_45, ev_X2_cutRound_46, ev_X2_cutRound_47, ev_X2_cutRound_50, ev_X2_cutRound_68, xt_X2_cutRound, xf_X2_cutRound, hk, e1, e2]
      try simp (disch := omega) only [wI_id, dv_nn, rm_nn]
      repeat' (first | intro z | apply And.intro)
      all_goals try omega
      all_goals try contradiction
      all_goals exact h
    · rw [if_neg c1] at h
      have e1 : ((s - 64) % 64).toNat = (s - 64).toNat := by omega
      refine go_X2_cutRound (ct := fun p => p == 4 || p == 23) 40 ?_
      simp only [oI, oL, oR, o1, lI, lL, lR, popN, catS, gv, stL, stL2, swt, cnd, spObj, List.getElem?_cons_zero, List.getElem?_cons_succ, List.getD_cons_zero, List.getD_cons_succ, List.set_cons_zero, List.set_cons_succ, List.nil_append, List.cons_append, Option.toList, Bool.or_false, Bool.false_or, Bool.or_true, Bool.true_or, Nat.reduceBEq, Nat.reduceAdd, Nat.reduceLT, Nat.reduceLeDiff, Int.reduceAdd, Int.reduceToNat, true_and, and_true, Fin.isValue, Fin.val_zero, Fin.val_one, Fin.val_two, Fin.reduceFinMk, eq_self, Int.reduceNeg, imp_self, Nat.reduceMul, Nat.le_refl, not_true_eq_false, not_false_eq_true, List.getElem?_nil, reduceCtorEq, true_or, or_true, Classical.not_not, implies_true, or_self, wI_0, wI_1, wI_m1, b2i_w, b2i_eq0, b2i_eq1, b2i_bool, nor_self, nx_pI, kd_pI, ln_pI, fI_pI, fL_pI, fR_pI, aI_pI, aL_pI, aR_pI, nx_pL, kd_pL, ln_pL, fI_pL, fL_pL, fR_pL, aI_pL, aL_pL, aR_pL, nx_pR, kd_pR, ln_pR, fI_pR, fL_pR, fR_pR, aI_pR, aL_pR, aR_pR, nx_qI, kd_qI, ln_qI, fI_qI, fL_qI, fR_qI, aI_qI, aL_qI, aR_qI, nx_qL, kd_qL, ln_qL, fI_qL, fL_qL, fR_qL, aI_qL, aL_qL, aR_qL, nx_qR, kd_qR, ln_qR, fI_qR, fL_qR, fR_qR, aI_qR, aL_qR, aR_qR, nx_mk, kd_mk, ln_mk, fI_mk, fL_mk, fR_mk, aI_mk, aL_mk, aR_mk, false_and, and_false, if_false, if_true, and_self, Int.reduceEq, Nat.reduceEqDiff, ite_self, MLay_pI, MLay_pL, MLay_qI, MLay_qL, ev_X2_cutRound_0, ev_X2_cutRound_1, ev_X2_cutRound_4, ev_X2_cutRound_5, ev_X2_cutRound_6, ev_X2_cutRound_9, ev_X2_cutRound_10, ev_X2_cutRound_11, ev_X2_cutRound_14, ev_X2_cutRound_17, ev_X2_cutRound_18, ev_X2_cutRound_20, ev_X2_cutRound_23, ev_X2_cutRound_24, ev_X2_cutRound_25, ev_X2_cutRound_28, ev_X2_cutRound_29, ev_X2_cutRound_30, ev_X2_cutRound_31, ev_X2_cutRound_32, ev_X2_cutRound_35, ev_X2_cutRound_36, ev_X2_cutRound_37, ev_X2_cutRound_40, ev_X2_cutRound_41, ev_X2_cutRound_43, ev_X2_cutRound_44, ev_X2_cutRound_45, ev_X2_cutRound_46, ev_X2_cutRound_47, ev_X2_cutRound_50, ev_X2_cutRound_53, ev_X2_cutRound_54, ev_X2_cutRound_55, ev_X2_cutRound_58, ev_X2_cutRound_59, ev_X2_cutRound_60, ev_X2_cutRound_62, ev_X2_cutRound_63, ev_X2_cutRound_64, ev_X2_cutRound_65, ev_X2_cutRound_68, xt_X2_cutRound, xf_X2_cutRound, hk, e1]
      try simp (disch := omega) only [wI_id, dv_nn, rm_nn]
      repeat' (first | intro z | apply And.intro)
      all_goals try omega
      all_goals try contradiction
      all_goals exact h

/-- a digit's knocks on a round -/
def cDg (r : BitVec 64) (o : Int) : Nat → BitVec 64
  | 0 => r
  | k + 1 => cDg r o k ||| 1#64 <<< (o + 2 * k).toNat
/-- a part of the number more: round and offset -/
def cPt (q : BitVec 64 × Int) (d : Int) : BitVec 64 × Int := (cDg q.1 q.2 d.toNat, q.2 + 2 * d + if 0 < d then 2 else 0)
def cRo (n : Int) : BitVec 64 × Int := cPt (cPt (cPt (0#64, 0) (n / 100 % 10)) (n / 10 % 10)) (n % 10)
theorem cRo_b {n : Int} (h : 0 ≤ n ∧ n ≤ 555) : 0 ≤ (cRo n).2 ∧ (cRo n).2 ≤ 60 := by
  unfold cRo cPt
  dsimp only
  split <;> split <;> split <;> omega
def cKn (σ : Hp) (p d : Int) : Hp := pI σ 308 p (fI σ 308 p + d)
def cK3 (σ : Hp) (p n : Int) : Hp := cKn (cKn (cKn σ p (n / 100 % 10)) p (n / 10 % 10)) p (n % 10)
def cWhl (σ : Hp) (p n : Int) : Hp := pI (cRnd (cRnd (cRnd (cK3 σ p n) p (cRo n).1 0) p (cRo n).1 ((cRo n).2 - 3 + 6)) p (cRo n).1 (2 * ((cRo n).2 - 3 + 6))) 309 p (3 * ((cRo n).2 - 3) + 12)
theorem kd_cRnd (σ : Hp) (p : Int) (r : BitVec 64) (s : Int) : kd (cRnd σ p r s) = kd σ := by
  unfold cRnd; split
  · rfl
  · split <;> rfl

def sp_X2_cutWheel : Sp := fun av σ Q => oR av fun this av => av = [] ∧ kd σ this = 3 ∧ ((0 ≤ fI σ 300 this ∧ fI σ 300 this ≤ 555) ∧ Q none (cWhl σ this (fI σ 300 this)))
theorem us_X2_cutWheel (this : Int) (σ : Hp) (Q : Option AV → Hp → Prop) : sp_X2_cutWheel [vr this] σ Q = (kd σ this = 3 ∧ ((0 ≤ fI σ 300 this ∧ fI σ 300 this ≤ 555) ∧ Q none (cWhl σ this (fI σ 300 this)))) := propext ⟨fun h => h.2, fun h => ⟨rfl, h⟩⟩
theorem el_X2_cutWheel {av : List AV} {σ : Hp} {Q : Option AV → Hp → Prop} (h : sp_X2_cutWheel av σ Q) : ∃ (this : Int), av = [vr this] ∧ (kd σ this = 3 ∧ ((0 ≤ fI σ 300 this ∧ fI σ 300 this ≤ 555) ∧ Q none (cWhl σ this (fI σ 300 this)))) := by
  obtain ⟨this, a0, rfl, h0⟩ := oR_s h
  obtain ⟨rfl, hz⟩ := h0
  exact ⟨this, rfl, hz⟩
theorem rc_X2_cutWheel : ∀ (av : List AV) (σ : Hp) (Q : Option AV → Hp → Prop), sp_X2_cutWheel av σ Q → ∃ r tl, av = vr r :: tl ∧ kd σ r = 2 + 1 := fun av σ Q h => by
  obtain ⟨this, rfl, hz, -⟩ := el_X2_cutWheel h
  exact ⟨this, _, rfl, hz⟩

def tb_X2_cutWheel : Tab := [(0, .lconst 0, 1, (0, 0, 0, 0)), (1, .lstore_n 1, 1, (0, 0, 0, 0)), (2, .iconst 0, 1, (0, 0, 0, 0)), (3, .istore_n 3, 1, (0, 0, 0, 0)), (4, .bipush 100, 2, (0, 0, 0, 0)), (6, .istore 4, 2, (0, 0, 0, 0)), (8, .iload 4, 2, (0, 0, 0, 0)), (10, .iconst 1, 1, (0, 0, 0, 0)), (11, .if_icmp .lt 74, 3, (0, 0, 0, 0)), (14, .aload_n 0, 1, (0, 0, 0, 0)), (15, .getfield 15, 3, (3, 300, 0, 0)), (18, .iload 4, 2, (0, 0, 0, 0)), (20, .idiv, 1, (0, 0, 0, 0)), (21, .bipush 10, 2, (0, 0, 0, 0)), (23, .irem, 1, (0, 0, 0, 0)), (24, .istore 5, 2, (0, 0, 0, 0)), (26, .iconst 0, 1, (0, 0, 0, 0)), (27, .istore 6, 2, (0, 0, 0, 0)), (29, .iload 6, 2, (0, 0, 0, 0)), (31, .iload 5, 2, (0, 0, 0, 0)), (33, .if_icmp .ge 18, 3, (0, 0, 0, 0)), (36, .lload_n 1, 1, (0, 0, 0, 0)), (37, .lconst 1, 1, (0, 0, 0, 0)), (38, .iload_n 3, 1, (0, 0, 0, 0)), (39, .lshl, 1, (0, 0, 0, 0)), (40, .lor, 1, (0, 0, 0, 0)), (41, .lstore_n 1, 1, (0, 0, 0, 0)), (42, .iinc 3 2, 3, (0, 0, 0, 0)), (45, .iinc 6 1, 3, (0, 0, 0, 0)), (48, .goto (-19), 3, (0, 0, 0, 0)), (51, .iload_n 3, 1, (0, 0, 0, 0)), (52, .iload 5, 2, (0, 0, 0, 0)), (54, .ifCond .le 7, 3, (0, 0, 0, 0)), (57, .iconst 2, 1, (0, 0, 0, 0)), (58, .goto 4, 3, (0, 0, 0, 0)), (61, .iconst 0, 1, (0, 0, 0, 0)), (62, .iadd, 1, (0, 0, 0, 0)), (63, .istore_n 3, 1, (0, 0, 0, 0)), (64, .aload_n 0, 1, (0, 0, 0, 0)), (65, .dup, 1, (0, 0, 0, 0)), (66, .getfield 42, 3, (3, 308, 0, 0)), (69, .iload 5, 2, (0, 0, 0, 0)), (71, .iadd, 1, (0, 0, 0, 0)), (72, .putfield 42, 3, (3, 308, 0, 0)), (75, .iload 4, 2, (0, 0, 0, 0)), (77, .bipush 10, 2, (0, 0, 0, 0)), (79, .idiv, 1, (0, 0, 0, 0)), (80, .istore 4, 2, (0, 0, 0, 0)), (82, .goto (-74), 3, (0, 0, 0, 0)), (85, .iload_n 3, 1, (0, 0, 0, 0)), (86, .iconst 3, 1, (0, 0, 0, 0)), (87, .isub, 1, (0, 0, 0, 0)), (88, .istore 4, 2, (0, 0, 0, 0)), (90, .aload_n 0, 1, (0, 0, 0, 0)), (91, .lload_n 1, 1, (0, 0, 0, 0)), (92, .iconst 0, 1, (0, 0, 0, 0)), (93, .invokevirtual 45, 3, (0, 0, 0, 0)), (96, .aload_n 0, 1, (0, 0, 0, 0)), (97, .lload_n 1, 1, (0, 0, 0, 0)), (98, .iload 4, 2, (0, 0, 0, 0)), (100, .bipush 6, 2, (0, 0, 0, 0)), (102, .iadd, 1, (0, 0, 0, 0)), (103, .invokevirtual 45, 3, (0, 0, 0, 0)), (106, .aload_n 0, 1, (0, 0, 0, 0)), (107, .lload_n 1, 1, (0, 0, 0, 0)), (108, .iconst 2, 1, (0, 0, 0, 0)), (109, .iload 4, 2, (0, 0, 0, 0)), (111, .bipush 6, 2, (0, 0, 0, 0)), (113, .iadd, 1, (0, 0, 0, 0)), (114, .imul, 1, (0, 0, 0, 0)), (115, .invokevirtual 45, 3, (0, 0, 0, 0)), (118, .aload_n 0, 1, (0, 0, 0, 0)), (119, .iconst 3, 1, (0, 0, 0, 0)), (120, .iload 4, 2, (0, 0, 0, 0)), (122, .imul, 1, (0, 0, 0, 0)), (123, .bipush 12, 2, (0, 0, 0, 0)), (125, .iadd, 1, (0, 0, 0, 0)), (126, .putfield 49, 3, (3, 309, 0, 0)), (129, .return_, 1, (0, 0, 0, 0))]
set_option maxRecDepth 100000 in
theorem tk_X2_cutWheel : TOK RX2 false cX2_cutWheel tb_X2_cutWheel := chkT_ok ft_X2 (by decide +kernel)
theorem rw_X2_360 : Row RX2 (.invokevirtual 45) 3 3 0 0 1 sp_X2_cutRound := row_V (n := 2) (ci := 2) c_X2_cutRound ⟨TBL_in 560 (by decide +kernel) rfl, TBL_in 563 (by decide +kernel) rfl, TBL_in 126 (by decide +kernel) rfl, by decide +kernel, by decide⟩ (by decide) rfl (TBL_in 562 (by decide +kernel) rfl) (TBL_in 6 (by decide +kernel) rfl) rc_X2_cutRound
def mt_X2_cutWheel : List (Nat × Mt) := [(360, 3, 0, 0, 1, sp_X2_cutRound)]
theorem em_X2_cutWheel : mt_X2_cutWheel.lookup 360 = some (3, 0, 0, 1, sp_X2_cutRound) := rfl
theorem mk_X2_cutWheel : MOK RX2 mt_X2_cutWheel := by
  intro q hq
  simp only [mt_X2_cutWheel, List.mem_cons, List.not_mem_nil, or_false] at hq
  rcases hq with rfl
  · exact rw_X2_360
noncomputable def xe_X2_cutWheel (ct : Nat → Bool) (K : Kt) (R : Option AV → Hp → Prop) (n : Nat) : Kt := exS 7 2 0 0 0 tb_X2_cutWheel mt_X2_cutWheel ct K R n
noncomputable def xk_X2_cutWheel (ct : Nat → Bool) (K : Kt) (R : Option AV → Hp → Prop) (n : Nat) : Kt := exkS 7 2 0 0 0 tb_X2_cutWheel mt_X2_cutWheel ct K R n
theorem xt_X2_cutWheel {ct : Nat → Bool} {K : Kt} {R : Option AV → Hp → Prop} {n pc : Nat} {ls : List (Option AV)} {st : List AV} {σ : Hp} {k : Nat × Nat} (h : ct pc = true) : xk_X2_cutWheel ct K R n pc ls st σ k = K pc ls st σ k := by unfold xk_X2_cutWheel exkS; rw [h]
theorem xf_X2_cutWheel {ct : Nat → Bool} {K : Kt} {R : Option AV → Hp → Prop} {n pc : Nat} {ls : List (Option AV)} {st : List AV} {σ : Hp} {k : Nat × Nat} (h : ct pc = false) : xk_X2_cutWheel ct K R n pc ls st σ k = xe_X2_cutWheel ct K R n pc ls st σ k := by unfold xk_X2_cutWheel exkS xe_X2_cutWheel; rw [h]
theorem ev_X2_cutWheel_0 {ct : Nat → Bool} {K : Kt} {R : Option AV → Hp → Prop} {n : Nat} {ls : List (Option AV)} {st : List AV} {σ : Hp} {k : Nat × Nat} : xe_X2_cutWheel ct K R (n + 1) 0 ls st σ k = (xk_X2_cutWheel ct K R n 1 ls (vl (BitVec.ofNat 64 0) :: st) σ k) := exS_step.trans rfl
theorem ev_X2_cutWheel_1 {ct : Nat → Bool} {K : Kt} {R : Option AV → Hp → Prop} {n : Nat} {ls : List (Option AV)} {st : List AV} {σ : Hp} {k : Nat × Nat} : xe_X2_cutWheel ct K R (n + 1) 1 ls st σ k = (oL st fun x st => 1 + 1 < 7 ∧ xk_X2_cutWheel ct K R n 2 (stL2 ls 1 (vl x)) st σ k) := exS_step.trans rfl
theorem ev_X2_cutWheel_2 {ct : Nat → Bool} {K : Kt} {R : Option AV → Hp → Prop} {n : Nat} {ls : List (Option AV)} {st : List AV} {σ : Hp} {k : Nat × Nat} : xe_X2_cutWheel ct K R (n + 1) 2 ls st σ k = (xk_X2_cutWheel ct K R n 3 ls (vi (0) :: st) σ k) := exS_step.trans rfl
theorem ev_X2_cutWheel_3 {ct : Nat → Bool} {K : Kt} {R : Option AV → Hp → Prop} {n : Nat} {ls : List (Option AV)} {st : List AV} {σ : Hp} {k : Nat × Nat} : xe_X2_cutWheel ct K R (n + 1) 3 ls st σ k = (oI st fun x st => 3 < 7 ∧ xk_X2_cutWheel ct K R n 4 (stL ls 3 (vi x)) st σ k) := exS_step.trans rfl
theorem ev_X2_cutWheel_4 {ct : Nat → Bool} {K : Kt} {R : Option AV → Hp → Prop} {n : Nat} {ls : List (Option AV)} {st : List AV} {σ : Hp} {k : Nat × Nat} : xe_X2_cutWheel ct K R (n + 1) 4 ls st σ k = (xk_X2_cutWheel ct K R n 6 ls (vi (100) :: st) σ k) := exS_step.trans rfl
theorem ev_X2_cutWheel_6 {ct : Nat → Bool} {K : Kt} {R : Option AV → Hp → Prop} {n : Nat} {ls : List (Option AV)} {st : List AV} {σ : Hp} {k : Nat × Nat} : xe_X2_cutWheel ct K R (n + 1) 6 ls st σ k = (oI st fun x st => 4 < 7 ∧ xk_X2_cutWheel ct K R n 8 (stL ls 4 (vi x)) st σ k) := exS_step.trans rfl
theorem ev_X2_cutWheel_8 {ct : Nat → Bool} {K : Kt} {R : Option AV → Hp → Prop} {n : Nat} {ls : List (Option AV)} {st : List AV} {σ : Hp} {k : Nat × Nat} : xe_X2_cutWheel ct K R (n + 1) 8 ls st σ k = (lI ls 4 fun x => xk_X2_cutWheel ct K R n 10 ls (vi x :: st) σ k) := exS_step.trans rfl
theorem ev_X2_cutWheel_10 {ct : Nat → Bool} {K : Kt} {R : Option AV → Hp → Prop} {n : Nat} {ls : List (Option AV)} {st : List AV} {σ : Hp} {k : Nat × Nat} : xe_X2_cutWheel ct K R (n + 1) 10 ls st σ k = (xk_X2_cutWheel ct K R n 11 ls (vi (1) :: st) σ k) := exS_step.trans rfl
theorem ev_X2_cutWheel_11 {ct : Nat → Bool} {K : Kt} {R : Option AV → Hp → Prop} {n : Nat} {ls : List (Option AV)} {st : List AV} {σ : Hp} {k : Nat × Nat} : xe_X2_cutWheel ct K R (n + 1) 11 ls st σ k = (oI st fun y st => oI st fun x st => (wI x < wI y → xk_X2_cutWheel ct K R n 85 ls st σ k) ∧ (¬ (wI x < wI y) → xk_X2_cutWheel ct K R n 14 ls st σ k)) := exS_step.trans rfl
theorem ev_X2_cutWheel_14 {ct : Nat → Bool} {K : Kt} {R : Option AV → Hp → Prop} {n : Nat} {ls : List (Option AV)} {st : List AV} {σ : Hp} {k : Nat × Nat} : xe_X2_cutWheel ct K R (n + 1) 14 ls st σ k = (lR ls 0 fun x => xk_X2_cutWheel ct K R n 15 ls (vr x :: st) σ k) := exS_step.trans rfl
theorem ev_X2_cutWheel_15 {ct : Nat → Bool} {K : Kt} {R : Option AV → Hp → Prop} {n : Nat} {ls : List (Option AV)} {st : List AV} {σ : Hp} {k : Nat × Nat} : xe_X2_cutWheel ct K R (n + 1) 15 ls st σ k = (oR st fun x st => kd σ x = 3 ∧ xk_X2_cutWheel ct K R n 18 ls (vi (fI σ 300 x) :: st) σ k) := exS_step.trans rfl
theorem ev_X2_cutWheel_18 {ct : Nat → Bool} {K : Kt} {R : Option AV → Hp → Prop} {n : Nat} {ls : List (Option AV)} {st : List AV} {σ : Hp} {k : Nat × Nat} : xe_X2_cutWheel ct K R (n + 1) 18 ls st σ k = (lI ls 4 fun x => xk_X2_cutWheel ct K R n 20 ls (vi x :: st) σ k) := exS_step.trans rfl
theorem ev_X2_cutWheel_20 {ct : Nat → Bool} {K : Kt} {R : Option AV → Hp → Prop} {n : Nat} {ls : List (Option AV)} {st : List AV} {σ : Hp} {k : Nat × Nat} : xe_X2_cutWheel ct K R (n + 1) 20 ls st σ k = (oI st fun y st => oI st fun x st => ¬ wI y = 0 ∧ xk_X2_cutWheel ct K R n 21 ls (vi (dvI x y) :: st) σ k) := exS_step.trans rfl
theorem ev_X2_cutWheel_21 {ct : Nat → Bool} {K : Kt} {R : Option AV → Hp → Prop} {n : Nat} {ls : List (Option AV)} {st : List AV} {σ : Hp} {k : Nat × Nat} : xe_X2_cutWheel ct K R (n + 1) 21 ls st σ k = (xk_X2_cutWheel ct K R n 23 ls (vi (10) :: st) σ k) := exS_step.trans rfl
theorem ev_X2_cutWheel_23 {ct : Nat → Bool} {K : Kt} {R : Option AV → Hp → Prop} {n : Nat} {ls : List (Option AV)} {st : List AV} {σ : Hp} {k : Nat × Nat} : xe_X2_cutWheel ct K R (n + 1) 23 ls st σ k = (oI st fun y st => oI st fun x st => ¬ wI y = 0 ∧ xk_X2_cutWheel ct K R n 24 ls (vi (rmI x y) :: st) σ k) := exS_step.trans rfl
theorem ev_X2_cutWheel_24 {ct : Nat → Bool} {K : Kt} {R : Option AV → Hp → Prop} {n : Nat} {ls : List (Option AV)} {st : List AV} {σ : Hp} {k : Nat × Nat} : xe_X2_cutWheel ct K R (n + 1) 24 ls st σ k = (oI st fun x st => 5 < 7 ∧ xk_X2_cutWheel ct K R n 26 (stL ls 5 (vi x)) st σ k) := exS_step.trans rfl
theorem ev_X2_cutWheel_26 {ct : Nat → Bool} {K : Kt} {R : Option AV → Hp → Prop} {n : Nat} {ls : List (Option AV)} {st : List AV} {σ : Hp} {k : Nat × Nat} : xe_X2_cutWheel ct K R (n + 1) 26 ls st σ k = (xk_X2_cutWheel ct K R n 27 ls (vi (0) :: st) σ k) := exS_step.trans rfl
theorem ev_X2_cutWheel_27 {ct : Nat → Bool} {K : Kt} {R : Option AV → Hp → Prop} {n : Nat} {ls : List (Option AV)} {st : List AV} {σ : Hp} {k : Nat × Nat} : xe_X2_cutWheel ct K R (n + 1) 27 ls st σ k = (oI st fun x st => 6 < 7 ∧ xk_X2_cutWheel ct K R n 29 (stL ls 6 (vi x)) st σ k) := exS_step.trans rfl
theorem ev_X2_cutWheel_29 {ct : Nat → Bool} {K : Kt} {R : Option AV → Hp → Prop} {n : Nat} {ls : List (Option AV)} {st : List AV} {σ : Hp} {k : Nat × Nat} : xe_X2_cutWheel ct K R (n + 1) 29 ls st σ k = (lI ls 6 fun x => xk_X2_cutWheel ct K R n 31 ls (vi x :: st) σ k) := exS_step.trans rfl
theorem ev_X2_cutWheel_31 {ct : Nat → Bool} {K : Kt} {R : Option AV → Hp → Prop} {n : Nat} {ls : List (Option AV)} {st : List AV} {σ : Hp} {k : Nat × Nat} : xe_X2_cutWheel ct K R (n + 1) 31 ls st σ k = (lI ls 5 fun x => xk_X2_cutWheel ct K R n 33 ls (vi x :: st) σ k) := exS_step.trans rfl
theorem ev_X2_cutWheel_33 {ct : Nat → Bool} {K : Kt} {R : Option AV → Hp → Prop} {n : Nat} {ls : List (Option AV)} {st : List AV} {σ : Hp} {k : Nat × Nat} : xe_X2_cutWheel ct K R (n + 1) 33 ls st σ k = (oI st fun y st => oI st fun x st => (wI y ≤ wI x → xk_X2_cutWheel ct K R n 51 ls st σ k) ∧ (¬ (wI y ≤ wI x) → xk_X2_cutWheel ct K R n 36 ls st σ k)) := exS_step.trans rfl
theorem ev_X2_cutWheel_36 {ct : Nat → Bool} {K : Kt} {R : Option AV → Hp → Prop} {n : Nat} {ls : List (Option AV)} {st : List AV} {σ : Hp} {k : Nat × Nat} : xe_X2_cutWheel ct K R (n + 1) 36 ls st σ k = (lL ls 1 fun x => xk_X2_cutWheel ct K R n 37 ls (vl x :: st) σ k) := exS_step.trans rfl
theorem ev_X2_cutWheel_37 {ct : Nat → Bool} {K : Kt} {R : Option AV → Hp → Prop} {n : Nat} {ls : List (Option AV)} {st : List AV} {σ : Hp} {k : Nat × Nat} : xe_X2_cutWheel ct K R (n + 1) 37 ls st σ k = (xk_X2_cutWheel ct K R n 38 ls (vl (BitVec.ofNat 64 1) :: st) σ k) := exS_step.trans rfl
theorem ev_X2_cutWheel_38 {ct : Nat → Bool} {K : Kt} {R : Option AV → Hp → Prop} {n : Nat} {ls : List (Option AV)} {st : List AV} {σ : Hp} {k : Nat × Nat} : xe_X2_cutWheel ct K R (n + 1) 38 ls st σ k = (lI ls 3 fun x => xk_X2_cutWheel ct K R n 39 ls (vi x :: st) σ k) := exS_step.trans rfl
theorem ev_X2_cutWheel_39 {ct : Nat → Bool} {K : Kt} {R : Option AV → Hp → Prop} {n : Nat} {ls : List (Option AV)} {st : List AV} {σ : Hp} {k : Nat × Nat} : xe_X2_cutWheel ct K R (n + 1) 39 ls st σ k = (oI st fun y st => oL st fun x st => xk_X2_cutWheel ct K R n 40 ls (vl (x <<< (y % 64).toNat) :: st) σ k) := exS_step.trans rfl
theorem ev_X2_cutWheel_40 {ct : Nat → Bool} {K : Kt} {R : Option AV → Hp → Prop} {n : Nat} {ls : List (Option AV)} {st : List AV} {σ : Hp} {k : Nat × Nat} : xe_X2_cutWheel ct K R (n + 1) 40 ls st σ k = (oL st fun y st => oL st fun x st => xk_X2_cutWheel ct K R n 41 ls (vl (x ||| y) :: st) σ k) := exS_step.trans rfl
theorem ev_X2_cutWheel_41 {ct : Nat → Bool} {K : Kt} {R : Option AV → Hp → Prop} {n : Nat} {ls : List (Option AV)} {st : List AV} {σ : Hp} {k : Nat × Nat} : xe_X2_cutWheel ct K R (n + 1) 41 ls st σ k = (oL st fun x st => 1 + 1 < 7 ∧ xk_X2_cutWheel ct K R n 42 (stL2 ls 1 (vl x)) st σ k) := exS_step.trans rfl
theorem ev_X2_cutWheel_42 {ct : Nat → Bool} {K : Kt} {R : Option AV → Hp → Prop} {n : Nat} {ls : List (Option AV)} {st : List AV} {σ : Hp} {k : Nat × Nat} : xe_X2_cutWheel ct K R (n + 1) 42 ls st σ k = (lI ls 3 fun x => 3 < 7 ∧ xk_X2_cutWheel ct K R n 45 (stL ls 3 (vi (x + (2)))) st σ k) := exS_step.trans rfl
theorem ev_X2_cutWheel_45 {ct : Nat → Bool} {K : Kt} {R : Option AV → Hp → Prop} {n : Nat} {ls : List (Option AV)} {st : List AV} {σ : Hp} {k : Nat × Nat} : xe_X2_cutWheel ct K R (n + 1) 45 ls st σ k = (lI ls 6 fun x => 6 < 7 ∧ xk_X2_cutWheel ct K R n 48 (stL ls 6 (vi (x + (1)))) st σ k) := exS_step.trans rfl
theorem ev_X2_cutWheel_48 {ct : Nat → Bool} {K : Kt} {R : Option AV → Hp → Prop} {n : Nat} {ls : List (Option AV)} {st : List AV} {σ : Hp} {k : Nat × Nat} : xe_X2_cutWheel ct K R (n + 1) 48 ls st σ k = (xk_X2_cutWheel ct K R n 29 ls st σ k) := exS_step.trans rfl
theorem ev_X2_cutWheel_51 {ct : Nat → Bool} {K : Kt} {R : Option AV → Hp → Prop} {n : Nat} {ls : List (Option AV)} {st : List AV} {σ : Hp} {k : Nat × Nat} : xe_X2_cutWheel ct K R (n + 1) 51 ls st σ k = (lI ls 3 fun x => xk_X2_cutWheel ct K R n 52 ls (vi x :: st) σ k) := exS_step.trans rfl
theorem ev_X2_cutWheel_52 {ct : Nat → Bool} {K : Kt} {R : Option AV → Hp → Prop} {n : Nat} {ls : List (Option AV)} {st : List AV} {σ : Hp} {k : Nat × Nat} : xe_X2_cutWheel ct K R (n + 1) 52 ls st σ k = (lI ls 5 fun x => xk_X2_cutWheel ct K R n 54 ls (vi x :: st) σ k) := exS_step.trans rfl
theorem ev_X2_cutWheel_54 {ct : Nat → Bool} {K : Kt} {R : Option AV → Hp → Prop} {n : Nat} {ls : List (Option AV)} {st : List AV} {σ : Hp} {k : Nat × Nat} : xe_X2_cutWheel ct K R (n + 1) 54 ls st σ k = (oI st fun x st => (wI x ≤ wI 0 → xk_X2_cutWheel ct K R n 61 ls st σ k) ∧ (¬ (wI x ≤ wI 0) → xk_X2_cutWheel ct K R n 57 ls st σ k)) := exS_step.trans rfl
theorem ev_X2_cutWheel_57 {ct : Nat → Bool} {K : Kt} {R : Option AV → Hp → Prop} {n : Nat} {ls : List (Option AV)} {st : List AV} {σ : Hp} {k : Nat × Nat} : xe_X2_cutWheel ct K R (n + 1) 57 ls st σ k = (xk_X2_cutWheel ct K R n 58 ls (vi (2) :: st) σ k) := exS_step.trans rfl
theorem ev_X2_cutWheel_58 {ct : Nat → Bool} {K : Kt} {R : Option AV → Hp → Prop} {n : Nat} {ls : List (Option AV)} {st : List AV} {σ : Hp} {k : Nat × Nat} : xe_X2_cutWheel ct K R (n + 1) 58 ls st σ k = (xk_X2_cutWheel ct K R n 62 ls st σ k) := exS_step.trans rfl
theorem ev_X2_cutWheel_61 {ct : Nat → Bool} {K : Kt} {R : Option AV → Hp → Prop} {n : Nat} {ls : List (Option AV)} {st : List AV} {σ : Hp} {k : Nat × Nat} : xe_X2_cutWheel ct K R (n + 1) 61 ls st σ k = (xk_X2_cutWheel ct K R n 62 ls (vi (0) :: st) σ k) := exS_step.trans rfl
theorem ev_X2_cutWheel_62 {ct : Nat → Bool} {K : Kt} {R : Option AV → Hp → Prop} {n : Nat} {ls : List (Option AV)} {st : List AV} {σ : Hp} {k : Nat × Nat} : xe_X2_cutWheel ct K R (n + 1) 62 ls st σ k = (oI st fun y st => oI st fun x st => xk_X2_cutWheel ct K R n 63 ls (vi (x + y) :: st) σ k) := exS_step.trans rfl
theorem ev_X2_cutWheel_63 {ct : Nat → Bool} {K : Kt} {R : Option AV → Hp → Prop} {n : Nat} {ls : List (Option AV)} {st : List AV} {σ : Hp} {k : Nat × Nat} : xe_X2_cutWheel ct K R (n + 1) 63 ls st σ k = (oI st fun x st => 3 < 7 ∧ xk_X2_cutWheel ct K R n 64 (stL ls 3 (vi x)) st σ k) := exS_step.trans rfl
theorem ev_X2_cutWheel_64 {ct : Nat → Bool} {K : Kt} {R : Option AV → Hp → Prop} {n : Nat} {ls : List (Option AV)} {st : List AV} {σ : Hp} {k : Nat × Nat} : xe_X2_cutWheel ct K R (n + 1) 64 ls st σ k = (lR ls 0 fun x => xk_X2_cutWheel ct K R n 65 ls (vr x :: st) σ k) := exS_step.trans rfl
theorem ev_X2_cutWheel_65 {ct : Nat → Bool} {K : Kt} {R : Option AV → Hp → Prop} {n : Nat} {ls : List (Option AV)} {st : List AV} {σ : Hp} {k : Nat × Nat} : xe_X2_cutWheel ct K R (n + 1) 65 ls st σ k = (o1 st fun v st => xk_X2_cutWheel ct K R n 66 ls (v :: v :: st) σ k) := exS_step.trans rfl
theorem ev_X2_cutWheel_66 {ct : Nat → Bool} {K : Kt} {R : Option AV → Hp → Prop} {n : Nat} {ls : List (Option AV)} {st : List AV} {σ : Hp} {k : Nat × Nat} : xe_X2_cutWheel ct K R (n + 1) 66 ls st σ k = (oR st fun x st => kd σ x = 3 ∧ xk_X2_cutWheel ct K R n 69 ls (vi (fI σ 308 x) :: st) σ k) := exS_step.trans rfl
theorem ev_X2_cutWheel_69 {ct : Nat → Bool} {K : Kt} {R : Option AV → Hp → Prop} {n : Nat} {ls : List (Option AV)} {st : List AV} {σ : Hp} {k : Nat × Nat} : xe_X2_cutWheel ct K R (n + 1) 69 ls st σ k = (lI ls 5 fun x => xk_X2_cutWheel ct K R n 71 ls (vi x :: st) σ k) := exS_step.trans rfl
theorem ev_X2_cutWheel_71 {ct : Nat → Bool} {K : Kt} {R : Option AV → Hp → Prop} {n : Nat} {ls : List (Option AV)} {st : List AV} {σ : Hp} {k : Nat × Nat} : xe_X2_cutWheel ct K R (n + 1) 71 ls st σ k = (oI st fun y st => oI st fun x st => xk_X2_cutWheel ct K R n 72 ls (vi (x + y) :: st) σ k) := exS_step.trans rfl
theorem ev_X2_cutWheel_72 {ct : Nat → Bool} {K : Kt} {R : Option AV → Hp → Prop} {n : Nat} {ls : List (Option AV)} {st : List AV} {σ : Hp} {k : Nat × Nat} : xe_X2_cutWheel ct K R (n + 1) 72 ls st σ k = (oI st fun v st => oR st fun x st => kd σ x = 3 ∧ xk_X2_cutWheel ct K R n 75 ls st (pI σ 308 x v) k) := exS_step.trans rfl
theorem ev_X2_cutWheel_75 {ct : Nat → Bool} {K : Kt} {R : Option AV → Hp → Prop} {n : Nat} {ls : List (Option AV)} {st : List AV} {σ : Hp} {k : Nat × Nat} : xe_X2_cutWheel ct K R (n + 1) 75 ls st σ k = (lI ls 4 fun x => xk_X2_cutWheel ct K R n 77 ls (vi x :: st) σ k) := exS_step.trans rfl
theorem ev_X2_cutWheel_77 {ct : Nat → Bool} {K : Kt} {R : Option AV → Hp → Prop} {n : Nat} {ls : List (Option AV)} {st : List AV} {σ : Hp} {k : Nat × Nat} : xe_X2_cutWheel ct K R (n + 1) 77 ls st σ k = (xk_X2_cutWheel ct K R n 79 ls (vi (10) :: st) σ k) := exS_step.trans rfl
theorem ev_X2_cutWheel_79 {ct : Nat → Bool} {K : Kt} {R : Option AV → Hp → Prop} {n : Nat} {ls : List (Option AV)} {st : List AV} {σ : Hp} {k : Nat × Nat} : xe_X2_cutWheel ct K R (n + 1) 79 ls st σ k = (oI st fun y st => oI st fun x st => ¬ wI y = 0 ∧ xk_X2_cutWheel ct K R n 80 ls (vi (dvI x y) :: st) σ k) := exS_step.trans rfl
theorem ev_X2_cutWheel_80 {ct : Nat → Bool} {K : Kt} {R : Option AV → Hp → Prop} {n : Nat} {ls : List (Option AV)} {st : List AV} {σ : Hp} {k : Nat × Nat} : xe_X2_cutWheel ct K R (n + 1) 80 ls st σ k = (oI st fun x st => 4 < 7 ∧ xk_X2_cutWheel ct K R n 82 (stL ls 4 (vi x)) st σ k) := exS_step.trans rfl
theorem ev_X2_cutWheel_82 {ct : Nat → Bool} {K : Kt} {R : Option AV → Hp → Prop} {n : Nat} {ls : List (Option AV)} {st : List AV} {σ : Hp} {k : Nat × Nat} : xe_X2_cutWheel ct K R (n + 1) 82 ls st σ k = (xk_X2_cutWheel ct K R n 8 ls st σ k) := exS_step.trans rfl
theorem ev_X2_cutWheel_85 {ct : Nat → Bool} {K : Kt} {R : Option AV → Hp → Prop} {n : Nat} {ls : List (Option AV)} {st : List AV} {σ : Hp} {k : Nat × Nat} : xe_X2_cutWheel ct K R (n + 1) 85 ls st σ k = (lI ls 3 fun x => xk_X2_cutWheel ct K R n 86 ls (vi x :: st) σ k) := exS_step.trans rfl
theorem ev_X2_cutWheel_86 {ct : Nat → Bool} {K : Kt} {R : Option AV → Hp → Prop} {n : Nat} {ls : List (Option AV)} {st : List AV} {σ : Hp} {k : Nat × Nat} : xe_X2_cutWheel ct K R (n + 1) 86 ls st σ k = (xk_X2_cutWheel ct K R n 87 ls (vi (3) :: st) σ k) := exS_step.trans rfl
theorem ev_X2_cutWheel_87 {ct : Nat → Bool} {K : Kt} {R : Option AV → Hp → Prop} {n : Nat} {ls : List (Option AV)} {st : List AV} {σ : Hp} {k : Nat × Nat} : xe_X2_cutWheel ct K R (n + 1) 87 ls st σ k = (oI st fun y st => oI st fun x st => xk_X2_cutWheel ct K R n 88 ls (vi (x - y) :: st) σ k) := exS_step.trans rfl
theorem ev_X2_cutWheel_88 {ct : Nat → Bool} {K : Kt} {R : Option AV → Hp → Prop} {n : Nat} {ls : List (Option AV)} {st : List AV} {σ : Hp} {k : Nat × Nat} : xe_X2_cutWheel ct K R (n + 1) 88 ls st σ k = (oI st fun x st => 4 < 7 ∧ xk_X2_cutWheel ct K R n 90 (stL ls 4 (vi x)) st σ k) := exS_step.trans rfl
theorem ev_X2_cutWheel_90 {ct : Nat → Bool} {K : Kt} {R : Option AV → Hp → Prop} {n : Nat} {ls : List (Option AV)} {st : List AV} {σ : Hp} {k : Nat × Nat} : xe_X2_cutWheel ct K R (n + 1) 90 ls st σ k = (lR ls 0 fun x => xk_X2_cutWheel ct K R n 91 ls (vr x :: st) σ k) := exS_step.trans rfl
theorem ev_X2_cutWheel_91 {ct : Nat → Bool} {K : Kt} {R : Option AV → Hp → Prop} {n : Nat} {ls : List (Option AV)} {st : List AV} {σ : Hp} {k : Nat × Nat} : xe_X2_cutWheel ct K R (n + 1) 91 ls st σ k = (lL ls 1 fun x => xk_X2_cutWheel ct K R n 92 ls (vl x :: st) σ k) := exS_step.trans rfl
theorem ev_X2_cutWheel_92 {ct : Nat → Bool} {K : Kt} {R : Option AV → Hp → Prop} {n : Nat} {ls : List (Option AV)} {st : List AV} {σ : Hp} {k : Nat × Nat} : xe_X2_cutWheel ct K R (n + 1) 92 ls st σ k = (xk_X2_cutWheel ct K R n 93 ls (vi (0) :: st) σ k) := exS_step.trans rfl
theorem ev_X2_cutWheel_93 {ct : Nat → Bool} {K : Kt} {R : Option AV → Hp → Prop} {n : Nat} {ls : List (Option AV)} {st : List AV} {σ : Hp} {k : Nat × Nat} : xe_X2_cutWheel ct K R (n + 1) 93 ls st σ k = (popN 3 st [] fun av rest => (catS rest ≤ 8 ∧ 1 < 2 ∧ k.1 + 0 ≤ 0 ∧ k.2 + 0 ≤ 0) ∧ (sp_X2_cutRound) av σ fun v σ' => xk_X2_cutWheel ct K R n 96 ls (v.toList ++ rest) σ' (k.1 + 0, k.2 + 0)) := exS_step.trans rfl
theorem ev_X2_cutWheel_96 {ct : Nat → Bool} {K : Kt} {R : Option AV → Hp → Prop} {n : Nat} {ls : List (Option AV)} {st : List AV} {σ : Hp} {k : Nat × Nat} : xe_X2_cutWheel ct K R (n + 1) 96 ls st σ k = (lR ls 0 fun x => xk_X2_cutWheel ct K R n 97 ls (vr x :: st) σ k) := exS_step.trans rfl
theorem ev_X2_cutWheel_97 {ct : Nat → Bool} {K : Kt} {R : Option AV → Hp → Prop} {n : Nat} {ls : List (Option AV)} {st : List AV} {σ : Hp} {k : Nat × Nat} : xe_X2_cutWheel ct K R (n + 1) 97 ls st σ k = (lL ls 1 fun x => xk_X2_cutWheel ct K R n 98 ls (vl x :: st) σ k) := exS_step.trans rfl
theorem ev_X2_cutWheel_98 {ct : Nat → Bool} {K : Kt} {R : Option AV → Hp → Prop} {n : Nat} {ls : List (Option AV)} {st : List AV} {σ : Hp} {k : Nat × Nat} : xe_X2_cutWheel ct K R (n + 1) 98 ls st σ k = (lI ls 4 fun x => xk_X2_cutWheel ct K R n 100 ls (vi x :: st) σ k) := exS_step.trans rfl
theorem ev_X2_cutWheel_100 {ct : Nat → Bool} {K : Kt} {R : Option AV → Hp → Prop} {n : Nat} {ls : List (Option AV)} {st : List AV} {σ : Hp} {k : Nat × Nat} : xe_X2_cutWheel ct K R (n + 1) 100 ls st σ k = (xk_X2_cutWheel ct K R n 102 ls (vi (6) :: st) σ k) := exS_step.trans rfl
theorem ev_X2_cutWheel_102 {ct : Nat → Bool} {K : Kt} {R : Option AV → Hp → Prop} {n : Nat} {ls : List (Option AV)} {st : List AV} {σ : Hp} {k : Nat × Nat} : xe_X2_cutWheel ct K R (n + 1) 102 ls st σ k = (oI st fun y st => oI st fun x st => xk_X2_cutWheel ct K R n 103 ls (vi (x + y) :: st) σ k) := exS_step.trans rfl
theorem ev_X2_cutWheel_103 {ct : Nat → Bool} {K : Kt} {R : Option AV → Hp → Prop} {n : Nat} {ls : List (Option AV)} {st : List AV} {σ : Hp} {k : Nat × Nat} : xe_X2_cutWheel ct K R (n + 1) 103 ls st σ k = (popN 3 st [] fun av rest => (catS rest ≤ 8 ∧ 1 < 2 ∧ k.1 + 0 ≤ 0 ∧ k.2 + 0 ≤ 0) ∧ (sp_X2_cutRound) av σ fun v σ' => xk_X2_cutWheel ct K R n 106 ls (v.toList ++ rest) σ' (k.1 + 0, k.2 + 0)) := exS_step.trans rfl
theorem ev_X2_cutWheel_106 {ct : Nat → Bool} {K : Kt} {R : Option AV → Hp → Prop} {n : Nat} {ls : List (Option AV)} {st : List AV} {σ : Hp} {k : Nat × Nat} : xe_X2_cutWheel ct K R (n + 1) 106 ls st σ k = (lR ls 0 fun x => xk_X2_cutWheel ct K R n 107 ls (vr x :: st) σ k) := exS_step.trans rfl
theorem ev_X2_cutWheel_107 {ct : Nat → Bool} {K : Kt} {R : Option AV → Hp → Prop} {n : Nat} {ls : List (Option AV)} {st : List AV} {σ : Hp} {k : Nat × Nat} : xe_X2_cutWheel ct K R (n + 1) 107 ls st σ k = (lL ls 1 fun x => xk_X2_cutWheel ct K R n 108 ls (vl x :: st) σ k) := exS_step.trans rfl
theorem ev_X2_cutWheel_108 {ct : Nat → Bool} {K : Kt} {R : Option AV → Hp → Prop} {n : Nat} {ls : List (Option AV)} {st : List AV} {σ : Hp} {k : Nat × Nat} : xe_X2_cutWheel ct K R (n + 1) 108 ls st σ k = (xk_X2_cutWheel ct K R n 109 ls (vi (2) :: st) σ k) := exS_step.trans rfl
theorem ev_X2_cutWheel_109 {ct : Nat → Bool} {K : Kt} {R : Option AV → Hp → Prop} {n : Nat} {ls : List (Option AV)} {st : List AV} {σ : Hp} {k : Nat × Nat} : xe_X2_cutWheel ct K R (n + 1) 109 ls st σ k = (lI ls 4 fun x => xk_X2_cutWheel ct K R n 111 ls (vi x :: st) σ k) := exS_step.trans rfl
theorem ev_X2_cutWheel_111 {ct : Nat → Bool} {K : Kt} {R : Option AV → Hp → Prop} {n : Nat} {ls : List (Option AV)} {st : List AV} {σ : Hp} {k : Nat × Nat} : xe_X2_cutWheel ct K R (n + 1) 111 ls st σ k = (xk_X2_cutWheel ct K R n 113 ls (vi (6) :: st) σ k) := exS_step.trans rfl
theorem ev_X2_cutWheel_113 {ct : Nat → Bool} {K : Kt} {R : Option AV → Hp → Prop} {n : Nat} {ls : List (Option AV)} {st : List AV} {σ : Hp} {k : Nat × Nat} : xe_X2_cutWheel ct K R (n + 1) 113 ls st σ k = (oI st fun y st => oI st fun x st => xk_X2_cutWheel ct K R n 114 ls (vi (x + y) :: st) σ k) := exS_step.trans rfl
theorem ev_X2_cutWheel_114 {ct : Nat → Bool} {K : Kt} {R : Option AV → Hp → Prop} {n : Nat} {ls : List (Option AV)} {st : List AV} {σ : Hp} {k : Nat × Nat} : xe_X2_cutWheel ct K R (n + 1) 114 ls st σ k = (oI st fun y st => oI st fun x st => xk_X2_cutWheel ct K R n 115 ls (vi (x * y) :: st) σ k) := exS_step.trans rfl
theorem ev_X2_cutWheel_115 {ct : Nat → Bool} {K : Kt} {R : Option AV → Hp → Prop} {n : Nat} {ls : List (Option AV)} {st : List AV} {σ : Hp} {k : Nat × Nat} : xe_X2_cutWheel ct K R (n + 1) 115 ls st σ k = (popN 3 st [] fun av rest => (catS rest ≤ 8 ∧ 1 < 2 ∧ k.1 + 0 ≤ 0 ∧ k.2 + 0 ≤ 0) ∧ (sp_X2_cutRound) av σ fun v σ' => xk_X2_cutWheel ct K R n 118 ls (v.toList ++ rest) σ' (k.1 + 0, k.2 + 0)) := exS_step.trans rfl
theorem ev_X2_cutWheel_118 {ct : Nat → Bool} {K : Kt} {R : Option AV → Hp → Prop} {n : Nat} {ls : List (Option AV)} {st : List AV} {σ : Hp} {k : Nat × Nat} : xe_X2_cutWheel ct K R (n + 1) 118 ls st σ k = (lR ls 0 fun x => xk_X2_cutWheel ct K R n 119 ls (vr x :: st) σ k) := exS_step.trans rfl
theorem ev_X2_cutWheel_119 {ct : Nat → Bool} {K : Kt} {R : Option AV → Hp → Prop} {n : Nat} {ls : List (Option AV)} {st : List AV} {σ : Hp} {k : Nat × Nat} : xe_X2_cutWheel ct K R (n + 1) 119 ls st σ k = (xk_X2_cutWheel ct K R n 120 ls (vi (3) :: st) σ k) := exS_step.trans rfl
theorem ev_X2_cutWheel_120 {ct : Nat → Bool} {K : Kt} {R : Option AV → Hp → Prop} {n : Nat} {ls : List (Option AV)} {st : List AV} {σ : Hp} {k : Nat × Nat} : xe_X2_cutWheel ct K R (n + 1) 120 ls st σ k = (lI ls 4 fun x => xk_X2_cutWheel ct K R n 122 ls (vi x :: st) σ k) := exS_step.trans rfl
theorem ev_X2_cutWheel_122 {ct : Nat → Bool} {K : Kt} {R : Option AV → Hp → Prop} {n : Nat} {ls : List (Option AV)} {st : List AV} {σ : Hp} {k : Nat × Nat} : xe_X2_cutWheel ct K R (n + 1) 122 ls st σ k = (oI st fun y st => oI st fun x st => xk_X2_cutWheel ct K R n 123 ls (vi (x * y) :: st) σ k) := exS_step.trans rfl
theorem ev_X2_cutWheel_123 {ct : Nat → Bool} {K : Kt} {R : Option AV → Hp → Prop} {n : Nat} {ls : List (Option AV)} {st : List AV} {σ : Hp} {k : Nat × Nat} : xe_X2_cutWheel ct K R (n + 1) 123 ls st σ k = (xk_X2_cutWheel ct K R n 125 ls (vi (12) :: st) σ k) := exS_step.trans rfl
theorem ev_X2_cutWheel_125 {ct : Nat → Bool} {K : Kt} {R : Option AV → Hp → Prop} {n : Nat} {ls : List (Option AV)} {st : List AV} {σ : Hp} {k : Nat × Nat} : xe_X2_cutWheel ct K R (n + 1) 125 ls st σ k = (oI st fun y st => oI st fun x st => xk_X2_cutWheel ct K R n 126 ls (vi (x + y) :: st) σ k) := exS_step.trans rfl
theorem ev_X2_cutWheel_126 {ct : Nat → Bool} {K : Kt} {R : Option AV → Hp → Prop} {n : Nat} {ls : List (Option AV)} {st : List AV} {σ : Hp} {k : Nat × Nat} : xe_X2_cutWheel ct K R (n + 1) 126 ls st σ k = (oI st fun v st => oR st fun x st => kd σ x = 3 ∧ xk_X2_cutWheel ct K R n 129 ls st (pI σ 309 x v) k) := exS_step.trans rfl
theorem ev_X2_cutWheel_129 {ct : Nat → Bool} {K : Kt} {R : Option AV → Hp → Prop} {n : Nat} {ls : List (Option AV)} {st : List AV} {σ : Hp} {k : Nat × Nat} : xe_X2_cutWheel ct K R (n + 1) 129 ls st σ k = (st = [] ∧ 0 = 0 ∧ R none σ) := exS_step.trans rfl
def M_X2_cutWheel : Md := (yX2_cutWheel, cX2_cutWheel, 7, (none : Option FieldType), 2, 0, 0, 0, false, tb_X2_cutWheel, mt_X2_cutWheel)
theorem mm_X2_cutWheel : MMOK M_X2_cutWheel := ⟨by decide +kernel, tk_X2_cutWheel, mk_X2_cutWheel, rfl, fun h => by cases h⟩
theorem go_X2_cutWheel {Q : Option AV → Hp → Prop} {ct : Nat → Bool} {pc : Nat} {ls : List (Option AV)} {st : List AV} {σ : Hp} {k : Nat × Nat} (n : Nat) (h : xe_X2_cutWheel ct (Go M_X2_cutWheel Q) Q n pc ls st σ k) : Go M_X2_cutWheel Q pc ls st σ k := Go.exS mm_X2_cutWheel h

set_option maxRecDepth 20000 in
theorem cw_51 {Q : Option AV → Hp → Prop} {τ : Hp} {p o pt d : Int} {r : BitVec 64} {a6 : Option AV} (hk : kd τ p = 3) (ho : 0 ≤ o ∧ o ≤ 1000) (hpt : 0 ≤ pt ∧ pt ≤ 100) (hd : 0 ≤ d ∧ d ≤ 9) (h : Go M_X2_cutWheel Q 8 [some (vr p), some (vl r), none, some (vi (o + if 0 < d then 2 else 0)), some (vi (pt / 10)), some (vi d), a6] [] (cKn τ p d) (0, 0)) : Go M_X2_cutWheel Q 51 [some (vr p), some (vl r), none, some (vi o), some (vi pt), some (vi d), a6] [] τ (0, 0) := by
  unfold cKn at h
  by_cases c : 0 < d
  · rw [if_pos c] at h
    refine go_X2_cutWheel (ct := fun p => p == 8 || p == 61) 40 ?_
    simp only [oI, oL, oR, o1, lI, lL, lR, popN, catS, gv, stL, stL2, swt, cnd, spObj, List.getElem?_cons_zero, List.getElem?_cons_succ, List.getD_cons_zero, List.getD_cons_succ, List.set_cons_zero, List.set_cons_succ, List.nil_append, List.cons_append, Option.toList, Bool.or_false, Bool.false_or, Bool.or_true, Bool.true_or, Nat.reduceBEq, Nat.reduceAdd, Nat.reduceLT, Nat.reduceLeDiff, Int.reduceAdd, Int.reduceToNat, true_and, and_true, Fin.isValue, Fin.val_zero, Fin.val_one, Fin.val_two, Fin.reduceFinMk, eq_self, Int.reduceNeg, imp_self, Nat.reduceMul, Nat.le_refl, not_true_eq_false, not_false_eq_true, List.getElem?_nil, reduceCtorEq, true_or, or_true, Classical.not_not, implies_true, or_self, wI_0, wI_1, wI_m1, b2i_w, b2i_eq0, b2i_eq1, b2i_bool, nor_self, nx_pI, kd_pI, ln_pI, fI_pI, fL_pI, fR_pI, aI_pI, aL_pI, aR_pI, nx_pL, kd_pL, ln_pL, fI_pL, fL_pL, fR_pL, aI_pL, aL_pL, aR_pL, nx_pR, kd_pR, ln_pR, fI_pR, fL_pR, fR_pR, aI_pR, aL_pR, aR_pR, nx_qI, kd_qI, ln_qI, fI_qI, fL_qI, fR_qI, aI_qI, aL_qI, aR_qI, nx_qL, kd_qL, ln_qL, fI_qL, fL_qL, fR_qL, aI_qL, aL_qL, aR_qL, nx_qR, kd_qR, ln_qR, fI_qR, fL_qR, fR_qR, aI_qR, aL_qR, aR_qR, nx_mk, kd_mk, ln_mk, fI_mk, fL_mk, fR_mk, aI_mk, aL_mk, aR_mk, false_and, and_false, if_false, if_true, and_self, Int.reduceEq, Nat.reduceEqDiff, ite_self, MLay_pI, MLay_pL, MLay_qI, MLay_qL, ev_X2_cutWheel_51, ev_X2_cutWheel_52, ev_X2_cutWheel_54, ev_X2_cutWheel_57, ev_X2_cutWheel_58, ev_X2_cutWheel_61, ev_X2_cutWheel_62, ev_X2_cutWheel_63, ev_X2_cutWheel_64, ev_X2_cutWheel_65, ev_X2_cutWheel_66, ev_X2_cutWheel_69, ev_X2_cutWheel_71, ev_X2_cutWheel_72, ev_X2_cutWheel_75, ev_X2_cutWheel_77, ev_X2_cutWheel_79, ev_X2_cutWheel_80, ev_X2_cutWheel_82, xt_X2_cutWheel, xf_X2_cutWheel, us_X2_cutRound, hk]
    try simp (disch := omega) only [wI_id, dv_nn, rm_nn]
    repeat' (first | intro z | apply And.intro)
    all_goals try omega
    all_goals try contradiction
    all_goals exact h
  · rw [if_neg c] at h
    refine go_X2_cutWheel (ct := fun p => p == 8 || p == 57) 40 ?_
    simp only [oI, oL, oR, o1, lI, lL, lR, popN, catS, gv, stL, stL2, swt, cnd, spObj, List.getElem?_cons_zero, List.getElem?_cons_succ, List.getD_cons_zero, List.getD_cons_succ, List.set_cons_zero, List.set_cons_succ, List.nil_append, List.cons_append, Option.toList, Bool.or_false, Bool.false_or, Bool.or_true, Bool.true_or, Nat.reduceBEq, Nat.reduceAdd, Nat.reduceLT, Nat.reduceLeDiff, Int.reduceAdd, Int.reduceToNat, true_and, and_true, Fin.isValue, Fin.val_zero, Fin.val_one, Fin.val_two, Fin.reduceFinMk, eq_self, Int.reduceNeg, imp_self, Nat.reduceMul, Nat.le_refl, not_true_eq_false, not_false_eq_true, List.getElem?_nil, reduceCtorEq, true_or, or_true, Classical.not_not, implies_true, or_self, wI_0, wI_1, wI_m1, b2i_w, b2i_eq0, b2i_eq1, b2i_bool, nor_self, nx_pI, kd_pI, ln_pI, fI_pI, fL_pI, fR_pI, aI_pI, aL_pI, aR_pI, nx_pL, kd_pL, ln_pL, fI_pL, fL_pL, fR_pL, aI_pL, aL_pL, aR_pL, nx_pR, kd_pR, ln_pR, fI_pR, fL_pR, fR_pR, aI_pR, aL_pR, aR_pR, nx_qI, kd_qI, ln_qI, fI_qI, fL_qI, fR_qI, aI_qI, aL_qI, aR_qI, nx_qL, kd_qL, ln_qL, fI_qL, fL_qL, fR_qL, aI_qL, aL_qL, aR_qL, nx_qR, kd_qR, ln_qR, fI_qR, fL_qR, fR_qR, aI_qR, aL_qR, aR_qR, nx_mk, kd_mk, ln_mk, fI_mk, fL_mk, fR_mk, aI_mk, aL_mk, aR_mk, false_and, and_false, if_false, if_true, and_self, Int.reduceEq, Nat.reduceEqDiff, ite_self, MLay_pI, MLay_pL, MLay_qI, MLay_qL, ev_X2_cutWheel_51, ev_X2_cutWheel_52, ev_X2_cutWheel_54, ev_X2_cutWheel_57, ev_X2_cutWheel_58, ev_X2_cutWheel_61, ev_X2_cutWheel_62, ev_X2_cutWheel_63, ev_X2_cutWheel_64, ev_X2_cutWheel_65, ev_X2_cutWheel_66, ev_X2_cutWheel_69, ev_X2_cutWheel_71, ev_X2_cutWheel_72, ev_X2_cutWheel_75, ev_X2_cutWheel_77, ev_X2_cutWheel_79, ev_X2_cutWheel_80, ev_X2_cutWheel_82, xt_X2_cutWheel, xf_X2_cutWheel, us_X2_cutRound, hk]
    try simp (disch := omega) only [wI_id, dv_nn, rm_nn]
    repeat' (first | intro z | apply And.intro)
    all_goals try omega
    all_goals try contradiction
    all_goals exact h

set_option maxRecDepth 20000 in
theorem cw_29 {Q : Option AV → Hp → Prop} {τ : Hp} {p o pt d : Int} {r : BitVec 64} (ho : 0 ≤ o ∧ o ≤ 100) (hd : 0 ≤ d ∧ d ≤ 9) (hod : o + 2 * d ≤ 60) (h : ∀ a6, Go M_X2_cutWheel Q 51 [some (vr p), some (vl (cDg r o d.toNat)), none, some (vi (o + 2 * d)), some (vi pt), some (vi d), a6] [] τ (0, 0)) : ∀ m k : Nat, (k : Int) + m = d → Go M_X2_cutWheel Q 29 [some (vr p), some (vl (cDg r o k)), none, some (vi (o + 2 * k)), some (vi pt), some (vi d), some (vi k)] [] τ (0, 0) := by
  intro m
  induction m with
  | zero =>
    intro k hk2
    have e : d = k := by omega
    subst e
    have h := h (some (vi (k : Int)))
    rw [show (k : Int).toNat = k from rfl] at h
    have hw : wI (k : Int) = k := wI_nat (by omega)
    refine go_X2_cutWheel (ct := fun p => p == 51 || p == 36) 20 ?_
    simp only [oI, oL, oR, o1, lI, lL, lR, popN, catS, gv, stL, stL2, swt, cnd, spObj, List.getElem?_cons_zero, List.getElem?_cons_succ, List.getD_cons_zero, List.getD_cons_succ, List.set_cons_zero, List.set_cons_succ, List.nil_append, List.cons_append, Option.toList, Bool.or_false, Bool.false_or, Bool.or_true, Bool.true_or, Nat.reduceBEq, Nat.reduceAdd, Nat.reduceLT, Nat.reduceLeDiff, Int.reduceAdd, Int.reduceToNat, true_and, and_true, Fin.isValue, Fin.val_zero, Fin.val_one, Fin.val_two, Fin.reduceFinMk, eq_self, Int.reduceNeg, imp_self, Nat.reduceMul, Nat.le_refl, not_true_eq_false, not_false_eq_true, List.getElem?_nil, reduceCtorEq, true_or, or_true, Classical.not_not, implies_true, or_self, wI_0, wI_1, wI_m1, b2i_w, b2i_eq0, b2i_eq1, b2i_bool, nor_self, nx_pI, kd_pI, ln_pI, fI_pI, fL_pI, fR_pI, aI_pI, aL_pI, aR_pI, nx_pL, kd_pL, ln_pL, fI_pL, fL_pL, fR_pL, aI_pL, aL_pL, aR_pL, nx_pR, kd_pR, ln_pR, fI_pR, fL_pR, fR_pR, aI_pR, aL_pR, aR_pR, nx_qI, kd_qI, ln_qI, fI_qI, fL_qI, fR_qI, aI_qI, aL_qI, aR_qI, nx_qL, kd_qL, ln_qL, fI_qL, fL_qL, fR_qL, aI_qL, aL_qL, aR_qL, nx_qR, kd_qR, ln_qR, fI_qR, fL_qR, fR_qR, aI_qR, aL_qR, aR_qR, nx_mk, kd_mk, ln_mk, fI_mk, fL_mk, fR_mk, aI_mk, aL_mk, aR_mk, false_and, and_false, if_false, if_true, and_self, Int.reduceEq, Nat.reduceEqDiff, ite_self, MLay_pI, MLay_pL, MLay_qI, MLay_qL, ev_X2_cutWheel_29, ev_X2_cutWheel_31, ev_X2_cutWheel_33, xt_X2_cutWheel, xf_X2_cutWheel, us_X2_cutRound, hw, Int.le_refl, forall_const]
    exact ⟨h, fun z => z.elim⟩
  | succ m ih =>
    intro k hk2
    have ih := ih (k + 1) (by omega)
    have hw : wI (k : Int) = k := wI_nat (by omega)
    have hw2 : wI d = d := wI_id (by omega) (by omega)
    have c : ¬ d ≤ k := by omega
    have e1 : ((o + 2 * (k : Int)) % 64).toNat = (o + 2 * k).toNat := by omega
    unfold cDg at ih
    rw [show ((k + 1 : Nat) : Int) = k + 1 by omega, show o + 2 * ((k : Int) + 1) = o + 2 * k + 2 by omega] at ih
    clear h
    refine go_X2_cutWheel (ct := fun p => p == 51 || p == 29) 40 ?_
    simp only [oI, oL, oR, o1, lI, lL, lR, popN, catS, gv, stL, stL2, swt, cnd, spObj, List.getElem?_cons_zero, List.getElem?_cons_succ, List.getD_cons_zero, List.getD_cons_succ, List.set_cons_zero, List.set_cons_succ, List.nil_append, List.cons_append, Option.toList, Bool.or_false, Bool.false_or, Bool.or_true, Bool.true_or, Nat.reduceBEq, Nat.reduceAdd, Nat.reduceLT, Nat.reduceLeDiff, Int.reduceAdd, Int.reduceToNat, true_and, and_true, Fin.isValue, Fin.val_zero, Fin.val_one, Fin.val_two, Fin.reduceFinMk, eq_self, Int.reduceNeg, imp_self, Nat.reduceMul, Nat.le_refl, not_true_eq_false, not_false_eq_true, List.getElem?_nil, reduceCtorEq, true_or, or_true, Classical.not_not, implies_true, or_self, wI_0, wI_1, wI_m1, b2i_w, b2i_eq0, b2i_eq1, b2i_bool, nor_self, nx_pI, kd_pI, ln_pI, fI_pI, fL_pI, fR_pI, aI_pI, aL_pI, aR_pI, nx_pL, kd_pL, ln_pL, fI_pL, fL_pL, fR_pL, aI_pL, aL_pL, aR_pL, nx_pR, kd_pR, ln_pR, fI_pR, fL_pR, fR_pR, aI_pR, aL_pR, aR_pR, nx_qI, kd_qI, ln_qI, fI_qI, fL_qI, fR_qI, aI_qI, aL_qI, aR_qI, nx_qL, kd_qL, ln_qL, fI_qL, fL_qL, fR_qL, aI_qL, aL_qL, aR_qL, nx_qR, kd_qR, ln_qR, fI_qR, fL_qR, fR_qR, aI_qR, aL_qR, aR_qR, nx_mk, kd_mk, ln_mk, fI_mk, fL_mk, fR_mk, aI_mk, aL_mk, aR_mk, false_and, and_false, if_false, if_true, and_self, Int.reduceEq, Nat.reduceEqDiff, ite_self, MLay_pI, MLay_pL, MLay_qI, MLay_qL, ev_X2_cutWheel_29, ev_X2_cutWheel_31, ev_X2_cutWheel_33, ev_X2_cutWheel_36, ev_X2_cutWheel_37, ev_X2_cutWheel_38, ev_X2_cutWheel_39, ev_X2_cutWheel_40, ev_X2_cutWheel_41, ev_X2_cutWheel_42, ev_X2_cutWheel_45, ev_X2_cutWheel_48, xt_X2_cutWheel, xf_X2_cutWheel, us_X2_cutRound, hw, hw2, c, e1, false_imp_iff, true_imp_iff]
    exact ih

set_option maxRecDepth 20000 in
theorem cw_8 {Q : Option AV → Hp → Prop} {τ : Hp} {p o pt n : Int} {r : BitVec 64} {a5 a6 : Option AV} (hk : kd τ p = 3) (hn : fI τ 300 p = n) (hn2 : 0 ≤ n ∧ n ≤ 555) (ho : 0 ≤ o ∧ o + 2 * (n / pt % 10) ≤ 60) (hpt : pt = 100 ∨ pt = 10 ∨ pt = 1) (h : ∀ a5 a6, Go M_X2_cutWheel Q 8 [some (vr p), some (vl (cPt (r, o) (n / pt % 10)).1), none, some (vi (cPt (r, o) (n / pt % 10)).2), some (vi (pt / 10)), a5, a6] [] (cKn τ p (n / pt % 10)) (0, 0)) : Go M_X2_cutWheel Q 8 [some (vr p), some (vl r), none, some (vi o), some (vi pt), a5, a6] [] τ (0, 0) := by
  have hd : 0 ≤ n / pt % 10 ∧ n / pt % 10 ≤ 9 := by omega
  have w := cw_29 (τ := τ) (p := p) (pt := pt) (r := r) (Q := Q) (o := o) (by omega) hd (by omega) (fun a6 => cw_51 hk (by omega) (by omega) hd (h _ a6)) (n / pt % 10).toNat 0 (by omega)
  have w : Go M_X2_cutWheel Q 29 [some (vr p), some (vl r), none, some (vi o), some (vi pt), some (vi (n / pt % 10)), some (vi 0)] [] τ (0, 0) := by
    have e : o + 2 * ((0 : Nat) : Int) = o := by omega
    rw [e] at w
    exact w
  have e1 : 0 ≤ n / pt ∧ n / pt ≤ 555 := by rcases hpt with rfl | rfl | rfl <;> omega
  clear h
  refine go_X2_cutWheel (ct := fun p => p == 85 || p == 29) 40 ?_
  simp only [oI, oL, oR, o1, lI, lL, lR, popN, catS, gv, stL, stL2, swt, cnd, spObj, List.getElem?_cons_zero, List.getElem?_cons_succ, List.getD_cons_zero, List.getD_cons_succ, List.set_cons_zero, List.set_cons_succ, List.nil_append, List.cons_append, Option.toList, Bool.or_false, Bool.false_or, Bool.or_true, Bool.true_or, Nat.reduceBEq, Nat.reduceAdd, Nat.reduceLT, Nat.reduceLeDiff, Int.reduceAdd, Int.reduceToNat, true_and, and_true, Fin.isValue, Fin.val_zero, Fin.val_one, Fin.val_two, Fin.reduceFinMk, eq_self, Int.reduceNeg, imp_self, Nat.reduceMul, Nat.le_refl, not_true_eq_false, not_false_eq_true, List.getElem?_nil, reduceCtorEq, true_or, or_true, Classical.not_not, implies_true, or_self, wI_0, wI_1, wI_m1, b2i_w, b2i_eq0, b2i_eq1, b2i_bool, nor_self, nx_pI, kd_pI, ln_pI, fI_pI, fL_pI, fR_pI, aI_pI, aL_pI, aR_pI, nx_pL, kd_pL, ln_pL, fI_pL, fL_pL, fR_pL, aI_pL, aL_pL, aR_pL, nx_pR, kd_pR, ln_pR, fI_pR, fL_pR, fR_pR, aI_pR, aL_pR, aR_pR, nx_qI, kd_qI, ln_qI, fI_qI, fL_qI, fR_qI, aI_qI, aL_qI, aR_qI, nx_qL, kd_qL, ln_qL, fI_qL, fL_qL, fR_qL, aI_qL, aL_qL, aR_qL, nx_qR, kd_qR, ln_qR, fI_qR, fL_qR, fR_qR, aI_qR, aL_qR, aR_qR, nx_mk, kd_mk, ln_mk, fI_mk, fL_mk, fR_mk, aI_mk, aL_mk, aR_mk, false_and, and_false, if_false, if_true, and_self, Int.reduceEq, Nat.reduceEqDiff, ite_self, MLay_pI, MLay_pL, MLay_qI, MLay_qL, ev_X2_cutWheel_8, ev_X2_cutWheel_10, ev_X2_cutWheel_11, ev_X2_cutWheel_14, ev_X2_cutWheel_15, ev_X2_cutWheel_18, ev_X2_cutWheel_20, ev_X2_cutWheel_21, ev_X2_cutWheel_23, ev_X2_cutWheel_24, ev_X2_cutWheel_26, ev_X2_cutWheel_27, xt_X2_cutWheel, xf_X2_cutWheel, us_X2_cutRound, hk, hn]
  try simp (disch := omega) only [wI_id, dv_nn, rm_nn]
  repeat' (first | intro z | apply And.intro)
  all_goals try omega
  all_goals try contradiction
  all_goals exact w

set_option maxRecDepth 20000 in
theorem c_X2_cutWheel : Ct yX2_cutWheel cX2_cutWheel 7 ((none : Option FieldType)) 2 0 0 sp_X2_cutWheel := by
  refine Ct.go (M := M_X2_cutWheel) mm_X2_cutWheel fun av σ Q h0 => ?_
  obtain ⟨this, rfl, hk, h⟩ := el_X2_cutWheel h0
  clear h0
  refine ⟨Nat.le_of_ble_eq_true rfl, ?_⟩
  show Go M_X2_cutWheel Q 0 [some (vr this), none, none, none, none, none, none] [] σ (0, 0)
  obtain ⟨hn, h⟩ := h
  have hb := cRo_b hn
  have hb2 : 0 ≤ (cRo (fI σ 300 this)).2 ∧ (cRo (fI σ 300 this)).2 ≤ 60 ∧ 3 ≤ (cRo (fI σ 300 this)).2 ∨ (cRo (fI σ 300 this)).2 < 3 := by omega
  generalize hnn : fI σ 300 this = n at *
  have w85 : ∀ a5 a6 : Option AV, Go M_X2_cutWheel Q 8 [some (vr this), some (vl (cRo n).1), none, some (vi (cRo n).2), some (vi 0), a5, a6] [] (cK3 σ this n) (0, 0) := fun a5 a6 => by
    have hk3 : kd (cK3 σ this n) this = 3 := hk
    unfold cWhl at h
    generalize cK3 σ this n = τ at *
    have hk4 : kd (cRnd τ this (cRo n).1 0) this = 3 := by rw [kd_cRnd]; exact hk3
    have hk5 : kd (cRnd (cRnd τ this (cRo n).1 0) this (cRo n).1 ((cRo n).2 - 3 + 6)) this = 3 := by rw [kd_cRnd]; exact hk4
    have hk6 : kd (cRnd (cRnd (cRnd τ this (cRo n).1 0) this (cRo n).1 ((cRo n).2 - 3 + 6)) this (cRo n).1 (2 * ((cRo n).2 - 3 + 6))) this = 3 := by rw [kd_cRnd]; exact hk5
    refine go_X2_cutWheel (ct := fun p => p == 14) 60 ?_
    simp only [oI, oL, oR, o1, lI, lL, lR, popN, catS, gv, stL, stL2, swt, cnd, spObj, List.getElem?_cons_zero, List.getElem?_cons_succ, List.getD_cons_zero, List.getD_cons_succ, List.set_cons_zero, List.set_cons_succ, List.nil_append, List.cons_append, Option.toList, Bool.or_false, Bool.false_or, Bool.or_true, Bool.true_or, Nat.reduceBEq, Nat.reduceAdd, Nat.reduceLT, Nat.reduceLeDiff, Int.reduceAdd, Int.reduceToNat, true_and, and_true, Fin.isValue, Fin.val_zero, Fin.val_one, Fin.val_two, Fin.reduceFinMk, eq_self, Int.reduceNeg, imp_self, Nat.reduceMul, Nat.le_refl, not_true_eq_false, not_false_eq_true, List.getElem?_nil, reduceCtorEq, true_or, or_true, Classical.not_not, implies_true, or_self, wI_0, wI_1, wI_m1, b2i_w, b2i_eq0, b2i_eq1, b2i_bool, nor_self, nx_pI, kd_pI, ln_pI, fI_pI, fL_pI, fR_pI, aI_pI, aL_pI, aR_pI, nx_pL, kd_pL, ln_pL, fI_pL, fL_pL, fR_pL, aI_pL, aL_pL, aR_pL, nx_pR, kd_pR, ln_pR, fI_pR, fL_pR, fR_pR, aI_pR, aL_pR, aR_pR, nx_qI, kd_qI, ln_qI, fI_qI, fL_qI, fR_qI, aI_qI, aL_qI, aR_qI, nx_qL, kd_qL, ln_qL, fI_qL, fL_qL, fR_qL, aI_qL, aL_qL, aR_qL, nx_qR, kd_qR, ln_qR, fI_qR, fL_qR, fR_qR, aI_qR, aL_qR, aR_qR, nx_mk, kd_mk, ln_mk, fI_mk, fL_mk, fR_mk, aI_mk, aL_mk, aR_mk, false_and, and_false, if_false, if_true, and_self, Int.reduceEq, Nat.reduceEqDiff, ite_self, MLay_pI, MLay_pL, MLay_qI, MLay_qL, ev_X2_cutWheel_8, ev_X2_cutWheel_10, ev_X2_cutWheel_11, ev_X2_cutWheel_85, ev_X2_cutWheel_86, ev_X2_cutWheel_87, ev_X2_cutWheel_88, ev_X2_cutWheel_90, ev_X2_cutWheel_91, ev_X2_cutWheel_92, ev_X2_cutWheel_93, ev_X2_cutWheel_96, ev_X2_cutWheel_97, ev_X2_cutWheel_98, ev_X2_cutWheel_100, ev_X2_cutWheel_102, ev_X2_cutWheel_103, ev_X2_cutWheel_106, ev_X2_cutWheel_107, ev_X2_cutWheel_108, ev_X2_cutWheel_109, ev_X2_cutWheel_111, ev_X2_cutWheel_113, ev_X2_cutWheel_114, ev_X2_cutWheel_115, ev_X2_cutWheel_118, ev_X2_cutWheel_119, ev_X2_cutWheel_120, ev_X2_cutWheel_122, ev_X2_cutWheel_123, ev_X2_cutWheel_125, ev_X2_cutWheel_126, ev_X2_cutWheel_129, xt_X2_cutWheel, xf_X2_cutWheel, us_X2_cutRound, hk3, hk4, hk5, hk6]
    try simp (disch := omega) only [wI_id, dv_nn, rm_nn]
    repeat' (first | intro z | apply And.intro)
    all_goals try omega
    all_goals try contradiction
    all_goals exact h
  have w3 := fun a5 a6 => cw_8 (a5 := a5) (a6 := a6) (τ := cKn (cKn σ this (n / 100 % 10)) this (n / 10 % 10)) (p := this) (o := (cPt (cPt (0#64, 0) (n / 100 % 10)) (n / 10 % 10)).2) (pt := 1) (n := n) (r := (cPt (cPt (0#64, 0) (n / 100 % 10)) (n / 10 % 10)).1) (Q := Q) hk (by unfold cKn; simp only [fI_pI, Nat.reduceEqDiff, false_and, if_false]; exact hnn) hn (by unfold cPt; dsimp only; split <;> split <;> omega) (Or.inr (Or.inr rfl))
  simp only [Int.ediv_one] at w3
  have w2 := fun a5 a6 => cw_8 (a5 := a5) (a6 := a6) (τ := cKn σ this (n / 100 % 10)) (p := this) (o := (cPt (0#64, 0) (n / 100 % 10)).2) (pt := 10) (n := n) (r := (cPt (0#64, 0) (n / 100 % 10)).1) (Q := Q) hk (by unfold cKn; simp only [fI_pI, Nat.reduceEqDiff, false_and, if_false]; exact hnn) hn (by unfold cPt; dsimp only; split <;> omega) (Or.inr (Or.inl rfl))
  have w1 := cw_8 (τ := σ) (p := this) (o := 0) (pt := 100) (n := n) (r := 0#64) (Q := Q) (a5 := none) (a6 := none) hk hnn hn (by omega) (Or.inl rfl) fun a5 a6 => w2 a5 a6 fun a5 a6 => w3 a5 a6 fun a5 a6 => w85 a5 a6
  clear w2 w3 w85 h
  refine go_X2_cutWheel (ct := fun p => p == 8) 40 ?_
  simp only [oI, oL, oR, o1, lI, lL, lR, popN, catS, gv, stL, stL2, swt, cnd, spObj, List.getElem?_cons_zero, List.getElem?_cons_succ, List.getD_cons_zero, List.getD_cons_succ, List.set_cons_zero, List.set_cons_succ, List.nil_append, List.cons_append, Option.toList, Bool.or_false, Bool.false_or, Bool.or_true, Bool.true_or, Nat.reduceBEq, Nat.reduceAdd, Nat.reduceLT, Nat.reduceLeDiff, Int.reduceAdd, Int.reduceToNat, true_and, and_true, Fin.isValue, Fin.val_zero, Fin.val_one, Fin.val_two, Fin.reduceFinMk, eq_self, Int.reduceNeg, imp_self, Nat.reduceMul, Nat.le_refl, not_true_eq_false, not_false_eq_true, List.getElem?_nil, reduceCtorEq, true_or, or_true, Classical.not_not, implies_true, or_self, wI_0, wI_1, wI_m1, b2i_w, b2i_eq0, b2i_eq1, b2i_bool, nor_self, nx_pI, kd_pI, ln_pI, fI_pI, fL_pI, fR_pI, aI_pI, aL_pI, aR_pI, nx_pL, kd_pL, ln_pL, fI_pL, fL_pL, fR_pL, aI_pL, aL_pL, aR_pL, nx_pR, kd_pR, ln_pR, fI_pR, fL_pR, fR_pR, aI_pR, aL_pR, aR_pR, nx_qI, kd_qI, ln_qI, fI_qI, fL_qI, fR_qI, aI_qI, aL_qI, aR_qI, nx_qL, kd_qL, ln_qL, fI_qL, fL_qL, fR_qL, aI_qL, aL_qL, aR_qL, nx_qR, kd_qR, ln_qR, fI_qR, fL_qR, fR_qR, aI_qR, aL_qR, aR_qR, nx_mk, kd_mk, ln_mk, fI_mk, fL_mk, fR_mk, aI_mk, aL_mk, aR_mk, false_and, and_false, if_false, if_true, and_self, Int.reduceEq, Nat.reduceEqDiff, ite_self, MLay_pI, MLay_pL, MLay_qI, MLay_qL, ev_X2_cutWheel_0, ev_X2_cutWheel_1, ev_X2_cutWheel_2, ev_X2_cutWheel_3, ev_X2_cutWheel_4, ev_X2_cutWheel_6, xt_X2_cutWheel, xf_X2_cutWheel, us_X2_cutRound]
  exact w1

def sp_X2_init : Sp := fun av σ Q => oR av fun this av => oI av fun n av => oI av fun kn av => av = [] ∧ kd σ this = 3 ∧ ((0 ≤ n ∧ n ≤ 555) ∧ Q none (cWhl (pI (pI (pI σ 313 this (-1)) 300 this n) 301 this kn) this n))
theorem us_X2_init (this : Int) (n : Int) (kn : Int) (σ : Hp) (Q : Option AV → Hp → Prop) : sp_X2_init [vr this, vi n, vi kn] σ Q = (kd σ this = 3 ∧ ((0 ≤ n ∧ n ≤ 555) ∧ Q none (cWhl (pI (pI (pI σ 313 this (-1)) 300 this n) 301 this kn) this n))) := propext ⟨fun h => h.2, fun h => ⟨rfl, h⟩⟩
theorem el_X2_init {av : List AV} {σ : Hp} {Q : Option AV → Hp → Prop} (h : sp_X2_init av σ Q) : ∃ (this : Int) (n : Int) (kn : Int), av = [vr this, vi n, vi kn] ∧ (kd σ this = 3 ∧ ((0 ≤ n ∧ n ≤ 555) ∧ Q none (cWhl (pI (pI (pI σ 313 this (-1)) 300 this n) 301 this kn) this n))) := by
  obtain ⟨this, a0, rfl, h0⟩ := oR_s h
  obtain ⟨n, a1, rfl, h1⟩ := oI_s h0
  obtain ⟨kn, a2, rfl, h2⟩ := oI_s h1
  obtain ⟨rfl, hz⟩ := h2
  exact ⟨this, n, kn, rfl, hz⟩
theorem rc_X2_init : ∀ (av : List AV) (σ : Hp) (Q : Option AV → Hp → Prop), sp_X2_init av σ Q → ∃ r tl, av = vr r :: tl ∧ kd σ r = 2 + 1 := fun av σ Q h => by
  obtain ⟨this, n, kn, rfl, hz, -⟩ := el_X2_init h
  exact ⟨this, _, rfl, hz⟩
theorem rcn_X2_init : ∀ (av : List AV) (σ : Hp) (Q : Option AV → Hp → Prop), sp_X2_init av σ Q → ∃ r tl, av = vr r :: tl ∧ kd σ r ≠ 0 := fun av σ Q h => by
  obtain ⟨r, tl, e, hz⟩ := rc_X2_init av σ Q h
  exact ⟨r, tl, e, by omega⟩

def tb_X2_init : Tab := [(0, .aload_n 0, 1, (0, 0, 0, 0)), (1, .invokespecial 3, 3, (0, 0, 0, 0)), (4, .aload_n 0, 1, (0, 0, 0, 0)), (5, .iconst (-1), 1, (0, 0, 0, 0)), (6, .putfield 9, 3, (3, 313, 0, 0)), (9, .aload_n 0, 1, (0, 0, 0, 0)), (10, .iload_n 1, 1, (0, 0, 0, 0)), (11, .putfield 15, 3, (3, 300, 0, 0)), (14, .aload_n 0, 1, (0, 0, 0, 0)), (15, .iload_n 2, 1, (0, 0, 0, 0)), (16, .putfield 18, 3, (3, 301, 0, 0)), (19, .aload_n 0, 1, (0, 0, 0, 0)), (20, .invokevirtual 21, 3, (0, 0, 0, 0)), (23, .return_, 1, (0, 0, 0, 0))]
set_option maxRecDepth 100000 in
theorem tk_X2_init : TOK RX2 true cX2_init tb_X2_init := chkT_ok ft_X2 (by decide +kernel)
theorem rw_X2_26 : Row RX2 (.invokespecial 3) 3 1 0 0 0 spObj := row_obj (TBL_in 555 (by decide +kernel) rfl) (TBL_in 148 (by decide +kernel) rfl) (TBL_in 149 (by decide +kernel) rfl)
theorem rw_X2_168 : Row RX2 (.invokevirtual 21) 3 1 0 0 2 sp_X2_cutWheel := row_V (n := 0) (ci := 2) c_X2_cutWheel ⟨TBL_in 556 (by decide +kernel) rfl, TBL_in 559 (by decide +kernel) rfl, TBL_in 126 (by decide +kernel) rfl, by decide +kernel, by decide⟩ (by decide) rfl (TBL_in 558 (by decide +kernel) rfl) (TBL_in 5 (by decide +kernel) rfl) rc_X2_cutWheel
def mt_X2_init : List (Nat × Mt) := [(26, 1, 0, 0, 0, spObj), (168, 1, 0, 0, 2, sp_X2_cutWheel)]
theorem em_X2_init : mt_X2_init.lookup 26 = some (1, 0, 0, 0, spObj) ∧ mt_X2_init.lookup 168 = some (1, 0, 0, 2, sp_X2_cutWheel) := ⟨rfl, rfl⟩
theorem mk_X2_init : MOK RX2 mt_X2_init := by
  intro q hq
  simp only [mt_X2_init, List.mem_cons, List.not_mem_nil, or_false] at hq
  rcases hq with rfl | rfl
  · exact rw_X2_26
  · exact rw_X2_168
noncomputable def xe_X2_init (ct : Nat → Bool) (K : Kt) (R : Option AV → Hp → Prop) (n : Nat) : Kt := exS 3 3 0 0 0 tb_X2_init mt_X2_init ct K R n
noncomputable def xk_X2_init (ct : Nat → Bool) (K : Kt) (R : Option AV → Hp → Prop) (n : Nat) : Kt := exkS 3 3 0 0 0 tb_X2_init mt_X2_init ct K R n
theorem xt_X2_init {ct : Nat → Bool} {K : Kt} {R : Option AV → Hp → Prop} {n pc : Nat} {ls : List (Option AV)} {st : List AV} {σ : Hp} {k : Nat × Nat} (h : ct pc = true) : xk_X2_init ct K R n pc ls st σ k = K pc ls st σ k := by unfold xk_X2_init exkS; rw [h]
theorem xf_X2_init {ct : Nat → Bool} {K : Kt} {R : Option AV → Hp → Prop} {n pc : Nat} {ls : List (Option AV)} {st : List AV} {σ : Hp} {k : Nat × Nat} (h : ct pc = false) : xk_X2_init ct K R n pc ls st σ k = xe_X2_init ct K R n pc ls st σ k := by unfold xk_X2_init exkS xe_X2_init; rw [h]
theorem ev_X2_init_0 {ct : Nat → Bool} {K : Kt} {R : Option AV → Hp → Prop} {n : Nat} {ls : List (Option AV)} {st : List AV} {σ : Hp} {k : Nat × Nat} : xe_X2_init ct K R (n + 1) 0 ls st σ k = (lR ls 0 fun x => xk_X2_init ct K R n 1 ls (vr x :: st) σ k) := exS_step.trans rfl
theorem ev_X2_init_1 {ct : Nat → Bool} {K : Kt} {R : Option AV → Hp → Prop} {n : Nat} {ls : List (Option AV)} {st : List AV} {σ : Hp} {k : Nat × Nat} : xe_X2_init ct K R (n + 1) 1 ls st σ k = (popN 1 st [] fun av rest => (catS rest ≤ 8 ∧ 0 < 3 ∧ k.1 + 0 ≤ 0 ∧ k.2 + 0 ≤ 0) ∧ (spObj) av σ fun v σ' => xk_X2_init ct K R n 4 ls (v.toList ++ rest) σ' (k.1 + 0, k.2 + 0)) := exS_step.trans rfl
theorem ev_X2_init_4 {ct : Nat → Bool} {K : Kt} {R : Option AV → Hp → Prop} {n : Nat} {ls : List (Option AV)} {st : List AV} {σ : Hp} {k : Nat × Nat} : xe_X2_init ct K R (n + 1) 4 ls st σ k = (lR ls 0 fun x => xk_X2_init ct K R n 5 ls (vr x :: st) σ k) := exS_step.trans rfl
theorem ev_X2_init_5 {ct : Nat → Bool} {K : Kt} {R : Option AV → Hp → Prop} {n : Nat} {ls : List (Option AV)} {st : List AV} {σ : Hp} {k : Nat × Nat} : xe_X2_init ct K R (n + 1) 5 ls st σ k = (xk_X2_init ct K R n 6 ls (vi (-1) :: st) σ k) := exS_step.trans rfl
theorem ev_X2_init_6 {ct : Nat → Bool} {K : Kt} {R : Option AV → Hp → Prop} {n : Nat} {ls : List (Option AV)} {st : List AV} {σ : Hp} {k : Nat × Nat} : xe_X2_init ct K R (n + 1) 6 ls st σ k = (oI st fun v st => oR st fun x st => kd σ x = 3 ∧ xk_X2_init ct K R n 9 ls st (pI σ 313 x v) k) := exS_step.trans rfl
theorem ev_X2_init_9 {ct : Nat → Bool} {K : Kt} {R : Option AV → Hp → Prop} {n : Nat} {ls : List (Option AV)} {st : List AV} {σ : Hp} {k : Nat × Nat} : xe_X2_init ct K R (n + 1) 9 ls st σ k = (lR ls 0 fun x => xk_X2_init ct K R n 10 ls (vr x :: st) σ k) := exS_step.trans rfl
theorem ev_X2_init_10 {ct : Nat → Bool} {K : Kt} {R : Option AV → Hp → Prop} {n : Nat} {ls : List (Option AV)} {st : List AV} {σ : Hp} {k : Nat × Nat} : xe_X2_init ct K R (n + 1) 10 ls st σ k = (lI ls 1 fun x => xk_X2_init ct K R n 11 ls (vi x :: st) σ k) := exS_step.trans rfl
theorem ev_X2_init_11 {ct : Nat → Bool} {K : Kt} {R : Option AV → Hp → Prop} {n : Nat} {ls : List (Option AV)} {st : List AV} {σ : Hp} {k : Nat × Nat} : xe_X2_init ct K R (n + 1) 11 ls st σ k = (oI st fun v st => oR st fun x st => kd σ x = 3 ∧ xk_X2_init ct K R n 14 ls st (pI σ 300 x v) k) := exS_step.trans rfl
theorem ev_X2_init_14 {ct : Nat → Bool} {K : Kt} {R : Option AV → Hp → Prop} {n : Nat} {ls : List (Option AV)} {st : List AV} {σ : Hp} {k : Nat × Nat} : xe_X2_init ct K R (n + 1) 14 ls st σ k = (lR ls 0 fun x => xk_X2_init ct K R n 15 ls (vr x :: st) σ k) := exS_step.trans rfl
theorem ev_X2_init_15 {ct : Nat → Bool} {K : Kt} {R : Option AV → Hp → Prop} {n : Nat} {ls : List (Option AV)} {st : List AV} {σ : Hp} {k : Nat × Nat} : xe_X2_init ct K R (n + 1) 15 ls st σ k = (lI ls 2 fun x => xk_X2_init ct K R n 16 ls (vi x :: st) σ k) := exS_step.trans rfl
theorem ev_X2_init_16 {ct : Nat → Bool} {K : Kt} {R : Option AV → Hp → Prop} {n : Nat} {ls : List (Option AV)} {st : List AV} {σ : Hp} {k : Nat × Nat} : xe_X2_init ct K R (n + 1) 16 ls st σ k = (oI st fun v st => oR st fun x st => kd σ x = 3 ∧ xk_X2_init ct K R n 19 ls st (pI σ 301 x v) k) := exS_step.trans rfl
theorem ev_X2_init_19 {ct : Nat → Bool} {K : Kt} {R : Option AV → Hp → Prop} {n : Nat} {ls : List (Option AV)} {st : List AV} {σ : Hp} {k : Nat × Nat} : xe_X2_init ct K R (n + 1) 19 ls st σ k = (lR ls 0 fun x => xk_X2_init ct K R n 20 ls (vr x :: st) σ k) := exS_step.trans rfl
theorem ev_X2_init_20 {ct : Nat → Bool} {K : Kt} {R : Option AV → Hp → Prop} {n : Nat} {ls : List (Option AV)} {st : List AV} {σ : Hp} {k : Nat × Nat} : xe_X2_init ct K R (n + 1) 20 ls st σ k = (popN 1 st [] fun av rest => (catS rest ≤ 8 ∧ 2 < 3 ∧ k.1 + 0 ≤ 0 ∧ k.2 + 0 ≤ 0) ∧ (sp_X2_cutWheel) av σ fun v σ' => xk_X2_init ct K R n 23 ls (v.toList ++ rest) σ' (k.1 + 0, k.2 + 0)) := exS_step.trans rfl
theorem ev_X2_init_23 {ct : Nat → Bool} {K : Kt} {R : Option AV → Hp → Prop} {n : Nat} {ls : List (Option AV)} {st : List AV} {σ : Hp} {k : Nat × Nat} : xe_X2_init ct K R (n + 1) 23 ls st σ k = (st = [] ∧ 0 = 0 ∧ R none σ) := exS_step.trans rfl
def M_X2_init : Md := (yX2_init, cX2_init, 3, (none : Option FieldType), 3, 0, 0, 0, true, tb_X2_init, mt_X2_init)
theorem mm_X2_init : MMOK M_X2_init := ⟨by decide +kernel, tk_X2_init, mk_X2_init, rfl, fun _ => rfl⟩
theorem go_X2_init {Q : Option AV → Hp → Prop} {ct : Nat → Bool} {pc : Nat} {ls : List (Option AV)} {st : List AV} {σ : Hp} {k : Nat × Nat} (n : Nat) (h : xe_X2_init ct (Go M_X2_init Q) Q n pc ls st σ k) : Go M_X2_init Q pc ls st σ k := Go.exS mm_X2_init h

set_option maxRecDepth 20000 in
theorem c_X2_init : Ct yX2_init cX2_init 3 ((none : Option FieldType)) 3 0 0 sp_X2_init := by
  refine Ct.go (M := M_X2_init) mm_X2_init fun av σ Q h0 => ?_
  obtain ⟨this, n, kn, rfl, hk, h⟩ := el_X2_init h0
  clear h0
  refine ⟨Nat.le_of_ble_eq_true rfl, ?_⟩
  show Go M_X2_init Q 0 [some (vr this), some (vi n), some (vi kn)] [] σ (0, 0)
  obtain ⟨hn, h⟩ := h
  refine Go.wf fun hw => ?_
  have h0 : ¬ this = 0 := (hw.2.1 this (by omega)).1
  refine go_X2_init (ct := fun p => p == 99) 40 ?_
  simp only [oI, oL, oR, o1, lI, lL, lR, popN, catS, gv, stL, stL2, swt, cnd, spObj, List.getElem?_cons_zero, List.getElem?_cons_succ, List.getD_cons_zero, List.getD_cons_succ, List.set_cons_zero, List.set_cons_succ, List.nil_append, List.cons_append, Option.toList, Bool.or_false, Bool.false_or, Bool.or_true, Bool.true_or, Nat.reduceBEq, Nat.reduceAdd, Nat.reduceLT, Nat.reduceLeDiff, Int.reduceAdd, Int.reduceToNat, true_and, and_true, Fin.isValue, Fin.val_zero, Fin.val_one, Fin.val_two, Fin.reduceFinMk, eq_self, Int.reduceNeg, imp_self, Nat.reduceMul, Nat.le_refl, not_true_eq_false, not_false_eq_true, List.getElem?_nil, reduceCtorEq, true_or, or_true, Classical.not_not, implies_true, or_self, wI_0, wI_1, wI_m1, b2i_w, b2i_eq0, b2i_eq1, b2i_bool, nor_self, nx_pI, kd_pI, ln_pI, fI_pI, fL_pI, fR_pI, aI_pI, aL_pI, aR_pI, nx_pL, kd_pL, ln_pL, fI_pL, fL_pL, fR_pL, aI_pL, aL_pL, aR_pL, nx_pR, kd_pR, ln_pR, fI_pR, fL_pR, fR_pR, aI_pR, aL_pR, aR_pR, nx_qI, kd_qI, ln_qI, fI_qI, fL_qI, fR_qI, aI_qI, aL_qI, aR_qI, nx_qL, kd_qL, ln_qL, fI_qL, fL_qL, fR_qL, aI_qL, aL_qL, aR_qL, nx_qR, kd_qR, ln_qR, fI_qR, fL_qR, fR_qR, aI_qR, aL_qR, aR_qR, nx_mk, kd_mk, ln_mk, fI_mk, fL_mk, fR_mk, aI_mk, aL_mk, aR_mk, false_and, and_false, if_false, if_true, and_self, Int.reduceEq, Nat.reduceEqDiff, ite_self, MLay_pI, MLay_pL, MLay_qI, MLay_qL, ev_X2_init_0, ev_X2_init_1, ev_X2_init_4, ev_X2_init_5, ev_X2_init_6, ev_X2_init_9, ev_X2_init_10, ev_X2_init_11, ev_X2_init_14, ev_X2_init_15, ev_X2_init_16, ev_X2_init_19, ev_X2_init_20, ev_X2_init_23, xt_X2_init, xf_X2_init, us_X2_cutWheel, hk]
  repeat' (first | intro z | apply And.intro)
  all_goals try omega
  all_goals try contradiction
  all_goals first | exact h | exact h0
