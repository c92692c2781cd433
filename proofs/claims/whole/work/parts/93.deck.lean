/-! the class: a deck of cards, reckoned on a stack -/

def DkO (σ : Hp) (D : Int) : Prop := kd σ D = 8 ∧ (fR σ 800 D = D + 1 ∧ fR σ 801 D = D + 2 ∧ fR σ 802 D = D + 3 ∧ fR σ 803 D = D + 4 ∧ fR σ 804 D = D + 5) ∧ (kd σ (D + 1) = 101 ∧ ln σ (D + 1) = 24) ∧ (kd σ (D + 2) = 101 ∧ ln σ (D + 2) = 24) ∧ (kd σ (D + 3) = 101 ∧ ln σ (D + 3) = 24) ∧ (kd σ (D + 4) = 101 ∧ ln σ (D + 4) = 1000) ∧ (kd σ (D + 5) = 101 ∧ ln σ (D + 5) = 40)
theorem DkO.of {σ : Hp} (h : CLay σ) {D : Int} (hD : D = 33 ∨ D = 39) : DkO σ D := by
  unfold DkO
  rcases hD with rfl | rfl <;> simp only [h.eqs, Int.reduceAdd, and_self]
/-- what two numbers give -/
def jn (c x y : Int) : Int := if c = -2 then (if wI x = 0 then 0 else if wI y = 0 then 0 else 1) else if c = -3 then (if wI x = 0 then (if wI y = 0 then 0 else 1) else 1) else if c = -4 then (if wI x < wI y then 1 else 0) else if c = -5 then (if wI x = wI y then 1 else 0) else if c = -6 then x + y else x - y
/-- one step on a stack, the top first -/
def st1 (f : Int → Int) (s : List Int) (c : Int) : List Int := if 0 ≤ c then c :: s else if c ≤ -10 then f (-10 - c) :: s else if c = -1 then (match s with
  | x :: t => (if wI x = 0 then 1 else 0) :: t
  | [] => []) else (match s with
  | y :: x :: t => jn c x y :: t
  | _ => [])
def ok1 (s : List Int) (c : Int) : Prop := -16 ≤ c ∧ c ≤ 100000 ∧ ¬ (-9 ≤ c ∧ c ≤ -8) ∧ (0 ≤ c → s.length < 40) ∧ (c ≤ -10 → s.length < 40) ∧ (c = -1 → 1 ≤ s.length) ∧ (-7 ≤ c ∧ c ≤ -2 → 2 ≤ s.length) ∧ s.length ≤ 40
def rnS (f : Int → Int) (s : List Int) : List Int → List Int
  | [] => s
  | c :: cs => rnS f (st1 f s c) cs
def okS (f : Int → Int) (s : List Int) : List Int → Prop
  | [] => True
  | c :: cs => ok1 s c ∧ okS f (st1 f s c) cs
theorem rnS_app (f : Int → Int) : ∀ (a b s : List Int), rnS f s (a ++ b) = rnS f (rnS f s a) b
  | [], _, _ => rfl
  | c :: a, b, s => rnS_app f a b (st1 f s c)
theorem okS_app (f : Int → Int) : ∀ (a b s : List Int), okS f s (a ++ b) ↔ okS f s a ∧ okS f (rnS f s a) b
  | [], _, _ => ⟨fun h => ⟨trivial, h⟩, fun h => h.2⟩
  | c :: a, b, s => by
    have ih := okS_app f a b (st1 f s c)
    show ok1 s c ∧ okS f (st1 f s c) (a ++ b) ↔ (ok1 s c ∧ okS f (st1 f s c) a) ∧ okS f (rnS f (st1 f s c) a) b
    rw [ih]
    exact ⟨fun h => ⟨⟨h.1, h.2.1⟩, h.2.2⟩, fun h => ⟨h.1.1, h.1.2, h.2⟩⟩
/-- a stack as it lies -/
def SKs (A : Int → Int) : List Int → Prop
  | [] => True
  | x :: t => A t.length = x ∧ SKs A t
theorem SKs.cg {A A' : Int → Int} : ∀ {s : List Int}, SKs A s → (∀ j, 0 ≤ j → j < (s.length : Int) → A' j = A j) → SKs A' s
  | [], _, _ => trivial
  | x :: t, h, hA => ⟨(hA _ (by omega) (by rw [List.length_cons]; omega)).trans h.1, SKs.cg h.2 (fun j a b => hA j a (by rw [List.length_cons]; omega))⟩

def sp_X7_enginesOf : Sp := fun av σ Q => oR av fun this av => oI av fun l av => av = [] ∧ kd σ this = 8 ∧ (DkO σ this ∧ (0 ≤ l ∧ l < 24) ∧ Q (some (vi (aI σ (this + 1) l))) σ)
theorem us_X7_enginesOf (this : Int) (l : Int) (σ : Hp) (Q : Option AV → Hp → Prop) : sp_X7_enginesOf [vr this, vi l] σ Q = (kd σ this = 8 ∧ (DkO σ this ∧ (0 ≤ l ∧ l < 24) ∧ Q (some (vi (aI σ (this + 1) l))) σ)) := propext ⟨fun h => h.2, fun h => ⟨rfl, h⟩⟩
theorem el_X7_enginesOf {av : List AV} {σ : Hp} {Q : Option AV → Hp → Prop} (h : sp_X7_enginesOf av σ Q) : ∃ (this : Int) (l : Int), av = [vr this, vi l] ∧ (kd σ this = 8 ∧ (DkO σ this ∧ (0 ≤ l ∧ l < 24) ∧ Q (some (vi (aI σ (this + 1) l))) σ)) := by
  obtain ⟨this, a0, rfl, h0⟩ := oR_s h
  obtain ⟨l, a1, rfl, h1⟩ := oI_s h0
  obtain ⟨rfl, hz⟩ := h1
  exact ⟨this, l, rfl, hz⟩
theorem rc_X7_enginesOf : ∀ (av : List AV) (σ : Hp) (Q : Option AV → Hp → Prop), sp_X7_enginesOf av σ Q → ∃ r tl, av = vr r :: tl ∧ kd σ r = 7 + 1 := fun av σ Q h => by
  obtain ⟨this, l, rfl, hz, -⟩ := el_X7_enginesOf h
  exact ⟨this, _, rfl, hz⟩

def tb_X7_enginesOf : Tab := [(0, .iload_n 1, 1, (0, 0, 0, 0)), (1, .ifCond .lt 21, 3, (0, 0, 0, 0)), (4, .iload_n 1, 1, (0, 0, 0, 0)), (5, .aload_n 0, 1, (0, 0, 0, 0)), (6, .getfield 9, 3, (8, 800, 2, 0)), (9, .arraylength, 1, (0, 0, 0, 0)), (10, .if_icmp .ge 12, 3, (0, 0, 0, 0)), (13, .aload_n 0, 1, (0, 0, 0, 0)), (14, .getfield 9, 3, (8, 800, 2, 0)), (17, .iload_n 1, 1, (0, 0, 0, 0)), (18, .iaload, 1, (0, 0, 0, 0)), (19, .goto 4, 3, (0, 0, 0, 0)), (22, .iconst 0, 1, (0, 0, 0, 0)), (23, .ireturn, 1, (0, 0, 0, 0))]
set_option maxRecDepth 100000 in
theorem tk_X7_enginesOf : TOK RX7 false cX7_enginesOf tb_X7_enginesOf := chkT_ok ft_X7 (by decide +kernel)
def mt_X7_enginesOf : List (Nat × Mt) := []
theorem mk_X7_enginesOf : MOK RX7 mt_X7_enginesOf := fun q hq => by cases hq
noncomputable def xe_X7_enginesOf (ct : Nat → Bool) (K : Kt) (R : Option AV → Hp → Prop) (n : Nat) : Kt := exS 2 1 0 0 1 tb_X7_enginesOf mt_X7_enginesOf ct K R n
noncomputable def xk_X7_enginesOf (ct : Nat → Bool) (K : Kt) (R : Option AV → Hp → Prop) (n : Nat) : Kt := exkS 2 1 0 0 1 tb_X7_enginesOf mt_X7_enginesOf ct K R n
theorem xt_X7_enginesOf {ct : Nat → Bool} {K : Kt} {R : Option AV → Hp → Prop} {n pc : Nat} {ls : List (Option AV)} {st : List AV} {σ : Hp} {k : Nat × Nat} (h : ct pc = true) : xk_X7_enginesOf ct K R n pc ls st σ k = K pc ls st σ k := by unfold xk_X7_enginesOf exkS; rw [h]
theorem xf_X7_enginesOf {ct : Nat → Bool} {K : Kt} {R : Option AV → Hp → Prop} {n pc : Nat} {ls : List (Option AV)} {st : List AV} {σ : Hp} {k : Nat × Nat} (h : ct pc = false) : xk_X7_enginesOf ct K R n pc ls st σ k = xe_X7_enginesOf ct K R n pc ls st σ k := by unfold xk_X7_enginesOf exkS xe_X7_enginesOf; rw [h]
theorem ev_X7_enginesOf_0 {ct : Nat → Bool} {K : Kt} {R : Option AV → Hp → Prop} {n : Nat} {ls : List (Option AV)} {st : List AV} {σ : Hp} {k : Nat × Nat} : xe_X7_enginesOf ct K R (n + 1) 0 ls st σ k = (lI ls 1 fun x => xk_X7_enginesOf ct K R n 1 ls (vi x :: st) σ k) := exS_step.trans rfl
theorem ev_X7_enginesOf_1 {ct : Nat → Bool} {K : Kt} {R : Option AV → Hp → Prop} {n : Nat} {ls : List (Option AV)} {st : List AV} {σ : Hp} {k : Nat × Nat} : xe_X7_enginesOf ct K R (n + 1) 1 ls st σ k = (oI st fun x st => (wI x < wI 0 → xk_X7_enginesOf ct K R n 22 ls st σ k) ∧ (¬ (wI x < wI 0) → xk_X7_enginesOf ct K R n 4 ls st σ k)) := exS_step.trans rfl
theorem ev_X7_enginesOf_4 {ct : Nat → Bool} {K : Kt} {R : Option AV → Hp → Prop} {n : Nat} {ls : List (Option AV)} {st : List AV} {σ : Hp} {k : Nat × Nat} : xe_X7_enginesOf ct K R (n + 1) 4 ls st σ k = (lI ls 1 fun x => xk_X7_enginesOf ct K R n 5 ls (vi x :: st) σ k) := exS_step.trans rfl
theorem ev_X7_enginesOf_5 {ct : Nat → Bool} {K : Kt} {R : Option AV → Hp → Prop} {n : Nat} {ls : List (Option AV)} {st : List AV} {σ : Hp} {k : Nat × Nat} : xe_X7_enginesOf ct K R (n + 1) 5 ls st σ k = (lR ls 0 fun x => xk_X7_enginesOf ct K R n 6 ls (vr x :: st) σ k) := exS_step.trans rfl
theorem ev_X7_enginesOf_6 {ct : Nat → Bool} {K : Kt} {R : Option AV → Hp → Prop} {n : Nat} {ls : List (Option AV)} {st : List AV} {σ : Hp} {k : Nat × Nat} : xe_X7_enginesOf ct K R (n + 1) 6 ls st σ k = (oR st fun x st => kd σ x = 8 ∧ xk_X7_enginesOf ct K R n 9 ls (vr (fR σ 800 x) :: st) σ k) := exS_step.trans rfl
theorem ev_X7_enginesOf_9 {ct : Nat → Bool} {K : Kt} {R : Option AV → Hp → Prop} {n : Nat} {ls : List (Option AV)} {st : List AV} {σ : Hp} {k : Nat × Nat} : xe_X7_enginesOf ct K R (n + 1) 9 ls st σ k = (oR st fun x st => (101 ≤ kd σ x ∨ kd σ x = 21) ∧ xk_X7_enginesOf ct K R n 10 ls (vi (ln σ x) :: st) σ k) := exS_step.trans rfl
theorem ev_X7_enginesOf_10 {ct : Nat → Bool} {K : Kt} {R : Option AV → Hp → Prop} {n : Nat} {ls : List (Option AV)} {st : List AV} {σ : Hp} {k : Nat × Nat} : xe_X7_enginesOf ct K R (n + 1) 10 ls st σ k = (oI st fun y st => oI st fun x st => (wI y ≤ wI x → xk_X7_enginesOf ct K R n 22 ls st σ k) ∧ (¬ (wI y ≤ wI x) → xk_X7_enginesOf ct K R n 13 ls st σ k)) := exS_step.trans rfl
theorem ev_X7_enginesOf_13 {ct : Nat → Bool} {K : Kt} {R : Option AV → Hp → Prop} {n : Nat} {ls : List (Option AV)} {st : List AV} {σ : Hp} {k : Nat × Nat} : xe_X7_enginesOf ct K R (n + 1) 13 ls st σ k = (lR ls 0 fun x => xk_X7_enginesOf ct K R n 14 ls (vr x :: st) σ k) := exS_step.trans rfl
theorem ev_X7_enginesOf_14 {ct : Nat → Bool} {K : Kt} {R : Option AV → Hp → Prop} {n : Nat} {ls : List (Option AV)} {st : List AV} {σ : Hp} {k : Nat × Nat} : xe_X7_enginesOf ct K R (n + 1) 14 ls st σ k = (oR st fun x st => kd σ x = 8 ∧ xk_X7_enginesOf ct K R n 17 ls (vr (fR σ 800 x) :: st) σ k) := exS_step.trans rfl
theorem ev_X7_enginesOf_17 {ct : Nat → Bool} {K : Kt} {R : Option AV → Hp → Prop} {n : Nat} {ls : List (Option AV)} {st : List AV} {σ : Hp} {k : Nat × Nat} : xe_X7_enginesOf ct K R (n + 1) 17 ls st σ k = (lI ls 1 fun x => xk_X7_enginesOf ct K R n 18 ls (vi x :: st) σ k) := exS_step.trans rfl
theorem ev_X7_enginesOf_18 {ct : Nat → Bool} {K : Kt} {R : Option AV → Hp → Prop} {n : Nat} {ls : List (Option AV)} {st : List AV} {σ : Hp} {k : Nat × Nat} : xe_X7_enginesOf ct K R (n + 1) 18 ls st σ k = (oI st fun j st => oR st fun x st => (kd σ x = 101 ∨ kd σ x = 108) ∧ (0 ≤ j ∧ j < ln σ x) ∧ xk_X7_enginesOf ct K R n 19 ls (vi (aI σ x j) :: st) σ k) := exS_step.trans rfl
theorem ev_X7_enginesOf_19 {ct : Nat → Bool} {K : Kt} {R : Option AV → Hp → Prop} {n : Nat} {ls : List (Option AV)} {st : List AV} {σ : Hp} {k : Nat × Nat} : xe_X7_enginesOf ct K R (n + 1) 19 ls st σ k = (xk_X7_enginesOf ct K R n 23 ls st σ k) := exS_step.trans rfl
theorem ev_X7_enginesOf_22 {ct : Nat → Bool} {K : Kt} {R : Option AV → Hp → Prop} {n : Nat} {ls : List (Option AV)} {st : List AV} {σ : Hp} {k : Nat × Nat} : xe_X7_enginesOf ct K R (n + 1) 22 ls st σ k = (xk_X7_enginesOf ct K R n 23 ls (vi (0) :: st) σ k) := exS_step.trans rfl
theorem ev_X7_enginesOf_23 {ct : Nat → Bool} {K : Kt} {R : Option AV → Hp → Prop} {n : Nat} {ls : List (Option AV)} {st : List AV} {σ : Hp} {k : Nat × Nat} : xe_X7_enginesOf ct K R (n + 1) 23 ls st σ k = (oI st fun x st => st = [] ∧ True ∧ R (some (vi x)) σ) := exS_step.trans rfl
def M_X7_enginesOf : Md := (yX7_enginesOf, cX7_enginesOf, 2, (some FieldType.int), 1, 0, 0, 1, false, tb_X7_enginesOf, mt_X7_enginesOf)
theorem mm_X7_enginesOf : MMOK M_X7_enginesOf := ⟨by decide +kernel, tk_X7_enginesOf, mk_X7_enginesOf, rfl, fun h => by cases h⟩
theorem go_X7_enginesOf {Q : Option AV → Hp → Prop} {ct : Nat → Bool} {pc : Nat} {ls : List (Option AV)} {st : List AV} {σ : Hp} {k : Nat × Nat} (n : Nat) (h : xe_X7_enginesOf ct (Go M_X7_enginesOf Q) Q n pc ls st σ k) : Go M_X7_enginesOf Q pc ls st σ k := Go.exS mm_X7_enginesOf h

set_option maxRecDepth 20000 in
theorem c_X7_enginesOf : Ct yX7_enginesOf cX7_enginesOf 2 ((some FieldType.int)) 1 0 0 sp_X7_enginesOf := by
  refine Ct.go (M := M_X7_enginesOf) mm_X7_enginesOf fun av σ Q h0 => ?_
  obtain ⟨this, l, rfl, hk, h⟩ := el_X7_enginesOf h0
  clear h0
  refine ⟨Nat.le_of_ble_eq_true rfl, ?_⟩
  show Go M_X7_enginesOf Q 0 [some (vr this), some (vi l)] [] σ (0, 0)
  obtain ⟨⟨-, ⟨h1, -⟩, h2, -⟩, hl, h⟩ := h
  refine go_X7_enginesOf (ct := fun p => p == 22) 40 ?_
  simp only [oI, oL, oR, o1, lI, lL, lR, popN, catS, gv, stL, stL2, swt, cnd, spObj, List.getElem?_cons_zero, List.getElem?_cons_succ, List.getD_cons_zero, List.getD_cons_succ, List.set_cons_zero, List.set_cons_succ, List.nil_append, List.cons_append, Option.toList, Bool.or_false, Bool.false_or, Bool.or_true, Bool.true_or, Nat.reduceBEq, Nat.reduceAdd, Nat.reduceLT, Nat.reduceLeDiff, Int.reduceAdd, Int.reduceToNat, true_and, and_true, Fin.isValue, Fin.val_zero, Fin.val_one, Fin.val_two, Fin.reduceFinMk, eq_self, Int.reduceNeg, imp_self, Nat.reduceMul, Nat.le_refl, not_true_eq_false, not_false_eq_true, List.getElem?_nil, reduceCtorEq, true_or, or_true, Classical.not_not, implies_true, or_self, wI_0, wI_1, wI_m1, b2i_w, b2i_eq0, b2i_eq1, b2i_bool, nor_self, nx_pI, kd_pI, ln_pI, fI_pI, fL_pI, fR_pI, aI_pI, aL_pI, aR_pI, nx_pL, kd_pL, ln_pL, fI_pL, fL_pL, fR_pL, aI_pL, aL_pL, aR_pL, nx_pR, kd_pR, ln_pR, fI_pR, fL_pR, fR_pR, aI_pR, aL_pR, aR_pR, nx_qI, kd_qI, ln_qI, fI_qI, fL_qI, fR_qI, aI_qI, aL_qI, aR_qI, nx_qL, kd_qL, ln_qL, fI_qL, fL_qL, fR_qL, aI_qL, aL_qL, aR_qL, nx_qR, kd_qR, ln_qR, fI_qR, fL_qR, fR_qR, aI_qR, aL_qR, aR_qR, nx_mk, kd_mk, ln_mk, fI_mk, fL_mk, fR_mk, aI_mk, aL_mk, aR_mk, false_and, and_false, if_false, if_true, and_self, Int.reduceEq, Nat.reduceEqDiff, ite_self, MLay_pI, MLay_pL, MLay_qI, MLay_qL, ev_X7_enginesOf_0, ev_X7_enginesOf_1, ev_X7_enginesOf_4, ev_X7_enginesOf_5, ev_X7_enginesOf_6, ev_X7_enginesOf_9, ev_X7_enginesOf_10, ev_X7_enginesOf_13, ev_X7_enginesOf_14, ev_X7_enginesOf_17, ev_X7_enginesOf_18, ev_X7_enginesOf_19, ev_X7_enginesOf_22, ev_X7_enginesOf_23, xt_X7_enginesOf, xf_X7_enginesOf, hk, h1, h2]
  try simp (disch := omega) only [wI_id, dv_nn, rm_nn]
  repeat' (first | intro z | apply And.intro)
  all_goals try omega
  all_goals try contradiction
  all_goals exact h

def sp_X7_laddersOf : Sp := fun av σ Q => oR av fun this av => oI av fun l av => av = [] ∧ kd σ this = 8 ∧ (DkO σ this ∧ (0 ≤ l ∧ l < 24) ∧ Q (some (vi (aI σ (this + 2) l))) σ)
theorem us_X7_laddersOf (this : Int) (l : Int) (σ : Hp) (Q : Option AV → Hp → Prop) : sp_X7_laddersOf [vr this, vi l] σ Q = (kd σ this = 8 ∧ (DkO σ this ∧ (0 ≤ l ∧ l < 24) ∧ Q (some (vi (aI σ (this + 2) l))) σ)) := propext ⟨fun h => h.2, fun h => ⟨rfl, h⟩⟩
theorem el_X7_laddersOf {av : List AV} {σ : Hp} {Q : Option AV → Hp → Prop} (h : sp_X7_laddersOf av σ Q) : ∃ (this : Int) (l : Int), av = [vr this, vi l] ∧ (kd σ this = 8 ∧ (DkO σ this ∧ (0 ≤ l ∧ l < 24) ∧ Q (some (vi (aI σ (this + 2) l))) σ)) := by
  obtain ⟨this, a0, rfl, h0⟩ := oR_s h
  obtain ⟨l, a1, rfl, h1⟩ := oI_s h0
  obtain ⟨rfl, hz⟩ := h1
  exact ⟨this, l, rfl, hz⟩
theorem rc_X7_laddersOf : ∀ (av : List AV) (σ : Hp) (Q : Option AV → Hp → Prop), sp_X7_laddersOf av σ Q → ∃ r tl, av = vr r :: tl ∧ kd σ r = 7 + 1 := fun av σ Q h => by
  obtain ⟨this, l, rfl, hz, -⟩ := el_X7_laddersOf h
  exact ⟨this, _, rfl, hz⟩

def tb_X7_laddersOf : Tab := [(0, .iload_n 1, 1, (0, 0, 0, 0)), (1, .ifCond .lt 21, 3, (0, 0, 0, 0)), (4, .iload_n 1, 1, (0, 0, 0, 0)), (5, .aload_n 0, 1, (0, 0, 0, 0)), (6, .getfield 15, 3, (8, 801, 2, 0)), (9, .arraylength, 1, (0, 0, 0, 0)), (10, .if_icmp .ge 12, 3, (0, 0, 0, 0)), (13, .aload_n 0, 1, (0, 0, 0, 0)), (14, .getfield 15, 3, (8, 801, 2, 0)), (17, .iload_n 1, 1, (0, 0, 0, 0)), (18, .iaload, 1, (0, 0, 0, 0)), (19, .goto 4, 3, (0, 0, 0, 0)), (22, .iconst 0, 1, (0, 0, 0, 0)), (23, .ireturn, 1, (0, 0, 0, 0))]
set_option maxRecDepth 100000 in
theorem tk_X7_laddersOf : TOK RX7 false cX7_laddersOf tb_X7_laddersOf := chkT_ok ft_X7 (by decide +kernel)
def mt_X7_laddersOf : List (Nat × Mt) := []
theorem mk_X7_laddersOf : MOK RX7 mt_X7_laddersOf := fun q hq => by cases hq
noncomputable def xe_X7_laddersOf (ct : Nat → Bool) (K : Kt) (R : Option AV → Hp → Prop) (n : Nat) : Kt := exS 2 1 0 0 1 tb_X7_laddersOf mt_X7_laddersOf ct K R n
noncomputable def xk_X7_laddersOf (ct : Nat → Bool) (K : Kt) (R : Option AV → Hp → Prop) (n : Nat) : Kt := exkS 2 1 0 0 1 tb_X7_laddersOf mt_X7_laddersOf ct K R n
theorem xt_X7_laddersOf {ct : Nat → Bool} {K : Kt} {R : Option AV → Hp → Prop} {n pc : Nat} {ls : List (Option AV)} {st : List AV} {σ : Hp} {k : Nat × Nat} (h : ct pc = true) : xk_X7_laddersOf ct K R n pc ls st σ k = K pc ls st σ k := by unfold xk_X7_laddersOf exkS; rw [h]
theorem xf_X7_laddersOf {ct : Nat → Bool} {K : Kt} {R : Option AV → Hp → Prop} {n pc : Nat} {ls : List (Option AV)} {st : List AV} {σ : Hp} {k : Nat × Nat} (h : ct pc = false) : xk_X7_laddersOf ct K R n pc ls st σ k = xe_X7_laddersOf ct K R n pc ls st σ k := by unfold xk_X7_laddersOf exkS xe_X7_laddersOf; rw [h]
theorem ev_X7_laddersOf_0 {ct : Nat → Bool} {K : Kt} {R : Option AV → Hp → Prop} {n : Nat} {ls : List (Option AV)} {st : List AV} {σ : Hp} {k : Nat × Nat} : xe_X7_laddersOf ct K R (n + 1) 0 ls st σ k = (lI ls 1 fun x => xk_X7_laddersOf ct K R n 1 ls (vi x :: st) σ k) := exS_step.trans rfl
theorem ev_X7_laddersOf_1 {ct : Nat → Bool} {K : Kt} {R : Option AV → Hp → Prop} {n : Nat} {ls : List (Option AV)} {st : List AV} {σ : Hp} {k : Nat × Nat} : xe_X7_laddersOf ct K R (n + 1) 1 ls st σ k = (oI st fun x st => (wI x < wI 0 → xk_X7_laddersOf ct K R n 22 ls st σ k) ∧ (¬ (wI x < wI 0) → xk_X7_laddersOf ct K R n 4 ls st σ k)) := exS_step.trans rfl
theorem ev_X7_laddersOf_4 {ct : Nat → Bool} {K : Kt} {R : Option AV → Hp → Prop} {n : Nat} {ls : List (Option AV)} {st : List AV} {σ : Hp} {k : Nat × Nat} : xe_X7_laddersOf ct K R (n + 1) 4 ls st σ k = (lI ls 1 fun x => xk_X7_laddersOf ct K R n 5 ls (vi x :: st) σ k) := exS_step.trans rfl
theorem ev_X7_laddersOf_5 {ct : Nat → Bool} {K : Kt} {R : Option AV → Hp → Prop} {n : Nat} {ls : List (Option AV)} {st : List AV} {σ : Hp} {k : Nat × Nat} : xe_X7_laddersOf ct K R (n + 1) 5 ls st σ k = (lR ls 0 fun x => xk_X7_laddersOf ct K R n 6 ls (vr x :: st) σ k) := exS_step.trans rfl
theorem ev_X7_laddersOf_6 {ct : Nat → Bool} {K : Kt} {R : Option AV → Hp → Prop} {n : Nat} {ls : List (Option AV)} {st : List AV} {σ : Hp} {k : Nat × Nat} : xe_X7_laddersOf ct K R (n + 1) 6 ls st σ k = (oR st fun x st => kd σ x = 8 ∧ xk_X7_laddersOf ct K R n 9 ls (vr (fR σ 801 x) :: st) σ k) := exS_step.trans rfl
theorem ev_X7_laddersOf_9 {ct : Nat → Bool} {K : Kt} {R : Option AV → Hp → Prop} {n : Nat} {ls : List (Option AV)} {st : List AV} {σ : Hp} {k : Nat × Nat} : xe_X7_laddersOf ct K R (n + 1) 9 ls st σ k = (oR st fun x st => (101 ≤ kd σ x ∨ kd σ x = 21) ∧ xk_X7_laddersOf ct K R n 10 ls (vi (ln σ x) :: st) σ k) := exS_step.trans rfl
theorem ev_X7_laddersOf_10 {ct : Nat → Bool} {K : Kt} {R : Option AV → Hp → Prop} {n : Nat} {ls : List (Option AV)} {st : List AV} {σ : Hp} {k : Nat × Nat} : xe_X7_laddersOf ct K R (n + 1) 10 ls st σ k = (oI st fun y st => oI st fun x st => (wI y ≤ wI x → xk_X7_laddersOf ct K R n 22 ls st σ k) ∧ (¬ (wI y ≤ wI x) → xk_X7_laddersOf ct K R n 13 ls st σ k)) := exS_step.trans rfl
theorem ev_X7_laddersOf_13 {ct : Nat → Bool} {K : Kt} {R : Option AV → Hp → Prop} {n : Nat} {ls : List (Option AV)} {st : List AV} {σ : Hp} {k : Nat × Nat} : xe_X7_laddersOf ct K R (n + 1) 13 ls st σ k = (lR ls 0 fun x => xk_X7_laddersOf ct K R n 14 ls (vr x :: st) σ k) := exS_step.trans rfl
theorem ev_X7_laddersOf_14 {ct : Nat → Bool} {K : Kt} {R : Option AV → Hp → Prop} {n : Nat} {ls : List (Option AV)} {st : List AV} {σ : Hp} {k : Nat × Nat} : xe_X7_laddersOf ct K R (n + 1) 14 ls st σ k = (oR st fun x st => kd σ x = 8 ∧ xk_X7_laddersOf ct K R n 17 ls (vr (fR σ 801 x) :: st) σ k) := exS_step.trans rfl
theorem ev_X7_laddersOf_17 {ct : Nat → Bool} {K : Kt} {R : Option AV → Hp → Prop} {n : Nat} {ls : List (Option AV)} {st : List AV} {σ : Hp} {k : Nat × Nat} : xe_X7_laddersOf ct K R (n + 1) 17 ls st σ k = (lI ls 1 fun x => xk_X7_laddersOf ct K R n 18 ls (vi x :: st) σ k) := exS_step.trans rfl
theorem ev_X7_laddersOf_18 {ct : Nat → Bool} {K : Kt} {R : Option AV → Hp → Prop} {n : Nat} {ls : List (Option AV)} {st : List AV} {σ : Hp} {k : Nat × Nat} : xe_X7_laddersOf ct K R (n + 1) 18 ls st σ k = (oI st fun j st => oR st fun x st => (kd σ x = 101 ∨ kd σ x = 108) ∧ (0 ≤ j ∧ j < ln σ x) ∧ xk_X7_laddersOf ct K R n 19 ls (vi (aI σ x j) :: st) σ k) := exS_step.trans rfl
theorem ev_X7_laddersOf_19 {ct : Nat → Bool} {K : Kt} {R : Option AV → Hp → Prop} {n : Nat} {ls : List (Option AV)} {st : List AV} {σ : Hp} {k : Nat × Nat} : xe_X7_laddersOf ct K R (n + 1) 19 ls st σ k = (xk_X7_laddersOf ct K R n 23 ls st σ k) := exS_step.trans rfl
theorem ev_X7_laddersOf_22 {ct : Nat → Bool} {K : Kt} {R : Option AV → Hp → Prop} {n : Nat} {ls : List (Option AV)} {st : List AV} {σ : Hp} {k : Nat × Nat} : xe_X7_laddersOf ct K R (n + 1) 22 ls st σ k = (xk_X7_laddersOf ct K R n 23 ls (vi (0) :: st) σ k) := exS_step.trans rfl
theorem ev_X7_laddersOf_23 {ct : Nat → Bool} {K : Kt} {R : Option AV → Hp → Prop} {n : Nat} {ls : List (Option AV)} {st : List AV} {σ : Hp} {k : Nat × Nat} : xe_X7_laddersOf ct K R (n + 1) 23 ls st σ k = (oI st fun x st => st = [] ∧ True ∧ R (some (vi x)) σ) := exS_step.trans rfl
def M_X7_laddersOf : Md := (yX7_laddersOf, cX7_laddersOf, 2, (some FieldType.int), 1, 0, 0, 1, false, tb_X7_laddersOf, mt_X7_laddersOf)
theorem mm_X7_laddersOf : MMOK M_X7_laddersOf := ⟨by decide +kernel, tk_X7_laddersOf, mk_X7_laddersOf, rfl, fun h => by cases h⟩
theorem go_X7_laddersOf {Q : Option AV → Hp → Prop} {ct : Nat → Bool} {pc : Nat} {ls : List (Option AV)} {st : List AV} {σ : Hp} {k : Nat × Nat} (n : Nat) (h : xe_X7_laddersOf ct (Go M_X7_laddersOf Q) Q n pc ls st σ k) : Go M_X7_laddersOf Q pc ls st σ k := Go.exS mm_X7_laddersOf h

set_option maxRecDepth 20000 in
theorem c_X7_laddersOf : Ct yX7_laddersOf cX7_laddersOf 2 ((some FieldType.int)) 1 0 0 sp_X7_laddersOf := by
  refine Ct.go (M := M_X7_laddersOf) mm_X7_laddersOf fun av σ Q h0 => ?_
  obtain ⟨this, l, rfl, hk, h⟩ := el_X7_laddersOf h0
  clear h0
  refine ⟨Nat.le_of_ble_eq_true rfl, ?_⟩
  show Go M_X7_laddersOf Q 0 [some (vr this), some (vi l)] [] σ (0, 0)
  obtain ⟨⟨-, ⟨-, h1, -⟩, -, h2, -⟩, hl, h⟩ := h
  refine go_X7_laddersOf (ct := fun p => p == 22) 40 ?_
  simp only [oI, oL, oR, o1, lI, lL, lR, popN, catS, gv, stL, stL2, swt, cnd, spObj, List.getElem?_cons_zero, List.getElem?_cons_succ, List.getD_cons_zero, List.getD_cons_succ, List.set_cons_zero, List.set_cons_succ, List.nil_append, List.cons_append, Option.toList, Bool.or_false, Bool.false_or, Bool.or_true, Bool.true_or, Nat.reduceBEq, Nat.reduceAdd, Nat.reduceLT, Nat.reduceLeDiff, Int.reduceAdd, Int.reduceToNat, true_and, and_true, Fin.isValue, Fin.val_zero, Fin.val_one, Fin.val_two, Fin.reduceFinMk, eq_self, Int.reduceNeg, imp_self, Nat.reduceMul, Nat.le_refl, not_true_eq_false, not_false_eq_true, List.getElem?_nil, reduceCtorEq, true_or, or_true, Classical.not_not, implies_true, or_self, wI_0, wI_1, wI_m1, b2i_w, b2i_eq0, b2i_eq1, b2i_bool, nor_self, nx_pI, kd_pI, ln_pI, fI_pI, fL_pI, fR_pI, aI_pI, aL_pI, aR_pI, nx_pL, kd_pL, ln_pL, fI_pL, fL_pL, fR_pL, aI_pL, aL_pL, aR_pL, nx_pR, kd_pR, ln_pR, fI_pR, fL_pR, fR_pR, aI_pR, aL_pR, aR_pR, nx_qI, kd_qI, ln_qI, fI_qI, fL_qI, fR_qI, aI_qI, aL_qI, aR_qI, nx_qL, kd_qL, ln_qL, fI_qL, fL_qL, fR_qL, aI_qL, aL_qL, aR_qL, nx_qR, kd_qR, ln_qR, fI_qR, fL_qR, fR_qR, aI_qR, aL_qR, aR_qR, nx_mk, kd_mk, ln_mk, fI_mk, fL_mk, fR_mk, aI_mk, aL_mk, aR_mk, false_and, and_false, if_false, if_true, and_self, Int.reduceEq, Nat.reduceEqDiff, ite_self, MLay_pI, MLay_pL, MLay_qI, MLay_qL, ev_X7_laddersOf_0, ev_X7_laddersOf_1, ev_X7_laddersOf_4, ev_X7_laddersOf_5, ev_X7_laddersOf_6, ev_X7_laddersOf_9, ev_X7_laddersOf_10, ev_X7_laddersOf_13, ev_X7_laddersOf_14, ev_X7_laddersOf_17, ev_X7_laddersOf_18, ev_X7_laddersOf_19, ev_X7_laddersOf_22, ev_X7_laddersOf_23, xt_X7_laddersOf, xf_X7_laddersOf, hk, h1, h2]
  try simp (disch := omega) only [wI_id, dv_nn, rm_nn]
  repeat' (first | intro z | apply And.intro)
  all_goals try omega
  all_goals try contradiction
  all_goals exact h

def sp_X7_push : Sp := fun av σ Q => oR av fun this av => oI av fun v av => av = [] ∧ kd σ this = 8 ∧ (DkO σ this ∧ (0 ≤ fI σ 806 this ∧ fI σ 806 this < 40) ∧ Q none (pI (qI σ (this + 5) (fI σ 806 this) v) 806 this (fI σ 806 this + 1)))
theorem us_X7_push (this : Int) (v : Int) (σ : Hp) (Q : Option AV → Hp → Prop) : sp_X7_push [vr this, vi v] σ Q = (kd σ this = 8 ∧ (DkO σ this ∧ (0 ≤ fI σ 806 this ∧ fI σ 806 this < 40) ∧ Q none (pI (qI σ (this + 5) (fI σ 806 this) v) 806 this (fI σ 806 this + 1)))) := propext ⟨fun h => h.2, fun h => ⟨rfl, h⟩⟩
theorem el_X7_push {av : List AV} {σ : Hp} {Q : Option AV → Hp → Prop} (h : sp_X7_push av σ Q) : ∃ (this : Int) (v : Int), av = [vr this, vi v] ∧ (kd σ this = 8 ∧ (DkO σ this ∧ (0 ≤ fI σ 806 this ∧ fI σ 806 this < 40) ∧ Q none (pI (qI σ (this + 5) (fI σ 806 this) v) 806 this (fI σ 806 this + 1)))) := by
  obtain ⟨this, a0, rfl, h0⟩ := oR_s h
  obtain ⟨v, a1, rfl, h1⟩ := oI_s h0
  obtain ⟨rfl, hz⟩ := h1
  exact ⟨this, v, rfl, hz⟩
theorem rc_X7_push : ∀ (av : List AV) (σ : Hp) (Q : Option AV → Hp → Prop), sp_X7_push av σ Q → ∃ r tl, av = vr r :: tl ∧ kd σ r = 7 + 1 := fun av σ Q h => by
  obtain ⟨this, v, rfl, hz, -⟩ := el_X7_push h
  exact ⟨this, _, rfl, hz⟩

def tb_X7_push : Tab := [(0, .aload_n 0, 1, (0, 0, 0, 0)), (1, .getfield 31, 3, (8, 806, 0, 0)), (4, .ifCond .lt 35, 3, (0, 0, 0, 0)), (7, .aload_n 0, 1, (0, 0, 0, 0)), (8, .getfield 31, 3, (8, 806, 0, 0)), (11, .aload_n 0, 1, (0, 0, 0, 0)), (12, .getfield 24, 3, (8, 804, 2, 0)), (15, .arraylength, 1, (0, 0, 0, 0)), (16, .if_icmp .ge 23, 3, (0, 0, 0, 0)), (19, .aload_n 0, 1, (0, 0, 0, 0)), (20, .getfield 24, 3, (8, 804, 2, 0)), (23, .aload_n 0, 1, (0, 0, 0, 0)), (24, .getfield 31, 3, (8, 806, 0, 0)), (27, .iload_n 1, 1, (0, 0, 0, 0)), (28, .iastore, 1, (0, 0, 0, 0)), (29, .aload_n 0, 1, (0, 0, 0, 0)), (30, .dup, 1, (0, 0, 0, 0)), (31, .getfield 31, 3, (8, 806, 0, 0)), (34, .iconst 1, 1, (0, 0, 0, 0)), (35, .iadd, 1, (0, 0, 0, 0)), (36, .putfield 31, 3, (8, 806, 0, 0)), (39, .return_, 1, (0, 0, 0, 0))]
set_option maxRecDepth 100000 in
theorem tk_X7_push : TOK RX7 false cX7_push tb_X7_push := chkT_ok ft_X7 (by decide +kernel)
def mt_X7_push : List (Nat × Mt) := []
theorem mk_X7_push : MOK RX7 mt_X7_push := fun q hq => by cases hq
noncomputable def xe_X7_push (ct : Nat → Bool) (K : Kt) (R : Option AV → Hp → Prop) (n : Nat) : Kt := exS 2 1 0 0 0 tb_X7_push mt_X7_push ct K R n
noncomputable def xk_X7_push (ct : Nat → Bool) (K : Kt) (R : Option AV → Hp → Prop) (n : Nat) : Kt := exkS 2 1 0 0 0 tb_X7_push mt_X7_push ct K R n
theorem xt_X7_push {ct : Nat → Bool} {K : Kt} {R : Option AV → Hp → Prop} {n pc : Nat} {ls : List (Option AV)} {st : List AV} {σ : Hp} {k : Nat × Nat} (h : ct pc = true) : xk_X7_push ct K R n pc ls st σ k = K pc ls st σ k := by unfold xk_X7_push exkS; rw [h]
theorem xf_X7_push {ct : Nat → Bool} {K : Kt} {R : Option AV → Hp → Prop} {n pc : Nat} {ls : List (Option AV)} {st : List AV} {σ : Hp} {k : Nat × Nat} (h : ct pc = false) : xk_X7_push ct K R n pc ls st σ k = xe_X7_push ct K R n pc ls st σ k := by unfold xk_X7_push exkS xe_X7_push; rw [h]
theorem ev_X7_push_0 {ct : Nat → Bool} {K : Kt} {R : Option AV → Hp → Prop} {n : Nat} {ls : List (Option AV)} {st : List AV} {σ : Hp} {k : Nat × Nat} : xe_X7_push ct K R (n + 1) 0 ls st σ k = (lR ls 0 fun x => xk_X7_push ct K R n 1 ls (vr x :: st) σ k) := exS_step.trans rfl
theorem ev_X7_push_1 {ct : Nat → Bool} {K : Kt} {R : Option AV → Hp → Prop} {n : Nat} {ls : List (Option AV)} {st : List AV} {σ : Hp} {k : Nat × Nat} : xe_X7_push ct K R (n + 1) 1 ls st σ k = (oR st fun x st => kd σ x = 8 ∧ xk_X7_push ct K R n 4 ls (vi (fI σ 806 x) :: st) σ k) := exS_step.trans rfl
theorem ev_X7_push_4 {ct : Nat → Bool} {K : Kt} {R : Option AV → Hp → Prop} {n : Nat} {ls : List (Option AV)} {st : List AV} {σ : Hp} {k : Nat × Nat} : xe_X7_push ct K R (n + 1) 4 ls st σ k = (oI st fun x st => (wI x < wI 0 → xk_X7_push ct K R n 39 ls st σ k) ∧ (¬ (wI x < wI 0) → xk_X7_push ct K R n 7 ls st σ k)) := exS_step.trans rfl
theorem ev_X7_push_7 {ct : Nat → Bool} {K : Kt} {R : Option AV → Hp → Prop} {n : Nat} {ls : List (Option AV)} {st : List AV} {σ : Hp} {k : Nat × Nat} : xe_X7_push ct K R (n + 1) 7 ls st σ k = (lR ls 0 fun x => xk_X7_push ct K R n 8 ls (vr x :: st) σ k) := exS_step.trans rfl
theorem ev_X7_push_8 {ct : Nat → Bool} {K : Kt} {R : Option AV → Hp → Prop} {n : Nat} {ls : List (Option AV)} {st : List AV} {σ : Hp} {k : Nat × Nat} : xe_X7_push ct K R (n + 1) 8 ls st σ k = (oR st fun x st => kd σ x = 8 ∧ xk_X7_push ct K R n 11 ls (vi (fI σ 806 x) :: st) σ k) := exS_step.trans rfl
theorem ev_X7_push_11 {ct : Nat → Bool} {K : Kt} {R : Option AV → Hp → Prop} {n : Nat} {ls : List (Option AV)} {st : List AV} {σ : Hp} {k : Nat × Nat} : xe_X7_push ct K R (n + 1) 11 ls st σ k = (lR ls 0 fun x => xk_X7_push ct K R n 12 ls (vr x :: st) σ k) := exS_step.trans rfl
theorem ev_X7_push_12 {ct : Nat → Bool} {K : Kt} {R : Option AV → Hp → Prop} {n : Nat} {ls : List (Option AV)} {st : List AV} {σ : Hp} {k : Nat × Nat} : xe_X7_push ct K R (n + 1) 12 ls st σ k = (oR st fun x st => kd σ x = 8 ∧ xk_X7_push ct K R n 15 ls (vr (fR σ 804 x) :: st) σ k) := exS_step.trans rfl
theorem ev_X7_push_15 {ct : Nat → Bool} {K : Kt} {R : Option AV → Hp → Prop} {n : Nat} {ls : List (Option AV)} {st : List AV} {σ : Hp} {k : Nat × Nat} : xe_X7_push ct K R (n + 1) 15 ls st σ k = (oR st fun x st => (101 ≤ kd σ x ∨ kd σ x = 21) ∧ xk_X7_push ct K R n 16 ls (vi (ln σ x) :: st) σ k) := exS_step.trans rfl
theorem ev_X7_push_16 {ct : Nat → Bool} {K : Kt} {R : Option AV → Hp → Prop} {n : Nat} {ls : List (Option AV)} {st : List AV} {σ : Hp} {k : Nat × Nat} : xe_X7_push ct K R (n + 1) 16 ls st σ k = (oI st fun y st => oI st fun x st => (wI y ≤ wI x → xk_X7_push ct K R n 39 ls st σ k) ∧ (¬ (wI y ≤ wI x) → xk_X7_push ct K R n 19 ls st σ k)) := exS_step.trans rfl
theorem ev_X7_push_19 {ct : Nat → Bool} {K : Kt} {R : Option AV → Hp → Prop} {n : Nat} {ls : List (Option AV)} {st : List AV} {σ : Hp} {k : Nat × Nat} : xe_X7_push ct K R (n + 1) 19 ls st σ k = (lR ls 0 fun x => xk_X7_push ct K R n 20 ls (vr x :: st) σ k) := exS_step.trans rfl
theorem ev_X7_push_20 {ct : Nat → Bool} {K : Kt} {R : Option AV → Hp → Prop} {n : Nat} {ls : List (Option AV)} {st : List AV} {σ : Hp} {k : Nat × Nat} : xe_X7_push ct K R (n + 1) 20 ls st σ k = (oR st fun x st => kd σ x = 8 ∧ xk_X7_push ct K R n 23 ls (vr (fR σ 804 x) :: st) σ k) := exS_step.trans rfl
theorem ev_X7_push_23 {ct : Nat → Bool} {K : Kt} {R : Option AV → Hp → Prop} {n : Nat} {ls : List (Option AV)} {st : List AV} {σ : Hp} {k : Nat × Nat} : xe_X7_push ct K R (n + 1) 23 ls st σ k = (lR ls 0 fun x => xk_X7_push ct K R n 24 ls (vr x :: st) σ k) := exS_step.trans rfl
theorem ev_X7_push_24 {ct : Nat → Bool} {K : Kt} {R : Option AV → Hp → Prop} {n : Nat} {ls : List (Option AV)} {st : List AV} {σ : Hp} {k : Nat × Nat} : xe_X7_push ct K R (n + 1) 24 ls st σ k = (oR st fun x st => kd σ x = 8 ∧ xk_X7_push ct K R n 27 ls (vi (fI σ 806 x) :: st) σ k) := exS_step.trans rfl
theorem ev_X7_push_27 {ct : Nat → Bool} {K : Kt} {R : Option AV → Hp → Prop} {n : Nat} {ls : List (Option AV)} {st : List AV} {σ : Hp} {k : Nat × Nat} : xe_X7_push ct K R (n + 1) 27 ls st σ k = (lI ls 1 fun x => xk_X7_push ct K R n 28 ls (vi x :: st) σ k) := exS_step.trans rfl
theorem ev_X7_push_28 {ct : Nat → Bool} {K : Kt} {R : Option AV → Hp → Prop} {n : Nat} {ls : List (Option AV)} {st : List AV} {σ : Hp} {k : Nat × Nat} : xe_X7_push ct K R (n + 1) 28 ls st σ k = (oI st fun v st => oI st fun j st => oR st fun x st => kd σ x = 101 ∧ (0 ≤ j ∧ j < ln σ x) ∧ xk_X7_push ct K R n 29 ls st (qI σ x j v) k) := exS_step.trans rfl
theorem ev_X7_push_29 {ct : Nat → Bool} {K : Kt} {R : Option AV → Hp → Prop} {n : Nat} {ls : List (Option AV)} {st : List AV} {σ : Hp} {k : Nat × Nat} : xe_X7_push ct K R (n + 1) 29 ls st σ k = (lR ls 0 fun x => xk_X7_push ct K R n 30 ls (vr x :: st) σ k) := exS_step.trans rfl
theorem ev_X7_push_30 {ct : Nat → Bool} {K : Kt} {R : Option AV → Hp → Prop} {n : Nat} {ls : List (Option AV)} {st : List AV} {σ : Hp} {k : Nat × Nat} : xe_X7_push ct K R (n + 1) 30 ls st σ k = (o1 st fun v st => xk_X7_push ct K R n 31 ls (v :: v :: st) σ k) := exS_step.trans rfl
theorem ev_X7_push_31 {ct : Nat → Bool} {K : Kt} {R : Option AV → Hp → Prop} {n : Nat} {ls : List (Option AV)} {st : List AV} {σ : Hp} {k : Nat × Nat} : xe_X7_push ct K R (n + 1) 31 ls st σ k = (oR st fun x st => kd σ x = 8 ∧ xk_X7_push ct K R n 34 ls (vi (fI σ 806 x) :: st) σ k) := exS_step.trans rfl
theorem ev_X7_push_34 {ct : Nat → Bool} {K : Kt} {R : Option AV → Hp → Prop} {n : Nat} {ls : List (Option AV)} {st : List AV} {σ : Hp} {k : Nat × Nat} : xe_X7_push ct K R (n + 1) 34 ls st σ k = (xk_X7_push ct K R n 35 ls (vi (1) :: st) σ k) := exS_step.trans rfl
theorem ev_X7_push_35 {ct : Nat → Bool} {K : Kt} {R : Option AV → Hp → Prop} {n : Nat} {ls : List (Option AV)} {st : List AV} {σ : Hp} {k : Nat × Nat} : xe_X7_push ct K R (n + 1) 35 ls st σ k = (oI st fun y st => oI st fun x st => xk_X7_push ct K R n 36 ls (vi (x + y) :: st) σ k) := exS_step.trans rfl
theorem ev_X7_push_36 {ct : Nat → Bool} {K : Kt} {R : Option AV → Hp → Prop} {n : Nat} {ls : List (Option AV)} {st : List AV} {σ : Hp} {k : Nat × Nat} : xe_X7_push ct K R (n + 1) 36 ls st σ k = (oI st fun v st => oR st fun x st => kd σ x = 8 ∧ xk_X7_push ct K R n 39 ls st (pI σ 806 x v) k) := exS_step.trans rfl
theorem ev_X7_push_39 {ct : Nat → Bool} {K : Kt} {R : Option AV → Hp → Prop} {n : Nat} {ls : List (Option AV)} {st : List AV} {σ : Hp} {k : Nat × Nat} : xe_X7_push ct K R (n + 1) 39 ls st σ k = (st = [] ∧ 0 = 0 ∧ R none σ) := exS_step.trans rfl
def M_X7_push : Md := (yX7_push, cX7_push, 2, (none : Option FieldType), 1, 0, 0, 0, false, tb_X7_push, mt_X7_push)
theorem mm_X7_push : MMOK M_X7_push := ⟨by decide +kernel, tk_X7_push, mk_X7_push, rfl, fun h => by cases h⟩
theorem go_X7_push {Q : Option AV → Hp → Prop} {ct : Nat → Bool} {pc : Nat} {ls : List (Option AV)} {st : List AV} {σ : Hp} {k : Nat × Nat} (n : Nat) (h : xe_X7_push ct (Go M_X7_push Q) Q n pc ls st σ k) : Go M_X7_push Q pc ls st σ k := Go.exS mm_X7_push h

set_option maxRecDepth 20000 in
theorem c_X7_push : Ct yX7_push cX7_push 2 ((none : Option FieldType)) 1 0 0 sp_X7_push := by
  refine Ct.go (M := M_X7_push) mm_X7_push fun av σ Q h0 => ?_
  obtain ⟨this, v, rfl, hk, h⟩ := el_X7_push h0
  clear h0
  refine ⟨Nat.le_of_ble_eq_true rfl, ?_⟩
  show Go M_X7_push Q 0 [some (vr this), some (vi v)] [] σ (0, 0)
  obtain ⟨⟨-, ⟨-, -, -, -, h1⟩, -, -, -, -, h2⟩, hl, h⟩ := h
  refine go_X7_push (ct := fun p => p == 99) 40 ?_
  simp only [oI, oL, oR, o1, lI, lL, lR, popN, catS, gv, stL, stL2, swt, cnd, spObj, List.getElem?_cons_zero, List.getElem?_cons_succ, List.getD_cons_zero, List.getD_cons_succ, List.set_cons_zero, List.set_cons_succ, List.nil_append, List.cons_append, Option.toList, Bool.or_false, Bool.false_or, Bool.or_true, Bool.true_or, Nat.reduceBEq, Nat.reduceAdd, Nat.reduceLT, Nat.reduceLeDiff, Int.reduceAdd, Int.reduceToNat, true_and, and_true, Fin.isValue, Fin.val_zero, Fin.val_one, Fin.val_two, Fin.reduceFinMk, eq_self, Int.reduceNeg, imp_self, Nat.reduceMul, Nat.le_refl, not_true_eq_false, not_false_eq_true, List.getElem?_nil, reduceCtorEq, true_or, or_true, Classical.not_not, implies_true, or_self, wI_0, wI_1, wI_m1, b2i_w, b2i_eq0, b2i_eq1, b2i_bool, nor_self, nx_pI, kd_pI, ln_pI, fI_pI, fL_pI, fR_pI, aI_pI, aL_pI, aR_pI, nx_pL, kd_pL, ln_pL, fI_pL, fL_pL, fR_pL, aI_pL, aL_pL, aR_pL, nx_pR, kd_pR, ln_pR, fI_pR, fL_pR, fR_pR, aI_pR, aL_pR, aR_pR, nx_qI, kd_qI, ln_qI, fI_qI, fL_qI, fR_qI, aI_qI, aL_qI, aR_qI, nx_qL, kd_qL, ln_qL, fI_qL, fL_qL, fR_qL, aI_qL, aL_qL, aR_qL, nx_qR, kd_qR, ln_qR, fI_qR, fL_qR, fR_qR, aI_qR, aL_qR, aR_qR, nx_mk, kd_mk, ln_mk, fI_mk, fL_mk, fR_mk, aI_mk, aL_mk, aR_mk, false_and, and_false, if_false, if_true, and_self, Int.reduceEq, Nat.reduceEqDiff, ite_self, MLay_pI, MLay_pL, MLay_qI, MLay_qL, ev_X7_push_0, ev_X7_push_1, ev_X7_push_4, ev_X7_push_7, ev_X7_push_8, ev_X7_push_11, ev_X7_push_12, ev_X7_push_15, ev_X7_push_16, ev_X7_push_19, ev_X7_push_20, ev_X7_push_23, ev_X7_push_24, ev_X7_push_27, ev_X7_push_28, ev_X7_push_29, ev_X7_push_30, ev_X7_push_31, ev_X7_push_34, ev_X7_push_35, ev_X7_push_36, ev_X7_push_39, xt_X7_push, xf_X7_push, hk, h1, h2]
  try simp (disch := omega) only [wI_id, dv_nn, rm_nn]
  repeat' (first | intro z | apply And.intro)
  all_goals try omega
  all_goals try contradiction
  all_goals exact h

def sp_X7_pop : Sp := fun av σ Q => oR av fun this av => av = [] ∧ kd σ this = 8 ∧ (DkO σ this ∧ (1 ≤ fI σ 806 this ∧ fI σ 806 this ≤ 40) ∧ Q (some (vi (aI σ (this + 5) (fI σ 806 this - 1)))) (pI σ 806 this (fI σ 806 this - 1)))
theorem us_X7_pop (this : Int) (σ : Hp) (Q : Option AV → Hp → Prop) : sp_X7_pop [vr this] σ Q = (kd σ this = 8 ∧ (DkO σ this ∧ (1 ≤ fI σ 806 this ∧ fI σ 806 this ≤ 40) ∧ Q (some (vi (aI σ (this + 5) (fI σ 806 this - 1)))) (pI σ 806 this (fI σ 806 this - 1)))) := propext ⟨fun h => h.2, fun h => ⟨rfl, h⟩⟩
theorem el_X7_pop {av : List AV} {σ : Hp} {Q : Option AV → Hp → Prop} (h : sp_X7_pop av σ Q) : ∃ (this : Int), av = [vr this] ∧ (kd σ this = 8 ∧ (DkO σ this ∧ (1 ≤ fI σ 806 this ∧ fI σ 806 this ≤ 40) ∧ Q (some (vi (aI σ (this + 5) (fI σ 806 this - 1)))) (pI σ 806 this (fI σ 806 this - 1)))) := by
  obtain ⟨this, a0, rfl, h0⟩ := oR_s h
  obtain ⟨rfl, hz⟩ := h0
  exact ⟨this, rfl, hz⟩
theorem rc_X7_pop : ∀ (av : List AV) (σ : Hp) (Q : Option AV → Hp → Prop), sp_X7_pop av σ Q → ∃ r tl, av = vr r :: tl ∧ kd σ r = 7 + 1 := fun av σ Q h => by
  obtain ⟨this, rfl, hz, -⟩ := el_X7_pop h
  exact ⟨this, _, rfl, hz⟩

def tb_X7_pop : Tab := [(0, .aload_n 0, 1, (0, 0, 0, 0)), (1, .getfield 31, 3, (8, 806, 0, 0)), (4, .iconst 1, 1, (0, 0, 0, 0)), (5, .if_icmp .lt 15, 3, (0, 0, 0, 0)), (8, .aload_n 0, 1, (0, 0, 0, 0)), (9, .getfield 31, 3, (8, 806, 0, 0)), (12, .aload_n 0, 1, (0, 0, 0, 0)), (13, .getfield 24, 3, (8, 804, 2, 0)), (16, .arraylength, 1, (0, 0, 0, 0)), (17, .if_icmp .le 5, 3, (0, 0, 0, 0)), (20, .iconst 0, 1, (0, 0, 0, 0)), (21, .ireturn, 1, (0, 0, 0, 0)), (22, .aload_n 0, 1, (0, 0, 0, 0)), (23, .dup, 1, (0, 0, 0, 0)), (24, .getfield 31, 3, (8, 806, 0, 0)), (27, .iconst 1, 1, (0, 0, 0, 0)), (28, .isub, 1, (0, 0, 0, 0)), (29, .putfield 31, 3, (8, 806, 0, 0)), (32, .aload_n 0, 1, (0, 0, 0, 0)), (33, .getfield 24, 3, (8, 804, 2, 0)), (36, .aload_n 0, 1, (0, 0, 0, 0)), (37, .getfield 31, 3, (8, 806, 0, 0)), (40, .iaload, 1, (0, 0, 0, 0)), (41, .ireturn, 1, (0, 0, 0, 0))]
set_option maxRecDepth 100000 in
theorem tk_X7_pop : TOK RX7 false cX7_pop tb_X7_pop := chkT_ok ft_X7 (by decide +kernel)
def mt_X7_pop : List (Nat × Mt) := []
theorem mk_X7_pop : MOK RX7 mt_X7_pop := fun q hq => by cases hq
noncomputable def xe_X7_pop (ct : Nat → Bool) (K : Kt) (R : Option AV → Hp → Prop) (n : Nat) : Kt := exS 1 1 0 0 1 tb_X7_pop mt_X7_pop ct K R n
noncomputable def xk_X7_pop (ct : Nat → Bool) (K : Kt) (R : Option AV → Hp → Prop) (n : Nat) : Kt := exkS 1 1 0 0 1 tb_X7_pop mt_X7_pop ct K R n
theorem xt_X7_pop {ct : Nat → Bool} {K : Kt} {R : Option AV → Hp → Prop} {n pc : Nat} {ls : List (Option AV)} {st : List AV} {σ : Hp} {k : Nat × Nat} (h : ct pc = true) : xk_X7_pop ct K R n pc ls st σ k = K pc ls st σ k := by unfold xk_X7_pop exkS; rw [h]
theorem xf_X7_pop {ct : Nat → Bool} {K : Kt} {R : Option AV → Hp → Prop} {n pc : Nat} {ls : List (Option AV)} {st : List AV} {σ : Hp} {k : Nat × Nat} (h : ct pc = false) : xk_X7_pop ct K R n pc ls st σ k = xe_X7_pop ct K R n pc ls st σ k := by unfold xk_X7_pop exkS xe_X7_pop; rw [h]
theorem ev_X7_pop_0 {ct : Nat → Bool} {K : Kt} {R : Option AV → Hp → Prop} {n : Nat} {ls : List (Option AV)} {st : List AV} {σ : Hp} {k : Nat × Nat} : xe_X7_pop ct K R (n + 1) 0 ls st σ k = (lR ls 0 fun x => xk_X7_pop ct K R n 1 ls (vr x :: st) σ k) := exS_step.trans rfl
theorem ev_X7_pop_1 {ct : Nat → Bool} {K : Kt} {R : Option AV → Hp → Prop} {n : Nat} {ls : List (Option AV)} {st : List AV} {σ : Hp} {k : Nat × Nat} : xe_X7_pop ct K R (n + 1) 1 ls st σ k = (oR st fun x st => kd σ x = 8 ∧ xk_X7_pop ct K R n 4 ls (vi (fI σ 806 x) :: st) σ k) := exS_step.trans rfl
theorem ev_X7_pop_4 {ct : Nat → Bool} {K : Kt} {R : Option AV → Hp → Prop} {n : Nat} {ls : List (Option AV)} {st : List AV} {σ : Hp} {k : Nat × Nat} : xe_X7_pop ct K R (n + 1) 4 ls st σ k = (xk_X7_pop ct K R n 5 ls (vi (1) :: st) σ k) := exS_step.trans rfl
theorem ev_X7_pop_5 {ct : Nat → Bool} {K : Kt} {R : Option AV → Hp → Prop} {n : Nat} {ls : List (Option AV)} {st : List AV} {σ : Hp} {k : Nat × Nat} : xe_X7_pop ct K R (n + 1) 5 ls st σ k = (oI st fun y st => oI st fun x st => (wI x < wI y → xk_X7_pop ct K R n 20 ls st σ k) ∧ (¬ (wI x < wI y) → xk_X7_pop ct K R n 8 ls st σ k)) := exS_step.trans rfl
theorem ev_X7_pop_8 {ct : Nat → Bool} {K : Kt} {R : Option AV → Hp → Prop} {n : Nat} {ls : List (Option AV)} {st : List AV} {σ : Hp} {k : Nat × Nat} : xe_X7_pop ct K R (n + 1) 8 ls st σ k = (lR ls 0 fun x => xk_X7_pop ct K R n 9 ls (vr x :: st) σ k) := exS_step.trans rfl
theorem ev_X7_pop_9 {ct : Nat → Bool} {K : Kt} {R : Option AV → Hp → Prop} {n : Nat} {ls : List (Option AV)} {st : List AV} {σ : Hp} {k : Nat × Nat} : xe_X7_pop ct K R (n + 1) 9 ls st σ k = (oR st fun x st => kd σ x = 8 ∧ xk_X7_pop ct K R n 12 ls (vi (fI σ 806 x) :: st) σ k) := exS_step.trans rfl
theorem ev_X7_pop_12 {ct : Nat → Bool} {K : Kt} {R : Option AV → Hp → Prop} {n : Nat} {ls : List (Option AV)} {st : List AV} {σ : Hp} {k : Nat × Nat} : xe_X7_pop ct K R (n + 1) 12 ls st σ k = (lR ls 0 fun x => xk_X7_pop ct K R n 13 ls (vr x :: st) σ k) := exS_step.trans rfl
theorem ev_X7_pop_13 {ct : Nat → Bool} {K : Kt} {R : Option AV → Hp → Prop} {n : Nat} {ls : List (Option AV)} {st : List AV} {σ : Hp} {k : Nat × Nat} : xe_X7_pop ct K R (n + 1) 13 ls st σ k = (oR st fun x st => kd σ x = 8 ∧ xk_X7_pop ct K R n 16 ls (vr (fR σ 804 x) :: st) σ k) := exS_step.trans rfl
theorem ev_X7_pop_16 {ct : Nat → Bool} {K : Kt} {R : Option AV → Hp → Prop} {n : Nat} {ls : List (Option AV)} {st : List AV} {σ : Hp} {k : Nat × Nat} : xe_X7_pop ct K R (n + 1) 16 ls st σ k = (oR st fun x st => (101 ≤ kd σ x ∨ kd σ x = 21) ∧ xk_X7_pop ct K R n 17 ls (vi (ln σ x) :: st) σ k) := exS_step.trans rfl
theorem ev_X7_pop_17 {ct : Nat → Bool} {K : Kt} {R : Option AV → Hp → Prop} {n : Nat} {ls : List (Option AV)} {st : List AV} {σ : Hp} {k : Nat × Nat} : xe_X7_pop ct K R (n + 1) 17 ls st σ k = (oI st fun y st => oI st fun x st => (wI x ≤ wI y → xk_X7_pop ct K R n 22 ls st σ k) ∧ (¬ (wI x ≤ wI y) → xk_X7_pop ct K R n 20 ls st σ k)) := exS_step.trans rfl
theorem ev_X7_pop_20 {ct : Nat → Bool} {K : Kt} {R : Option AV → Hp → Prop} {n : Nat} {ls : List (Option AV)} {st : List AV} {σ : Hp} {k : Nat × Nat} : xe_X7_pop ct K R (n + 1) 20 ls st σ k = (xk_X7_pop ct K R n 21 ls (vi (0) :: st) σ k) := exS_step.trans rfl
theorem ev_X7_pop_21 {ct : Nat → Bool} {K : Kt} {R : Option AV → Hp → Prop} {n : Nat} {ls : List (Option AV)} {st : List AV} {σ : Hp} {k : Nat × Nat} : xe_X7_pop ct K R (n + 1) 21 ls st σ k = (oI st fun x st => st = [] ∧ True ∧ R (some (vi x)) σ) := exS_step.trans rfl
theorem ev_X7_pop_22 {ct : Nat → Bool} {K : Kt} {R : Option AV → Hp → Prop} {n : Nat} {ls : List (Option AV)} {st : List AV} {σ : Hp} {k : Nat × Nat} : xe_X7_pop ct K R (n + 1) 22 ls st σ k = (lR ls 0 fun x => xk_X7_pop ct K R n 23 ls (vr x :: st) σ k) := exS_step.trans rfl
theorem ev_X7_pop_23 {ct : Nat → Bool} {K : Kt} {R : Option AV → Hp → Prop} {n : Nat} {ls : List (Option AV)} {st : List AV} {σ : Hp} {k : Nat × Nat} : xe_X7_pop ct K R (n + 1) 23 ls st σ k = (o1 st fun v st => xk_X7_pop ct K R n 24 ls (v :: v :: st) σ k) := exS_step.trans rfl
theorem ev_X7_pop_24 {ct : Nat → Bool} {K : Kt} {R : Option AV → Hp → Prop} {n : Nat} {ls : List (Option AV)} {st : List AV} {σ : Hp} {k : Nat × Nat} : xe_X7_pop ct K R (n + 1) 24 ls st σ k = (oR st fun x st => kd σ x = 8 ∧ xk_X7_pop ct K R n 27 ls (vi (fI σ 806 x) :: st) σ k) := exS_step.trans rfl
theorem ev_X7_pop_27 {ct : Nat → Bool} {K : Kt} {R : Option AV → Hp → Prop} {n : Nat} {ls : List (Option AV)} {st : List AV} {σ : Hp} {k : Nat × Nat} : xe_X7_pop ct K R (n + 1) 27 ls st σ k = (xk_X7_pop ct K R n 28 ls (vi (1) :: st) σ k) := exS_step.trans rfl
theorem ev_X7_pop_28 {ct : Nat → Bool} {K : Kt} {R : Option AV → Hp → Prop} {n : Nat} {ls : List (Option AV)} {st : List AV} {σ : Hp} {k : Nat × Nat} : xe_X7_pop ct K R (n + 1) 28 ls st σ k = (oI st fun y st => oI st fun x st => xk_X7_pop ct K R n 29 ls (vi (x - y) :: st) σ k) := exS_step.trans rfl
theorem ev_X7_pop_29 {ct : Nat → Bool} {K : Kt} {R : Option AV → Hp → Prop} {n : Nat} {ls : List (Option AV)} {st : List AV} {σ : Hp} {k : Nat × Nat} : xe_X7_pop ct K R (n + 1) 29 ls st σ k = (oI st fun v st => oR st fun x st => kd σ x = 8 ∧ xk_X7_pop ct K R n 32 ls st (pI σ 806 x v) k) := exS_step.trans rfl
theorem ev_X7_pop_32 {ct : Nat → Bool} {K : Kt} {R : Option AV → Hp → Prop} {n : Nat} {ls : List (Option AV)} {st : List AV} {σ : Hp} {k : Nat × Nat} : xe_X7_pop ct K R (n + 1) 32 ls st σ k = (lR ls 0 fun x => xk_X7_pop ct K R n 33 ls (vr x :: st) σ k) := exS_step.trans rfl
theorem ev_X7_pop_33 {ct : Nat → Bool} {K : Kt} {R : Option AV → Hp → Prop} {n : Nat} {ls : List (Option AV)} {st : List AV} {σ : Hp} {k : Nat × Nat} : xe_X7_pop ct K R (n + 1) 33 ls st σ k = (oR st fun x st => kd σ x = 8 ∧ xk_X7_pop ct K R n 36 ls (vr (fR σ 804 x) :: st) σ k) := exS_step.trans rfl
theorem ev_X7_pop_36 {ct : Nat → Bool} {K : Kt} {R : Option AV → Hp → Prop} {n : Nat} {ls : List (Option AV)} {st : List AV} {σ : Hp} {k : Nat × Nat} : xe_X7_pop ct K R (n + 1) 36 ls st σ k = (lR ls 0 fun x => xk_X7_pop ct K R n 37 ls (vr x :: st) σ k) := exS_step.trans rfl
theorem ev_X7_pop_37 {ct : Nat → Bool} {K : Kt} {R : Option AV → Hp → Prop} {n : Nat} {ls : List (Option AV)} {st : List AV} {σ : Hp} {k : Nat × Nat} : xe_X7_pop ct K R (n + 1) 37 ls st σ k = (oR st fun x st => kd σ x = 8 ∧ xk_X7_pop ct K R n 40 ls (vi (fI σ 806 x) :: st) σ k) := exS_step.trans rfl
theorem ev_X7_pop_40 {ct : Nat → Bool} {K : Kt} {R : Option AV → Hp → Prop} {n : Nat} {ls : List (Option AV)} {st : List AV} {σ : Hp} {k : Nat × Nat} : xe_X7_pop ct K R (n + 1) 40 ls st σ k = (oI st fun j st => oR st fun x st => (kd σ x = 101 ∨ kd σ x = 108) ∧ (0 ≤ j ∧ j < ln σ x) ∧ xk_X7_pop ct K R n 41 ls (vi (aI σ x j) :: st) σ k) := exS_step.trans rfl
theorem ev_X7_pop_41 {ct : Nat → Bool} {K : Kt} {R : Option AV → Hp → Prop} {n : Nat} {ls : List (Option AV)} {st : List AV} {σ : Hp} {k : Nat × Nat} : xe_X7_pop ct K R (n + 1) 41 ls st σ k = (oI st fun x st => st = [] ∧ True ∧ R (some (vi x)) σ) := exS_step.trans rfl
def M_X7_pop : Md := (yX7_pop, cX7_pop, 1, (some FieldType.int), 1, 0, 0, 1, false, tb_X7_pop, mt_X7_pop)
theorem mm_X7_pop : MMOK M_X7_pop := ⟨by decide +kernel, tk_X7_pop, mk_X7_pop, rfl, fun h => by cases h⟩
theorem go_X7_pop {Q : Option AV → Hp → Prop} {ct : Nat → Bool} {pc : Nat} {ls : List (Option AV)} {st : List AV} {σ : Hp} {k : Nat × Nat} (n : Nat) (h : xe_X7_pop ct (Go M_X7_pop Q) Q n pc ls st σ k) : Go M_X7_pop Q pc ls st σ k := Go.exS mm_X7_pop h

set_option maxRecDepth 20000 in
theorem c_X7_pop : Ct yX7_pop cX7_pop 1 ((some FieldType.int)) 1 0 0 sp_X7_pop := by
  refine Ct.go (M := M_X7_pop) mm_X7_pop fun av σ Q h0 => ?_
  obtain ⟨this, rfl, hk, h⟩ := el_X7_pop h0
  clear h0
  refine ⟨Nat.le_of_ble_eq_true rfl, ?_⟩
  show Go M_X7_pop Q 0 [some (vr this)] [] σ (0, 0)
  obtain ⟨⟨-, ⟨-, -, -, -, h1⟩, -, -, -, -, h2⟩, hl, h⟩ := h
  refine go_X7_pop (ct := fun p => p == 20) 40 ?_
  simp only [oI, oL, oR, o1, lI, lL, lR, popN, catS, gv, stL, stL2, swt, cnd, spObj, List.getElem?_cons_zero, List.getElem?_cons_succ, List.getD_cons_zero, List.getD_cons_succ, List.set_cons_zero, List.set_cons_succ, List.nil_append, List.cons_append, Option.toList, Bool.or_false, Bool.false_or, Bool.or_true, Bool.true_or, Nat.reduceBEq, Nat.reduceAdd, Nat.reduceLT, Nat.reduceLeDiff, Int.reduceAdd, Int.reduceToNat, true_and, and_true, Fin.isValue, Fin.val_zero, Fin.val_one, Fin.val_two, Fin.reduceFinMk, eq_self, Int.reduceNeg, imp_self, Nat.reduceMul, Nat.le_refl, not_true_eq_false, not_false_eq_true, List.getElem?_nil, reduceCtorEq, true_or, or_true, Classical.not_not, implies_true, or_self, wI_0, wI_1, wI_m1, b2i_w, b2i_eq0, b2i_eq1, b2i_bool, nor_self, nx_pI, kd_pI, ln_pI, fI_pI, fL_pI, fR_pI, aI_pI, aL_pI, aR_pI, nx_pL, kd_pL, ln_pL, fI_pL, fL_pL, fR_pL, aI_pL, aL_pL, aR_pL, nx_pR, kd_pR, ln_pR, fI_pR, fL_pR, fR_pR, aI_pR, aL_pR, aR_pR, nx_qI, kd_qI, ln_qI, fI_qI, fL_qI, fR_qI, aI_qI, aL_qI, aR_qI, nx_qL, kd_qL, ln_qL, fI_qL, fL_qL, fR_qL, aI_qL, aL_qL, aR_qL, nx_qR, kd_qR, ln_qR, fI_qR, fL_qR, fR_qR, aI_qR, aL_qR, aR_qR, nx_mk, kd_mk, ln_mk, fI_mk, fL_mk, fR_mk, aI_mk, aL_mk, aR_mk, false_and, and_false, if_false, if_true, and_self, Int.reduceEq, Nat.reduceEqDiff, ite_self, MLay_pI, MLay_pL, MLay_qI, MLay_qL, ev_X7_pop_0, ev_X7_pop_1, ev_X7_pop_4, ev_X7_pop_5, ev_X7_pop_8, ev_X7_pop_9, ev_X7_pop_12, ev_X7_pop_13, ev_X7_pop_16, ev_X7_pop_17, ev_X7_pop_20, ev_X7_pop_21, ev_X7_pop_22, ev_X7_pop_23, ev_X7_pop_24, ev_X7_pop_27, ev_X7_pop_28, ev_X7_pop_29, ev_X7_pop_32, ev_X7_pop_33, ev_X7_pop_36, ev_X7_pop_37, ev_X7_pop_40, ev_X7_pop_41, xt_X7_pop, xf_X7_pop, hk, h1, h2]
  try simp (disch := omega) only [wI_id, dv_nn, rm_nn]
  repeat' (first | intro z | apply And.intro)
  all_goals try omega
  all_goals try contradiction
  all_goals exact h

def sp_X7_joined : Sp := fun av σ Q => oI av fun c av => oI av fun x av => oI av fun y av => av = [] ∧ ((-7 ≤ c ∧ c ≤ -2) ∧ Q (some (vi (jn c x y))) σ)
theorem us_X7_joined (c : Int) (x : Int) (y : Int) (σ : Hp) (Q : Option AV → Hp → Prop) : sp_X7_joined [vi c, vi x, vi y] σ Q = (((-7 ≤ c ∧ c ≤ -2) ∧ Q (some (vi (jn c x y))) σ)) := propext ⟨fun h => h.2, fun h => ⟨rfl, h⟩⟩
theorem el_X7_joined {av : List AV} {σ : Hp} {Q : Option AV → Hp → Prop} (h : sp_X7_joined av σ Q) : ∃ (c : Int) (x : Int) (y : Int), av = [vi c, vi x, vi y] ∧ (((-7 ≤ c ∧ c ≤ -2) ∧ Q (some (vi (jn c x y))) σ)) := by
  obtain ⟨c, a0, rfl, h0⟩ := oI_s h
  obtain ⟨x, a1, rfl, h1⟩ := oI_s h0
  obtain ⟨y, a2, rfl, h2⟩ := oI_s h1
  obtain ⟨rfl, hz⟩ := h2
  exact ⟨c, x, y, rfl, hz⟩

def tb_X7_joined : Tab := [(0, .iload_n 0, 1, (0, 0, 0, 0)), (1, .tableswitch 97 (-7) (-2) #[93, 89, 78, 67, 53, 39], 39, (0, 0, 0, 0)), (40, .iload_n 1, 1, (0, 0, 0, 0)), (41, .ifCond .eq 11, 3, (0, 0, 0, 0)), (44, .iload_n 2, 1, (0, 0, 0, 0)), (45, .ifCond .eq 7, 3, (0, 0, 0, 0)), (48, .iconst 1, 1, (0, 0, 0, 0)), (49, .goto 4, 3, (0, 0, 0, 0)), (52, .iconst 0, 1, (0, 0, 0, 0)), (53, .ireturn, 1, (0, 0, 0, 0)), (54, .iload_n 1, 1, (0, 0, 0, 0)), (55, .ifCond .ne 7, 3, (0, 0, 0, 0)), (58, .iload_n 2, 1, (0, 0, 0, 0)), (59, .ifCond .eq 7, 3, (0, 0, 0, 0)), (62, .iconst 1, 1, (0, 0, 0, 0)), (63, .goto 4, 3, (0, 0, 0, 0)), (66, .iconst 0, 1, (0, 0, 0, 0)), (67, .ireturn, 1, (0, 0, 0, 0)), (68, .iload_n 1, 1, (0, 0, 0, 0)), (69, .iload_n 2, 1, (0, 0, 0, 0)), (70, .if_icmp .ge 7, 3, (0, 0, 0, 0)), (73, .iconst 1, 1, (0, 0, 0, 0)), (74, .goto 4, 3, (0, 0, 0, 0)), (77, .iconst 0, 1, (0, 0, 0, 0)), (78, .ireturn, 1, (0, 0, 0, 0)), (79, .iload_n 1, 1, (0, 0, 0, 0)), (80, .iload_n 2, 1, (0, 0, 0, 0)), (81, .if_icmp .ne 7, 3, (0, 0, 0, 0)), (84, .iconst 1, 1, (0, 0, 0, 0)), (85, .goto 4, 3, (0, 0, 0, 0)), (88, .iconst 0, 1, (0, 0, 0, 0)), (89, .ireturn, 1, (0, 0, 0, 0)), (90, .iload_n 1, 1, (0, 0, 0, 0)), (91, .iload_n 2, 1, (0, 0, 0, 0)), (92, .iadd, 1, (0, 0, 0, 0)), (93, .ireturn, 1, (0, 0, 0, 0)), (94, .iload_n 1, 1, (0, 0, 0, 0)), (95, .iload_n 2, 1, (0, 0, 0, 0)), (96, .isub, 1, (0, 0, 0, 0)), (97, .ireturn, 1, (0, 0, 0, 0)), (98, .iconst 0, 1, (0, 0, 0, 0)), (99, .ireturn, 1, (0, 0, 0, 0))]
set_option maxRecDepth 100000 in
theorem tk_X7_joined : TOK RX7 false cX7_joined tb_X7_joined := chkT_ok ft_X7 (by decide +kernel)
def mt_X7_joined : List (Nat × Mt) := []
theorem mk_X7_joined : MOK RX7 mt_X7_joined := fun q hq => by cases hq
noncomputable def xe_X7_joined (ct : Nat → Bool) (K : Kt) (R : Option AV → Hp → Prop) (n : Nat) : Kt := exS 3 1 0 0 1 tb_X7_joined mt_X7_joined ct K R n
noncomputable def xk_X7_joined (ct : Nat → Bool) (K : Kt) (R : Option AV → Hp → Prop) (n : Nat) : Kt := exkS 3 1 0 0 1 tb_X7_joined mt_X7_joined ct K R n
theorem xt_X7_joined {ct : Nat → Bool} {K : Kt} {R : Option AV → Hp → Prop} {n pc : Nat} {ls : List (Option AV)} {st : List AV} {σ : Hp} {k : Nat × Nat} (h : ct pc = true) : xk_X7_joined ct K R n pc ls st σ k = K pc ls st σ k := by unfold xk_X7_joined exkS; rw [h]
theorem xf_X7_joined {ct : Nat → Bool} {K : Kt} {R : Option AV → Hp → Prop} {n pc : Nat} {ls : List (Option AV)} {st : List AV} {σ : Hp} {k : Nat × Nat} (h : ct pc = false) : xk_X7_joined ct K R n pc ls st σ k = xe_X7_joined ct K R n pc ls st σ k := by unfold xk_X7_joined exkS xe_X7_joined; rw [h]
theorem ev_X7_joined_0 {ct : Nat → Bool} {K : Kt} {R : Option AV → Hp → Prop} {n : Nat} {ls : List (Option AV)} {st : List AV} {σ : Hp} {k : Nat × Nat} : xe_X7_joined ct K R (n + 1) 0 ls st σ k = (lI ls 0 fun x => xk_X7_joined ct K R n 1 ls (vi x :: st) σ k) := exS_step.trans rfl
theorem ev_X7_joined_1 {ct : Nat → Bool} {K : Kt} {R : Option AV → Hp → Prop} {n : Nat} {ls : List (Option AV)} {st : List AV} {σ : Hp} {k : Nat × Nat} : xe_X7_joined ct K R (n + 1) 1 ls st σ k = (oI st fun x st => (wI x < -7 ∨ -2 < wI x → xk_X7_joined ct K R n 98 ls st σ k) ∧ (wI x = -7 → xk_X7_joined ct K R n 94 ls st σ k) ∧ (wI x = -6 → xk_X7_joined ct K R n 90 ls st σ k) ∧ (wI x = -5 → xk_X7_joined ct K R n 79 ls st σ k) ∧ (wI x = -4 → xk_X7_joined ct K R n 68 ls st σ k) ∧ (wI x = -3 → xk_X7_joined ct K R n 54 ls st σ k) ∧ (wI x = -2 → xk_X7_joined ct K R n 40 ls st σ k) ∧ True) := exS_step.trans rfl
theorem ev_X7_joined_40 {ct : Nat → Bool} {K : Kt} {R : Option AV → Hp → Prop} {n : Nat} {ls : List (Option AV)} {st : List AV} {σ : Hp} {k : Nat × Nat} : xe_X7_joined ct K R (n + 1) 40 ls st σ k = (lI ls 1 fun x => xk_X7_joined ct K R n 41 ls (vi x :: st) σ k) := exS_step.trans rfl
theorem ev_X7_joined_41 {ct : Nat → Bool} {K : Kt} {R : Option AV → Hp → Prop} {n : Nat} {ls : List (Option AV)} {st : List AV} {σ : Hp} {k : Nat × Nat} : xe_X7_joined ct K R (n + 1) 41 ls st σ k = (oI st fun x st => (wI x = wI 0 → xk_X7_joined ct K R n 52 ls st σ k) ∧ (¬ (wI x = wI 0) → xk_X7_joined ct K R n 44 ls st σ k)) := exS_step.trans rfl
theorem ev_X7_joined_44 {ct : Nat → Bool} {K : Kt} {R : Option AV → Hp → Prop} {n : Nat} {ls : List (Option AV)} {st : List AV} {σ : Hp} {k : Nat × Nat} : xe_X7_joined ct K R (n + 1) 44 ls st σ k = (lI ls 2 fun x => xk_X7_joined ct K R n 45 ls (vi x :: st) σ k) := exS_step.trans rfl
theorem ev_X7_joined_45 {ct : Nat → Bool} {K : Kt} {R : Option AV → Hp → Prop} {n : Nat} {ls : List (Option AV)} {st : List AV} {σ : Hp} {k : Nat × Nat} : xe_X7_joined ct K R (n + 1) 45 ls st σ k = (oI st fun x st => (wI x = wI 0 → xk_X7_joined ct K R n 52 ls st σ k) ∧ (¬ (wI x = wI 0) → xk_X7_joined ct K R n 48 ls st σ k)) := exS_step.trans rfl
theorem ev_X7_joined_48 {ct : Nat → Bool} {K : Kt} {R : Option AV → Hp → Prop} {n : Nat} {ls : List (Option AV)} {st : List AV} {σ : Hp} {k : Nat × Nat} : xe_X7_joined ct K R (n + 1) 48 ls st σ k = (xk_X7_joined ct K R n 49 ls (vi (1) :: st) σ k) := exS_step.trans rfl
theorem ev_X7_joined_49 {ct : Nat → Bool} {K : Kt} {R : Option AV → Hp → Prop} {n : Nat} {ls : List (Option AV)} {st : List AV} {σ : Hp} {k : Nat × Nat} : xe_X7_joined ct K R (n + 1) 49 ls st σ k = (xk_X7_joined ct K R n 53 ls st σ k) := exS_step.trans rfl
theorem ev_X7_joined_52 {ct : Nat → Bool} {K : Kt} {R : Option AV → Hp → Prop} {n : Nat} {ls : List (Option AV)} {st : List AV} {σ : Hp} {k : Nat × Nat} : xe_X7_joined ct K R (n + 1) 52 ls st σ k = (xk_X7_joined ct K R n 53 ls (vi (0) :: st) σ k) := exS_step.trans rfl
theorem ev_X7_joined_53 {ct : Nat → Bool} {K : Kt} {R : Option AV → Hp → Prop} {n : Nat} {ls : List (Option AV)} {st : List AV} {σ : Hp} {k : Nat × Nat} : xe_X7_joined ct K R (n + 1) 53 ls st σ k = (oI st fun x st => st = [] ∧ True ∧ R (some (vi x)) σ) := exS_step.trans rfl
theorem ev_X7_joined_54 {ct : Nat → Bool} {K : Kt} {R : Option AV → Hp → Prop} {n : Nat} {ls : List (Option AV)} {st : List AV} {σ : Hp} {k : Nat × Nat} : xe_X7_joined ct K R (n + 1) 54 ls st σ k = (lI ls 1 fun x => xk_X7_joined ct K R n 55 ls (vi x :: st) σ k) := exS_step.trans rfl
theorem ev_X7_joined_55 {ct : Nat → Bool} {K : Kt} {R : Option AV → Hp → Prop} {n : Nat} {ls : List (Option AV)} {st : List AV} {σ : Hp} {k : Nat × Nat} : xe_X7_joined ct K R (n + 1) 55 ls st σ k = (oI st fun x st => (¬ wI x = wI 0 → xk_X7_joined ct K R n 62 ls st σ k) ∧ (¬ (¬ wI x = wI 0) → xk_X7_joined ct K R n 58 ls st σ k)) := exS_step.trans rfl
theorem ev_X7_joined_58 {ct : Nat → Bool} {K : Kt} {R : Option AV → Hp → Prop} {n : Nat} {ls : List (Option AV)} {st : List AV} {σ : Hp} {k : Nat × Nat} : xe_X7_joined ct K R (n + 1) 58 ls st σ k = (lI ls 2 fun x => xk_X7_joined ct K R n 59 ls (vi x :: st) σ k) := exS_step.trans rfl
theorem ev_X7_joined_59 {ct : Nat → Bool} {K : Kt} {R : Option AV → Hp → Prop} {n : Nat} {ls : List (Option AV)} {st : List AV} {σ : Hp} {k : Nat × Nat} : xe_X7_joined ct K R (n + 1) 59 ls st σ k = (oI st fun x st => (wI x = wI 0 → xk_X7_joined ct K R n 66 ls st σ k) ∧ (¬ (wI x = wI 0) → xk_X7_joined ct K R n 62 ls st σ k)) := exS_step.trans rfl
theorem ev_X7_joined_62 {ct : Nat → Bool} {K : Kt} {R : Option AV → Hp → Prop} {n : Nat} {ls : List (Option AV)} {st : List AV} {σ : Hp} {k : Nat × Nat} : xe_X7_joined ct K R (n + 1) 62 ls st σ k = (xk_X7_joined ct K R n 63 ls (vi (1) :: st) σ k) := exS_step.trans rfl
theorem ev_X7_joined_63 {ct : Nat → Bool} {K : Kt} {R : Option AV → Hp → Prop} {n : Nat} {ls : List (Option AV)} {st : List AV} {σ : Hp} {k : Nat × Nat} : xe_X7_joined ct K R (n + 1) 63 ls st σ k = (xk_X7_joined ct K R n 67 ls st σ k) := exS_step.trans rfl
theorem ev_X7_joined_66 {ct : Nat → Bool} {K : Kt} {R : Option AV → Hp → Prop} {n : Nat} {ls : List (Option AV)} {st : List AV} {σ : Hp} {k : Nat × Nat} : xe_X7_joined ct K R (n + 1) 66 ls st σ k = (xk_X7_joined ct K R n 67 ls (vi (0) :: st) σ k) := exS_step.trans rfl
theorem ev_X7_joined_67 {ct : Nat → Bool} {K : Kt} {R : Option AV → Hp → Prop} {n : Nat} {ls : List (Option AV)} {st : List AV} {σ : Hp} {k : Nat × Nat} : xe_X7_joined ct K R (n + 1) 67 ls st σ k = (oI st fun x st => st = [] ∧ True ∧ R (some (vi x)) σ) := exS_step.trans rfl
theorem ev_X7_joined_68 {ct : Nat → Bool} {K : Kt} {R : Option AV → Hp → Prop} {n : Nat} {ls : List (Option AV)} {st : List AV} {σ : Hp} {k : Nat × Nat} : xe_X7_joined ct K R (n + 1) 68 ls st σ k = (lI ls 1 fun x => xk_X7_joined ct K R n 69 ls (vi x :: st) σ k) := exS_step.trans rfl
theorem ev_X7_joined_69 {ct : Nat → Bool} {K : Kt} {R : Option AV → Hp → Prop} {n : Nat} {ls : List (Option AV)} {st : List AV} {σ : Hp} {k : Nat × Nat} : xe_X7_joined ct K R (n + 1) 69 ls st σ k = (lI ls 2 fun x => xk_X7_joined ct K R n 70 ls (vi x :: st) σ k) := exS_step.trans rfl
theorem ev_X7_joined_70 {ct : Nat → Bool} {K : Kt} {R : Option AV → Hp → Prop} {n : Nat} {ls : List (Option AV)} {st : List AV} {σ : Hp} {k : Nat × Nat} : xe_X7_joined ct K R (n + 1) 70 ls st σ k = (oI st fun y st => oI st fun x st => (wI y ≤ wI x → xk_X7_joined ct K R n 77 ls st σ k) ∧ (¬ (wI y ≤ wI x) → xk_X7_joined ct K R n 73 ls st σ k)) := exS_step.trans rfl
theorem ev_X7_joined_73 {ct : Nat → Bool} {K : Kt} {R : Option AV → Hp → Prop} {n : Nat} {ls : List (Option AV)} {st : List AV} {σ : Hp} {k : Nat × Nat} : xe_X7_joined ct K R (n + 1) 73 ls st σ k = (xk_X7_joined ct K R n 74 ls (vi (1) :: st) σ k) := exS_step.trans rfl
theorem ev_X7_joined_74 {ct : Nat → Bool} {K : Kt} {R : Option AV → Hp → Prop} {n : Nat} {ls : List (Option AV)} {st : List AV} {σ : Hp} {k : Nat × Nat} : xe_X7_joined ct K R (n + 1) 74 ls st σ k = (xk_X7_joined ct K R n 78 ls st σ k) := exS_step.trans rfl
theorem ev_X7_joined_77 {ct : Nat → Bool} {K : Kt} {R : Option AV → Hp → Prop} {n : Nat} {ls : List (Option AV)} {st : List AV} {σ : Hp} {k : Nat × Nat} : xe_X7_joined ct K R (n + 1) 77 ls st σ k = (xk_X7_joined ct K R n 78 ls (vi (0) :: st) σ k) := exS_step.trans rfl
theorem ev_X7_joined_78 {ct : Nat → Bool} {K : Kt} {R : Option AV → Hp → Prop} {n : Nat} {ls : List (Option AV)} {st : List AV} {σ : Hp} {k : Nat × Nat} : xe_X7_joined ct K R (n + 1) 78 ls st σ k = (oI st fun x st => st = [] ∧ True ∧ R (some (vi x)) σ) := exS_step.trans rfl
theorem ev_X7_joined_79 {ct : Nat → Bool} {K : Kt} {R : Option AV → Hp → Prop} {n : Nat} {ls : List (Option AV)} {st : List AV} {σ : Hp} {k : Nat × Nat} : xe_X7_joined ct K R (n + 1) 79 ls st σ k = (lI ls 1 fun x => xk_X7_joined ct K R n 80 ls (vi x :: st) σ k) := exS_step.trans rfl
theorem ev_X7_joined_80 {ct : Nat → Bool} {K : Kt} {R : Option AV → Hp → Prop} {n : Nat} {ls : List (Option AV)} {st : List AV} {σ : Hp} {k : Nat × Nat} : xe_X7_joined ct K R (n + 1) 80 ls st σ k = (lI ls 2 fun x => xk_X7_joined ct K R n 81 ls (vi x :: st) σ k) := exS_step.trans rfl
theorem ev_X7_joined_81 {ct : Nat → Bool} {K : Kt} {R : Option AV → Hp → Prop} {n : Nat} {ls : List (Option AV)} {st : List AV} {σ : Hp} {k : Nat × Nat} : xe_X7_joined ct K R (n + 1) 81 ls st σ k = (oI st fun y st => oI st fun x st => (¬ wI x = wI y → xk_X7_joined ct K R n 88 ls st σ k) ∧ (¬ (¬ wI x = wI y) → xk_X7_joined ct K R n 84 ls st σ k)) := exS_step.trans rfl
theorem ev_X7_joined_84 {ct : Nat → Bool} {K : Kt} {R : Option AV → Hp → Prop} {n : Nat} {ls : List (Option AV)} {st : List AV} {σ : Hp} {k : Nat × Nat} : xe_X7_joined ct K R (n + 1) 84 ls st σ k = (xk_X7_joined ct K R n 85 ls (vi (1) :: st) σ k) := exS_step.trans rfl
theorem ev_X7_joined_85 {ct : Nat → Bool} {K : Kt} {R : Option AV → Hp → Prop} {n : Nat} {ls : List (Option AV)} {st : List AV} {σ : Hp} {k : Nat × Nat} : xe_X7_joined ct K R (n + 1) 85 ls st σ k = (xk_X7_joined ct K R n 89 ls st σ k) := exS_step.trans rfl
theorem ev_X7_joined_88 {ct : Nat → Bool} {K : Kt} {R : Option AV → Hp → Prop} {n : Nat} {ls : List (Option AV)} {st : List AV} {σ : Hp} {k : Nat × Nat} : xe_X7_joined ct K R (n + 1) 88 ls st σ k = (xk_X7_joined ct K R n 89 ls (vi (0) :: st) σ k) := exS_step.trans rfl
theorem ev_X7_joined_89 {ct : Nat → Bool} {K : Kt} {R : Option AV → Hp → Prop} {n : Nat} {ls : List (Option AV)} {st : List AV} {σ : Hp} {k : Nat × Nat} : xe_X7_joined ct K R (n + 1) 89 ls st σ k = (oI st fun x st => st = [] ∧ True ∧ R (some (vi x)) σ) := exS_step.trans rfl
theorem ev_X7_joined_90 {ct : Nat → Bool} {K : Kt} {R : Option AV → Hp → Prop} {n : Nat} {ls : List (Option AV)} {st : List AV} {σ : Hp} {k : Nat × Nat} : xe_X7_joined ct K R (n + 1) 90 ls st σ k = (lI ls 1 fun x => xk_X7_joined ct K R n 91 ls (vi x :: st) σ k) := exS_step.trans rfl
theorem ev_X7_joined_91 {ct : Nat → Bool} {K : Kt} {R : Option AV → Hp → Prop} {n : Nat} {ls : List (Option AV)} {st : List AV} {σ : Hp} {k : Nat × Nat} : xe_X7_joined ct K R (n + 1) 91 ls st σ k = (lI ls 2 fun x => xk_X7_joined ct K R n 92 ls (vi x :: st) σ k) := exS_step.trans rfl
theorem ev_X7_joined_92 {ct : Nat → Bool} {K : Kt} {R : Option AV → Hp → Prop} {n : Nat} {ls : List (Option AV)} {st : List AV} {σ : Hp} {k : Nat × Nat} : xe_X7_joined ct K R (n + 1) 92 ls st σ k = (oI st fun y st => oI st fun x st => xk_X7_joined ct K R n 93 ls (vi (x + y) :: st) σ k) := exS_step.trans rfl
theorem ev_X7_joined_93 {ct : Nat → Bool} {K : Kt} {R : Option AV → Hp → Prop} {n : Nat} {ls : List (Option AV)} {st : List AV} {σ : Hp} {k : Nat × Nat} : xe_X7_joined ct K R (n + 1) 93 ls st σ k = (oI st fun x st => st = [] ∧ True ∧ R (some (vi x)) σ) := exS_step.trans rfl
theorem ev_X7_joined_94 {ct : Nat → Bool} {K : Kt} {R : Option AV → Hp → Prop} {n : Nat} {ls : List (Option AV)} {st : List AV} {σ : Hp} {k : Nat × Nat} : xe_X7_joined ct K R (n + 1) 94 ls st σ k = (lI ls 1 fun x => xk_X7_joined ct K R n 95 ls (vi x :: st) σ k) := exS_step.trans rfl
theorem ev_X7_joined_95 {ct : Nat → Bool} {K : Kt} {R : Option AV → Hp → Prop} {n : Nat} {ls : List (Option AV)} {st : List AV} {σ : Hp} {k : Nat × Nat} : xe_X7_joined ct K R (n + 1) 95 ls st σ k = (lI ls 2 fun x => xk_X7_joined ct K R n 96 ls (vi x :: st) σ k) := exS_step.trans rfl
theorem ev_X7_joined_96 {ct : Nat → Bool} {K : Kt} {R : Option AV → Hp → Prop} {n : Nat} {ls : List (Option AV)} {st : List AV} {σ : Hp} {k : Nat × Nat} : xe_X7_joined ct K R (n + 1) 96 ls st σ k = (oI st fun y st => oI st fun x st => xk_X7_joined ct K R n 97 ls (vi (x - y) :: st) σ k) := exS_step.trans rfl
theorem ev_X7_joined_97 {ct : Nat → Bool} {K : Kt} {R : Option AV → Hp → Prop} {n : Nat} {ls : List (Option AV)} {st : List AV} {σ : Hp} {k : Nat × Nat} : xe_X7_joined ct K R (n + 1) 97 ls st σ k = (oI st fun x st => st = [] ∧ True ∧ R (some (vi x)) σ) := exS_step.trans rfl
theorem ev_X7_joined_98 {ct : Nat → Bool} {K : Kt} {R : Option AV → Hp → Prop} {n : Nat} {ls : List (Option AV)} {st : List AV} {σ : Hp} {k : Nat × Nat} : xe_X7_joined ct K R (n + 1) 98 ls st σ k = (xk_X7_joined ct K R n 99 ls (vi (0) :: st) σ k) := exS_step.trans rfl
theorem ev_X7_joined_99 {ct : Nat → Bool} {K : Kt} {R : Option AV → Hp → Prop} {n : Nat} {ls : List (Option AV)} {st : List AV} {σ : Hp} {k : Nat × Nat} : xe_X7_joined ct K R (n + 1) 99 ls st σ k = (oI st fun x st => st = [] ∧ True ∧ R (some (vi x)) σ) := exS_step.trans rfl
def M_X7_joined : Md := (yX7_joined, cX7_joined, 3, (some FieldType.int), 1, 0, 0, 1, false, tb_X7_joined, mt_X7_joined)
theorem mm_X7_joined : MMOK M_X7_joined := ⟨by decide +kernel, tk_X7_joined, mk_X7_joined, rfl, fun h => by cases h⟩
theorem go_X7_joined {Q : Option AV → Hp → Prop} {ct : Nat → Bool} {pc : Nat} {ls : List (Option AV)} {st : List AV} {σ : Hp} {k : Nat × Nat} (n : Nat) (h : xe_X7_joined ct (Go M_X7_joined Q) Q n pc ls st σ k) : Go M_X7_joined Q pc ls st σ k := Go.exS mm_X7_joined h

set_option maxRecDepth 20000 in
theorem c_X7_joined : Ct yX7_joined cX7_joined 3 ((some FieldType.int)) 1 0 0 sp_X7_joined := by
  refine Ct.go (M := M_X7_joined) mm_X7_joined fun av σ Q h0 => ?_
  obtain ⟨c, x, y, rfl, h⟩ := el_X7_joined h0
  clear h0
  refine ⟨Nat.le_of_ble_eq_true rfl, ?_⟩
  show Go M_X7_joined Q 0 [some (vi c), some (vi x), some (vi y)] [] σ (0, 0)
  obtain ⟨hc, h⟩ := h
  have e : c = -7 ∨ c = -6 ∨ c = -5 ∨ c = -4 ∨ c = -3 ∨ c = -2 := by omega
  have e1 : wI (-7) = -7 := by decide
  have e2 : wI (-6) = -6 := by decide
  have e3 : wI (-5) = -5 := by decide
  have e4 : wI (-4) = -4 := by decide
  have e5 : wI (-3) = -3 := by decide
  have e6 : wI (-2) = -2 := by decide
  unfold jn at h
  rcases e with rfl | rfl | rfl | rfl | rfl | rfl
  · simp only [Int.reduceEq, Int.reduceNeg, if_false] at h
    refine go_X7_joined (ct := fun p => p == 40 || p == 54 || p == 68 || p == 79 || p == 90 || p == 98) 40 ?_
    simp only [oI, oL, oR, o1, lI, lL, lR, popN, catS, gv, stL, stL2, swt, cnd, spObj, List.getElem?_cons_zero, List.getElem?_cons_succ, List.getD_cons_zero, List.getD_cons_succ, List.set_cons_zero, List.set_cons_succ, List.nil_append, List.cons_append, Option.toList, Bool.or_false, Bool.false_or, Bool.or_true, Bool.true_or, Nat.reduceBEq, Nat.reduceAdd, Nat.reduceLT, Nat.reduceLeDiff, Int.reduceAdd, Int.reduceToNat, true_and, and_true, Fin.isValue, Fin.val_zero, Fin.val_one, Fin.val_two, Fin.reduceFinMk, eq_self, Int.reduceNeg, imp_self, Nat.reduceMul, Nat.le_refl, not_true_eq_false, not_false_eq_true, List.getElem?_nil, reduceCtorEq, true_or, or_true, Classical.not_not, implies_true, or_self, wI_0, wI_1, wI_m1, b2i_w, b2i_eq0, b2i_eq1, b2i_bool, nor_self, nx_pI, kd_pI, ln_pI, fI_pI, fL_pI, fR_pI, aI_pI, aL_pI, aR_pI, nx_pL, kd_pL, ln_pL, fI_pL, fL_pL, fR_pL, aI_pL, aL_pL, aR_pL, nx_pR, kd_pR, ln_pR, fI_pR, fL_pR, fR_pR, aI_pR, aL_pR, aR_pR, nx_qI, kd_qI, ln_qI, fI_qI, fL_qI, fR_qI, aI_qI, aL_qI, aR_qI, nx_qL, kd_qL, ln_qL, fI_qL, fL_qL, fR_qL, aI_qL, aL_qL, aR_qL, nx_qR, kd_qR, ln_qR, fI_qR, fL_qR, fR_qR, aI_qR, aL_qR, aR_qR, nx_mk, kd_mk, ln_mk, fI_mk, fL_mk, fR_mk, aI_mk, aL_mk, aR_mk, false_and, and_false, if_false, if_true, and_self, Int.reduceEq, Nat.reduceEqDiff, ite_self, MLay_pI, MLay_pL, MLay_qI, MLay_qL, ev_X7_joined_0, ev_X7_joined_1, ev_X7_joined_94, ev_X7_joined_95, ev_X7_joined_96, ev_X7_joined_97, xt_X7_joined, xf_X7_joined, e1]
    repeat' (first | intro z | apply And.intro)
    all_goals try omega
    all_goals try contradiction
    all_goals exact h
  · simp only [Int.reduceEq, Int.reduceNeg, if_false, if_true] at h
    refine go_X7_joined (ct := fun p => p == 40 || p == 54 || p == 68 || p == 79 || p == 94 || p == 98) 40 ?_
    simp only [oI, oL, oR, o1, lI, lL, lR, popN, catS, gv, stL, stL2, swt, cnd, spObj, List.getElem?_cons_zero, List.getElem?_cons_succ, List.getD_cons_zero, List.getD_cons_succ, List.set_cons_zero, List.set_cons_succ, List.nil_append, List.cons_append, Option.toList, Bool.or_false, Bool.false_or, Bool.or_true, Bool.true_or, Nat.reduceBEq, Nat.reduceAdd, Nat.reduceLT, Nat.reduceLeDiff, Int.reduceAdd, Int.reduceToNat, true_and, and_true, Fin.isValue, Fin.val_zero, Fin.val_one, Fin.val_two, Fin.reduceFinMk, eq_self, Int.reduceNeg, imp_self, Nat.reduceMul, Nat.le_refl, not_true_eq_false, not_false_eq_true, List.getElem?_nil, reduceCtorEq, true_or, or_true, Classical.not_not, implies_true, or_self, wI_0, wI_1, wI_m1, b2i_w, b2i_eq0, b2i_eq1, b2i_bool, nor_self, nx_pI, kd_pI, ln_pI, fI_pI, fL_pI, fR_pI, aI_pI, aL_pI, aR_pI, nx_pL, kd_pL, ln_pL, fI_pL, fL_pL, fR_pL, aI_pL, aL_pL, aR_pL, nx_pR, kd_pR, ln_pR, fI_pR, fL_pR, fR_pR, aI_pR, aL_pR, aR_pR, nx_qI, kd_qI, ln_qI, fI_qI, fL_qI, fR_qI, aI_qI, aL_qI, aR_qI, nx_qL, kd_qL, ln_qL, fI_qL, fL_qL, fR_qL, aI_qL, aL_qL, aR_qL, nx_qR, kd_qR, ln_qR, fI_qR, fL_qR, fR_qR, aI_qR, aL_qR, aR_qR, nx_mk, kd_mk, ln_mk, fI_mk, fL_mk, fR_mk, aI_mk, aL_mk, aR_mk, false_and, and_false, if_false, if_true, and_self, Int.reduceEq, Nat.reduceEqDiff, ite_self, MLay_pI, MLay_pL, MLay_qI, MLay_qL, ev_X7_joined_0, ev_X7_joined_1, ev_X7_joined_90, ev_X7_joined_91, ev_X7_joined_92, ev_X7_joined_93, xt_X7_joined, xf_X7_joined, e2]
    repeat' (first | intro z | apply And.intro)
    all_goals try omega
    all_goals try contradiction
    all_goals exact h
  · simp only [Int.reduceEq, Int.reduceNeg, if_false, if_true] at h
    by_cases c : wI x = wI y
    · rw [if_pos c] at h
      refine go_X7_joined (ct := fun p => p == 40 || p == 54 || p == 68 || p == 90 || p == 94 || p == 98 || p == 87) 40 ?_
      simp only [oI, oL, oR, o1, lI, lL, lR, popN, catS, gv, stL, stL2, swt, cnd, spObj, List.getElem?_cons_zero, List.getElem?_cons_succ, List.getD_cons_zero, List.getD_cons_succ, List.set_cons_zero, List.set_cons_succ, List.nil_append, List.cons_append, Option.toList, Bool.or_false, Bool.false_or, Bool.or_true, Bool.true_or, Nat.reduceBEq, Nat.reduceAdd, Nat.reduceLT, Nat.reduceLeDiff, Int.reduceAdd, Int.reduceToNat, true_and, and_true, Fin.isValue, Fin.val_zero, Fin.val_one, Fin.val_two, Fin.reduceFinMk, eq_self, Int.reduceNeg, imp_self, Nat.reduceMul, Nat.le_refl, not_true_eq_false, not_false_eq_true, List.getElem?_nil, reduceCtorEq, true_or, or_true, Classical.not_not, implies_true, or_self, wI_0, wI_1, wI_m1, b2i_w, b2i_eq0, b2i_eq1, b2i_bool, nor_self, nx_pI, kd_pI, ln_pI, fI_pI, fL_pI, fR_pI, aI_pI, aL_pI, aR_pI, nx_pL, kd_pL, ln_pL, fI_pL, fL_pL, fR_pL, aI_pL, aL_pL, aR_pL, nx_pR, kd_pR, ln_pR, fI_pR, fL_pR, fR_pR, aI_pR, aL_pR, aR_pR, nx_qI, kd_qI, ln_qI, fI_qI, fL_qI, fR_qI, aI_qI, aL_qI, aR_qI, nx_qL, kd_qL, ln_qL, fI_qL, fL_qL, fR_qL, aI_qL, aL_qL, aR_qL, nx_qR, kd_qR, ln_qR, fI_qR, fL_qR, fR_qR, aI_qR, aL_qR, aR_qR, nx_mk, kd_mk, ln_mk, fI_mk, fL_mk, fR_mk, aI_mk, aL_mk, aR_mk, false_and, and_false, if_false, if_true, and_self, Int.reduceEq, Nat.reduceEqDiff, ite_self, MLay_pI, MLay_pL, MLay_qI, MLay_qL, ev_X7_joined_0, ev_X7_joined_1, ev_X7_joined_79, ev_X7_joined_80, ev_X7_joined_81, ev_X7_joined_84, ev_X7_joined_85, ev_X7_joined_88, ev_X7_joined_89, xt_X7_joined, xf_X7_joined, e3]
      repeat' (first | intro z | apply And.intro)
      all_goals try omega
      all_goals try contradiction
      all_goals exact h
    · rw [if_neg c] at h
      refine go_X7_joined (ct := fun p => p == 40 || p == 54 || p == 68 || p == 90 || p == 94 || p == 98 || p == 84) 40 ?_
      simp only [oI, oL, oR, o1, lI, lL, lR, popN, catS, gv, stL, stL2, swt, cnd, spObj, List.getElem?_cons_zero, List.getElem?_cons_succ, List.getD_cons_zero, List.getD_cons_succ, List.set_cons_zero, List.set_cons_succ, List.nil_append, List.cons_append, Option.toList, Bool.or_false, Bool.false_or, Bool.or_true, Bool.true_or, Nat.reduceBEq, Nat.reduceAdd, Nat.reduceLT, Nat.reduceLeDiff, Int.reduceAdd, Int.reduceToNat, true_and, and_true, Fin.isValue, Fin.val_zero, Fin.val_one, Fin.val_two, Fin.reduceFinMk, eq_self, Int.reduceNeg, imp_self, Nat.reduceMul, Nat.le_refl, not_true_eq_false, not_false_eq_true, List.getElem?_nil, reduceCtorEq, true_or, or_true, Classical.not_not, implies_true, or_self, wI_0, wI_1, wI_m1, b2i_w, b2i_eq0, b2i_eq1, b2i_bool, nor_self, nx_pI, kd_pI, ln_pI, fI_pI, fL_pI, fR_pI, aI_pI, aL_pI, aR_pI, nx_pL, kd_pL, ln_pL, fI_pL, fL_pL, fR_pL, aI_pL, aL_pL, aR_pL, nx_pR, kd_pR, ln_pR, fI_pR, fL_pR, fR_pR, aI_pR, aL_pR, aR_pR, nx_qI, kd_qI, ln_qI, fI_qI, fL_qI, fR_qI, aI_qI, aL_qI, aR_qI, nx_qL, kd_qL, ln_qL, fI_qL, fL_qL, fR_qL, aI_qL, aL_qL, aR_qL, nx_qR, kd_qR, ln_qR, fI_qR, fL_qR, fR_qR, aI_qR, aL_qR, aR_qR, nx_mk, kd_mk, ln_mk, fI_mk, fL_mk, fR_mk, aI_mk, aL_mk, aR_mk, false_and, and_false, if_false, if_true, and_self, Int.reduceEq, Nat.reduceEqDiff, ite_self, MLay_pI, MLay_pL, MLay_qI, MLay_qL, ev_X7_joined_0, ev_X7_joined_1, ev_X7_joined_79, ev_X7_joined_80, ev_X7_joined_81, ev_X7_joined_84, ev_X7_joined_85, ev_X7_joined_88, ev_X7_joined_89, xt_X7_joined, xf_X7_joined, e3]
      repeat' (first | intro z | apply And.intro)
      all_goals try omega
      all_goals try contradiction
      all_goals exact h
  · simp only [Int.reduceEq, Int.reduceNeg, if_false, if_true] at h
    by_cases c : wI x < wI y
    · rw [if_pos c] at h
      refine go_X7_joined (ct := fun p => p == 40 || p == 54 || p == 79 || p == 90 || p == 94 || p == 98 || p == 77) 40 ?_
      simp only [oI, oL, oR, o1, lI, lL, lR, popN, catS, gv, stL, stL2, swt, cnd, spObj, List.getElem?_cons_zero, List.getElem?_cons_succ, List.getD_cons_zero, List.getD_cons_succ, List.set_cons_zero, List.set_cons_succ, List.nil_append, List.cons_append, Option.toList, Bool.or_false, Bool.false_or, Bool.or_true, Bool.true_or, Nat.reduceBEq, Nat.reduceAdd, Nat.reduceLT, Nat.reduceLeDiff, Int.reduceAdd, Int.reduceToNat, true_and, and_true, Fin.isValue, Fin.val_zero, Fin.val_one, Fin.val_two, Fin.reduceFinMk, eq_self, Int.reduceNeg, imp_self, Nat.reduceMul, Nat.le_refl, not_true_eq_false, not_false_eq_true, List.getElem?_nil, reduceCtorEq, true_or, or_true, Classical.not_not, implies_true, or_self, wI_0, wI_1, wI_m1, b2i_w, b2i_eq0, b2i_eq1, b2i_bool, nor_self, nx_pI, kd_pI, ln_pI, fI_pI, fL_pI, fR_pI, aI_pI, aL_pI, aR_pI, nx_pL, kd_pL, ln_pL, fI_pL, fL_pL, fR_pL, aI_pL, aL_pL, aR_pL, nx_pR, kd_pR, ln_pR, fI_pR, fL_pR, fR_pR, aI_pR, aL_pR, aR_pR, nx_qI, kd_qI, ln_qI, fI_qI, fL_qI, fR_qI, aI_qI, aL_qI, aR_qI, nx_qL, kd_qL, ln_qL, fI_qL, fL_qL, fR_qL, aI_qL, aL_qL, aR_qL, nx_qR, kd_qR, ln_qR, fI_qR, fL_qR, fR_qR, aI_qR, aL_qR, aR_qR, nx_mk, kd_mk, ln_mk, fI_mk, fL_mk, fR_mk, aI_mk, aL_mk, aR_mk, false_and, and_false, if_false, if_true, and_self, Int.reduceEq, Nat.reduceEqDiff, ite_self, MLay_pI, MLay_pL, MLay_qI, MLay_qL, ev_X7_joined_0, ev_X7_joined_1, ev_X7_joined_68, ev_X7_joined_69, ev_X7_joined_70, ev_X7_joined_73, ev_X7_joined_74, ev_X7_joined_77, ev_X7_joined_78, xt_X7_joined, xf_X7_joined, e4]
      repeat' (first | intro z | apply And.intro)
      all_goals try omega
      all_goals try contradiction
      all_goals exact h
    · rw [if_neg c] at h
      refine go_X7_joined (ct := fun p => p == 40 || p == 54 || p == 79 || p == 90 || p == 94 || p == 98 || p == 73) 40 ?_
      simp only [oI, oL, oR, o1, lI, lL, lR, popN, catS, gv, stL, stL2, swt, cnd, spObj, List.getElem?_cons_zero, List.getElem?_cons_succ, List.getD_cons_zero, List.getD_cons_succ, List.set_cons_zero, List.set_cons_succ, List.nil_append, List.cons_append, Option.toList, Bool.or_false, Bool.false_or, Bool.or_true, Bool.true_or, Nat.reduceBEq, Nat.reduceAdd, Nat.reduceLT, Nat.reduceLeDiff, Int.reduceAdd, Int.reduceToNat, true_and, and_true, Fin.isValue, Fin.val_zero, Fin.val_one, Fin.val_two, Fin.reduceFinMk, eq_self, Int.reduceNeg, imp_self, Nat.reduceMul, Nat.le_refl, not_true_eq_false, not_false_eq_true, List.getElem?_nil, reduceCtorEq, true_or, or_true, Classical.not_not, implies_true, or_self, wI_0, wI_1, wI_m1, b2i_w, b2i_eq0, b2i_eq1, b2i_bool, nor_self, nx_pI, kd_pI, ln_pI, fI_pI, fL_pI, fR_pI, aI_pI, aL_pI, aR_pI, nx_pL, kd_pL, ln_pL, fI_pL, fL_pL, fR_pL, aI_pL, aL_pL, aR_pL, nx_pR, kd_pR, ln_pR, fI_pR, fL_pR, fR_pR, aI_pR, aL_pR, aR_pR, nx_qI, kd_qI, ln_qI, fI_qI, fL_qI, fR_qI, aI_qI, aL_qI, aR_qI, nx_qL, kd_qL, ln_qL, fI_qL, fL_qL, fR_qL, aI_qL, aL_qL, aR_qL, nx_qR, kd_qR, ln_qR, fI_qR, fL_qR, fR_qR, aI_qR, aL_qR, aR_qR, nx_mk, kd_mk, ln_mk, fI_mk, fL_mk, fR_mk, aI_mk, aL_mk, aR_mk, false_and, and_false, if_false, if_true, and_self, Int.reduceEq, Nat.reduceEqDiff, ite_self, MLay_pI, MLay_pL, MLay_qI, MLay_qL, ev_X7_joined_0, ev_X7_joined_1, ev_X7_joined_68, ev_X7_joined_69, ev_X7_joined_70, ev_X7_joined_73, ev_X7_joined_74, ev_X7_joined_77, ev_X7_joined_78, xt_X7_joined, xf_X7_joined, e4]
      repeat' (first | intro z | apply And.intro)
      all_goals try omega
      all_goals try contradiction
      all_goals exact h
  · simp only [Int.reduceEq, Int.reduceNeg, if_false, if_true] at h
    by_cases c : wI x = 0
    · rw [if_pos c] at h
      by_cases c2 : wI y = 0
      · rw [if_pos c2] at h
        refine go_X7_joined (ct := fun p => p == 40 || p == 68 || p == 79 || p == 90 || p == 94 || p == 98 || p == 62) 40 ?_
        simp only [oI, oL, oR, o1, lI, lL, lR, popN, catS, gv, stL, stL2, swt, cnd, spObj, List.getElem?_cons_zero, List.getElem?_cons_succ, List.getD_cons_zero, List.getD_cons_succ, List.set_cons_zero, List.set_cons_succ, List.nil_append, List.cons_append, Option.toList, Bool.or_false, Bool.false_or, Bool.or_true, Bool.true_or, Nat.reduceBEq, Nat.reduceAdd, Nat.reduceLT, Nat.reduceLeDiff, Int.reduceAdd, Int.reduceToNat, true_and, and_true, Fin.isValue, Fin.val_zero, Fin.val_one, Fin.val_two, Fin.reduceFinMk, eq_self, Int.reduceNeg, imp_self, Nat.reduceMul, Nat.le_refl, not_true_eq_false, not_false_eq_true, List.getElem?_nil, reduceCtorEq, true_or, or_true, Classical.not_not, implies_true, or_self, wI_0, wI_1, wI_m1, b2i_w, b2i_eq0, b2i_eq1, b2i_bool, nor_self, nx_pI, kd_pI, ln_pI, fI_pI, fL_pI, fR_pI, aI_pI, aL_pI, aR_pI, nx_pL, kd_pL, ln_pL, fI_pL, fL_pL, fR_pL, aI_pL, aL_pL, aR_pL, nx_pR, kd_pR, ln_pR, fI_pR, fL_pR, fR_pR, aI_pR, aL_pR, aR_pR, nx_qI, kd_qI, ln_qI, fI_qI, fL_qI, fR_qI, aI_qI, aL_qI, aR_qI, nx_qL, kd_qL, ln_qL, fI_qL, fL_qL, fR_qL, aI_qL, aL_qL, aR_qL, nx_qR, kd_qR, ln_qR, fI_qR, fL_qR, fR_qR, aI_qR, aL_qR, aR_qR, nx_mk, kd_mk, ln_mk, fI_mk, fL_mk, fR_mk, aI_mk, aL_mk, aR_mk, false_and, and_false, if_false, if_true, and_self, Int.reduceEq, Nat.reduceEqDiff, ite_self, MLay_pI, MLay_pL, MLay_qI, MLay_qL, ev_X7_joined_0, ev_X7_joined_1, ev_X7_joined_54, ev_X7_joined_55, ev_X7_joined_58, ev_X7_joined_59, ev_X7_joined_62, ev_X7_joined_63, ev_X7_joined_66, ev_X7_joined_67, xt_X7_joined, xf_X7_joined, e5]
        repeat' (first | intro z | apply And.intro)
        all_goals try omega
        all_goals try contradiction
        all_goals exact h
      · rw [if_neg c2] at h
        refine go_X7_joined (ct := fun p => p == 40 || p == 68 || p == 79 || p == 90 || p == 94 || p == 98 || p == 66) 40 ?_
        simp only [oI, oL, oR, o1, lI, lL, lR, popN, catS, gv, stL, stL2, swt, cnd, spObj, List.getElem?_cons_zero, List.getElem?_cons_succ, List.getD_cons_zero, List.getD_cons_succ, List.set_cons_zero, List.set_cons_succ, List.nil_append, List.cons_append, Option.toList, Bool.or_false, Bool.false_or, Bool.or_true, Bool.true_or, Nat.reduceBEq, Nat.reduceAdd, Nat.reduceLT, Nat.reduceLeDiff, Int.reduceAdd, Int.reduceToNat, true_and, and_true, Fin.isValue, Fin.val_zero, Fin.val_one, Fin.val_two, Fin.reduceFinMk, eq_self, Int.reduceNeg, imp_self, Nat.reduceMul, Nat.le_refl, not_true_eq_false, not_false_eq_true, List.getElem?_nil, reduceCtorEq, true_or, or_true, Classical.not_not, implies_true, or_self, wI_0, wI_1, wI_m1, b2i_w, b2i_eq0, b2i_eq1, b2i_bool, nor_self, nx_pI, kd_pI, ln_pI, fI_pI, fL_pI, fR_pI, aI_pI, aL_pI, aR_pI, nx_pL, kd_pL, ln_pL, fI_pL, fL_pL, fR_pL, aI_pL, aL_pL, aR_pL, nx_pR, kd_pR, ln_pR, fI_pR, fL_pR, fR_pR, aI_pR, aL_pR, aR_pR, nx_qI, kd_qI, ln_qI, fI_qI, fL_qI, fR_qI, aI_qI, aL_qI, aR_qI, nx_qL, kd_qL, ln_qL, fI_qL, fL_qL, fR_qL, aI_qL, aL_qL, aR_qL, nx_qR, kd_qR, ln_qR, fI_qR, fL_qR, fR_qR, aI_qR, aL_qR, aR_qR, nx_mk, kd_mk, ln_mk, fI_mk, fL_mk, fR_mk, aI_mk, aL_mk, aR_mk, false_and, and_false, if_false, if_true, and_self, Int.reduceEq, Nat.reduceEqDiff, ite_self, MLay_pI, MLay_pL, MLay_qI, MLay_qL, ev_X7_joined_0, ev_X7_joined_1, ev_X7_joined_54, ev_X7_joined_55, ev_X7_joined_58, ev_X7_joined_59, ev_X7_joined_62, ev_X7_joined_63, ev_X7_joined_66, ev_X7_joined_67, xt_X7_joined, xf_X7_joined, e5]
        repeat' (first | intro z | apply And.intro)
        all_goals try omega
        all_goals try contradiction
        all_goals exact h
    · rw [if_neg c] at h
      refine go_X7_joined (ct := fun p => p == 40 || p == 68 || p == 79 || p == 90 || p == 94 || p == 98 || p == 58) 40 ?_
      simp only [oI, oL, oR, o1, lI, lL, lR, popN, catS, gv, stL, stL2, swt, cnd, spObj, List.getElem?_cons_zero, List.getElem?_cons_succ, List.getD_cons_zero, List.getD_cons_succ, List.set_cons_zero, List.set_cons_succ, List.nil_append, List.cons_append, Option.toList, Bool.or_false, Bool.false_or, Bool.or_true, Bool.true_or, Nat.reduceBEq, Nat.reduceAdd, Nat.reduceLT, Nat.reduceLeDiff, Int.reduceAdd, Int.reduceToNat, true_and, and_true, Fin.isValue, Fin.val_zero, Fin.val_one, Fin.val_two, Fin.reduceFinMk, eq_self, Int.reduceNeg, imp_self, Nat.reduceMul, Nat.le_refl, not_true_eq_false, not_false_eq_true, List.getElem?_nil, reduceCtorEq, true_or, or_true, Classical.not_not, implies_true, or_self, wI_0, wI_1, wI_m1, b2i_w, b2i_eq0, b2i_eq1, b2i_bool, nor_self, nx_pI, kd_pI, ln_pI, fI_pI, fL_pI, fR_pI, aI_pI, aL_pI, aR_pI, nx_pL, kd_pL, ln_pL, fI_pL, fL_pL, fR_pL, aI_pL, aL_pL, aR_pL, nx_pR, kd_pR, ln_pR, fI_pR, fL_pR, fR_pR, aI_pR, aL_pR, aR_pR, nx_qI, kd_qI, ln_qI, fI_qI, fL_qI, fR_qI, aI_qI, aL_qI, aR_qI, nx_qL, kd_qL, ln_qL, fI_qL, fL_qL, fR_qL, aI_qL, aL_qL, aR_qL, nx_qR, kd_qR, ln_qR, fI_qR, fL_qR, fR_qR, aI_qR, aL_qR, aR_qR, nx_mk, kd_mk, ln_mk, fI_mk, fL_mk, fR_mk, aI_mk, aL_mk, aR_mk, false_and, and_false, if_false, if_true, and_self, Int.reduceEq, Nat.reduceEqDiff, ite_self, MLay_pI, MLay_pL, MLay_qI, MLay_qL, ev_X7_joined_0, ev_X7_joined_1, ev_X7_joined_54, ev_X7_joined_55, ev_X7_joined_58, ev_X7_joined_59, ev_X7_joined_62, ev_X7_joined_63, ev_X7_joined_66, ev_X7_joined_67, xt_X7_joined, xf_X7_joined, e5]
      repeat' (first | intro z | apply And.intro)
      all_goals try omega
      all_goals try contradiction
      all_goals exact h
  · simp only [Int.reduceEq, Int.reduceNeg, if_false, if_true] at h
    by_cases c : wI x = 0
    · rw [if_pos c] at h
      refine go_X7_joined (ct := fun p => p == 54 || p == 68 || p == 79 || p == 90 || p == 94 || p == 98 || p == 44) 40 ?_
      simp only [oI, oL, oR, o1, lI, lL, lR, popN, catS, gv, stL, stL2, swt, cnd, spObj, List.getElem?_cons_zero, List.getElem?_cons_succ, List.getD_cons_zero, List.getD_cons_succ, List.set_cons_zero, List.set_cons_succ, List.nil_append, List.cons_append, Option.toList, Bool.or_false, Bool.false_or, Bool.or_true, Bool.true_or, Nat.reduceBEq, Nat.reduceAdd, Nat.reduceLT, Nat.reduceLeDiff, Int.reduceAdd, Int.reduceToNat, true_and, and_true, Fin.isValue, Fin.val_zero, Fin.val_one, Fin.val_two, Fin.reduceFinMk, eq_self, Int.reduceNeg, imp_self, Nat.reduceMul, Nat.le_refl, not_true_eq_false, not_false_eq_true, List.getElem?_nil, reduceCtorEq, true_or, or_true, Classical.not_not, implies_true, or_self, wI_0, wI_1, wI_m1, b2i_w, b2i_eq0, b2i_eq1, b2i_bool, nor_self, nx_pI, kd_pI, ln_pI, fI_pI, fL_pI, fR_pI, aI_pI, aL_pI, aR_pI, nx_pL, kd_pL, ln_pL, fI_pL, fL_pL, fR_pL, aI_pL, aL_pL, aR_pL, nx_pR, kd_pR, ln_pR, fI_pR, fL_pR, fR_pR, aI_pR, aL_pR, aR_pR, nx_qI, kd_qI, ln_qI, fI_qI, fL_qI, fR_qI, aI_qI, aL_qI, aR_qI, nx_qL, kd_qL, ln_qL, fI_qL, fL_qL, fR_qL, aI_qL, aL_qL, aR_qL, nx_qR, kd_qR, ln_qR, fI_qR, fL_qR, fR_qR, aI_qR, aL_qR, aR_qR, nx_mk, kd_mk, ln_mk, fI_mk, fL_mk, fR_mk, aI_mk, aL_mk, aR_mk, false_and, and_false, if_false, if_true, and_self, Int.reduceEq, Nat.reduceEqDiff, ite_self, MLay_pI, MLay_pL, MLay_qI, MLay_qL, ev_X7_joined_0, ev_X7_joined_1, ev_X7_joined_40, ev_X7_joined_41, ev_X7_joined_44, ev_X7_joined_45, ev_X7_joined_48, ev_X7_joined_49, ev_X7_joined_52, ev_X7_joined_53, xt_X7_joined, xf_X7_joined, e6]
      repeat' (first | intro z | apply And.intro)
      all_goals try omega
      all_goals try contradiction
      all_goals exact h
    · rw [if_neg c] at h
      by_cases c2 : wI y = 0
      · rw [if_pos c2] at h
        refine go_X7_joined (ct := fun p => p == 54 || p == 68 || p == 79 || p == 90 || p == 94 || p == 98 || p == 48) 40 ?_
        simp only [oI, oL, oR, o1, lI, lL, lR, popN, catS, gv, stL, stL2, swt, cnd, spObj, List.getElem?_cons_zero, List.getElem?_cons_succ, List.getD_cons_zero, List.getD_cons_succ, List.set_cons_zero, List.set_cons_succ, List.nil_append, List.cons_append, Option.toList, Bool.or_false, Bool.false_or, Bool.or_true, Bool.true_or, Nat.reduceBEq, Nat.reduceAdd, Nat.reduceLT, Nat.reduceLeDiff, Int.reduceAdd, Int.reduceToNat, true_and, and_true, Fin.isValue, Fin.val_zero, Fin.val_one, Fin.val_two, Fin.reduceFinMk, eq_self, Int.reduceNeg, imp_self, Nat.reduceMul, Nat.le_refl, not_true_eq_false, not_false_eq_true, List.getElem?_nil, reduceCtorEq, true_or, or_true, Classical.not_not, implies_true, or_self, wI_0, wI_1, wI_m1, b2i_w, b2i_eq0, b2i_eq1, b2i_bool, nor_self, nx_pI, kd_pI, ln_pI, fI_pI, fL_pI, fR_pI, aI_pI, aL_pI, aR_pI, nx_pL, kd_pL, ln_pL, fI_pL, fL_pL, fR_pL, aI_pL, aL_pL, aR_pL, nx_pR, kd_pR, ln_pR, fI_pR, fL_pR, fR_pR, aI_pR, aL_pR, aR_pR, nx_qI, kd_qI, ln_qI, fI_qI, fL_qI, fR_qI, aI_qI, aL_qI, aR_qI, nx_qL, kd_qL, ln_qL, fI_qL, fL_qL, fR_qL, aI_qL, aL_qL, aR_qL, nx_qR, kd_qR, ln_qR, fI_qR, fL_qR, fR_qR, aI_qR, aL_qR, aR_qR, nx_mk, kd_mk, ln_mk, fI_mk, fL_mk, fR_mk, aI_mk, aL_mk, aR_mk, false_and, and_false, if_false, if_true, and_self, Int.reduceEq, Nat.reduceEqDiff, ite_self, MLay_pI, MLay_pL, MLay_qI, MLay_qL, ev_X7_joined_0, ev_X7_joined_1, ev_X7_joined_40, ev_X7_joined_41, ev_X7_joined_44, ev_X7_joined_45, ev_X7_joined_48, ev_X7_joined_49, ev_X7_joined_52, ev_X7_joined_53, xt_X7_joined, xf_X7_joined, e6]
        repeat' (first | intro z | apply And.intro)
        all_goals try omega
        all_goals try contradiction
        all_goals exact h
      · rw [if_neg c2] at h
        refine go_X7_joined (ct := fun p => p == 54 || p == 68 || p == 79 || p == 90 || p == 94 || p == 98 || p == 52) 40 ?_
        simp only [oI, oL, oR, o1, lI, lL, lR, popN, catS, gv, stL, stL2, swt, cnd, spObj, List.getElem?_cons_zero, List.getElem?_cons_succ, List.getD_cons_zero, List.getD_cons_succ, List.set_cons_zero, List.set_cons_succ, List.nil_append, List.cons_append, Option.toList, Bool.or_false, Bool.false_or, Bool.or_true, Bool.true_or, Nat.reduceBEq, Nat.reduceAdd, Nat.reduceLT, Nat.reduceLeDiff, Int.reduceAdd, Int.reduceToNat, true_and, and_true, Fin.isValue, Fin.val_zero, Fin.val_one, Fin.val_two, Fin.reduceFinMk, eq_self, Int.reduceNeg, imp_self, Nat.reduceMul, Nat.le_refl, not_true_eq_false, not_false_eq_true, List.getElem?_nil, reduceCtorEq, true_or, or_true, Classical.not_not, implies_true, or_self, wI_0, wI_1, wI_m1, b2i_w, b2i_eq0, b2i_eq1, b2i_bool, nor_self, nx_pI, kd_pI, ln_pI, fI_pI, fL_pI, fR_pI, aI_pI, aL_pI, aR_pI, nx_pL, kd_pL, ln_pL, fI_pL, fL_pL, fR_pL, aI_pL, aL_pL, aR_pL, nx_pR, kd_pR, ln_pR, fI_pR, fL_pR, fR_pR, aI_pR, aL_pR, aR_pR, nx_qI, kd_qI, ln_qI, fI_qI, fL_qI, fR_qI, aI_qI, aL_qI, aR_qI, nx_qL, kd_qL, ln_qL, fI_qL, fL_qL, fR_qL, aI_qL, aL_qL, aR_qL, nx_qR, kd_qR, ln_qR, fI_qR, fL_qR, fR_qR, aI_qR, aL_qR, aR_qR, nx_mk, kd_mk, ln_mk, fI_mk, fL_mk, fR_mk, aI_mk, aL_mk, aR_mk, false_and, and_false, if_false, if_true, and_self, Int.reduceEq, Nat.reduceEqDiff, ite_self, MLay_pI, MLay_pL, MLay_qI, MLay_qL, ev_X7_joined_0, ev_X7_joined_1, ev_X7_joined_40, ev_X7_joined_41, ev_X7_joined_44, ev_X7_joined_45, ev_X7_joined_48, ev_X7_joined_49, ev_X7_joined_52, ev_X7_joined_53, xt_X7_joined, xf_X7_joined, e6]
        repeat' (first | intro z | apply And.intro)
        all_goals try omega
        all_goals try contradiction
        all_goals exact h

abbrev dkF : List Nat := [806]
theorem DkO.fz {σ σ' : Hp} {D : Int} {fs : List Nat} {ars als : Int → Prop} (h : DkO σ D) (z : Fz fs ars als σ σ') (hf : ∀ f ∈ fs, f ∉ [800, 801, 802, 803, 804]) : DkO σ' D := by
  have hn : ∀ f ∈ [800, 801, 802, 803, 804], f ∉ fs := fun f h1 h2 => hf f h2 h1
  simp only [List.forall_mem_cons, List.not_mem_nil, false_implies, implies_true, and_true] at hn
  obtain ⟨n1, n2, n3, n4, n5⟩ := hn
  unfold DkO at *
  rw [z.kd, z.ln, z.fR n1, z.fR n2, z.fR n3, z.fR n4, z.fR n5]
  exact h
/-- a stack of the deck D -/
def SkD (σ : Hp) (D : Int) (s : List Int) : Prop := fI σ 806 D = s.length ∧ SKs (aI σ (D + 5)) s
theorem SkD.push {σ : Hp} {D v : Int} {s : List Int} (h : SkD σ D s) : SkD (pI (qI σ (D + 5) (fI σ 806 D) v) 806 D (fI σ 806 D + 1)) D (v :: s) := by
  refine ⟨?_, ?_, ?_⟩
  · rw [fI_pI, if_pos ⟨rfl, rfl⟩, h.1, List.length_cons]; rfl
  · rw [aI_pI, aI_qI, if_pos ⟨rfl, h.1.symm⟩]
  · refine h.2.cg (fun j a b => ?_)
    rw [aI_pI, aI_qI, if_neg (by have := h.1; omega)]
theorem SkD.pop {σ : Hp} {D x : Int} {s : List Int} (h : SkD σ D (x :: s)) : SkD (pI σ 806 D (fI σ 806 D - 1)) D s ∧ aI σ (D + 5) (fI σ 806 D - 1) = x := by
  have e : fI σ 806 D - 1 = (s.length : Int) := by rw [h.1, List.length_cons]; omega
  refine ⟨⟨?_, h.2.2⟩, ?_⟩
  · rw [fI_pI, if_pos ⟨rfl, rfl⟩, e]
  · rw [e]; exact h.2.1
theorem Fz_push {D : Int} (σ : Hp) (v : Int) : Fz dkF (fun r => r = D + 5) noR σ (pI (qI σ (D + 5) (fI σ 806 D) v) 806 D (fI σ 806 D + 1)) := Fz.tr (Fz_qI (fs := dkF) _ _ _ rfl) (Fz_pI (fs := dkF) (f := 806) _ _ _ (by decide))
theorem Fz_pop {D : Int} (σ : Hp) : Fz dkF (fun r => r = D + 5) noR σ (pI σ 806 D (fI σ 806 D - 1)) := Fz_pI (fs := dkF) (f := 806) _ _ _ (by decide)

def sp_X7_reckon : Sp := fun av σ Q => oR av fun this av => oI av fun a av => oI av fun b av => oR av fun r av => av = [] ∧ kd σ this = 8 ∧ (DkO σ this ∧ (kd σ r = 101 ∧ ln σ r = 7) ∧ ¬ r = this + 5 ∧ ∃ cs v, (0 ≤ a ∧ b = a + cs.length ∧ b ≤ 1000) ∧ (∀ (k : Nat) (c : Int), cs[k]? = some c → aI σ (this + 4) (a + k) = c) ∧ okS (aI σ r) [] cs ∧ rnS (aI σ r) [] cs = [v] ∧ (∀ σ', Fz dkF (fun r => r = this + 5) noR σ σ' → Q (some (vi v)) σ'))
theorem us_X7_reckon (this : Int) (a : Int) (b : Int) (r : Int) (σ : Hp) (Q : Option AV → Hp → Prop) : sp_X7_reckon [vr this, vi a, vi b, vr r] σ Q = (kd σ this = 8 ∧ (DkO σ this ∧ (kd σ r = 101 ∧ ln σ r = 7) ∧ ¬ r = this + 5 ∧ ∃ cs v, (0 ≤ a ∧ b = a + cs.length ∧ b ≤ 1000) ∧ (∀ (k : Nat) (c : Int), cs[k]? = some c → aI σ (this + 4) (a + k) = c) ∧ okS (aI σ r) [] cs ∧ rnS (aI σ r) [] cs = [v] ∧ (∀ σ', Fz dkF (fun r => r = this + 5) noR σ σ' → Q (some (vi v)) σ'))) := propext ⟨fun h => h.2, fun h => ⟨rfl, h⟩⟩
theorem el_X7_reckon {av : List AV} {σ : Hp} {Q : Option AV → Hp → Prop} (h : sp_X7_reckon av σ Q) : ∃ (this : Int) (a : Int) (b : Int) (r : Int), av = [vr this, vi a, vi b, vr r] ∧ (kd σ this = 8 ∧ (DkO σ this ∧ (kd σ r = 101 ∧ ln σ r = 7) ∧ ¬ r = this + 5 ∧ ∃ cs v, (0 ≤ a ∧ b = a + cs.length ∧ b ≤ 1000) ∧ (∀ (k : Nat) (c : Int), cs[k]? = some c → aI σ (this + 4) (a + k) = c) ∧ okS (aI σ r) [] cs ∧ rnS (aI σ r) [] cs = [v] ∧ (∀ σ', Fz dkF (fun r => r = this + 5) noR σ σ' → Q (some (vi v)) σ'))) := by
  obtain ⟨this, a0, rfl, h0⟩ := oR_s h
  obtain ⟨a, a1, rfl, h1⟩ := oI_s h0
  obtain ⟨b, a2, rfl, h2⟩ := oI_s h1
  obtain ⟨r, a3, rfl, h3⟩ := oR_s h2
  obtain ⟨rfl, hz⟩ := h3
  exact ⟨this, a, b, r, rfl, hz⟩
theorem rc_X7_reckon : ∀ (av : List AV) (σ : Hp) (Q : Option AV → Hp → Prop), sp_X7_reckon av σ Q → ∃ r tl, av = vr r :: tl ∧ kd σ r = 7 + 1 := fun av σ Q h => by
  obtain ⟨this, a, b, r, rfl, hz, -⟩ := el_X7_reckon h
  exact ⟨this, _, rfl, hz⟩

def tb_X7_reckon : Tab := [(0, .aload_n 0, 1, (0, 0, 0, 0)), (1, .iconst 0, 1, (0, 0, 0, 0)), (2, .putfield 31, 3, (8, 806, 0, 0)), (5, .iload_n 1, 1, (0, 0, 0, 0)), (6, .istore 4, 2, (0, 0, 0, 0)), (8, .iload 4, 2, (0, 0, 0, 0)), (10, .ifCond .lt 130, 3, (0, 0, 0, 0)), (13, .iload 4, 2, (0, 0, 0, 0)), (15, .iload_n 2, 1, (0, 0, 0, 0)), (16, .if_icmp .ge 124, 3, (0, 0, 0, 0)), (19, .iload 4, 2, (0, 0, 0, 0)), (21, .aload_n 0, 1, (0, 0, 0, 0)), (22, .getfield 21, 3, (8, 803, 2, 0)), (25, .arraylength, 1, (0, 0, 0, 0)), (26, .if_icmp .ge 114, 3, (0, 0, 0, 0)), (29, .aload_n 0, 1, (0, 0, 0, 0)), (30, .getfield 21, 3, (8, 803, 2, 0)), (33, .iload 4, 2, (0, 0, 0, 0)), (35, .iaload, 1, (0, 0, 0, 0)), (36, .istore 5, 2, (0, 0, 0, 0)), (38, .iload 5, 2, (0, 0, 0, 0)), (40, .ifCond .lt 12, 3, (0, 0, 0, 0)), (43, .aload_n 0, 1, (0, 0, 0, 0)), (44, .iload 5, 2, (0, 0, 0, 0)), (46, .invokevirtual 41, 3, (0, 0, 0, 0)), (49, .goto 85, 3, (0, 0, 0, 0)), (52, .iload 5, 2, (0, 0, 0, 0)), (54, .bipush (-10), 2, (0, 0, 0, 0)), (56, .if_icmp .gt 32, 3, (0, 0, 0, 0)), (59, .bipush (-10), 2, (0, 0, 0, 0)), (61, .iload 5, 2, (0, 0, 0, 0)), (63, .isub, 1, (0, 0, 0, 0)), (64, .istore 6, 2, (0, 0, 0, 0)), (66, .aload_n 0, 1, (0, 0, 0, 0)), (67, .iload 6, 2, (0, 0, 0, 0)), (69, .aload_n 3, 1, (0, 0, 0, 0)), (70, .arraylength, 1, (0, 0, 0, 0)), (71, .if_icmp .ge 10, 3, (0, 0, 0, 0)), (74, .aload_n 3, 1, (0, 0, 0, 0)), (75, .iload 6, 2, (0, 0, 0, 0)), (77, .iaload, 1, (0, 0, 0, 0)), (78, .goto 4, 3, (0, 0, 0, 0)), (81, .iconst 0, 1, (0, 0, 0, 0)), (82, .invokevirtual 41, 3, (0, 0, 0, 0)), (85, .goto 49, 3, (0, 0, 0, 0)), (88, .iload 5, 2, (0, 0, 0, 0)), (90, .iconst (-1), 1, (0, 0, 0, 0)), (91, .if_icmp .ne 22, 3, (0, 0, 0, 0)), (94, .aload_n 0, 1, (0, 0, 0, 0)), (95, .aload_n 0, 1, (0, 0, 0, 0)), (96, .invokevirtual 45, 3, (0, 0, 0, 0)), (99, .ifCond .ne 7, 3, (0, 0, 0, 0)), (102, .iconst 1, 1, (0, 0, 0, 0)), (103, .goto 4, 3, (0, 0, 0, 0)), (106, .iconst 0, 1, (0, 0, 0, 0)), (107, .invokevirtual 41, 3, (0, 0, 0, 0)), (110, .goto 24, 3, (0, 0, 0, 0)), (113, .aload_n 0, 1, (0, 0, 0, 0)), (114, .invokevirtual 45, 3, (0, 0, 0, 0)), (117, .istore 6, 2, (0, 0, 0, 0)), (119, .aload_n 0, 1, (0, 0, 0, 0)), (120, .iload 5, 2, (0, 0, 0, 0)), (122, .aload_n 0, 1, (0, 0, 0, 0)), (123, .invokevirtual 45, 3, (0, 0, 0, 0)), (126, .iload 6, 2, (0, 0, 0, 0)), (128, .invokestatic 49, 3, (0, 0, 0, 0)), (131, .invokevirtual 41, 3, (0, 0, 0, 0)), (134, .iinc 4 1, 3, (0, 0, 0, 0)), (137, .goto (-129), 3, (0, 0, 0, 0)), (140, .aload_n 0, 1, (0, 0, 0, 0)), (141, .invokevirtual 45, 3, (0, 0, 0, 0)), (144, .ireturn, 1, (0, 0, 0, 0))]
set_option maxRecDepth 100000 in
theorem tk_X7_reckon : TOK RX7 false cX7_reckon tb_X7_reckon := chkT_ok ft_X7 (by decide +kernel)
theorem rw_X7_328 : Row RX7 (.invokevirtual 41) 3 2 0 0 1 sp_X7_push := row_V (n := 1) (ci := 7) c_X7_push ⟨TBL_in 1214 (by decide +kernel) rfl, TBL_in 1217 (by decide +kernel) rfl, TBL_in 120 (by decide +kernel) rfl, by decide +kernel, by decide⟩ (by decide) rfl (TBL_in 1216 (by decide +kernel) rfl) (TBL_in 48 (by decide +kernel) rfl) rc_X7_push
theorem rw_X7_360 : Row RX7 (.invokevirtual 45) 3 1 0 0 1 sp_X7_pop := row_V (n := 0) (ci := 7) c_X7_pop ⟨TBL_in 1218 (by decide +kernel) rfl, TBL_in 1221 (by decide +kernel) rfl, TBL_in 120 (by decide +kernel) rfl, by decide +kernel, by decide⟩ (by decide) rfl (TBL_in 1220 (by decide +kernel) rfl) (TBL_in 49 (by decide +kernel) rfl) rc_X7_pop
theorem rw_X7_393 : Row RX7 (.invokestatic 49) 3 3 0 0 1 sp_X7_joined := row_S c_X7_joined ⟨TBL_in 1222 (by decide +kernel) rfl, TBL_in 1224 (by decide +kernel) rfl, TBL_in 120 (by decide +kernel) rfl, by decide +kernel, by decide⟩ (TBL_in 1223 (by decide +kernel) rfl)
def mt_X7_reckon : List (Nat × Mt) := [(328, 2, 0, 0, 1, sp_X7_push), (360, 1, 0, 0, 1, sp_X7_pop), (393, 3, 0, 0, 1, sp_X7_joined)]
theorem em_X7_reckon : mt_X7_reckon.lookup 328 = some (2, 0, 0, 1, sp_X7_push) ∧ mt_X7_reckon.lookup 360 = some (1, 0, 0, 1, sp_X7_pop) ∧ mt_X7_reckon.lookup 393 = some (3, 0, 0, 1, sp_X7_joined) := ⟨rfl, rfl, rfl⟩
theorem mk_X7_reckon : MOK RX7 mt_X7_reckon := by
  intro q hq
  simp only [mt_X7_reckon, List.mem_cons, List.not_mem_nil, or_false] at hq
  rcases hq with rfl | rfl | rfl
  · exact rw_X7_328
  · exact rw_X7_360
  · exact rw_X7_393
noncomputable def xe_X7_reckon (ct : Nat → Bool) (K : Kt) (R : Option AV → Hp → Prop) (n : Nat) : Kt := exS 7 2 0 0 1 tb_X7_reckon mt_X7_reckon ct K R n
noncomputable def xk_X7_reckon (ct : Nat → Bool) (K : Kt) (R : Option AV → Hp → Prop) (n : Nat) : Kt := exkS 7 2 0 0 1 tb_X7_reckon mt_X7_reckon ct K R n
theorem xt_X7_reckon {ct : Nat → Bool} {K : Kt} {R : Option AV → Hp → Prop} {n pc : Nat} {ls : List (Option AV)} {st : List AV} {σ : Hp} {k : Nat × Nat} (h : ct pc = true) : xk_X7_reckon ct K R n pc ls st σ k = K pc ls st σ k := by unfold xk_X7_reckon exkS; rw [h]
theorem xf_X7_reckon {ct : Nat → Bool} {K : Kt} {R : Option AV → Hp → Prop} {n pc : Nat} {ls : List (Option AV)} {st : List AV} {σ : Hp} {k : Nat × Nat} (h : ct pc = false) : xk_X7_reckon ct K R n pc ls st σ k = xe_X7_reckon ct K R n pc ls st σ k := by unfold xk_X7_reckon exkS xe_X7_reckon; rw [h]
theorem ev_X7_reckon_0 {ct : Nat → Bool} {K : Kt} {R : Option AV → Hp → Prop} {n : Nat} {ls : List (Option AV)} {st : List AV} {σ : Hp} {k : Nat × Nat} : xe_X7_reckon ct K R (n + 1) 0 ls st σ k = (lR ls 0 fun x => xk_X7_reckon ct K R n 1 ls (vr x :: st) σ k) := exS_step.trans rfl
theorem ev_X7_reckon_1 {ct : Nat → Bool} {K : Kt} {R : Option AV → Hp → Prop} {n : Nat} {ls : List (Option AV)} {st : List AV} {σ : Hp} {k : Nat × Nat} : xe_X7_reckon ct K R (n + 1) 1 ls st σ k = (xk_X7_reckon ct K R n 2 ls (vi (0) :: st) σ k) := exS_step.trans rfl
theorem ev_X7_reckon_2 {ct : Nat → Bool} {K : Kt} {R : Option AV → Hp → Prop} {n : Nat} {ls : List (Option AV)} {st : List AV} {σ : Hp} {k : Nat × Nat} : xe_X7_reckon ct K R (n + 1) 2 ls st σ k = (oI st fun v st => oR st fun x st => kd σ x = 8 ∧ xk_X7_reckon ct K R n 5 ls st (pI σ 806 x v) k) := exS_step.trans rfl
theorem ev_X7_reckon_5 {ct : Nat → Bool} {K : Kt} {R : Option AV → Hp → Prop} {n : Nat} {ls : List (Option AV)} {st : List AV} {σ : Hp} {k : Nat × Nat} : xe_X7_reckon ct K R (n + 1) 5 ls st σ k = (lI ls 1 fun x => xk_X7_reckon ct K R n 6 ls (vi x :: st) σ k) := exS_step.trans rfl
theorem ev_X7_reckon_6 {ct : Nat → Bool} {K : Kt} {R : Option AV → Hp → Prop} {n : Nat} {ls : List (Option AV)} {st : List AV} {σ : Hp} {k : Nat × Nat} : xe_X7_reckon ct K R (n + 1) 6 ls st σ k = (oI st fun x st => 4 < 7 ∧ xk_X7_reckon ct K R n 8 (stL ls 4 (vi x)) st σ k) := exS_step.trans rfl
theorem ev_X7_reckon_8 {ct : Nat → Bool} {K : Kt} {R : Option AV → Hp → Prop} {n : Nat} {ls : List (Option AV)} {st : List AV} {σ : Hp} {k : Nat × Nat} : xe_X7_reckon ct K R (n + 1) 8 ls st σ k = (lI ls 4 fun x => xk_X7_reckon ct K R n 10 ls (vi x :: st) σ k) := exS_step.trans rfl
theorem ev_X7_reckon_10 {ct : Nat → Bool} {K : Kt} {R : Option AV → Hp → Prop} {n : Nat} {ls : List (Option AV)} {st : List AV} {σ : Hp} {k : Nat × Nat} : xe_X7_reckon ct K R (n + 1) 10 ls st σ k = (oI st fun x st => (wI x < wI 0 → xk_X7_reckon ct K R n 140 ls st σ k) ∧ (¬ (wI x < wI 0) → xk_X7_reckon ct K R n 13 ls st σ k)) := exS_step.trans rfl
theorem ev_X7_reckon_13 {ct : Nat → Bool} {K : Kt} {R : Option AV → Hp → Prop} {n : Nat} {ls : List (Option AV)} {st : List AV} {σ : Hp} {k : Nat × Nat} : xe_X7_reckon ct K R (n + 1) 13 ls st σ k = (lI ls 4 fun x => xk_X7_reckon ct K R n 15 ls (vi x :: st) σ k) := exS_step.trans rfl
theorem ev_X7_reckon_15 {ct : Nat → Bool} {K : Kt} {R : Option AV → Hp → Prop} {n : Nat} {ls : List (Option AV)} {st : List AV} {σ : Hp} {k : Nat × Nat} : xe_X7_reckon ct K R (n + 1) 15 ls st σ k = (lI ls 2 fun x => xk_X7_reckon ct K R n 16 ls (vi x :: st) σ k) := exS_step.trans rfl
theorem ev_X7_reckon_16 {ct : Nat → Bool} {K : Kt} {R : Option AV → Hp → Prop} {n : Nat} {ls : List (Option AV)} {st : List AV} {σ : Hp} {k : Nat × Nat} : xe_X7_reckon ct K R (n + 1) 16 ls st σ k = (oI st fun y st => oI st fun x st => (wI y ≤ wI x → xk_X7_reckon ct K R n 140 ls st σ k) ∧ (¬ (wI y ≤ wI x) → xk_X7_reckon ct K R n 19 ls st σ k)) := exS_step.trans rfl
theorem ev_X7_reckon_19 {ct : Nat → Bool} {K : Kt} {R : Option AV → Hp → Prop} {n : Nat} {ls : List (Option AV)} {st : List AV} {σ : Hp} {k : Nat × Nat} : xe_X7_reckon ct K R (n + 1) 19 ls st σ k = (lI ls 4 fun x => xk_X7_reckon ct K R n 21 ls (vi x :: st) σ k) := exS_step.trans rfl
theorem ev_X7_reckon_21 {ct : Nat → Bool} {K : Kt} {R : Option AV → Hp → Prop} {n : Nat} {ls : List (Option AV)} {st : List AV} {σ : Hp} {k : Nat × Nat} : xe_X7_reckon ct K R (n + 1) 21 ls st σ k = (lR ls 0 fun x => xk_X7_reckon ct K R n 22 ls (vr x :: st) σ k) := exS_step.trans rfl
theorem ev_X7_reckon_22 {ct : Nat → Bool} {K : Kt} {R : Option AV → Hp → Prop} {n : Nat} {ls : List (Option AV)} {st : List AV} {σ : Hp} {k : Nat × Nat} : xe_X7_reckon ct K R (n + 1) 22 ls st σ k = (oR st fun x st => kd σ x = 8 ∧ xk_X7_reckon ct K R n 25 ls (vr (fR σ 803 x) :: st) σ k) := exS_step.trans rfl
theorem ev_X7_reckon_25 {ct : Nat → Bool} {K : Kt} {R : Option AV → Hp → Prop} {n : Nat} {ls : List (Option AV)} {st : List AV} {σ : Hp} {k : Nat × Nat} : xe_X7_reckon ct K R (n + 1) 25 ls st σ k = (oR st fun x st => (101 ≤ kd σ x ∨ kd σ x = 21) ∧ xk_X7_reckon ct K R n 26 ls (vi (ln σ x) :: st) σ k) := exS_step.trans rfl
theorem ev_X7_reckon_26 {ct : Nat → Bool} {K : Kt} {R : Option AV → Hp → Prop} {n : Nat} {ls : List (Option AV)} {st : List AV} {σ : Hp} {k : Nat × Nat} : xe_X7_reckon ct K R (n + 1) 26 ls st σ k = (oI st fun y st => oI st fun x st => (wI y ≤ wI x → xk_X7_reckon ct K R n 140 ls st σ k) ∧ (¬ (wI y ≤ wI x) → xk_X7_reckon ct K R n 29 ls st σ k)) := exS_step.trans rfl
theorem ev_X7_reckon_29 {ct : Nat → Bool} {K : Kt} {R : Option AV → Hp → Prop} {n : Nat} {ls : List (Option AV)} {st : List AV} {σ : Hp} {k : Nat × Nat} : xe_X7_reckon ct K R (n + 1) 29 ls st σ k = (lR ls 0 fun x => xk_X7_reckon ct K R n 30 ls (vr x :: st) σ k) := exS_step.trans rfl
theorem ev_X7_reckon_30 {ct : Nat → Bool} {K : Kt} {R : Option AV → Hp → Prop} {n : Nat} {ls : List (Option AV)} {st : List AV} {σ : Hp} {k : Nat × Nat} : xe_X7_reckon ct K R (n + 1) 30 ls st σ k = (oR st fun x st => kd σ x = 8 ∧ xk_X7_reckon ct K R n 33 ls (vr (fR σ 803 x) :: st) σ k) := exS_step.trans rfl
theorem ev_X7_reckon_33 {ct : Nat → Bool} {K : Kt} {R : Option AV → Hp → Prop} {n : Nat} {ls : List (Option AV)} {st : List AV} {σ : Hp} {k : Nat × Nat} : xe_X7_reckon ct K R (n + 1) 33 ls st σ k = (lI ls 4 fun x => xk_X7_reckon ct K R n 35 ls (vi x :: st) σ k) := exS_step.trans rfl
theorem ev_X7_reckon_35 {ct : Nat → Bool} {K : Kt} {R : Option AV → Hp → Prop} {n : Nat} {ls : List (Option AV)} {st : List AV} {σ : Hp} {k : Nat × Nat} : xe_X7_reckon ct K R (n + 1) 35 ls st σ k = (oI st fun j st => oR st fun x st => (kd σ x = 101 ∨ kd σ x = 108) ∧ (0 ≤ j ∧ j < ln σ x) ∧ xk_X7_reckon ct K R n 36 ls (vi (aI σ x j) :: st) σ k) := exS_step.trans rfl
theorem ev_X7_reckon_36 {ct : Nat → Bool} {K : Kt} {R : Option AV → Hp → Prop} {n : Nat} {ls : List (Option AV)} {st : List AV} {σ : Hp} {k : Nat × Nat} : xe_X7_reckon ct K R (n + 1) 36 ls st σ k = (oI st fun x st => 5 < 7 ∧ xk_X7_reckon ct K R n 38 (stL ls 5 (vi x)) st σ k) := exS_step.trans rfl
theorem ev_X7_reckon_38 {ct : Nat → Bool} {K : Kt} {R : Option AV → Hp → Prop} {n : Nat} {ls : List (Option AV)} {st : List AV} {σ : Hp} {k : Nat × Nat} : xe_X7_reckon ct K R (n + 1) 38 ls st σ k = (lI ls 5 fun x => xk_X7_reckon ct K R n 40 ls (vi x :: st) σ k) := exS_step.trans rfl
theorem ev_X7_reckon_40 {ct : Nat → Bool} {K : Kt} {R : Option AV → Hp → Prop} {n : Nat} {ls : List (Option AV)} {st : List AV} {σ : Hp} {k : Nat × Nat} : xe_X7_reckon ct K R (n + 1) 40 ls st σ k = (oI st fun x st => (wI x < wI 0 → xk_X7_reckon ct K R n 52 ls st σ k) ∧ (¬ (wI x < wI 0) → xk_X7_reckon ct K R n 43 ls st σ k)) := exS_step.trans rfl
theorem ev_X7_reckon_43 {ct : Nat → Bool} {K : Kt} {R : Option AV → Hp → Prop} {n : Nat} {ls : List (Option AV)} {st : List AV} {σ : Hp} {k : Nat × Nat} : xe_X7_reckon ct K R (n + 1) 43 ls st σ k = (lR ls 0 fun x => xk_X7_reckon ct K R n 44 ls (vr x :: st) σ k) := exS_step.trans rfl
theorem ev_X7_reckon_44 {ct : Nat → Bool} {K : Kt} {R : Option AV → Hp → Prop} {n : Nat} {ls : List (Option AV)} {st : List AV} {σ : Hp} {k : Nat × Nat} : xe_X7_reckon ct K R (n + 1) 44 ls st σ k = (lI ls 5 fun x => xk_X7_reckon ct K R n 46 ls (vi x :: st) σ k) := exS_step.trans rfl
theorem ev_X7_reckon_46 {ct : Nat → Bool} {K : Kt} {R : Option AV → Hp → Prop} {n : Nat} {ls : List (Option AV)} {st : List AV} {σ : Hp} {k : Nat × Nat} : xe_X7_reckon ct K R (n + 1) 46 ls st σ k = (popN 2 st [] fun av rest => (catS rest ≤ 8 ∧ 1 < 2 ∧ k.1 + 0 ≤ 0 ∧ k.2 + 0 ≤ 0) ∧ (sp_X7_push) av σ fun v σ' => xk_X7_reckon ct K R n 49 ls (v.toList ++ rest) σ' (k.1 + 0, k.2 + 0)) := exS_step.trans rfl
theorem ev_X7_reckon_49 {ct : Nat → Bool} {K : Kt} {R : Option AV → Hp → Prop} {n : Nat} {ls : List (Option AV)} {st : List AV} {σ : Hp} {k : Nat × Nat} : xe_X7_reckon ct K R (n + 1) 49 ls st σ k = (xk_X7_reckon ct K R n 134 ls st σ k) := exS_step.trans rfl
theorem ev_X7_reckon_52 {ct : Nat → Bool} {K : Kt} {R : Option AV → Hp → Prop} {n : Nat} {ls : List (Option AV)} {st : List AV} {σ : Hp} {k : Nat × Nat} : xe_X7_reckon ct K R (n + 1) 52 ls st σ k = (lI ls 5 fun x => xk_X7_reckon ct K R n 54 ls (vi x :: st) σ k) := exS_step.trans rfl
theorem ev_X7_reckon_54 {ct : Nat → Bool} {K : Kt} {R : Option AV → Hp → Prop} {n : Nat} {ls : List (Option AV)} {st : List AV} {σ : Hp} {k : Nat × Nat} : xe_X7_reckon ct K R (n + 1) 54 ls st σ k = (xk_X7_reckon ct K R n 56 ls (vi (-10) :: st) σ k) := exS_step.trans rfl
theorem ev_X7_reckon_56 {ct : Nat → Bool} {K : Kt} {R : Option AV → Hp → Prop} {n : Nat} {ls : List (Option AV)} {st : List AV} {σ : Hp} {k : Nat × Nat} : xe_X7_reckon ct K R (n + 1) 56 ls st σ k = (oI st fun y st => oI st fun x st => (wI y < wI x → xk_X7_reckon ct K R n 88 ls st σ k) ∧ (¬ (wI y < wI x) → xk_X7_reckon ct K R n 59 ls st σ k)) := exS_step.trans rfl
theorem ev_X7_reckon_59 {ct : Nat → Bool} {K : Kt} {R : Option AV → Hp → Prop} {n : Nat} {ls : List (Option AV)} {st : List AV} {σ : Hp} {k : Nat × Nat} : xe_X7_reckon ct K R (n + 1) 59 ls st σ k = (xk_X7_reckon ct K R n 61 ls (vi (-10) :: st) σ k) := exS_step.trans rfl
theorem ev_X7_reckon_61 {ct : Nat → Bool} {K : Kt} {R : Option AV → Hp → Prop} {n : Nat} {ls : List (Option AV)} {st : List AV} {σ : Hp} {k : Nat × Nat} : xe_X7_reckon ct K R (n + 1) 61 ls st σ k = (lI ls 5 fun x => xk_X7_reckon ct K R n 63 ls (vi x :: st) σ k) := exS_step.trans rfl
theorem ev_X7_reckon_63 {ct : Nat → Bool} {K : Kt} {R : Option AV → Hp → Prop} {n : Nat} {ls : List (Option AV)} {st : List AV} {σ : Hp} {k : Nat × Nat} : xe_X7_reckon ct K R (n + 1) 63 ls st σ k = (oI st fun y st => oI st fun x st => xk_X7_reckon ct K R n 64 ls (vi (x - y) :: st) σ k) := exS_step.trans rfl
theorem ev_X7_reckon_64 {ct : Nat → Bool} {K : Kt} {R : Option AV → Hp → Prop} {n : Nat} {ls : List (Option AV)} {st : List AV} {σ : Hp} {k : Nat × Nat} : xe_X7_reckon ct K R (n + 1) 64 ls st σ k = (oI st fun x st => 6 < 7 ∧ xk_X7_reckon ct K R n 66 (stL ls 6 (vi x)) st σ k) := exS_step.trans rfl
theorem ev_X7_reckon_66 {ct : Nat → Bool} {K : Kt} {R : Option AV → Hp → Prop} {n : Nat} {ls : List (Option AV)} {st : List AV} {σ : Hp} {k : Nat × Nat} : xe_X7_reckon ct K R (n + 1) 66 ls st σ k = (lR ls 0 fun x => xk_X7_reckon ct K R n 67 ls (vr x :: st) σ k) := exS_step.trans rfl
theorem ev_X7_reckon_67 {ct : Nat → Bool} {K : Kt} {R : Option AV → Hp → Prop} {n : Nat} {ls : List (Option AV)} {st : List AV} {σ : Hp} {k : Nat × Nat} : xe_X7_reckon ct K R (n + 1) 67 ls st σ k = (lI ls 6 fun x => xk_X7_reckon ct K R n 69 ls (vi x :: st) σ k) := exS_step.trans rfl
theorem ev_X7_reckon_69 {ct : Nat → Bool} {K : Kt} {R : Option AV → Hp → Prop} {n : Nat} {ls : List (Option AV)} {st : List AV} {σ : Hp} {k : Nat × Nat} : xe_X7_reckon ct K R (n + 1) 69 ls st σ k = (lR ls 3 fun x => xk_X7_reckon ct K R n 70 ls (vr x :: st) σ k) := exS_step.trans rfl
theorem ev_X7_reckon_70 {ct : Nat → Bool} {K : Kt} {R : Option AV → Hp → Prop} {n : Nat} {ls : List (Option AV)} {st : List AV} {σ : Hp} {k : Nat × Nat} : xe_X7_reckon ct K R (n + 1) 70 ls st σ k = (oR st fun x st => (101 ≤ kd σ x ∨ kd σ x = 21) ∧ xk_X7_reckon ct K R n 71 ls (vi (ln σ x) :: st) σ k) := exS_step.trans rfl
theorem ev_X7_reckon_71 {ct : Nat → Bool} {K : Kt} {R : Option AV → Hp → Prop} {n : Nat} {ls : List (Option AV)} {st : List AV} {σ : Hp} {k : Nat × Nat} : xe_X7_reckon ct K R (n + 1) 71 ls st σ k = (oI st fun y st => oI st fun x st => (wI y ≤ wI x → xk_X7_reckon ct K R n 81 ls st σ k) ∧ (¬ (wI y ≤ wI x) → xk_X7_reckon ct K R n 74 ls st σ k)) := exS_step.trans rfl
theorem ev_X7_reckon_74 {ct : Nat → Bool} {K : Kt} {R : Option AV → Hp → Prop} {n : Nat} {ls : List (Option AV)} {st : List AV} {σ : Hp} {k : Nat × Nat} : xe_X7_reckon ct K R (n + 1) 74 ls st σ k = (lR ls 3 fun x => xk_X7_reckon ct K R n 75 ls (vr x :: st) σ k) := exS_step.trans rfl
theorem ev_X7_reckon_75 {ct : Nat → Bool} {K : Kt} {R : Option AV → Hp → Prop} {n : Nat} {ls : List (Option AV)} {st : List AV} {σ : Hp} {k : Nat × Nat} : xe_X7_reckon ct K R (n + 1) 75 ls st σ k = (lI ls 6 fun x => xk_X7_reckon ct K R n 77 ls (vi x :: st) σ k) := exS_step.trans rfl
theorem ev_X7_reckon_77 {ct : Nat → Bool} {K : Kt} {R : Option AV → Hp → Prop} {n : Nat} {ls : List (Option AV)} {st : List AV} {σ : Hp} {k : Nat × Nat} : xe_X7_reckon ct K R (n + 1) 77 ls st σ k = (oI st fun j st => oR st fun x st => (kd σ x = 101 ∨ kd σ x = 108) ∧ (0 ≤ j ∧ j < ln σ x) ∧ xk_X7_reckon ct K R n 78 ls (vi (aI σ x j) :: st) σ k) := exS_step.trans rfl
theorem ev_X7_reckon_78 {ct : Nat → Bool} {K : Kt} {R : Option AV → Hp → Prop} {n : Nat} {ls : List (Option AV)} {st : List AV} {σ : Hp} {k : Nat × Nat} : xe_X7_reckon ct K R (n + 1) 78 ls st σ k = (xk_X7_reckon ct K R n 82 ls st σ k) := exS_step.trans rfl
theorem ev_X7_reckon_81 {ct : Nat → Bool} {K : Kt} {R : Option AV → Hp → Prop} {n : Nat} {ls : List (Option AV)} {st : List AV} {σ : Hp} {k : Nat × Nat} : xe_X7_reckon ct K R (n + 1) 81 ls st σ k = (xk_X7_reckon ct K R n 82 ls (vi (0) :: st) σ k) := exS_step.trans rfl
theorem ev_X7_reckon_82 {ct : Nat → Bool} {K : Kt} {R : Option AV → Hp → Prop} {n : Nat} {ls : List (Option AV)} {st : List AV} {σ : Hp} {k : Nat × Nat} : xe_X7_reckon ct K R (n + 1) 82 ls st σ k = (popN 2 st [] fun av rest => (catS rest ≤ 8 ∧ 1 < 2 ∧ k.1 + 0 ≤ 0 ∧ k.2 + 0 ≤ 0) ∧ (sp_X7_push) av σ fun v σ' => xk_X7_reckon ct K R n 85 ls (v.toList ++ rest) σ' (k.1 + 0, k.2 + 0)) := exS_step.trans rfl
theorem ev_X7_reckon_85 {ct : Nat → Bool} {K : Kt} {R : Option AV → Hp → Prop} {n : Nat} {ls : List (Option AV)} {st : List AV} {σ : Hp} {k : Nat × Nat} : xe_X7_reckon ct K R (n + 1) 85 ls st σ k = (xk_X7_reckon ct K R n 134 ls st σ k) := exS_step.trans rfl
theorem ev_X7_reckon_88 {ct : Nat → Bool} {K : Kt} {R : Option AV → Hp → Prop} {n : Nat} {ls : List (Option AV)} {st : List AV} {σ : Hp} {k : Nat × Nat} : xe_X7_reckon ct K R (n + 1) 88 ls st σ k = (lI ls 5 fun x => xk_X7_reckon ct K R n 90 ls (vi x :: st) σ k) := exS_step.trans rfl
theorem ev_X7_reckon_90 {ct : Nat → Bool} {K : Kt} {R : Option AV → Hp → Prop} {n : Nat} {ls : List (Option AV)} {st : List AV} {σ : Hp} {k : Nat × Nat} : xe_X7_reckon ct K R (n + 1) 90 ls st σ k = (xk_X7_reckon ct K R n 91 ls (vi (-1) :: st) σ k) := exS_step.trans rfl
theorem ev_X7_reckon_91 {ct : Nat → Bool} {K : Kt} {R : Option AV → Hp → Prop} {n : Nat} {ls : List (Option AV)} {st : List AV} {σ : Hp} {k : Nat × Nat} : xe_X7_reckon ct K R (n + 1) 91 ls st σ k = (oI st fun y st => oI st fun x st => (¬ wI x = wI y → xk_X7_reckon ct K R n 113 ls st σ k) ∧ (¬ (¬ wI x = wI y) → xk_X7_reckon ct K R n 94 ls st σ k)) := exS_step.trans rfl
theorem ev_X7_reckon_94 {ct : Nat → Bool} {K : Kt} {R : Option AV → Hp → Prop} {n : Nat} {ls : List (Option AV)} {st : List AV} {σ : Hp} {k : Nat × Nat} : xe_X7_reckon ct K R (n + 1) 94 ls st σ k = (lR ls 0 fun x => xk_X7_reckon ct K R n 95 ls (vr x :: st) σ k) := exS_step.trans rfl
theorem ev_X7_reckon_95 {ct : Nat → Bool} {K : Kt} {R : Option AV → Hp → Prop} {n : Nat} {ls : List (Option AV)} {st : List AV} {σ : Hp} {k : Nat × Nat} : xe_X7_reckon ct K R (n + 1) 95 ls st σ k = (lR ls 0 fun x => xk_X7_reckon ct K R n 96 ls (vr x :: st) σ k) := exS_step.trans rfl
theorem ev_X7_reckon_96 {ct : Nat → Bool} {K : Kt} {R : Option AV → Hp → Prop} {n : Nat} {ls : List (Option AV)} {st : List AV} {σ : Hp} {k : Nat × Nat} : xe_X7_reckon ct K R (n + 1) 96 ls st σ k = (popN 1 st [] fun av rest => (catS rest ≤ 8 ∧ 1 < 2 ∧ k.1 + 0 ≤ 0 ∧ k.2 + 0 ≤ 0) ∧ (sp_X7_pop) av σ fun v σ' => xk_X7_reckon ct K R n 99 ls (v.toList ++ rest) σ' (k.1 + 0, k.2 + 0)) := exS_step.trans rfl
theorem ev_X7_reckon_99 {ct : Nat → Bool} {K : Kt} {R : Option AV → Hp → Prop} {n : Nat} {ls : List (Option AV)} {st : List AV} {σ : Hp} {k : Nat × Nat} : xe_X7_reckon ct K R (n + 1) 99 ls st σ k = (oI st fun x st => (¬ wI x = wI 0 → xk_X7_reckon ct K R n 106 ls st σ k) ∧ (¬ (¬ wI x = wI 0) → xk_X7_reckon ct K R n 102 ls st σ k)) := exS_step.trans rfl
theorem ev_X7_reckon_102 {ct : Nat → Bool} {K : Kt} {R : Option AV → Hp → Prop} {n : Nat} {ls : List (Option AV)} {st : List AV} {σ : Hp} {k : Nat × Nat} : xe_X7_reckon ct K R (n + 1) 102 ls st σ k = (xk_X7_reckon ct K R n 103 ls (vi (1) :: st) σ k) := exS_step.trans rfl
theorem ev_X7_reckon_103 {ct : Nat → Bool} {K : Kt} {R : Option AV → Hp → Prop} {n : Nat} {ls : List (Option AV)} {st : List AV} {σ : Hp} {k : Nat × Nat} : xe_X7_reckon ct K R (n + 1) 103 ls st σ k = (xk_X7_reckon ct K R n 107 ls st σ k) := exS_step.trans rfl
theorem ev_X7_reckon_106 {ct : Nat → Bool} {K : Kt} {R : Option AV → Hp → Prop} {n : Nat} {ls : List (Option AV)} {st : List AV} {σ : Hp} {k : Nat × Nat} : xe_X7_reckon ct K R (n + 1) 106 ls st σ k = (xk_X7_reckon ct K R n 107 ls (vi (0) :: st) σ k) := exS_step.trans rfl
theorem ev_X7_reckon_107 {ct : Nat → Bool} {K : Kt} {R : Option AV → Hp → Prop} {n : Nat} {ls : List (Option AV)} {st : List AV} {σ : Hp} {k : Nat × Nat} : xe_X7_reckon ct K R (n + 1) 107 ls st σ k = (popN 2 st [] fun av rest => (catS rest ≤ 8 ∧ 1 < 2 ∧ k.1 + 0 ≤ 0 ∧ k.2 + 0 ≤ 0) ∧ (sp_X7_push) av σ fun v σ' => xk_X7_reckon ct K R n 110 ls (v.toList ++ rest) σ' (k.1 + 0, k.2 + 0)) := exS_step.trans rfl
theorem ev_X7_reckon_110 {ct : Nat → Bool} {K : Kt} {R : Option AV → Hp → Prop} {n : Nat} {ls : List (Option AV)} {st : List AV} {σ : Hp} {k : Nat × Nat} : xe_X7_reckon ct K R (n + 1) 110 ls st σ k = (xk_X7_reckon ct K R n 134 ls st σ k) := exS_step.trans rfl
theorem ev_X7_reckon_113 {ct : Nat → Bool} {K : Kt} {R : Option AV → Hp → Prop} {n : Nat} {ls : List (Option AV)} {st : List AV} {σ : Hp} {k : Nat × Nat} : xe_X7_reckon ct K R (n + 1) 113 ls st σ k = (lR ls 0 fun x => xk_X7_reckon ct K R n 114 ls (vr x :: st) σ k) := exS_step.trans rfl
theorem ev_X7_reckon_114 {ct : Nat → Bool} {K : Kt} {R : Option AV → Hp → Prop} {n : Nat} {ls : List (Option AV)} {st : List AV} {σ : Hp} {k : Nat × Nat} : xe_X7_reckon ct K R (n + 1) 114 ls st σ k = (popN 1 st [] fun av rest => (catS rest ≤ 8 ∧ 1 < 2 ∧ k.1 + 0 ≤ 0 ∧ k.2 + 0 ≤ 0) ∧ (sp_X7_pop) av σ fun v σ' => xk_X7_reckon ct K R n 117 ls (v.toList ++ rest) σ' (k.1 + 0, k.2 + 0)) := exS_step.trans rfl
theorem ev_X7_reckon_117 {ct : Nat → Bool} {K : Kt} {R : Option AV → Hp → Prop} {n : Nat} {ls : List (Option AV)} {st : List AV} {σ : Hp} {k : Nat × Nat} : xe_X7_reckon ct K R (n + 1) 117 ls st σ k = (oI st fun x st => 6 < 7 ∧ xk_X7_reckon ct K R n 119 (stL ls 6 (vi x)) st σ k) := exS_step.trans rfl
theorem ev_X7_reckon_119 {ct : Nat → Bool} {K : Kt} {R : Option AV → Hp → Prop} {n : Nat} {ls : List (Option AV)} {st : List AV} {σ : Hp} {k : Nat × Nat} : xe_X7_reckon ct K R (n + 1) 119 ls st σ k = (lR ls 0 fun x => xk_X7_reckon ct K R n 120 ls (vr x :: st) σ k) := exS_step.trans rfl
theorem ev_X7_reckon_120 {ct : Nat → Bool} {K : Kt} {R : Option AV → Hp → Prop} {n : Nat} {ls : List (Option AV)} {st : List AV} {σ : Hp} {k : Nat × Nat} : xe_X7_reckon ct K R (n + 1) 120 ls st σ k = (lI ls 5 fun x => xk_X7_reckon ct K R n 122 ls (vi x :: st) σ k) := exS_step.trans rfl
theorem ev_X7_reckon_122 {ct : Nat → Bool} {K : Kt} {R : Option AV → Hp → Prop} {n : Nat} {ls : List (Option AV)} {st : List AV} {σ : Hp} {k : Nat × Nat} : xe_X7_reckon ct K R (n + 1) 122 ls st σ k = (lR ls 0 fun x => xk_X7_reckon ct K R n 123 ls (vr x :: st) σ k) := exS_step.trans rfl
theorem ev_X7_reckon_123 {ct : Nat → Bool} {K : Kt} {R : Option AV → Hp → Prop} {n : Nat} {ls : List (Option AV)} {st : List AV} {σ : Hp} {k : Nat × Nat} : xe_X7_reckon ct K R (n + 1) 123 ls st σ k = (popN 1 st [] fun av rest => (catS rest ≤ 8 ∧ 1 < 2 ∧ k.1 + 0 ≤ 0 ∧ k.2 + 0 ≤ 0) ∧ (sp_X7_pop) av σ fun v σ' => xk_X7_reckon ct K R n 126 ls (v.toList ++ rest) σ' (k.1 + 0, k.2 + 0)) := exS_step.trans rfl
theorem ev_X7_reckon_126 {ct : Nat → Bool} {K : Kt} {R : Option AV → Hp → Prop} {n : Nat} {ls : List (Option AV)} {st : List AV} {σ : Hp} {k : Nat × Nat} : xe_X7_reckon ct K R (n + 1) 126 ls st σ k = (lI ls 6 fun x => xk_X7_reckon ct K R n 128 ls (vi x :: st) σ k) := exS_step.trans rfl
theorem ev_X7_reckon_128 {ct : Nat → Bool} {K : Kt} {R : Option AV → Hp → Prop} {n : Nat} {ls : List (Option AV)} {st : List AV} {σ : Hp} {k : Nat × Nat} : xe_X7_reckon ct K R (n + 1) 128 ls st σ k = (popN 3 st [] fun av rest => (catS rest ≤ 8 ∧ 1 < 2 ∧ k.1 + 0 ≤ 0 ∧ k.2 + 0 ≤ 0) ∧ (sp_X7_joined) av σ fun v σ' => xk_X7_reckon ct K R n 131 ls (v.toList ++ rest) σ' (k.1 + 0, k.2 + 0)) := exS_step.trans rfl
theorem ev_X7_reckon_131 {ct : Nat → Bool} {K : Kt} {R : Option AV → Hp → Prop} {n : Nat} {ls : List (Option AV)} {st : List AV} {σ : Hp} {k : Nat × Nat} : xe_X7_reckon ct K R (n + 1) 131 ls st σ k = (popN 2 st [] fun av rest => (catS rest ≤ 8 ∧ 1 < 2 ∧ k.1 + 0 ≤ 0 ∧ k.2 + 0 ≤ 0) ∧ (sp_X7_push) av σ fun v σ' => xk_X7_reckon ct K R n 134 ls (v.toList ++ rest) σ' (k.1 + 0, k.2 + 0)) := exS_step.trans rfl
theorem ev_X7_reckon_134 {ct : Nat → Bool} {K : Kt} {R : Option AV → Hp → Prop} {n : Nat} {ls : List (Option AV)} {st : List AV} {σ : Hp} {k : Nat × Nat} : xe_X7_reckon ct K R (n + 1) 134 ls st σ k = (lI ls 4 fun x => 4 < 7 ∧ xk_X7_reckon ct K R n 137 (stL ls 4 (vi (x + (1)))) st σ k) := exS_step.trans rfl
theorem ev_X7_reckon_137 {ct : Nat → Bool} {K : Kt} {R : Option AV → Hp → Prop} {n : Nat} {ls : List (Option AV)} {st : List AV} {σ : Hp} {k : Nat × Nat} : xe_X7_reckon ct K R (n + 1) 137 ls st σ k = (xk_X7_reckon ct K R n 8 ls st σ k) := exS_step.trans rfl
theorem ev_X7_reckon_140 {ct : Nat → Bool} {K : Kt} {R : Option AV → Hp → Prop} {n : Nat} {ls : List (Option AV)} {st : List AV} {σ : Hp} {k : Nat × Nat} : xe_X7_reckon ct K R (n + 1) 140 ls st σ k = (lR ls 0 fun x => xk_X7_reckon ct K R n 141 ls (vr x :: st) σ k) := exS_step.trans rfl
theorem ev_X7_reckon_141 {ct : Nat → Bool} {K : Kt} {R : Option AV → Hp → Prop} {n : Nat} {ls : List (Option AV)} {st : List AV} {σ : Hp} {k : Nat × Nat} : xe_X7_reckon ct K R (n + 1) 141 ls st σ k = (popN 1 st [] fun av rest => (catS rest ≤ 8 ∧ 1 < 2 ∧ k.1 + 0 ≤ 0 ∧ k.2 + 0 ≤ 0) ∧ (sp_X7_pop) av σ fun v σ' => xk_X7_reckon ct K R n 144 ls (v.toList ++ rest) σ' (k.1 + 0, k.2 + 0)) := exS_step.trans rfl
theorem ev_X7_reckon_144 {ct : Nat → Bool} {K : Kt} {R : Option AV → Hp → Prop} {n : Nat} {ls : List (Option AV)} {st : List AV} {σ : Hp} {k : Nat × Nat} : xe_X7_reckon ct K R (n + 1) 144 ls st σ k = (oI st fun x st => st = [] ∧ True ∧ R (some (vi x)) σ) := exS_step.trans rfl
def M_X7_reckon : Md := (yX7_reckon, cX7_reckon, 7, (some FieldType.int), 2, 0, 0, 1, false, tb_X7_reckon, mt_X7_reckon)
theorem mm_X7_reckon : MMOK M_X7_reckon := ⟨by decide +kernel, tk_X7_reckon, mk_X7_reckon, rfl, fun h => by cases h⟩
theorem go_X7_reckon {Q : Option AV → Hp → Prop} {ct : Nat → Bool} {pc : Nat} {ls : List (Option AV)} {st : List AV} {σ : Hp} {k : Nat × Nat} (n : Nat) (h : xe_X7_reckon ct (Go M_X7_reckon Q) Q n pc ls st σ k) : Go M_X7_reckon Q pc ls st σ k := Go.exS mm_X7_reckon h

set_option maxRecDepth 20000 in
theorem rck_134 {Q : Option AV → Hp → Prop} {ρ : Hp} {D a b r i : Int} {a5 a6 : Option AV} (h : ∀ a5 a6, Go M_X7_reckon Q 8 [some (vr D), some (vi a), some (vi b), some (vr r), some (vi (i + 1)), a5, a6] [] ρ (0, 0)) (x5 : Int) (h5 : a5 = some (vi x5)) : Go M_X7_reckon Q 134 [some (vr D), some (vi a), some (vi b), some (vr r), some (vi i), a5, a6] [] ρ (0, 0) := by
  subst h5
  have h := h (some (vi x5)) a6
  refine go_X7_reckon (ct := fun p => p == 8) 20 ?_
  simp only [oI, oL, oR, o1, lI, lL, lR, popN, catS, gv, stL, stL2, swt, cnd, spObj, List.getElem?_cons_zero, List.getElem?_cons_succ, List.getD_cons_zero, List.getD_cons_succ, List.set_cons_zero, List.set_cons_succ, List.nil_append, List.cons_append, Option.toList, Bool.or_false, Bool.false_or, Bool.or_true, Bool.true_or, Nat.reduceBEq, Nat.reduceAdd, Nat.reduceLT, Nat.reduceLeDiff, Int.reduceAdd, Int.reduceToNat, true_and, and_true, Fin.isValue, Fin.val_zero, Fin.val_one, Fin.val_two, Fin.reduceFinMk, eq_self, Int.reduceNeg, imp_self, Nat.reduceMul, Nat.le_refl, not_true_eq_false, not_false_eq_true, List.getElem?_nil, reduceCtorEq, true_or, or_true, Classical.not_not, implies_true, or_self, wI_0, wI_1, wI_m1, b2i_w, b2i_eq0, b2i_eq1, b2i_bool, nor_self, nx_pI, kd_pI, ln_pI, fI_pI, fL_pI, fR_pI, aI_pI, aL_pI, aR_pI, nx_pL, kd_pL, ln_pL, fI_pL, fL_pL, fR_pL, aI_pL, aL_pL, aR_pL, nx_pR, kd_pR, ln_pR, fI_pR, fL_pR, fR_pR, aI_pR, aL_pR, aR_pR, nx_qI, kd_qI, ln_qI, fI_qI, fL_qI, fR_qI, aI_qI, aL_qI, aR_qI, nx_qL, kd_qL, ln_qL, fI_qL, fL_qL, fR_qL, aI_qL, aL_qL, aR_qL, nx_qR, kd_qR, ln_qR, fI_qR, fL_qR, fR_qR, aI_qR, aL_qR, aR_qR, nx_mk, kd_mk, ln_mk, fI_mk, fL_mk, fR_mk, aI_mk, aL_mk, aR_mk, false_and, and_false, if_false, if_true, and_self, Int.reduceEq, Nat.reduceEqDiff, ite_self, MLay_pI, MLay_pL, MLay_qI, MLay_qL, ev_X7_reckon_134, ev_X7_reckon_137, xt_X7_reckon, xf_X7_reckon, us_X7_push, us_X7_pop, us_X7_joined]
  exact h

set_option maxRecDepth 20000 in
theorem rck_8 {Q : Option AV → Hp → Prop} {σ : Hp} {D a b r v : Int} {f : Int → Int} (hr : kd σ r = 101 ∧ ln σ r = 7) (hrn : ¬ r = D + 5) (hb : b ≤ 1000) (hf : f = aI σ r) (h : ∀ σ', Fz dkF (fun r => r = D + 5) noR σ σ' → Q (some (vi v)) σ') : ∀ (cs : List Int) (i : Int) (s : List Int) (ρ : Hp) (a5 a6 : Option AV), 0 ≤ i → i + cs.length = b → (∀ (k : Nat) (c : Int), cs[k]? = some c → aI σ (D + 4) (i + k) = c) → okS f s cs → rnS f s cs = [v] → Fz dkF (fun r => r = D + 5) noR σ ρ → DkO ρ D → SkD ρ D s → Go M_X7_reckon Q 8 [some (vr D), some (vi a), some (vi b), some (vr r), some (vi i), a5, a6] [] ρ (0, 0) := by
  intro cs
  induction cs with
  | nil =>
    intro i s ρ a5 a6 h0 h1 hst hok hrn2 hz hD hS
    have e : s = [v] := hrn2
    subst e
    have hk := hD.1
    have hp := hS.pop
    have hh : fI ρ 806 D = 1 := hS.1
    have h := h _ (hz.tr (Fz_pop ρ))
    rw [← hp.2] at h
    rw [List.length_nil] at h1
    clear hok hrn2 hst hz hS hp
    rw [hh] at h
    refine go_X7_reckon (ct := fun p => p == 19) 40 ?_
    simp only [oI, oL, oR, o1, lI, lL, lR, popN, catS, gv, stL, stL2, swt, cnd, spObj, List.getElem?_cons_zero, List.getElem?_cons_succ, List.getD_cons_zero, List.getD_cons_succ, List.set_cons_zero, List.set_cons_succ, List.nil_append, List.cons_append, Option.toList, Bool.or_false, Bool.false_or, Bool.or_true, Bool.true_or, Nat.reduceBEq, Nat.reduceAdd, Nat.reduceLT, Nat.reduceLeDiff, Int.reduceAdd, Int.reduceToNat, true_and, and_true, Fin.isValue, Fin.val_zero, Fin.val_one, Fin.val_two, Fin.reduceFinMk, eq_self, Int.reduceNeg, imp_self, Nat.reduceMul, Nat.le_refl, not_true_eq_false, not_false_eq_true, List.getElem?_nil, reduceCtorEq, true_or, or_true, Classical.not_not, implies_true, or_self, wI_0, wI_1, wI_m1, b2i_w, b2i_eq0, b2i_eq1, b2i_bool, nor_self, nx_pI, kd_pI, ln_pI, fI_pI, fL_pI, fR_pI, aI_pI, aL_pI, aR_pI, nx_pL, kd_pL, ln_pL, fI_pL, fL_pL, fR_pL, aI_pL, aL_pL, aR_pL, nx_pR, kd_pR, ln_pR, fI_pR, fL_pR, fR_pR, aI_pR, aL_pR, aR_pR, nx_qI, kd_qI, ln_qI, fI_qI, fL_qI, fR_qI, aI_qI, aL_qI, aR_qI, nx_qL, kd_qL, ln_qL, fI_qL, fL_qL, fR_qL, aI_qL, aL_qL, aR_qL, nx_qR, kd_qR, ln_qR, fI_qR, fL_qR, fR_qR, aI_qR, aL_qR, aR_qR, nx_mk, kd_mk, ln_mk, fI_mk, fL_mk, fR_mk, aI_mk, aL_mk, aR_mk, false_and, and_false, if_false, if_true, and_self, Int.reduceEq, Nat.reduceEqDiff, ite_self, MLay_pI, MLay_pL, MLay_qI, MLay_qL, ev_X7_reckon_8, ev_X7_reckon_10, ev_X7_reckon_13, ev_X7_reckon_15, ev_X7_reckon_16, ev_X7_reckon_140, ev_X7_reckon_141, ev_X7_reckon_144, xt_X7_reckon, xf_X7_reckon, us_X7_push, us_X7_pop, us_X7_joined, hk, hD, hh]
    try simp (disch := omega) only [wI_id, dv_nn, rm_nn]
    repeat' (first | intro z | apply And.intro)
    all_goals try omega
    all_goals try contradiction
    all_goals exact h
  | cons c cs ih =>
    intro i s ρ a5 a6 h0 h1 hst hok hrn2 hz hD hS
    rw [List.length_cons] at h1
    have hc : aI σ (D + 4) i = c := by have := hst 0 c rfl; rw [show i + ((0 : Nat) : Int) = i by omega] at this; exact this
    have hcρ : aI ρ (D + 4) i = c := by rw [hz.aI (by omega)]; exact hc
    have hst2 : ∀ (k : Nat) (x : Int), cs[k]? = some x → aI σ (D + 4) (i + 1 + k) = x := fun k x hx => by
      have := hst (k + 1) x hx
      rw [show i + ((k + 1 : Nat) : Int) = i + 1 + k by omega] at this
      exact this
    obtain ⟨⟨o1, o2, o3, o4, o5, o6, o7, o8⟩, hok2⟩ := hok
    have hrn3 : rnS f (st1 f s c) cs = [v] := hrn2
    have hk := hD.1
    obtain ⟨-, ⟨-, -, -, g4, g5⟩, -, -, -, g9, -⟩ := id hD
    have hrk : kd ρ r = 101 ∧ ln ρ r = 7 := by rw [hz.kd, hz.ln]; exact hr
    have hfr : aI ρ r = f := by rw [hz.aI hrn, hf]
    have hlen := hS.1
    have nxt : ∀ ρ', Fz dkF (fun r => r = D + 5) noR ρ ρ' → SkD ρ' D (st1 f s c) → ∀ a6, Go M_X7_reckon Q 134 [some (vr D), some (vi a), some (vi b), some (vr r), some (vi i), some (vi c), a6] [] ρ' (0, 0) := fun ρ' z S a6 =>
      rck_134 (fun a5 a6 => ih (i + 1) (st1 f s c) ρ' a5 a6 (by omega) (by omega) hst2 hok2 hrn3 (hz.tr z) (hD.fz z (by decide)) S) c rfl
    have w38 : ∀ a6, Go M_X7_reckon Q 38 [some (vr D), some (vi a), some (vi b), some (vr r), some (vi i), some (vi c), a6] [] ρ (0, 0) := fun a6 => by
      by_cases c0 : 0 ≤ c
      · have w := nxt _ (Fz_push ρ c) (by unfold st1; rw [if_pos c0]; exact hS.push) a6
        have o4 := o4 c0
        clear ih nxt h hst hst2 hok2 hrn2 hrn3
        refine go_X7_reckon (ct := fun p => p == 134 || p == 52) 40 ?_
        simp only [oI, oL, oR, o1, lI, lL, lR, popN, catS, gv, stL, stL2, swt, cnd, spObj, List.getElem?_cons_zero, List.getElem?_cons_succ, List.getD_cons_zero, List.getD_cons_succ, List.set_cons_zero, List.set_cons_succ, List.nil_append, List.cons_append, Option.toList, Bool.or_false, Bool.false_or, Bool.or_true, Bool.true_or, Nat.reduceBEq, Nat.reduceAdd, Nat.reduceLT, Nat.reduceLeDiff, Int.reduceAdd, Int.reduceToNat, true_and, and_true, Fin.isValue, Fin.val_zero, Fin.val_one, Fin.val_two, Fin.reduceFinMk, eq_self, Int.reduceNeg, imp_self, Nat.reduceMul, Nat.le_refl, not_true_eq_false, not_false_eq_true, List.getElem?_nil, reduceCtorEq, true_or, or_true, Classical.not_not, implies_true, or_self, wI_0, wI_1, wI_m1, b2i_w, b2i_eq0, b2i_eq1, b2i_bool, nor_self, nx_pI, kd_pI, ln_pI, fI_pI, fL_pI, fR_pI, aI_pI, aL_pI, aR_pI, nx_pL, kd_pL, ln_pL, fI_pL, fL_pL, fR_pL, aI_pL, aL_pL, aR_pL, nx_pR, kd_pR, ln_pR, fI_pR, fL_pR, fR_pR, aI_pR, aL_pR, aR_pR, nx_qI, kd_qI, ln_qI, fI_qI, fL_qI, fR_qI, aI_qI, aL_qI, aR_qI, nx_qL, kd_qL, ln_qL, fI_qL, fL_qL, fR_qL, aI_qL, aL_qL, aR_qL, nx_qR, kd_qR, ln_qR, fI_qR, fL_qR, fR_qR, aI_qR, aL_qR, aR_qR, nx_mk, kd_mk, ln_mk, fI_mk, fL_mk, fR_mk, aI_mk, aL_mk, aR_mk, false_and, and_false, if_false, if_true, and_self, Int.reduceEq, Nat.reduceEqDiff, ite_self, MLay_pI, MLay_pL, MLay_qI, MLay_qL, ev_X7_reckon_38, ev_X7_reckon_40, ev_X7_reckon_43, ev_X7_reckon_44, ev_X7_reckon_46, ev_X7_reckon_49, xt_X7_reckon, xf_X7_reckon, us_X7_push, us_X7_pop, us_X7_joined, hk, hD]
        try simp (disch := omega) only [wI_id, dv_nn, rm_nn]
        repeat' (first | intro z | apply And.intro)
        all_goals try omega
        all_goals try contradiction
        all_goals exact w
      · by_cases c1 : c ≤ -10
        · have w := nxt _ (Fz_push ρ (f (-10 - c))) (by unfold st1; rw [if_neg c0, if_pos c1]; exact hS.push)
          have o5 := o5 c1
          clear ih nxt h hst hst2 hok2 hrn2 hrn3
          have w := w (some (vi (-10 - c)))
          refine go_X7_reckon (ct := fun p => p == 134 || p == 88 || p == 43 || p == 81) 40 ?_
          simp only [oI, oL, oR, o1, lI, lL, lR, popN, catS, gv, stL, stL2, swt, cnd, spObj, List.getElem?_cons_zero, List.getElem?_cons_succ, List.getD_cons_zero, List.getD_cons_succ, List.set_cons_zero, List.set_cons_succ, List.nil_append, List.cons_append, Option.toList, Bool.or_false, Bool.false_or, Bool.or_true, Bool.true_or, Nat.reduceBEq, Nat.reduceAdd, Nat.reduceLT, Nat.reduceLeDiff, Int.reduceAdd, Int.reduceToNat, true_and, and_true, Fin.isValue, Fin.val_zero, Fin.val_one, Fin.val_two, Fin.reduceFinMk, eq_self, Int.reduceNeg, imp_self, Nat.reduceMul, Nat.le_refl, not_true_eq_false, not_false_eq_true, List.getElem?_nil, reduceCtorEq, true_or, or_true, Classical.not_not, implies_true, or_self, wI_0, wI_1, wI_m1, b2i_w, b2i_eq0, b2i_eq1, b2i_bool, nor_self, nx_pI, kd_pI, ln_pI, fI_pI, fL_pI, fR_pI, aI_pI, aL_pI, aR_pI, nx_pL, kd_pL, ln_pL, fI_pL, fL_pL, fR_pL, aI_pL, aL_pL, aR_pL, nx_pR, kd_pR, ln_pR, fI_pR, fL_pR, fR_pR, aI_pR, aL_pR, aR_pR, nx_qI, kd_qI, ln_qI, fI_qI, fL_qI, fR_qI, aI_qI, aL_qI, aR_qI, nx_qL, kd_qL, ln_qL, fI_qL, fL_qL, fR_qL, aI_qL, aL_qL, aR_qL, nx_qR, kd_qR, ln_qR, fI_qR, fL_qR, fR_qR, aI_qR, aL_qR, aR_qR, nx_mk, kd_mk, ln_mk, fI_mk, fL_mk, fR_mk, aI_mk, aL_mk, aR_mk, false_and, and_false, if_false, if_true, and_self, Int.reduceEq, Nat.reduceEqDiff, ite_self, MLay_pI, MLay_pL, MLay_qI, MLay_qL, ev_X7_reckon_38, ev_X7_reckon_40, ev_X7_reckon_43, ev_X7_reckon_44, ev_X7_reckon_46, ev_X7_reckon_49, ev_X7_reckon_52, ev_X7_reckon_54, ev_X7_reckon_56, ev_X7_reckon_59, ev_X7_reckon_61, ev_X7_reckon_63, ev_X7_reckon_64, ev_X7_reckon_66, ev_X7_reckon_67, ev_X7_reckon_69, ev_X7_reckon_70, ev_X7_reckon_71, ev_X7_reckon_74, ev_X7_reckon_75, ev_X7_reckon_77, ev_X7_reckon_78, ev_X7_reckon_81, ev_X7_reckon_82, ev_X7_reckon_85, xt_X7_reckon, xf_X7_reckon, us_X7_push, us_X7_pop, us_X7_joined, hk, hD, hrk, hfr]
          try simp (disch := omega) only [wI_id, dv_nn, rm_nn]
          repeat' (first | intro z | apply And.intro)
          all_goals try omega
          all_goals try contradiction
          all_goals exact w
        · by_cases c2 : c = -1
          · have o6 := o6 c2
            match s, hS, nxt, o6, hlen with
            | x :: t, hS, nxt, o6, hlen =>
              have hp := hS.pop
              have hSt : st1 f (x :: t) c = (if wI x = 0 then 1 else 0) :: t := by unfold st1; rw [if_neg c0, if_neg c1, if_pos c2]
              rw [hSt] at nxt
              have w := nxt _ ((Fz_pop ρ).tr (Fz_push _ (if wI x = 0 then 1 else 0))) (hp.1.push (v := if wI x = 0 then 1 else 0)) a6
              rw [List.length_cons] at hlen o8
              have hD2 : DkO (pI ρ 806 D (fI ρ 806 D - 1)) D := hD.fz (Fz_pop ρ) (by decide)
              have hk2 : kd (pI ρ 806 D (fI ρ 806 D - 1)) D = 8 := hk
              have hxx := hp.2
              subst c2
              clear ih nxt h hst hst2 hok2 hrn2 hrn3 hSt hp hS
              by_cases y : wI x = 0
              · rw [if_pos y] at w
                simp only [fI_pI, eq_self, and_self, if_true] at w
                refine go_X7_reckon (ct := fun p => p == 134 || p == 43 || p == 59 || p == 113 || p == 106) 40 ?_
                simp only [oI, oL, oR, o1, lI, lL, lR, popN, catS, gv, stL, stL2, swt, cnd, spObj, List.getElem?_cons_zero, List.getElem?_cons_succ, List.getD_cons_zero, List.getD_cons_succ, List.set_cons_zero, List.set_cons_succ, List.nil_append, List.cons_append, Option.toList, Bool.or_false, Bool.false_or, Bool.or_true, Bool.true_or, Nat.reduceBEq, Nat.reduceAdd, Nat.reduceLT, Nat.reduceLeDiff, Int.reduceAdd, Int.reduceToNat, true_and, and_true, Fin.isValue, Fin.val_zero, Fin.val_one, Fin.val_two, Fin.reduceFinMk, eq_self, Int.reduceNeg, imp_self, Nat.reduceMul, Nat.le_refl, not_true_eq_false, not_false_eq_true, List.getElem?_nil, reduceCtorEq, true_or, or_true, Classical.not_not, implies_true, or_self, wI_0, wI_1, wI_m1, b2i_w, b2i_eq0, b2i_eq1, b2i_bool, nor_self, nx_pI, kd_pI, ln_pI, fI_pI, fL_pI, fR_pI, aI_pI, aL_pI, aR_pI, nx_pL, kd_pL, ln_pL, fI_pL, fL_pL, fR_pL, aI_pL, aL_pL, aR_pL, nx_pR, kd_pR, ln_pR, fI_pR, fL_pR, fR_pR, aI_pR, aL_pR, aR_pR, nx_qI, kd_qI, ln_qI, fI_qI, fL_qI, fR_qI, aI_qI, aL_qI, aR_qI, nx_qL, kd_qL, ln_qL, fI_qL, fL_qL, fR_qL, aI_qL, aL_qL, aR_qL, nx_qR, kd_qR, ln_qR, fI_qR, fL_qR, fR_qR, aI_qR, aL_qR, aR_qR, nx_mk, kd_mk, ln_mk, fI_mk, fL_mk, fR_mk, aI_mk, aL_mk, aR_mk, false_and, and_false, if_false, if_true, and_self, Int.reduceEq, Nat.reduceEqDiff, ite_self, MLay_pI, MLay_pL, MLay_qI, MLay_qL, ev_X7_reckon_38, ev_X7_reckon_40, ev_X7_reckon_43, ev_X7_reckon_44, ev_X7_reckon_46, ev_X7_reckon_49, ev_X7_reckon_52, ev_X7_reckon_54, ev_X7_reckon_56, ev_X7_reckon_59, ev_X7_reckon_61, ev_X7_reckon_63, ev_X7_reckon_64, ev_X7_reckon_66, ev_X7_reckon_67, ev_X7_reckon_69, ev_X7_reckon_70, ev_X7_reckon_71, ev_X7_reckon_74, ev_X7_reckon_75, ev_X7_reckon_77, ev_X7_reckon_78, ev_X7_reckon_81, ev_X7_reckon_82, ev_X7_reckon_85, ev_X7_reckon_88, ev_X7_reckon_90, ev_X7_reckon_91, ev_X7_reckon_94, ev_X7_reckon_95, ev_X7_reckon_96, ev_X7_reckon_99, ev_X7_reckon_102, ev_X7_reckon_103, ev_X7_reckon_106, ev_X7_reckon_107, ev_X7_reckon_110, xt_X7_reckon, xf_X7_reckon, us_X7_push, us_X7_pop, us_X7_joined, hk, hD, hxx, hD2, hk2, y]
                try simp (disch := omega) only [wI_id, dv_nn, rm_nn]
                repeat' (first | intro z | apply And.intro)
                all_goals try omega
                all_goals try contradiction
                all_goals exact w
              · rw [if_neg y] at w
                simp only [fI_pI, eq_self, and_self, if_true] at w
                refine go_X7_reckon (ct := fun p => p == 134 || p == 43 || p == 59 || p == 113 || p == 102) 40 ?_
                simp only [oI, oL, oR, o1, lI, lL, lR, popN, catS, gv, stL, stL2, swt, cnd, spObj, List.getElem?_cons_zero, List.getElem?_cons_succ, List.getD_cons_zero, List.getD_cons_succ, List.set_cons_zero, List.set_cons_succ, List.nil_append, List.cons_append, Option.toList, Bool.or_false, Bool.false_or, Bool.or_true, Bool.true_or, Nat.reduceBEq, Nat.reduceAdd, Nat.reduceLT, Nat.reduceLeDiff, Int.reduceAdd, Int.reduceToNat, true_and, and_true, Fin.isValue, Fin.val_zero, Fin.val_one, Fin.val_two, Fin.reduceFinMk, eq_self, Int.reduceNeg, imp_self, Nat.reduceMul, Nat.le_refl, not_true_eq_false, not_false_eq_true, List.getElem?_nil, reduceCtorEq, true_or, or_true, Classical.not_not, implies_true, or_self, wI_0, wI_1, wI_m1, b2i_w, b2i_eq0, b2i_eq1, b2i_bool, nor_self, nx_pI, kd_pI, ln_pI, fI_pI, fL_pI, fR_pI, aI_pI, aL_pI, aR_pI, nx_pL, kd_pL, ln_pL, fI_pL, fL_pL, fR_pL, aI_pL, aL_pL, aR_pL, nx_pR, kd_pR, ln_pR, fI_pR, fL_pR, fR_pR, aI_pR, aL_pR, aR_pR, nx_qI, kd_qI, ln_qI, fI_qI, fL_qI, fR_qI, aI_qI, aL_qI, aR_qI, nx_qL, kd_qL, ln_qL, fI_qL, fL_qL, fR_qL, aI_qL, aL_qL, aR_qL, nx_qR, kd_qR, ln_qR, fI_qR, fL_qR, fR_qR, aI_qR, aL_qR, aR_qR, nx_mk, kd_mk, ln_mk, fI_mk, fL_mk, fR_mk, aI_mk, aL_mk, aR_mk, false_and, and_false, if_false, if_true, and_self, Int.reduceEq, Nat.reduceEqDiff, ite_self, MLay_pI, MLay_pL, MLay_qI, MLay_qL, ev_X7_reckon_38, ev_X7_reckon_40, ev_X7_reckon_43, ev_X7_reckon_44, ev_X7_reckon_46, ev_X7_reckon_49, ev_X7_reckon_52, ev_X7_reckon_54, ev_X7_reckon_56, ev_X7_reckon_59, ev_X7_reckon_61, ev_X7_reckon_63, ev_X7_reckon_64, ev_X7_reckon_66, ev_X7_reckon_67, ev_X7_reckon_69, ev_X7_reckon_70, ev_X7_reckon_71, ev_X7_reckon_74, ev_X7_reckon_75, ev_X7_reckon_77, ev_X7_reckon_78, ev_X7_reckon_81, ev_X7_reckon_82, ev_X7_reckon_85, ev_X7_reckon_88, ev_X7_reckon_90, ev_X7_reckon_91, ev_X7_reckon_94, ev_X7_reckon_95, ev_X7_reckon_96, ev_X7_reckon_99, ev_X7_reckon_102, ev_X7_reckon_103, ev_X7_reckon_106, ev_X7_reckon_107, ev_X7_reckon_110, xt_X7_reckon, xf_X7_reckon, us_X7_push, us_X7_pop, us_X7_joined, hk, hD, hxx, hD2, hk2, y]
                try simp (disch := omega) only [wI_id, dv_nn, rm_nn]
                repeat' (first | intro z | apply And.intro)
                all_goals try omega
                all_goals try contradiction
                all_goals exact w
          · have o7 := o7 (by omega)
            match s, hS, nxt, o7, hlen with
            | [y], _, _, o7, _ => exact absurd o7 (by show ¬ 2 ≤ 1; omega)
            | y :: x :: t, hS, nxt, o7, hlen =>
              have hp := hS.pop
              have hp2 := hp.1.pop
              have hSt : st1 f (y :: x :: t) c = jn c x y :: t := by unfold st1; rw [if_neg c0, if_neg c1, if_neg c2]
              rw [hSt] at nxt
              have w := nxt _ (((Fz_pop ρ).tr (Fz_pop _)).tr (Fz_push _ (jn c x y))) (hp2.1.push (v := jn c x y)) (some (vi y))
              rw [List.length_cons, List.length_cons] at hlen o8
              have hD2 : DkO (pI ρ 806 D (fI ρ 806 D - 1)) D := hD.fz (Fz_pop ρ) (by decide)
              have hk2 : kd (pI ρ 806 D (fI ρ 806 D - 1)) D = 8 := hk
              have eh : fI (pI ρ 806 D (fI ρ 806 D - 1)) 806 D = fI ρ 806 D - 1 := by rw [fI_pI, if_pos ⟨rfl, rfl⟩]
              rw [eh] at w hp2
              simp only [fI_pI, eq_self, and_self, if_true] at w
              have hD3 : DkO (pI (pI ρ 806 D (fI ρ 806 D - 1)) 806 D (fI ρ 806 D - 1 - 1)) D := hD2.fz (Fz_pI (fs := dkF) (ars := noR) (als := noR) (f := 806) _ _ _ (by decide)) (by decide)
              have hxx := hp.2
              have hyy := hp2.2
              rw [aI_pI] at hyy
              have hcr : -7 ≤ c ∧ c ≤ -2 := by omega
              clear ih nxt h hst hst2 hok2 hrn2 hrn3 hSt hp hp2 hS
              refine go_X7_reckon (ct := fun p => p == 134 || p == 43 || p == 59 || p == 94) 60 ?_
              simp only [oI, oL, oR, o1, lI, lL, lR, popN, catS, gv, stL, stL2, swt, cnd, spObj, List.getElem?_cons_zero, List.getElem?_cons_succ, List.getD_cons_zero, List.getD_cons_succ, List.set_cons_zero, List.set_cons_succ, List.nil_append, List.cons_append, Option.toList, Bool.or_false, Bool.false_or, Bool.or_true, Bool.true_or, Nat.reduceBEq, Nat.reduceAdd, Nat.reduceLT, Nat.reduceLeDiff, Int.reduceAdd, Int.reduceToNat, true_and, and_true, Fin.isValue, Fin.val_zero, Fin.val_one, Fin.val_two, Fin.reduceFinMk, eq_self, Int.reduceNeg, imp_self, Nat.reduceMul, Nat.le_refl, not_true_eq_false, not_false_eq_true, List.getElem?_nil, reduceCtorEq, true_or, or_true, Classical.not_not, implies_true, or_self, wI_0, wI_1, wI_m1, b2i_w, b2i_eq0, b2i_eq1, b2i_bool, nor_self, nx_pI, kd_pI, ln_pI, fI_pI, fL_pI, fR_pI, aI_pI, aL_pI, aR_pI, nx_pL, kd_pL, ln_pL, fI_pL, fL_pL, fR_pL, aI_pL, aL_pL, aR_pL, nx_pR, kd_pR, ln_pR, fI_pR, fL_pR, fR_pR, aI_pR, aL_pR, aR_pR, nx_qI, kd_qI, ln_qI, fI_qI, fL_qI, fR_qI, aI_qI, aL_qI, aR_qI, nx_qL, kd_qL, ln_qL, fI_qL, fL_qL, fR_qL, aI_qL, aL_qL, aR_qL, nx_qR, kd_qR, ln_qR, fI_qR, fL_qR, fR_qR, aI_qR, aL_qR, aR_qR, nx_mk, kd_mk, ln_mk, fI_mk, fL_mk, fR_mk, aI_mk, aL_mk, aR_mk, false_and, and_false, if_false, if_true, and_self, Int.reduceEq, Nat.reduceEqDiff, ite_self, MLay_pI, MLay_pL, MLay_qI, MLay_qL, ev_X7_reckon_38, ev_X7_reckon_40, ev_X7_reckon_43, ev_X7_reckon_44, ev_X7_reckon_46, ev_X7_reckon_49, ev_X7_reckon_52, ev_X7_reckon_54, ev_X7_reckon_56, ev_X7_reckon_88, ev_X7_reckon_90, ev_X7_reckon_91, ev_X7_reckon_113, ev_X7_reckon_114, ev_X7_reckon_117, ev_X7_reckon_119, ev_X7_reckon_120, ev_X7_reckon_122, ev_X7_reckon_123, ev_X7_reckon_126, ev_X7_reckon_128, ev_X7_reckon_131, xt_X7_reckon, xf_X7_reckon, us_X7_push, us_X7_pop, us_X7_joined, hk, hD, hxx, hyy, hD2, hD3, hk2, hcr]
              try simp (disch := omega) only [wI_id, dv_nn, rm_nn]
              repeat' (first | intro z | apply And.intro)
              all_goals try omega
              all_goals try contradiction
              all_goals exact w
    clear ih nxt h hst hst2 hok2 hrn2 hrn3 hS
    refine go_X7_reckon (ct := fun p => p == 140 || p == 38) 40 ?_
    simp only [oI, oL, oR, o1, lI, lL, lR, popN, catS, gv, stL, stL2, swt, cnd, spObj, List.getElem?_cons_zero, List.getElem?_cons_succ, List.getD_cons_zero, List.getD_cons_succ, List.set_cons_zero, List.set_cons_succ, List.nil_append, List.cons_append, Option.toList, Bool.or_false, Bool.false_or, Bool.or_true, Bool.true_or, Nat.reduceBEq, Nat.reduceAdd, Nat.reduceLT, Nat.reduceLeDiff, Int.reduceAdd, Int.reduceToNat, true_and, and_true, Fin.isValue, Fin.val_zero, Fin.val_one, Fin.val_two, Fin.reduceFinMk, eq_self, Int.reduceNeg, imp_self, Nat.reduceMul, Nat.le_refl, not_true_eq_false, not_false_eq_true, List.getElem?_nil, reduceCtorEq, true_or, or_true, Classical.not_not, implies_true, or_self, wI_0, wI_1, wI_m1, b2i_w, b2i_eq0, b2i_eq1, b2i_bool, nor_self, nx_pI, kd_pI, ln_pI, fI_pI, fL_pI, fR_pI, aI_pI, aL_pI, aR_pI, nx_pL, kd_pL, ln_pL, fI_pL, fL_pL, fR_pL, aI_pL, aL_pL, aR_pL, nx_pR, kd_pR, ln_pR, fI_pR, fL_pR, fR_pR, aI_pR, aL_pR, aR_pR, nx_qI, kd_qI, ln_qI, fI_qI, fL_qI, fR_qI, aI_qI, aL_qI, aR_qI, nx_qL, kd_qL, ln_qL, fI_qL, fL_qL, fR_qL, aI_qL, aL_qL, aR_qL, nx_qR, kd_qR, ln_qR, fI_qR, fL_qR, fR_qR, aI_qR, aL_qR, aR_qR, nx_mk, kd_mk, ln_mk, fI_mk, fL_mk, fR_mk, aI_mk, aL_mk, aR_mk, false_and, and_false, if_false, if_true, and_self, Int.reduceEq, Nat.reduceEqDiff, ite_self, MLay_pI, MLay_pL, MLay_qI, MLay_qL, ev_X7_reckon_8, ev_X7_reckon_10, ev_X7_reckon_13, ev_X7_reckon_15, ev_X7_reckon_16, ev_X7_reckon_19, ev_X7_reckon_21, ev_X7_reckon_22, ev_X7_reckon_25, ev_X7_reckon_26, ev_X7_reckon_29, ev_X7_reckon_30, ev_X7_reckon_33, ev_X7_reckon_35, ev_X7_reckon_36, xt_X7_reckon, xf_X7_reckon, us_X7_push, us_X7_pop, us_X7_joined, hk, g4, g9, hcρ]
    try simp (disch := omega) only [wI_id, dv_nn, rm_nn]
    repeat' (first | intro z | apply And.intro)
    all_goals try omega
    all_goals try contradiction
    all_goals exact w38 _

set_option maxRecDepth 20000 in
theorem c_X7_reckon : Ct yX7_reckon cX7_reckon 7 ((some FieldType.int)) 2 0 0 sp_X7_reckon := by
  refine Ct.go (M := M_X7_reckon) mm_X7_reckon fun av σ Q h0 => ?_
  obtain ⟨this, a, b, r, rfl, hk, h⟩ := el_X7_reckon h0
  clear h0
  refine ⟨Nat.le_of_ble_eq_true rfl, ?_⟩
  show Go M_X7_reckon Q 0 [some (vr this), some (vi a), some (vi b), some (vr r), none, none, none] [] σ (0, 0)
  obtain ⟨hD, hr, hrn, cs, v, hab, hst, hok, hrun, h⟩ := h
  have hz : Fz dkF (fun r => r = this + 5) noR σ (pI σ 806 this 0) := Fz_pI (fs := dkF) (f := 806) _ _ _ (by decide)
  have w := rck_8 (Q := Q) (a := a) hr hrn hab.2.2 rfl h cs a [] (pI σ 806 this 0) none none hab.1 hab.2.1.symm hst hok hrun hz (hD.fz hz (by decide)) ⟨by rw [fI_pI, if_pos ⟨rfl, rfl⟩]; rfl, trivial⟩
  clear h hst hok hrun hz
  refine go_X7_reckon (ct := fun p => p == 8) 20 ?_
  simp only [oI, oL, oR, o1, lI, lL, lR, popN, catS, gv, stL, stL2, swt, cnd, spObj, List.getElem?_cons_zero, List.getElem?_cons_succ, List.getD_cons_zero, List.getD_cons_succ, List.set_cons_zero, List.set_cons_succ, List.nil_append, List.cons_append, Option.toList, Bool.or_false, Bool.false_or, Bool.or_true, Bool.true_or, Nat.reduceBEq, Nat.reduceAdd, Nat.reduceLT, Nat.reduceLeDiff, Int.reduceAdd, Int.reduceToNat, true_and, and_true, Fin.isValue, Fin.val_zero, Fin.val_one, Fin.val_two, Fin.reduceFinMk, eq_self, Int.reduceNeg, imp_self, Nat.reduceMul, Nat.le_refl, not_true_eq_false, not_false_eq_true, List.getElem?_nil, reduceCtorEq, true_or, or_true, Classical.not_not, implies_true, or_self, wI_0, wI_1, wI_m1, b2i_w, b2i_eq0, b2i_eq1, b2i_bool, nor_self, nx_pI, kd_pI, ln_pI, fI_pI, fL_pI, fR_pI, aI_pI, aL_pI, aR_pI, nx_pL, kd_pL, ln_pL, fI_pL, fL_pL, fR_pL, aI_pL, aL_pL, aR_pL, nx_pR, kd_pR, ln_pR, fI_pR, fL_pR, fR_pR, aI_pR, aL_pR, aR_pR, nx_qI, kd_qI, ln_qI, fI_qI, fL_qI, fR_qI, aI_qI, aL_qI, aR_qI, nx_qL, kd_qL, ln_qL, fI_qL, fL_qL, fR_qL, aI_qL, aL_qL, aR_qL, nx_qR, kd_qR, ln_qR, fI_qR, fL_qR, fR_qR, aI_qR, aL_qR, aR_qR, nx_mk, kd_mk, ln_mk, fI_mk, fL_mk, fR_mk, aI_mk, aL_mk, aR_mk, false_and, and_false, if_false, if_true, and_self, Int.reduceEq, Nat.reduceEqDiff, ite_self, MLay_pI, MLay_pL, MLay_qI, MLay_qL, ev_X7_reckon_0, ev_X7_reckon_1, ev_X7_reckon_2, ev_X7_reckon_5, ev_X7_reckon_6, xt_X7_reckon, xf_X7_reckon, us_X7_push, us_X7_pop, us_X7_joined, hk]
  exact w

/-- lines of steps, one behind another: where they end -/
def ofS (css : List (List Int)) (l : Nat) : Int := ((css.take l).flatten.length : Nat)
theorem ofS_0 (css : List (List Int)) : ofS css 0 = 0 := rfl
theorem ofS_s {css : List (List Int)} {l : Nat} {c : List Int} (h : css[l]? = some c) : ofS css (l + 1) = ofS css l + c.length := by
  unfold ofS
  have hl := (List.getElem?_eq_some_iff.mp h).1
  have he := (List.getElem?_eq_some_iff.mp h).2
  rw [List.take_succ, h, List.flatten_append, List.length_append]
  simp
theorem ofS_at {css : List (List Int)} {l : Nat} {c : List Int} (h : css[l]? = some c) {k : Nat} {x : Int} (hx : c[k]? = some x) : css.flatten[(css.take l).flatten.length + k]? = some x := by
  have hk := (List.getElem?_eq_some_iff.mp hx).1
  have e : css = css.take l ++ c :: css.drop (l + 1) := by
    have hl := (List.getElem?_eq_some_iff.mp h).1
    have he := (List.getElem?_eq_some_iff.mp h).2
    conv => lhs; rw [← List.take_append_drop l css]
    rw [List.drop_eq_getElem_cons hl, he]
  have gen : ∀ a b : List (List Int), (a ++ c :: b).flatten[a.flatten.length + k]? = some x := fun a b => by
    rw [List.flatten_append, List.getElem?_append_right (Nat.le_add_right _ _), Nat.add_sub_cancel_left, List.flatten_cons, List.getElem?_append_left hk]
    exact hx
  have := gen (css.take l) (css.drop (l + 1))
  rw [← e] at this
  exact this
/-- the lines as they lie in a deck -/
def DkL (σ : Hp) (D : Int) (css : List (List Int)) : Prop := fI σ 807 D = css.length ∧ css.length ≤ 24 ∧ css.flatten.length ≤ 1000 ∧ (∀ l : Nat, l < css.length → aI σ (D + 3) l = ofS css (l + 1)) ∧ ∀ (k : Nat) (c : Int), css.flatten[k]? = some c → aI σ (D + 4) k = c
theorem ofS_le {css : List (List Int)} (l : Nat) : ofS css l ≤ css.flatten.length := by
  unfold ofS
  have : css.flatten = (css.take l).flatten ++ (css.drop l).flatten := by rw [← List.flatten_append, List.take_append_drop]
  rw [this, List.length_append]
  omega

def sp_X7_firstThatCounts : Sp := fun av σ Q => oR av fun this av => oR av fun r av => av = [] ∧ kd σ this = 8 ∧ (DkO σ this ∧ (kd σ r = 101 ∧ ln σ r = 7) ∧ ¬ r = this + 5 ∧ ∃ (css : List (List Int)) (vs : List Int), DkL σ this css ∧ vs.length = css.length ∧ (∀ (l : Nat) (c : List Int), css[l]? = some c → okS (aI σ r) [] c ∧ ∃ v, vs[l]? = some v ∧ rnS (aI σ r) [] c = [v]) ∧   (∀ σ' (l : Nat) (v : Int), Fz dkF (fun r => r = this + 5) noR σ σ' → vs[l]? = some v → ¬ wI v = 0 → (∀ (l' : Nat) (v' : Int), l' < l → vs[l']? = some v' → wI v' = 0) → Q (some (vi l)) σ') ∧ (∀ σ', Fz dkF (fun r => r = this + 5) noR σ σ' → (∀ v ∈ vs, wI v = 0) → Q (some (vi (-1))) σ'))
theorem us_X7_firstThatCounts (this : Int) (r : Int) (σ : Hp) (Q : Option AV → Hp → Prop) : sp_X7_firstThatCounts [vr this, vr r] σ Q = (kd σ this = 8 ∧ (DkO σ this ∧ (kd σ r = 101 ∧ ln σ r = 7) ∧ ¬ r = this + 5 ∧ ∃ (css : List (List Int)) (vs : List Int), DkL σ this css ∧ vs.length = css.length ∧ (∀ (l : Nat) (c : List Int), css[l]? = some c → okS (aI σ r) [] c ∧ ∃ v, vs[l]? = some v ∧ rnS (aI σ r) [] c = [v]) ∧   (∀ σ' (l : Nat) (v : Int), Fz dkF (fun r => r = this + 5) noR σ σ' → vs[l]? = some v → ¬ wI v = 0 → (∀ (l' : Nat) (v' : Int), l' < l → vs[l']? = some v' → wI v' = 0) → Q (some (vi l)) σ') ∧ (∀ σ', Fz dkF (fun r => r = this + 5) noR σ σ' → (∀ v ∈ vs, wI v = 0) → Q (some (vi (-1))) σ'))) := propext ⟨fun h => h.2, fun h => ⟨rfl, h⟩⟩
theorem el_X7_firstThatCounts {av : List AV} {σ : Hp} {Q : Option AV → Hp → Prop} (h : sp_X7_firstThatCounts av σ Q) : ∃ (this : Int) (r : Int), av = [vr this, vr r] ∧ (kd σ this = 8 ∧ (DkO σ this ∧ (kd σ r = 101 ∧ ln σ r = 7) ∧ ¬ r = this + 5 ∧ ∃ (css : List (List Int)) (vs : List Int), DkL σ this css ∧ vs.length = css.length ∧ (∀ (l : Nat) (c : List Int), css[l]? = some c → okS (aI σ r) [] c ∧ ∃ v, vs[l]? = some v ∧ rnS (aI σ r) [] c = [v]) ∧   (∀ σ' (l : Nat) (v : Int), Fz dkF (fun r => r = this + 5) noR σ σ' → vs[l]? = some v → ¬ wI v = 0 → (∀ (l' : Nat) (v' : Int), l' < l → vs[l']? = some v' → wI v' = 0) → Q (some (vi l)) σ') ∧ (∀ σ', Fz dkF (fun r => r = this + 5) noR σ σ' → (∀ v ∈ vs, wI v = 0) → Q (some (vi (-1))) σ'))) := by
  obtain ⟨this, a0, rfl, h0⟩ := oR_s h
  obtain ⟨r, a1, rfl, h1⟩ := oR_s h0
  obtain ⟨rfl, hz⟩ := h1
  exact ⟨this, r, rfl, hz⟩
theorem rc_X7_firstThatCounts : ∀ (av : List AV) (σ : Hp) (Q : Option AV → Hp → Prop), sp_X7_firstThatCounts av σ Q → ∃ r tl, av = vr r :: tl ∧ kd σ r = 7 + 1 := fun av σ Q h => by
  obtain ⟨this, r, rfl, hz, -⟩ := el_X7_firstThatCounts h
  exact ⟨this, _, rfl, hz⟩

def tb_X7_firstThatCounts : Tab := [(0, .iconst 0, 1, (0, 0, 0, 0)), (1, .istore_n 2, 1, (0, 0, 0, 0)), (2, .iconst 0, 1, (0, 0, 0, 0)), (3, .istore_n 3, 1, (0, 0, 0, 0)), (4, .iload_n 3, 1, (0, 0, 0, 0)), (5, .aload_n 0, 1, (0, 0, 0, 0)), (6, .getfield 34, 3, (8, 807, 0, 0)), (9, .if_icmp .ge 42, 3, (0, 0, 0, 0)), (12, .iload_n 3, 1, (0, 0, 0, 0)), (13, .aload_n 0, 1, (0, 0, 0, 0)), (14, .getfield 18, 3, (8, 802, 2, 0)), (17, .arraylength, 1, (0, 0, 0, 0)), (18, .if_icmp .ge 33, 3, (0, 0, 0, 0)), (21, .aload_n 0, 1, (0, 0, 0, 0)), (22, .iload_n 2, 1, (0, 0, 0, 0)), (23, .aload_n 0, 1, (0, 0, 0, 0)), (24, .getfield 18, 3, (8, 802, 2, 0)), (27, .iload_n 3, 1, (0, 0, 0, 0)), (28, .iaload, 1, (0, 0, 0, 0)), (29, .aload_n 1, 1, (0, 0, 0, 0)), (30, .invokevirtual 37, 3, (0, 0, 0, 0)), (33, .ifCond .eq 5, 3, (0, 0, 0, 0)), (36, .iload_n 3, 1, (0, 0, 0, 0)), (37, .ireturn, 1, (0, 0, 0, 0)), (38, .aload_n 0, 1, (0, 0, 0, 0)), (39, .getfield 18, 3, (8, 802, 2, 0)), (42, .iload_n 3, 1, (0, 0, 0, 0)), (43, .iaload, 1, (0, 0, 0, 0)), (44, .istore_n 2, 1, (0, 0, 0, 0)), (45, .iinc 3 1, 3, (0, 0, 0, 0)), (48, .goto (-44), 3, (0, 0, 0, 0)), (51, .iconst (-1), 1, (0, 0, 0, 0)), (52, .ireturn, 1, (0, 0, 0, 0))]
set_option maxRecDepth 100000 in
theorem tk_X7_firstThatCounts : TOK RX7 false cX7_firstThatCounts tb_X7_firstThatCounts := chkT_ok ft_X7 (by decide +kernel)
theorem rw_X7_296 : Row RX7 (.invokevirtual 37) 3 4 0 0 2 sp_X7_reckon := row_V (n := 3) (ci := 7) c_X7_reckon ⟨TBL_in 1210 (by decide +kernel) rfl, TBL_in 1213 (by decide +kernel) rfl, TBL_in 120 (by decide +kernel) rfl, by decide +kernel, by decide⟩ (by decide) rfl (TBL_in 1212 (by decide +kernel) rfl) (TBL_in 47 (by decide +kernel) rfl) rc_X7_reckon
def mt_X7_firstThatCounts : List (Nat × Mt) := [(296, 4, 0, 0, 2, sp_X7_reckon)]
theorem em_X7_firstThatCounts : mt_X7_firstThatCounts.lookup 296 = some (4, 0, 0, 2, sp_X7_reckon) := rfl
theorem mk_X7_firstThatCounts : MOK RX7 mt_X7_firstThatCounts := by
  intro q hq
  simp only [mt_X7_firstThatCounts, List.mem_cons, List.not_mem_nil, or_false] at hq
  rcases hq with rfl
  · exact rw_X7_296
noncomputable def xe_X7_firstThatCounts (ct : Nat → Bool) (K : Kt) (R : Option AV → Hp → Prop) (n : Nat) : Kt := exS 4 3 0 0 1 tb_X7_firstThatCounts mt_X7_firstThatCounts ct K R n
noncomputable def xk_X7_firstThatCounts (ct : Nat → Bool) (K : Kt) (R : Option AV → Hp → Prop) (n : Nat) : Kt := exkS 4 3 0 0 1 tb_X7_firstThatCounts mt_X7_firstThatCounts ct K R n
theorem xt_X7_firstThatCounts {ct : Nat → Bool} {K : Kt} {R : Option AV → Hp → Prop} {n pc : Nat} {ls : List (Option AV)} {st : List AV} {σ : Hp} {k : Nat × Nat} (h : ct pc = true) : xk_X7_firstThatCounts ct K R n pc ls st σ k = K pc ls st σ k := by unfold xk_X7_firstThatCounts exkS; rw [h]
theorem xf_X7_firstThatCounts {ct : Nat → Bool} {K : Kt} {R : Option AV → Hp → Prop} {n pc : Nat} {ls : List (Option AV)} {st : List AV} {σ : Hp} {k : Nat × Nat} (h : ct pc = false) : xk_X7_firstThatCounts ct K R n pc ls st σ k = xe_X7_firstThatCounts ct K R n pc ls st σ k := by unfold xk_X7_firstThatCounts exkS xe_X7_firstThatCounts; rw [h]
theorem ev_X7_firstThatCounts_0 {ct : Nat → Bool} {K : Kt} {R : Option AV → Hp → Prop} {n : Nat} {ls : List (Option AV)} {st : List AV} {σ : Hp} {k : Nat × Nat} : xe_X7_firstThatCounts ct K R (n + 1) 0 ls st σ k = (xk_X7_firstThatCounts ct K R n 1 ls (vi (0) :: st) σ k) := exS_step.trans rfl
theorem ev_X7_firstThatCounts_1 {ct : Nat → Bool} {K : Kt} {R : Option AV → Hp → Prop} {n : Nat} {ls : List (Option AV)} {st : List AV} {σ : Hp} {k : Nat × Nat} : xe_X7_firstThatCounts ct K R (n + 1) 1 ls st σ k = (oI st fun x st => 2 < 4 ∧ xk_X7_firstThatCounts ct K R n 2 (stL ls 2 (vi x)) st σ k) := exS_step.trans rfl
theorem ev_X7_firstThatCounts_2 {ct : Nat → Bool} {K : Kt} {R : Option AV → Hp → Prop} {n : Nat} {ls : List (Option AV)} {st : List AV} {σ : Hp} {k : Nat × Nat} : xe_X7_firstThatCounts ct K R (n + 1) 2 ls st σ k = (xk_X7_firstThatCounts ct K R n 3 ls (vi (0) :: st) σ k) := exS_step.trans rfl
theorem ev_X7_firstThatCounts_3 {ct : Nat → Bool} {K : Kt} {R : Option AV → Hp → Prop} {n : Nat} {ls : List (Option AV)} {st : List AV} {σ : Hp} {k : Nat × Nat} : xe_X7_firstThatCounts ct K R (n + 1) 3 ls st σ k = (oI st fun x st => 3 < 4 ∧ xk_X7_firstThatCounts ct K R n 4 (stL ls 3 (vi x)) st σ k) := exS_step.trans rfl
theorem ev_X7_firstThatCounts_4 {ct : Nat → Bool} {K : Kt} {R : Option AV → Hp → Prop} {n : Nat} {ls : List (Option AV)} {st : List AV} {σ : Hp} {k : Nat × Nat} : xe_X7_firstThatCounts ct K R (n + 1) 4 ls st σ k = (lI ls 3 fun x => xk_X7_firstThatCounts ct K R n 5 ls (vi x :: st) σ k) := exS_step.trans rfl
theorem ev_X7_firstThatCounts_5 {ct : Nat → Bool} {K : Kt} {R : Option AV → Hp → Prop} {n : Nat} {ls : List (Option AV)} {st : List AV} {σ : Hp} {k : Nat × Nat} : xe_X7_firstThatCounts ct K R (n + 1) 5 ls st σ k = (lR ls 0 fun x => xk_X7_firstThatCounts ct K R n 6 ls (vr x :: st) σ k) := exS_step.trans rfl
theorem ev_X7_firstThatCounts_6 {ct : Nat → Bool} {K : Kt} {R : Option AV → Hp → Prop} {n : Nat} {ls : List (Option AV)} {st : List AV} {σ : Hp} {k : Nat × Nat} : xe_X7_firstThatCounts ct K R (n + 1) 6 ls st σ k = (oR st fun x st => kd σ x = 8 ∧ xk_X7_firstThatCounts ct K R n 9 ls (vi (fI σ 807 x) :: st) σ k) := exS_step.trans rfl
theorem ev_X7_firstThatCounts_9 {ct : Nat → Bool} {K : Kt} {R : Option AV → Hp → Prop} {n : Nat} {ls : List (Option AV)} {st : List AV} {σ : Hp} {k : Nat × Nat} : xe_X7_firstThatCounts ct K R (n + 1) 9 ls st σ k = (oI st fun y st => oI st fun x st => (wI y ≤ wI x → xk_X7_firstThatCounts ct K R n 51 ls st σ k) ∧ (¬ (wI y ≤ wI x) → xk_X7_firstThatCounts ct K R n 12 ls st σ k)) := exS_step.trans rfl
theorem ev_X7_firstThatCounts_12 {ct : Nat → Bool} {K : Kt} {R : Option AV → Hp → Prop} {n : Nat} {ls : List (Option AV)} {st : List AV} {σ : Hp} {k : Nat × Nat} : xe_X7_firstThatCounts ct K R (n + 1) 12 ls st σ k = (lI ls 3 fun x => xk_X7_firstThatCounts ct K R n 13 ls (vi x :: st) σ k) := exS_step.trans rfl
theorem ev_X7_firstThatCounts_13 {ct : Nat → Bool} {K : Kt} {R : Option AV → Hp → Prop} {n : Nat} {ls : List (Option AV)} {st : List AV} {σ : Hp} {k : Nat × Nat} : xe_X7_firstThatCounts ct K R (n + 1) 13 ls st σ k = (lR ls 0 fun x => xk_X7_firstThatCounts ct K R n 14 ls (vr x :: st) σ k) := exS_step.trans rfl
theorem ev_X7_firstThatCounts_14 {ct : Nat → Bool} {K : Kt} {R : Option AV → Hp → Prop} {n : Nat} {ls : List (Option AV)} {st : List AV} {σ : Hp} {k : Nat × Nat} : xe_X7_firstThatCounts ct K R (n + 1) 14 ls st σ k = (oR st fun x st => kd σ x = 8 ∧ xk_X7_firstThatCounts ct K R n 17 ls (vr (fR σ 802 x) :: st) σ k) := exS_step.trans rfl
theorem ev_X7_firstThatCounts_17 {ct : Nat → Bool} {K : Kt} {R : Option AV → Hp → Prop} {n : Nat} {ls : List (Option AV)} {st : List AV} {σ : Hp} {k : Nat × Nat} : xe_X7_firstThatCounts ct K R (n + 1) 17 ls st σ k = (oR st fun x st => (101 ≤ kd σ x ∨ kd σ x = 21) ∧ xk_X7_firstThatCounts ct K R n 18 ls (vi (ln σ x) :: st) σ k) := exS_step.trans rfl
theorem ev_X7_firstThatCounts_18 {ct : Nat → Bool} {K : Kt} {R : Option AV → Hp → Prop} {n : Nat} {ls : List (Option AV)} {st : List AV} {σ : Hp} {k : Nat × Nat} : xe_X7_firstThatCounts ct K R (n + 1) 18 ls st σ k = (oI st fun y st => oI st fun x st => (wI y ≤ wI x → xk_X7_firstThatCounts ct K R n 51 ls st σ k) ∧ (¬ (wI y ≤ wI x) → xk_X7_firstThatCounts ct K R n 21 ls st σ k)) := exS_step.trans rfl
theorem ev_X7_firstThatCounts_21 {ct : Nat → Bool} {K : Kt} {R : Option AV → Hp → Prop} {n : Nat} {ls : List (Option AV)} {st : List AV} {σ : Hp} {k : Nat × Nat} : xe_X7_firstThatCounts ct K R (n + 1) 21 ls st σ k = (lR ls 0 fun x => xk_X7_firstThatCounts ct K R n 22 ls (vr x :: st) σ k) := exS_step.trans rfl
theorem ev_X7_firstThatCounts_22 {ct : Nat → Bool} {K : Kt} {R : Option AV → Hp → Prop} {n : Nat} {ls : List (Option AV)} {st : List AV} {σ : Hp} {k : Nat × Nat} : xe_X7_firstThatCounts ct K R (n + 1) 22 ls st σ k = (lI ls 2 fun x => xk_X7_firstThatCounts ct K R n 23 ls (vi x :: st) σ k) := exS_step.trans rfl
theorem ev_X7_firstThatCounts_23 {ct : Nat → Bool} {K : Kt} {R : Option AV → Hp → Prop} {n : Nat} {ls : List (Option AV)} {st : List AV} {σ : Hp} {k : Nat × Nat} : xe_X7_firstThatCounts ct K R (n + 1) 23 ls st σ k = (lR ls 0 fun x => xk_X7_firstThatCounts ct K R n 24 ls (vr x :: st) σ k) := exS_step.trans rfl
theorem ev_X7_firstThatCounts_24 {ct : Nat → Bool} {K : Kt} {R : Option AV → Hp → Prop} {n : Nat} {ls : List (Option AV)} {st : List AV} {σ : Hp} {k : Nat × Nat} : xe_X7_firstThatCounts ct K R (n + 1) 24 ls st σ k = (oR st fun x st => kd σ x = 8 ∧ xk_X7_firstThatCounts ct K R n 27 ls (vr (fR σ 802 x) :: st) σ k) := exS_step.trans rfl
theorem ev_X7_firstThatCounts_27 {ct : Nat → Bool} {K : Kt} {R : Option AV → Hp → Prop} {n : Nat} {ls : List (Option AV)} {st : List AV} {σ : Hp} {k : Nat × Nat} : xe_X7_firstThatCounts ct K R (n + 1) 27 ls st σ k = (lI ls 3 fun x => xk_X7_firstThatCounts ct K R n 28 ls (vi x :: st) σ k) := exS_step.trans rfl
theorem ev_X7_firstThatCounts_28 {ct : Nat → Bool} {K : Kt} {R : Option AV → Hp → Prop} {n : Nat} {ls : List (Option AV)} {st : List AV} {σ : Hp} {k : Nat × Nat} : xe_X7_firstThatCounts ct K R (n + 1) 28 ls st σ k = (oI st fun j st => oR st fun x st => (kd σ x = 101 ∨ kd σ x = 108) ∧ (0 ≤ j ∧ j < ln σ x) ∧ xk_X7_firstThatCounts ct K R n 29 ls (vi (aI σ x j) :: st) σ k) := exS_step.trans rfl
theorem ev_X7_firstThatCounts_29 {ct : Nat → Bool} {K : Kt} {R : Option AV → Hp → Prop} {n : Nat} {ls : List (Option AV)} {st : List AV} {σ : Hp} {k : Nat × Nat} : xe_X7_firstThatCounts ct K R (n + 1) 29 ls st σ k = (lR ls 1 fun x => xk_X7_firstThatCounts ct K R n 30 ls (vr x :: st) σ k) := exS_step.trans rfl
theorem ev_X7_firstThatCounts_30 {ct : Nat → Bool} {K : Kt} {R : Option AV → Hp → Prop} {n : Nat} {ls : List (Option AV)} {st : List AV} {σ : Hp} {k : Nat × Nat} : xe_X7_firstThatCounts ct K R (n + 1) 30 ls st σ k = (popN 4 st [] fun av rest => (catS rest ≤ 8 ∧ 2 < 3 ∧ k.1 + 0 ≤ 0 ∧ k.2 + 0 ≤ 0) ∧ (sp_X7_reckon) av σ fun v σ' => xk_X7_firstThatCounts ct K R n 33 ls (v.toList ++ rest) σ' (k.1 + 0, k.2 + 0)) := exS_step.trans rfl
theorem ev_X7_firstThatCounts_33 {ct : Nat → Bool} {K : Kt} {R : Option AV → Hp → Prop} {n : Nat} {ls : List (Option AV)} {st : List AV} {σ : Hp} {k : Nat × Nat} : xe_X7_firstThatCounts ct K R (n + 1) 33 ls st σ k = (oI st fun x st => (wI x = wI 0 → xk_X7_firstThatCounts ct K R n 38 ls st σ k) ∧ (¬ (wI x = wI 0) → xk_X7_firstThatCounts ct K R n 36 ls st σ k)) := exS_step.trans rfl
theorem ev_X7_firstThatCounts_36 {ct : Nat → Bool} {K : Kt} {R : Option AV → Hp → Prop} {n : Nat} {ls : List (Option AV)} {st : List AV} {σ : Hp} {k : Nat × Nat} : xe_X7_firstThatCounts ct K R (n + 1) 36 ls st σ k = (lI ls 3 fun x => xk_X7_firstThatCounts ct K R n 37 ls (vi x :: st) σ k) := exS_step.trans rfl
theorem ev_X7_firstThatCounts_37 {ct : Nat → Bool} {K : Kt} {R : Option AV → Hp → Prop} {n : Nat} {ls : List (Option AV)} {st : List AV} {σ : Hp} {k : Nat × Nat} : xe_X7_firstThatCounts ct K R (n + 1) 37 ls st σ k = (oI st fun x st => st = [] ∧ True ∧ R (some (vi x)) σ) := exS_step.trans rfl
theorem ev_X7_firstThatCounts_38 {ct : Nat → Bool} {K : Kt} {R : Option AV → Hp → Prop} {n : Nat} {ls : List (Option AV)} {st : List AV} {σ : Hp} {k : Nat × Nat} : xe_X7_firstThatCounts ct K R (n + 1) 38 ls st σ k = (lR ls 0 fun x => xk_X7_firstThatCounts ct K R n 39 ls (vr x :: st) σ k) := exS_step.trans rfl
theorem ev_X7_firstThatCounts_39 {ct : Nat → Bool} {K : Kt} {R : Option AV → Hp → Prop} {n : Nat} {ls : List (Option AV)} {st : List AV} {σ : Hp} {k : Nat × Nat} : xe_X7_firstThatCounts ct K R (n + 1) 39 ls st σ k = (oR st fun x st => kd σ x = 8 ∧ xk_X7_firstThatCounts ct K R n 42 ls (vr (fR σ 802 x) :: st) σ k) := exS_step.trans rfl
theorem ev_X7_firstThatCounts_42 {ct : Nat → Bool} {K : Kt} {R : Option AV → Hp → Prop} {n : Nat} {ls : List (Option AV)} {st : List AV} {σ : Hp} {k : Nat × Nat} : xe_X7_firstThatCounts ct K R (n + 1) 42 ls st σ k = (lI ls 3 fun x => xk_X7_firstThatCounts ct K R n 43 ls (vi x :: st) σ k) := exS_step.trans rfl
theorem ev_X7_firstThatCounts_43 {ct : Nat → Bool} {K : Kt} {R : Option AV → Hp → Prop} {n : Nat} {ls : List (Option AV)} {st : List AV} {σ : Hp} {k : Nat × Nat} : xe_X7_firstThatCounts ct K R (n + 1) 43 ls st σ k = (oI st fun j st => oR st fun x st => (kd σ x = 101 ∨ kd σ x = 108) ∧ (0 ≤ j ∧ j < ln σ x) ∧ xk_X7_firstThatCounts ct K R n 44 ls (vi (aI σ x j) :: st) σ k) := exS_step.trans rfl
theorem ev_X7_firstThatCounts_44 {ct : Nat → Bool} {K : Kt} {R : Option AV → Hp → Prop} {n : Nat} {ls : List (Option AV)} {st : List AV} {σ : Hp} {k : Nat × Nat} : xe_X7_firstThatCounts ct K R (n + 1) 44 ls st σ k = (oI st fun x st => 2 < 4 ∧ xk_X7_firstThatCounts ct K R n 45 (stL ls 2 (vi x)) st σ k) := exS_step.trans rfl
theorem ev_X7_firstThatCounts_45 {ct : Nat → Bool} {K : Kt} {R : Option AV → Hp → Prop} {n : Nat} {ls : List (Option AV)} {st : List AV} {σ : Hp} {k : Nat × Nat} : xe_X7_firstThatCounts ct K R (n + 1) 45 ls st σ k = (lI ls 3 fun x => 3 < 4 ∧ xk_X7_firstThatCounts ct K R n 48 (stL ls 3 (vi (x + (1)))) st σ k) := exS_step.trans rfl
theorem ev_X7_firstThatCounts_48 {ct : Nat → Bool} {K : Kt} {R : Option AV → Hp → Prop} {n : Nat} {ls : List (Option AV)} {st : List AV} {σ : Hp} {k : Nat × Nat} : xe_X7_firstThatCounts ct K R (n + 1) 48 ls st σ k = (xk_X7_firstThatCounts ct K R n 4 ls st σ k) := exS_step.trans rfl
theorem ev_X7_firstThatCounts_51 {ct : Nat → Bool} {K : Kt} {R : Option AV → Hp → Prop} {n : Nat} {ls : List (Option AV)} {st : List AV} {σ : Hp} {k : Nat × Nat} : xe_X7_firstThatCounts ct K R (n + 1) 51 ls st σ k = (xk_X7_firstThatCounts ct K R n 52 ls (vi (-1) :: st) σ k) := exS_step.trans rfl
theorem ev_X7_firstThatCounts_52 {ct : Nat → Bool} {K : Kt} {R : Option AV → Hp → Prop} {n : Nat} {ls : List (Option AV)} {st : List AV} {σ : Hp} {k : Nat × Nat} : xe_X7_firstThatCounts ct K R (n + 1) 52 ls st σ k = (oI st fun x st => st = [] ∧ True ∧ R (some (vi x)) σ) := exS_step.trans rfl
def M_X7_firstThatCounts : Md := (yX7_firstThatCounts, cX7_firstThatCounts, 4, (some FieldType.int), 3, 0, 0, 1, false, tb_X7_firstThatCounts, mt_X7_firstThatCounts)
theorem mm_X7_firstThatCounts : MMOK M_X7_firstThatCounts := ⟨by decide +kernel, tk_X7_firstThatCounts, mk_X7_firstThatCounts, rfl, fun h => by cases h⟩
theorem go_X7_firstThatCounts {Q : Option AV → Hp → Prop} {ct : Nat → Bool} {pc : Nat} {ls : List (Option AV)} {st : List AV} {σ : Hp} {k : Nat × Nat} (n : Nat) (h : xe_X7_firstThatCounts ct (Go M_X7_firstThatCounts Q) Q n pc ls st σ k) : Go M_X7_firstThatCounts Q pc ls st σ k := Go.exS mm_X7_firstThatCounts h

set_option maxRecDepth 20000 in
theorem c_X7_firstThatCounts : Ct yX7_firstThatCounts cX7_firstThatCounts 4 ((some FieldType.int)) 3 0 0 sp_X7_firstThatCounts := by
  refine Ct.go (M := M_X7_firstThatCounts) mm_X7_firstThatCounts fun av σ Q h0 => ?_
  obtain ⟨this, r, rfl, hk, h⟩ := el_X7_firstThatCounts h0
  clear h0
  refine ⟨Nat.le_of_ble_eq_true rfl, ?_⟩
  show Go M_X7_firstThatCounts Q 0 [some (vr this), some (vr r), none, none] [] σ (0, 0)
  obtain ⟨hD, hr, hrn, css, vs, hL, hvl, hok, h1, h2⟩ := h
  obtain ⟨l1, l2, l3, l4, l5⟩ := hL
  have loop : ∀ (m k : Nat) (ρ : Hp), k + m = css.length → Fz dkF (fun r => r = this + 5) noR σ ρ → (∀ (l' : Nat) (v' : Int), l' < k → vs[l']? = some v' → wI v' = 0) → Go M_X7_firstThatCounts Q 4 [some (vr this), some (vr r), some (vi (ofS css k)), some (vi k)] [] ρ (0, 0) := by
    intro m
    induction m with
    | zero =>
      intro k ρ hk2 hz hno
      have h2 := h2 ρ hz (fun v hv => by
        obtain ⟨i, hi⟩ := List.getElem?_of_mem hv
        have := (List.getElem?_eq_some_iff.mp hi).1
        exact hno i v (by omega) hi)
      have hkρ : kd ρ this = 8 := by rw [hz.kd]; exact hk
      have e1 : fI ρ 807 this = css.length := by rw [hz.fI (by decide)]; exact l1
      clear h1 hno hok hz l4 l5
      refine go_X7_firstThatCounts (ct := fun p => p == 12) 40 ?_
      simp only [oI, oL, oR, o1, lI, lL, lR, popN, catS, gv, stL, stL2, swt, cnd, spObj, List.getElem?_cons_zero, List.getElem?_cons_succ, List.getD_cons_zero, List.getD_cons_succ, List.set_cons_zero, List.set_cons_succ, List.nil_append, List.cons_append, Option.toList, Bool.or_false, Bool.false_or, Bool.or_true, Bool.true_or, Nat.reduceBEq, Nat.reduceAdd, Nat.reduceLT, Nat.reduceLeDiff, Int.reduceAdd, Int.reduceToNat, true_and, and_true, Fin.isValue, Fin.val_zero, Fin.val_one, Fin.val_two, Fin.reduceFinMk, eq_self, Int.reduceNeg, imp_self, Nat.reduceMul, Nat.le_refl, not_true_eq_false, not_false_eq_true, List.getElem?_nil, reduceCtorEq, true_or, or_true, Classical.not_not, implies_true, or_self, wI_0, wI_1, wI_m1, b2i_w, b2i_eq0, b2i_eq1, b2i_bool, nor_self, nx_pI, kd_pI, ln_pI, fI_pI, fL_pI, fR_pI, aI_pI, aL_pI, aR_pI, nx_pL, kd_pL, ln_pL, fI_pL, fL_pL, fR_pL, aI_pL, aL_pL, aR_pL, nx_pR, kd_pR, ln_pR, fI_pR, fL_pR, fR_pR, aI_pR, aL_pR, aR_pR, nx_qI, kd_qI, ln_qI, fI_qI, fL_qI, fR_qI, aI_qI, aL_qI, aR_qI, nx_qL, kd_qL, ln_qL, fI_qL, fL_qL, fR_qL, aI_qL, aL_qL, aR_qL, nx_qR, kd_qR, ln_qR, fI_qR, fL_qR, fR_qR, aI_qR, aL_qR, aR_qR, nx_mk, kd_mk, ln_mk, fI_mk, fL_mk, fR_mk, aI_mk, aL_mk, aR_mk, false_and, and_false, if_false, if_true, and_self, Int.reduceEq, Nat.reduceEqDiff, ite_self, MLay_pI, MLay_pL, MLay_qI, MLay_qL, ev_X7_firstThatCounts_4, ev_X7_firstThatCounts_5, ev_X7_firstThatCounts_6, ev_X7_firstThatCounts_9, ev_X7_firstThatCounts_51, ev_X7_firstThatCounts_52, xt_X7_firstThatCounts, xf_X7_firstThatCounts, us_X7_reckon, hkρ, e1]
      try simp (disch := omega) only [wI_id, dv_nn, rm_nn]
      repeat' (first | intro z | apply And.intro)
      all_goals try omega
      all_goals try contradiction
      all_goals exact h2
    | succ m ih =>
      intro k ρ hk2 hz hno
      have hkl : k < css.length := by omega
      obtain ⟨c, hc⟩ : ∃ c, css[k]? = some c := ⟨_, List.getElem?_eq_getElem hkl⟩
      obtain ⟨okc, v, hv, hrun⟩ := hok k c hc
      have hkρ : kd ρ this = 8 := by rw [hz.kd]; exact hk
      have hDρ := hD.fz hz (by decide)
      obtain ⟨-, ⟨-, -, g3, -⟩, -, -, g8, -⟩ := id hDρ
      have e1 : fI ρ 807 this = css.length := by rw [hz.fI (by decide)]; exact l1
      have e2 : aI ρ (this + 3) k = ofS css (k + 1) := by rw [hz.aI (by omega)]; exact l4 k hkl
      have eo := ofS_s hc
      have hrρ : kd ρ r = 101 ∧ ln ρ r = 7 := by rw [hz.kd, hz.ln]; exact hr
      have eaI : aI ρ r = aI σ r := hz.aI hrn
      have hl0 : 0 ≤ ofS css k := by unfold ofS; omega
      have hle := ofS_le (css := css) (k + 1)
      have w33 : ∀ σ', Fz dkF (fun r => r = this + 5) noR ρ σ' → Go M_X7_firstThatCounts Q 33 [some (vr this), some (vr r), some (vi (ofS css k)), some (vi k)] [vi v] σ' (0, 0) := fun σ' z => by
        have hz2 := hz.tr z
        by_cases y : wI v = 0
        · have w := ih (k + 1) σ' (by omega) hz2 (fun l' v' hl' hv' => by
            by_cases e : l' = k
            · subst e
              rw [hv] at hv'
              cases hv'
              exact y
            · exact hno l' v' (by omega) hv')
          have hkσ : kd σ' this = 8 := by rw [hz2.kd]; exact hk
          have hDσ := hD.fz hz2 (by decide)
          obtain ⟨-, ⟨-, -, k3, -⟩, -, -, k8, -⟩ := id hDσ
          have e3 : aI σ' (this + 3) k = ofS css (k + 1) := by rw [hz2.aI (by omega)]; exact l4 k hkl
          clear ih h1 h2 hno hok hz hz2 z l4 l5
          refine go_X7_firstThatCounts (ct := fun p => p == 36 || p == 4) 40 ?_
          simp only [oI, oL, oR, o1, lI, lL, lR, popN, catS, gv, stL, stL2, swt, cnd, spObj, List.getElem?_cons_zero, List.getElem?_cons_succ, List.getD_cons_zero, List.getD_cons_succ, List.set_cons_zero, List.set_cons_succ, List.nil_append, List.cons_append, Option.toList, Bool.or_false, Bool.false_or, Bool.or_true, Bool.true_or, Nat.reduceBEq, Nat.reduceAdd, Nat.reduceLT, Nat.reduceLeDiff, Int.reduceAdd, Int.reduceToNat, true_and, and_true, Fin.isValue, Fin.val_zero, Fin.val_one, Fin.val_two, Fin.reduceFinMk, eq_self, Int.reduceNeg, imp_self, Nat.reduceMul, Nat.le_refl, not_true_eq_false, not_false_eq_true, List.getElem?_nil, reduceCtorEq, true_or, or_true, Classical.not_not, implies_true, or_self, wI_0, wI_1, wI_m1, b2i_w, b2i_eq0, b2i_eq1, b2i_bool, nor_self, nx_pI, kd_pI, ln_pI, fI_pI, fL_pI, fR_pI, aI_pI, aL_pI, aR_pI, nx_pL, kd_pL, ln_pL, fI_pL, fL_pL, fR_pL, aI_pL, aL_pL, aR_pL, nx_pR, kd_pR, ln_pR, fI_pR, fL_pR, fR_pR, aI_pR, aL_pR, aR_pR, nx_qI, kd_qI, ln_qI, fI_qI, fL_qI, fR_qI, aI_qI, aL_qI, aR_qI, nx_qL, kd_qL, ln_qL, fI_qL, fL_qL, fR_qL, aI_qL, aL_qL, aR_qL, nx_qR, kd_qR, ln_qR, fI_qR, fL_qR, fR_qR, aI_qR, aL_qR, aR_qR, nx_mk, kd_mk, ln_mk, fI_mk, fL_mk, fR_mk, aI_mk, aL_mk, aR_mk, false_and, and_false, if_false, if_true, and_self, Int.reduceEq, Nat.reduceEqDiff, ite_self, MLay_pI, MLay_pL, MLay_qI, MLay_qL, ev_X7_firstThatCounts_33, ev_X7_firstThatCounts_36, ev_X7_firstThatCounts_37, ev_X7_firstThatCounts_38, ev_X7_firstThatCounts_39, ev_X7_firstThatCounts_42, ev_X7_firstThatCounts_43, ev_X7_firstThatCounts_44, ev_X7_firstThatCounts_45, ev_X7_firstThatCounts_48, xt_X7_firstThatCounts, xf_X7_firstThatCounts, us_X7_reckon, hkσ, k3, k8, e3, y]
          try simp (disch := omega) only [wI_id, dv_nn, rm_nn]
          repeat' (first | intro z | apply And.intro)
          all_goals try omega
          all_goals try contradiction
          all_goals exact w
        · have h1 := h1 σ' k v hz2 hv y hno
          clear ih h2 hno hok hz hz2 z l4 l5
          refine go_X7_firstThatCounts (ct := fun p => p == 38) 40 ?_
          simp only [oI, oL, oR, o1, lI, lL, lR, popN, catS, gv, stL, stL2, swt, cnd, spObj, List.getElem?_cons_zero, List.getElem?_cons_succ, List.getD_cons_zero, List.getD_cons_succ, List.set_cons_zero, List.set_cons_succ, List.nil_append, List.cons_append, Option.toList, Bool.or_false, Bool.false_or, Bool.or_true, Bool.true_or, Nat.reduceBEq, Nat.reduceAdd, Nat.reduceLT, Nat.reduceLeDiff, Int.reduceAdd, Int.reduceToNat, true_and, and_true, Fin.isValue, Fin.val_zero, Fin.val_one, Fin.val_two, Fin.reduceFinMk, eq_self, Int.reduceNeg, imp_self, Nat.reduceMul, Nat.le_refl, not_true_eq_false, not_false_eq_true, List.getElem?_nil, reduceCtorEq, true_or, or_true, Classical.not_not, implies_true, or_self, wI_0, wI_1, wI_m1, b2i_w, b2i_eq0, b2i_eq1, b2i_bool, nor_self, nx_pI, kd_pI, ln_pI, fI_pI, fL_pI, fR_pI, aI_pI, aL_pI, aR_pI, nx_pL, kd_pL, ln_pL, fI_pL, fL_pL, fR_pL, aI_pL, aL_pL, aR_pL, nx_pR, kd_pR, ln_pR, fI_pR, fL_pR, fR_pR, aI_pR, aL_pR, aR_pR, nx_qI, kd_qI, ln_qI, fI_qI, fL_qI, fR_qI, aI_qI, aL_qI, aR_qI, nx_qL, kd_qL, ln_qL, fI_qL, fL_qL, fR_qL, aI_qL, aL_qL, aR_qL, nx_qR, kd_qR, ln_qR, fI_qR, fL_qR, fR_qR, aI_qR, aL_qR, aR_qR, nx_mk, kd_mk, ln_mk, fI_mk, fL_mk, fR_mk, aI_mk, aL_mk, aR_mk, false_and, and_false, if_false, if_true, and_self, Int.reduceEq, Nat.reduceEqDiff, ite_self, MLay_pI, MLay_pL, MLay_qI, MLay_qL, ev_X7_firstThatCounts_33, ev_X7_firstThatCounts_36, ev_X7_firstThatCounts_37, xt_X7_firstThatCounts, xf_X7_firstThatCounts, us_X7_reckon, y]
          repeat' (first | intro z | apply And.intro)
          all_goals try omega
          all_goals try contradiction
          all_goals exact h1
      have w21 : Go M_X7_firstThatCounts Q 30 [some (vr this), some (vr r), some (vi (ofS css k)), some (vi k)] [vr r, vi (ofS css (k + 1)), vi (ofS css k), vr this] ρ (0, 0) := by
        clear ih h1 h2 hno
        refine go_X7_firstThatCounts (ct := fun p => p == 33) 40 ?_
        simp only [oI, oL, oR, o1, lI, lL, lR, popN, catS, gv, stL, stL2, swt, cnd, spObj, List.getElem?_cons_zero, List.getElem?_cons_succ, List.getD_cons_zero, List.getD_cons_succ, List.set_cons_zero, List.set_cons_succ, List.nil_append, List.cons_append, Option.toList, Bool.or_false, Bool.false_or, Bool.or_true, Bool.true_or, Nat.reduceBEq, Nat.reduceAdd, Nat.reduceLT, Nat.reduceLeDiff, Int.reduceAdd, Int.reduceToNat, true_and, and_true, Fin.isValue, Fin.val_zero, Fin.val_one, Fin.val_two, Fin.reduceFinMk, eq_self, Int.reduceNeg, imp_self, Nat.reduceMul, Nat.le_refl, not_true_eq_false, not_false_eq_true, List.getElem?_nil, reduceCtorEq, true_or, or_true, Classical.not_not, implies_true, or_self, wI_0, wI_1, wI_m1, b2i_w, b2i_eq0, b2i_eq1, b2i_bool, nor_self, nx_pI, kd_pI, ln_pI, fI_pI, fL_pI, fR_pI, aI_pI, aL_pI, aR_pI, nx_pL, kd_pL, ln_pL, fI_pL, fL_pL, fR_pL, aI_pL, aL_pL, aR_pL, nx_pR, kd_pR, ln_pR, fI_pR, fL_pR, fR_pR, aI_pR, aL_pR, aR_pR, nx_qI, kd_qI, ln_qI, fI_qI, fL_qI, fR_qI, aI_qI, aL_qI, aR_qI, nx_qL, kd_qL, ln_qL, fI_qL, fL_qL, fR_qL, aI_qL, aL_qL, aR_qL, nx_qR, kd_qR, ln_qR, fI_qR, fL_qR, fR_qR, aI_qR, aL_qR, aR_qR, nx_mk, kd_mk, ln_mk, fI_mk, fL_mk, fR_mk, aI_mk, aL_mk, aR_mk, false_and, and_false, if_false, if_true, and_self, Int.reduceEq, Nat.reduceEqDiff, ite_self, MLay_pI, MLay_pL, MLay_qI, MLay_qL, ev_X7_firstThatCounts_30, xt_X7_firstThatCounts, xf_X7_firstThatCounts, us_X7_reckon, hkρ, hDρ, hrρ, hrn]
        refine ⟨c, v, ⟨hl0, eo, by omega⟩, fun j x hx => ?_, by rw [eaI]; exact okc, by rw [eaI]; exact hrun, w33⟩
        rw [hz.aI (by omega)]
        have := l5 _ x (ofS_at hc hx)
        rw [show (((css.take k).flatten.length + j : Nat) : Int) = ofS css k + j by unfold ofS; omega] at this
        exact this
      clear ih h1 h2 hno hok l4 l5 w33
      refine go_X7_firstThatCounts (ct := fun p => p == 51 || p == 30) 40 ?_
      simp only [oI, oL, oR, o1, lI, lL, lR, popN, catS, gv, stL, stL2, swt, cnd, spObj, List.getElem?_cons_zero, List.getElem?_cons_succ, List.getD_cons_zero, List.getD_cons_succ, List.set_cons_zero, List.set_cons_succ, List.nil_append, List.cons_append, Option.toList, Bool.or_false, Bool.false_or, Bool.or_true, Bool.true_or, Nat.reduceBEq, Nat.reduceAdd, Nat.reduceLT, Nat.reduceLeDiff, Int.reduceAdd, Int.reduceToNat, true_and, and_true, Fin.isValue, Fin.val_zero, Fin.val_one, Fin.val_two, Fin.reduceFinMk, eq_self, Int.reduceNeg, imp_self, Nat.reduceMul, Nat.le_refl, not_true_eq_false, not_false_eq_true, List.getElem?_nil, reduceCtorEq, true_or, or_true, Classical.not_not, implies_true, or_self, wI_0, wI_1, wI_m1, b2i_w, b2i_eq0, b2i_eq1, b2i_bool, nor_self, nx_pI, kd_pI, ln_pI, fI_pI, fL_pI, fR_pI, aI_pI, aL_pI, aR_pI, nx_pL, kd_pL, ln_pL, fI_pL, fL_pL, fR_pL, aI_pL, aL_pL, aR_pL, nx_pR, kd_pR, ln_pR, fI_pR, fL_pR, fR_pR, aI_pR, aL_pR, aR_pR, nx_qI, kd_qI, ln_qI, fI_qI, fL_qI, fR_qI, aI_qI, aL_qI, aR_qI, nx_qL, kd_qL, ln_qL, fI_qL, fL_qL, fR_qL, aI_qL, aL_qL, aR_qL, nx_qR, kd_qR, ln_qR, fI_qR, fL_qR, fR_qR, aI_qR, aL_qR, aR_qR, nx_mk, kd_mk, ln_mk, fI_mk, fL_mk, fR_mk, aI_mk, aL_mk, aR_mk, false_and, and_false, if_false, if_true, and_self, Int.reduceEq, Nat.reduceEqDiff, ite_self, MLay_pI, MLay_pL, MLay_qI, MLay_qL, ev_X7_firstThatCounts_4, ev_X7_firstThatCounts_5, ev_X7_firstThatCounts_6, ev_X7_firstThatCounts_9, ev_X7_firstThatCounts_12, ev_X7_firstThatCounts_13, ev_X7_firstThatCounts_14, ev_X7_firstThatCounts_17, ev_X7_firstThatCounts_18, ev_X7_firstThatCounts_21, ev_X7_firstThatCounts_22, ev_X7_firstThatCounts_23, ev_X7_firstThatCounts_24, ev_X7_firstThatCounts_27, ev_X7_firstThatCounts_28, ev_X7_firstThatCounts_29, xt_X7_firstThatCounts, xf_X7_firstThatCounts, us_X7_reckon, hkρ, e1, e2, g3, g8]
      try simp (disch := omega) only [wI_id, dv_nn, rm_nn]
      repeat' (first | intro z | apply And.intro)
      all_goals try omega
      all_goals try contradiction
      all_goals exact w21
  have w := loop css.length 0 σ (by omega) (Fz.rf σ) (fun l' v' hl' => by omega)
  have w : Go M_X7_firstThatCounts Q 4 [some (vr this), some (vr r), some (vi 0), some (vi 0)] [] σ (0, 0) := w
  clear h1 h2 loop hok
  refine go_X7_firstThatCounts (ct := fun p => p == 4) 20 ?_
  simp only [oI, oL, oR, o1, lI, lL, lR, popN, catS, gv, stL, stL2, swt, cnd, spObj, List.getElem?_cons_zero, List.getElem?_cons_succ, List.getD_cons_zero, List.getD_cons_succ, List.set_cons_zero, List.set_cons_succ, List.nil_append, List.cons_append, Option.toList, Bool.or_false, Bool.false_or, Bool.or_true, Bool.true_or, Nat.reduceBEq, Nat.reduceAdd, Nat.reduceLT, Nat.reduceLeDiff, Int.reduceAdd, Int.reduceToNat, true_and, and_true, Fin.isValue, Fin.val_zero, Fin.val_one, Fin.val_two, Fin.reduceFinMk, eq_self, Int.reduceNeg, imp_self, Nat.reduceMul, Nat.le_refl, not_true_eq_false, not_false_eq_true, List.getElem?_nil, reduceCtorEq, true_or, or_true, Classical.not_not, implies_true, or_self, wI_0, wI_1, wI_m1, b2i_w, b2i_eq0, b2i_eq1, b2i_bool, nor_self, nx_pI, kd_pI, ln_pI, fI_pI, fL_pI, fR_pI, aI_pI, aL_pI, aR_pI, nx_pL, kd_pL, ln_pL, fI_pL, fL_pL, fR_pL, aI_pL, aL_pL, aR_pL, nx_pR, kd_pR, ln_pR, fI_pR, fL_pR, fR_pR, aI_pR, aL_pR, aR_pR, nx_qI, kd_qI, ln_qI, fI_qI, fL_qI, fR_qI, aI_qI, aL_qI, aR_qI, nx_qL, kd_qL, ln_qL, fI_qL, fL_qL, fR_qL, aI_qL, aL_qL, aR_qL, nx_qR, kd_qR, ln_qR, fI_qR, fL_qR, fR_qR, aI_qR, aL_qR, aR_qR, nx_mk, kd_mk, ln_mk, fI_mk, fL_mk, fR_mk, aI_mk, aL_mk, aR_mk, false_and, and_false, if_false, if_true, and_self, Int.reduceEq, Nat.reduceEqDiff, ite_self, MLay_pI, MLay_pL, MLay_qI, MLay_qL, ev_X7_firstThatCounts_0, ev_X7_firstThatCounts_1, ev_X7_firstThatCounts_2, ev_X7_firstThatCounts_3, xt_X7_firstThatCounts, xf_X7_firstThatCounts, us_X7_reckon]
  exact w
