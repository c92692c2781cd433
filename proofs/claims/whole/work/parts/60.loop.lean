
def sp_X9_hasOnTape : Sp := fun av σ Q => oR av fun this av => oI av fun tick av => av = [] ∧ kd σ this = 10 ∧ (kd σ (fR σ 1002 this) = 101 ∧ ln σ (fR σ 1002 this) = 500 ∧ (0 ≤ fI σ 1003 this ∧ fI σ 1003 this ≤ 500) ∧ Q (some (vi (b2i (∃ i, 0 ≤ i ∧ i < fI σ 1003 this ∧ wI (aI σ (fR σ 1002 this) i) = wI tick)))) σ)
theorem us_X9_hasOnTape (this : Int) (tick : Int) (σ : Hp) (Q : Option AV → Hp → Prop) : sp_X9_hasOnTape [vr this, vi tick] σ Q = (kd σ this = 10 ∧ (kd σ (fR σ 1002 this) = 101 ∧ ln σ (fR σ 1002 this) = 500 ∧ (0 ≤ fI σ 1003 this ∧ fI σ 1003 this ≤ 500) ∧ Q (some (vi (b2i (∃ i, 0 ≤ i ∧ i < fI σ 1003 this ∧ wI (aI σ (fR σ 1002 this) i) = wI tick)))) σ)) := propext ⟨fun h => h.2, fun h => ⟨rfl, h⟩⟩
theorem el_X9_hasOnTape {av : List AV} {σ : Hp} {Q : Option AV → Hp → Prop} (h : sp_X9_hasOnTape av σ Q) : ∃ (this : Int) (tick : Int), av = [vr this, vi tick] ∧ (kd σ this = 10 ∧ (kd σ (fR σ 1002 this) = 101 ∧ ln σ (fR σ 1002 this) = 500 ∧ (0 ≤ fI σ 1003 this ∧ fI σ 1003 this ≤ 500) ∧ Q (some (vi (b2i (∃ i, 0 ≤ i ∧ i < fI σ 1003 this ∧ wI (aI σ (fR σ 1002 this) i) = wI tick)))) σ)) := by
  obtain ⟨this, a0, rfl, h0⟩ := oR_s h
  obtain ⟨tick, a1, rfl, h1⟩ := oI_s h0
  obtain ⟨rfl, hz⟩ := h1
  exact ⟨this, tick, rfl, hz⟩
theorem rc_X9_hasOnTape : ∀ (av : List AV) (σ : Hp) (Q : Option AV → Hp → Prop), sp_X9_hasOnTape av σ Q → ∃ r tl, av = vr r :: tl ∧ kd σ r = 9 + 1 := fun av σ Q h => by
  obtain ⟨this, tick, rfl, hz, -⟩ := el_X9_hasOnTape h
  exact ⟨this, _, rfl, hz⟩

def tb_X9_hasOnTape : Tab := [(0, .iconst 0, 1, (0, 0, 0, 0)), (1, .istore_n 2, 1, (0, 0, 0, 0)), (2, .iload_n 2, 1, (0, 0, 0, 0)), (3, .aload_n 0, 1, (0, 0, 0, 0)), (4, .getfield 26, 3, (10, 1003, 0, 0)), (7, .if_icmp .ge 30, 3, (0, 0, 0, 0)), (10, .iload_n 2, 1, (0, 0, 0, 0)), (11, .aload_n 0, 1, (0, 0, 0, 0)), (12, .getfield 22, 3, (10, 1002, 2, 0)), (15, .arraylength, 1, (0, 0, 0, 0)), (16, .if_icmp .ge 21, 3, (0, 0, 0, 0)), (19, .aload_n 0, 1, (0, 0, 0, 0)), (20, .getfield 22, 3, (10, 1002, 2, 0)), (23, .iload_n 2, 1, (0, 0, 0, 0)), (24, .iaload, 1, (0, 0, 0, 0)), (25, .iload_n 1, 1, (0, 0, 0, 0)), (26, .if_icmp .ne 5, 3, (0, 0, 0, 0)), (29, .iconst 1, 1, (0, 0, 0, 0)), (30, .ireturn, 1, (0, 0, 0, 0)), (31, .iinc 2 1, 3, (0, 0, 0, 0)), (34, .goto (-32), 3, (0, 0, 0, 0)), (37, .iconst 0, 1, (0, 0, 0, 0)), (38, .ireturn, 1, (0, 0, 0, 0))]
set_option maxRecDepth 100000 in
theorem tk_X9_hasOnTape : TOK RX9 false cX9_hasOnTape tb_X9_hasOnTape := chkT_ok ft_X9 (by decide +kernel)
def mt_X9_hasOnTape : List (Nat × Mt) := []
theorem mk_X9_hasOnTape : MOK RX9 mt_X9_hasOnTape := fun q hq => by cases hq
def xe_X9_hasOnTape (ct : Nat → Bool) (K : Kt) (R : Option AV → Hp → Prop) (n : Nat) : Kt := ex 3 1 0 0 2 tb_X9_hasOnTape mt_X9_hasOnTape ct K R n
def xk_X9_hasOnTape (ct : Nat → Bool) (K : Kt) (R : Option AV → Hp → Prop) (n : Nat) : Kt := fun pc ls st σ k => match ct pc with | true => K pc ls st σ k | false => xe_X9_hasOnTape ct K R n pc ls st σ k
theorem xt_X9_hasOnTape {ct : Nat → Bool} {K : Kt} {R : Option AV → Hp → Prop} {n pc : Nat} {ls : List (Option AV)} {st : List AV} {σ : Hp} {k : Nat × Nat} (h : ct pc = true) : xk_X9_hasOnTape ct K R n pc ls st σ k = K pc ls st σ k := by unfold xk_X9_hasOnTape; rw [h]
theorem xf_X9_hasOnTape {ct : Nat → Bool} {K : Kt} {R : Option AV → Hp → Prop} {n pc : Nat} {ls : List (Option AV)} {st : List AV} {σ : Hp} {k : Nat × Nat} (h : ct pc = false) : xk_X9_hasOnTape ct K R n pc ls st σ k = xe_X9_hasOnTape ct K R n pc ls st σ k := by unfold xk_X9_hasOnTape; rw [h]
theorem ev_X9_hasOnTape {ct : Nat → Bool} {K : Kt} {R : Option AV → Hp → Prop} {n : Nat} {ls : List (Option AV)} {st : List AV} {σ : Hp} {k : Nat × Nat} :
  xe_X9_hasOnTape ct K R (n + 1) 0 ls st σ k = (xk_X9_hasOnTape ct K R n 1 ls (vi (0) :: st) σ k) ∧
  xe_X9_hasOnTape ct K R (n + 1) 1 ls st σ k = (oI st fun x st => 2 < 3 ∧ xk_X9_hasOnTape ct K R n 2 (stL ls 2 (vi x)) st σ k) ∧
  xe_X9_hasOnTape ct K R (n + 1) 2 ls st σ k = (lI ls 2 fun x => xk_X9_hasOnTape ct K R n 3 ls (vi x :: st) σ k) ∧
  xe_X9_hasOnTape ct K R (n + 1) 3 ls st σ k = (lR ls 0 fun x => xk_X9_hasOnTape ct K R n 4 ls (vr x :: st) σ k) ∧
  xe_X9_hasOnTape ct K R (n + 1) 4 ls st σ k = (oR st fun x st => kd σ x = 10 ∧ xk_X9_hasOnTape ct K R n 7 ls (vi (fI σ 1003 x) :: st) σ k) ∧
  xe_X9_hasOnTape ct K R (n + 1) 7 ls st σ k = (oI st fun y st => oI st fun x st => (wI y ≤ wI x → xk_X9_hasOnTape ct K R n 37 ls st σ k) ∧ (¬ (wI y ≤ wI x) → xk_X9_hasOnTape ct K R n 10 ls st σ k)) ∧
  xe_X9_hasOnTape ct K R (n + 1) 10 ls st σ k = (lI ls 2 fun x => xk_X9_hasOnTape ct K R n 11 ls (vi x :: st) σ k) ∧
  xe_X9_hasOnTape ct K R (n + 1) 11 ls st σ k = (lR ls 0 fun x => xk_X9_hasOnTape ct K R n 12 ls (vr x :: st) σ k) ∧
  xe_X9_hasOnTape ct K R (n + 1) 12 ls st σ k = (oR st fun x st => kd σ x = 10 ∧ xk_X9_hasOnTape ct K R n 15 ls (vr (fR σ 1002 x) :: st) σ k) ∧
  xe_X9_hasOnTape ct K R (n + 1) 15 ls st σ k = (oR st fun x st => (101 ≤ kd σ x ∨ kd σ x = 21) ∧ xk_X9_hasOnTape ct K R n 16 ls (vi (ln σ x) :: st) σ k) ∧
  xe_X9_hasOnTape ct K R (n + 1) 16 ls st σ k = (oI st fun y st => oI st fun x st => (wI y ≤ wI x → xk_X9_hasOnTape ct K R n 37 ls st σ k) ∧ (¬ (wI y ≤ wI x) → xk_X9_hasOnTape ct K R n 19 ls st σ k)) ∧
  xe_X9_hasOnTape ct K R (n + 1) 19 ls st σ k = (lR ls 0 fun x => xk_X9_hasOnTape ct K R n 20 ls (vr x :: st) σ k) ∧
  xe_X9_hasOnTape ct K R (n + 1) 20 ls st σ k = (oR st fun x st => kd σ x = 10 ∧ xk_X9_hasOnTape ct K R n 23 ls (vr (fR σ 1002 x) :: st) σ k) ∧
  xe_X9_hasOnTape ct K R (n + 1) 23 ls st σ k = (lI ls 2 fun x => xk_X9_hasOnTape ct K R n 24 ls (vi x :: st) σ k) ∧
  xe_X9_hasOnTape ct K R (n + 1) 24 ls st σ k = (oI st fun j st => oR st fun x st => (kd σ x = 101 ∨ kd σ x = 108) ∧ (0 ≤ j ∧ j < ln σ x) ∧ xk_X9_hasOnTape ct K R n 25 ls (vi (aI σ x j) :: st) σ k) ∧
  xe_X9_hasOnTape ct K R (n + 1) 25 ls st σ k = (lI ls 1 fun x => xk_X9_hasOnTape ct K R n 26 ls (vi x :: st) σ k) ∧
  xe_X9_hasOnTape ct K R (n + 1) 26 ls st σ k = (oI st fun y st => oI st fun x st => (¬ wI x = wI y → xk_X9_hasOnTape ct K R n 31 ls st σ k) ∧ (¬ (¬ wI x = wI y) → xk_X9_hasOnTape ct K R n 29 ls st σ k)) ∧
  xe_X9_hasOnTape ct K R (n + 1) 29 ls st σ k = (xk_X9_hasOnTape ct K R n 30 ls (vi (1) :: st) σ k) ∧
  xe_X9_hasOnTape ct K R (n + 1) 30 ls st σ k = (oI st fun x st => st = [] ∧ (x = 0 ∨ x = 1) ∧ R (some (vi x)) σ) ∧
  xe_X9_hasOnTape ct K R (n + 1) 31 ls st σ k = (lI ls 2 fun x => 2 < 3 ∧ xk_X9_hasOnTape ct K R n 34 (stL ls 2 (vi (x + (1)))) st σ k) ∧
  xe_X9_hasOnTape ct K R (n + 1) 34 ls st σ k = (xk_X9_hasOnTape ct K R n 2 ls st σ k) ∧
  xe_X9_hasOnTape ct K R (n + 1) 37 ls st σ k = (xk_X9_hasOnTape ct K R n 38 ls (vi (0) :: st) σ k) ∧
  xe_X9_hasOnTape ct K R (n + 1) 38 ls st σ k = (oI st fun x st => st = [] ∧ (x = 0 ∨ x = 1) ∧ R (some (vi x)) σ) :=
  ⟨rfl, rfl, rfl, rfl, rfl, rfl, rfl, rfl, rfl, rfl, rfl, rfl, rfl, rfl, rfl, rfl, rfl, rfl, rfl, rfl, rfl, rfl, rfl⟩
def M_X9_hasOnTape : Md := (yX9_hasOnTape, cX9_hasOnTape, 3, (some FieldType.boolean), 1, 0, 0, 2, false, tb_X9_hasOnTape, mt_X9_hasOnTape)
theorem mm_X9_hasOnTape : MMOK M_X9_hasOnTape := ⟨by decide +kernel, tk_X9_hasOnTape, mk_X9_hasOnTape, rfl, fun h => by cases h⟩
theorem go_X9_hasOnTape {Q : Option AV → Hp → Prop} {ct : Nat → Bool} {pc : Nat} {ls : List (Option AV)} {st : List AV} {σ : Hp} {k : Nat × Nat} (n : Nat) (h : xe_X9_hasOnTape ct (Go M_X9_hasOnTape Q) Q n pc ls st σ k) : Go M_X9_hasOnTape Q pc ls st σ k := Go.ex mm_X9_hasOnTape h

set_option maxRecDepth 20000 in
theorem c_X9_hasOnTape : Ct yX9_hasOnTape cX9_hasOnTape 3 ((some FieldType.boolean)) 1 0 0 sp_X9_hasOnTape := by
  refine Ct.go (M := M_X9_hasOnTape) mm_X9_hasOnTape fun av σ Q h => ?_
  obtain ⟨this, tick, rfl, hk, h⟩ := el_X9_hasOnTape h
  refine ⟨Nat.le_of_ble_eq_true rfl, ?_⟩
  show Go M_X9_hasOnTape Q 0 [some (vr this), some (vi tick), none] [] σ (0, 0)
  obtain ⟨h1, h2, h3, hQ⟩ := h
  have loop : ∀ (n : Nat) (i : Int), 0 ≤ i → i + n = fI σ 1003 this → (∀ j, 0 ≤ j → j < i → ¬ wI (aI σ (fR σ 1002 this) j) = wI tick) → Go M_X9_hasOnTape Q 2 [some (vr this), some (vi tick), some (vi i)] [] σ (0, 0) := by
    intro n
    induction n with
    | zero =>
      intro i hi hn hno
      refine go_X9_hasOnTape (ct := fun p => p == 2) 40 ?_
      simp only [oI, oL, oR, o1, lI, lL, lR, popN, catS, gv, stL, stL2, swt, cnd, spObj, List.getElem?_cons_zero, List.getElem?_cons_succ, List.getD_cons_zero, List.getD_cons_succ, List.set_cons_zero, List.set_cons_succ, List.nil_append, List.cons_append, Option.toList, Bool.or_false, Bool.false_or, Bool.or_true, Bool.true_or, Nat.reduceBEq, Nat.reduceAdd, Nat.reduceLT, Nat.reduceLeDiff, Int.reduceAdd, Int.reduceToNat, true_and, and_true, Fin.isValue, Fin.val_zero, Fin.val_one, Fin.val_two, Fin.reduceFinMk, eq_self, Int.reduceNeg, imp_self, Nat.reduceMul, Nat.le_refl, not_true_eq_false, not_false_eq_true, List.getElem?_nil, reduceCtorEq, true_or, or_true, Classical.not_not, implies_true, or_self, wI_0, wI_1, wI_m1, b2i_w, b2i_eq0, b2i_eq1, b2i_bool, MLay_pI, MLay_pL, MLay_qI, MLay_qL, ev_X9_hasOnTape, xt_X9_hasOnTape, xf_X9_hasOnTape, hk, h1, h2]
      simp (disch := omega) only [wI_id, true_and]
      refine ⟨fun _ => ?_, fun z => absurd (by omega) z⟩
      rw [b2i_f (by rintro ⟨j, a, b, c⟩; exact hno j a (by omega) c)] at hQ
      exact hQ
    | succ n ih =>
      intro i hi hn hno
      refine go_X9_hasOnTape (ct := fun p => p == 2) 40 ?_
      simp only [oI, oL, oR, o1, lI, lL, lR, popN, catS, gv, stL, stL2, swt, cnd, spObj, List.getElem?_cons_zero, List.getElem?_cons_succ, List.getD_cons_zero, List.getD_cons_succ, List.set_cons_zero, List.set_cons_succ, List.nil_append, List.cons_append, Option.toList, Bool.or_false, Bool.false_or, Bool.or_true, Bool.true_or, Nat.reduceBEq, Nat.reduceAdd, Nat.reduceLT, Nat.reduceLeDiff, Int.reduceAdd, Int.reduceToNat, true_and, and_true, Fin.isValue, Fin.val_zero, Fin.val_one, Fin.val_two, Fin.reduceFinMk, eq_self, Int.reduceNeg, imp_self, Nat.reduceMul, Nat.le_refl, not_true_eq_false, not_false_eq_true, List.getElem?_nil, reduceCtorEq, true_or, or_true, Classical.not_not, implies_true, or_self, wI_0, wI_1, wI_m1, b2i_w, b2i_eq0, b2i_eq1, b2i_bool, MLay_pI, MLay_pL, MLay_qI, MLay_qL, ev_X9_hasOnTape, xt_X9_hasOnTape, xf_X9_hasOnTape, hk, h1, h2]
      simp (disch := omega) only [wI_id, true_and]
      refine ⟨fun z => absurd z (by omega), fun _ => ⟨fun z => absurd z (by omega), fun _ => ⟨by omega, fun hne => ?_, fun he => ?_⟩⟩⟩
      · refine ih (i + 1) (by omega) (by omega) fun j a b c => ?_
        by_cases e : j = i
        · subst e; exact hne c
        · exact hno j a (by omega) c
      · rw [b2i_t ⟨i, by omega, by omega, he⟩] at hQ
        exact hQ
  refine go_X9_hasOnTape (ct := fun p => p == 2) 40 ?_
  simp only [oI, oL, oR, o1, lI, lL, lR, popN, catS, gv, stL, stL2, swt, cnd, spObj, List.getElem?_cons_zero, List.getElem?_cons_succ, List.getD_cons_zero, List.getD_cons_succ, List.set_cons_zero, List.set_cons_succ, List.nil_append, List.cons_append, Option.toList, Bool.or_false, Bool.false_or, Bool.or_true, Bool.true_or, Nat.reduceBEq, Nat.reduceAdd, Nat.reduceLT, Nat.reduceLeDiff, Int.reduceAdd, Int.reduceToNat, true_and, and_true, Fin.isValue, Fin.val_zero, Fin.val_one, Fin.val_two, Fin.reduceFinMk, eq_self, Int.reduceNeg, imp_self, Nat.reduceMul, Nat.le_refl, not_true_eq_false, not_false_eq_true, List.getElem?_nil, reduceCtorEq, true_or, or_true, Classical.not_not, implies_true, or_self, wI_0, wI_1, wI_m1, b2i_w, b2i_eq0, b2i_eq1, b2i_bool, MLay_pI, MLay_pL, MLay_qI, MLay_qL, ev_X9_hasOnTape, xt_X9_hasOnTape, xf_X9_hasOnTape]
  exact loop (fI σ 1003 this).toNat 0 (by omega) (by omega) (fun j a b => by omega)
