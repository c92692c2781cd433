/-! a list gets one more -/

def lPut (σ : Hp) (p x : Int) : Hp := pI (qR σ (fR σ 1401 p) (fI σ 1402 p) x) 1402 p (fI σ 1402 p + 1)
def lAd (σ : Hp) (p x : Int) : Hp := if fI σ 1402 p = ln σ (fR σ 1401 p) then lPut (lGrow σ p) p x else lPut σ p x

def sp_Jx4a65c_add_72be8 : Sp := fun av σ Q => oR av fun this av => oR av fun x av => oR av fun a av => oI av fun s av => av = [] ∧ kd σ this = 14 ∧ (a = fR σ 1401 this ∧ s = fI σ 1402 this ∧ (∃ ci, (ci = 0 ∨ ci = 2 ∨ ci = 5) ∧ LOk σ this ci ∧ kd σ x = ci + 1) ∧ fI σ 1402 this ≤ 100 ∧ Q none (lAd σ this x))
theorem us_Jx4a65c_add_72be8 (this : Int) (x : Int) (a : Int) (s : Int) (σ : Hp) (Q : Option AV → Hp → Prop) : sp_Jx4a65c_add_72be8 [vr this, vr x, vr a, vi s] σ Q = (kd σ this = 14 ∧ (a = fR σ 1401 this ∧ s = fI σ 1402 this ∧ (∃ ci, (ci = 0 ∨ ci = 2 ∨ ci = 5) ∧ LOk σ this ci ∧ kd σ x = ci + 1) ∧ fI σ 1402 this ≤ 100 ∧ Q none (lAd σ this x))) := propext ⟨fun h => h.2, fun h => ⟨rfl, h⟩⟩
theorem el_Jx4a65c_add_72be8 {av : List AV} {σ : Hp} {Q : Option AV → Hp → Prop} (h : sp_Jx4a65c_add_72be8 av σ Q) : ∃ (this : Int) (x : Int) (a : Int) (s : Int), av = [vr this, vr x, vr a, vi s] ∧ (kd σ this = 14 ∧ (a = fR σ 1401 this ∧ s = fI σ 1402 this ∧ (∃ ci, (ci = 0 ∨ ci = 2 ∨ ci = 5) ∧ LOk σ this ci ∧ kd σ x = ci + 1) ∧ fI σ 1402 this ≤ 100 ∧ Q none (lAd σ this x))) := by
  obtain ⟨this, a0, rfl, h0⟩ := oR_s h
  obtain ⟨x, a1, rfl, h1⟩ := oR_s h0
  obtain ⟨a, a2, rfl, h2⟩ := oR_s h1
  obtain ⟨s, a3, rfl, h3⟩ := oI_s h2
  obtain ⟨rfl, hz⟩ := h3
  exact ⟨this, x, a, s, rfl, hz⟩
theorem rc_Jx4a65c_add_72be8 : ∀ (av : List AV) (σ : Hp) (Q : Option AV → Hp → Prop), sp_Jx4a65c_add_72be8 av σ Q → ∃ r tl, av = vr r :: tl ∧ kd σ r = 13 + 1 := fun av σ Q h => by
  obtain ⟨this, x, a, s, rfl, hz, -⟩ := el_Jx4a65c_add_72be8 h
  exact ⟨this, _, rfl, hz⟩

def tb_Jx4a65c_add_72be8 : Tab := [(0, .iload_n 3, 1, (0, 0, 0, 0)), (1, .aload_n 2, 1, (0, 0, 0, 0)), (2, .arraylength, 1, (0, 0, 0, 0)), (3, .if_icmp .ne 8, 3, (0, 0, 0, 0)), (6, .aload_n 0, 1, (0, 0, 0, 0)), (7, .invokevirtual 129, 3, (0, 0, 0, 0)), (10, .astore_n 2, 1, (0, 0, 0, 0)), (11, .aload_n 2, 1, (0, 0, 0, 0)), (12, .iload_n 3, 1, (0, 0, 0, 0)), (13, .aload_n 1, 1, (0, 0, 0, 0)), (14, .aastore, 1, (0, 0, 0, 0)), (15, .aload_n 0, 1, (0, 0, 0, 0)), (16, .iload_n 3, 1, (0, 0, 0, 0)), (17, .iconst 1, 1, (0, 0, 0, 0)), (18, .iadd, 1, (0, 0, 0, 0)), (19, .putfield 48, 3, (14, 1402, 0, 0)), (22, .return_, 1, (0, 0, 0, 0))]
set_option maxRecDepth 100000 in
theorem tk_Jx4a65c_add_72be8 : TOK RJx4a65c false cJx4a65c_add_72be8 tb_Jx4a65c_add_72be8 := chkT_ok ft_Jx4a65c (by decide +kernel)
theorem rw_Jx4a65c_1032 : Row RJx4a65c (.invokevirtual 129) 3 1 1 150 5 sp_Jx4a65c_grow_d5877 := row_V (n := 0) (ci := 13) c_Jx4a65c_grow_d5877 ⟨TBL_in 639 (by decide +kernel) rfl, TBL_in 642 (by decide +kernel) rfl, TBL_in 115 (by decide +kernel) rfl, by decide +kernel, by decide⟩ (by decide) rfl (TBL_in 641 (by decide +kernel) rfl) (TBL_in 8 (by decide +kernel) rfl) rc_Jx4a65c_grow_d5877
def mt_Jx4a65c_add_72be8 : List (Nat × Mt) := [(1032, 1, 1, 150, 5, sp_Jx4a65c_grow_d5877), (6, 3, 0, 0, 0, spAst 105)]
theorem em_Jx4a65c_add_72be8 : mt_Jx4a65c_add_72be8.lookup 1032 = some (1, 1, 150, 5, sp_Jx4a65c_grow_d5877) ∧ mt_Jx4a65c_add_72be8.lookup 6 = some (3, 0, 0, 0, spAst 105) := ⟨rfl, rfl⟩
theorem mk_Jx4a65c_add_72be8 : MOK RJx4a65c mt_Jx4a65c_add_72be8 := by
  intro q hq
  simp only [mt_Jx4a65c_add_72be8, List.mem_cons, List.not_mem_nil, or_false] at hq
  rcases hq with rfl | rfl
  · exact rw_Jx4a65c_1032
  · exact row_ast
noncomputable def xe_Jx4a65c_add_72be8 (ct : Nat → Bool) (K : Kt) (R : Option AV → Hp → Prop) (n : Nat) : Kt := exS 4 6 1 150 0 tb_Jx4a65c_add_72be8 mt_Jx4a65c_add_72be8 ct K R n
noncomputable def xk_Jx4a65c_add_72be8 (ct : Nat → Bool) (K : Kt) (R : Option AV → Hp → Prop) (n : Nat) : Kt := exkS 4 6 1 150 0 tb_Jx4a65c_add_72be8 mt_Jx4a65c_add_72be8 ct K R n
theorem xt_Jx4a65c_add_72be8 {ct : Nat → Bool} {K : Kt} {R : Option AV → Hp → Prop} {n pc : Nat} {ls : List (Option AV)} {st : List AV} {σ : Hp} {k : Nat × Nat} (h : ct pc = true) : xk_Jx4a65c_add_72be8 ct K R n pc ls st σ k = K pc ls st σ k := by unfold xk_Jx4a65c_add_72be8 exkS; rw [h]
theorem xf_Jx4a65c_add_72be8 {ct : Nat → Bool} {K : Kt} {R : Option AV → Hp → Prop} {n pc : Nat} {ls : List (Option AV)} {st : List AV} {σ : Hp} {k : Nat × Nat} (h : ct pc = false) : xk_Jx4a65c_add_72be8 ct K R n pc ls st σ k = xe_Jx4a65c_add_72be8 ct K R n pc ls st σ k := by unfold xk_Jx4a65c_add_72be8 exkS xe_Jx4a65c_add_72be8; rw [h]
theorem ev_Jx4a65c_add_72be8_0 {ct : Nat → Bool} {K : Kt} {R : Option AV → Hp → Prop} {n : Nat} {ls : List (Option AV)} {st : List AV} {σ : Hp} {k : Nat × Nat} : xe_Jx4a65c_add_72be8 ct K R (n + 1) 0 ls st σ k = (lI ls 3 fun x => xk_Jx4a65c_add_72be8 ct K R n 1 ls (vi x :: st) σ k) := exS_step.trans rfl
theorem ev_Jx4a65c_add_72be8_1 {ct : Nat → Bool} {K : Kt} {R : Option AV → Hp → Prop} {n : Nat} {ls : List (Option AV)} {st : List AV} {σ : Hp} {k : Nat × Nat} : xe_Jx4a65c_add_72be8 ct K R (n + 1) 1 ls st σ k = (lR ls 2 fun x => xk_Jx4a65c_add_72be8 ct K R n 2 ls (vr x :: st) σ k) := exS_step.trans rfl
theorem ev_Jx4a65c_add_72be8_2 {ct : Nat → Bool} {K : Kt} {R : Option AV → Hp → Prop} {n : Nat} {ls : List (Option AV)} {st : List AV} {σ : Hp} {k : Nat × Nat} : xe_Jx4a65c_add_72be8 ct K R (n + 1) 2 ls st σ k = (oR st fun x st => (101 ≤ kd σ x ∨ kd σ x = 21) ∧ xk_Jx4a65c_add_72be8 ct K R n 3 ls (vi (ln σ x) :: st) σ k) := exS_step.trans rfl
theorem ev_Jx4a65c_add_72be8_3 {ct : Nat → Bool} {K : Kt} {R : Option AV → Hp → Prop} {n : Nat} {ls : List (Option AV)} {st : List AV} {σ : Hp} {k : Nat × Nat} : xe_Jx4a65c_add_72be8 ct K R (n + 1) 3 ls st σ k = (oI st fun y st => oI st fun x st => (¬ wI x = wI y → xk_Jx4a65c_add_72be8 ct K R n 11 ls st σ k) ∧ (¬ (¬ wI x = wI y) → xk_Jx4a65c_add_72be8 ct K R n 6 ls st σ k)) := exS_step.trans rfl
theorem ev_Jx4a65c_add_72be8_6 {ct : Nat → Bool} {K : Kt} {R : Option AV → Hp → Prop} {n : Nat} {ls : List (Option AV)} {st : List AV} {σ : Hp} {k : Nat × Nat} : xe_Jx4a65c_add_72be8 ct K R (n + 1) 6 ls st σ k = (lR ls 0 fun x => xk_Jx4a65c_add_72be8 ct K R n 7 ls (vr x :: st) σ k) := exS_step.trans rfl
theorem ev_Jx4a65c_add_72be8_7 {ct : Nat → Bool} {K : Kt} {R : Option AV → Hp → Prop} {n : Nat} {ls : List (Option AV)} {st : List AV} {σ : Hp} {k : Nat × Nat} : xe_Jx4a65c_add_72be8 ct K R (n + 1) 7 ls st σ k = (popN 1 st [] fun av rest => (catS rest ≤ 8 ∧ 5 < 6 ∧ k.1 + 1 ≤ 1 ∧ k.2 + 150 ≤ 150) ∧ (sp_Jx4a65c_grow_d5877) av σ fun v σ' => xk_Jx4a65c_add_72be8 ct K R n 10 ls (v.toList ++ rest) σ' (k.1 + 1, k.2 + 150)) := exS_step.trans rfl
theorem ev_Jx4a65c_add_72be8_10 {ct : Nat → Bool} {K : Kt} {R : Option AV → Hp → Prop} {n : Nat} {ls : List (Option AV)} {st : List AV} {σ : Hp} {k : Nat × Nat} : xe_Jx4a65c_add_72be8 ct K R (n + 1) 10 ls st σ k = (oR st fun x st => 2 < 4 ∧ xk_Jx4a65c_add_72be8 ct K R n 11 (stL ls 2 (vr x)) st σ k) := exS_step.trans rfl
theorem ev_Jx4a65c_add_72be8_11 {ct : Nat → Bool} {K : Kt} {R : Option AV → Hp → Prop} {n : Nat} {ls : List (Option AV)} {st : List AV} {σ : Hp} {k : Nat × Nat} : xe_Jx4a65c_add_72be8 ct K R (n + 1) 11 ls st σ k = (lR ls 2 fun x => xk_Jx4a65c_add_72be8 ct K R n 12 ls (vr x :: st) σ k) := exS_step.trans rfl
theorem ev_Jx4a65c_add_72be8_12 {ct : Nat → Bool} {K : Kt} {R : Option AV → Hp → Prop} {n : Nat} {ls : List (Option AV)} {st : List AV} {σ : Hp} {k : Nat × Nat} : xe_Jx4a65c_add_72be8 ct K R (n + 1) 12 ls st σ k = (lI ls 3 fun x => xk_Jx4a65c_add_72be8 ct K R n 13 ls (vi x :: st) σ k) := exS_step.trans rfl
theorem ev_Jx4a65c_add_72be8_13 {ct : Nat → Bool} {K : Kt} {R : Option AV → Hp → Prop} {n : Nat} {ls : List (Option AV)} {st : List AV} {σ : Hp} {k : Nat × Nat} : xe_Jx4a65c_add_72be8 ct K R (n + 1) 13 ls st σ k = (lR ls 1 fun x => xk_Jx4a65c_add_72be8 ct K R n 14 ls (vr x :: st) σ k) := exS_step.trans rfl
theorem ev_Jx4a65c_add_72be8_14 {ct : Nat → Bool} {K : Kt} {R : Option AV → Hp → Prop} {n : Nat} {ls : List (Option AV)} {st : List AV} {σ : Hp} {k : Nat × Nat} : xe_Jx4a65c_add_72be8 ct K R (n + 1) 14 ls st σ k = (popN 3 st [] fun av rest => (catS rest ≤ 8 ∧ 0 < 6 ∧ k.1 + 0 ≤ 1 ∧ k.2 + 0 ≤ 150) ∧ (spAst 105) av σ fun v σ' => xk_Jx4a65c_add_72be8 ct K R n 15 ls (v.toList ++ rest) σ' (k.1 + 0, k.2 + 0)) := exS_step.trans rfl
theorem ev_Jx4a65c_add_72be8_15 {ct : Nat → Bool} {K : Kt} {R : Option AV → Hp → Prop} {n : Nat} {ls : List (Option AV)} {st : List AV} {σ : Hp} {k : Nat × Nat} : xe_Jx4a65c_add_72be8 ct K R (n + 1) 15 ls st σ k = (lR ls 0 fun x => xk_Jx4a65c_add_72be8 ct K R n 16 ls (vr x :: st) σ k) := exS_step.trans rfl
theorem ev_Jx4a65c_add_72be8_16 {ct : Nat → Bool} {K : Kt} {R : Option AV → Hp → Prop} {n : Nat} {ls : List (Option AV)} {st : List AV} {σ : Hp} {k : Nat × Nat} : xe_Jx4a65c_add_72be8 ct K R (n + 1) 16 ls st σ k = (lI ls 3 fun x => xk_Jx4a65c_add_72be8 ct K R n 17 ls (vi x :: st) σ k) := exS_step.trans rfl
theorem ev_Jx4a65c_add_72be8_17 {ct : Nat → Bool} {K : Kt} {R : Option AV → Hp → Prop} {n : Nat} {ls : List (Option AV)} {st : List AV} {σ : Hp} {k : Nat × Nat} : xe_Jx4a65c_add_72be8 ct K R (n + 1) 17 ls st σ k = (xk_Jx4a65c_add_72be8 ct K R n 18 ls (vi (1) :: st) σ k) := exS_step.trans rfl
theorem ev_Jx4a65c_add_72be8_18 {ct : Nat → Bool} {K : Kt} {R : Option AV → Hp → Prop} {n : Nat} {ls : List (Option AV)} {st : List AV} {σ : Hp} {k : Nat × Nat} : xe_Jx4a65c_add_72be8 ct K R (n + 1) 18 ls st σ k = (oI st fun y st => oI st fun x st => xk_Jx4a65c_add_72be8 ct K R n 19 ls (vi (x + y) :: st) σ k) := exS_step.trans rfl
theorem ev_Jx4a65c_add_72be8_19 {ct : Nat → Bool} {K : Kt} {R : Option AV → Hp → Prop} {n : Nat} {ls : List (Option AV)} {st : List AV} {σ : Hp} {k : Nat × Nat} : xe_Jx4a65c_add_72be8 ct K R (n + 1) 19 ls st σ k = (oI st fun v st => oR st fun x st => kd σ x = 14 ∧ xk_Jx4a65c_add_72be8 ct K R n 22 ls st (pI σ 1402 x v) k) := exS_step.trans rfl
theorem ev_Jx4a65c_add_72be8_22 {ct : Nat → Bool} {K : Kt} {R : Option AV → Hp → Prop} {n : Nat} {ls : List (Option AV)} {st : List AV} {σ : Hp} {k : Nat × Nat} : xe_Jx4a65c_add_72be8 ct K R (n + 1) 22 ls st σ k = (st = [] ∧ 0 = 0 ∧ R none σ) := exS_step.trans rfl
def M_Jx4a65c_add_72be8 : Md := (yJx4a65c_add_72be8, cJx4a65c_add_72be8, 4, (none : Option FieldType), 6, 1, 150, 0, false, tb_Jx4a65c_add_72be8, mt_Jx4a65c_add_72be8)
theorem mm_Jx4a65c_add_72be8 : MMOK M_Jx4a65c_add_72be8 := ⟨by decide +kernel, tk_Jx4a65c_add_72be8, mk_Jx4a65c_add_72be8, rfl, fun h => by cases h⟩
theorem go_Jx4a65c_add_72be8 {Q : Option AV → Hp → Prop} {ct : Nat → Bool} {pc : Nat} {ls : List (Option AV)} {st : List AV} {σ : Hp} {k : Nat × Nat} (n : Nat) (h : xe_Jx4a65c_add_72be8 ct (Go M_Jx4a65c_add_72be8 Q) Q n pc ls st σ k) : Go M_Jx4a65c_add_72be8 Q pc ls st σ k := Go.exS mm_Jx4a65c_add_72be8 h

set_option maxRecDepth 20000 in
theorem c_Jx4a65c_add_72be8 : Ct yJx4a65c_add_72be8 cJx4a65c_add_72be8 4 ((none : Option FieldType)) 6 1 150 sp_Jx4a65c_add_72be8 := by
  refine Ct.go (M := M_Jx4a65c_add_72be8) mm_Jx4a65c_add_72be8 fun av σ Q h0 => ?_
  obtain ⟨this, x, a, s, rfl, hk, h⟩ := el_Jx4a65c_add_72be8 h0
  clear h0
  refine ⟨Nat.le_of_ble_eq_true rfl, ?_⟩
  show Go M_Jx4a65c_add_72be8 Q 0 [some (vr this), some (vr x), some (vr a), some (vi s)] [] σ (0, 0)
  obtain ⟨rfl, rfl, ⟨ci, hci, hL, hx⟩, h100, h⟩ := h
  have hL' : ∃ ci, (ci = 0 ∨ ci = 2 ∨ ci = 5) ∧ LOk σ this ci := ⟨ci, hci, hL⟩
  obtain ⟨l1, l2, l3, l4, l5, -⟩ := hL
  have hx3 : kd σ x = 1 ∨ kd σ x = 3 ∨ kd σ x = 6 := by omega
  refine Go.wf fun hw => ?_
  have hnx := hw.1
  have ht := (hw.2.1 this (by omega)).2.1
  have hxx := (hw.2.1 x (by omega)).2.1
  have hlb := hw.2.2.1 (fR σ 1401 this)
  have e1 : ¬ this = nx σ := by omega
  have e2 : ¬ x = nx σ := by omega
  have hpos : ¬ ln σ (fR σ 1401 this) = 0 → 0 < fR σ 1401 this := fun z => by
    have := hw.2.1 (fR σ 1401 this) (by omega)
    omega
  clear hw
  unfold lAd at h
  by_cases c : fI σ 1402 this = ln σ (fR σ 1401 this)
  · rw [if_pos c] at h
    have hg : 0 ≤ fI σ 1402 this ∧ fI σ 1402 this < gcap (ln σ (fR σ 1401 this)) := by
      unfold gcap
      rw [c]
      split
      · split <;> omega
      · omega
    have w10 : Go M_Jx4a65c_add_72be8 Q 10 [some (vr this), some (vr x), some (vr (fR σ 1401 this)), some (vi (fI σ 1402 this))] [vr (nx σ)] (lGrow σ this) (1, 150) := by
      unfold lPut lGrow at h
      unfold lGrow
      simp only [fI_pR, fR_pR, fI_cpR, fI_mk, and_self, eq_self, if_true] at h
      refine go_Jx4a65c_add_72be8 (ct := fun p => p == 99) 20 ?_
      simp only [oI, oL, oR, o1, lI, lL, lR, popN, catS, gv, stL, stL2, swt, cnd, spObj, List.getElem?_cons_zero, List.getElem?_cons_succ, List.getD_cons_zero, List.getD_cons_succ, List.set_cons_zero, List.set_cons_succ, List.nil_append, List.cons_append, Option.toList, Bool.or_false, Bool.false_or, Bool.or_true, Bool.true_or, Nat.reduceBEq, Nat.reduceAdd, Nat.reduceLT, Nat.reduceLeDiff, Int.reduceAdd, Int.reduceToNat, true_and, and_true, Fin.isValue, Fin.val_zero, Fin.val_one, Fin.val_two, Fin.reduceFinMk, eq_self, Int.reduceNeg, imp_self, Nat.reduceMul, Nat.le_refl, not_true_eq_false, not_false_eq_true, List.getElem?_nil, reduceCtorEq, true_or, or_true, Classical.not_not, implies_true, or_self, wI_0, wI_1, wI_m1, b2i_w, b2i_eq0, b2i_eq1, b2i_bool, nor_self, nx_pI, kd_pI, ln_pI, fI_pI, fL_pI, fR_pI, aI_pI, aL_pI, aR_pI, nx_pL, kd_pL, ln_pL, fI_pL, fL_pL, fR_pL, aI_pL, aL_pL, aR_pL, nx_pR, kd_pR, ln_pR, fI_pR, fL_pR, fR_pR, aI_pR, aL_pR, aR_pR, nx_qI, kd_qI, ln_qI, fI_qI, fL_qI, fR_qI, aI_qI, aL_qI, aR_qI, nx_qL, kd_qL, ln_qL, fI_qL, fL_qL, fR_qL, aI_qL, aL_qL, aR_qL, nx_qR, kd_qR, ln_qR, fI_qR, fL_qR, fR_qR, aI_qR, aL_qR, aR_qR, nx_mk, kd_mk, ln_mk, fI_mk, fL_mk, fR_mk, aI_mk, aL_mk, aR_mk, false_and, and_false, if_false, if_true, and_self, Int.reduceEq, Nat.reduceEqDiff, ite_self, MLay_pI, MLay_pL, MLay_qI, MLay_qL, ev_Jx4a65c_add_72be8_10, ev_Jx4a65c_add_72be8_11, ev_Jx4a65c_add_72be8_12, ev_Jx4a65c_add_72be8_13, ev_Jx4a65c_add_72be8_14, ev_Jx4a65c_add_72be8_15, ev_Jx4a65c_add_72be8_16, ev_Jx4a65c_add_72be8_17, ev_Jx4a65c_add_72be8_18, ev_Jx4a65c_add_72be8_19, ev_Jx4a65c_add_72be8_22, xt_Jx4a65c_add_72be8, xf_Jx4a65c_add_72be8, us_Jx4a65c_grow_d5877, us_Ast, kd_cpR, ln_cpR, fI_cpR, fR_cpR, aR_cpR, hk, e1, e2, hx3]
      repeat' (first | intro z | apply And.intro)
      all_goals try omega
      all_goals try contradiction
      all_goals exact h
    clear h
    refine go_Jx4a65c_add_72be8 (ct := fun p => p == 10 || p == 11) 20 ?_
    simp only [oI, oL, oR, o1, lI, lL, lR, popN, catS, gv, stL, stL2, swt, cnd, spObj, List.getElem?_cons_zero, List.getElem?_cons_succ, List.getD_cons_zero, List.getD_cons_succ, List.set_cons_zero, List.set_cons_succ, List.nil_append, List.cons_append, Option.toList, Bool.or_false, Bool.false_or, Bool.or_true, Bool.true_or, Nat.reduceBEq, Nat.reduceAdd, Nat.reduceLT, Nat.reduceLeDiff, Int.reduceAdd, Int.reduceToNat, true_and, and_true, Fin.isValue, Fin.val_zero, Fin.val_one, Fin.val_two, Fin.reduceFinMk, eq_self, Int.reduceNeg, imp_self, Nat.reduceMul, Nat.le_refl, not_true_eq_false, not_false_eq_true, List.getElem?_nil, reduceCtorEq, true_or, or_true, Classical.not_not, implies_true, or_self, wI_0, wI_1, wI_m1, b2i_w, b2i_eq0, b2i_eq1, b2i_bool, nor_self, nx_pI, kd_pI, ln_pI, fI_pI, fL_pI, fR_pI, aI_pI, aL_pI, aR_pI, nx_pL, kd_pL, ln_pL, fI_pL, fL_pL, fR_pL, aI_pL, aL_pL, aR_pL, nx_pR, kd_pR, ln_pR, fI_pR, fL_pR, fR_pR, aI_pR, aL_pR, aR_pR, nx_qI, kd_qI, ln_qI, fI_qI, fL_qI, fR_qI, aI_qI, aL_qI, aR_qI, nx_qL, kd_qL, ln_qL, fI_qL, fL_qL, fR_qL, aI_qL, aL_qL, aR_qL, nx_qR, kd_qR, ln_qR, fI_qR, fL_qR, fR_qR, aI_qR, aL_qR, aR_qR, nx_mk, kd_mk, ln_mk, fI_mk, fL_mk, fR_mk, aI_mk, aL_mk, aR_mk, false_and, and_false, if_false, if_true, and_self, Int.reduceEq, Nat.reduceEqDiff, ite_self, MLay_pI, MLay_pL, MLay_qI, MLay_qL, ev_Jx4a65c_add_72be8_0, ev_Jx4a65c_add_72be8_1, ev_Jx4a65c_add_72be8_2, ev_Jx4a65c_add_72be8_3, ev_Jx4a65c_add_72be8_6, ev_Jx4a65c_add_72be8_7, xt_Jx4a65c_add_72be8, xf_Jx4a65c_add_72be8, us_Jx4a65c_grow_d5877, hk, l2, c]
    try simp (disch := omega) only [wI_id, dv_nn, rm_nn]
    repeat' (first | intro z | apply And.intro)
    all_goals try omega
    all_goals try contradiction
    all_goals first | (rw [← c]; exact w10) | exact hL' | exact w10
  · rw [if_neg c] at h
    unfold lPut at h
    have hpos := hpos (by omega)
    refine go_Jx4a65c_add_72be8 (ct := fun p => p == 6) 20 ?_
    simp only [oI, oL, oR, o1, lI, lL, lR, popN, catS, gv, stL, stL2, swt, cnd, spObj, List.getElem?_cons_zero, List.getElem?_cons_succ, List.getD_cons_zero, List.getD_cons_succ, List.set_cons_zero, List.set_cons_succ, List.nil_append, List.cons_append, Option.toList, Bool.or_false, Bool.false_or, Bool.or_true, Bool.true_or, Nat.reduceBEq, Nat.reduceAdd, Nat.reduceLT, Nat.reduceLeDiff, Int.reduceAdd, Int.reduceToNat, true_and, and_true, Fin.isValue, Fin.val_zero, Fin.val_one, Fin.val_two, Fin.reduceFinMk, eq_self, Int.reduceNeg, imp_self, Nat.reduceMul, Nat.le_refl, not_true_eq_false, not_false_eq_true, List.getElem?_nil, reduceCtorEq, true_or, or_true, Classical.not_not, implies_true, or_self, wI_0, wI_1, wI_m1, b2i_w, b2i_eq0, b2i_eq1, b2i_bool, nor_self, nx_pI, kd_pI, ln_pI, fI_pI, fL_pI, fR_pI, aI_pI, aL_pI, aR_pI, nx_pL, kd_pL, ln_pL, fI_pL, fL_pL, fR_pL, aI_pL, aL_pL, aR_pL, nx_pR, kd_pR, ln_pR, fI_pR, fL_pR, fR_pR, aI_pR, aL_pR, aR_pR, nx_qI, kd_qI, ln_qI, fI_qI, fL_qI, fR_qI, aI_qI, aL_qI, aR_qI, nx_qL, kd_qL, ln_qL, fI_qL, fL_qL, fR_qL, aI_qL, aL_qL, aR_qL, nx_qR, kd_qR, ln_qR, fI_qR, fL_qR, fR_qR, aI_qR, aL_qR, aR_qR, nx_mk, kd_mk, ln_mk, fI_mk, fL_mk, fR_mk, aI_mk, aL_mk, aR_mk, false_and, and_false, if_false, if_true, and_self, Int.reduceEq, Nat.reduceEqDiff, ite_self, MLay_pI, MLay_pL, MLay_qI, MLay_qL, ev_Jx4a65c_add_72be8_0, ev_Jx4a65c_add_72be8_1, ev_Jx4a65c_add_72be8_2, ev_Jx4a65c_add_72be8_3, ev_Jx4a65c_add_72be8_11, ev_Jx4a65c_add_72be8_12, ev_Jx4a65c_add_72be8_13, ev_Jx4a65c_add_72be8_14, ev_Jx4a65c_add_72be8_15, ev_Jx4a65c_add_72be8_16, ev_Jx4a65c_add_72be8_17, ev_Jx4a65c_add_72be8_18, ev_Jx4a65c_add_72be8_19, ev_Jx4a65c_add_72be8_22, xt_Jx4a65c_add_72be8, xf_Jx4a65c_add_72be8, us_Jx4a65c_grow_d5877, us_Ast, hk, l2, hx3]
    try simp (disch := omega) only [wI_id, dv_nn, rm_nn]
    repeat' (first | intro z | apply And.intro)
    all_goals try omega
    all_goals try contradiction
    all_goals exact h

/-- what a list with one more is -/
def Added (σ : Hp) (p x : Int) (σ' : Hp) : Prop :=
  (nx σ ≤ nx σ' ∧ nx σ' ≤ nx σ + 1) ∧ (∀ k, k < nx σ → kd σ' k = kd σ k ∧ ln σ' k = ln σ k) ∧ (∀ k, nx σ ≤ k → k < nx σ' → kd σ' k = 105) ∧
  (∀ f k, ¬ (k = p ∧ (f = 1400 ∨ f = 1402)) → fI σ' f k = fI σ f k) ∧ fI σ' 1402 p = fI σ 1402 p + 1 ∧ fL σ' = fL σ ∧ (∀ f k, ¬ (f = 1401 ∧ k = p) → fR σ' f k = fR σ f k) ∧ aI σ' = aI σ ∧ aL σ' = aL σ ∧
  (∀ k j, k < nx σ → k ≠ fR σ 1401 p → aR σ' k j = aR σ k j) ∧ ((fR σ' 1401 p = nx σ ∧ nx σ' = nx σ + 1) ∨ (fR σ' 1401 p = fR σ 1401 p ∧ 0 < ln σ (fR σ 1401 p))) ∧
  (∀ i, 0 ≤ i → i < fI σ 1402 p → lat σ' p i = lat σ p i) ∧ lat σ' p (fI σ 1402 p) = x
theorem lAd_added {σ : Hp} (hw : Wf σ) {p x mo : Int} {ci : Nat} (hL : LOk σ p ci) (hx : kd σ x = ci + 1) (h100 : fI σ 1402 p ≤ 100) : Added σ p x (lAd (pI σ 1400 p mo) p x) ∧ LOk (lAd (pI σ 1400 p mo) p x) p ci := by
  obtain ⟨l1, l2, l3, l4, l5, l6⟩ := hL
  have hnx := hw.1
  have hp := (hw.2.1 p (by omega)).2.1
  have he := (hw.2.1 (fR σ 1401 p) (by omega)).2.1
  have hxx := (hw.2.1 x (by omega)).2.1
  have he9 : ∀ j, 0 ≤ j → j < fI σ 1402 p → aR σ (fR σ 1401 p) j < nx σ := fun j a b => (hw.2.1 _ (by rw [l6 j a b]; omega)).2.1
  have e0 : fI (pI σ 1400 p mo) 1402 p = fI σ 1402 p := by rw [fI_pI, if_neg (fun z => absurd z.1 (by decide))]
  unfold lAd
  rw [ln_pI, fR_pI, e0]
  by_cases c : fI σ 1402 p = ln σ (fR σ 1401 p)
  · have hg : ln σ (fR σ 1401 p) < gcap (ln σ (fR σ 1401 p)) ∧ gcap (ln σ (fR σ 1401 p)) ≤ 150 := by
      unfold gcap
      split
      · split <;> omega
      · omega
    rw [if_pos c]
    unfold lPut lGrow Added LOk lat
    rw [ln_pI, fR_pI]
    generalize gcap (ln σ (fR σ 1401 p)) = G at hg
    have hpn : ¬ p = nx σ := by omega
    have hxn : ¬ x = nx σ := by omega
    have hen : ¬ fR σ 1401 p = nx σ := by omega
    refine ⟨⟨⟨?_, ?_⟩, ?_, ?_, ?_, ?_, rfl, ?_, rfl, rfl, ?_, ?_, ?_, ?_⟩, ⟨?_, ?_, ⟨?_, ?_⟩, ?_, ?_, ?_⟩⟩
    all_goals simp only [nx_pI, kd_pI, ln_pI, fI_pI, fL_pI, fR_pI, aI_pI, aL_pI, aR_pI, nx_pR, kd_pR, ln_pR, fI_pR, fL_pR, fR_pR, aI_pR, aL_pR, aR_pR, nx_qI, kd_qI, ln_qI, fI_qI, fL_qI, fR_qI, aI_qI, aL_qI, aR_qI, nx_qR, kd_qR, ln_qR, fI_qR, fL_qR, fR_qR, aI_qR, aL_qR, aR_qR, nx_cpR, kd_cpR, ln_cpR, fI_cpR, fL_cpR, fR_cpR, aI_cpR, aL_cpR, aR_cpR, nx_mk, kd_mk, ln_mk, fI_mk, fL_mk, fR_mk, aI_mk, aL_mk, aR_mk, and_self, eq_self, if_true, true_and, and_true, Nat.reduceEqDiff, false_and, if_false, hpn, hen]
    all_goals grind
  · rw [if_neg c]
    unfold lPut Added LOk lat
    refine ⟨⟨⟨?_, ?_⟩, ?_, ?_, ?_, ?_, rfl, ?_, rfl, rfl, ?_, ?_, ?_, ?_⟩, ⟨?_, ?_, ⟨?_, ?_⟩, ?_, ?_, ?_⟩⟩
    all_goals simp only [nx_pI, kd_pI, ln_pI, fI_pI, fL_pI, fR_pI, aI_pI, aL_pI, aR_pI, nx_pR, kd_pR, ln_pR, fI_pR, fL_pR, fR_pR, aI_pR, aL_pR, aR_pR, nx_qI, kd_qI, ln_qI, fI_qI, fL_qI, fR_qI, aI_qI, aL_qI, aR_qI, nx_qR, kd_qR, ln_qR, fI_qR, fL_qR, fR_qR, aI_qR, aL_qR, aR_qR, nx_cpR, kd_cpR, ln_cpR, fI_cpR, fL_cpR, fR_cpR, aI_cpR, aL_cpR, aR_cpR, nx_mk, kd_mk, ln_mk, fI_mk, fL_mk, fR_mk, aI_mk, aL_mk, aR_mk, and_self, eq_self, if_true, true_and, and_true, Nat.reduceEqDiff, false_and, if_false]
    all_goals grind

def sp_Jx4a65c_add_9ea2d : Sp := fun av σ Q => oR av fun this av => oR av fun x av => av = [] ∧ kd σ this = 14 ∧ ((∃ ci, (ci = 0 ∨ ci = 2 ∨ ci = 5) ∧ LOk σ this ci ∧ kd σ x = ci + 1 ∧ fI σ 1402 this ≤ 100 ∧ ∀ σ', Added σ this x σ' → LOk σ' this ci → Q (some (vi 1)) σ'))
theorem us_Jx4a65c_add_9ea2d (this : Int) (x : Int) (σ : Hp) (Q : Option AV → Hp → Prop) : sp_Jx4a65c_add_9ea2d [vr this, vr x] σ Q = (kd σ this = 14 ∧ ((∃ ci, (ci = 0 ∨ ci = 2 ∨ ci = 5) ∧ LOk σ this ci ∧ kd σ x = ci + 1 ∧ fI σ 1402 this ≤ 100 ∧ ∀ σ', Added σ this x σ' → LOk σ' this ci → Q (some (vi 1)) σ'))) := propext ⟨fun h => h.2, fun h => ⟨rfl, h⟩⟩
theorem el_Jx4a65c_add_9ea2d {av : List AV} {σ : Hp} {Q : Option AV → Hp → Prop} (h : sp_Jx4a65c_add_9ea2d av σ Q) : ∃ (this : Int) (x : Int), av = [vr this, vr x] ∧ (kd σ this = 14 ∧ ((∃ ci, (ci = 0 ∨ ci = 2 ∨ ci = 5) ∧ LOk σ this ci ∧ kd σ x = ci + 1 ∧ fI σ 1402 this ≤ 100 ∧ ∀ σ', Added σ this x σ' → LOk σ' this ci → Q (some (vi 1)) σ'))) := by
  obtain ⟨this, a0, rfl, h0⟩ := oR_s h
  obtain ⟨x, a1, rfl, h1⟩ := oR_s h0
  obtain ⟨rfl, hz⟩ := h1
  exact ⟨this, x, rfl, hz⟩
theorem rc_Jx4a65c_add_9ea2d : ∀ (av : List AV) (σ : Hp) (Q : Option AV → Hp → Prop), sp_Jx4a65c_add_9ea2d av σ Q → ∃ r tl, av = vr r :: tl ∧ kd σ r = 13 + 1 := fun av σ Q h => by
  obtain ⟨this, x, rfl, hz, -⟩ := el_Jx4a65c_add_9ea2d h
  exact ⟨this, _, rfl, hz⟩

def tb_Jx4a65c_add_9ea2d : Tab := [(0, .aload_n 0, 1, (0, 0, 0, 0)), (1, .dup, 1, (0, 0, 0, 0)), (2, .getfield 63, 3, (14, 1400, 0, 0)), (5, .iconst 1, 1, (0, 0, 0, 0)), (6, .iadd, 1, (0, 0, 0, 0)), (7, .putfield 63, 3, (14, 1400, 0, 0)), (10, .aload_n 0, 1, (0, 0, 0, 0)), (11, .aload_n 1, 1, (0, 0, 0, 0)), (12, .aload_n 0, 1, (0, 0, 0, 0)), (13, .getfield 9, 3, (14, 1401, 2, 0)), (16, .aload_n 0, 1, (0, 0, 0, 0)), (17, .getfield 48, 3, (14, 1402, 0, 0)), (20, .invokevirtual 131, 3, (0, 0, 0, 0)), (23, .iconst 1, 1, (0, 0, 0, 0)), (24, .ireturn, 1, (0, 0, 0, 0))]
set_option maxRecDepth 100000 in
theorem tk_Jx4a65c_add_9ea2d : TOK RJx4a65c false cJx4a65c_add_9ea2d tb_Jx4a65c_add_9ea2d := chkT_ok ft_Jx4a65c (by decide +kernel)
theorem rw_Jx4a65c_1048 : Row RJx4a65c (.invokevirtual 131) 3 4 1 150 6 sp_Jx4a65c_add_72be8 := row_V (n := 3) (ci := 13) c_Jx4a65c_add_72be8 ⟨TBL_in 635 (by decide +kernel) rfl, TBL_in 638 (by decide +kernel) rfl, TBL_in 115 (by decide +kernel) rfl, by decide +kernel, by decide⟩ (by decide) rfl (TBL_in 637 (by decide +kernel) rfl) (TBL_in 7 (by decide +kernel) rfl) rc_Jx4a65c_add_72be8
def mt_Jx4a65c_add_9ea2d : List (Nat × Mt) := [(1048, 4, 1, 150, 6, sp_Jx4a65c_add_72be8)]
theorem em_Jx4a65c_add_9ea2d : mt_Jx4a65c_add_9ea2d.lookup 1048 = some (4, 1, 150, 6, sp_Jx4a65c_add_72be8) := rfl
theorem mk_Jx4a65c_add_9ea2d : MOK RJx4a65c mt_Jx4a65c_add_9ea2d := by
  intro q hq
  simp only [mt_Jx4a65c_add_9ea2d, List.mem_cons, List.not_mem_nil, or_false] at hq
  rcases hq with rfl
  · exact rw_Jx4a65c_1048
noncomputable def xe_Jx4a65c_add_9ea2d (ct : Nat → Bool) (K : Kt) (R : Option AV → Hp → Prop) (n : Nat) : Kt := exS 2 7 1 150 2 tb_Jx4a65c_add_9ea2d mt_Jx4a65c_add_9ea2d ct K R n
noncomputable def xk_Jx4a65c_add_9ea2d (ct : Nat → Bool) (K : Kt) (R : Option AV → Hp → Prop) (n : Nat) : Kt := exkS 2 7 1 150 2 tb_Jx4a65c_add_9ea2d mt_Jx4a65c_add_9ea2d ct K R n
theorem xt_Jx4a65c_add_9ea2d {ct : Nat → Bool} {K : Kt} {R : Option AV → Hp → Prop} {n pc : Nat} {ls : List (Option AV)} {st : List AV} {σ : Hp} {k : Nat × Nat} (h : ct pc = true) : xk_Jx4a65c_add_9ea2d ct K R n pc ls st σ k = K pc ls st σ k := by unfold xk_Jx4a65c_add_9ea2d exkS; rw [h]
theorem xf_Jx4a65c_add_9ea2d {ct : Nat → Bool} {K : Kt} {R : Option AV → Hp → Prop} {n pc : Nat} {ls : List (Option AV)} {st : List AV} {σ : Hp} {k : Nat × Nat} (h : ct pc = false) : xk_Jx4a65c_add_9ea2d ct K R n pc ls st σ k = xe_Jx4a65c_add_9ea2d ct K R n pc ls st σ k := by unfold xk_Jx4a65c_add_9ea2d exkS xe_Jx4a65c_add_9ea2d; rw [h]
theorem ev_Jx4a65c_add_9ea2d_0 {ct : Nat → Bool} {K : Kt} {R : Option AV → Hp → Prop} {n : Nat} {ls : List (Option AV)} {st : List AV} {σ : Hp} {k : Nat × Nat} : xe_Jx4a65c_add_9ea2d ct K R (n + 1) 0 ls st σ k = (lR ls 0 fun x => xk_Jx4a65c_add_9ea2d ct K R n 1 ls (vr x :: st) σ k) := exS_step.trans rfl
theorem ev_Jx4a65c_add_9ea2d_1 {ct : Nat → Bool} {K : Kt} {R : Option AV → Hp → Prop} {n : Nat} {ls : List (Option AV)} {st : List AV} {σ : Hp} {k : Nat × Nat} : xe_Jx4a65c_add_9ea2d ct K R (n + 1) 1 ls st σ k = (o1 st fun v st => xk_Jx4a65c_add_9ea2d ct K R n 2 ls (v :: v :: st) σ k) := exS_step.trans rfl
theorem ev_Jx4a65c_add_9ea2d_2 {ct : Nat → Bool} {K : Kt} {R : Option AV → Hp → Prop} {n : Nat} {ls : List (Option AV)} {st : List AV} {σ : Hp} {k : Nat × Nat} : xe_Jx4a65c_add_9ea2d ct K R (n + 1) 2 ls st σ k = (oR st fun x st => kd σ x = 14 ∧ xk_Jx4a65c_add_9ea2d ct K R n 5 ls (vi (fI σ 1400 x) :: st) σ k) := exS_step.trans rfl
theorem ev_Jx4a65c_add_9ea2d_5 {ct : Nat → Bool} {K : Kt} {R : Option AV → Hp → Prop} {n : Nat} {ls : List (Option AV)} {st : List AV} {σ : Hp} {k : Nat × Nat} : xe_Jx4a65c_add_9ea2d ct K R (n + 1) 5 ls st σ k = (xk_Jx4a65c_add_9ea2d ct K R n 6 ls (vi (1) :: st) σ k) := exS_step.trans rfl
theorem ev_Jx4a65c_add_9ea2d_6 {ct : Nat → Bool} {K : Kt} {R : Option AV → Hp → Prop} {n : Nat} {ls : List (Option AV)} {st : List AV} {σ : Hp} {k : Nat × Nat} : xe_Jx4a65c_add_9ea2d ct K R (n + 1) 6 ls st σ k = (oI st fun y st => oI st fun x st => xk_Jx4a65c_add_9ea2d ct K R n 7 ls (vi (x + y) :: st) σ k) := exS_step.trans rfl
theorem ev_Jx4a65c_add_9ea2d_7 {ct : Nat → Bool} {K : Kt} {R : Option AV → Hp → Prop} {n : Nat} {ls : List (Option AV)} {st : List AV} {σ : Hp} {k : Nat × Nat} : xe_Jx4a65c_add_9ea2d ct K R (n + 1) 7 ls st σ k = (oI st fun v st => oR st fun x st => kd σ x = 14 ∧ xk_Jx4a65c_add_9ea2d ct K R n 10 ls st (pI σ 1400 x v) k) := exS_step.trans rfl
theorem ev_Jx4a65c_add_9ea2d_10 {ct : Nat → Bool} {K : Kt} {R : Option AV → Hp → Prop} {n : Nat} {ls : List (Option AV)} {st : List AV} {σ : Hp} {k : Nat × Nat} : xe_Jx4a65c_add_9ea2d ct K R (n + 1) 10 ls st σ k = (lR ls 0 fun x => xk_Jx4a65c_add_9ea2d ct K R n 11 ls (vr x :: st) σ k) := exS_step.trans rfl
theorem ev_Jx4a65c_add_9ea2d_11 {ct : Nat → Bool} {K : Kt} {R : Option AV → Hp → Prop} {n : Nat} {ls : List (Option AV)} {st : List AV} {σ : Hp} {k : Nat × Nat} : xe_Jx4a65c_add_9ea2d ct K R (n + 1) 11 ls st σ k = (lR ls 1 fun x => xk_Jx4a65c_add_9ea2d ct K R n 12 ls (vr x :: st) σ k) := exS_step.trans rfl
theorem ev_Jx4a65c_add_9ea2d_12 {ct : Nat → Bool} {K : Kt} {R : Option AV → Hp → Prop} {n : Nat} {ls : List (Option AV)} {st : List AV} {σ : Hp} {k : Nat × Nat} : xe_Jx4a65c_add_9ea2d ct K R (n + 1) 12 ls st σ k = (lR ls 0 fun x => xk_Jx4a65c_add_9ea2d ct K R n 13 ls (vr x :: st) σ k) := exS_step.trans rfl
theorem ev_Jx4a65c_add_9ea2d_13 {ct : Nat → Bool} {K : Kt} {R : Option AV → Hp → Prop} {n : Nat} {ls : List (Option AV)} {st : List AV} {σ : Hp} {k : Nat × Nat} : xe_Jx4a65c_add_9ea2d ct K R (n + 1) 13 ls st σ k = (oR st fun x st => kd σ x = 14 ∧ xk_Jx4a65c_add_9ea2d ct K R n 16 ls (vr (fR σ 1401 x) :: st) σ k) := exS_step.trans rfl
theorem ev_Jx4a65c_add_9ea2d_16 {ct : Nat → Bool} {K : Kt} {R : Option AV → Hp → Prop} {n : Nat} {ls : List (Option AV)} {st : List AV} {σ : Hp} {k : Nat × Nat} : xe_Jx4a65c_add_9ea2d ct K R (n + 1) 16 ls st σ k = (lR ls 0 fun x => xk_Jx4a65c_add_9ea2d ct K R n 17 ls (vr x :: st) σ k) := exS_step.trans rfl
theorem ev_Jx4a65c_add_9ea2d_17 {ct : Nat → Bool} {K : Kt} {R : Option AV → Hp → Prop} {n : Nat} {ls : List (Option AV)} {st : List AV} {σ : Hp} {k : Nat × Nat} : xe_Jx4a65c_add_9ea2d ct K R (n + 1) 17 ls st σ k = (oR st fun x st => kd σ x = 14 ∧ xk_Jx4a65c_add_9ea2d ct K R n 20 ls (vi (fI σ 1402 x) :: st) σ k) := exS_step.trans rfl
theorem ev_Jx4a65c_add_9ea2d_20 {ct : Nat → Bool} {K : Kt} {R : Option AV → Hp → Prop} {n : Nat} {ls : List (Option AV)} {st : List AV} {σ : Hp} {k : Nat × Nat} : xe_Jx4a65c_add_9ea2d ct K R (n + 1) 20 ls st σ k = (popN 4 st [] fun av rest => (catS rest ≤ 8 ∧ 6 < 7 ∧ k.1 + 1 ≤ 1 ∧ k.2 + 150 ≤ 150) ∧ (sp_Jx4a65c_add_72be8) av σ fun v σ' => xk_Jx4a65c_add_9ea2d ct K R n 23 ls (v.toList ++ rest) σ' (k.1 + 1, k.2 + 150)) := exS_step.trans rfl
theorem ev_Jx4a65c_add_9ea2d_23 {ct : Nat → Bool} {K : Kt} {R : Option AV → Hp → Prop} {n : Nat} {ls : List (Option AV)} {st : List AV} {σ : Hp} {k : Nat × Nat} : xe_Jx4a65c_add_9ea2d ct K R (n + 1) 23 ls st σ k = (xk_Jx4a65c_add_9ea2d ct K R n 24 ls (vi (1) :: st) σ k) := exS_step.trans rfl
theorem ev_Jx4a65c_add_9ea2d_24 {ct : Nat → Bool} {K : Kt} {R : Option AV → Hp → Prop} {n : Nat} {ls : List (Option AV)} {st : List AV} {σ : Hp} {k : Nat × Nat} : xe_Jx4a65c_add_9ea2d ct K R (n + 1) 24 ls st σ k = (oI st fun x st => st = [] ∧ (x = 0 ∨ x = 1) ∧ R (some (vi x)) σ) := exS_step.trans rfl
def M_Jx4a65c_add_9ea2d : Md := (yJx4a65c_add_9ea2d, cJx4a65c_add_9ea2d, 2, (some FieldType.boolean), 7, 1, 150, 2, false, tb_Jx4a65c_add_9ea2d, mt_Jx4a65c_add_9ea2d)
theorem mm_Jx4a65c_add_9ea2d : MMOK M_Jx4a65c_add_9ea2d := ⟨by decide +kernel, tk_Jx4a65c_add_9ea2d, mk_Jx4a65c_add_9ea2d, rfl, fun h => by cases h⟩
theorem go_Jx4a65c_add_9ea2d {Q : Option AV → Hp → Prop} {ct : Nat → Bool} {pc : Nat} {ls : List (Option AV)} {st : List AV} {σ : Hp} {k : Nat × Nat} (n : Nat) (h : xe_Jx4a65c_add_9ea2d ct (Go M_Jx4a65c_add_9ea2d Q) Q n pc ls st σ k) : Go M_Jx4a65c_add_9ea2d Q pc ls st σ k := Go.exS mm_Jx4a65c_add_9ea2d h

set_option maxRecDepth 20000 in
theorem c_Jx4a65c_add_9ea2d : Ct yJx4a65c_add_9ea2d cJx4a65c_add_9ea2d 2 ((some FieldType.boolean)) 7 1 150 sp_Jx4a65c_add_9ea2d := by
  refine Ct.go (M := M_Jx4a65c_add_9ea2d) mm_Jx4a65c_add_9ea2d fun av σ Q h0 => ?_
  obtain ⟨this, x, rfl, hk, h⟩ := el_Jx4a65c_add_9ea2d h0
  clear h0
  refine ⟨Nat.le_of_ble_eq_true rfl, ?_⟩
  show Go M_Jx4a65c_add_9ea2d Q 0 [some (vr this), some (vr x)] [] σ (0, 0)
  obtain ⟨ci, hci, hL, hx, h100, h⟩ := h
  refine Go.wf fun hw => ?_
  have e := lAd_added hw (mo := fI σ 1400 this + 1) hL hx h100
  have h := h _ e.1 e.2
  have hL2 : ∃ ci, (ci = 0 ∨ ci = 2 ∨ ci = 5) ∧ LOk (pI σ 1400 this (fI σ 1400 this + 1)) this ci ∧ kd σ x = ci + 1 := ⟨ci, hci, by
    unfold LOk at hL ⊢
    simp only [kd_pI, ln_pI, fR_pI, aR_pI, fI_pI, Nat.reduceEqDiff, false_and, if_false]
    exact hL, hx⟩
  clear e hL hw
  refine go_Jx4a65c_add_9ea2d (ct := fun p => p == 99) 40 ?_
  simp only [oI, oL, oR, o1, lI, lL, lR, popN, catS, gv, stL, stL2, swt, cnd, spObj, List.getElem?_cons_zero, List.getElem?_cons_succ, List.getD_cons_zero, List.getD_cons_succ, List.set_cons_zero, List.set_cons_succ, List.nil_append, List.cons_append, Option.toList, Bool.or_false, Bool.false_or, Bool.or_true, Bool.true_or, Nat.reduceBEq, Nat.reduceAdd, Nat.reduceLT, Nat.reduceLeDiff, Int.reduceAdd, Int.reduceToNat, true_and, and_true, Fin.isValue, Fin.val_zero, Fin.val_one, Fin.val_two, Fin.reduceFinMk, eq_self, Int.reduceNeg, imp_self, Nat.reduceMul, Nat.le_refl, not_true_eq_false, not_false_eq_true, List.getElem?_nil, reduceCtorEq, true_or, or_true, Classical.not_not, implies_true, or_self, wI_0, wI_1, wI_m1, b2i_w, b2i_eq0, b2i_eq1, b2i_bool, nor_self, nx_pI, kd_pI, ln_pI, fI_pI, fL_pI, fR_pI, aI_pI, aL_pI, aR_pI, nx_pL, kd_pL, ln_pL, fI_pL, fL_pL, fR_pL, aI_pL, aL_pL, aR_pL, nx_pR, kd_pR, ln_pR, fI_pR, fL_pR, fR_pR, aI_pR, aL_pR, aR_pR, nx_qI, kd_qI, ln_qI, fI_qI, fL_qI, fR_qI, aI_qI, aL_qI, aR_qI, nx_qL, kd_qL, ln_qL, fI_qL, fL_qL, fR_qL, aI_qL, aL_qL, aR_qL, nx_qR, kd_qR, ln_qR, fI_qR, fL_qR, fR_qR, aI_qR, aL_qR, aR_qR, nx_mk, kd_mk, ln_mk, fI_mk, fL_mk, fR_mk, aI_mk, aL_mk, aR_mk, false_and, and_false, if_false, if_true, and_self, Int.reduceEq, Nat.reduceEqDiff, ite_self, MLay_pI, MLay_pL, MLay_qI, MLay_qL, ev_Jx4a65c_add_9ea2d_0, ev_Jx4a65c_add_9ea2d_1, ev_Jx4a65c_add_9ea2d_2, ev_Jx4a65c_add_9ea2d_5, ev_Jx4a65c_add_9ea2d_6, ev_Jx4a65c_add_9ea2d_7, ev_Jx4a65c_add_9ea2d_10, ev_Jx4a65c_add_9ea2d_11, ev_Jx4a65c_add_9ea2d_12, ev_Jx4a65c_add_9ea2d_13, ev_Jx4a65c_add_9ea2d_16, ev_Jx4a65c_add_9ea2d_17, ev_Jx4a65c_add_9ea2d_20, ev_Jx4a65c_add_9ea2d_23, ev_Jx4a65c_add_9ea2d_24, xt_Jx4a65c_add_9ea2d, xf_Jx4a65c_add_9ea2d, us_Jx4a65c_add_72be8, hk]
  repeat' (first | intro z | apply And.intro)
  all_goals try omega
  all_goals try contradiction
  all_goals first | exact hL2 | exact h
