/-! the JDK's own methods: strings -/

def sp_J0_isLatin1_aae02 : Sp := fun av σ Q => oR av fun this av => av = [] ∧ kd σ this = 20 ∧ (fI σ 3001 0 = 1 ∧ fI σ 2001 this = 0 ∧ Q (some (vi 1)) σ)
theorem us_J0_isLatin1_aae02 (this : Int) (σ : Hp) (Q : Option AV → Hp → Prop) : sp_J0_isLatin1_aae02 [vr this] σ Q = (kd σ this = 20 ∧ (fI σ 3001 0 = 1 ∧ fI σ 2001 this = 0 ∧ Q (some (vi 1)) σ)) := propext ⟨fun h => h.2, fun h => ⟨rfl, h⟩⟩
theorem el_J0_isLatin1_aae02 {av : List AV} {σ : Hp} {Q : Option AV → Hp → Prop} (h : sp_J0_isLatin1_aae02 av σ Q) : ∃ (this : Int), av = [vr this] ∧ (kd σ this = 20 ∧ (fI σ 3001 0 = 1 ∧ fI σ 2001 this = 0 ∧ Q (some (vi 1)) σ)) := by
  obtain ⟨this, a0, rfl, h0⟩ := oR_s h
  obtain ⟨rfl, hz⟩ := h0
  exact ⟨this, rfl, hz⟩
theorem rc_J0_isLatin1_aae02 : ∀ (av : List AV) (σ : Hp) (Q : Option AV → Hp → Prop), sp_J0_isLatin1_aae02 av σ Q → ∃ r tl, av = vr r :: tl ∧ kd σ r = 19 + 1 := fun av σ Q h => by
  obtain ⟨this, rfl, hz, -⟩ := el_J0_isLatin1_aae02 h
  exact ⟨this, _, rfl, hz⟩

def tb_J0_isLatin1_aae02 : Tab := [(0, .getstatic 38, 3, (0, 0, 0, 0)), (3, .ifCond .eq 14, 3, (0, 0, 0, 0)), (6, .aload_n 0, 1, (0, 0, 0, 0)), (10, .ifCond .ne 7, 3, (0, 0, 0, 0)), (13, .iconst 1, 1, (0, 0, 0, 0)), (14, .goto 4, 3, (0, 0, 0, 0)), (17, .iconst 0, 1, (0, 0, 0, 0)), (18, .ireturn, 1, (0, 0, 0, 0))]
set_option maxRecDepth 100000 in
theorem tk_J0_isLatin1_aae02 : TOK RJ0 false cJ0_isLatin1_aae02 tb_J0_isLatin1_aae02 := chkT_ok ft_J0 (by decide +kernel)
def mt_J0_isLatin1_aae02 : List (Nat × Mt) := [(307, 0, 0, 0, 0, spGsI 3001)]
theorem em_J0_isLatin1_aae02 : mt_J0_isLatin1_aae02.lookup 307 = some (0, 0, 0, 0, spGsI 3001) := rfl
theorem mk_J0_isLatin1_aae02 : MOK RJ0 mt_J0_isLatin1_aae02 := by
  intro q hq
  simp only [mt_J0_isLatin1_aae02, List.mem_cons, List.not_mem_nil, or_false] at hq
  rcases hq with rfl
  · exact row_gsC (TBL_in 958 (by decide +kernel) rfl)
noncomputable def xe_J0_isLatin1_aae02 (ct : Nat → Bool) (K : Kt) (R : Option AV → Hp → Prop) (n : Nat) : Kt := exS 1 1 0 0 2 tb_J0_isLatin1_aae02 mt_J0_isLatin1_aae02 ct K R n
noncomputable def xk_J0_isLatin1_aae02 (ct : Nat → Bool) (K : Kt) (R : Option AV → Hp → Prop) (n : Nat) : Kt := exkS 1 1 0 0 2 tb_J0_isLatin1_aae02 mt_J0_isLatin1_aae02 ct K R n
theorem xt_J0_isLatin1_aae02 {ct : Nat → Bool} {K : Kt} {R : Option AV → Hp → Prop} {n pc : Nat} {ls : List (Option AV)} {st : List AV} {σ : Hp} {k : Nat × Nat} (h : ct pc = true) : xk_J0_isLatin1_aae02 ct K R n pc ls st σ k = K pc ls st σ k := by unfold xk_J0_isLatin1_aae02 exkS; rw [h]
theorem xf_J0_isLatin1_aae02 {ct : Nat → Bool} {K : Kt} {R : Option AV → Hp → Prop} {n pc : Nat} {ls : List (Option AV)} {st : List AV} {σ : Hp} {k : Nat × Nat} (h : ct pc = false) : xk_J0_isLatin1_aae02 ct K R n pc ls st σ k = xe_J0_isLatin1_aae02 ct K R n pc ls st σ k := by unfold xk_J0_isLatin1_aae02 exkS xe_J0_isLatin1_aae02; rw [h]
theorem ev_J0_isLatin1_aae02_0 {ct : Nat → Bool} {K : Kt} {R : Option AV → Hp → Prop} {n : Nat} {ls : List (Option AV)} {st : List AV} {σ : Hp} {k : Nat × Nat} : xe_J0_isLatin1_aae02 ct K R (n + 1) 0 ls st σ k = (popN 0 st [] fun av rest => (catS rest ≤ 8 ∧ 0 < 1 ∧ k.1 + 0 ≤ 0 ∧ k.2 + 0 ≤ 0) ∧ (spGsI 3001) av σ fun v σ' => xk_J0_isLatin1_aae02 ct K R n 3 ls (v.toList ++ rest) σ' (k.1 + 0, k.2 + 0)) := exS_step.trans rfl
theorem ev_J0_isLatin1_aae02_3 {ct : Nat → Bool} {K : Kt} {R : Option AV → Hp → Prop} {n : Nat} {ls : List (Option AV)} {st : List AV} {σ : Hp} {k : Nat × Nat} : xe_J0_isLatin1_aae02 ct K R (n + 1) 3 ls st σ k = (oI st fun x st => (wI x = wI 0 → xk_J0_isLatin1_aae02 ct K R n 17 ls st σ k) ∧ (¬ (wI x = wI 0) → xk_J0_isLatin1_aae02 ct K R n 6 ls st σ k)) := exS_step.trans rfl
theorem ev_J0_isLatin1_aae02_6 {ct : Nat → Bool} {K : Kt} {R : Option AV → Hp → Prop} {n : Nat} {ls : List (Option AV)} {st : List AV} {σ : Hp} {k : Nat × Nat} : xe_J0_isLatin1_aae02 ct K R (n + 1) 6 ls st σ k = (lR ls 0 fun x => xk_J0_isLatin1_aae02 ct K R n 7 ls (vr x :: st) σ k) := exS_step.trans rfl
theorem ev_J0_isLatin1_aae02_10 {ct : Nat → Bool} {K : Kt} {R : Option AV → Hp → Prop} {n : Nat} {ls : List (Option AV)} {st : List AV} {σ : Hp} {k : Nat × Nat} : xe_J0_isLatin1_aae02 ct K R (n + 1) 10 ls st σ k = (oI st fun x st => (¬ wI x = wI 0 → xk_J0_isLatin1_aae02 ct K R n 17 ls st σ k) ∧ (¬ (¬ wI x = wI 0) → xk_J0_isLatin1_aae02 ct K R n 13 ls st σ k)) := exS_step.trans rfl
theorem ev_J0_isLatin1_aae02_13 {ct : Nat → Bool} {K : Kt} {R : Option AV → Hp → Prop} {n : Nat} {ls : List (Option AV)} {st : List AV} {σ : Hp} {k : Nat × Nat} : xe_J0_isLatin1_aae02 ct K R (n + 1) 13 ls st σ k = (xk_J0_isLatin1_aae02 ct K R n 14 ls (vi (1) :: st) σ k) := exS_step.trans rfl
theorem ev_J0_isLatin1_aae02_14 {ct : Nat → Bool} {K : Kt} {R : Option AV → Hp → Prop} {n : Nat} {ls : List (Option AV)} {st : List AV} {σ : Hp} {k : Nat × Nat} : xe_J0_isLatin1_aae02 ct K R (n + 1) 14 ls st σ k = (xk_J0_isLatin1_aae02 ct K R n 18 ls st σ k) := exS_step.trans rfl
theorem ev_J0_isLatin1_aae02_17 {ct : Nat → Bool} {K : Kt} {R : Option AV → Hp → Prop} {n : Nat} {ls : List (Option AV)} {st : List AV} {σ : Hp} {k : Nat × Nat} : xe_J0_isLatin1_aae02 ct K R (n + 1) 17 ls st σ k = (xk_J0_isLatin1_aae02 ct K R n 18 ls (vi (0) :: st) σ k) := exS_step.trans rfl
theorem ev_J0_isLatin1_aae02_18 {ct : Nat → Bool} {K : Kt} {R : Option AV → Hp → Prop} {n : Nat} {ls : List (Option AV)} {st : List AV} {σ : Hp} {k : Nat × Nat} : xe_J0_isLatin1_aae02 ct K R (n + 1) 18 ls st σ k = (oI st fun x st => st = [] ∧ (x = 0 ∨ x = 1) ∧ R (some (vi x)) σ) := exS_step.trans rfl
def M_J0_isLatin1_aae02 : Md := (yJ0_isLatin1_aae02, cJ0_isLatin1_aae02, 1, (some FieldType.boolean), 1, 0, 0, 2, false, tb_J0_isLatin1_aae02, mt_J0_isLatin1_aae02)
theorem mm_J0_isLatin1_aae02 : MMOK M_J0_isLatin1_aae02 := ⟨by decide +kernel, tk_J0_isLatin1_aae02, mk_J0_isLatin1_aae02, rfl, fun h => by cases h⟩
theorem go_J0_isLatin1_aae02 {Q : Option AV → Hp → Prop} {ct : Nat → Bool} {pc : Nat} {ls : List (Option AV)} {st : List AV} {σ : Hp} {k : Nat × Nat} (n : Nat) (h : xe_J0_isLatin1_aae02 ct (Go M_J0_isLatin1_aae02 Q) Q n pc ls st σ k) : Go M_J0_isLatin1_aae02 Q pc ls st σ k := Go.exS mm_J0_isLatin1_aae02 h

set_option maxRecDepth 20000 in
theorem c_J0_isLatin1_aae02 : Ct yJ0_isLatin1_aae02 cJ0_isLatin1_aae02 1 ((some FieldType.boolean)) 1 0 0 sp_J0_isLatin1_aae02 := by
  refine Ct.go (M := M_J0_isLatin1_aae02) mm_J0_isLatin1_aae02 fun av σ Q h0 => ?_
  obtain ⟨this, rfl, hk, h⟩ := el_J0_isLatin1_aae02 h0
  clear h0
  refine ⟨Nat.le_of_ble_eq_true rfl, ?_⟩
  show Go M_J0_isLatin1_aae02 Q 0 [some (vr this)] [] σ (0, 0)
  obtain ⟨h1, h2, h⟩ := h
  have w10 : Go M_J0_isLatin1_aae02 Q 10 [some (vr this)] [vi 0] σ (0, 0) := by
    refine go_J0_isLatin1_aae02 (ct := fun p => p == 99) 10 ?_
    simp only [oI, oL, oR, o1, lI, lL, lR, popN, catS, gv, stL, stL2, swt, cnd, spObj, List.getElem?_cons_zero, List.getElem?_cons_succ, List.getD_cons_zero, List.getD_cons_succ, List.set_cons_zero, List.set_cons_succ, List.nil_append, List.cons_append, Option.toList, Bool.or_false, Bool.false_or, Bool.or_true, Bool.true_or, Nat.reduceBEq, Nat.reduceAdd, Nat.reduceLT, Nat.reduceLeDiff, Int.reduceAdd, Int.reduceToNat, true_and, and_true, Fin.isValue, Fin.val_zero, Fin.val_one, Fin.val_two, Fin.reduceFinMk, eq_self, Int.reduceNeg, imp_self, Nat.reduceMul, Nat.le_refl, not_true_eq_false, not_false_eq_true, List.getElem?_nil, reduceCtorEq, true_or, or_true, Classical.not_not, implies_true, or_self, wI_0, wI_1, wI_m1, b2i_w, b2i_eq0, b2i_eq1, b2i_bool, nor_self, nx_pI, kd_pI, ln_pI, fI_pI, fL_pI, fR_pI, aI_pI, aL_pI, aR_pI, nx_pL, kd_pL, ln_pL, fI_pL, fL_pL, fR_pL, aI_pL, aL_pL, aR_pL, nx_pR, kd_pR, ln_pR, fI_pR, fL_pR, fR_pR, aI_pR, aL_pR, aR_pR, nx_qI, kd_qI, ln_qI, fI_qI, fL_qI, fR_qI, aI_qI, aL_qI, aR_qI, nx_qL, kd_qL, ln_qL, fI_qL, fL_qL, fR_qL, aI_qL, aL_qL, aR_qL, nx_qR, kd_qR, ln_qR, fI_qR, fL_qR, fR_qR, aI_qR, aL_qR, aR_qR, nx_mk, kd_mk, ln_mk, fI_mk, fL_mk, fR_mk, aI_mk, aL_mk, aR_mk, false_and, and_false, if_false, if_true, and_self, Int.reduceEq, Nat.reduceEqDiff, ite_self, MLay_pI, MLay_pL, MLay_qI, MLay_qL, ev_J0_isLatin1_aae02_10, ev_J0_isLatin1_aae02_13, ev_J0_isLatin1_aae02_14, ev_J0_isLatin1_aae02_17, ev_J0_isLatin1_aae02_18, xt_J0_isLatin1_aae02, xf_J0_isLatin1_aae02]
    try simp (disch := omega) only [wI_id, dv_nn, rm_nn]
    repeat' (first | intro z | apply And.intro)
    all_goals try omega
    all_goals try contradiction
    all_goals exact h
  have w7 : Go M_J0_isLatin1_aae02 Q 7 [some (vr this)] [vr this] σ (0, 0) := by
    refine go_gfC (index := 15) hk (TBL_in 2133 (by decide +kernel) rfl) (by decide +kernel) ?_
    rw [h2]
    exact w10
  refine go_J0_isLatin1_aae02 (ct := fun p => p == 7) 10 ?_
  simp only [oI, oL, oR, o1, lI, lL, lR, popN, catS, gv, stL, stL2, swt, cnd, spObj, List.getElem?_cons_zero, List.getElem?_cons_succ, List.getD_cons_zero, List.getD_cons_succ, List.set_cons_zero, List.set_cons_succ, List.nil_append, List.cons_append, Option.toList, Bool.or_false, Bool.false_or, Bool.or_true, Bool.true_or, Nat.reduceBEq, Nat.reduceAdd, Nat.reduceLT, Nat.reduceLeDiff, Int.reduceAdd, Int.reduceToNat, true_and, and_true, Fin.isValue, Fin.val_zero, Fin.val_one, Fin.val_two, Fin.reduceFinMk, eq_self, Int.reduceNeg, imp_self, Nat.reduceMul, Nat.le_refl, not_true_eq_false, not_false_eq_true, List.getElem?_nil, reduceCtorEq, true_or, or_true, Classical.not_not, implies_true, or_self, wI_0, wI_1, wI_m1, b2i_w, b2i_eq0, b2i_eq1, b2i_bool, nor_self, nx_pI, kd_pI, ln_pI, fI_pI, fL_pI, fR_pI, aI_pI, aL_pI, aR_pI, nx_pL, kd_pL, ln_pL, fI_pL, fL_pL, fR_pL, aI_pL, aL_pL, aR_pL, nx_pR, kd_pR, ln_pR, fI_pR, fL_pR, fR_pR, aI_pR, aL_pR, aR_pR, nx_qI, kd_qI, ln_qI, fI_qI, fL_qI, fR_qI, aI_qI, aL_qI, aR_qI, nx_qL, kd_qL, ln_qL, fI_qL, fL_qL, fR_qL, aI_qL, aL_qL, aR_qL, nx_qR, kd_qR, ln_qR, fI_qR, fL_qR, fR_qR, aI_qR, aL_qR, aR_qR, nx_mk, kd_mk, ln_mk, fI_mk, fL_mk, fR_mk, aI_mk, aL_mk, aR_mk, false_and, and_false, if_false, if_true, and_self, Int.reduceEq, Nat.reduceEqDiff, ite_self, MLay_pI, MLay_pL, MLay_qI, MLay_qL, ev_J0_isLatin1_aae02_0, ev_J0_isLatin1_aae02_3, ev_J0_isLatin1_aae02_6, xt_J0_isLatin1_aae02, xf_J0_isLatin1_aae02, us_GsI, h1]
  try simp (disch := omega) only [wI_id, dv_nn, rm_nn]
  repeat' (first | intro z | apply And.intro)
  all_goals try omega
  all_goals try contradiction
  all_goals exact w7

def sp_J0_coder_7d493 : Sp := fun av σ Q => oR av fun this av => av = [] ∧ kd σ this = 20 ∧ (fI σ 3001 0 = 1 ∧ fI σ 2001 this = 0 ∧ Q (some (vi 0)) σ)
theorem us_J0_coder_7d493 (this : Int) (σ : Hp) (Q : Option AV → Hp → Prop) : sp_J0_coder_7d493 [vr this] σ Q = (kd σ this = 20 ∧ (fI σ 3001 0 = 1 ∧ fI σ 2001 this = 0 ∧ Q (some (vi 0)) σ)) := propext ⟨fun h => h.2, fun h => ⟨rfl, h⟩⟩
theorem el_J0_coder_7d493 {av : List AV} {σ : Hp} {Q : Option AV → Hp → Prop} (h : sp_J0_coder_7d493 av σ Q) : ∃ (this : Int), av = [vr this] ∧ (kd σ this = 20 ∧ (fI σ 3001 0 = 1 ∧ fI σ 2001 this = 0 ∧ Q (some (vi 0)) σ)) := by
  obtain ⟨this, a0, rfl, h0⟩ := oR_s h
  obtain ⟨rfl, hz⟩ := h0
  exact ⟨this, rfl, hz⟩
theorem rc_J0_coder_7d493 : ∀ (av : List AV) (σ : Hp) (Q : Option AV → Hp → Prop), sp_J0_coder_7d493 av σ Q → ∃ r tl, av = vr r :: tl ∧ kd σ r = 19 + 1 := fun av σ Q h => by
  obtain ⟨this, rfl, hz, -⟩ := el_J0_coder_7d493 h
  exact ⟨this, _, rfl, hz⟩

theorem c_J0_coder_7d493 : Ct yJ0_coder_7d493 cJ0_coder_7d493 1 (some .byte) 1 0 0 sp_J0_coder_7d493 := by
  refine Ct.of (by decide +kernel) fun g p l e s m args below meth cd av σ QQ C hn h0 => ?_
  obtain ⟨this, rfl, hk, h1, h2, h⟩ := el_J0_coder_7d493 h0
  refine ⟨Nat.le_of_ble_eq_true rfl, ?_⟩
  show WW g p l e s m args below meth cd 1 1 0 0 _ 0 [some (vr this)] [] σ (0, 0)
  refine w_gets (index := 38) C (v := vi (fI σ 3001 0)) (fun H h1 _ => h1.2.2.2.2.2.2.1) (TBL_in 958 (by decide +kernel) rfl) (by decide +kernel) ?_
  rw [h1]
  refine w_if (c := .eq) (off := 10) (tgt := 13) C (by decide) (by decide +kernel) (fun q => by exfalso; revert q; show ¬ (wI 1 = wI 0); decide) fun _ => ?_
  refine w_aload_n (n := 0) C (x := this) rfl (by decide +kernel) ?_
  refine w_gfC (index := 15) C hk (TBL_in 2133 (by decide +kernel) rfl) (by decide +kernel) ?_
  rw [h2]
  refine w_goto (off := 4) (tgt := 14) C (by decide) (by decide +kernel) ?_
  exact w_ireturn C (show (0 : Int) = 0 from rfl) h (by decide +kernel)
theorem shrI_0 {x : Int} (h : 0 ≤ x ∧ x < 2147483648) : shrI x 0 = x := by
  unfold shrI
  rw [wI_id (by omega) h.2]
  show x / 1 = x
  omega
theorem bAnd_255 {x : Int} (h : 0 ≤ x ∧ x < 128) : bAnd x 255 = x := by
  have : ∀ n : Fin 128, bAnd (n.val : Int) 255 = n.val := by decide +kernel
  have h2 := this ⟨x.toNat, by omega⟩
  rw [show ((x.toNat : Nat) : Int) = x by omega] at h2
  exact h2
/-- what the String constants are -/
def SK (σ : Hp) : Prop := fI σ 3001 0 = 1 ∧ (∀ k, kd σ k = 20 → fI σ 2001 k = 0 ∧ kd σ (fR σ 2000 k) = 21) ∧ ∀ r, kd σ r = 21 → ln σ r ≤ 100 ∧ ∀ j, 0 ≤ aI σ r j ∧ aI σ r j < 128

def sp_J0_length_8abf5 : Sp := fun av σ Q => oR av fun this av => av = [] ∧ kd σ this = 20 ∧ (SK σ ∧ Q (some (vi (ln σ (fR σ 2000 this)))) σ)
theorem us_J0_length_8abf5 (this : Int) (σ : Hp) (Q : Option AV → Hp → Prop) : sp_J0_length_8abf5 [vr this] σ Q = (kd σ this = 20 ∧ (SK σ ∧ Q (some (vi (ln σ (fR σ 2000 this)))) σ)) := propext ⟨fun h => h.2, fun h => ⟨rfl, h⟩⟩
theorem el_J0_length_8abf5 {av : List AV} {σ : Hp} {Q : Option AV → Hp → Prop} (h : sp_J0_length_8abf5 av σ Q) : ∃ (this : Int), av = [vr this] ∧ (kd σ this = 20 ∧ (SK σ ∧ Q (some (vi (ln σ (fR σ 2000 this)))) σ)) := by
  obtain ⟨this, a0, rfl, h0⟩ := oR_s h
  obtain ⟨rfl, hz⟩ := h0
  exact ⟨this, rfl, hz⟩
theorem rc_J0_length_8abf5 : ∀ (av : List AV) (σ : Hp) (Q : Option AV → Hp → Prop), sp_J0_length_8abf5 av σ Q → ∃ r tl, av = vr r :: tl ∧ kd σ r = 19 + 1 := fun av σ Q h => by
  obtain ⟨this, rfl, hz, -⟩ := el_J0_length_8abf5 h
  exact ⟨this, _, rfl, hz⟩

def tb_J0_length_8abf5 : Tab := [(0, .aload_n 0, 1, (0, 0, 0, 0)), (4, .arraylength, 1, (0, 0, 0, 0)), (5, .aload_n 0, 1, (0, 0, 0, 0)), (6, .invokevirtual 335, 3, (0, 0, 0, 0)), (9, .ishr, 1, (0, 0, 0, 0)), (10, .ireturn, 1, (0, 0, 0, 0))]
set_option maxRecDepth 100000 in
theorem tk_J0_length_8abf5 : TOK RJ0 false cJ0_length_8abf5 tb_J0_length_8abf5 := chkT_ok ft_J0 (by decide +kernel)
theorem rw_J0_2680 : Row RJ0 (.invokevirtual 335) 3 1 0 0 1 sp_J0_coder_7d493 := row_VS (n := 0) c_J0_coder_7d493 ⟨TBL_in 964 (by decide +kernel) rfl, TBL_in 967 (by decide +kernel) rfl, TBL_in 133 (by decide +kernel) rfl, by decide +kernel, by decide⟩ rfl (TBL_in 965 (by decide +kernel) rfl) (TBL_in 966 (by decide +kernel) rfl) rc_J0_coder_7d493
def mt_J0_length_8abf5 : List (Nat × Mt) := [(2680, 1, 0, 0, 1, sp_J0_coder_7d493)]
theorem em_J0_length_8abf5 : mt_J0_length_8abf5.lookup 2680 = some (1, 0, 0, 1, sp_J0_coder_7d493) := rfl
theorem mk_J0_length_8abf5 : MOK RJ0 mt_J0_length_8abf5 := by
  intro q hq
  simp only [mt_J0_length_8abf5, List.mem_cons, List.not_mem_nil, or_false] at hq
  rcases hq with rfl
  · exact rw_J0_2680
noncomputable def xe_J0_length_8abf5 (ct : Nat → Bool) (K : Kt) (R : Option AV → Hp → Prop) (n : Nat) : Kt := exS 1 2 0 0 1 tb_J0_length_8abf5 mt_J0_length_8abf5 ct K R n
noncomputable def xk_J0_length_8abf5 (ct : Nat → Bool) (K : Kt) (R : Option AV → Hp → Prop) (n : Nat) : Kt := exkS 1 2 0 0 1 tb_J0_length_8abf5 mt_J0_length_8abf5 ct K R n
theorem xt_J0_length_8abf5 {ct : Nat → Bool} {K : Kt} {R : Option AV → Hp → Prop} {n pc : Nat} {ls : List (Option AV)} {st : List AV} {σ : Hp} {k : Nat × Nat} (h : ct pc = true) : xk_J0_length_8abf5 ct K R n pc ls st σ k = K pc ls st σ k := by unfold xk_J0_length_8abf5 exkS; rw [h]
theorem xf_J0_length_8abf5 {ct : Nat → Bool} {K : Kt} {R : Option AV → Hp → Prop} {n pc : Nat} {ls : List (Option AV)} {st : List AV} {σ : Hp} {k : Nat × Nat} (h : ct pc = false) : xk_J0_length_8abf5 ct K R n pc ls st σ k = xe_J0_length_8abf5 ct K R n pc ls st σ k := by unfold xk_J0_length_8abf5 exkS xe_J0_length_8abf5; rw [h]
theorem ev_J0_length_8abf5_0 {ct : Nat → Bool} {K : Kt} {R : Option AV → Hp → Prop} {n : Nat} {ls : List (Option AV)} {st : List AV} {σ : Hp} {k : Nat × Nat} : xe_J0_length_8abf5 ct K R (n + 1) 0 ls st σ k = (lR ls 0 fun x => xk_J0_length_8abf5 ct K R n 1 ls (vr x :: st) σ k) := exS_step.trans rfl
theorem ev_J0_length_8abf5_4 {ct : Nat → Bool} {K : Kt} {R : Option AV → Hp → Prop} {n : Nat} {ls : List (Option AV)} {st : List AV} {σ : Hp} {k : Nat × Nat} : xe_J0_length_8abf5 ct K R (n + 1) 4 ls st σ k = (oR st fun x st => (101 ≤ kd σ x ∨ kd σ x = 21) ∧ xk_J0_length_8abf5 ct K R n 5 ls (vi (ln σ x) :: st) σ k) := exS_step.trans rfl
theorem ev_J0_length_8abf5_5 {ct : Nat → Bool} {K : Kt} {R : Option AV → Hp → Prop} {n : Nat} {ls : List (Option AV)} {st : List AV} {σ : Hp} {k : Nat × Nat} : xe_J0_length_8abf5 ct K R (n + 1) 5 ls st σ k = (lR ls 0 fun x => xk_J0_length_8abf5 ct K R n 6 ls (vr x :: st) σ k) := exS_step.trans rfl
theorem ev_J0_length_8abf5_6 {ct : Nat → Bool} {K : Kt} {R : Option AV → Hp → Prop} {n : Nat} {ls : List (Option AV)} {st : List AV} {σ : Hp} {k : Nat × Nat} : xe_J0_length_8abf5 ct K R (n + 1) 6 ls st σ k = (popN 1 st [] fun av rest => (catS rest ≤ 8 ∧ 1 < 2 ∧ k.1 + 0 ≤ 0 ∧ k.2 + 0 ≤ 0) ∧ (sp_J0_coder_7d493) av σ fun v σ' => xk_J0_length_8abf5 ct K R n 9 ls (v.toList ++ rest) σ' (k.1 + 0, k.2 + 0)) := exS_step.trans rfl
theorem ev_J0_length_8abf5_9 {ct : Nat → Bool} {K : Kt} {R : Option AV → Hp → Prop} {n : Nat} {ls : List (Option AV)} {st : List AV} {σ : Hp} {k : Nat × Nat} : xe_J0_length_8abf5 ct K R (n + 1) 9 ls st σ k = (oI st fun y st => oI st fun x st => xk_J0_length_8abf5 ct K R n 10 ls (vi (shrI x y) :: st) σ k) := exS_step.trans rfl
theorem ev_J0_length_8abf5_10 {ct : Nat → Bool} {K : Kt} {R : Option AV → Hp → Prop} {n : Nat} {ls : List (Option AV)} {st : List AV} {σ : Hp} {k : Nat × Nat} : xe_J0_length_8abf5 ct K R (n + 1) 10 ls st σ k = (oI st fun x st => st = [] ∧ True ∧ R (some (vi x)) σ) := exS_step.trans rfl
def M_J0_length_8abf5 : Md := (yJ0_length_8abf5, cJ0_length_8abf5, 1, (some FieldType.int), 2, 0, 0, 1, false, tb_J0_length_8abf5, mt_J0_length_8abf5)
theorem mm_J0_length_8abf5 : MMOK M_J0_length_8abf5 := ⟨by decide +kernel, tk_J0_length_8abf5, mk_J0_length_8abf5, rfl, fun h => by cases h⟩
theorem go_J0_length_8abf5 {Q : Option AV → Hp → Prop} {ct : Nat → Bool} {pc : Nat} {ls : List (Option AV)} {st : List AV} {σ : Hp} {k : Nat × Nat} (n : Nat) (h : xe_J0_length_8abf5 ct (Go M_J0_length_8abf5 Q) Q n pc ls st σ k) : Go M_J0_length_8abf5 Q pc ls st σ k := Go.exS mm_J0_length_8abf5 h

set_option maxRecDepth 20000 in
theorem c_J0_length_8abf5 : Ct yJ0_length_8abf5 cJ0_length_8abf5 1 ((some FieldType.int)) 2 0 0 sp_J0_length_8abf5 := by
  refine Ct.go (M := M_J0_length_8abf5) mm_J0_length_8abf5 fun av σ Q h0 => ?_
  obtain ⟨this, rfl, hk, h⟩ := el_J0_length_8abf5 h0
  clear h0
  refine ⟨Nat.le_of_ble_eq_true rfl, ?_⟩
  show Go M_J0_length_8abf5 Q 0 [some (vr this)] [] σ (0, 0)
  obtain ⟨hS, h⟩ := h
  obtain ⟨s1, s2⟩ := hS.2.1 _ hk
  refine Go.wf fun hw => ?_
  have hl := hw.2.2.1 (fR σ 2000 this)
  have w4 : Go M_J0_length_8abf5 Q 4 [some (vr this)] [vr (fR σ 2000 this)] σ (0, 0) := by
    refine go_J0_length_8abf5 (ct := fun p => p == 99) 10 ?_
    simp only [oI, oL, oR, o1, lI, lL, lR, popN, catS, gv, stL, stL2, swt, cnd, spObj, List.getElem?_cons_zero, List.getElem?_cons_succ, List.getD_cons_zero, List.getD_cons_succ, List.set_cons_zero, List.set_cons_succ, List.nil_append, List.cons_append, Option.toList, Bool.or_false, Bool.false_or, Bool.or_true, Bool.true_or, Nat.reduceBEq, Nat.reduceAdd, Nat.reduceLT, Nat.reduceLeDiff, Int.reduceAdd, Int.reduceToNat, true_and, and_true, Fin.isValue, Fin.val_zero, Fin.val_one, Fin.val_two, Fin.reduceFinMk, eq_self, Int.reduceNeg, imp_self, Nat.reduceMul, Nat.le_refl, not_true_eq_false, not_false_eq_true, List.getElem?_nil, reduceCtorEq, true_or, or_true, Classical.not_not, implies_true, or_self, wI_0, wI_1, wI_m1, b2i_w, b2i_eq0, b2i_eq1, b2i_bool, nor_self, nx_pI, kd_pI, ln_pI, fI_pI, fL_pI, fR_pI, aI_pI, aL_pI, aR_pI, nx_pL, kd_pL, ln_pL, fI_pL, fL_pL, fR_pL, aI_pL, aL_pL, aR_pL, nx_pR, kd_pR, ln_pR, fI_pR, fL_pR, fR_pR, aI_pR, aL_pR, aR_pR, nx_qI, kd_qI, ln_qI, fI_qI, fL_qI, fR_qI, aI_qI, aL_qI, aR_qI, nx_qL, kd_qL, ln_qL, fI_qL, fL_qL, fR_qL, aI_qL, aL_qL, aR_qL, nx_qR, kd_qR, ln_qR, fI_qR, fL_qR, fR_qR, aI_qR, aL_qR, aR_qR, nx_mk, kd_mk, ln_mk, fI_mk, fL_mk, fR_mk, aI_mk, aL_mk, aR_mk, false_and, and_false, if_false, if_true, and_self, Int.reduceEq, Nat.reduceEqDiff, ite_self, MLay_pI, MLay_pL, MLay_qI, MLay_qL, ev_J0_length_8abf5_4, ev_J0_length_8abf5_5, ev_J0_length_8abf5_6, ev_J0_length_8abf5_9, ev_J0_length_8abf5_10, xt_J0_length_8abf5, xf_J0_length_8abf5, us_J0_coder_7d493, hS.1, s1, s2, hk, shrI_0 hl]
    try simp (disch := omega) only [wI_id, dv_nn, rm_nn]
    repeat' (first | intro z | apply And.intro)
    all_goals try omega
    all_goals try contradiction
    all_goals exact h
  have w1 : Go M_J0_length_8abf5 Q 1 [some (vr this)] [vr this] σ (0, 0) := go_gfV (index := 9) hk (TBL_in 2134 (by decide +kernel) rfl) (by decide +kernel) w4
  refine go_J0_length_8abf5 (ct := fun p => p == 1) 10 ?_
  simp only [oI, oL, oR, o1, lI, lL, lR, popN, catS, gv, stL, stL2, swt, cnd, spObj, List.getElem?_cons_zero, List.getElem?_cons_succ, List.getD_cons_zero, List.getD_cons_succ, List.set_cons_zero, List.set_cons_succ, List.nil_append, List.cons_append, Option.toList, Bool.or_false, Bool.false_or, Bool.or_true, Bool.true_or, Nat.reduceBEq, Nat.reduceAdd, Nat.reduceLT, Nat.reduceLeDiff, Int.reduceAdd, Int.reduceToNat, true_and, and_true, Fin.isValue, Fin.val_zero, Fin.val_one, Fin.val_two, Fin.reduceFinMk, eq_self, Int.reduceNeg, imp_self, Nat.reduceMul, Nat.le_refl, not_true_eq_false, not_false_eq_true, List.getElem?_nil, reduceCtorEq, true_or, or_true, Classical.not_not, implies_true, or_self, wI_0, wI_1, wI_m1, b2i_w, b2i_eq0, b2i_eq1, b2i_bool, nor_self, nx_pI, kd_pI, ln_pI, fI_pI, fL_pI, fR_pI, aI_pI, aL_pI, aR_pI, nx_pL, kd_pL, ln_pL, fI_pL, fL_pL, fR_pL, aI_pL, aL_pL, aR_pL, nx_pR, kd_pR, ln_pR, fI_pR, fL_pR, fR_pR, aI_pR, aL_pR, aR_pR, nx_qI, kd_qI, ln_qI, fI_qI, fL_qI, fR_qI, aI_qI, aL_qI, aR_qI, nx_qL, kd_qL, ln_qL, fI_qL, fL_qL, fR_qL, aI_qL, aL_qL, aR_qL, nx_qR, kd_qR, ln_qR, fI_qR, fL_qR, fR_qR, aI_qR, aL_qR, aR_qR, nx_mk, kd_mk, ln_mk, fI_mk, fL_mk, fR_mk, aI_mk, aL_mk, aR_mk, false_and, and_false, if_false, if_true, and_self, Int.reduceEq, Nat.reduceEqDiff, ite_self, MLay_pI, MLay_pL, MLay_qI, MLay_qL, ev_J0_length_8abf5_0, xt_J0_length_8abf5, xf_J0_length_8abf5, us_J0_coder_7d493]
  repeat' (first | intro z | apply And.intro)
  all_goals try omega
  all_goals try contradiction
  all_goals exact w1

def sp_J3_checkIndex_8e157 : Sp := fun av σ Q => oI av fun i av => oI av fun n av => oR av fun f av => av = [] ∧ ((0 ≤ i ∧ i < n ∧ n < 2147483648) ∧ Q (some (vi i)) σ)
theorem us_J3_checkIndex_8e157 (i : Int) (n : Int) (f : Int) (σ : Hp) (Q : Option AV → Hp → Prop) : sp_J3_checkIndex_8e157 [vi i, vi n, vr f] σ Q = (((0 ≤ i ∧ i < n ∧ n < 2147483648) ∧ Q (some (vi i)) σ)) := propext ⟨fun h => h.2, fun h => ⟨rfl, h⟩⟩
theorem el_J3_checkIndex_8e157 {av : List AV} {σ : Hp} {Q : Option AV → Hp → Prop} (h : sp_J3_checkIndex_8e157 av σ Q) : ∃ (i : Int) (n : Int) (f : Int), av = [vi i, vi n, vr f] ∧ (((0 ≤ i ∧ i < n ∧ n < 2147483648) ∧ Q (some (vi i)) σ)) := by
  obtain ⟨i, a0, rfl, h0⟩ := oI_s h
  obtain ⟨n, a1, rfl, h1⟩ := oI_s h0
  obtain ⟨f, a2, rfl, h2⟩ := oR_s h1
  obtain ⟨rfl, hz⟩ := h2
  exact ⟨i, n, f, rfl, hz⟩

def tb_J3_checkIndex_8e157 : Tab := [(0, .iload_n 0, 1, (0, 0, 0, 0)), (1, .ifCond .lt 8, 3, (0, 0, 0, 0)), (4, .iload_n 0, 1, (0, 0, 0, 0)), (5, .iload_n 1, 1, (0, 0, 0, 0)), (6, .if_icmp .lt 10, 3, (0, 0, 0, 0)), (9, .aload_n 2, 1, (0, 0, 0, 0)), (10, .iload_n 0, 1, (0, 0, 0, 0)), (11, .iload_n 1, 1, (0, 0, 0, 0)), (12, .invokestatic 95, 3, (0, 0, 0, 0)), (16, .iload_n 0, 1, (0, 0, 0, 0)), (17, .ireturn, 1, (0, 0, 0, 0))]
set_option maxRecDepth 100000 in
theorem tk_J3_checkIndex_8e157 : TOK RJ3 false cJ3_checkIndex_8e157 tb_J3_checkIndex_8e157 := chkT_ok ft_J3 (by decide +kernel)
def mt_J3_checkIndex_8e157 : List (Nat × Mt) := []
theorem mk_J3_checkIndex_8e157 : MOK RJ3 mt_J3_checkIndex_8e157 := fun q hq => by cases hq
noncomputable def xe_J3_checkIndex_8e157 (ct : Nat → Bool) (K : Kt) (R : Option AV → Hp → Prop) (n : Nat) : Kt := exS 3 1 0 0 1 tb_J3_checkIndex_8e157 mt_J3_checkIndex_8e157 ct K R n
noncomputable def xk_J3_checkIndex_8e157 (ct : Nat → Bool) (K : Kt) (R : Option AV → Hp → Prop) (n : Nat) : Kt := exkS 3 1 0 0 1 tb_J3_checkIndex_8e157 mt_J3_checkIndex_8e157 ct K R n
theorem xt_J3_checkIndex_8e157 {ct : Nat → Bool} {K : Kt} {R : Option AV → Hp → Prop} {n pc : Nat} {ls : List (Option AV)} {st : List AV} {σ : Hp} {k : Nat × Nat} (h : ct pc = true) : xk_J3_checkIndex_8e157 ct K R n pc ls st σ k = K pc ls st σ k := by unfold xk_J3_checkIndex_8e157 exkS; rw [h]
theorem xf_J3_checkIndex_8e157 {ct : Nat → Bool} {K : Kt} {R : Option AV → Hp → Prop} {n pc : Nat} {ls : List (Option AV)} {st : List AV} {σ : Hp} {k : Nat × Nat} (h : ct pc = false) : xk_J3_checkIndex_8e157 ct K R n pc ls st σ k = xe_J3_checkIndex_8e157 ct K R n pc ls st σ k := by unfold xk_J3_checkIndex_8e157 exkS xe_J3_checkIndex_8e157; rw [h]
theorem ev_J3_checkIndex_8e157_0 {ct : Nat → Bool} {K : Kt} {R : Option AV → Hp → Prop} {n : Nat} {ls : List (Option AV)} {st : List AV} {σ : Hp} {k : Nat × Nat} : xe_J3_checkIndex_8e157 ct K R (n + 1) 0 ls st σ k = (lI ls 0 fun x => xk_J3_checkIndex_8e157 ct K R n 1 ls (vi x :: st) σ k) := exS_step.trans rfl
theorem ev_J3_checkIndex_8e157_1 {ct : Nat → Bool} {K : Kt} {R : Option AV → Hp → Prop} {n : Nat} {ls : List (Option AV)} {st : List AV} {σ : Hp} {k : Nat × Nat} : xe_J3_checkIndex_8e157 ct K R (n + 1) 1 ls st σ k = (oI st fun x st => (wI x < wI 0 → xk_J3_checkIndex_8e157 ct K R n 9 ls st σ k) ∧ (¬ (wI x < wI 0) → xk_J3_checkIndex_8e157 ct K R n 4 ls st σ k)) := exS_step.trans rfl
theorem ev_J3_checkIndex_8e157_4 {ct : Nat → Bool} {K : Kt} {R : Option AV → Hp → Prop} {n : Nat} {ls : List (Option AV)} {st : List AV} {σ : Hp} {k : Nat × Nat} : xe_J3_checkIndex_8e157 ct K R (n + 1) 4 ls st σ k = (lI ls 0 fun x => xk_J3_checkIndex_8e157 ct K R n 5 ls (vi x :: st) σ k) := exS_step.trans rfl
theorem ev_J3_checkIndex_8e157_5 {ct : Nat → Bool} {K : Kt} {R : Option AV → Hp → Prop} {n : Nat} {ls : List (Option AV)} {st : List AV} {σ : Hp} {k : Nat × Nat} : xe_J3_checkIndex_8e157 ct K R (n + 1) 5 ls st σ k = (lI ls 1 fun x => xk_J3_checkIndex_8e157 ct K R n 6 ls (vi x :: st) σ k) := exS_step.trans rfl
theorem ev_J3_checkIndex_8e157_6 {ct : Nat → Bool} {K : Kt} {R : Option AV → Hp → Prop} {n : Nat} {ls : List (Option AV)} {st : List AV} {σ : Hp} {k : Nat × Nat} : xe_J3_checkIndex_8e157 ct K R (n + 1) 6 ls st σ k = (oI st fun y st => oI st fun x st => (wI x < wI y → xk_J3_checkIndex_8e157 ct K R n 16 ls st σ k) ∧ (¬ (wI x < wI y) → xk_J3_checkIndex_8e157 ct K R n 9 ls st σ k)) := exS_step.trans rfl
theorem ev_J3_checkIndex_8e157_9 {ct : Nat → Bool} {K : Kt} {R : Option AV → Hp → Prop} {n : Nat} {ls : List (Option AV)} {st : List AV} {σ : Hp} {k : Nat × Nat} : xe_J3_checkIndex_8e157 ct K R (n + 1) 9 ls st σ k = (lR ls 2 fun x => xk_J3_checkIndex_8e157 ct K R n 10 ls (vr x :: st) σ k) := exS_step.trans rfl
theorem ev_J3_checkIndex_8e157_10 {ct : Nat → Bool} {K : Kt} {R : Option AV → Hp → Prop} {n : Nat} {ls : List (Option AV)} {st : List AV} {σ : Hp} {k : Nat × Nat} : xe_J3_checkIndex_8e157 ct K R (n + 1) 10 ls st σ k = (lI ls 0 fun x => xk_J3_checkIndex_8e157 ct K R n 11 ls (vi x :: st) σ k) := exS_step.trans rfl
theorem ev_J3_checkIndex_8e157_11 {ct : Nat → Bool} {K : Kt} {R : Option AV → Hp → Prop} {n : Nat} {ls : List (Option AV)} {st : List AV} {σ : Hp} {k : Nat × Nat} : xe_J3_checkIndex_8e157 ct K R (n + 1) 11 ls st σ k = (lI ls 1 fun x => xk_J3_checkIndex_8e157 ct K R n 12 ls (vi x :: st) σ k) := exS_step.trans rfl
theorem ev_J3_checkIndex_8e157_12 {ct : Nat → Bool} {K : Kt} {R : Option AV → Hp → Prop} {n : Nat} {ls : List (Option AV)} {st : List AV} {σ : Hp} {k : Nat × Nat} : xe_J3_checkIndex_8e157 ct K R (n + 1) 12 ls st σ k = (False) := exS_step.trans rfl
theorem ev_J3_checkIndex_8e157_16 {ct : Nat → Bool} {K : Kt} {R : Option AV → Hp → Prop} {n : Nat} {ls : List (Option AV)} {st : List AV} {σ : Hp} {k : Nat × Nat} : xe_J3_checkIndex_8e157 ct K R (n + 1) 16 ls st σ k = (lI ls 0 fun x => xk_J3_checkIndex_8e157 ct K R n 17 ls (vi x :: st) σ k) := exS_step.trans rfl
theorem ev_J3_checkIndex_8e157_17 {ct : Nat → Bool} {K : Kt} {R : Option AV → Hp → Prop} {n : Nat} {ls : List (Option AV)} {st : List AV} {σ : Hp} {k : Nat × Nat} : xe_J3_checkIndex_8e157 ct K R (n + 1) 17 ls st σ k = (oI st fun x st => st = [] ∧ True ∧ R (some (vi x)) σ) := exS_step.trans rfl
def M_J3_checkIndex_8e157 : Md := (yJ3_checkIndex_8e157, cJ3_checkIndex_8e157, 3, (some FieldType.int), 1, 0, 0, 1, false, tb_J3_checkIndex_8e157, mt_J3_checkIndex_8e157)
theorem mm_J3_checkIndex_8e157 : MMOK M_J3_checkIndex_8e157 := ⟨by decide +kernel, tk_J3_checkIndex_8e157, mk_J3_checkIndex_8e157, rfl, fun h => by cases h⟩
theorem go_J3_checkIndex_8e157 {Q : Option AV → Hp → Prop} {ct : Nat → Bool} {pc : Nat} {ls : List (Option AV)} {st : List AV} {σ : Hp} {k : Nat × Nat} (n : Nat) (h : xe_J3_checkIndex_8e157 ct (Go M_J3_checkIndex_8e157 Q) Q n pc ls st σ k) : Go M_J3_checkIndex_8e157 Q pc ls st σ k := Go.exS mm_J3_checkIndex_8e157 h

set_option maxRecDepth 20000 in
theorem c_J3_checkIndex_8e157 : Ct yJ3_checkIndex_8e157 cJ3_checkIndex_8e157 3 ((some FieldType.int)) 1 0 0 sp_J3_checkIndex_8e157 := by
  refine Ct.go (M := M_J3_checkIndex_8e157) mm_J3_checkIndex_8e157 fun av σ Q h0 => ?_
  obtain ⟨i, n, f, rfl, h⟩ := el_J3_checkIndex_8e157 h0
  clear h0
  refine ⟨Nat.le_of_ble_eq_true rfl, ?_⟩
  show Go M_J3_checkIndex_8e157 Q 0 [some (vi i), some (vi n), some (vr f)] [] σ (0, 0)
  obtain ⟨hi, h⟩ := h
  refine go_J3_checkIndex_8e157 (ct := fun p => p == 9) 20 ?_
  simp only [oI, oL, oR, o1, lI, lL, lR, popN, catS, gv, stL, stL2, swt, cnd, spObj, List.getElem?_cons_zero, List.getElem?_cons_succ, List.getD_cons_zero, List.getD_cons_succ, List.set_cons_zero, List.set_cons_succ, List.nil_append, List.cons_append, Option.toList, Bool.or_false, Bool.false_or, Bool.or_true, Bool.true_or, Nat.reduceBEq, Nat.reduceAdd, Nat.reduceLT, Nat.reduceLeDiff, Int.reduceAdd, Int.reduceToNat, true_and, and_true, Fin.isValue, Fin.val_zero, Fin.val_one, Fin.val_two, Fin.reduceFinMk, eq_self, Int.reduceNeg, imp_self, Nat.reduceMul, Nat.le_refl, not_true_eq_false, not_false_eq_true, List.getElem?_nil, reduceCtorEq, true_or, or_true, Classical.not_not, implies_true, or_self, wI_0, wI_1, wI_m1, b2i_w, b2i_eq0, b2i_eq1, b2i_bool, nor_self, nx_pI, kd_pI, ln_pI, fI_pI, fL_pI, fR_pI, aI_pI, aL_pI, aR_pI, nx_pL, kd_pL, ln_pL, fI_pL, fL_pL, fR_pL, aI_pL, aL_pL, aR_pL, nx_pR, kd_pR, ln_pR, fI_pR, fL_pR, fR_pR, aI_pR, aL_pR, aR_pR, nx_qI, kd_qI, ln_qI, fI_qI, fL_qI, fR_qI, aI_qI, aL_qI, aR_qI, nx_qL, kd_qL, ln_qL, fI_qL, fL_qL, fR_qL, aI_qL, aL_qL, aR_qL, nx_qR, kd_qR, ln_qR, fI_qR, fL_qR, fR_qR, aI_qR, aL_qR, aR_qR, nx_mk, kd_mk, ln_mk, fI_mk, fL_mk, fR_mk, aI_mk, aL_mk, aR_mk, false_and, and_false, if_false, if_true, and_self, Int.reduceEq, Nat.reduceEqDiff, ite_self, MLay_pI, MLay_pL, MLay_qI, MLay_qL, ev_J3_checkIndex_8e157_0, ev_J3_checkIndex_8e157_1, ev_J3_checkIndex_8e157_4, ev_J3_checkIndex_8e157_5, ev_J3_checkIndex_8e157_6, ev_J3_checkIndex_8e157_16, ev_J3_checkIndex_8e157_17, xt_J3_checkIndex_8e157, xf_J3_checkIndex_8e157]
  try simp (disch := omega) only [wI_id, dv_nn, rm_nn]
  repeat' (first | intro z | apply And.intro)
  all_goals try omega
  all_goals try contradiction
  all_goals exact h

def sp_J0_checkIndex_df160 : Sp := fun av σ Q => oI av fun i av => oI av fun n av => av = [] ∧ ((0 ≤ i ∧ i < n ∧ n < 2147483648) ∧ Q none σ)
theorem us_J0_checkIndex_df160 (i : Int) (n : Int) (σ : Hp) (Q : Option AV → Hp → Prop) : sp_J0_checkIndex_df160 [vi i, vi n] σ Q = (((0 ≤ i ∧ i < n ∧ n < 2147483648) ∧ Q none σ)) := propext ⟨fun h => h.2, fun h => ⟨rfl, h⟩⟩
theorem el_J0_checkIndex_df160 {av : List AV} {σ : Hp} {Q : Option AV → Hp → Prop} (h : sp_J0_checkIndex_df160 av σ Q) : ∃ (i : Int) (n : Int), av = [vi i, vi n] ∧ (((0 ≤ i ∧ i < n ∧ n < 2147483648) ∧ Q none σ)) := by
  obtain ⟨i, a0, rfl, h0⟩ := oI_s h
  obtain ⟨n, a1, rfl, h1⟩ := oI_s h0
  obtain ⟨rfl, hz⟩ := h1
  exact ⟨i, n, rfl, hz⟩

def tb_J0_checkIndex_df160 : Tab := [(0, .iload_n 0, 1, (0, 0, 0, 0)), (1, .iload_n 1, 1, (0, 0, 0, 0)), (2, .getstatic 1053, 3, (0, 0, 0, 0)), (5, .invokestatic 1059, 3, (0, 0, 0, 0)), (8, .pop, 1, (0, 0, 0, 0)), (9, .return_, 1, (0, 0, 0, 0))]
set_option maxRecDepth 100000 in
theorem tk_J0_checkIndex_df160 : TOK RJ0 false cJ0_checkIndex_df160 tb_J0_checkIndex_df160 := chkT_ok ft_J0 (by decide +kernel)
theorem rw_J0_8473 : Row RJ0 (.invokestatic 1059) 3 3 0 0 1 sp_J3_checkIndex_8e157 := row_S c_J3_checkIndex_8e157 ⟨TBL_in 1048 (by decide +kernel) rfl, TBL_in 495 (by decide +kernel) rfl, TBL_in 125 (by decide +kernel) rfl, by decide +kernel, by decide⟩ (TBL_in 494 (by decide +kernel) rfl)
def mt_J0_checkIndex_df160 : List (Nat × Mt) := [(8427, 0, 0, 0, 0, spGsR 3002), (8473, 3, 0, 0, 1, sp_J3_checkIndex_8e157)]
theorem em_J0_checkIndex_df160 : mt_J0_checkIndex_df160.lookup 8427 = some (0, 0, 0, 0, spGsR 3002) ∧ mt_J0_checkIndex_df160.lookup 8473 = some (3, 0, 0, 1, sp_J3_checkIndex_8e157) := ⟨rfl, rfl⟩
theorem mk_J0_checkIndex_df160 : MOK RJ0 mt_J0_checkIndex_df160 := by
  intro q hq
  simp only [mt_J0_checkIndex_df160, List.mem_cons, List.not_mem_nil, or_false] at hq
  rcases hq with rfl | rfl
  · exact row_gsF (TBL_in 997 (by decide +kernel) rfl)
  · exact rw_J0_8473
noncomputable def xe_J0_checkIndex_df160 (ct : Nat → Bool) (K : Kt) (R : Option AV → Hp → Prop) (n : Nat) : Kt := exS 2 2 0 0 0 tb_J0_checkIndex_df160 mt_J0_checkIndex_df160 ct K R n
noncomputable def xk_J0_checkIndex_df160 (ct : Nat → Bool) (K : Kt) (R : Option AV → Hp → Prop) (n : Nat) : Kt := exkS 2 2 0 0 0 tb_J0_checkIndex_df160 mt_J0_checkIndex_df160 ct K R n
theorem xt_J0_checkIndex_df160 {ct : Nat → Bool} {K : Kt} {R : Option AV → Hp → Prop} {n pc : Nat} {ls : List (Option AV)} {st : List AV} {σ : Hp} {k : Nat × Nat} (h : ct pc = true) : xk_J0_checkIndex_df160 ct K R n pc ls st σ k = K pc ls st σ k := by unfold xk_J0_checkIndex_df160 exkS; rw [h]
theorem xf_J0_checkIndex_df160 {ct : Nat → Bool} {K : Kt} {R : Option AV → Hp → Prop} {n pc : Nat} {ls : List (Option AV)} {st : List AV} {σ : Hp} {k : Nat × Nat} (h : ct pc = false) : xk_J0_checkIndex_df160 ct K R n pc ls st σ k = xe_J0_checkIndex_df160 ct K R n pc ls st σ k := by unfold xk_J0_checkIndex_df160 exkS xe_J0_checkIndex_df160; rw [h]
theorem ev_J0_checkIndex_df160_0 {ct : Nat → Bool} {K : Kt} {R : Option AV → Hp → Prop} {n : Nat} {ls : List (Option AV)} {st : List AV} {σ : Hp} {k : Nat × Nat} : xe_J0_checkIndex_df160 ct K R (n + 1) 0 ls st σ k = (lI ls 0 fun x => xk_J0_checkIndex_df160 ct K R n 1 ls (vi x :: st) σ k) := exS_step.trans rfl
theorem ev_J0_checkIndex_df160_1 {ct : Nat → Bool} {K : Kt} {R : Option AV → Hp → Prop} {n : Nat} {ls : List (Option AV)} {st : List AV} {σ : Hp} {k : Nat × Nat} : xe_J0_checkIndex_df160 ct K R (n + 1) 1 ls st σ k = (lI ls 1 fun x => xk_J0_checkIndex_df160 ct K R n 2 ls (vi x :: st) σ k) := exS_step.trans rfl
theorem ev_J0_checkIndex_df160_2 {ct : Nat → Bool} {K : Kt} {R : Option AV → Hp → Prop} {n : Nat} {ls : List (Option AV)} {st : List AV} {σ : Hp} {k : Nat × Nat} : xe_J0_checkIndex_df160 ct K R (n + 1) 2 ls st σ k = (popN 0 st [] fun av rest => (catS rest ≤ 8 ∧ 0 < 2 ∧ k.1 + 0 ≤ 0 ∧ k.2 + 0 ≤ 0) ∧ (spGsR 3002) av σ fun v σ' => xk_J0_checkIndex_df160 ct K R n 5 ls (v.toList ++ rest) σ' (k.1 + 0, k.2 + 0)) := exS_step.trans rfl
theorem ev_J0_checkIndex_df160_5 {ct : Nat → Bool} {K : Kt} {R : Option AV → Hp → Prop} {n : Nat} {ls : List (Option AV)} {st : List AV} {σ : Hp} {k : Nat × Nat} : xe_J0_checkIndex_df160 ct K R (n + 1) 5 ls st σ k = (popN 3 st [] fun av rest => (catS rest ≤ 8 ∧ 1 < 2 ∧ k.1 + 0 ≤ 0 ∧ k.2 + 0 ≤ 0) ∧ (sp_J3_checkIndex_8e157) av σ fun v σ' => xk_J0_checkIndex_df160 ct K R n 8 ls (v.toList ++ rest) σ' (k.1 + 0, k.2 + 0)) := exS_step.trans rfl
theorem ev_J0_checkIndex_df160_8 {ct : Nat → Bool} {K : Kt} {R : Option AV → Hp → Prop} {n : Nat} {ls : List (Option AV)} {st : List AV} {σ : Hp} {k : Nat × Nat} : xe_J0_checkIndex_df160 ct K R (n + 1) 8 ls st σ k = (o1 st fun _ st => xk_J0_checkIndex_df160 ct K R n 9 ls st σ k) := exS_step.trans rfl
theorem ev_J0_checkIndex_df160_9 {ct : Nat → Bool} {K : Kt} {R : Option AV → Hp → Prop} {n : Nat} {ls : List (Option AV)} {st : List AV} {σ : Hp} {k : Nat × Nat} : xe_J0_checkIndex_df160 ct K R (n + 1) 9 ls st σ k = (st = [] ∧ 0 = 0 ∧ R none σ) := exS_step.trans rfl
def M_J0_checkIndex_df160 : Md := (yJ0_checkIndex_df160, cJ0_checkIndex_df160, 2, (none : Option FieldType), 2, 0, 0, 0, false, tb_J0_checkIndex_df160, mt_J0_checkIndex_df160)
theorem mm_J0_checkIndex_df160 : MMOK M_J0_checkIndex_df160 := ⟨by decide +kernel, tk_J0_checkIndex_df160, mk_J0_checkIndex_df160, rfl, fun h => by cases h⟩
theorem go_J0_checkIndex_df160 {Q : Option AV → Hp → Prop} {ct : Nat → Bool} {pc : Nat} {ls : List (Option AV)} {st : List AV} {σ : Hp} {k : Nat × Nat} (n : Nat) (h : xe_J0_checkIndex_df160 ct (Go M_J0_checkIndex_df160 Q) Q n pc ls st σ k) : Go M_J0_checkIndex_df160 Q pc ls st σ k := Go.exS mm_J0_checkIndex_df160 h

set_option maxRecDepth 20000 in
theorem c_J0_checkIndex_df160 : Ct yJ0_checkIndex_df160 cJ0_checkIndex_df160 2 ((none : Option FieldType)) 2 0 0 sp_J0_checkIndex_df160 := by
  refine Ct.go (M := M_J0_checkIndex_df160) mm_J0_checkIndex_df160 fun av σ Q h0 => ?_
  obtain ⟨i, n, rfl, h⟩ := el_J0_checkIndex_df160 h0
  clear h0
  refine ⟨Nat.le_of_ble_eq_true rfl, ?_⟩
  show Go M_J0_checkIndex_df160 Q 0 [some (vi i), some (vi n)] [] σ (0, 0)
  obtain ⟨hi, h⟩ := h
  refine go_J0_checkIndex_df160 (ct := fun p => p == 99) 20 ?_
  simp only [oI, oL, oR, o1, lI, lL, lR, popN, catS, gv, stL, stL2, swt, cnd, spObj, List.getElem?_cons_zero, List.getElem?_cons_succ, List.getD_cons_zero, List.getD_cons_succ, List.set_cons_zero, List.set_cons_succ, List.nil_append, List.cons_append, Option.toList, Bool.or_false, Bool.false_or, Bool.or_true, Bool.true_or, Nat.reduceBEq, Nat.reduceAdd, Nat.reduceLT, Nat.reduceLeDiff, Int.reduceAdd, Int.reduceToNat, true_and, and_true, Fin.isValue, Fin.val_zero, Fin.val_one, Fin.val_two, Fin.reduceFinMk, eq_self, Int.reduceNeg, imp_self, Nat.reduceMul, Nat.le_refl, not_true_eq_false, not_false_eq_true, List.getElem?_nil, reduceCtorEq, true_or, or_true, Classical.not_not, implies_true, or_self, wI_0, wI_1, wI_m1, b2i_w, b2i_eq0, b2i_eq1, b2i_bool, nor_self, nx_pI, kd_pI, ln_pI, fI_pI, fL_pI, fR_pI, aI_pI, aL_pI, aR_pI, nx_pL, kd_pL, ln_pL, fI_pL, fL_pL, fR_pL, aI_pL, aL_pL, aR_pL, nx_pR, kd_pR, ln_pR, fI_pR, fL_pR, fR_pR, aI_pR, aL_pR, aR_pR, nx_qI, kd_qI, ln_qI, fI_qI, fL_qI, fR_qI, aI_qI, aL_qI, aR_qI, nx_qL, kd_qL, ln_qL, fI_qL, fL_qL, fR_qL, aI_qL, aL_qL, aR_qL, nx_qR, kd_qR, ln_qR, fI_qR, fL_qR, fR_qR, aI_qR, aL_qR, aR_qR, nx_mk, kd_mk, ln_mk, fI_mk, fL_mk, fR_mk, aI_mk, aL_mk, aR_mk, false_and, and_false, if_false, if_true, and_self, Int.reduceEq, Nat.reduceEqDiff, ite_self, MLay_pI, MLay_pL, MLay_qI, MLay_qL, ev_J0_checkIndex_df160_0, ev_J0_checkIndex_df160_1, ev_J0_checkIndex_df160_2, ev_J0_checkIndex_df160_5, ev_J0_checkIndex_df160_8, ev_J0_checkIndex_df160_9, xt_J0_checkIndex_df160, xf_J0_checkIndex_df160, us_J3_checkIndex_8e157, us_GsR]
  repeat' (first | intro z | apply And.intro)
  all_goals try omega
  all_goals try contradiction
  all_goals exact h

def sp_J1_charAt_3b067 : Sp := fun av σ Q => oR av fun r av => oI av fun i av => av = [] ∧ (kd σ r = 21 ∧ (0 ≤ i ∧ i < ln σ r) ∧ (0 ≤ aI σ r i ∧ aI σ r i < 128) ∧ Q (some (vi (aI σ r i))) σ)
theorem us_J1_charAt_3b067 (r : Int) (i : Int) (σ : Hp) (Q : Option AV → Hp → Prop) : sp_J1_charAt_3b067 [vr r, vi i] σ Q = ((kd σ r = 21 ∧ (0 ≤ i ∧ i < ln σ r) ∧ (0 ≤ aI σ r i ∧ aI σ r i < 128) ∧ Q (some (vi (aI σ r i))) σ)) := propext ⟨fun h => h.2, fun h => ⟨rfl, h⟩⟩
theorem el_J1_charAt_3b067 {av : List AV} {σ : Hp} {Q : Option AV → Hp → Prop} (h : sp_J1_charAt_3b067 av σ Q) : ∃ (r : Int) (i : Int), av = [vr r, vi i] ∧ ((kd σ r = 21 ∧ (0 ≤ i ∧ i < ln σ r) ∧ (0 ≤ aI σ r i ∧ aI σ r i < 128) ∧ Q (some (vi (aI σ r i))) σ)) := by
  obtain ⟨r, a0, rfl, h0⟩ := oR_s h
  obtain ⟨i, a1, rfl, h1⟩ := oI_s h0
  obtain ⟨rfl, hz⟩ := h1
  exact ⟨r, i, rfl, hz⟩

def tb_J1_charAt_3b067 : Tab := [(0, .iload_n 1, 1, (0, 0, 0, 0)), (1, .aload_n 0, 1, (0, 0, 0, 0)), (2, .arraylength, 1, (0, 0, 0, 0)), (3, .invokestatic 9, 3, (0, 0, 0, 0)), (6, .aload_n 0, 1, (0, 0, 0, 0)), (7, .iload_n 1, 1, (0, 0, 0, 0)), (8, .baload, 1, (0, 0, 0, 0)), (9, .sipush 255, 3, (0, 0, 0, 0)), (12, .iand, 1, (0, 0, 0, 0)), (13, .i2c, 1, (0, 0, 0, 0)), (14, .ireturn, 1, (0, 0, 0, 0))]
set_option maxRecDepth 100000 in
theorem tk_J1_charAt_3b067 : TOK RJ1 false cJ1_charAt_3b067 tb_J1_charAt_3b067 := chkT_ok ft_J1 (by decide +kernel)
theorem rw_J1_73 : Row RJ1 (.invokestatic 9) 3 2 0 0 2 sp_J0_checkIndex_df160 := row_S c_J0_checkIndex_df160 ⟨TBL_in 1045 (by decide +kernel) rfl, TBL_in 1047 (by decide +kernel) rfl, TBL_in 133 (by decide +kernel) rfl, by decide +kernel, by decide⟩ (TBL_in 1046 (by decide +kernel) rfl)
def mt_J1_charAt_3b067 : List (Nat × Mt) := [(73, 2, 0, 0, 2, sp_J0_checkIndex_df160)]
theorem em_J1_charAt_3b067 : mt_J1_charAt_3b067.lookup 73 = some (2, 0, 0, 2, sp_J0_checkIndex_df160) := rfl
theorem mk_J1_charAt_3b067 : MOK RJ1 mt_J1_charAt_3b067 := by
  intro q hq
  simp only [mt_J1_charAt_3b067, List.mem_cons, List.not_mem_nil, or_false] at hq
  rcases hq with rfl
  · exact rw_J1_73
noncomputable def xe_J1_charAt_3b067 (ct : Nat → Bool) (K : Kt) (R : Option AV → Hp → Prop) (n : Nat) : Kt := exS 2 3 0 0 3 tb_J1_charAt_3b067 mt_J1_charAt_3b067 ct K R n
noncomputable def xk_J1_charAt_3b067 (ct : Nat → Bool) (K : Kt) (R : Option AV → Hp → Prop) (n : Nat) : Kt := exkS 2 3 0 0 3 tb_J1_charAt_3b067 mt_J1_charAt_3b067 ct K R n
theorem xt_J1_charAt_3b067 {ct : Nat → Bool} {K : Kt} {R : Option AV → Hp → Prop} {n pc : Nat} {ls : List (Option AV)} {st : List AV} {σ : Hp} {k : Nat × Nat} (h : ct pc = true) : xk_J1_charAt_3b067 ct K R n pc ls st σ k = K pc ls st σ k := by unfold xk_J1_charAt_3b067 exkS; rw [h]
theorem xf_J1_charAt_3b067 {ct : Nat → Bool} {K : Kt} {R : Option AV → Hp → Prop} {n pc : Nat} {ls : List (Option AV)} {st : List AV} {σ : Hp} {k : Nat × Nat} (h : ct pc = false) : xk_J1_charAt_3b067 ct K R n pc ls st σ k = xe_J1_charAt_3b067 ct K R n pc ls st σ k := by unfold xk_J1_charAt_3b067 exkS xe_J1_charAt_3b067; rw [h]
theorem ev_J1_charAt_3b067_0 {ct : Nat → Bool} {K : Kt} {R : Option AV → Hp → Prop} {n : Nat} {ls : List (Option AV)} {st : List AV} {σ : Hp} {k : Nat × Nat} : xe_J1_charAt_3b067 ct K R (n + 1) 0 ls st σ k = (lI ls 1 fun x => xk_J1_charAt_3b067 ct K R n 1 ls (vi x :: st) σ k) := exS_step.trans rfl
theorem ev_J1_charAt_3b067_1 {ct : Nat → Bool} {K : Kt} {R : Option AV → Hp → Prop} {n : Nat} {ls : List (Option AV)} {st : List AV} {σ : Hp} {k : Nat × Nat} : xe_J1_charAt_3b067 ct K R (n + 1) 1 ls st σ k = (lR ls 0 fun x => xk_J1_charAt_3b067 ct K R n 2 ls (vr x :: st) σ k) := exS_step.trans rfl
theorem ev_J1_charAt_3b067_2 {ct : Nat → Bool} {K : Kt} {R : Option AV → Hp → Prop} {n : Nat} {ls : List (Option AV)} {st : List AV} {σ : Hp} {k : Nat × Nat} : xe_J1_charAt_3b067 ct K R (n + 1) 2 ls st σ k = (oR st fun x st => (101 ≤ kd σ x ∨ kd σ x = 21) ∧ xk_J1_charAt_3b067 ct K R n 3 ls (vi (ln σ x) :: st) σ k) := exS_step.trans rfl
theorem ev_J1_charAt_3b067_3 {ct : Nat → Bool} {K : Kt} {R : Option AV → Hp → Prop} {n : Nat} {ls : List (Option AV)} {st : List AV} {σ : Hp} {k : Nat × Nat} : xe_J1_charAt_3b067 ct K R (n + 1) 3 ls st σ k = (popN 2 st [] fun av rest => (catS rest ≤ 8 ∧ 2 < 3 ∧ k.1 + 0 ≤ 0 ∧ k.2 + 0 ≤ 0) ∧ (sp_J0_checkIndex_df160) av σ fun v σ' => xk_J1_charAt_3b067 ct K R n 6 ls (v.toList ++ rest) σ' (k.1 + 0, k.2 + 0)) := exS_step.trans rfl
theorem ev_J1_charAt_3b067_6 {ct : Nat → Bool} {K : Kt} {R : Option AV → Hp → Prop} {n : Nat} {ls : List (Option AV)} {st : List AV} {σ : Hp} {k : Nat × Nat} : xe_J1_charAt_3b067 ct K R (n + 1) 6 ls st σ k = (lR ls 0 fun x => xk_J1_charAt_3b067 ct K R n 7 ls (vr x :: st) σ k) := exS_step.trans rfl
theorem ev_J1_charAt_3b067_7 {ct : Nat → Bool} {K : Kt} {R : Option AV → Hp → Prop} {n : Nat} {ls : List (Option AV)} {st : List AV} {σ : Hp} {k : Nat × Nat} : xe_J1_charAt_3b067 ct K R (n + 1) 7 ls st σ k = (lI ls 1 fun x => xk_J1_charAt_3b067 ct K R n 8 ls (vi x :: st) σ k) := exS_step.trans rfl
theorem ev_J1_charAt_3b067_8 {ct : Nat → Bool} {K : Kt} {R : Option AV → Hp → Prop} {n : Nat} {ls : List (Option AV)} {st : List AV} {σ : Hp} {k : Nat × Nat} : xe_J1_charAt_3b067 ct K R (n + 1) 8 ls st σ k = (oI st fun j st => oR st fun x st => (kd σ x = 103 ∨ kd σ x = 21) ∧ (0 ≤ j ∧ j < ln σ x) ∧ xk_J1_charAt_3b067 ct K R n 9 ls (vi (aI σ x j) :: st) σ k) := exS_step.trans rfl
theorem ev_J1_charAt_3b067_9 {ct : Nat → Bool} {K : Kt} {R : Option AV → Hp → Prop} {n : Nat} {ls : List (Option AV)} {st : List AV} {σ : Hp} {k : Nat × Nat} : xe_J1_charAt_3b067 ct K R (n + 1) 9 ls st σ k = (xk_J1_charAt_3b067 ct K R n 12 ls (vi (255) :: st) σ k) := exS_step.trans rfl
theorem ev_J1_charAt_3b067_12 {ct : Nat → Bool} {K : Kt} {R : Option AV → Hp → Prop} {n : Nat} {ls : List (Option AV)} {st : List AV} {σ : Hp} {k : Nat × Nat} : xe_J1_charAt_3b067 ct K R (n + 1) 12 ls st σ k = (oI st fun y st => oI st fun x st => xk_J1_charAt_3b067 ct K R n 13 ls (vi (bAnd x y) :: st) σ k) := exS_step.trans rfl
theorem ev_J1_charAt_3b067_13 {ct : Nat → Bool} {K : Kt} {R : Option AV → Hp → Prop} {n : Nat} {ls : List (Option AV)} {st : List AV} {σ : Hp} {k : Nat × Nat} : xe_J1_charAt_3b067 ct K R (n + 1) 13 ls st σ k = (oI st fun x st => xk_J1_charAt_3b067 ct K R n 14 ls (vi (x % 65536) :: st) σ k) := exS_step.trans rfl
theorem ev_J1_charAt_3b067_14 {ct : Nat → Bool} {K : Kt} {R : Option AV → Hp → Prop} {n : Nat} {ls : List (Option AV)} {st : List AV} {σ : Hp} {k : Nat × Nat} : xe_J1_charAt_3b067 ct K R (n + 1) 14 ls st σ k = (oI st fun x st => st = [] ∧ (0 ≤ x ∧ x < 65536) ∧ R (some (vi x)) σ) := exS_step.trans rfl
def M_J1_charAt_3b067 : Md := (yJ1_charAt_3b067, cJ1_charAt_3b067, 2, (some FieldType.char), 3, 0, 0, 3, false, tb_J1_charAt_3b067, mt_J1_charAt_3b067)
theorem mm_J1_charAt_3b067 : MMOK M_J1_charAt_3b067 := ⟨by decide +kernel, tk_J1_charAt_3b067, mk_J1_charAt_3b067, rfl, fun h => by cases h⟩
theorem go_J1_charAt_3b067 {Q : Option AV → Hp → Prop} {ct : Nat → Bool} {pc : Nat} {ls : List (Option AV)} {st : List AV} {σ : Hp} {k : Nat × Nat} (n : Nat) (h : xe_J1_charAt_3b067 ct (Go M_J1_charAt_3b067 Q) Q n pc ls st σ k) : Go M_J1_charAt_3b067 Q pc ls st σ k := Go.exS mm_J1_charAt_3b067 h

set_option maxRecDepth 20000 in
theorem c_J1_charAt_3b067 : Ct yJ1_charAt_3b067 cJ1_charAt_3b067 2 ((some FieldType.char)) 3 0 0 sp_J1_charAt_3b067 := by
  refine Ct.go (M := M_J1_charAt_3b067) mm_J1_charAt_3b067 fun av σ Q h0 => ?_
  obtain ⟨r, i, rfl, h⟩ := el_J1_charAt_3b067 h0
  clear h0
  refine ⟨Nat.le_of_ble_eq_true rfl, ?_⟩
  show Go M_J1_charAt_3b067 Q 0 [some (vr r), some (vi i)] [] σ (0, 0)
  obtain ⟨hk, hi, hb, h⟩ := h
  refine Go.wf fun hw => ?_
  have hl := hw.2.2.1 r
  have hm : aI σ r i % 65536 = aI σ r i := by omega
  refine go_J1_charAt_3b067 (ct := fun p => p == 99) 20 ?_
  simp only [oI, oL, oR, o1, lI, lL, lR, popN, catS, gv, stL, stL2, swt, cnd, spObj, List.getElem?_cons_zero, List.getElem?_cons_succ, List.getD_cons_zero, List.getD_cons_succ, List.set_cons_zero, List.set_cons_succ, List.nil_append, List.cons_append, Option.toList, Bool.or_false, Bool.false_or, Bool.or_true, Bool.true_or, Nat.reduceBEq, Nat.reduceAdd, Nat.reduceLT, Nat.reduceLeDiff, Int.reduceAdd, Int.reduceToNat, true_and, and_true, Fin.isValue, Fin.val_zero, Fin.val_one, Fin.val_two, Fin.reduceFinMk, eq_self, Int.reduceNeg, imp_self, Nat.reduceMul, Nat.le_refl, not_true_eq_false, not_false_eq_true, List.getElem?_nil, reduceCtorEq, true_or, or_true, Classical.not_not, implies_true, or_self, wI_0, wI_1, wI_m1, b2i_w, b2i_eq0, b2i_eq1, b2i_bool, nor_self, nx_pI, kd_pI, ln_pI, fI_pI, fL_pI, fR_pI, aI_pI, aL_pI, aR_pI, nx_pL, kd_pL, ln_pL, fI_pL, fL_pL, fR_pL, aI_pL, aL_pL, aR_pL, nx_pR, kd_pR, ln_pR, fI_pR, fL_pR, fR_pR, aI_pR, aL_pR, aR_pR, nx_qI, kd_qI, ln_qI, fI_qI, fL_qI, fR_qI, aI_qI, aL_qI, aR_qI, nx_qL, kd_qL, ln_qL, fI_qL, fL_qL, fR_qL, aI_qL, aL_qL, aR_qL, nx_qR, kd_qR, ln_qR, fI_qR, fL_qR, fR_qR, aI_qR, aL_qR, aR_qR, nx_mk, kd_mk, ln_mk, fI_mk, fL_mk, fR_mk, aI_mk, aL_mk, aR_mk, false_and, and_false, if_false, if_true, and_self, Int.reduceEq, Nat.reduceEqDiff, ite_self, MLay_pI, MLay_pL, MLay_qI, MLay_qL, ev_J1_charAt_3b067_0, ev_J1_charAt_3b067_1, ev_J1_charAt_3b067_2, ev_J1_charAt_3b067_3, ev_J1_charAt_3b067_6, ev_J1_charAt_3b067_7, ev_J1_charAt_3b067_8, ev_J1_charAt_3b067_9, ev_J1_charAt_3b067_12, ev_J1_charAt_3b067_13, ev_J1_charAt_3b067_14, xt_J1_charAt_3b067, xf_J1_charAt_3b067, us_J0_checkIndex_df160, hk, bAnd_255 hb, hm]
  repeat' (first | intro z | apply And.intro)
  all_goals try omega
  all_goals try contradiction
  all_goals exact h

def sp_J0_charAt_5068e : Sp := fun av σ Q => oR av fun this av => oI av fun i av => av = [] ∧ kd σ this = 20 ∧ (SK σ ∧ (0 ≤ i ∧ i < ln σ (fR σ 2000 this)) ∧ Q (some (vi (aI σ (fR σ 2000 this) i))) σ)
theorem us_J0_charAt_5068e (this : Int) (i : Int) (σ : Hp) (Q : Option AV → Hp → Prop) : sp_J0_charAt_5068e [vr this, vi i] σ Q = (kd σ this = 20 ∧ (SK σ ∧ (0 ≤ i ∧ i < ln σ (fR σ 2000 this)) ∧ Q (some (vi (aI σ (fR σ 2000 this) i))) σ)) := propext ⟨fun h => h.2, fun h => ⟨rfl, h⟩⟩
theorem el_J0_charAt_5068e {av : List AV} {σ : Hp} {Q : Option AV → Hp → Prop} (h : sp_J0_charAt_5068e av σ Q) : ∃ (this : Int) (i : Int), av = [vr this, vi i] ∧ (kd σ this = 20 ∧ (SK σ ∧ (0 ≤ i ∧ i < ln σ (fR σ 2000 this)) ∧ Q (some (vi (aI σ (fR σ 2000 this) i))) σ)) := by
  obtain ⟨this, a0, rfl, h0⟩ := oR_s h
  obtain ⟨i, a1, rfl, h1⟩ := oI_s h0
  obtain ⟨rfl, hz⟩ := h1
  exact ⟨this, i, rfl, hz⟩
theorem rc_J0_charAt_5068e : ∀ (av : List AV) (σ : Hp) (Q : Option AV → Hp → Prop), sp_J0_charAt_5068e av σ Q → ∃ r tl, av = vr r :: tl ∧ kd σ r = 19 + 1 := fun av σ Q h => by
  obtain ⟨this, i, rfl, hz, -⟩ := el_J0_charAt_5068e h
  exact ⟨this, _, rfl, hz⟩

def tb_J0_charAt_5068e : Tab := [(0, .aload_n 0, 1, (0, 0, 0, 0)), (1, .invokevirtual 492, 3, (0, 0, 0, 0)), (4, .ifCond .eq 12, 3, (0, 0, 0, 0)), (7, .aload_n 0, 1, (0, 0, 0, 0)), (11, .iload_n 1, 1, (0, 0, 0, 0)), (12, .invokestatic 495, 3, (0, 0, 0, 0)), (15, .ireturn, 1, (0, 0, 0, 0)), (16, .aload_n 0, 1, (0, 0, 0, 0)), (20, .iload_n 1, 1, (0, 0, 0, 0)), (21, .invokestatic 498, 3, (0, 0, 0, 0)), (24, .ireturn, 1, (0, 0, 0, 0))]
set_option maxRecDepth 100000 in
theorem tk_J0_charAt_5068e : TOK RJ0 false cJ0_charAt_5068e tb_J0_charAt_5068e := chkT_ok ft_J0 (by decide +kernel)
theorem rw_J0_3936 : Row RJ0 (.invokevirtual 492) 3 1 0 0 1 sp_J0_isLatin1_aae02 := row_VS (n := 0) c_J0_isLatin1_aae02 ⟨TBL_in 954 (by decide +kernel) rfl, TBL_in 957 (by decide +kernel) rfl, TBL_in 133 (by decide +kernel) rfl, by decide +kernel, by decide⟩ rfl (TBL_in 955 (by decide +kernel) rfl) (TBL_in 956 (by decide +kernel) rfl) rc_J0_isLatin1_aae02
theorem rw_J0_3961 : Row RJ0 (.invokestatic 495) 3 2 0 0 3 sp_J1_charAt_3b067 := row_S c_J1_charAt_3b067 ⟨TBL_in 1042 (by decide +kernel) rfl, TBL_in 1044 (by decide +kernel) rfl, TBL_in 134 (by decide +kernel) rfl, by decide +kernel, by decide⟩ (TBL_in 1043 (by decide +kernel) rfl)
def mt_J0_charAt_5068e : List (Nat × Mt) := [(3936, 1, 0, 0, 1, sp_J0_isLatin1_aae02), (3961, 2, 0, 0, 3, sp_J1_charAt_3b067)]
theorem em_J0_charAt_5068e : mt_J0_charAt_5068e.lookup 3936 = some (1, 0, 0, 1, sp_J0_isLatin1_aae02) ∧ mt_J0_charAt_5068e.lookup 3961 = some (2, 0, 0, 3, sp_J1_charAt_3b067) := ⟨rfl, rfl⟩
theorem mk_J0_charAt_5068e : MOK RJ0 mt_J0_charAt_5068e := by
  intro q hq
  simp only [mt_J0_charAt_5068e, List.mem_cons, List.not_mem_nil, or_false] at hq
  rcases hq with rfl | rfl
  · exact rw_J0_3936
  · exact rw_J0_3961
noncomputable def xe_J0_charAt_5068e (ct : Nat → Bool) (K : Kt) (R : Option AV → Hp → Prop) (n : Nat) : Kt := exS 2 4 0 0 3 tb_J0_charAt_5068e mt_J0_charAt_5068e ct K R n
noncomputable def xk_J0_charAt_5068e (ct : Nat → Bool) (K : Kt) (R : Option AV → Hp → Prop) (n : Nat) : Kt := exkS 2 4 0 0 3 tb_J0_charAt_5068e mt_J0_charAt_5068e ct K R n
theorem xt_J0_charAt_5068e {ct : Nat → Bool} {K : Kt} {R : Option AV → Hp → Prop} {n pc : Nat} {ls : List (Option AV)} {st : List AV} {σ : Hp} {k : Nat × Nat} (h : ct pc = true) : xk_J0_charAt_5068e ct K R n pc ls st σ k = K pc ls st σ k := by unfold xk_J0_charAt_5068e exkS; rw [h]
theorem xf_J0_charAt_5068e {ct : Nat → Bool} {K : Kt} {R : Option AV → Hp → Prop} {n pc : Nat} {ls : List (Option AV)} {st : List AV} {σ : Hp} {k : Nat × Nat} (h : ct pc = false) : xk_J0_charAt_5068e ct K R n pc ls st σ k = xe_J0_charAt_5068e ct K R n pc ls st σ k := by unfold xk_J0_charAt_5068e exkS xe_J0_charAt_5068e; rw [h]
theorem ev_J0_charAt_5068e_0 {ct : Nat → Bool} {K : Kt} {R : Option AV → Hp → Prop} {n : Nat} {ls : List (Option AV)} {st : List AV} {σ : Hp} {k : Nat × Nat} : xe_J0_charAt_5068e ct K R (n + 1) 0 ls st σ k = (lR ls 0 fun x => xk_J0_charAt_5068e ct K R n 1 ls (vr x :: st) σ k) := exS_step.trans rfl
theorem ev_J0_charAt_5068e_1 {ct : Nat → Bool} {K : Kt} {R : Option AV → Hp → Prop} {n : Nat} {ls : List (Option AV)} {st : List AV} {σ : Hp} {k : Nat × Nat} : xe_J0_charAt_5068e ct K R (n + 1) 1 ls st σ k = (popN 1 st [] fun av rest => (catS rest ≤ 8 ∧ 1 < 4 ∧ k.1 + 0 ≤ 0 ∧ k.2 + 0 ≤ 0) ∧ (sp_J0_isLatin1_aae02) av σ fun v σ' => xk_J0_charAt_5068e ct K R n 4 ls (v.toList ++ rest) σ' (k.1 + 0, k.2 + 0)) := exS_step.trans rfl
theorem ev_J0_charAt_5068e_4 {ct : Nat → Bool} {K : Kt} {R : Option AV → Hp → Prop} {n : Nat} {ls : List (Option AV)} {st : List AV} {σ : Hp} {k : Nat × Nat} : xe_J0_charAt_5068e ct K R (n + 1) 4 ls st σ k = (oI st fun x st => (wI x = wI 0 → xk_J0_charAt_5068e ct K R n 16 ls st σ k) ∧ (¬ (wI x = wI 0) → xk_J0_charAt_5068e ct K R n 7 ls st σ k)) := exS_step.trans rfl
theorem ev_J0_charAt_5068e_7 {ct : Nat → Bool} {K : Kt} {R : Option AV → Hp → Prop} {n : Nat} {ls : List (Option AV)} {st : List AV} {σ : Hp} {k : Nat × Nat} : xe_J0_charAt_5068e ct K R (n + 1) 7 ls st σ k = (lR ls 0 fun x => xk_J0_charAt_5068e ct K R n 8 ls (vr x :: st) σ k) := exS_step.trans rfl
theorem ev_J0_charAt_5068e_11 {ct : Nat → Bool} {K : Kt} {R : Option AV → Hp → Prop} {n : Nat} {ls : List (Option AV)} {st : List AV} {σ : Hp} {k : Nat × Nat} : xe_J0_charAt_5068e ct K R (n + 1) 11 ls st σ k = (lI ls 1 fun x => xk_J0_charAt_5068e ct K R n 12 ls (vi x :: st) σ k) := exS_step.trans rfl
theorem ev_J0_charAt_5068e_12 {ct : Nat → Bool} {K : Kt} {R : Option AV → Hp → Prop} {n : Nat} {ls : List (Option AV)} {st : List AV} {σ : Hp} {k : Nat × Nat} : xe_J0_charAt_5068e ct K R (n + 1) 12 ls st σ k = (popN 2 st [] fun av rest => (catS rest ≤ 8 ∧ 3 < 4 ∧ k.1 + 0 ≤ 0 ∧ k.2 + 0 ≤ 0) ∧ (sp_J1_charAt_3b067) av σ fun v σ' => xk_J0_charAt_5068e ct K R n 15 ls (v.toList ++ rest) σ' (k.1 + 0, k.2 + 0)) := exS_step.trans rfl
theorem ev_J0_charAt_5068e_15 {ct : Nat → Bool} {K : Kt} {R : Option AV → Hp → Prop} {n : Nat} {ls : List (Option AV)} {st : List AV} {σ : Hp} {k : Nat × Nat} : xe_J0_charAt_5068e ct K R (n + 1) 15 ls st σ k = (oI st fun x st => st = [] ∧ (0 ≤ x ∧ x < 65536) ∧ R (some (vi x)) σ) := exS_step.trans rfl
theorem ev_J0_charAt_5068e_16 {ct : Nat → Bool} {K : Kt} {R : Option AV → Hp → Prop} {n : Nat} {ls : List (Option AV)} {st : List AV} {σ : Hp} {k : Nat × Nat} : xe_J0_charAt_5068e ct K R (n + 1) 16 ls st σ k = (lR ls 0 fun x => xk_J0_charAt_5068e ct K R n 17 ls (vr x :: st) σ k) := exS_step.trans rfl
theorem ev_J0_charAt_5068e_20 {ct : Nat → Bool} {K : Kt} {R : Option AV → Hp → Prop} {n : Nat} {ls : List (Option AV)} {st : List AV} {σ : Hp} {k : Nat × Nat} : xe_J0_charAt_5068e ct K R (n + 1) 20 ls st σ k = (lI ls 1 fun x => xk_J0_charAt_5068e ct K R n 21 ls (vi x :: st) σ k) := exS_step.trans rfl
theorem ev_J0_charAt_5068e_21 {ct : Nat → Bool} {K : Kt} {R : Option AV → Hp → Prop} {n : Nat} {ls : List (Option AV)} {st : List AV} {σ : Hp} {k : Nat × Nat} : xe_J0_charAt_5068e ct K R (n + 1) 21 ls st σ k = (False) := exS_step.trans rfl
theorem ev_J0_charAt_5068e_24 {ct : Nat → Bool} {K : Kt} {R : Option AV → Hp → Prop} {n : Nat} {ls : List (Option AV)} {st : List AV} {σ : Hp} {k : Nat × Nat} : xe_J0_charAt_5068e ct K R (n + 1) 24 ls st σ k = (oI st fun x st => st = [] ∧ (0 ≤ x ∧ x < 65536) ∧ R (some (vi x)) σ) := exS_step.trans rfl
def M_J0_charAt_5068e : Md := (yJ0_charAt_5068e, cJ0_charAt_5068e, 2, (some FieldType.char), 4, 0, 0, 3, false, tb_J0_charAt_5068e, mt_J0_charAt_5068e)
theorem mm_J0_charAt_5068e : MMOK M_J0_charAt_5068e := ⟨by decide +kernel, tk_J0_charAt_5068e, mk_J0_charAt_5068e, rfl, fun h => by cases h⟩
theorem go_J0_charAt_5068e {Q : Option AV → Hp → Prop} {ct : Nat → Bool} {pc : Nat} {ls : List (Option AV)} {st : List AV} {σ : Hp} {k : Nat × Nat} (n : Nat) (h : xe_J0_charAt_5068e ct (Go M_J0_charAt_5068e Q) Q n pc ls st σ k) : Go M_J0_charAt_5068e Q pc ls st σ k := Go.exS mm_J0_charAt_5068e h

set_option maxRecDepth 20000 in
theorem c_J0_charAt_5068e : Ct yJ0_charAt_5068e cJ0_charAt_5068e 2 ((some FieldType.char)) 4 0 0 sp_J0_charAt_5068e := by
  refine Ct.go (M := M_J0_charAt_5068e) mm_J0_charAt_5068e fun av σ Q h0 => ?_
  obtain ⟨this, i, rfl, hk, h⟩ := el_J0_charAt_5068e h0
  clear h0
  refine ⟨Nat.le_of_ble_eq_true rfl, ?_⟩
  show Go M_J0_charAt_5068e Q 0 [some (vr this), some (vi i)] [] σ (0, 0)
  obtain ⟨hS, hi, h⟩ := h
  obtain ⟨s1, s2⟩ := hS.2.1 _ hk
  obtain ⟨s3, s4⟩ := hS.2.2 _ s2
  have s4 := s4 i
  have w11 : Go M_J0_charAt_5068e Q 11 [some (vr this), some (vi i)] [vr (fR σ 2000 this)] σ (0, 0) := by
    refine go_J0_charAt_5068e (ct := fun p => p == 99) 10 ?_
    simp only [oI, oL, oR, o1, lI, lL, lR, popN, catS, gv, stL, stL2, swt, cnd, spObj, List.getElem?_cons_zero, List.getElem?_cons_succ, List.getD_cons_zero, List.getD_cons_succ, List.set_cons_zero, List.set_cons_succ, List.nil_append, List.cons_append, Option.toList, Bool.or_false, Bool.false_or, Bool.or_true, Bool.true_or, Nat.reduceBEq, Nat.reduceAdd, Nat.reduceLT, Nat.reduceLeDiff, Int.reduceAdd, Int.reduceToNat, true_and, and_true, Fin.isValue, Fin.val_zero, Fin.val_one, Fin.val_two, Fin.reduceFinMk, eq_self, Int.reduceNeg, imp_self, Nat.reduceMul, Nat.le_refl, not_true_eq_false, not_false_eq_true, List.getElem?_nil, reduceCtorEq, true_or, or_true, Classical.not_not, implies_true, or_self, wI_0, wI_1, wI_m1, b2i_w, b2i_eq0, b2i_eq1, b2i_bool, nor_self, nx_pI, kd_pI, ln_pI, fI_pI, fL_pI, fR_pI, aI_pI, aL_pI, aR_pI, nx_pL, kd_pL, ln_pL, fI_pL, fL_pL, fR_pL, aI_pL, aL_pL, aR_pL, nx_pR, kd_pR, ln_pR, fI_pR, fL_pR, fR_pR, aI_pR, aL_pR, aR_pR, nx_qI, kd_qI, ln_qI, fI_qI, fL_qI, fR_qI, aI_qI, aL_qI, aR_qI, nx_qL, kd_qL, ln_qL, fI_qL, fL_qL, fR_qL, aI_qL, aL_qL, aR_qL, nx_qR, kd_qR, ln_qR, fI_qR, fL_qR, fR_qR, aI_qR, aL_qR, aR_qR, nx_mk, kd_mk, ln_mk, fI_mk, fL_mk, fR_mk, aI_mk, aL_mk, aR_mk, false_and, and_false, if_false, if_true, and_self, Int.reduceEq, Nat.reduceEqDiff, ite_self, MLay_pI, MLay_pL, MLay_qI, MLay_qL, ev_J0_charAt_5068e_11, ev_J0_charAt_5068e_12, ev_J0_charAt_5068e_15, xt_J0_charAt_5068e, xf_J0_charAt_5068e, us_J0_isLatin1_aae02, us_J1_charAt_3b067, s2]
    repeat' (first | intro z | apply And.intro)
    all_goals try omega
    all_goals try contradiction
    all_goals exact h
  have w8 : Go M_J0_charAt_5068e Q 8 [some (vr this), some (vi i)] [vr this] σ (0, 0) := go_gfV (index := 9) hk (TBL_in 2134 (by decide +kernel) rfl) (by decide +kernel) w11
  refine go_J0_charAt_5068e (ct := fun p => p == 8 || p == 16) 20 ?_
  simp only [oI, oL, oR, o1, lI, lL, lR, popN, catS, gv, stL, stL2, swt, cnd, spObj, List.getElem?_cons_zero, List.getElem?_cons_succ, List.getD_cons_zero, List.getD_cons_succ, List.set_cons_zero, List.set_cons_succ, List.nil_append, List.cons_append, Option.toList, Bool.or_false, Bool.false_or, Bool.or_true, Bool.true_or, Nat.reduceBEq, Nat.reduceAdd, Nat.reduceLT, Nat.reduceLeDiff, Int.reduceAdd, Int.reduceToNat, true_and, and_true, Fin.isValue, Fin.val_zero, Fin.val_one, Fin.val_two, Fin.reduceFinMk, eq_self, Int.reduceNeg, imp_self, Nat.reduceMul, Nat.le_refl, not_true_eq_false, not_false_eq_true, List.getElem?_nil, reduceCtorEq, true_or, or_true, Classical.not_not, implies_true, or_self, wI_0, wI_1, wI_m1, b2i_w, b2i_eq0, b2i_eq1, b2i_bool, nor_self, nx_pI, kd_pI, ln_pI, fI_pI, fL_pI, fR_pI, aI_pI, aL_pI, aR_pI, nx_pL, kd_pL, ln_pL, fI_pL, fL_pL, fR_pL, aI_pL, aL_pL, aR_pL, nx_pR, kd_pR, ln_pR, fI_pR, fL_pR, fR_pR, aI_pR, aL_pR, aR_pR, nx_qI, kd_qI, ln_qI, fI_qI, fL_qI, fR_qI, aI_qI, aL_qI, aR_qI, nx_qL, kd_qL, ln_qL, fI_qL, fL_qL, fR_qL, aI_qL, aL_qL, aR_qL, nx_qR, kd_qR, ln_qR, fI_qR, fL_qR, fR_qR, aI_qR, aL_qR, aR_qR, nx_mk, kd_mk, ln_mk, fI_mk, fL_mk, fR_mk, aI_mk, aL_mk, aR_mk, false_and, and_false, if_false, if_true, and_self, Int.reduceEq, Nat.reduceEqDiff, ite_self, MLay_pI, MLay_pL, MLay_qI, MLay_qL, ev_J0_charAt_5068e_0, ev_J0_charAt_5068e_1, ev_J0_charAt_5068e_4, ev_J0_charAt_5068e_7, xt_J0_charAt_5068e, xf_J0_charAt_5068e, us_J0_isLatin1_aae02, us_J1_charAt_3b067, hS.1, s1, hk]
  try simp (disch := omega) only [wI_id, dv_nn, rm_nn]
  repeat' (first | intro z | apply And.intro)
  all_goals try omega
  all_goals try contradiction
  all_goals exact w8

def sp_J1_canEncode_9a6ad : Sp := fun av σ Q => oI av fun c av => av = [] ∧ ((0 ≤ c ∧ c < 128) ∧ Q (some (vi 1)) σ)
theorem us_J1_canEncode_9a6ad (c : Int) (σ : Hp) (Q : Option AV → Hp → Prop) : sp_J1_canEncode_9a6ad [vi c] σ Q = (((0 ≤ c ∧ c < 128) ∧ Q (some (vi 1)) σ)) := propext ⟨fun h => h.2, fun h => ⟨rfl, h⟩⟩
theorem el_J1_canEncode_9a6ad {av : List AV} {σ : Hp} {Q : Option AV → Hp → Prop} (h : sp_J1_canEncode_9a6ad av σ Q) : ∃ (c : Int), av = [vi c] ∧ (((0 ≤ c ∧ c < 128) ∧ Q (some (vi 1)) σ)) := by
  obtain ⟨c, a0, rfl, h0⟩ := oI_s h
  obtain ⟨rfl, hz⟩ := h0
  exact ⟨c, rfl, hz⟩

def tb_J1_canEncode_9a6ad : Tab := [(0, .iload_n 0, 1, (0, 0, 0, 0)), (1, .ifCond .lt 14, 3, (0, 0, 0, 0)), (4, .iload_n 0, 1, (0, 0, 0, 0)), (5, .sipush 255, 3, (0, 0, 0, 0)), (8, .if_icmp .gt 7, 3, (0, 0, 0, 0)), (11, .iconst 1, 1, (0, 0, 0, 0)), (12, .goto 4, 3, (0, 0, 0, 0)), (15, .iconst 0, 1, (0, 0, 0, 0)), (16, .ireturn, 1, (0, 0, 0, 0))]
set_option maxRecDepth 100000 in
theorem tk_J1_canEncode_9a6ad : TOK RJ1 false cJ1_canEncode_9a6ad tb_J1_canEncode_9a6ad := chkT_ok ft_J1 (by decide +kernel)
def mt_J1_canEncode_9a6ad : List (Nat × Mt) := []
theorem mk_J1_canEncode_9a6ad : MOK RJ1 mt_J1_canEncode_9a6ad := fun q hq => by cases hq
noncomputable def xe_J1_canEncode_9a6ad (ct : Nat → Bool) (K : Kt) (R : Option AV → Hp → Prop) (n : Nat) : Kt := exS 1 1 0 0 2 tb_J1_canEncode_9a6ad mt_J1_canEncode_9a6ad ct K R n
noncomputable def xk_J1_canEncode_9a6ad (ct : Nat → Bool) (K : Kt) (R : Option AV → Hp → Prop) (n : Nat) : Kt := exkS 1 1 0 0 2 tb_J1_canEncode_9a6ad mt_J1_canEncode_9a6ad ct K R n
theorem xt_J1_canEncode_9a6ad {ct : Nat → Bool} {K : Kt} {R : Option AV → Hp → Prop} {n pc : Nat} {ls : List (Option AV)} {st : List AV} {σ : Hp} {k : Nat × Nat} (h : ct pc = true) : xk_J1_canEncode_9a6ad ct K R n pc ls st σ k = K pc ls st σ k := by unfold xk_J1_canEncode_9a6ad exkS; rw [h]
theorem xf_J1_canEncode_9a6ad {ct : Nat → Bool} {K : Kt} {R : Option AV → Hp → Prop} {n pc : Nat} {ls : List (Option AV)} {st : List AV} {σ : Hp} {k : Nat × Nat} (h : ct pc = false) : xk_J1_canEncode_9a6ad ct K R n pc ls st σ k = xe_J1_canEncode_9a6ad ct K R n pc ls st σ k := by unfold xk_J1_canEncode_9a6ad exkS xe_J1_canEncode_9a6ad; rw [h]
theorem ev_J1_canEncode_9a6ad_0 {ct : Nat → Bool} {K : Kt} {R : Option AV → Hp → Prop} {n : Nat} {ls : List (Option AV)} {st : List AV} {σ : Hp} {k : Nat × Nat} : xe_J1_canEncode_9a6ad ct K R (n + 1) 0 ls st σ k = (lI ls 0 fun x => xk_J1_canEncode_9a6ad ct K R n 1 ls (vi x :: st) σ k) := exS_step.trans rfl
theorem ev_J1_canEncode_9a6ad_1 {ct : Nat → Bool} {K : Kt} {R : Option AV → Hp → Prop} {n : Nat} {ls : List (Option AV)} {st : List AV} {σ : Hp} {k : Nat × Nat} : xe_J1_canEncode_9a6ad ct K R (n + 1) 1 ls st σ k = (oI st fun x st => (wI x < wI 0 → xk_J1_canEncode_9a6ad ct K R n 15 ls st σ k) ∧ (¬ (wI x < wI 0) → xk_J1_canEncode_9a6ad ct K R n 4 ls st σ k)) := exS_step.trans rfl
theorem ev_J1_canEncode_9a6ad_4 {ct : Nat → Bool} {K : Kt} {R : Option AV → Hp → Prop} {n : Nat} {ls : List (Option AV)} {st : List AV} {σ : Hp} {k : Nat × Nat} : xe_J1_canEncode_9a6ad ct K R (n + 1) 4 ls st σ k = (lI ls 0 fun x => xk_J1_canEncode_9a6ad ct K R n 5 ls (vi x :: st) σ k) := exS_step.trans rfl
theorem ev_J1_canEncode_9a6ad_5 {ct : Nat → Bool} {K : Kt} {R : Option AV → Hp → Prop} {n : Nat} {ls : List (Option AV)} {st : List AV} {σ : Hp} {k : Nat × Nat} : xe_J1_canEncode_9a6ad ct K R (n + 1) 5 ls st σ k = (xk_J1_canEncode_9a6ad ct K R n 8 ls (vi (255) :: st) σ k) := exS_step.trans rfl
theorem ev_J1_canEncode_9a6ad_8 {ct : Nat → Bool} {K : Kt} {R : Option AV → Hp → Prop} {n : Nat} {ls : List (Option AV)} {st : List AV} {σ : Hp} {k : Nat × Nat} : xe_J1_canEncode_9a6ad ct K R (n + 1) 8 ls st σ k = (oI st fun y st => oI st fun x st => (wI y < wI x → xk_J1_canEncode_9a6ad ct K R n 15 ls st σ k) ∧ (¬ (wI y < wI x) → xk_J1_canEncode_9a6ad ct K R n 11 ls st σ k)) := exS_step.trans rfl
theorem ev_J1_canEncode_9a6ad_11 {ct : Nat → Bool} {K : Kt} {R : Option AV → Hp → Prop} {n : Nat} {ls : List (Option AV)} {st : List AV} {σ : Hp} {k : Nat × Nat} : xe_J1_canEncode_9a6ad ct K R (n + 1) 11 ls st σ k = (xk_J1_canEncode_9a6ad ct K R n 12 ls (vi (1) :: st) σ k) := exS_step.trans rfl
theorem ev_J1_canEncode_9a6ad_12 {ct : Nat → Bool} {K : Kt} {R : Option AV → Hp → Prop} {n : Nat} {ls : List (Option AV)} {st : List AV} {σ : Hp} {k : Nat × Nat} : xe_J1_canEncode_9a6ad ct K R (n + 1) 12 ls st σ k = (xk_J1_canEncode_9a6ad ct K R n 16 ls st σ k) := exS_step.trans rfl
theorem ev_J1_canEncode_9a6ad_15 {ct : Nat → Bool} {K : Kt} {R : Option AV → Hp → Prop} {n : Nat} {ls : List (Option AV)} {st : List AV} {σ : Hp} {k : Nat × Nat} : xe_J1_canEncode_9a6ad ct K R (n + 1) 15 ls st σ k = (xk_J1_canEncode_9a6ad ct K R n 16 ls (vi (0) :: st) σ k) := exS_step.trans rfl
theorem ev_J1_canEncode_9a6ad_16 {ct : Nat → Bool} {K : Kt} {R : Option AV → Hp → Prop} {n : Nat} {ls : List (Option AV)} {st : List AV} {σ : Hp} {k : Nat × Nat} : xe_J1_canEncode_9a6ad ct K R (n + 1) 16 ls st σ k = (oI st fun x st => st = [] ∧ (x = 0 ∨ x = 1) ∧ R (some (vi x)) σ) := exS_step.trans rfl
def M_J1_canEncode_9a6ad : Md := (yJ1_canEncode_9a6ad, cJ1_canEncode_9a6ad, 1, (some FieldType.boolean), 1, 0, 0, 2, false, tb_J1_canEncode_9a6ad, mt_J1_canEncode_9a6ad)
theorem mm_J1_canEncode_9a6ad : MMOK M_J1_canEncode_9a6ad := ⟨by decide +kernel, tk_J1_canEncode_9a6ad, mk_J1_canEncode_9a6ad, rfl, fun h => by cases h⟩
theorem go_J1_canEncode_9a6ad {Q : Option AV → Hp → Prop} {ct : Nat → Bool} {pc : Nat} {ls : List (Option AV)} {st : List AV} {σ : Hp} {k : Nat × Nat} (n : Nat) (h : xe_J1_canEncode_9a6ad ct (Go M_J1_canEncode_9a6ad Q) Q n pc ls st σ k) : Go M_J1_canEncode_9a6ad Q pc ls st σ k := Go.exS mm_J1_canEncode_9a6ad h

set_option maxRecDepth 20000 in
theorem c_J1_canEncode_9a6ad : Ct yJ1_canEncode_9a6ad cJ1_canEncode_9a6ad 1 ((some FieldType.boolean)) 1 0 0 sp_J1_canEncode_9a6ad := by
  refine Ct.go (M := M_J1_canEncode_9a6ad) mm_J1_canEncode_9a6ad fun av σ Q h0 => ?_
  obtain ⟨c, rfl, h⟩ := el_J1_canEncode_9a6ad h0
  clear h0
  refine ⟨Nat.le_of_ble_eq_true rfl, ?_⟩
  show Go M_J1_canEncode_9a6ad Q 0 [some (vi c)] [] σ (0, 0)
  obtain ⟨hc, h⟩ := h
  refine go_J1_canEncode_9a6ad (ct := fun p => p == 99) 20 ?_
  simp only [oI, oL, oR, o1, lI, lL, lR, popN, catS, gv, stL, stL2, swt, cnd, spObj, List.getElem?_cons_zero, List.getElem?_cons_succ, List.getD_cons_zero, List.getD_cons_succ, List.set_cons_zero, List.set_cons_succ, List.nil_append, List.cons_append, Option.toList, Bool.or_false, Bool.false_or, Bool.or_true, Bool.true_or, Nat.reduceBEq, Nat.reduceAdd, Nat.reduceLT, Nat.reduceLeDiff, Int.reduceAdd, Int.reduceToNat, true_and, and_true, Fin.isValue, Fin.val_zero, Fin.val_one, Fin.val_two, Fin.reduceFinMk, eq_self, Int.reduceNeg, imp_self, Nat.reduceMul, Nat.le_refl, not_true_eq_false, not_false_eq_true, List.getElem?_nil, reduceCtorEq, true_or, or_true, Classical.not_not, implies_true, or_self, wI_0, wI_1, wI_m1, b2i_w, b2i_eq0, b2i_eq1, b2i_bool, nor_self, nx_pI, kd_pI, ln_pI, fI_pI, fL_pI, fR_pI, aI_pI, aL_pI, aR_pI, nx_pL, kd_pL, ln_pL, fI_pL, fL_pL, fR_pL, aI_pL, aL_pL, aR_pL, nx_pR, kd_pR, ln_pR, fI_pR, fL_pR, fR_pR, aI_pR, aL_pR, aR_pR, nx_qI, kd_qI, ln_qI, fI_qI, fL_qI, fR_qI, aI_qI, aL_qI, aR_qI, nx_qL, kd_qL, ln_qL, fI_qL, fL_qL, fR_qL, aI_qL, aL_qL, aR_qL, nx_qR, kd_qR, ln_qR, fI_qR, fL_qR, fR_qR, aI_qR, aL_qR, aR_qR, nx_mk, kd_mk, ln_mk, fI_mk, fL_mk, fR_mk, aI_mk, aL_mk, aR_mk, false_and, and_false, if_false, if_true, and_self, Int.reduceEq, Nat.reduceEqDiff, ite_self, MLay_pI, MLay_pL, MLay_qI, MLay_qL, ev_J1_canEncode_9a6ad_0, ev_J1_canEncode_9a6ad_1, ev_J1_canEncode_9a6ad_4, ev_J1_canEncode_9a6ad_5, ev_J1_canEncode_9a6ad_8, ev_J1_canEncode_9a6ad_11, ev_J1_canEncode_9a6ad_12, ev_J1_canEncode_9a6ad_15, ev_J1_canEncode_9a6ad_16, xt_J1_canEncode_9a6ad, xf_J1_canEncode_9a6ad]
  try simp (disch := omega) only [wI_id, dv_nn, rm_nn]
  repeat' (first | intro z | apply And.intro)
  all_goals try omega
  all_goals try contradiction
  all_goals exact h

/-- where c stands first among the bytes of r, or -1 -/
def IdxOf (σ : Hp) (r c v : Int) : Prop := (v = -1 ∧ ∀ j, 0 ≤ j → j < ln σ r → ¬ aI σ r j = c) ∨ ((0 ≤ v ∧ v < ln σ r) ∧ aI σ r v = c)

def sp_J1_indexOfChar_4cfef : Sp := fun av σ Q => oR av fun r av => oI av fun c av => oI av fun a av => oI av fun b av => av = [] ∧ (kd σ r = 21 ∧ (0 ≤ c ∧ c < 128) ∧ a = 0 ∧ b = ln σ r ∧ ln σ r ≤ 100 ∧ (∀ j, 0 ≤ aI σ r j ∧ aI σ r j < 128) ∧ (∀ v, IdxOf σ r c v → Q (some (vi v)) σ))
theorem us_J1_indexOfChar_4cfef (r : Int) (c : Int) (a : Int) (b : Int) (σ : Hp) (Q : Option AV → Hp → Prop) : sp_J1_indexOfChar_4cfef [vr r, vi c, vi a, vi b] σ Q = ((kd σ r = 21 ∧ (0 ≤ c ∧ c < 128) ∧ a = 0 ∧ b = ln σ r ∧ ln σ r ≤ 100 ∧ (∀ j, 0 ≤ aI σ r j ∧ aI σ r j < 128) ∧ (∀ v, IdxOf σ r c v → Q (some (vi v)) σ))) := propext ⟨fun h => h.2, fun h => ⟨rfl, h⟩⟩
theorem el_J1_indexOfChar_4cfef {av : List AV} {σ : Hp} {Q : Option AV → Hp → Prop} (h : sp_J1_indexOfChar_4cfef av σ Q) : ∃ (r : Int) (c : Int) (a : Int) (b : Int), av = [vr r, vi c, vi a, vi b] ∧ ((kd σ r = 21 ∧ (0 ≤ c ∧ c < 128) ∧ a = 0 ∧ b = ln σ r ∧ ln σ r ≤ 100 ∧ (∀ j, 0 ≤ aI σ r j ∧ aI σ r j < 128) ∧ (∀ v, IdxOf σ r c v → Q (some (vi v)) σ))) := by
  obtain ⟨r, a0, rfl, h0⟩ := oR_s h
  obtain ⟨c, a1, rfl, h1⟩ := oI_s h0
  obtain ⟨a, a2, rfl, h2⟩ := oI_s h1
  obtain ⟨b, a3, rfl, h3⟩ := oI_s h2
  obtain ⟨rfl, hz⟩ := h3
  exact ⟨r, c, a, b, rfl, hz⟩

def tb_J1_indexOfChar_4cfef : Tab := [(0, .iload_n 1, 1, (0, 0, 0, 0)), (2, .istore 4, 2, (0, 0, 0, 0)), (4, .iload_n 2, 1, (0, 0, 0, 0)), (5, .istore 5, 2, (0, 0, 0, 0)), (7, .iload 5, 2, (0, 0, 0, 0)), (9, .iload_n 3, 1, (0, 0, 0, 0)), (10, .if_icmp .ge 21, 3, (0, 0, 0, 0)), (13, .aload_n 0, 1, (0, 0, 0, 0)), (14, .iload 5, 2, (0, 0, 0, 0)), (16, .baload, 1, (0, 0, 0, 0)), (17, .iload 4, 2, (0, 0, 0, 0)), (19, .if_icmp .ne 6, 3, (0, 0, 0, 0)), (22, .iload 5, 2, (0, 0, 0, 0)), (24, .ireturn, 1, (0, 0, 0, 0)), (25, .iinc 5 1, 3, (0, 0, 0, 0)), (28, .goto (-21), 3, (0, 0, 0, 0)), (31, .iconst (-1), 1, (0, 0, 0, 0)), (32, .ireturn, 1, (0, 0, 0, 0))]
set_option maxRecDepth 100000 in
theorem tk_J1_indexOfChar_4cfef : TOK RJ1 false cJ1_indexOfChar_4cfef tb_J1_indexOfChar_4cfef := chkT_ok ft_J1 (by decide +kernel)
def mt_J1_indexOfChar_4cfef : List (Nat × Mt) := []
theorem mk_J1_indexOfChar_4cfef : MOK RJ1 mt_J1_indexOfChar_4cfef := fun q hq => by cases hq
noncomputable def xe_J1_indexOfChar_4cfef (ct : Nat → Bool) (K : Kt) (R : Option AV → Hp → Prop) (n : Nat) : Kt := exS 6 1 0 0 1 tb_J1_indexOfChar_4cfef mt_J1_indexOfChar_4cfef ct K R n
noncomputable def xk_J1_indexOfChar_4cfef (ct : Nat → Bool) (K : Kt) (R : Option AV → Hp → Prop) (n : Nat) : Kt := exkS 6 1 0 0 1 tb_J1_indexOfChar_4cfef mt_J1_indexOfChar_4cfef ct K R n
theorem xt_J1_indexOfChar_4cfef {ct : Nat → Bool} {K : Kt} {R : Option AV → Hp → Prop} {n pc : Nat} {ls : List (Option AV)} {st : List AV} {σ : Hp} {k : Nat × Nat} (h : ct pc = true) : xk_J1_indexOfChar_4cfef ct K R n pc ls st σ k = K pc ls st σ k := by unfold xk_J1_indexOfChar_4cfef exkS; rw [h]
theorem xf_J1_indexOfChar_4cfef {ct : Nat → Bool} {K : Kt} {R : Option AV → Hp → Prop} {n pc : Nat} {ls : List (Option AV)} {st : List AV} {σ : Hp} {k : Nat × Nat} (h : ct pc = false) : xk_J1_indexOfChar_4cfef ct K R n pc ls st σ k = xe_J1_indexOfChar_4cfef ct K R n pc ls st σ k := by unfold xk_J1_indexOfChar_4cfef exkS xe_J1_indexOfChar_4cfef; rw [h]
theorem ev_J1_indexOfChar_4cfef_0 {ct : Nat → Bool} {K : Kt} {R : Option AV → Hp → Prop} {n : Nat} {ls : List (Option AV)} {st : List AV} {σ : Hp} {k : Nat × Nat} : xe_J1_indexOfChar_4cfef ct K R (n + 1) 0 ls st σ k = (lI ls 1 fun x => xk_J1_indexOfChar_4cfef ct K R n 1 ls (vi x :: st) σ k) := exS_step.trans rfl
theorem ev_J1_indexOfChar_4cfef_2 {ct : Nat → Bool} {K : Kt} {R : Option AV → Hp → Prop} {n : Nat} {ls : List (Option AV)} {st : List AV} {σ : Hp} {k : Nat × Nat} : xe_J1_indexOfChar_4cfef ct K R (n + 1) 2 ls st σ k = (oI st fun x st => 4 < 6 ∧ xk_J1_indexOfChar_4cfef ct K R n 4 (stL ls 4 (vi x)) st σ k) := exS_step.trans rfl
theorem ev_J1_indexOfChar_4cfef_4 {ct : Nat → Bool} {K : Kt} {R : Option AV → Hp → Prop} {n : Nat} {ls : List (Option AV)} {st : List AV} {σ : Hp} {k : Nat × Nat} : xe_J1_indexOfChar_4cfef ct K R (n + 1) 4 ls st σ k = (lI ls 2 fun x => xk_J1_indexOfChar_4cfef ct K R n 5 ls (vi x :: st) σ k) := exS_step.trans rfl
theorem ev_J1_indexOfChar_4cfef_5 {ct : Nat → Bool} {K : Kt} {R : Option AV → Hp → Prop} {n : Nat} {ls : List (Option AV)} {st : List AV} {σ : Hp} {k : Nat × Nat} : xe_J1_indexOfChar_4cfef ct K R (n + 1) 5 ls st σ k = (oI st fun x st => 5 < 6 ∧ xk_J1_indexOfChar_4cfef ct K R n 7 (stL ls 5 (vi x)) st σ k) := exS_step.trans rfl
theorem ev_J1_indexOfChar_4cfef_7 {ct : Nat → Bool} {K : Kt} {R : Option AV → Hp → Prop} {n : Nat} {ls : List (Option AV)} {st : List AV} {σ : Hp} {k : Nat × Nat} : xe_J1_indexOfChar_4cfef ct K R (n + 1) 7 ls st σ k = (lI ls 5 fun x => xk_J1_indexOfChar_4cfef ct K R n 9 ls (vi x :: st) σ k) := exS_step.trans rfl
theorem ev_J1_indexOfChar_4cfef_9 {ct : Nat → Bool} {K : Kt} {R : Option AV → Hp → Prop} {n : Nat} {ls : List (Option AV)} {st : List AV} {σ : Hp} {k : Nat × Nat} : xe_J1_indexOfChar_4cfef ct K R (n + 1) 9 ls st σ k = (lI ls 3 fun x => xk_J1_indexOfChar_4cfef ct K R n 10 ls (vi x :: st) σ k) := exS_step.trans rfl
theorem ev_J1_indexOfChar_4cfef_10 {ct : Nat → Bool} {K : Kt} {R : Option AV → Hp → Prop} {n : Nat} {ls : List (Option AV)} {st : List AV} {σ : Hp} {k : Nat × Nat} : xe_J1_indexOfChar_4cfef ct K R (n + 1) 10 ls st σ k = (oI st fun y st => oI st fun x st => (wI y ≤ wI x → xk_J1_indexOfChar_4cfef ct K R n 31 ls st σ k) ∧ (¬ (wI y ≤ wI x) → xk_J1_indexOfChar_4cfef ct K R n 13 ls st σ k)) := exS_step.trans rfl
theorem ev_J1_indexOfChar_4cfef_13 {ct : Nat → Bool} {K : Kt} {R : Option AV → Hp → Prop} {n : Nat} {ls : List (Option AV)} {st : List AV} {σ : Hp} {k : Nat × Nat} : xe_J1_indexOfChar_4cfef ct K R (n + 1) 13 ls st σ k = (lR ls 0 fun x => xk_J1_indexOfChar_4cfef ct K R n 14 ls (vr x :: st) σ k) := exS_step.trans rfl
theorem ev_J1_indexOfChar_4cfef_14 {ct : Nat → Bool} {K : Kt} {R : Option AV → Hp → Prop} {n : Nat} {ls : List (Option AV)} {st : List AV} {σ : Hp} {k : Nat × Nat} : xe_J1_indexOfChar_4cfef ct K R (n + 1) 14 ls st σ k = (lI ls 5 fun x => xk_J1_indexOfChar_4cfef ct K R n 16 ls (vi x :: st) σ k) := exS_step.trans rfl
theorem ev_J1_indexOfChar_4cfef_16 {ct : Nat → Bool} {K : Kt} {R : Option AV → Hp → Prop} {n : Nat} {ls : List (Option AV)} {st : List AV} {σ : Hp} {k : Nat × Nat} : xe_J1_indexOfChar_4cfef ct K R (n + 1) 16 ls st σ k = (oI st fun j st => oR st fun x st => (kd σ x = 103 ∨ kd σ x = 21) ∧ (0 ≤ j ∧ j < ln σ x) ∧ xk_J1_indexOfChar_4cfef ct K R n 17 ls (vi (aI σ x j) :: st) σ k) := exS_step.trans rfl
theorem ev_J1_indexOfChar_4cfef_17 {ct : Nat → Bool} {K : Kt} {R : Option AV → Hp → Prop} {n : Nat} {ls : List (Option AV)} {st : List AV} {σ : Hp} {k : Nat × Nat} : xe_J1_indexOfChar_4cfef ct K R (n + 1) 17 ls st σ k = (lI ls 4 fun x => xk_J1_indexOfChar_4cfef ct K R n 19 ls (vi x :: st) σ k) := exS_step.trans rfl
theorem ev_J1_indexOfChar_4cfef_19 {ct : Nat → Bool} {K : Kt} {R : Option AV → Hp → Prop} {n : Nat} {ls : List (Option AV)} {st : List AV} {σ : Hp} {k : Nat × Nat} : xe_J1_indexOfChar_4cfef ct K R (n + 1) 19 ls st σ k = (oI st fun y st => oI st fun x st => (¬ wI x = wI y → xk_J1_indexOfChar_4cfef ct K R n 25 ls st σ k) ∧ (¬ (¬ wI x = wI y) → xk_J1_indexOfChar_4cfef ct K R n 22 ls st σ k)) := exS_step.trans rfl
theorem ev_J1_indexOfChar_4cfef_22 {ct : Nat → Bool} {K : Kt} {R : Option AV → Hp → Prop} {n : Nat} {ls : List (Option AV)} {st : List AV} {σ : Hp} {k : Nat × Nat} : xe_J1_indexOfChar_4cfef ct K R (n + 1) 22 ls st σ k = (lI ls 5 fun x => xk_J1_indexOfChar_4cfef ct K R n 24 ls (vi x :: st) σ k) := exS_step.trans rfl
theorem ev_J1_indexOfChar_4cfef_24 {ct : Nat → Bool} {K : Kt} {R : Option AV → Hp → Prop} {n : Nat} {ls : List (Option AV)} {st : List AV} {σ : Hp} {k : Nat × Nat} : xe_J1_indexOfChar_4cfef ct K R (n + 1) 24 ls st σ k = (oI st fun x st => st = [] ∧ True ∧ R (some (vi x)) σ) := exS_step.trans rfl
theorem ev_J1_indexOfChar_4cfef_25 {ct : Nat → Bool} {K : Kt} {R : Option AV → Hp → Prop} {n : Nat} {ls : List (Option AV)} {st : List AV} {σ : Hp} {k : Nat × Nat} : xe_J1_indexOfChar_4cfef ct K R (n + 1) 25 ls st σ k = (lI ls 5 fun x => 5 < 6 ∧ xk_J1_indexOfChar_4cfef ct K R n 28 (stL ls 5 (vi (x + (1)))) st σ k) := exS_step.trans rfl
theorem ev_J1_indexOfChar_4cfef_28 {ct : Nat → Bool} {K : Kt} {R : Option AV → Hp → Prop} {n : Nat} {ls : List (Option AV)} {st : List AV} {σ : Hp} {k : Nat × Nat} : xe_J1_indexOfChar_4cfef ct K R (n + 1) 28 ls st σ k = (xk_J1_indexOfChar_4cfef ct K R n 7 ls st σ k) := exS_step.trans rfl
theorem ev_J1_indexOfChar_4cfef_31 {ct : Nat → Bool} {K : Kt} {R : Option AV → Hp → Prop} {n : Nat} {ls : List (Option AV)} {st : List AV} {σ : Hp} {k : Nat × Nat} : xe_J1_indexOfChar_4cfef ct K R (n + 1) 31 ls st σ k = (xk_J1_indexOfChar_4cfef ct K R n 32 ls (vi (-1) :: st) σ k) := exS_step.trans rfl
theorem ev_J1_indexOfChar_4cfef_32 {ct : Nat → Bool} {K : Kt} {R : Option AV → Hp → Prop} {n : Nat} {ls : List (Option AV)} {st : List AV} {σ : Hp} {k : Nat × Nat} : xe_J1_indexOfChar_4cfef ct K R (n + 1) 32 ls st σ k = (oI st fun x st => st = [] ∧ True ∧ R (some (vi x)) σ) := exS_step.trans rfl
def M_J1_indexOfChar_4cfef : Md := (yJ1_indexOfChar_4cfef, cJ1_indexOfChar_4cfef, 6, (some FieldType.int), 1, 0, 0, 1, false, tb_J1_indexOfChar_4cfef, mt_J1_indexOfChar_4cfef)
theorem mm_J1_indexOfChar_4cfef : MMOK M_J1_indexOfChar_4cfef := ⟨by decide +kernel, tk_J1_indexOfChar_4cfef, mk_J1_indexOfChar_4cfef, rfl, fun h => by cases h⟩
theorem go_J1_indexOfChar_4cfef {Q : Option AV → Hp → Prop} {ct : Nat → Bool} {pc : Nat} {ls : List (Option AV)} {st : List AV} {σ : Hp} {k : Nat × Nat} (n : Nat) (h : xe_J1_indexOfChar_4cfef ct (Go M_J1_indexOfChar_4cfef Q) Q n pc ls st σ k) : Go M_J1_indexOfChar_4cfef Q pc ls st σ k := Go.exS mm_J1_indexOfChar_4cfef h

set_option maxRecDepth 20000 in
theorem c_J1_indexOfChar_4cfef : Ct yJ1_indexOfChar_4cfef cJ1_indexOfChar_4cfef 6 ((some FieldType.int)) 1 0 0 sp_J1_indexOfChar_4cfef := by
  refine Ct.go (M := M_J1_indexOfChar_4cfef) mm_J1_indexOfChar_4cfef fun av σ Q h0 => ?_
  obtain ⟨r, c, a, b, rfl, h⟩ := el_J1_indexOfChar_4cfef h0
  clear h0
  refine ⟨Nat.le_of_ble_eq_true rfl, ?_⟩
  show Go M_J1_indexOfChar_4cfef Q 0 [some (vr r), some (vi c), some (vi a), some (vi b), none, none] [] σ (0, 0)
  obtain ⟨hk, hc, rfl, rfl, hl, hb, h⟩ := h
  have loop : ∀ (m : Nat) (j : Int) (a5 : Option AV), 0 ≤ j → j + m = ln σ r → (∀ i, 0 ≤ i → i < j → ¬ aI σ r i = c) → Go M_J1_indexOfChar_4cfef Q 7 [some (vr r), some (vi c), some (vi 0), some (vi (ln σ r)), some (vi c), some (vi j)] [] σ (0, 0) := by
    intro m
    induction m with
    | zero =>
      intro j a5 h0 h1 h2
      have hz := h (-1) (Or.inl ⟨rfl, fun i a b => h2 i a (by omega)⟩)
      clear h h2
      refine go_J1_indexOfChar_4cfef (ct := fun p => p == 13) 20 ?_
      simp only [oI, oL, oR, o1, lI, lL, lR, popN, catS, gv, stL, stL2, swt, cnd, spObj, List.getElem?_cons_zero, List.getElem?_cons_succ, List.getD_cons_zero, List.getD_cons_succ, List.set_cons_zero, List.set_cons_succ, List.nil_append, List.cons_append, Option.toList, Bool.or_false, Bool.false_or, Bool.or_true, Bool.true_or, Nat.reduceBEq, Nat.reduceAdd, Nat.reduceLT, Nat.reduceLeDiff, Int.reduceAdd, Int.reduceToNat, true_and, and_true, Fin.isValue, Fin.val_zero, Fin.val_one, Fin.val_two, Fin.reduceFinMk, eq_self, Int.reduceNeg, imp_self, Nat.reduceMul, Nat.le_refl, not_true_eq_false, not_false_eq_true, List.getElem?_nil, reduceCtorEq, true_or, or_true, Classical.not_not, implies_true, or_self, wI_0, wI_1, wI_m1, b2i_w, b2i_eq0, b2i_eq1, b2i_bool, nor_self, nx_pI, kd_pI, ln_pI, fI_pI, fL_pI, fR_pI, aI_pI, aL_pI, aR_pI, nx_pL, kd_pL, ln_pL, fI_pL, fL_pL, fR_pL, aI_pL, aL_pL, aR_pL, nx_pR, kd_pR, ln_pR, fI_pR, fL_pR, fR_pR, aI_pR, aL_pR, aR_pR, nx_qI, kd_qI, ln_qI, fI_qI, fL_qI, fR_qI, aI_qI, aL_qI, aR_qI, nx_qL, kd_qL, ln_qL, fI_qL, fL_qL, fR_qL, aI_qL, aL_qL, aR_qL, nx_qR, kd_qR, ln_qR, fI_qR, fL_qR, fR_qR, aI_qR, aL_qR, aR_qR, nx_mk, kd_mk, ln_mk, fI_mk, fL_mk, fR_mk, aI_mk, aL_mk, aR_mk, false_and, and_false, if_false, if_true, and_self, Int.reduceEq, Nat.reduceEqDiff, ite_self, MLay_pI, MLay_pL, MLay_qI, MLay_qL, ev_J1_indexOfChar_4cfef_7, ev_J1_indexOfChar_4cfef_9, ev_J1_indexOfChar_4cfef_10, ev_J1_indexOfChar_4cfef_31, ev_J1_indexOfChar_4cfef_32, xt_J1_indexOfChar_4cfef, xf_J1_indexOfChar_4cfef]
      try simp (disch := omega) only [wI_id, dv_nn, rm_nn]
      repeat' (first | intro z | apply And.intro)
      all_goals try omega
      all_goals try contradiction
      all_goals exact hz
    | succ m ih =>
      intro j a5 h0 h1 h2
      have hbj := hb j
      by_cases e : aI σ r j = c
      · have hz := h j (Or.inr ⟨⟨h0, by omega⟩, e⟩)
        clear h h2 ih
        refine go_J1_indexOfChar_4cfef (ct := fun p => p == 31 || p == 25) 20 ?_
        simp only [oI, oL, oR, o1, lI, lL, lR, popN, catS, gv, stL, stL2, swt, cnd, spObj, List.getElem?_cons_zero, List.getElem?_cons_succ, List.getD_cons_zero, List.getD_cons_succ, List.set_cons_zero, List.set_cons_succ, List.nil_append, List.cons_append, Option.toList, Bool.or_false, Bool.false_or, Bool.or_true, Bool.true_or, Nat.reduceBEq, Nat.reduceAdd, Nat.reduceLT, Nat.reduceLeDiff, Int.reduceAdd, Int.reduceToNat, true_and, and_true, Fin.isValue, Fin.val_zero, Fin.val_one, Fin.val_two, Fin.reduceFinMk, eq_self, Int.reduceNeg, imp_self, Nat.reduceMul, Nat.le_refl, not_true_eq_false, not_false_eq_true, List.getElem?_nil, reduceCtorEq, true_or, or_true, Classical.not_not, implies_true, or_self, wI_0, wI_1, wI_m1, b2i_w, b2i_eq0, b2i_eq1, b2i_bool, nor_self, nx_pI, kd_pI, ln_pI, fI_pI, fL_pI, fR_pI, aI_pI, aL_pI, aR_pI, nx_pL, kd_pL, ln_pL, fI_pL, fL_pL, fR_pL, aI_pL, aL_pL, aR_pL, nx_pR, kd_pR, ln_pR, fI_pR, fL_pR, fR_pR, aI_pR, aL_pR, aR_pR, nx_qI, kd_qI, ln_qI, fI_qI, fL_qI, fR_qI, aI_qI, aL_qI, aR_qI, nx_qL, kd_qL, ln_qL, fI_qL, fL_qL, fR_qL, aI_qL, aL_qL, aR_qL, nx_qR, kd_qR, ln_qR, fI_qR, fL_qR, fR_qR, aI_qR, aL_qR, aR_qR, nx_mk, kd_mk, ln_mk, fI_mk, fL_mk, fR_mk, aI_mk, aL_mk, aR_mk, false_and, and_false, if_false, if_true, and_self, Int.reduceEq, Nat.reduceEqDiff, ite_self, MLay_pI, MLay_pL, MLay_qI, MLay_qL, ev_J1_indexOfChar_4cfef_7, ev_J1_indexOfChar_4cfef_9, ev_J1_indexOfChar_4cfef_10, ev_J1_indexOfChar_4cfef_13, ev_J1_indexOfChar_4cfef_14, ev_J1_indexOfChar_4cfef_16, ev_J1_indexOfChar_4cfef_17, ev_J1_indexOfChar_4cfef_19, ev_J1_indexOfChar_4cfef_22, ev_J1_indexOfChar_4cfef_24, xt_J1_indexOfChar_4cfef, xf_J1_indexOfChar_4cfef, hk]
        try simp (disch := omega) only [wI_id, dv_nn, rm_nn]
        repeat' (first | intro z | apply And.intro)
        all_goals try omega
        all_goals try contradiction
        all_goals exact hz
      · have w := ih (j + 1) a5 (by omega) (by omega) (fun i a b => by
          by_cases e2 : i = j
          · rw [e2]; exact e
          · exact h2 i a (by omega))
        clear h h2 ih
        refine go_J1_indexOfChar_4cfef (ct := fun p => p == 31 || p == 7 || p == 22) 20 ?_
        simp only [oI, oL, oR, o1, lI, lL, lR, popN, catS, gv, stL, stL2, swt, cnd, spObj, List.getElem?_cons_zero, List.getElem?_cons_succ, List.getD_cons_zero, List.getD_cons_succ, List.set_cons_zero, List.set_cons_succ, List.nil_append, List.cons_append, Option.toList, Bool.or_false, Bool.false_or, Bool.or_true, Bool.true_or, Nat.reduceBEq, Nat.reduceAdd, Nat.reduceLT, Nat.reduceLeDiff, Int.reduceAdd, Int.reduceToNat, true_and, and_true, Fin.isValue, Fin.val_zero, Fin.val_one, Fin.val_two, Fin.reduceFinMk, eq_self, Int.reduceNeg, imp_self, Nat.reduceMul, Nat.le_refl, not_true_eq_false, not_false_eq_true, List.getElem?_nil, reduceCtorEq, true_or, or_true, Classical.not_not, implies_true, or_self, wI_0, wI_1, wI_m1, b2i_w, b2i_eq0, b2i_eq1, b2i_bool, nor_self, nx_pI, kd_pI, ln_pI, fI_pI, fL_pI, fR_pI, aI_pI, aL_pI, aR_pI, nx_pL, kd_pL, ln_pL, fI_pL, fL_pL, fR_pL, aI_pL, aL_pL, aR_pL, nx_pR, kd_pR, ln_pR, fI_pR, fL_pR, fR_pR, aI_pR, aL_pR, aR_pR, nx_qI, kd_qI, ln_qI, fI_qI, fL_qI, fR_qI, aI_qI, aL_qI, aR_qI, nx_qL, kd_qL, ln_qL, fI_qL, fL_qL, fR_qL, aI_qL, aL_qL, aR_qL, nx_qR, kd_qR, ln_qR, fI_qR, fL_qR, fR_qR, aI_qR, aL_qR, aR_qR, nx_mk, kd_mk, ln_mk, fI_mk, fL_mk, fR_mk, aI_mk, aL_mk, aR_mk, false_and, and_false, if_false, if_true, and_self, Int.reduceEq, Nat.reduceEqDiff, ite_self, MLay_pI, MLay_pL, MLay_qI, MLay_qL, ev_J1_indexOfChar_4cfef_7, ev_J1_indexOfChar_4cfef_9, ev_J1_indexOfChar_4cfef_10, ev_J1_indexOfChar_4cfef_13, ev_J1_indexOfChar_4cfef_14, ev_J1_indexOfChar_4cfef_16, ev_J1_indexOfChar_4cfef_17, ev_J1_indexOfChar_4cfef_19, ev_J1_indexOfChar_4cfef_22, ev_J1_indexOfChar_4cfef_24, ev_J1_indexOfChar_4cfef_25, ev_J1_indexOfChar_4cfef_28, xt_J1_indexOfChar_4cfef, xf_J1_indexOfChar_4cfef, hk]
        try simp (disch := omega) only [wI_id, dv_nn, rm_nn]
        repeat' (first | intro z | apply And.intro)
        all_goals try omega
        all_goals try contradiction
        all_goals exact w
  have w2 : Go M_J1_indexOfChar_4cfef Q 2 [some (vr r), some (vi c), some (vi 0), some (vi (ln σ r)), none, none] [vi c] σ (0, 0) := by
    refine Go.wf fun hw => ?_
    have hl2 := (hw.2.2.1 r).1
    have w7 := loop (ln σ r).toNat 0 none (Int.le_refl 0) (by omega) (fun i a b => by omega)
    refine go_J1_indexOfChar_4cfef (ct := fun p => p == 7) 20 ?_
    simp only [oI, oL, oR, o1, lI, lL, lR, popN, catS, gv, stL, stL2, swt, cnd, spObj, List.getElem?_cons_zero, List.getElem?_cons_succ, List.getD_cons_zero, List.getD_cons_succ, List.set_cons_zero, List.set_cons_succ, List.nil_append, List.cons_append, Option.toList, Bool.or_false, Bool.false_or, Bool.or_true, Bool.true_or, Nat.reduceBEq, Nat.reduceAdd, Nat.reduceLT, Nat.reduceLeDiff, Int.reduceAdd, Int.reduceToNat, true_and, and_true, Fin.isValue, Fin.val_zero, Fin.val_one, Fin.val_two, Fin.reduceFinMk, eq_self, Int.reduceNeg, imp_self, Nat.reduceMul, Nat.le_refl, not_true_eq_false, not_false_eq_true, List.getElem?_nil, reduceCtorEq, true_or, or_true, Classical.not_not, implies_true, or_self, wI_0, wI_1, wI_m1, b2i_w, b2i_eq0, b2i_eq1, b2i_bool, nor_self, nx_pI, kd_pI, ln_pI, fI_pI, fL_pI, fR_pI, aI_pI, aL_pI, aR_pI, nx_pL, kd_pL, ln_pL, fI_pL, fL_pL, fR_pL, aI_pL, aL_pL, aR_pL, nx_pR, kd_pR, ln_pR, fI_pR, fL_pR, fR_pR, aI_pR, aL_pR, aR_pR, nx_qI, kd_qI, ln_qI, fI_qI, fL_qI, fR_qI, aI_qI, aL_qI, aR_qI, nx_qL, kd_qL, ln_qL, fI_qL, fL_qL, fR_qL, aI_qL, aL_qL, aR_qL, nx_qR, kd_qR, ln_qR, fI_qR, fL_qR, fR_qR, aI_qR, aL_qR, aR_qR, nx_mk, kd_mk, ln_mk, fI_mk, fL_mk, fR_mk, aI_mk, aL_mk, aR_mk, false_and, and_false, if_false, if_true, and_self, Int.reduceEq, Nat.reduceEqDiff, ite_self, MLay_pI, MLay_pL, MLay_qI, MLay_qL, ev_J1_indexOfChar_4cfef_2, ev_J1_indexOfChar_4cfef_4, ev_J1_indexOfChar_4cfef_5, xt_J1_indexOfChar_4cfef, xf_J1_indexOfChar_4cfef]
    repeat' (first | intro z | apply And.intro)
    all_goals try omega
    all_goals try contradiction
    all_goals exact w7
  refine go_J1_indexOfChar_4cfef (ct := fun p => p == 1) 10 ?_
  simp only [oI, oL, oR, o1, lI, lL, lR, popN, catS, gv, stL, stL2, swt, cnd, spObj, List.getElem?_cons_zero, List.getElem?_cons_succ, List.getD_cons_zero, List.getD_cons_succ, List.set_cons_zero, List.set_cons_succ, List.nil_append, List.cons_append, Option.toList, Bool.or_false, Bool.false_or, Bool.or_true, Bool.true_or, Nat.reduceBEq, Nat.reduceAdd, Nat.reduceLT, Nat.reduceLeDiff, Int.reduceAdd, Int.reduceToNat, true_and, and_true, Fin.isValue, Fin.val_zero, Fin.val_one, Fin.val_two, Fin.reduceFinMk, eq_self, Int.reduceNeg, imp_self, Nat.reduceMul, Nat.le_refl, not_true_eq_false, not_false_eq_true, List.getElem?_nil, reduceCtorEq, true_or, or_true, Classical.not_not, implies_true, or_self, wI_0, wI_1, wI_m1, b2i_w, b2i_eq0, b2i_eq1, b2i_bool, nor_self, nx_pI, kd_pI, ln_pI, fI_pI, fL_pI, fR_pI, aI_pI, aL_pI, aR_pI, nx_pL, kd_pL, ln_pL, fI_pL, fL_pL, fR_pL, aI_pL, aL_pL, aR_pL, nx_pR, kd_pR, ln_pR, fI_pR, fL_pR, fR_pR, aI_pR, aL_pR, aR_pR, nx_qI, kd_qI, ln_qI, fI_qI, fL_qI, fR_qI, aI_qI, aL_qI, aR_qI, nx_qL, kd_qL, ln_qL, fI_qL, fL_qL, fR_qL, aI_qL, aL_qL, aR_qL, nx_qR, kd_qR, ln_qR, fI_qR, fL_qR, fR_qR, aI_qR, aL_qR, aR_qR, nx_mk, kd_mk, ln_mk, fI_mk, fL_mk, fR_mk, aI_mk, aL_mk, aR_mk, false_and, and_false, if_false, if_true, and_self, Int.reduceEq, Nat.reduceEqDiff, ite_self, MLay_pI, MLay_pL, MLay_qI, MLay_qL, ev_J1_indexOfChar_4cfef_0, xt_J1_indexOfChar_4cfef, xf_J1_indexOfChar_4cfef]
  repeat' (first | intro z | apply And.intro)
  all_goals try omega
  all_goals try contradiction
  all_goals exact go_i2b hc (by decide +kernel) w2

def sp_J1_indexOf_4cfef : Sp := fun av σ Q => oR av fun r av => oI av fun c av => oI av fun a av => oI av fun b av => av = [] ∧ (kd σ r = 21 ∧ (0 ≤ c ∧ c < 128) ∧ a = 0 ∧ b = ln σ r ∧ (0 < ln σ r ∧ ln σ r ≤ 100) ∧ (∀ j, 0 ≤ aI σ r j ∧ aI σ r j < 128) ∧ (∀ v, IdxOf σ r c v → Q (some (vi v)) σ))
theorem us_J1_indexOf_4cfef (r : Int) (c : Int) (a : Int) (b : Int) (σ : Hp) (Q : Option AV → Hp → Prop) : sp_J1_indexOf_4cfef [vr r, vi c, vi a, vi b] σ Q = ((kd σ r = 21 ∧ (0 ≤ c ∧ c < 128) ∧ a = 0 ∧ b = ln σ r ∧ (0 < ln σ r ∧ ln σ r ≤ 100) ∧ (∀ j, 0 ≤ aI σ r j ∧ aI σ r j < 128) ∧ (∀ v, IdxOf σ r c v → Q (some (vi v)) σ))) := propext ⟨fun h => h.2, fun h => ⟨rfl, h⟩⟩
theorem el_J1_indexOf_4cfef {av : List AV} {σ : Hp} {Q : Option AV → Hp → Prop} (h : sp_J1_indexOf_4cfef av σ Q) : ∃ (r : Int) (c : Int) (a : Int) (b : Int), av = [vr r, vi c, vi a, vi b] ∧ ((kd σ r = 21 ∧ (0 ≤ c ∧ c < 128) ∧ a = 0 ∧ b = ln σ r ∧ (0 < ln σ r ∧ ln σ r ≤ 100) ∧ (∀ j, 0 ≤ aI σ r j ∧ aI σ r j < 128) ∧ (∀ v, IdxOf σ r c v → Q (some (vi v)) σ))) := by
  obtain ⟨r, a0, rfl, h0⟩ := oR_s h
  obtain ⟨c, a1, rfl, h1⟩ := oI_s h0
  obtain ⟨a, a2, rfl, h2⟩ := oI_s h1
  obtain ⟨b, a3, rfl, h3⟩ := oI_s h2
  obtain ⟨rfl, hz⟩ := h3
  exact ⟨r, c, a, b, rfl, hz⟩

def tb_J1_indexOf_4cfef : Tab := [(0, .iload_n 1, 1, (0, 0, 0, 0)), (1, .invokestatic 88, 3, (0, 0, 0, 0)), (4, .ifCond .ne 5, 3, (0, 0, 0, 0)), (7, .iconst (-1), 1, (0, 0, 0, 0)), (8, .ireturn, 1, (0, 0, 0, 0)), (9, .iload_n 2, 1, (0, 0, 0, 0)), (10, .iconst 0, 1, (0, 0, 0, 0)), (11, .invokestatic 92, 3, (0, 0, 0, 0)), (14, .istore_n 2, 1, (0, 0, 0, 0)), (15, .iload_n 3, 1, (0, 0, 0, 0)), (16, .aload_n 0, 1, (0, 0, 0, 0)), (17, .arraylength, 1, (0, 0, 0, 0)), (18, .invokestatic 38, 3, (0, 0, 0, 0)), (21, .istore_n 3, 1, (0, 0, 0, 0)), (22, .iload_n 2, 1, (0, 0, 0, 0)), (23, .iload_n 3, 1, (0, 0, 0, 0)), (24, .if_icmp .lt 5, 3, (0, 0, 0, 0)), (27, .iconst (-1), 1, (0, 0, 0, 0)), (28, .ireturn, 1, (0, 0, 0, 0)), (29, .aload_n 0, 1, (0, 0, 0, 0)), (30, .iload_n 1, 1, (0, 0, 0, 0)), (31, .iload_n 2, 1, (0, 0, 0, 0)), (32, .iload_n 3, 1, (0, 0, 0, 0)), (33, .invokestatic 95, 3, (0, 0, 0, 0)), (36, .ireturn, 1, (0, 0, 0, 0))]
set_option maxRecDepth 100000 in
theorem tk_J1_indexOf_4cfef : TOK RJ1 false cJ1_indexOf_4cfef tb_J1_indexOf_4cfef := chkT_ok ft_J1 (by decide +kernel)
theorem rw_J1_705 : Row RJ1 (.invokestatic 88) 3 1 0 0 1 sp_J1_canEncode_9a6ad := row_S c_J1_canEncode_9a6ad ⟨TBL_in 971 (by decide +kernel) rfl, TBL_in 973 (by decide +kernel) rfl, TBL_in 134 (by decide +kernel) rfl, by decide +kernel, by decide⟩ (TBL_in 972 (by decide +kernel) rfl)
theorem rw_J1_737 : Row RJ1 (.invokestatic 92) 3 2 0 0 1 sp_J9_max_7cf53 := row_S c_J9_max_7cf53 ⟨TBL_in 974 (by decide +kernel) rfl, TBL_in 652 (by decide +kernel) rfl, TBL_in 128 (by decide +kernel) rfl, by decide +kernel, by decide⟩ (TBL_in 651 (by decide +kernel) rfl)
theorem rw_J1_305 : Row RJ1 (.invokestatic 38) 3 2 0 0 1 sp_J9_min_7cf53 := row_S c_J9_min_7cf53 ⟨TBL_in 975 (by decide +kernel) rfl, TBL_in 687 (by decide +kernel) rfl, TBL_in 128 (by decide +kernel) rfl, by decide +kernel, by decide⟩ (TBL_in 686 (by decide +kernel) rfl)
theorem rw_J1_761 : Row RJ1 (.invokestatic 95) 3 4 0 0 1 sp_J1_indexOfChar_4cfef := row_S c_J1_indexOfChar_4cfef ⟨TBL_in 976 (by decide +kernel) rfl, TBL_in 978 (by decide +kernel) rfl, TBL_in 134 (by decide +kernel) rfl, by decide +kernel, by decide⟩ (TBL_in 977 (by decide +kernel) rfl)
def mt_J1_indexOf_4cfef : List (Nat × Mt) := [(705, 1, 0, 0, 1, sp_J1_canEncode_9a6ad), (737, 2, 0, 0, 1, sp_J9_max_7cf53), (305, 2, 0, 0, 1, sp_J9_min_7cf53), (761, 4, 0, 0, 1, sp_J1_indexOfChar_4cfef)]
theorem em_J1_indexOf_4cfef : mt_J1_indexOf_4cfef.lookup 705 = some (1, 0, 0, 1, sp_J1_canEncode_9a6ad) ∧ mt_J1_indexOf_4cfef.lookup 737 = some (2, 0, 0, 1, sp_J9_max_7cf53) ∧ mt_J1_indexOf_4cfef.lookup 305 = some (2, 0, 0, 1, sp_J9_min_7cf53) ∧ mt_J1_indexOf_4cfef.lookup 761 = some (4, 0, 0, 1, sp_J1_indexOfChar_4cfef) := ⟨rfl, rfl, rfl, rfl⟩
theorem mk_J1_indexOf_4cfef : MOK RJ1 mt_J1_indexOf_4cfef := by
  intro q hq
  simp only [mt_J1_indexOf_4cfef, List.mem_cons, List.not_mem_nil, or_false] at hq
  rcases hq with rfl | rfl | rfl | rfl
  · exact rw_J1_705
  · exact rw_J1_737
  · exact rw_J1_305
  · exact rw_J1_761
noncomputable def xe_J1_indexOf_4cfef (ct : Nat → Bool) (K : Kt) (R : Option AV → Hp → Prop) (n : Nat) : Kt := exS 4 2 0 0 1 tb_J1_indexOf_4cfef mt_J1_indexOf_4cfef ct K R n
noncomputable def xk_J1_indexOf_4cfef (ct : Nat → Bool) (K : Kt) (R : Option AV → Hp → Prop) (n : Nat) : Kt := exkS 4 2 0 0 1 tb_J1_indexOf_4cfef mt_J1_indexOf_4cfef ct K R n
theorem xt_J1_indexOf_4cfef {ct : Nat → Bool} {K : Kt} {R : Option AV → Hp → Prop} {n pc : Nat} {ls : List (Option AV)} {st : List AV} {σ : Hp} {k : Nat × Nat} (h : ct pc = true) : xk_J1_indexOf_4cfef ct K R n pc ls st σ k = K pc ls st σ k := by unfold xk_J1_indexOf_4cfef exkS; rw [h]
theorem xf_J1_indexOf_4cfef {ct : Nat → Bool} {K : Kt} {R : Option AV → Hp → Prop} {n pc : Nat} {ls : List (Option AV)} {st : List AV} {σ : Hp} {k : Nat × Nat} (h : ct pc = false) : xk_J1_indexOf_4cfef ct K R n pc ls st σ k = xe_J1_indexOf_4cfef ct K R n pc ls st σ k := by unfold xk_J1_indexOf_4cfef exkS xe_J1_indexOf_4cfef; rw [h]
theorem ev_J1_indexOf_4cfef_0 {ct : Nat → Bool} {K : Kt} {R : Option AV → Hp → Prop} {n : Nat} {ls : List (Option AV)} {st : List AV} {σ : Hp} {k : Nat × Nat} : xe_J1_indexOf_4cfef ct K R (n + 1) 0 ls st σ k = (lI ls 1 fun x => xk_J1_indexOf_4cfef ct K R n 1 ls (vi x :: st) σ k) := exS_step.trans rfl
theorem ev_J1_indexOf_4cfef_1 {ct : Nat → Bool} {K : Kt} {R : Option AV → Hp → Prop} {n : Nat} {ls : List (Option AV)} {st : List AV} {σ : Hp} {k : Nat × Nat} : xe_J1_indexOf_4cfef ct K R (n + 1) 1 ls st σ k = (popN 1 st [] fun av rest => (catS rest ≤ 8 ∧ 1 < 2 ∧ k.1 + 0 ≤ 0 ∧ k.2 + 0 ≤ 0) ∧ (sp_J1_canEncode_9a6ad) av σ fun v σ' => xk_J1_indexOf_4cfef ct K R n 4 ls (v.toList ++ rest) σ' (k.1 + 0, k.2 + 0)) := exS_step.trans rfl
theorem ev_J1_indexOf_4cfef_4 {ct : Nat → Bool} {K : Kt} {R : Option AV → Hp → Prop} {n : Nat} {ls : List (Option AV)} {st : List AV} {σ : Hp} {k : Nat × Nat} : xe_J1_indexOf_4cfef ct K R (n + 1) 4 ls st σ k = (oI st fun x st => (¬ wI x = wI 0 → xk_J1_indexOf_4cfef ct K R n 9 ls st σ k) ∧ (¬ (¬ wI x = wI 0) → xk_J1_indexOf_4cfef ct K R n 7 ls st σ k)) := exS_step.trans rfl
theorem ev_J1_indexOf_4cfef_7 {ct : Nat → Bool} {K : Kt} {R : Option AV → Hp → Prop} {n : Nat} {ls : List (Option AV)} {st : List AV} {σ : Hp} {k : Nat × Nat} : xe_J1_indexOf_4cfef ct K R (n + 1) 7 ls st σ k = (xk_J1_indexOf_4cfef ct K R n 8 ls (vi (-1) :: st) σ k) := exS_step.trans rfl
theorem ev_J1_indexOf_4cfef_8 {ct : Nat → Bool} {K : Kt} {R : Option AV → Hp → Prop} {n : Nat} {ls : List (Option AV)} {st : List AV} {σ : Hp} {k : Nat × Nat} : xe_J1_indexOf_4cfef ct K R (n + 1) 8 ls st σ k = (oI st fun x st => st = [] ∧ True ∧ R (some (vi x)) σ) := exS_step.trans rfl
theorem ev_J1_indexOf_4cfef_9 {ct : Nat → Bool} {K : Kt} {R : Option AV → Hp → Prop} {n : Nat} {ls : List (Option AV)} {st : List AV} {σ : Hp} {k : Nat × Nat} : xe_J1_indexOf_4cfef ct K R (n + 1) 9 ls st σ k = (lI ls 2 fun x => xk_J1_indexOf_4cfef ct K R n 10 ls (vi x :: st) σ k) := exS_step.trans rfl
theorem ev_J1_indexOf_4cfef_10 {ct : Nat → Bool} {K : Kt} {R : Option AV → Hp → Prop} {n : Nat} {ls : List (Option AV)} {st : List AV} {σ : Hp} {k : Nat × Nat} : xe_J1_indexOf_4cfef ct K R (n + 1) 10 ls st σ k = (xk_J1_indexOf_4cfef ct K R n 11 ls (vi (0) :: st) σ k) := exS_step.trans rfl
theorem ev_J1_indexOf_4cfef_11 {ct : Nat → Bool} {K : Kt} {R : Option AV → Hp → Prop} {n : Nat} {ls : List (Option AV)} {st : List AV} {σ : Hp} {k : Nat × Nat} : xe_J1_indexOf_4cfef ct K R (n + 1) 11 ls st σ k = (popN 2 st [] fun av rest => (catS rest ≤ 8 ∧ 1 < 2 ∧ k.1 + 0 ≤ 0 ∧ k.2 + 0 ≤ 0) ∧ (sp_J9_max_7cf53) av σ fun v σ' => xk_J1_indexOf_4cfef ct K R n 14 ls (v.toList ++ rest) σ' (k.1 + 0, k.2 + 0)) := exS_step.trans rfl
theorem ev_J1_indexOf_4cfef_14 {ct : Nat → Bool} {K : Kt} {R : Option AV → Hp → Prop} {n : Nat} {ls : List (Option AV)} {st : List AV} {σ : Hp} {k : Nat × Nat} : xe_J1_indexOf_4cfef ct K R (n + 1) 14 ls st σ k = (oI st fun x st => 2 < 4 ∧ xk_J1_indexOf_4cfef ct K R n 15 (stL ls 2 (vi x)) st σ k) := exS_step.trans rfl
theorem ev_J1_indexOf_4cfef_15 {ct : Nat → Bool} {K : Kt} {R : Option AV → Hp → Prop} {n : Nat} {ls : List (Option AV)} {st : List AV} {σ : Hp} {k : Nat × Nat} : xe_J1_indexOf_4cfef ct K R (n + 1) 15 ls st σ k = (lI ls 3 fun x => xk_J1_indexOf_4cfef ct K R n 16 ls (vi x :: st) σ k) := exS_step.trans rfl
theorem ev_J1_indexOf_4cfef_16 {ct : Nat → Bool} {K : Kt} {R : Option AV → Hp → Prop} {n : Nat} {ls : List (Option AV)} {st : List AV} {σ : Hp} {k : Nat × Nat} : xe_J1_indexOf_4cfef ct K R (n + 1) 16 ls st σ k = (lR ls 0 fun x => xk_J1_indexOf_4cfef ct K R n 17 ls (vr x :: st) σ k) := exS_step.trans rfl
theorem ev_J1_indexOf_4cfef_17 {ct : Nat → Bool} {K : Kt} {R : Option AV → Hp → Prop} {n : Nat} {ls : List (Option AV)} {st : List AV} {σ : Hp} {k : Nat × Nat} : xe_J1_indexOf_4cfef ct K R (n + 1) 17 ls st σ k = (oR st fun x st => (101 ≤ kd σ x ∨ kd σ x = 21) ∧ xk_J1_indexOf_4cfef ct K R n 18 ls (vi (ln σ x) :: st) σ k) := exS_step.trans rfl
theorem ev_J1_indexOf_4cfef_18 {ct : Nat → Bool} {K : Kt} {R : Option AV → Hp → Prop} {n : Nat} {ls : List (Option AV)} {st : List AV} {σ : Hp} {k : Nat × Nat} : xe_J1_indexOf_4cfef ct K R (n + 1) 18 ls st σ k = (popN 2 st [] fun av rest => (catS rest ≤ 8 ∧ 1 < 2 ∧ k.1 + 0 ≤ 0 ∧ k.2 + 0 ≤ 0) ∧ (sp_J9_min_7cf53) av σ fun v σ' => xk_J1_indexOf_4cfef ct K R n 21 ls (v.toList ++ rest) σ' (k.1 + 0, k.2 + 0)) := exS_step.trans rfl
theorem ev_J1_indexOf_4cfef_21 {ct : Nat → Bool} {K : Kt} {R : Option AV → Hp → Prop} {n : Nat} {ls : List (Option AV)} {st : List AV} {σ : Hp} {k : Nat × Nat} : xe_J1_indexOf_4cfef ct K R (n + 1) 21 ls st σ k = (oI st fun x st => 3 < 4 ∧ xk_J1_indexOf_4cfef ct K R n 22 (stL ls 3 (vi x)) st σ k) := exS_step.trans rfl
theorem ev_J1_indexOf_4cfef_22 {ct : Nat → Bool} {K : Kt} {R : Option AV → Hp → Prop} {n : Nat} {ls : List (Option AV)} {st : List AV} {σ : Hp} {k : Nat × Nat} : xe_J1_indexOf_4cfef ct K R (n + 1) 22 ls st σ k = (lI ls 2 fun x => xk_J1_indexOf_4cfef ct K R n 23 ls (vi x :: st) σ k) := exS_step.trans rfl
theorem ev_J1_indexOf_4cfef_23 {ct : Nat → Bool} {K : Kt} {R : Option AV → Hp → Prop} {n : Nat} {ls : List (Option AV)} {st : List AV} {σ : Hp} {k : Nat × Nat} : xe_J1_indexOf_4cfef ct K R (n + 1) 23 ls st σ k = (lI ls 3 fun x => xk_J1_indexOf_4cfef ct K R n 24 ls (vi x :: st) σ k) := exS_step.trans rfl
theorem ev_J1_indexOf_4cfef_24 {ct : Nat → Bool} {K : Kt} {R : Option AV → Hp → Prop} {n : Nat} {ls : List (Option AV)} {st : List AV} {σ : Hp} {k : Nat × Nat} : xe_J1_indexOf_4cfef ct K R (n + 1) 24 ls st σ k = (oI st fun y st => oI st fun x st => (wI x < wI y → xk_J1_indexOf_4cfef ct K R n 29 ls st σ k) ∧ (¬ (wI x < wI y) → xk_J1_indexOf_4cfef ct K R n 27 ls st σ k)) := exS_step.trans rfl
theorem ev_J1_indexOf_4cfef_27 {ct : Nat → Bool} {K : Kt} {R : Option AV → Hp → Prop} {n : Nat} {ls : List (Option AV)} {st : List AV} {σ : Hp} {k : Nat × Nat} : xe_J1_indexOf_4cfef ct K R (n + 1) 27 ls st σ k = (xk_J1_indexOf_4cfef ct K R n 28 ls (vi (-1) :: st) σ k) := exS_step.trans rfl
theorem ev_J1_indexOf_4cfef_28 {ct : Nat → Bool} {K : Kt} {R : Option AV → Hp → Prop} {n : Nat} {ls : List (Option AV)} {st : List AV} {σ : Hp} {k : Nat × Nat} : xe_J1_indexOf_4cfef ct K R (n + 1) 28 ls st σ k = (oI st fun x st => st = [] ∧ True ∧ R (some (vi x)) σ) := exS_step.trans rfl
theorem ev_J1_indexOf_4cfef_29 {ct : Nat → Bool} {K : Kt} {R : Option AV → Hp → Prop} {n : Nat} {ls : List (Option AV)} {st : List AV} {σ : Hp} {k : Nat × Nat} : xe_J1_indexOf_4cfef ct K R (n + 1) 29 ls st σ k = (lR ls 0 fun x => xk_J1_indexOf_4cfef ct K R n 30 ls (vr x :: st) σ k) := exS_step.trans rfl
theorem ev_J1_indexOf_4cfef_30 {ct : Nat → Bool} {K : Kt} {R : Option AV → Hp → Prop} {n : Nat} {ls : List (Option AV)} {st : List AV} {σ : Hp} {k : Nat × Nat} : xe_J1_indexOf_4cfef ct K R (n + 1) 30 ls st σ k = (lI ls 1 fun x => xk_J1_indexOf_4cfef ct K R n 31 ls (vi x :: st) σ k) := exS_step.trans rfl
theorem ev_J1_indexOf_4cfef_31 {ct : Nat → Bool} {K : Kt} {R : Option AV → Hp → Prop} {n : Nat} {ls : List (Option AV)} {st : List AV} {σ : Hp} {k : Nat × Nat} : xe_J1_indexOf_4cfef ct K R (n + 1) 31 ls st σ k = (lI ls 2 fun x => xk_J1_indexOf_4cfef ct K R n 32 ls (vi x :: st) σ k) := exS_step.trans rfl
theorem ev_J1_indexOf_4cfef_32 {ct : Nat → Bool} {K : Kt} {R : Option AV → Hp → Prop} {n : Nat} {ls : List (Option AV)} {st : List AV} {σ : Hp} {k : Nat × Nat} : xe_J1_indexOf_4cfef ct K R (n + 1) 32 ls st σ k = (lI ls 3 fun x => xk_J1_indexOf_4cfef ct K R n 33 ls (vi x :: st) σ k) := exS_step.trans rfl
theorem ev_J1_indexOf_4cfef_33 {ct : Nat → Bool} {K : Kt} {R : Option AV → Hp → Prop} {n : Nat} {ls : List (Option AV)} {st : List AV} {σ : Hp} {k : Nat × Nat} : xe_J1_indexOf_4cfef ct K R (n + 1) 33 ls st σ k = (popN 4 st [] fun av rest => (catS rest ≤ 8 ∧ 1 < 2 ∧ k.1 + 0 ≤ 0 ∧ k.2 + 0 ≤ 0) ∧ (sp_J1_indexOfChar_4cfef) av σ fun v σ' => xk_J1_indexOf_4cfef ct K R n 36 ls (v.toList ++ rest) σ' (k.1 + 0, k.2 + 0)) := exS_step.trans rfl
theorem ev_J1_indexOf_4cfef_36 {ct : Nat → Bool} {K : Kt} {R : Option AV → Hp → Prop} {n : Nat} {ls : List (Option AV)} {st : List AV} {σ : Hp} {k : Nat × Nat} : xe_J1_indexOf_4cfef ct K R (n + 1) 36 ls st σ k = (oI st fun x st => st = [] ∧ True ∧ R (some (vi x)) σ) := exS_step.trans rfl
def M_J1_indexOf_4cfef : Md := (yJ1_indexOf_4cfef, cJ1_indexOf_4cfef, 4, (some FieldType.int), 2, 0, 0, 1, false, tb_J1_indexOf_4cfef, mt_J1_indexOf_4cfef)
theorem mm_J1_indexOf_4cfef : MMOK M_J1_indexOf_4cfef := ⟨by decide +kernel, tk_J1_indexOf_4cfef, mk_J1_indexOf_4cfef, rfl, fun h => by cases h⟩
theorem go_J1_indexOf_4cfef {Q : Option AV → Hp → Prop} {ct : Nat → Bool} {pc : Nat} {ls : List (Option AV)} {st : List AV} {σ : Hp} {k : Nat × Nat} (n : Nat) (h : xe_J1_indexOf_4cfef ct (Go M_J1_indexOf_4cfef Q) Q n pc ls st σ k) : Go M_J1_indexOf_4cfef Q pc ls st σ k := Go.exS mm_J1_indexOf_4cfef h

set_option maxRecDepth 20000 in
theorem c_J1_indexOf_4cfef : Ct yJ1_indexOf_4cfef cJ1_indexOf_4cfef 4 ((some FieldType.int)) 2 0 0 sp_J1_indexOf_4cfef := by
  refine Ct.go (M := M_J1_indexOf_4cfef) mm_J1_indexOf_4cfef fun av σ Q h0 => ?_
  obtain ⟨r, c, a, b, rfl, h⟩ := el_J1_indexOf_4cfef h0
  clear h0
  refine ⟨Nat.le_of_ble_eq_true rfl, ?_⟩
  show Go M_J1_indexOf_4cfef Q 0 [some (vr r), some (vi c), some (vi a), some (vi b)] [] σ (0, 0)
  obtain ⟨hk, hc, rfl, rfl, hl, hb, h⟩ := h
  have e1 : (if (0 : Int) < 0 then (0 : Int) else 0) = 0 := rfl
  have e2 : (if ln σ r < ln σ r then ln σ r else ln σ r) = ln σ r := by split <;> rfl
  refine go_J1_indexOf_4cfef (ct := fun p => p == 7 || p == 27) 40 ?_
  simp only [oI, oL, oR, o1, lI, lL, lR, popN, catS, gv, stL, stL2, swt, cnd, spObj, List.getElem?_cons_zero, List.getElem?_cons_succ, List.getD_cons_zero, List.getD_cons_succ, List.set_cons_zero, List.set_cons_succ, List.nil_append, List.cons_append, Option.toList, Bool.or_false, Bool.false_or, Bool.or_true, Bool.true_or, Nat.reduceBEq, Nat.reduceAdd, Nat.reduceLT, Nat.reduceLeDiff, Int.reduceAdd, Int.reduceToNat, true_and, and_true, Fin.isValue, Fin.val_zero, Fin.val_one, Fin.val_two, Fin.reduceFinMk, eq_self, Int.reduceNeg, imp_self, Nat.reduceMul, Nat.le_refl, not_true_eq_false, not_false_eq_true, List.getElem?_nil, reduceCtorEq, true_or, or_true, Classical.not_not, implies_true, or_self, wI_0, wI_1, wI_m1, b2i_w, b2i_eq0, b2i_eq1, b2i_bool, nor_self, nx_pI, kd_pI, ln_pI, fI_pI, fL_pI, fR_pI, aI_pI, aL_pI, aR_pI, nx_pL, kd_pL, ln_pL, fI_pL, fL_pL, fR_pL, aI_pL, aL_pL, aR_pL, nx_pR, kd_pR, ln_pR, fI_pR, fL_pR, fR_pR, aI_pR, aL_pR, aR_pR, nx_qI, kd_qI, ln_qI, fI_qI, fL_qI, fR_qI, aI_qI, aL_qI, aR_qI, nx_qL, kd_qL, ln_qL, fI_qL, fL_qL, fR_qL, aI_qL, aL_qL, aR_qL, nx_qR, kd_qR, ln_qR, fI_qR, fL_qR, fR_qR, aI_qR, aL_qR, aR_qR, nx_mk, kd_mk, ln_mk, fI_mk, fL_mk, fR_mk, aI_mk, aL_mk, aR_mk, false_and, and_false, if_false, if_true, and_self, Int.reduceEq, Nat.reduceEqDiff, ite_self, MLay_pI, MLay_pL, MLay_qI, MLay_qL, ev_J1_indexOf_4cfef_0, ev_J1_indexOf_4cfef_1, ev_J1_indexOf_4cfef_4, ev_J1_indexOf_4cfef_9, ev_J1_indexOf_4cfef_10, ev_J1_indexOf_4cfef_11, ev_J1_indexOf_4cfef_14, ev_J1_indexOf_4cfef_15, ev_J1_indexOf_4cfef_16, ev_J1_indexOf_4cfef_17, ev_J1_indexOf_4cfef_18, ev_J1_indexOf_4cfef_21, ev_J1_indexOf_4cfef_22, ev_J1_indexOf_4cfef_23, ev_J1_indexOf_4cfef_24, ev_J1_indexOf_4cfef_29, ev_J1_indexOf_4cfef_30, ev_J1_indexOf_4cfef_31, ev_J1_indexOf_4cfef_32, ev_J1_indexOf_4cfef_33, ev_J1_indexOf_4cfef_36, xt_J1_indexOf_4cfef, xf_J1_indexOf_4cfef, us_J1_canEncode_9a6ad, us_J9_max_7cf53, us_J9_min_7cf53, us_J1_indexOfChar_4cfef, hk, Int.lt_irrefl]
  try simp (disch := omega) only [wI_id, dv_nn, rm_nn]
  repeat' (first | intro z | apply And.intro)
  all_goals try omega
  all_goals try contradiction
  all_goals first | (exact (hb _).1) | (exact (hb _).2) | (exact h _ ‹_›)

def sp_J0_indexOf_7cf53 : Sp := fun av σ Q => oR av fun this av => oI av fun c av => oI av fun a av => av = [] ∧ kd σ this = 20 ∧ (SK σ ∧ (0 ≤ c ∧ c < 128) ∧ a = 0 ∧ 0 < ln σ (fR σ 2000 this) ∧ (∀ v, IdxOf σ (fR σ 2000 this) c v → Q (some (vi v)) σ))
theorem us_J0_indexOf_7cf53 (this : Int) (c : Int) (a : Int) (σ : Hp) (Q : Option AV → Hp → Prop) : sp_J0_indexOf_7cf53 [vr this, vi c, vi a] σ Q = (kd σ this = 20 ∧ (SK σ ∧ (0 ≤ c ∧ c < 128) ∧ a = 0 ∧ 0 < ln σ (fR σ 2000 this) ∧ (∀ v, IdxOf σ (fR σ 2000 this) c v → Q (some (vi v)) σ))) := propext ⟨fun h => h.2, fun h => ⟨rfl, h⟩⟩
theorem el_J0_indexOf_7cf53 {av : List AV} {σ : Hp} {Q : Option AV → Hp → Prop} (h : sp_J0_indexOf_7cf53 av σ Q) : ∃ (this : Int) (c : Int) (a : Int), av = [vr this, vi c, vi a] ∧ (kd σ this = 20 ∧ (SK σ ∧ (0 ≤ c ∧ c < 128) ∧ a = 0 ∧ 0 < ln σ (fR σ 2000 this) ∧ (∀ v, IdxOf σ (fR σ 2000 this) c v → Q (some (vi v)) σ))) := by
  obtain ⟨this, a0, rfl, h0⟩ := oR_s h
  obtain ⟨c, a1, rfl, h1⟩ := oI_s h0
  obtain ⟨a, a2, rfl, h2⟩ := oI_s h1
  obtain ⟨rfl, hz⟩ := h2
  exact ⟨this, c, a, rfl, hz⟩
theorem rc_J0_indexOf_7cf53 : ∀ (av : List AV) (σ : Hp) (Q : Option AV → Hp → Prop), sp_J0_indexOf_7cf53 av σ Q → ∃ r tl, av = vr r :: tl ∧ kd σ r = 19 + 1 := fun av σ Q h => by
  obtain ⟨this, c, a, rfl, hz, -⟩ := el_J0_indexOf_7cf53 h
  exact ⟨this, _, rfl, hz⟩

def tb_J0_indexOf_7cf53 : Tab := [(0, .aload_n 0, 1, (0, 0, 0, 0)), (1, .invokevirtual 492, 3, (0, 0, 0, 0)), (4, .ifCond .eq 19, 3, (0, 0, 0, 0)), (7, .aload_n 0, 1, (0, 0, 0, 0)), (11, .iload_n 1, 1, (0, 0, 0, 0)), (12, .iload_n 2, 1, (0, 0, 0, 0)), (13, .aload_n 0, 1, (0, 0, 0, 0)), (14, .invokevirtual 505, 3, (0, 0, 0, 0)), (17, .invokestatic 637, 3, (0, 0, 0, 0)), (20, .goto 16, 3, (0, 0, 0, 0)), (23, .aload_n 0, 1, (0, 0, 0, 0)), (27, .iload_n 1, 1, (0, 0, 0, 0)), (28, .iload_n 2, 1, (0, 0, 0, 0)), (29, .aload_n 0, 1, (0, 0, 0, 0)), (30, .invokevirtual 505, 3, (0, 0, 0, 0)), (33, .invokestatic 640, 3, (0, 0, 0, 0)), (36, .ireturn, 1, (0, 0, 0, 0))]
set_option maxRecDepth 100000 in
theorem tk_J0_indexOf_7cf53 : TOK RJ0 false cJ0_indexOf_7cf53 tb_J0_indexOf_7cf53 := chkT_ok ft_J0 (by decide +kernel)
theorem rw_J0_4040 : Row RJ0 (.invokevirtual 505) 3 1 0 0 2 sp_J0_length_8abf5 := row_VS (n := 0) c_J0_length_8abf5 ⟨TBL_in 960 (by decide +kernel) rfl, TBL_in 963 (by decide +kernel) rfl, TBL_in 133 (by decide +kernel) rfl, by decide +kernel, by decide⟩ rfl (TBL_in 961 (by decide +kernel) rfl) (TBL_in 962 (by decide +kernel) rfl) rc_J0_length_8abf5
theorem rw_J0_5097 : Row RJ0 (.invokestatic 637) 3 4 0 0 2 sp_J1_indexOf_4cfef := row_S c_J1_indexOf_4cfef ⟨TBL_in 968 (by decide +kernel) rfl, TBL_in 970 (by decide +kernel) rfl, TBL_in 134 (by decide +kernel) rfl, by decide +kernel, by decide⟩ (TBL_in 969 (by decide +kernel) rfl)
def mt_J0_indexOf_7cf53 : List (Nat × Mt) := [(3936, 1, 0, 0, 1, sp_J0_isLatin1_aae02), (4040, 1, 0, 0, 2, sp_J0_length_8abf5), (5097, 4, 0, 0, 2, sp_J1_indexOf_4cfef)]
theorem em_J0_indexOf_7cf53 : mt_J0_indexOf_7cf53.lookup 3936 = some (1, 0, 0, 1, sp_J0_isLatin1_aae02) ∧ mt_J0_indexOf_7cf53.lookup 4040 = some (1, 0, 0, 2, sp_J0_length_8abf5) ∧ mt_J0_indexOf_7cf53.lookup 5097 = some (4, 0, 0, 2, sp_J1_indexOf_4cfef) := ⟨rfl, rfl, rfl⟩
theorem mk_J0_indexOf_7cf53 : MOK RJ0 mt_J0_indexOf_7cf53 := by
  intro q hq
  simp only [mt_J0_indexOf_7cf53, List.mem_cons, List.not_mem_nil, or_false] at hq
  rcases hq with rfl | rfl | rfl
  · exact rw_J0_3936
  · exact rw_J0_4040
  · exact rw_J0_5097
noncomputable def xe_J0_indexOf_7cf53 (ct : Nat → Bool) (K : Kt) (R : Option AV → Hp → Prop) (n : Nat) : Kt := exS 3 3 0 0 1 tb_J0_indexOf_7cf53 mt_J0_indexOf_7cf53 ct K R n
noncomputable def xk_J0_indexOf_7cf53 (ct : Nat → Bool) (K : Kt) (R : Option AV → Hp → Prop) (n : Nat) : Kt := exkS 3 3 0 0 1 tb_J0_indexOf_7cf53 mt_J0_indexOf_7cf53 ct K R n
theorem xt_J0_indexOf_7cf53 {ct : Nat → Bool} {K : Kt} {R : Option AV → Hp → Prop} {n pc : Nat} {ls : List (Option AV)} {st : List AV} {σ : Hp} {k : Nat × Nat} (h : ct pc = true) : xk_J0_indexOf_7cf53 ct K R n pc ls st σ k = K pc ls st σ k := by unfold xk_J0_indexOf_7cf53 exkS; rw [h]
theorem xf_J0_indexOf_7cf53 {ct : Nat → Bool} {K : Kt} {R : Option AV → Hp → Prop} {n pc : Nat} {ls : List (Option AV)} {st : List AV} {σ : Hp} {k : Nat × Nat} (h : ct pc = false) : xk_J0_indexOf_7cf53 ct K R n pc ls st σ k = xe_J0_indexOf_7cf53 ct K R n pc ls st σ k := by unfold xk_J0_indexOf_7cf53 exkS xe_J0_indexOf_7cf53; rw [h]
theorem ev_J0_indexOf_7cf53_0 {ct : Nat → Bool} {K : Kt} {R : Option AV → Hp → Prop} {n : Nat} {ls : List (Option AV)} {st : List AV} {σ : Hp} {k : Nat × Nat} : xe_J0_indexOf_7cf53 ct K R (n + 1) 0 ls st σ k = (lR ls 0 fun x => xk_J0_indexOf_7cf53 ct K R n 1 ls (vr x :: st) σ k) := exS_step.trans rfl
theorem ev_J0_indexOf_7cf53_1 {ct : Nat → Bool} {K : Kt} {R : Option AV → Hp → Prop} {n : Nat} {ls : List (Option AV)} {st : List AV} {σ : Hp} {k : Nat × Nat} : xe_J0_indexOf_7cf53 ct K R (n + 1) 1 ls st σ k = (popN 1 st [] fun av rest => (catS rest ≤ 8 ∧ 1 < 3 ∧ k.1 + 0 ≤ 0 ∧ k.2 + 0 ≤ 0) ∧ (sp_J0_isLatin1_aae02) av σ fun v σ' => xk_J0_indexOf_7cf53 ct K R n 4 ls (v.toList ++ rest) σ' (k.1 + 0, k.2 + 0)) := exS_step.trans rfl
theorem ev_J0_indexOf_7cf53_4 {ct : Nat → Bool} {K : Kt} {R : Option AV → Hp → Prop} {n : Nat} {ls : List (Option AV)} {st : List AV} {σ : Hp} {k : Nat × Nat} : xe_J0_indexOf_7cf53 ct K R (n + 1) 4 ls st σ k = (oI st fun x st => (wI x = wI 0 → xk_J0_indexOf_7cf53 ct K R n 23 ls st σ k) ∧ (¬ (wI x = wI 0) → xk_J0_indexOf_7cf53 ct K R n 7 ls st σ k)) := exS_step.trans rfl
theorem ev_J0_indexOf_7cf53_7 {ct : Nat → Bool} {K : Kt} {R : Option AV → Hp → Prop} {n : Nat} {ls : List (Option AV)} {st : List AV} {σ : Hp} {k : Nat × Nat} : xe_J0_indexOf_7cf53 ct K R (n + 1) 7 ls st σ k = (lR ls 0 fun x => xk_J0_indexOf_7cf53 ct K R n 8 ls (vr x :: st) σ k) := exS_step.trans rfl
theorem ev_J0_indexOf_7cf53_11 {ct : Nat → Bool} {K : Kt} {R : Option AV → Hp → Prop} {n : Nat} {ls : List (Option AV)} {st : List AV} {σ : Hp} {k : Nat × Nat} : xe_J0_indexOf_7cf53 ct K R (n + 1) 11 ls st σ k = (lI ls 1 fun x => xk_J0_indexOf_7cf53 ct K R n 12 ls (vi x :: st) σ k) := exS_step.trans rfl
theorem ev_J0_indexOf_7cf53_12 {ct : Nat → Bool} {K : Kt} {R : Option AV → Hp → Prop} {n : Nat} {ls : List (Option AV)} {st : List AV} {σ : Hp} {k : Nat × Nat} : xe_J0_indexOf_7cf53 ct K R (n + 1) 12 ls st σ k = (lI ls 2 fun x => xk_J0_indexOf_7cf53 ct K R n 13 ls (vi x :: st) σ k) := exS_step.trans rfl
theorem ev_J0_indexOf_7cf53_13 {ct : Nat → Bool} {K : Kt} {R : Option AV → Hp → Prop} {n : Nat} {ls : List (Option AV)} {st : List AV} {σ : Hp} {k : Nat × Nat} : xe_J0_indexOf_7cf53 ct K R (n + 1) 13 ls st σ k = (lR ls 0 fun x => xk_J0_indexOf_7cf53 ct K R n 14 ls (vr x :: st) σ k) := exS_step.trans rfl
theorem ev_J0_indexOf_7cf53_14 {ct : Nat → Bool} {K : Kt} {R : Option AV → Hp → Prop} {n : Nat} {ls : List (Option AV)} {st : List AV} {σ : Hp} {k : Nat × Nat} : xe_J0_indexOf_7cf53 ct K R (n + 1) 14 ls st σ k = (popN 1 st [] fun av rest => (catS rest ≤ 8 ∧ 2 < 3 ∧ k.1 + 0 ≤ 0 ∧ k.2 + 0 ≤ 0) ∧ (sp_J0_length_8abf5) av σ fun v σ' => xk_J0_indexOf_7cf53 ct K R n 17 ls (v.toList ++ rest) σ' (k.1 + 0, k.2 + 0)) := exS_step.trans rfl
theorem ev_J0_indexOf_7cf53_17 {ct : Nat → Bool} {K : Kt} {R : Option AV → Hp → Prop} {n : Nat} {ls : List (Option AV)} {st : List AV} {σ : Hp} {k : Nat × Nat} : xe_J0_indexOf_7cf53 ct K R (n + 1) 17 ls st σ k = (popN 4 st [] fun av rest => (catS rest ≤ 8 ∧ 2 < 3 ∧ k.1 + 0 ≤ 0 ∧ k.2 + 0 ≤ 0) ∧ (sp_J1_indexOf_4cfef) av σ fun v σ' => xk_J0_indexOf_7cf53 ct K R n 20 ls (v.toList ++ rest) σ' (k.1 + 0, k.2 + 0)) := exS_step.trans rfl
theorem ev_J0_indexOf_7cf53_20 {ct : Nat → Bool} {K : Kt} {R : Option AV → Hp → Prop} {n : Nat} {ls : List (Option AV)} {st : List AV} {σ : Hp} {k : Nat × Nat} : xe_J0_indexOf_7cf53 ct K R (n + 1) 20 ls st σ k = (xk_J0_indexOf_7cf53 ct K R n 36 ls st σ k) := exS_step.trans rfl
theorem ev_J0_indexOf_7cf53_23 {ct : Nat → Bool} {K : Kt} {R : Option AV → Hp → Prop} {n : Nat} {ls : List (Option AV)} {st : List AV} {σ : Hp} {k : Nat × Nat} : xe_J0_indexOf_7cf53 ct K R (n + 1) 23 ls st σ k = (lR ls 0 fun x => xk_J0_indexOf_7cf53 ct K R n 24 ls (vr x :: st) σ k) := exS_step.trans rfl
theorem ev_J0_indexOf_7cf53_27 {ct : Nat → Bool} {K : Kt} {R : Option AV → Hp → Prop} {n : Nat} {ls : List (Option AV)} {st : List AV} {σ : Hp} {k : Nat × Nat} : xe_J0_indexOf_7cf53 ct K R (n + 1) 27 ls st σ k = (lI ls 1 fun x => xk_J0_indexOf_7cf53 ct K R n 28 ls (vi x :: st) σ k) := exS_step.trans rfl
theorem ev_J0_indexOf_7cf53_28 {ct : Nat → Bool} {K : Kt} {R : Option AV → Hp → Prop} {n : Nat} {ls : List (Option AV)} {st : List AV} {σ : Hp} {k : Nat × Nat} : xe_J0_indexOf_7cf53 ct K R (n + 1) 28 ls st σ k = (lI ls 2 fun x => xk_J0_indexOf_7cf53 ct K R n 29 ls (vi x :: st) σ k) := exS_step.trans rfl
theorem ev_J0_indexOf_7cf53_29 {ct : Nat → Bool} {K : Kt} {R : Option AV → Hp → Prop} {n : Nat} {ls : List (Option AV)} {st : List AV} {σ : Hp} {k : Nat × Nat} : xe_J0_indexOf_7cf53 ct K R (n + 1) 29 ls st σ k = (lR ls 0 fun x => xk_J0_indexOf_7cf53 ct K R n 30 ls (vr x :: st) σ k) := exS_step.trans rfl
theorem ev_J0_indexOf_7cf53_30 {ct : Nat → Bool} {K : Kt} {R : Option AV → Hp → Prop} {n : Nat} {ls : List (Option AV)} {st : List AV} {σ : Hp} {k : Nat × Nat} : xe_J0_indexOf_7cf53 ct K R (n + 1) 30 ls st σ k = (popN 1 st [] fun av rest => (catS rest ≤ 8 ∧ 2 < 3 ∧ k.1 + 0 ≤ 0 ∧ k.2 + 0 ≤ 0) ∧ (sp_J0_length_8abf5) av σ fun v σ' => xk_J0_indexOf_7cf53 ct K R n 33 ls (v.toList ++ rest) σ' (k.1 + 0, k.2 + 0)) := exS_step.trans rfl
theorem ev_J0_indexOf_7cf53_33 {ct : Nat → Bool} {K : Kt} {R : Option AV → Hp → Prop} {n : Nat} {ls : List (Option AV)} {st : List AV} {σ : Hp} {k : Nat × Nat} : xe_J0_indexOf_7cf53 ct K R (n + 1) 33 ls st σ k = (False) := exS_step.trans rfl
theorem ev_J0_indexOf_7cf53_36 {ct : Nat → Bool} {K : Kt} {R : Option AV → Hp → Prop} {n : Nat} {ls : List (Option AV)} {st : List AV} {σ : Hp} {k : Nat × Nat} : xe_J0_indexOf_7cf53 ct K R (n + 1) 36 ls st σ k = (oI st fun x st => st = [] ∧ True ∧ R (some (vi x)) σ) := exS_step.trans rfl
def M_J0_indexOf_7cf53 : Md := (yJ0_indexOf_7cf53, cJ0_indexOf_7cf53, 3, (some FieldType.int), 3, 0, 0, 1, false, tb_J0_indexOf_7cf53, mt_J0_indexOf_7cf53)
theorem mm_J0_indexOf_7cf53 : MMOK M_J0_indexOf_7cf53 := ⟨by decide +kernel, tk_J0_indexOf_7cf53, mk_J0_indexOf_7cf53, rfl, fun h => by cases h⟩
theorem go_J0_indexOf_7cf53 {Q : Option AV → Hp → Prop} {ct : Nat → Bool} {pc : Nat} {ls : List (Option AV)} {st : List AV} {σ : Hp} {k : Nat × Nat} (n : Nat) (h : xe_J0_indexOf_7cf53 ct (Go M_J0_indexOf_7cf53 Q) Q n pc ls st σ k) : Go M_J0_indexOf_7cf53 Q pc ls st σ k := Go.exS mm_J0_indexOf_7cf53 h

set_option maxRecDepth 20000 in
theorem c_J0_indexOf_7cf53 : Ct yJ0_indexOf_7cf53 cJ0_indexOf_7cf53 3 ((some FieldType.int)) 3 0 0 sp_J0_indexOf_7cf53 := by
  refine Ct.go (M := M_J0_indexOf_7cf53) mm_J0_indexOf_7cf53 fun av σ Q h0 => ?_
  obtain ⟨this, c, a, rfl, hk, h⟩ := el_J0_indexOf_7cf53 h0
  clear h0
  refine ⟨Nat.le_of_ble_eq_true rfl, ?_⟩
  show Go M_J0_indexOf_7cf53 Q 0 [some (vr this), some (vi c), some (vi a)] [] σ (0, 0)
  obtain ⟨hS, hc, rfl, hp, h⟩ := h
  obtain ⟨s1, s2⟩ := hS.2.1 _ hk
  obtain ⟨s3, s4⟩ := hS.2.2 _ s2
  have w11 : Go M_J0_indexOf_7cf53 Q 11 [some (vr this), some (vi c), some (vi 0)] [vr (fR σ 2000 this)] σ (0, 0) := by
    refine go_J0_indexOf_7cf53 (ct := fun p => p == 36) 20 ?_
    have s4b : ∀ j, 0 ≤ aI σ (fR σ 2000 this) j ∧ aI σ (fR σ 2000 this) j < 128 := s4
    simp only [oI, oL, oR, o1, lI, lL, lR, popN, catS, gv, stL, stL2, swt, cnd, spObj, List.getElem?_cons_zero, List.getElem?_cons_succ, List.getD_cons_zero, List.getD_cons_succ, List.set_cons_zero, List.set_cons_succ, List.nil_append, List.cons_append, Option.toList, Bool.or_false, Bool.false_or, Bool.or_true, Bool.true_or, Nat.reduceBEq, Nat.reduceAdd, Nat.reduceLT, Nat.reduceLeDiff, Int.reduceAdd, Int.reduceToNat, true_and, and_true, Fin.isValue, Fin.val_zero, Fin.val_one, Fin.val_two, Fin.reduceFinMk, eq_self, Int.reduceNeg, imp_self, Nat.reduceMul, Nat.le_refl, not_true_eq_false, not_false_eq_true, List.getElem?_nil, reduceCtorEq, true_or, or_true, Classical.not_not, implies_true, or_self, wI_0, wI_1, wI_m1, b2i_w, b2i_eq0, b2i_eq1, b2i_bool, nor_self, nx_pI, kd_pI, ln_pI, fI_pI, fL_pI, fR_pI, aI_pI, aL_pI, aR_pI, nx_pL, kd_pL, ln_pL, fI_pL, fL_pL, fR_pL, aI_pL, aL_pL, aR_pL, nx_pR, kd_pR, ln_pR, fI_pR, fL_pR, fR_pR, aI_pR, aL_pR, aR_pR, nx_qI, kd_qI, ln_qI, fI_qI, fL_qI, fR_qI, aI_qI, aL_qI, aR_qI, nx_qL, kd_qL, ln_qL, fI_qL, fL_qL, fR_qL, aI_qL, aL_qL, aR_qL, nx_qR, kd_qR, ln_qR, fI_qR, fL_qR, fR_qR, aI_qR, aL_qR, aR_qR, nx_mk, kd_mk, ln_mk, fI_mk, fL_mk, fR_mk, aI_mk, aL_mk, aR_mk, false_and, and_false, if_false, if_true, and_self, Int.reduceEq, Nat.reduceEqDiff, ite_self, MLay_pI, MLay_pL, MLay_qI, MLay_qL, ev_J0_indexOf_7cf53_11, ev_J0_indexOf_7cf53_12, ev_J0_indexOf_7cf53_13, ev_J0_indexOf_7cf53_14, ev_J0_indexOf_7cf53_17, ev_J0_indexOf_7cf53_20, xt_J0_indexOf_7cf53, xf_J0_indexOf_7cf53, us_J0_isLatin1_aae02, us_J0_length_8abf5, us_J1_indexOf_4cfef, s2, hk, hS]
    have w36 : ∀ v, IdxOf σ (fR σ 2000 this) c v → Go M_J0_indexOf_7cf53 Q 36 [some (vr this), some (vi c), some (vi 0)] [vi v] σ (0, 0) := fun v hv => by
      have h := h v hv
      refine go_J0_indexOf_7cf53 (ct := fun p => p == 99) 10 ?_
      simp only [oI, oL, oR, o1, lI, lL, lR, popN, catS, gv, stL, stL2, swt, cnd, spObj, List.getElem?_cons_zero, List.getElem?_cons_succ, List.getD_cons_zero, List.getD_cons_succ, List.set_cons_zero, List.set_cons_succ, List.nil_append, List.cons_append, Option.toList, Bool.or_false, Bool.false_or, Bool.or_true, Bool.true_or, Nat.reduceBEq, Nat.reduceAdd, Nat.reduceLT, Nat.reduceLeDiff, Int.reduceAdd, Int.reduceToNat, true_and, and_true, Fin.isValue, Fin.val_zero, Fin.val_one, Fin.val_two, Fin.reduceFinMk, eq_self, Int.reduceNeg, imp_self, Nat.reduceMul, Nat.le_refl, not_true_eq_false, not_false_eq_true, List.getElem?_nil, reduceCtorEq, true_or, or_true, Classical.not_not, implies_true, or_self, wI_0, wI_1, wI_m1, b2i_w, b2i_eq0, b2i_eq1, b2i_bool, nor_self, nx_pI, kd_pI, ln_pI, fI_pI, fL_pI, fR_pI, aI_pI, aL_pI, aR_pI, nx_pL, kd_pL, ln_pL, fI_pL, fL_pL, fR_pL, aI_pL, aL_pL, aR_pL, nx_pR, kd_pR, ln_pR, fI_pR, fL_pR, fR_pR, aI_pR, aL_pR, aR_pR, nx_qI, kd_qI, ln_qI, fI_qI, fL_qI, fR_qI, aI_qI, aL_qI, aR_qI, nx_qL, kd_qL, ln_qL, fI_qL, fL_qL, fR_qL, aI_qL, aL_qL, aR_qL, nx_qR, kd_qR, ln_qR, fI_qR, fL_qR, fR_qR, aI_qR, aL_qR, aR_qR, nx_mk, kd_mk, ln_mk, fI_mk, fL_mk, fR_mk, aI_mk, aL_mk, aR_mk, false_and, and_false, if_false, if_true, and_self, Int.reduceEq, Nat.reduceEqDiff, ite_self, MLay_pI, MLay_pL, MLay_qI, MLay_qL, ev_J0_indexOf_7cf53_36, xt_J0_indexOf_7cf53, xf_J0_indexOf_7cf53, us_J0_isLatin1_aae02, us_J0_length_8abf5, us_J1_indexOf_4cfef]
      exact h
    repeat' (first | intro z | apply And.intro)
    all_goals try omega
    all_goals try contradiction
    all_goals first | (exact (s4b _).1) | (exact (s4b _).2) | (exact w36 _ ‹_›)
  have w8 : Go M_J0_indexOf_7cf53 Q 8 [some (vr this), some (vi c), some (vi 0)] [vr this] σ (0, 0) := go_gfV (index := 9) hk (TBL_in 2134 (by decide +kernel) rfl) (by decide +kernel) w11
  refine go_J0_indexOf_7cf53 (ct := fun p => p == 8 || p == 23) 20 ?_
  simp only [oI, oL, oR, o1, lI, lL, lR, popN, catS, gv, stL, stL2, swt, cnd, spObj, List.getElem?_cons_zero, List.getElem?_cons_succ, List.getD_cons_zero, List.getD_cons_succ, List.set_cons_zero, List.set_cons_succ, List.nil_append, List.cons_append, Option.toList, Bool.or_false, Bool.false_or, Bool.or_true, Bool.true_or, Nat.reduceBEq, Nat.reduceAdd, Nat.reduceLT, Nat.reduceLeDiff, Int.reduceAdd, Int.reduceToNat, true_and, and_true, Fin.isValue, Fin.val_zero, Fin.val_one, Fin.val_two, Fin.reduceFinMk, eq_self, Int.reduceNeg, imp_self, Nat.reduceMul, Nat.le_refl, not_true_eq_false, not_false_eq_true, List.getElem?_nil, reduceCtorEq, true_or, or_true, Classical.not_not, implies_true, or_self, wI_0, wI_1, wI_m1, b2i_w, b2i_eq0, b2i_eq1, b2i_bool, nor_self, nx_pI, kd_pI, ln_pI, fI_pI, fL_pI, fR_pI, aI_pI, aL_pI, aR_pI, nx_pL, kd_pL, ln_pL, fI_pL, fL_pL, fR_pL, aI_pL, aL_pL, aR_pL, nx_pR, kd_pR, ln_pR, fI_pR, fL_pR, fR_pR, aI_pR, aL_pR, aR_pR, nx_qI, kd_qI, ln_qI, fI_qI, fL_qI, fR_qI, aI_qI, aL_qI, aR_qI, nx_qL, kd_qL, ln_qL, fI_qL, fL_qL, fR_qL, aI_qL, aL_qL, aR_qL, nx_qR, kd_qR, ln_qR, fI_qR, fL_qR, fR_qR, aI_qR, aL_qR, aR_qR, nx_mk, kd_mk, ln_mk, fI_mk, fL_mk, fR_mk, aI_mk, aL_mk, aR_mk, false_and, and_false, if_false, if_true, and_self, Int.reduceEq, Nat.reduceEqDiff, ite_self, MLay_pI, MLay_pL, MLay_qI, MLay_qL, ev_J0_indexOf_7cf53_0, ev_J0_indexOf_7cf53_1, ev_J0_indexOf_7cf53_4, ev_J0_indexOf_7cf53_7, xt_J0_indexOf_7cf53, xf_J0_indexOf_7cf53, us_J0_isLatin1_aae02, us_J0_length_8abf5, us_J1_indexOf_4cfef, hS.1, s1, hk]
  try simp (disch := omega) only [wI_id, dv_nn, rm_nn]
  repeat' (first | intro z | apply And.intro)
  all_goals try omega
  all_goals try contradiction
  all_goals exact w8

def sp_J0_indexOf_0f7a4 : Sp := fun av σ Q => oR av fun this av => oI av fun c av => av = [] ∧ kd σ this = 20 ∧ (SK σ ∧ (0 ≤ c ∧ c < 128) ∧ 0 < ln σ (fR σ 2000 this) ∧ (∀ v, IdxOf σ (fR σ 2000 this) c v → Q (some (vi v)) σ))
theorem us_J0_indexOf_0f7a4 (this : Int) (c : Int) (σ : Hp) (Q : Option AV → Hp → Prop) : sp_J0_indexOf_0f7a4 [vr this, vi c] σ Q = (kd σ this = 20 ∧ (SK σ ∧ (0 ≤ c ∧ c < 128) ∧ 0 < ln σ (fR σ 2000 this) ∧ (∀ v, IdxOf σ (fR σ 2000 this) c v → Q (some (vi v)) σ))) := propext ⟨fun h => h.2, fun h => ⟨rfl, h⟩⟩
theorem el_J0_indexOf_0f7a4 {av : List AV} {σ : Hp} {Q : Option AV → Hp → Prop} (h : sp_J0_indexOf_0f7a4 av σ Q) : ∃ (this : Int) (c : Int), av = [vr this, vi c] ∧ (kd σ this = 20 ∧ (SK σ ∧ (0 ≤ c ∧ c < 128) ∧ 0 < ln σ (fR σ 2000 this) ∧ (∀ v, IdxOf σ (fR σ 2000 this) c v → Q (some (vi v)) σ))) := by
  obtain ⟨this, a0, rfl, h0⟩ := oR_s h
  obtain ⟨c, a1, rfl, h1⟩ := oI_s h0
  obtain ⟨rfl, hz⟩ := h1
  exact ⟨this, c, rfl, hz⟩
theorem rc_J0_indexOf_0f7a4 : ∀ (av : List AV) (σ : Hp) (Q : Option AV → Hp → Prop), sp_J0_indexOf_0f7a4 av σ Q → ∃ r tl, av = vr r :: tl ∧ kd σ r = 19 + 1 := fun av σ Q h => by
  obtain ⟨this, c, rfl, hz, -⟩ := el_J0_indexOf_0f7a4 h
  exact ⟨this, _, rfl, hz⟩

def tb_J0_indexOf_0f7a4 : Tab := [(0, .aload_n 0, 1, (0, 0, 0, 0)), (1, .iload_n 1, 1, (0, 0, 0, 0)), (2, .iconst 0, 1, (0, 0, 0, 0)), (3, .invokevirtual 633, 3, (0, 0, 0, 0)), (6, .ireturn, 1, (0, 0, 0, 0))]
set_option maxRecDepth 100000 in
theorem tk_J0_indexOf_0f7a4 : TOK RJ0 false cJ0_indexOf_0f7a4 tb_J0_indexOf_0f7a4 := chkT_ok ft_J0 (by decide +kernel)
theorem rw_J0_5064 : Row RJ0 (.invokevirtual 633) 3 3 0 0 3 sp_J0_indexOf_7cf53 := row_VS (n := 2) c_J0_indexOf_7cf53 ⟨TBL_in 950 (by decide +kernel) rfl, TBL_in 953 (by decide +kernel) rfl, TBL_in 133 (by decide +kernel) rfl, by decide +kernel, by decide⟩ rfl (TBL_in 951 (by decide +kernel) rfl) (TBL_in 952 (by decide +kernel) rfl) rc_J0_indexOf_7cf53
def mt_J0_indexOf_0f7a4 : List (Nat × Mt) := [(5064, 3, 0, 0, 3, sp_J0_indexOf_7cf53)]
theorem em_J0_indexOf_0f7a4 : mt_J0_indexOf_0f7a4.lookup 5064 = some (3, 0, 0, 3, sp_J0_indexOf_7cf53) := rfl
theorem mk_J0_indexOf_0f7a4 : MOK RJ0 mt_J0_indexOf_0f7a4 := by
  intro q hq
  simp only [mt_J0_indexOf_0f7a4, List.mem_cons, List.not_mem_nil, or_false] at hq
  rcases hq with rfl
  · exact rw_J0_5064
noncomputable def xe_J0_indexOf_0f7a4 (ct : Nat → Bool) (K : Kt) (R : Option AV → Hp → Prop) (n : Nat) : Kt := exS 2 4 0 0 1 tb_J0_indexOf_0f7a4 mt_J0_indexOf_0f7a4 ct K R n
noncomputable def xk_J0_indexOf_0f7a4 (ct : Nat → Bool) (K : Kt) (R : Option AV → Hp → Prop) (n : Nat) : Kt := exkS 2 4 0 0 1 tb_J0_indexOf_0f7a4 mt_J0_indexOf_0f7a4 ct K R n
theorem xt_J0_indexOf_0f7a4 {ct : Nat → Bool} {K : Kt} {R : Option AV → Hp → Prop} {n pc : Nat} {ls : List (Option AV)} {st : List AV} {σ : Hp} {k : Nat × Nat} (h : ct pc = true) : xk_J0_indexOf_0f7a4 ct K R n pc ls st σ k = K pc ls st σ k := by unfold xk_J0_indexOf_0f7a4 exkS; rw [h]
theorem xf_J0_indexOf_0f7a4 {ct : Nat → Bool} {K : Kt} {R : Option AV → Hp → Prop} {n pc : Nat} {ls : List (Option AV)} {st : List AV} {σ : Hp} {k : Nat × Nat} (h : ct pc = false) : xk_J0_indexOf_0f7a4 ct K R n pc ls st σ k = xe_J0_indexOf_0f7a4 ct K R n pc ls st σ k := by unfold xk_J0_indexOf_0f7a4 exkS xe_J0_indexOf_0f7a4; rw [h]
theorem ev_J0_indexOf_0f7a4_0 {ct : Nat → Bool} {K : Kt} {R : Option AV → Hp → Prop} {n : Nat} {ls : List (Option AV)} {st : List AV} {σ : Hp} {k : Nat × Nat} : xe_J0_indexOf_0f7a4 ct K R (n + 1) 0 ls st σ k = (lR ls 0 fun x => xk_J0_indexOf_0f7a4 ct K R n 1 ls (vr x :: st) σ k) := exS_step.trans rfl
theorem ev_J0_indexOf_0f7a4_1 {ct : Nat → Bool} {K : Kt} {R : Option AV → Hp → Prop} {n : Nat} {ls : List (Option AV)} {st : List AV} {σ : Hp} {k : Nat × Nat} : xe_J0_indexOf_0f7a4 ct K R (n + 1) 1 ls st σ k = (lI ls 1 fun x => xk_J0_indexOf_0f7a4 ct K R n 2 ls (vi x :: st) σ k) := exS_step.trans rfl
theorem ev_J0_indexOf_0f7a4_2 {ct : Nat → Bool} {K : Kt} {R : Option AV → Hp → Prop} {n : Nat} {ls : List (Option AV)} {st : List AV} {σ : Hp} {k : Nat × Nat} : xe_J0_indexOf_0f7a4 ct K R (n + 1) 2 ls st σ k = (xk_J0_indexOf_0f7a4 ct K R n 3 ls (vi (0) :: st) σ k) := exS_step.trans rfl
theorem ev_J0_indexOf_0f7a4_3 {ct : Nat → Bool} {K : Kt} {R : Option AV → Hp → Prop} {n : Nat} {ls : List (Option AV)} {st : List AV} {σ : Hp} {k : Nat × Nat} : xe_J0_indexOf_0f7a4 ct K R (n + 1) 3 ls st σ k = (popN 3 st [] fun av rest => (catS rest ≤ 8 ∧ 3 < 4 ∧ k.1 + 0 ≤ 0 ∧ k.2 + 0 ≤ 0) ∧ (sp_J0_indexOf_7cf53) av σ fun v σ' => xk_J0_indexOf_0f7a4 ct K R n 6 ls (v.toList ++ rest) σ' (k.1 + 0, k.2 + 0)) := exS_step.trans rfl
theorem ev_J0_indexOf_0f7a4_6 {ct : Nat → Bool} {K : Kt} {R : Option AV → Hp → Prop} {n : Nat} {ls : List (Option AV)} {st : List AV} {σ : Hp} {k : Nat × Nat} : xe_J0_indexOf_0f7a4 ct K R (n + 1) 6 ls st σ k = (oI st fun x st => st = [] ∧ True ∧ R (some (vi x)) σ) := exS_step.trans rfl
def M_J0_indexOf_0f7a4 : Md := (yJ0_indexOf_0f7a4, cJ0_indexOf_0f7a4, 2, (some FieldType.int), 4, 0, 0, 1, false, tb_J0_indexOf_0f7a4, mt_J0_indexOf_0f7a4)
theorem mm_J0_indexOf_0f7a4 : MMOK M_J0_indexOf_0f7a4 := ⟨by decide +kernel, tk_J0_indexOf_0f7a4, mk_J0_indexOf_0f7a4, rfl, fun h => by cases h⟩
theorem go_J0_indexOf_0f7a4 {Q : Option AV → Hp → Prop} {ct : Nat → Bool} {pc : Nat} {ls : List (Option AV)} {st : List AV} {σ : Hp} {k : Nat × Nat} (n : Nat) (h : xe_J0_indexOf_0f7a4 ct (Go M_J0_indexOf_0f7a4 Q) Q n pc ls st σ k) : Go M_J0_indexOf_0f7a4 Q pc ls st σ k := Go.exS mm_J0_indexOf_0f7a4 h

set_option maxRecDepth 20000 in
theorem c_J0_indexOf_0f7a4 : Ct yJ0_indexOf_0f7a4 cJ0_indexOf_0f7a4 2 ((some FieldType.int)) 4 0 0 sp_J0_indexOf_0f7a4 := by
  refine Ct.go (M := M_J0_indexOf_0f7a4) mm_J0_indexOf_0f7a4 fun av σ Q h0 => ?_
  obtain ⟨this, c, rfl, hk, h⟩ := el_J0_indexOf_0f7a4 h0
  clear h0
  refine ⟨Nat.le_of_ble_eq_true rfl, ?_⟩
  show Go M_J0_indexOf_0f7a4 Q 0 [some (vr this), some (vi c)] [] σ (0, 0)
  obtain ⟨hS, hc, hp, h⟩ := h
  refine go_J0_indexOf_0f7a4 (ct := fun p => p == 99) 20 ?_
  simp only [oI, oL, oR, o1, lI, lL, lR, popN, catS, gv, stL, stL2, swt, cnd, spObj, List.getElem?_cons_zero, List.getElem?_cons_succ, List.getD_cons_zero, List.getD_cons_succ, List.set_cons_zero, List.set_cons_succ, List.nil_append, List.cons_append, Option.toList, Bool.or_false, Bool.false_or, Bool.or_true, Bool.true_or, Nat.reduceBEq, Nat.reduceAdd, Nat.reduceLT, Nat.reduceLeDiff, Int.reduceAdd, Int.reduceToNat, true_and, and_true, Fin.isValue, Fin.val_zero, Fin.val_one, Fin.val_two, Fin.reduceFinMk, eq_self, Int.reduceNeg, imp_self, Nat.reduceMul, Nat.le_refl, not_true_eq_false, not_false_eq_true, List.getElem?_nil, reduceCtorEq, true_or, or_true, Classical.not_not, implies_true, or_self, wI_0, wI_1, wI_m1, b2i_w, b2i_eq0, b2i_eq1, b2i_bool, nor_self, nx_pI, kd_pI, ln_pI, fI_pI, fL_pI, fR_pI, aI_pI, aL_pI, aR_pI, nx_pL, kd_pL, ln_pL, fI_pL, fL_pL, fR_pL, aI_pL, aL_pL, aR_pL, nx_pR, kd_pR, ln_pR, fI_pR, fL_pR, fR_pR, aI_pR, aL_pR, aR_pR, nx_qI, kd_qI, ln_qI, fI_qI, fL_qI, fR_qI, aI_qI, aL_qI, aR_qI, nx_qL, kd_qL, ln_qL, fI_qL, fL_qL, fR_qL, aI_qL, aL_qL, aR_qL, nx_qR, kd_qR, ln_qR, fI_qR, fL_qR, fR_qR, aI_qR, aL_qR, aR_qR, nx_mk, kd_mk, ln_mk, fI_mk, fL_mk, fR_mk, aI_mk, aL_mk, aR_mk, false_and, and_false, if_false, if_true, and_self, Int.reduceEq, Nat.reduceEqDiff, ite_self, MLay_pI, MLay_pL, MLay_qI, MLay_qL, ev_J0_indexOf_0f7a4_0, ev_J0_indexOf_0f7a4_1, ev_J0_indexOf_0f7a4_2, ev_J0_indexOf_0f7a4_3, ev_J0_indexOf_0f7a4_6, xt_J0_indexOf_0f7a4, xf_J0_indexOf_0f7a4, us_J0_indexOf_7cf53, hk, hS]
  repeat' (first | intro z | apply And.intro)
  all_goals try omega
  all_goals try contradiction
  all_goals (exact h _ ‹_›)
