/-! the reference: stories of three, the contract; stories, story -/

section TH
variable {Q : Option AV → Hp → Prop} {τ0 : Hp} {H : Int → Prop} {K : Int → Int → Prop} {n sp e : Int}
theorem sm3_top {x : List Int} (hn : n ≤ 12) (hx : Sm H K n sp 3 x) : keyL x < 6144 * 8192 * 8192 := by
  obtain ⟨p, q, r, rfl⟩ := len3 hx.2
  rw [keyL_3]
  have hx1 := (ST3.mp hx.1).1
  have x1 := k13_b (p := p) ⟨hx1.1.1, hx1.1.2.1⟩ hn
  have x2 := k13_b (p := q) ⟨hx1.2.1.1, hx1.2.1.2.1⟩ hn
  have x3 := k13_b (p := r) ⟨hx1.2.2.1, hx1.2.2.2.1⟩ hn
  omega

set_option maxRecDepth 20000 in
theorem th_2 (h0 : Pc τ0 H K n sp e) (w : ∀ τ xs, Wt τ0 τ → Told τ xs → Sg (Sm H K n sp 3) xs → Q none τ) : ∀ (m : Nat) (a : Int) (τ : Hp) (xs : List (List Int)) (a3 a4 a5 a6 a7 : Option AV), 0 ≤ a → a + m = 300 * n → Wt τ0 τ → Told τ xs → SgB (Sm H K n sp 3) (k13 a * 8192 * 8192) xs → Go M_X12_threes Q 2 [some (vr 61), some (vi n), some (vi a), a3, a4, a5, a6, a7] [] τ (0, 0) := by
  have hn := h0.1
  have hsp := h0.2.2.1
  intro m
  induction m with
  | zero =>
    intro a τ xs a3 a4 a5 a6 a7 ha hm hW hTd hS
    have hkd : kd τ 61 = 13 := hW.1.lay.1
    have ea : a = 300 * n := by omega
    have w := w τ xs hW hTd (hS.all (fun x hx => by
      obtain ⟨p, q, r, rfl⟩ := len3 hx.2
      rw [keyL_3]
      have hx1 := (ST3.mp hx.1).1
      have x1 := k13_mono (show p < a by omega)
      have x2 := k13_b (p := q) ⟨hx1.2.1.1, hx1.2.1.2.1⟩ hn.2
      have x3 := k13_b (p := r) ⟨hx1.2.2.1, hx1.2.2.2.1⟩ hn.2
      omega))
    rw [ea]
    refine go_X12_threes (ct := fun p => p == 11) 20 ?_
    simp only [oI, oL, oR, o1, lI, lL, lR, popN, catS, gv, stL, stL2, swt, cnd, spObj, List.getElem?_cons_zero, List.getElem?_cons_succ, List.getD_cons_zero, List.getD_cons_succ, List.set_cons_zero, List.set_cons_succ, List.nil_append, List.cons_append, Option.toList, Bool.or_false, Bool.false_or, Bool.or_true, Bool.true_or, Nat.reduceBEq, Nat.reduceAdd, Nat.reduceLT, Nat.reduceLeDiff, Int.reduceAdd, Int.reduceToNat, true_and, and_true, Fin.isValue, Fin.val_zero, Fin.val_one, Fin.val_two, Fin.reduceFinMk, eq_self, Int.reduceNeg, imp_self, Nat.reduceMul, Nat.le_refl, not_true_eq_false, not_false_eq_true, List.getElem?_nil, reduceCtorEq, true_or, or_true, Classical.not_not, implies_true, or_self, wI_0, wI_1, wI_m1, b2i_w, b2i_eq0, b2i_eq1, b2i_bool, nor_self, nx_pI, kd_pI, ln_pI, fI_pI, fL_pI, fR_pI, aI_pI, aL_pI, aR_pI, nx_pL, kd_pL, ln_pL, fI_pL, fL_pL, fR_pL, aI_pL, aL_pL, aR_pL, nx_pR, kd_pR, ln_pR, fI_pR, fL_pR, fR_pR, aI_pR, aL_pR, aR_pR, nx_qI, kd_qI, ln_qI, fI_qI, fL_qI, fR_qI, aI_qI, aL_qI, aR_qI, nx_qL, kd_qL, ln_qL, fI_qL, fL_qL, fR_qL, aI_qL, aL_qL, aR_qL, nx_qR, kd_qR, ln_qR, fI_qR, fL_qR, fR_qR, aI_qR, aL_qR, aR_qR, nx_mk, kd_mk, ln_mk, fI_mk, fL_mk, fR_mk, aI_mk, aL_mk, aR_mk, false_and, and_false, if_false, if_true, and_self, Int.reduceEq, Nat.reduceEqDiff, ite_self, MLay_pI, MLay_pL, MLay_qI, MLay_qL, ev_X12_threes_2, ev_X12_threes_3, ev_X12_threes_6, ev_X12_threes_7, ev_X12_threes_8, ev_X12_threes_238, xt_X12_threes, xf_X12_threes, us_X12_isFirst, us_X12_rowOf, us_X12_areAll, us_X12_tells, hkd]
    try simp (disch := omega) only [wI_id, dv_nn, rm_nn]
    repeat' (first | intro z | apply And.intro)
    all_goals try omega
    all_goals exact w
  | succ m ih =>
    intro a τ xs a3 a4 a5 a6 a7 ha hm hW hTd hS
    have hT := hW.1
    have hkd : kd τ 61 = 13 := hT.lay.1
    have hP := h0.keep hW
    have es := hP.2.1
    have hsc := hT.storyCount_s
    have hmy := hT.may_ a
    have hwm : wI (aI τ 82 a) = aI τ 82 a := wI_id (by omega) (by omega)
    have hrm : rmI a 300 = a % 300 := rm_nn (by omega) (by omega) (by omega) (by omega)
    have hdv : dvI a 300 = a / 300 := dv_nn (by omega) (by omega) (by omega) (by omega)
    have hw2 : wI 200 = 200 := by decide
    have hws : wI (fI τ 1322 61) = fI τ 1322 61 := wI_id (by omega) (by omega)
    have xb := k13_mono (show a < a + 1 by omega)
    have xt : k13 a ≤ 6144 := by
      have := k13_le (show a ≤ 300 * n by omega)
      have := k13_300 (k := n) (by omega)
      omega
    have noS : (∀ q r, ¬ ST H K n sp [a, q, r]) → Go M_X12_threes Q 2 [some (vr 61), some (vi n), some (vi (a + 1)), a3, a4, a5, a6, a7] [] τ (0, 0) := fun c => ih (a + 1) τ xs a3 a4 a5 a6 a7 (by omega) (by omega) hW hTd (hS.skip (by omega) fun x hx q1 q2 => by
      obtain ⟨p, q, r, rfl⟩ := len3 hx.2
      rw [keyL_3] at q1 q2
      have hx1 := ST3.mp hx.1
      have := k3_a (a := a) (p := p) (q := q) (r := r) hn.2 ⟨hx1.1.2.1.1, hx1.1.2.1.2.1⟩ ⟨hx1.1.2.2.1, hx1.1.2.2.2.1⟩ q1 q2
      rw [this] at hx
      exact c q r hx.1)
    by_cases cf : 200 ≤ fI τ 1322 61
    · have w := w τ xs hW hTd ((hS.full (B' := 6144 * 8192 * 8192) (by omega) (by have := hTd.1; omega)).all (fun x hx => sm3_top hn.2 hx))
      have cT := eq_true cf
      refine go_X12_threes (ct := fun p => p == 21) 30 ?_
      simp only [oI, oL, oR, o1, lI, lL, lR, popN, catS, gv, stL, stL2, swt, cnd, spObj, List.getElem?_cons_zero, List.getElem?_cons_succ, List.getD_cons_zero, List.getD_cons_succ, List.set_cons_zero, List.set_cons_succ, List.nil_append, List.cons_append, Option.toList, Bool.or_false, Bool.false_or, Bool.or_true, Bool.true_or, Nat.reduceBEq, Nat.reduceAdd, Nat.reduceLT, Nat.reduceLeDiff, Int.reduceAdd, Int.reduceToNat, true_and, and_true, Fin.isValue, Fin.val_zero, Fin.val_one, Fin.val_two, Fin.reduceFinMk, eq_self, Int.reduceNeg, imp_self, Nat.reduceMul, Nat.le_refl, not_true_eq_false, not_false_eq_true, List.getElem?_nil, reduceCtorEq, true_or, or_true, Classical.not_not, implies_true, or_self, wI_0, wI_1, wI_m1, b2i_w, b2i_eq0, b2i_eq1, b2i_bool, nor_self, nx_pI, kd_pI, ln_pI, fI_pI, fL_pI, fR_pI, aI_pI, aL_pI, aR_pI, nx_pL, kd_pL, ln_pL, fI_pL, fL_pL, fR_pL, aI_pL, aL_pL, aR_pL, nx_pR, kd_pR, ln_pR, fI_pR, fL_pR, fR_pR, aI_pR, aL_pR, aR_pR, nx_qI, kd_qI, ln_qI, fI_qI, fL_qI, fR_qI, aI_qI, aL_qI, aR_qI, nx_qL, kd_qL, ln_qL, fI_qL, fL_qL, fR_qL, aI_qL, aL_qL, aR_qL, nx_qR, kd_qR, ln_qR, fI_qR, fL_qR, fR_qR, aI_qR, aL_qR, aR_qR, nx_mk, kd_mk, ln_mk, fI_mk, fL_mk, fR_mk, aI_mk, aL_mk, aR_mk, false_and, and_false, if_false, if_true, and_self, Int.reduceEq, Nat.reduceEqDiff, ite_self, MLay_pI, MLay_pL, MLay_qI, MLay_qL, ev_X12_threes_2, ev_X12_threes_3, ev_X12_threes_6, ev_X12_threes_7, ev_X12_threes_8, ev_X12_threes_11, ev_X12_threes_12, ev_X12_threes_15, ev_X12_threes_18, ev_X12_threes_238, xt_X12_threes, xf_X12_threes, us_X12_isFirst, us_X12_rowOf, us_X12_areAll, us_X12_tells, hkd, hw2, hws, cT, not_true_eq_false, not_false_eq_true, false_imp_iff, true_imp_iff]
      try simp (disch := omega) only [wI_id, dv_nn, rm_nn]
      repeat' (first | intro z | apply And.intro)
      all_goals try omega
      all_goals exact w
    · have cF := eq_false cf
      suffices w21 : Go M_X12_threes Q 21 [some (vr 61), some (vi n), some (vi a), a3, a4, a5, a6, a7] [] τ (0, 0) by
        refine go_X12_threes (ct := fun p => p == 21 || p == 238) 30 ?_
        simp only [oI, oL, oR, o1, lI, lL, lR, popN, catS, gv, stL, stL2, swt, cnd, spObj, List.getElem?_cons_zero, List.getElem?_cons_succ, List.getD_cons_zero, List.getD_cons_succ, List.set_cons_zero, List.set_cons_succ, List.nil_append, List.cons_append, Option.toList, Bool.or_false, Bool.false_or, Bool.or_true, Bool.true_or, Nat.reduceBEq, Nat.reduceAdd, Nat.reduceLT, Nat.reduceLeDiff, Int.reduceAdd, Int.reduceToNat, true_and, and_true, Fin.isValue, Fin.val_zero, Fin.val_one, Fin.val_two, Fin.reduceFinMk, eq_self, Int.reduceNeg, imp_self, Nat.reduceMul, Nat.le_refl, not_true_eq_false, not_false_eq_true, List.getElem?_nil, reduceCtorEq, true_or, or_true, Classical.not_not, implies_true, or_self, wI_0, wI_1, wI_m1, b2i_w, b2i_eq0, b2i_eq1, b2i_bool, nor_self, nx_pI, kd_pI, ln_pI, fI_pI, fL_pI, fR_pI, aI_pI, aL_pI, aR_pI, nx_pL, kd_pL, ln_pL, fI_pL, fL_pL, fR_pL, aI_pL, aL_pL, aR_pL, nx_pR, kd_pR, ln_pR, fI_pR, fL_pR, fR_pR, aI_pR, aL_pR, aR_pR, nx_qI, kd_qI, ln_qI, fI_qI, fL_qI, fR_qI, aI_qI, aL_qI, aR_qI, nx_qL, kd_qL, ln_qL, fI_qL, fL_qL, fR_qL, aI_qL, aL_qL, aR_qL, nx_qR, kd_qR, ln_qR, fI_qR, fL_qR, fR_qR, aI_qR, aL_qR, aR_qR, nx_mk, kd_mk, ln_mk, fI_mk, fL_mk, fR_mk, aI_mk, aL_mk, aR_mk, false_and, and_false, if_false, if_true, and_self, Int.reduceEq, Nat.reduceEqDiff, ite_self, MLay_pI, MLay_pL, MLay_qI, MLay_qL, ev_X12_threes_2, ev_X12_threes_3, ev_X12_threes_6, ev_X12_threes_7, ev_X12_threes_8, ev_X12_threes_11, ev_X12_threes_12, ev_X12_threes_15, ev_X12_threes_18, xt_X12_threes, xf_X12_threes, us_X12_isFirst, us_X12_rowOf, us_X12_areAll, us_X12_tells, hkd, hw2, hws, cF, not_true_eq_false, not_false_eq_true, false_imp_iff, true_imp_iff]
        try simp (disch := omega) only [wI_id, dv_nn, rm_nn]
        repeat' (first | intro z | apply And.intro)
        all_goals try omega
        all_goals exact w21
      by_cases c2 : a % 300 < sp
      · have hv : VP n sp a := ⟨by omega, by omega, c2⟩
        by_cases c1 : aI τ 82 a = 0
        · have w := noS (fun b r q => by have := may_1 hP q (p := a) (by simp); omega)
          refine go_X12_threes (ct := fun p => p == 45 || p == 2) 30 ?_
          simp only [oI, oL, oR, o1, lI, lL, lR, popN, catS, gv, stL, stL2, swt, cnd, spObj, List.getElem?_cons_zero, List.getElem?_cons_succ, List.getD_cons_zero, List.getD_cons_succ, List.set_cons_zero, List.set_cons_succ, List.nil_append, List.cons_append, Option.toList, Bool.or_false, Bool.false_or, Bool.or_true, Bool.true_or, Nat.reduceBEq, Nat.reduceAdd, Nat.reduceLT, Nat.reduceLeDiff, Int.reduceAdd, Int.reduceToNat, true_and, and_true, Fin.isValue, Fin.val_zero, Fin.val_one, Fin.val_two, Fin.reduceFinMk, eq_self, Int.reduceNeg, imp_self, Nat.reduceMul, Nat.le_refl, not_true_eq_false, not_false_eq_true, List.getElem?_nil, reduceCtorEq, true_or, or_true, Classical.not_not, implies_true, or_self, wI_0, wI_1, wI_m1, b2i_w, b2i_eq0, b2i_eq1, b2i_bool, nor_self, nx_pI, kd_pI, ln_pI, fI_pI, fL_pI, fR_pI, aI_pI, aL_pI, aR_pI, nx_pL, kd_pL, ln_pL, fI_pL, fL_pL, fR_pL, aI_pL, aL_pL, aR_pL, nx_pR, kd_pR, ln_pR, fI_pR, fL_pR, fR_pR, aI_pR, aL_pR, aR_pR, nx_qI, kd_qI, ln_qI, fI_qI, fL_qI, fR_qI, aI_qI, aL_qI, aR_qI, nx_qL, kd_qL, ln_qL, fI_qL, fL_qL, fR_qL, aI_qL, aL_qL, aR_qL, nx_qR, kd_qR, ln_qR, fI_qR, fL_qR, fR_qR, aI_qR, aL_qR, aR_qR, nx_mk, kd_mk, ln_mk, fI_mk, fL_mk, fR_mk, aI_mk, aL_mk, aR_mk, false_and, and_false, if_false, if_true, and_self, Int.reduceEq, Nat.reduceEqDiff, ite_self, MLay_pI, MLay_pL, MLay_qI, MLay_qL, ev_X12_threes_21, ev_X12_threes_22, ev_X12_threes_25, ev_X12_threes_26, ev_X12_threes_27, ev_X12_threes_30, ev_X12_threes_33, ev_X12_threes_34, ev_X12_threes_37, ev_X12_threes_38, ev_X12_threes_39, ev_X12_threes_42, ev_X12_threes_232, ev_X12_threes_235, xt_X12_threes, xf_X12_threes, us_X12_isFirst, us_X12_rowOf, us_X12_areAll, us_X12_tells, hkd, hT.lay.eqs, es, hrm, c1, not_true_eq_false, not_false_eq_true, false_imp_iff, true_imp_iff]
          try simp (disch := omega) only [wI_id, dv_nn, rm_nn]
          repeat' (first | intro z | apply And.intro)
          all_goals try omega
          all_goals exact w
        · have w57 := th_57 (Q := Q) h0 hv (fun τ xs b a4 a5 a6 a7 g1 g2 g3 => by
            have hkd : kd τ 61 = 13 := g1.1.lay.1
            have w := ih (a + 1) τ xs (some (vi b)) a4 a5 a6 a7 (by omega) (by omega) g1 g2 g3
            refine go_X12_threes (ct := fun p => p == 2) 20 ?_
            simp only [oI, oL, oR, o1, lI, lL, lR, popN, catS, gv, stL, stL2, swt, cnd, spObj, List.getElem?_cons_zero, List.getElem?_cons_succ, List.getD_cons_zero, List.getD_cons_succ, List.set_cons_zero, List.set_cons_succ, List.nil_append, List.cons_append, Option.toList, Bool.or_false, Bool.false_or, Bool.or_true, Bool.true_or, Nat.reduceBEq, Nat.reduceAdd, Nat.reduceLT, Nat.reduceLeDiff, Int.reduceAdd, Int.reduceToNat, true_and, and_true, Fin.isValue, Fin.val_zero, Fin.val_one, Fin.val_two, Fin.reduceFinMk, eq_self, Int.reduceNeg, imp_self, Nat.reduceMul, Nat.le_refl, not_true_eq_false, not_false_eq_true, List.getElem?_nil, reduceCtorEq, true_or, or_true, Classical.not_not, implies_true, or_self, wI_0, wI_1, wI_m1, b2i_w, b2i_eq0, b2i_eq1, b2i_bool, nor_self, nx_pI, kd_pI, ln_pI, fI_pI, fL_pI, fR_pI, aI_pI, aL_pI, aR_pI, nx_pL, kd_pL, ln_pL, fI_pL, fL_pL, fR_pL, aI_pL, aL_pL, aR_pL, nx_pR, kd_pR, ln_pR, fI_pR, fL_pR, fR_pR, aI_pR, aL_pR, aR_pR, nx_qI, kd_qI, ln_qI, fI_qI, fL_qI, fR_qI, aI_qI, aL_qI, aR_qI, nx_qL, kd_qL, ln_qL, fI_qL, fL_qL, fR_qL, aI_qL, aL_qL, aR_qL, nx_qR, kd_qR, ln_qR, fI_qR, fL_qR, fR_qR, aI_qR, aL_qR, aR_qR, nx_mk, kd_mk, ln_mk, fI_mk, fL_mk, fR_mk, aI_mk, aL_mk, aR_mk, false_and, and_false, if_false, if_true, and_self, Int.reduceEq, Nat.reduceEqDiff, ite_self, MLay_pI, MLay_pL, MLay_qI, MLay_qL, ev_X12_threes_232, ev_X12_threes_235, xt_X12_threes, xf_X12_threes, us_X12_isFirst, us_X12_rowOf, us_X12_areAll, us_X12_tells, hkd]
            exact w) (300 * n - 300 * (a / 300 + 1)).toNat (300 * (a / 300 + 1)) τ xs a4 a5 a6 a7 (Int.le_refl _) (by omega) hW hTd (hS.skip (by
              have := k13_300 (k := a / 300 + 1) (by omega)
              omega) fun x hx q1 q2 => by
            obtain ⟨p, q, r, rfl⟩ := len3 hx.2
            rw [keyL_3] at q1 q2
            have hx1 := ST3.mp hx.1
            have x3 := k13_300 (k := a / 300 + 1) (by omega)
            have xr := k13_b (p := r) ⟨hx1.1.2.2.1, hx1.1.2.2.2.1⟩ hn.2
            have ep := k3_a (a := a) (p := p) (q := q) (r := r) hn.2 ⟨hx1.1.2.1.1, hx1.1.2.1.2.1⟩ ⟨hx1.1.2.2.1, hx1.1.2.2.2.1⟩ q1 (by omega)
            subst ep
            have := k13_lt (p := q) (q := 300 * (p / 300 + 1)) (by omega)
            have := hx1.2.1.1
            omega)
          refine go_X12_threes (ct := fun p => p == 232 || p == 57) 40 ?_
          simp only [oI, oL, oR, o1, lI, lL, lR, popN, catS, gv, stL, stL2, swt, cnd, spObj, List.getElem?_cons_zero, List.getElem?_cons_succ, List.getD_cons_zero, List.getD_cons_succ, List.set_cons_zero, List.set_cons_succ, List.nil_append, List.cons_append, Option.toList, Bool.or_false, Bool.false_or, Bool.or_true, Bool.true_or, Nat.reduceBEq, Nat.reduceAdd, Nat.reduceLT, Nat.reduceLeDiff, Int.reduceAdd, Int.reduceToNat, true_and, and_true, Fin.isValue, Fin.val_zero, Fin.val_one, Fin.val_two, Fin.reduceFinMk, eq_self, Int.reduceNeg, imp_self, Nat.reduceMul, Nat.le_refl, not_true_eq_false, not_false_eq_true, List.getElem?_nil, reduceCtorEq, true_or, or_true, Classical.not_not, implies_true, or_self, wI_0, wI_1, wI_m1, b2i_w, b2i_eq0, b2i_eq1, b2i_bool, nor_self, nx_pI, kd_pI, ln_pI, fI_pI, fL_pI, fR_pI, aI_pI, aL_pI, aR_pI, nx_pL, kd_pL, ln_pL, fI_pL, fL_pL, fR_pL, aI_pL, aL_pL, aR_pL, nx_pR, kd_pR, ln_pR, fI_pR, fL_pR, fR_pR, aI_pR, aL_pR, aR_pR, nx_qI, kd_qI, ln_qI, fI_qI, fL_qI, fR_qI, aI_qI, aL_qI, aR_qI, nx_qL, kd_qL, ln_qL, fI_qL, fL_qL, fR_qL, aI_qL, aL_qL, aR_qL, nx_qR, kd_qR, ln_qR, fI_qR, fL_qR, fR_qR, aI_qR, aL_qR, aR_qR, nx_mk, kd_mk, ln_mk, fI_mk, fL_mk, fR_mk, aI_mk, aL_mk, aR_mk, false_and, and_false, if_false, if_true, and_self, Int.reduceEq, Nat.reduceEqDiff, ite_self, MLay_pI, MLay_pL, MLay_qI, MLay_qL, ev_X12_threes_21, ev_X12_threes_22, ev_X12_threes_25, ev_X12_threes_26, ev_X12_threes_27, ev_X12_threes_30, ev_X12_threes_33, ev_X12_threes_34, ev_X12_threes_37, ev_X12_threes_38, ev_X12_threes_39, ev_X12_threes_42, ev_X12_threes_45, ev_X12_threes_48, ev_X12_threes_49, ev_X12_threes_52, ev_X12_threes_53, ev_X12_threes_54, ev_X12_threes_55, ev_X12_threes_56, xt_X12_threes, xf_X12_threes, us_X12_isFirst, us_X12_rowOf, us_X12_areAll, us_X12_tells, hkd, hT.lay.eqs, es, hrm, hdv, hwm, c1, not_true_eq_false, not_false_eq_true, false_imp_iff, true_imp_iff]
          try simp (disch := omega) only [wI_id, dv_nn, rm_nn]
          repeat' (first | intro z | apply And.intro)
          all_goals try omega
          all_goals exact w57
      · have w := noS (fun b r q => c2 (ST3.mp q).1.1.2.2)
        refine go_X12_threes (ct := fun p => p == 33 || p == 2) 30 ?_
        simp only [oI, oL, oR, o1, lI, lL, lR, popN, catS, gv, stL, stL2, swt, cnd, spObj, List.getElem?_cons_zero, List.getElem?_cons_succ, List.getD_cons_zero, List.getD_cons_succ, List.set_cons_zero, List.set_cons_succ, List.nil_append, List.cons_append, Option.toList, Bool.or_false, Bool.false_or, Bool.or_true, Bool.true_or, Nat.reduceBEq, Nat.reduceAdd, Nat.reduceLT, Nat.reduceLeDiff, Int.reduceAdd, Int.reduceToNat, true_and, and_true, Fin.isValue, Fin.val_zero, Fin.val_one, Fin.val_two, Fin.reduceFinMk, eq_self, Int.reduceNeg, imp_self, Nat.reduceMul, Nat.le_refl, not_true_eq_false, not_false_eq_true, List.getElem?_nil, reduceCtorEq, true_or, or_true, Classical.not_not, implies_true, or_self, wI_0, wI_1, wI_m1, b2i_w, b2i_eq0, b2i_eq1, b2i_bool, nor_self, nx_pI, kd_pI, ln_pI, fI_pI, fL_pI, fR_pI, aI_pI, aL_pI, aR_pI, nx_pL, kd_pL, ln_pL, fI_pL, fL_pL, fR_pL, aI_pL, aL_pL, aR_pL, nx_pR, kd_pR, ln_pR, fI_pR, fL_pR, fR_pR, aI_pR, aL_pR, aR_pR, nx_qI, kd_qI, ln_qI, fI_qI, fL_qI, fR_qI, aI_qI, aL_qI, aR_qI, nx_qL, kd_qL, ln_qL, fI_qL, fL_qL, fR_qL, aI_qL, aL_qL, aR_qL, nx_qR, kd_qR, ln_qR, fI_qR, fL_qR, fR_qR, aI_qR, aL_qR, aR_qR, nx_mk, kd_mk, ln_mk, fI_mk, fL_mk, fR_mk, aI_mk, aL_mk, aR_mk, false_and, and_false, if_false, if_true, and_self, Int.reduceEq, Nat.reduceEqDiff, ite_self, MLay_pI, MLay_pL, MLay_qI, MLay_qL, ev_X12_threes_21, ev_X12_threes_22, ev_X12_threes_25, ev_X12_threes_26, ev_X12_threes_27, ev_X12_threes_30, ev_X12_threes_33, ev_X12_threes_34, ev_X12_threes_37, ev_X12_threes_38, ev_X12_threes_39, ev_X12_threes_42, ev_X12_threes_232, ev_X12_threes_235, xt_X12_threes, xf_X12_threes, us_X12_isFirst, us_X12_rowOf, us_X12_areAll, us_X12_tells, hkd, hT.lay.eqs, es, hrm, not_true_eq_false, not_false_eq_true, false_imp_iff, true_imp_iff]
        try simp (disch := omega) only [wI_id, dv_nn, rm_nn]
        repeat' (first | intro z | apply And.intro)
        all_goals try omega
        all_goals exact w

end TH

set_option maxRecDepth 20000 in
theorem c_X12_threes : Ct yX12_threes cX12_threes 8 ((none : Option FieldType)) 3 0 0 sp_X12_threes := by
  refine Ct.go (M := M_X12_threes) mm_X12_threes fun av σ Q h0 => ?_
  obtain ⟨this, m, rfl, hk, h⟩ := el_X12_threes h0
  clear h0
  refine ⟨Nat.le_of_ble_eq_true rfl, ?_⟩
  show Go M_X12_threes Q 0 [some (vr this), some (vi m), none, none, none, none, none, none] [] σ (0, 0)
  obtain ⟨rfl, hI, hc, H, K, sp, e, hP, h⟩ := h
  have hn := hP.1
  have w := th_2 (Q := Q) hP h (300 * m).toNat 0 σ [] none none none none none (by omega) (by omega) ⟨hI, Uv.refl _ _ _ _⟩ ⟨hc, fun i x hx => by cases hx⟩ (SgB.nil _ fun x hx => by
    obtain ⟨p, q, r, rfl⟩ := len3 hx.2
    rw [keyL_3]
    have hv := (ST3.mp hx.1).1
    have e0 : k13 0 = 0 := by decide
    have x1 := k13_b (p := p) ⟨hv.1.1, hv.1.2.1⟩ hn.2
    have x2 := k13_b (p := q) ⟨hv.2.1.1, hv.2.1.2.1⟩ hn.2
    have x3 := k13_b (p := r) ⟨hv.2.2.1, hv.2.2.2.1⟩ hn.2
    omega)
  refine go_X12_threes (ct := fun p => p == 2) 20 ?_
  simp only [oI, oL, oR, o1, lI, lL, lR, popN, catS, gv, stL, stL2, swt, cnd, spObj, List.getElem?_cons_zero, List.getElem?_cons_succ, List.getD_cons_zero, List.getD_cons_succ, List.set_cons_zero, List.set_cons_succ, List.nil_append, List.cons_append, Option.toList, Bool.or_false, Bool.false_or, Bool.or_true, Bool.true_or, Nat.reduceBEq, Nat.reduceAdd, Nat.reduceLT, Nat.reduceLeDiff, Int.reduceAdd, Int.reduceToNat, true_and, and_true, Fin.isValue, Fin.val_zero, Fin.val_one, Fin.val_two, Fin.reduceFinMk, eq_self, Int.reduceNeg, imp_self, Nat.reduceMul, Nat.le_refl, not_true_eq_false, not_false_eq_true, List.getElem?_nil, reduceCtorEq, true_or, or_true, Classical.not_not, implies_true, or_self, wI_0, wI_1, wI_m1, b2i_w, b2i_eq0, b2i_eq1, b2i_bool, nor_self, nx_pI, kd_pI, ln_pI, fI_pI, fL_pI, fR_pI, aI_pI, aL_pI, aR_pI, nx_pL, kd_pL, ln_pL, fI_pL, fL_pL, fR_pL, aI_pL, aL_pL, aR_pL, nx_pR, kd_pR, ln_pR, fI_pR, fL_pR, fR_pR, aI_pR, aL_pR, aR_pR, nx_qI, kd_qI, ln_qI, fI_qI, fL_qI, fR_qI, aI_qI, aL_qI, aR_qI, nx_qL, kd_qL, ln_qL, fI_qL, fL_qL, fR_qL, aI_qL, aL_qL, aR_qL, nx_qR, kd_qR, ln_qR, fI_qR, fL_qR, fR_qR, aI_qR, aL_qR, aR_qR, nx_mk, kd_mk, ln_mk, fI_mk, fL_mk, fR_mk, aI_mk, aL_mk, aR_mk, false_and, and_false, if_false, if_true, and_self, Int.reduceEq, Nat.reduceEqDiff, ite_self, MLay_pI, MLay_pL, MLay_qI, MLay_qL, ev_X12_threes_0, ev_X12_threes_1, xt_X12_threes, xf_X12_threes, us_X12_isFirst, us_X12_rowOf, us_X12_areAll, us_X12_tells]
  exact w

def sp_X12_stories : Sp := fun av σ Q => oR av fun this av => av = [] ∧ kd σ this = 13 ∧ (this = 61 ∧ Q (some (vi (fI σ 1322 61))) (pI σ 1300 61 0))
theorem us_X12_stories (this : Int) (σ : Hp) (Q : Option AV → Hp → Prop) : sp_X12_stories [vr this] σ Q = (kd σ this = 13 ∧ (this = 61 ∧ Q (some (vi (fI σ 1322 61))) (pI σ 1300 61 0))) := propext ⟨fun h => h.2, fun h => ⟨rfl, h⟩⟩
theorem el_X12_stories {av : List AV} {σ : Hp} {Q : Option AV → Hp → Prop} (h : sp_X12_stories av σ Q) : ∃ (this : Int), av = [vr this] ∧ (kd σ this = 13 ∧ (this = 61 ∧ Q (some (vi (fI σ 1322 61))) (pI σ 1300 61 0))) := by
  obtain ⟨this, a0, rfl, h0⟩ := oR_s h
  obtain ⟨rfl, hz⟩ := h0
  exact ⟨this, rfl, hz⟩
theorem rc_X12_stories : ∀ (av : List AV) (σ : Hp) (Q : Option AV → Hp → Prop), sp_X12_stories av σ Q → ∃ r tl, av = vr r :: tl ∧ kd σ r = 12 + 1 := fun av σ Q h => by
  obtain ⟨this, rfl, hz, -⟩ := el_X12_stories h
  exact ⟨this, _, rfl, hz⟩

def tb_X12_stories : Tab := [(0, .aload_n 0, 1, (0, 0, 0, 0)), (1, .iconst 0, 1, (0, 0, 0, 0)), (2, .putfield 196, 3, (13, 1300, 0, 0)), (5, .aload_n 0, 1, (0, 0, 0, 0)), (6, .getfield 250, 3, (13, 1322, 0, 0)), (9, .ireturn, 1, (0, 0, 0, 0))]
set_option maxRecDepth 100000 in
theorem tk_X12_stories : TOK RX12 false cX12_stories tb_X12_stories := chkT_ok ft_X12 (by decide +kernel)
def mt_X12_stories : List (Nat × Mt) := []
theorem mk_X12_stories : MOK RX12 mt_X12_stories := fun q hq => by cases hq
noncomputable def xe_X12_stories (ct : Nat → Bool) (K : Kt) (R : Option AV → Hp → Prop) (n : Nat) : Kt := exS 1 1 0 0 1 tb_X12_stories mt_X12_stories ct K R n
noncomputable def xk_X12_stories (ct : Nat → Bool) (K : Kt) (R : Option AV → Hp → Prop) (n : Nat) : Kt := exkS 1 1 0 0 1 tb_X12_stories mt_X12_stories ct K R n
theorem xt_X12_stories {ct : Nat → Bool} {K : Kt} {R : Option AV → Hp → Prop} {n pc : Nat} {ls : List (Option AV)} {st : List AV} {σ : Hp} {k : Nat × Nat} (h : ct pc = true) : xk_X12_stories ct K R n pc ls st σ k = K pc ls st σ k := by unfold xk_X12_stories exkS; rw [h]
theorem xf_X12_stories {ct : Nat → Bool} {K : Kt} {R : Option AV → Hp → Prop} {n pc : Nat} {ls : List (Option AV)} {st : List AV} {σ : Hp} {k : Nat × Nat} (h : ct pc = false) : xk_X12_stories ct K R n pc ls st σ k = xe_X12_stories ct K R n pc ls st σ k := by unfold xk_X12_stories exkS xe_X12_stories; rw [h]
theorem ev_X12_stories_0 {ct : Nat → Bool} {K : Kt} {R : Option AV → Hp → Prop} {n : Nat} {ls : List (Option AV)} {st : List AV} {σ : Hp} {k : Nat × Nat} : xe_X12_stories ct K R (n + 1) 0 ls st σ k = (lR ls 0 fun x => xk_X12_stories ct K R n 1 ls (vr x :: st) σ k) := exS_step.trans rfl
theorem ev_X12_stories_1 {ct : Nat → Bool} {K : Kt} {R : Option AV → Hp → Prop} {n : Nat} {ls : List (Option AV)} {st : List AV} {σ : Hp} {k : Nat × Nat} : xe_X12_stories ct K R (n + 1) 1 ls st σ k = (xk_X12_stories ct K R n 2 ls (vi (0) :: st) σ k) := exS_step.trans rfl
theorem ev_X12_stories_2 {ct : Nat → Bool} {K : Kt} {R : Option AV → Hp → Prop} {n : Nat} {ls : List (Option AV)} {st : List AV} {σ : Hp} {k : Nat × Nat} : xe_X12_stories ct K R (n + 1) 2 ls st σ k = (oI st fun v st => oR st fun x st => kd σ x = 13 ∧ xk_X12_stories ct K R n 5 ls st (pI σ 1300 x v) k) := exS_step.trans rfl
theorem ev_X12_stories_5 {ct : Nat → Bool} {K : Kt} {R : Option AV → Hp → Prop} {n : Nat} {ls : List (Option AV)} {st : List AV} {σ : Hp} {k : Nat × Nat} : xe_X12_stories ct K R (n + 1) 5 ls st σ k = (lR ls 0 fun x => xk_X12_stories ct K R n 6 ls (vr x :: st) σ k) := exS_step.trans rfl
theorem ev_X12_stories_6 {ct : Nat → Bool} {K : Kt} {R : Option AV → Hp → Prop} {n : Nat} {ls : List (Option AV)} {st : List AV} {σ : Hp} {k : Nat × Nat} : xe_X12_stories ct K R (n + 1) 6 ls st σ k = (oR st fun x st => kd σ x = 13 ∧ xk_X12_stories ct K R n 9 ls (vi (fI σ 1322 x) :: st) σ k) := exS_step.trans rfl
theorem ev_X12_stories_9 {ct : Nat → Bool} {K : Kt} {R : Option AV → Hp → Prop} {n : Nat} {ls : List (Option AV)} {st : List AV} {σ : Hp} {k : Nat × Nat} : xe_X12_stories ct K R (n + 1) 9 ls st σ k = (oI st fun x st => st = [] ∧ True ∧ R (some (vi x)) σ) := exS_step.trans rfl
def M_X12_stories : Md := (yX12_stories, cX12_stories, 1, (some FieldType.int), 1, 0, 0, 1, false, tb_X12_stories, mt_X12_stories)
theorem mm_X12_stories : MMOK M_X12_stories := ⟨by decide +kernel, tk_X12_stories, mk_X12_stories, rfl, fun h => by cases h⟩
theorem go_X12_stories {Q : Option AV → Hp → Prop} {ct : Nat → Bool} {pc : Nat} {ls : List (Option AV)} {st : List AV} {σ : Hp} {k : Nat × Nat} (n : Nat) (h : xe_X12_stories ct (Go M_X12_stories Q) Q n pc ls st σ k) : Go M_X12_stories Q pc ls st σ k := Go.exS mm_X12_stories h

set_option maxRecDepth 20000 in
theorem c_X12_stories : Ct yX12_stories cX12_stories 1 ((some FieldType.int)) 1 0 0 sp_X12_stories := by
  refine Ct.go (M := M_X12_stories) mm_X12_stories fun av σ Q h0 => ?_
  obtain ⟨this, rfl, hk, h⟩ := el_X12_stories h0
  clear h0
  refine ⟨Nat.le_of_ble_eq_true rfl, ?_⟩
  show Go M_X12_stories Q 0 [some (vr this)] [] σ (0, 0)
  obtain ⟨rfl, h⟩ := h
  refine go_X12_stories (ct := fun p => false) 20 ?_
  simp only [oI, oL, oR, o1, lI, lL, lR, popN, catS, gv, stL, stL2, swt, cnd, spObj, List.getElem?_cons_zero, List.getElem?_cons_succ, List.getD_cons_zero, List.getD_cons_succ, List.set_cons_zero, List.set_cons_succ, List.nil_append, List.cons_append, Option.toList, Bool.or_false, Bool.false_or, Bool.or_true, Bool.true_or, Nat.reduceBEq, Nat.reduceAdd, Nat.reduceLT, Nat.reduceLeDiff, Int.reduceAdd, Int.reduceToNat, true_and, and_true, Fin.isValue, Fin.val_zero, Fin.val_one, Fin.val_two, Fin.reduceFinMk, eq_self, Int.reduceNeg, imp_self, Nat.reduceMul, Nat.le_refl, not_true_eq_false, not_false_eq_true, List.getElem?_nil, reduceCtorEq, true_or, or_true, Classical.not_not, implies_true, or_self, wI_0, wI_1, wI_m1, b2i_w, b2i_eq0, b2i_eq1, b2i_bool, nor_self, nx_pI, kd_pI, ln_pI, fI_pI, fL_pI, fR_pI, aI_pI, aL_pI, aR_pI, nx_pL, kd_pL, ln_pL, fI_pL, fL_pL, fR_pL, aI_pL, aL_pL, aR_pL, nx_pR, kd_pR, ln_pR, fI_pR, fL_pR, fR_pR, aI_pR, aL_pR, aR_pR, nx_qI, kd_qI, ln_qI, fI_qI, fL_qI, fR_qI, aI_qI, aL_qI, aR_qI, nx_qL, kd_qL, ln_qL, fI_qL, fL_qL, fR_qL, aI_qL, aL_qL, aR_qL, nx_qR, kd_qR, ln_qR, fI_qR, fL_qR, fR_qR, aI_qR, aL_qR, aR_qR, nx_mk, kd_mk, ln_mk, fI_mk, fL_mk, fR_mk, aI_mk, aL_mk, aR_mk, false_and, and_false, if_false, if_true, and_self, Int.reduceEq, Nat.reduceEqDiff, ite_self, MLay_pI, MLay_pL, MLay_qI, MLay_qL, ev_X12_stories_0, ev_X12_stories_1, ev_X12_stories_2, ev_X12_stories_5, ev_X12_stories_6, ev_X12_stories_9, xt_X12_stories, xf_X12_stories, hk]
  exact h

def sp_X12_story : Sp := fun av σ Q => oR av fun this av => oI av fun i av => oI av fun j av => oI av fun w av => av = [] ∧ kd σ this = 13 ∧ (this = 61 ∧ MI σ ∧ inR i ∧ inR j ∧ inR w ∧ (((0 ≤ i ∧ i < fI σ 1322 61) ∧ (0 ≤ j ∧ j < fI σ 1323 61) ∧ (0 ≤ w ∧ w ≤ 1)) → Q (some (vi (if w = 0 then aI σ 80 (3 * i + j) else aI σ 81 (3 * i + j)))) (pI σ 1300 61 0)) ∧ (¬ ((0 ≤ i ∧ i < fI σ 1322 61) ∧ (0 ≤ j ∧ j < fI σ 1323 61) ∧ (0 ≤ w ∧ w ≤ 1)) → Q (some (vi (-1))) (pI σ 1300 61 0)))
theorem us_X12_story (this : Int) (i : Int) (j : Int) (w : Int) (σ : Hp) (Q : Option AV → Hp → Prop) : sp_X12_story [vr this, vi i, vi j, vi w] σ Q = (kd σ this = 13 ∧ (this = 61 ∧ MI σ ∧ inR i ∧ inR j ∧ inR w ∧ (((0 ≤ i ∧ i < fI σ 1322 61) ∧ (0 ≤ j ∧ j < fI σ 1323 61) ∧ (0 ≤ w ∧ w ≤ 1)) → Q (some (vi (if w = 0 then aI σ 80 (3 * i + j) else aI σ 81 (3 * i + j)))) (pI σ 1300 61 0)) ∧ (¬ ((0 ≤ i ∧ i < fI σ 1322 61) ∧ (0 ≤ j ∧ j < fI σ 1323 61) ∧ (0 ≤ w ∧ w ≤ 1)) → Q (some (vi (-1))) (pI σ 1300 61 0)))) := propext ⟨fun h => h.2, fun h => ⟨rfl, h⟩⟩
theorem el_X12_story {av : List AV} {σ : Hp} {Q : Option AV → Hp → Prop} (h : sp_X12_story av σ Q) : ∃ (this : Int) (i : Int) (j : Int) (w : Int), av = [vr this, vi i, vi j, vi w] ∧ (kd σ this = 13 ∧ (this = 61 ∧ MI σ ∧ inR i ∧ inR j ∧ inR w ∧ (((0 ≤ i ∧ i < fI σ 1322 61) ∧ (0 ≤ j ∧ j < fI σ 1323 61) ∧ (0 ≤ w ∧ w ≤ 1)) → Q (some (vi (if w = 0 then aI σ 80 (3 * i + j) else aI σ 81 (3 * i + j)))) (pI σ 1300 61 0)) ∧ (¬ ((0 ≤ i ∧ i < fI σ 1322 61) ∧ (0 ≤ j ∧ j < fI σ 1323 61) ∧ (0 ≤ w ∧ w ≤ 1)) → Q (some (vi (-1))) (pI σ 1300 61 0)))) := by
  obtain ⟨this, a0, rfl, h0⟩ := oR_s h
  obtain ⟨i, a1, rfl, h1⟩ := oI_s h0
  obtain ⟨j, a2, rfl, h2⟩ := oI_s h1
  obtain ⟨w, a3, rfl, h3⟩ := oI_s h2
  obtain ⟨rfl, hz⟩ := h3
  exact ⟨this, i, j, w, rfl, hz⟩
theorem rc_X12_story : ∀ (av : List AV) (σ : Hp) (Q : Option AV → Hp → Prop), sp_X12_story av σ Q → ∃ r tl, av = vr r :: tl ∧ kd σ r = 12 + 1 := fun av σ Q h => by
  obtain ⟨this, i, j, w, rfl, hz, -⟩ := el_X12_story h
  exact ⟨this, _, rfl, hz⟩

def tb_X12_story : Tab := [(0, .aload_n 0, 1, (0, 0, 0, 0)), (1, .iconst 0, 1, (0, 0, 0, 0)), (2, .putfield 196, 3, (13, 1300, 0, 0)), (5, .iload_n 1, 1, (0, 0, 0, 0)), (6, .iconst 0, 1, (0, 0, 0, 0)), (7, .aload_n 0, 1, (0, 0, 0, 0)), (8, .getfield 250, 3, (13, 1322, 0, 0)), (11, .iconst 1, 1, (0, 0, 0, 0)), (12, .isub, 1, (0, 0, 0, 0)), (13, .invokestatic 202, 3, (0, 0, 0, 0)), (16, .ifCond .eq 26, 3, (0, 0, 0, 0)), (19, .iload_n 2, 1, (0, 0, 0, 0)), (20, .iconst 0, 1, (0, 0, 0, 0)), (21, .aload_n 0, 1, (0, 0, 0, 0)), (22, .getfield 273, 3, (13, 1323, 0, 0)), (25, .iconst 1, 1, (0, 0, 0, 0)), (26, .isub, 1, (0, 0, 0, 0)), (27, .invokestatic 202, 3, (0, 0, 0, 0)), (30, .ifCond .eq 12, 3, (0, 0, 0, 0)), (33, .iload_n 3, 1, (0, 0, 0, 0)), (34, .iconst 0, 1, (0, 0, 0, 0)), (35, .iconst 1, 1, (0, 0, 0, 0)), (36, .invokestatic 202, 3, (0, 0, 0, 0)), (39, .ifCond .ne 5, 3, (0, 0, 0, 0)), (42, .iconst (-1), 1, (0, 0, 0, 0)), (43, .ireturn, 1, (0, 0, 0, 0)), (44, .iload_n 3, 1, (0, 0, 0, 0)), (45, .ifCond .ne 16, 3, (0, 0, 0, 0)), (48, .aload_n 0, 1, (0, 0, 0, 0)), (49, .getfield 65, 3, (13, 1324, 2, 0)), (52, .iconst 3, 1, (0, 0, 0, 0)), (53, .iload_n 1, 1, (0, 0, 0, 0)), (54, .imul, 1, (0, 0, 0, 0)), (55, .iload_n 2, 1, (0, 0, 0, 0)), (56, .iadd, 1, (0, 0, 0, 0)), (57, .iaload, 1, (0, 0, 0, 0)), (58, .goto 13, 3, (0, 0, 0, 0)), (61, .aload_n 0, 1, (0, 0, 0, 0)), (62, .getfield 68, 3, (13, 1325, 2, 0)), (65, .iconst 3, 1, (0, 0, 0, 0)), (66, .iload_n 1, 1, (0, 0, 0, 0)), (67, .imul, 1, (0, 0, 0, 0)), (68, .iload_n 2, 1, (0, 0, 0, 0)), (69, .iadd, 1, (0, 0, 0, 0)), (70, .iaload, 1, (0, 0, 0, 0)), (71, .ireturn, 1, (0, 0, 0, 0))]
set_option maxRecDepth 100000 in
theorem tk_X12_story : TOK RX12 false cX12_story tb_X12_story := chkT_ok ft_X12 (by decide +kernel)
def mt_X12_story : List (Nat × Mt) := [(1617, 3, 0, 0, 1, sp_X12_within)]
theorem em_X12_story : mt_X12_story.lookup 1617 = some (3, 0, 0, 1, sp_X12_within) := rfl
theorem mk_X12_story : MOK RX12 mt_X12_story := by
  intro q hq
  simp only [mt_X12_story, List.mem_cons, List.not_mem_nil, or_false] at hq
  rcases hq with rfl
  · exact rw_X12_1617
noncomputable def xe_X12_story (ct : Nat → Bool) (K : Kt) (R : Option AV → Hp → Prop) (n : Nat) : Kt := exS 4 3 0 0 1 tb_X12_story mt_X12_story ct K R n
noncomputable def xk_X12_story (ct : Nat → Bool) (K : Kt) (R : Option AV → Hp → Prop) (n : Nat) : Kt := exkS 4 3 0 0 1 tb_X12_story mt_X12_story ct K R n
theorem xt_X12_story {ct : Nat → Bool} {K : Kt} {R : Option AV → Hp → Prop} {n pc : Nat} {ls : List (Option AV)} {st : List AV} {σ : Hp} {k : Nat × Nat} (h : ct pc = true) : xk_X12_story ct K R n pc ls st σ k = K pc ls st σ k := by unfold xk_X12_story exkS; rw [h]
theorem xf_X12_story {ct : Nat → Bool} {K : Kt} {R : Option AV → Hp → Prop} {n pc : Nat} {ls : List (Option AV)} {st : List AV} {σ : Hp} {k : Nat × Nat} (h : ct pc = false) : xk_X12_story ct K R n pc ls st σ k = xe_X12_story ct K R n pc ls st σ k := by unfold xk_X12_story exkS xe_X12_story; rw [h]
theorem ev_X12_story_0 {ct : Nat → Bool} {K : Kt} {R : Option AV → Hp → Prop} {n : Nat} {ls : List (Option AV)} {st : List AV} {σ : Hp} {k : Nat × Nat} : xe_X12_story ct K R (n + 1) 0 ls st σ k = (lR ls 0 fun x => xk_X12_story ct K R n 1 ls (vr x :: st) σ k) := exS_step.trans rfl
theorem ev_X12_story_1 {ct : Nat → Bool} {K : Kt} {R : Option AV → Hp → Prop} {n : Nat} {ls : List (Option AV)} {st : List AV} {σ : Hp} {k : Nat × Nat} : xe_X12_story ct K R (n + 1) 1 ls st σ k = (xk_X12_story ct K R n 2 ls (vi (0) :: st) σ k) := exS_step.trans rfl
theorem ev_X12_story_2 {ct : Nat → Bool} {K : Kt} {R : Option AV → Hp → Prop} {n : Nat} {ls : List (Option AV)} {st : List AV} {σ : Hp} {k : Nat × Nat} : xe_X12_story ct K R (n + 1) 2 ls st σ k = (oI st fun v st => oR st fun x st => kd σ x = 13 ∧ xk_X12_story ct K R n 5 ls st (pI σ 1300 x v) k) := exS_step.trans rfl
theorem ev_X12_story_5 {ct : Nat → Bool} {K : Kt} {R : Option AV → Hp → Prop} {n : Nat} {ls : List (Option AV)} {st : List AV} {σ : Hp} {k : Nat × Nat} : xe_X12_story ct K R (n + 1) 5 ls st σ k = (lI ls 1 fun x => xk_X12_story ct K R n 6 ls (vi x :: st) σ k) := exS_step.trans rfl
theorem ev_X12_story_6 {ct : Nat → Bool} {K : Kt} {R : Option AV → Hp → Prop} {n : Nat} {ls : List (Option AV)} {st : List AV} {σ : Hp} {k : Nat × Nat} : xe_X12_story ct K R (n + 1) 6 ls st σ k = (xk_X12_story ct K R n 7 ls (vi (0) :: st) σ k) := exS_step.trans rfl
theorem ev_X12_story_7 {ct : Nat → Bool} {K : Kt} {R : Option AV → Hp → Prop} {n : Nat} {ls : List (Option AV)} {st : List AV} {σ : Hp} {k : Nat × Nat} : xe_X12_story ct K R (n + 1) 7 ls st σ k = (lR ls 0 fun x => xk_X12_story ct K R n 8 ls (vr x :: st) σ k) := exS_step.trans rfl
theorem ev_X12_story_8 {ct : Nat → Bool} {K : Kt} {R : Option AV → Hp → Prop} {n : Nat} {ls : List (Option AV)} {st : List AV} {σ : Hp} {k : Nat × Nat} : xe_X12_story ct K R (n + 1) 8 ls st σ k = (oR st fun x st => kd σ x = 13 ∧ xk_X12_story ct K R n 11 ls (vi (fI σ 1322 x) :: st) σ k) := exS_step.trans rfl
theorem ev_X12_story_11 {ct : Nat → Bool} {K : Kt} {R : Option AV → Hp → Prop} {n : Nat} {ls : List (Option AV)} {st : List AV} {σ : Hp} {k : Nat × Nat} : xe_X12_story ct K R (n + 1) 11 ls st σ k = (xk_X12_story ct K R n 12 ls (vi (1) :: st) σ k) := exS_step.trans rfl
theorem ev_X12_story_12 {ct : Nat → Bool} {K : Kt} {R : Option AV → Hp → Prop} {n : Nat} {ls : List (Option AV)} {st : List AV} {σ : Hp} {k : Nat × Nat} : xe_X12_story ct K R (n + 1) 12 ls st σ k = (oI st fun y st => oI st fun x st => xk_X12_story ct K R n 13 ls (vi (x - y) :: st) σ k) := exS_step.trans rfl
theorem ev_X12_story_13 {ct : Nat → Bool} {K : Kt} {R : Option AV → Hp → Prop} {n : Nat} {ls : List (Option AV)} {st : List AV} {σ : Hp} {k : Nat × Nat} : xe_X12_story ct K R (n + 1) 13 ls st σ k = (popN 3 st [] fun av rest => (catS rest ≤ 8 ∧ 1 < 3 ∧ k.1 + 0 ≤ 0 ∧ k.2 + 0 ≤ 0) ∧ (sp_X12_within) av σ fun v σ' => xk_X12_story ct K R n 16 ls (v.toList ++ rest) σ' (k.1 + 0, k.2 + 0)) := exS_step.trans rfl
theorem ev_X12_story_16 {ct : Nat → Bool} {K : Kt} {R : Option AV → Hp → Prop} {n : Nat} {ls : List (Option AV)} {st : List AV} {σ : Hp} {k : Nat × Nat} : xe_X12_story ct K R (n + 1) 16 ls st σ k = (oI st fun x st => (wI x = wI 0 → xk_X12_story ct K R n 42 ls st σ k) ∧ (¬ (wI x = wI 0) → xk_X12_story ct K R n 19 ls st σ k)) := exS_step.trans rfl
theorem ev_X12_story_19 {ct : Nat → Bool} {K : Kt} {R : Option AV → Hp → Prop} {n : Nat} {ls : List (Option AV)} {st : List AV} {σ : Hp} {k : Nat × Nat} : xe_X12_story ct K R (n + 1) 19 ls st σ k = (lI ls 2 fun x => xk_X12_story ct K R n 20 ls (vi x :: st) σ k) := exS_step.trans rfl
theorem ev_X12_story_20 {ct : Nat → Bool} {K : Kt} {R : Option AV → Hp → Prop} {n : Nat} {ls : List (Option AV)} {st : List AV} {σ : Hp} {k : Nat × Nat} : xe_X12_story ct K R (n + 1) 20 ls st σ k = (xk_X12_story ct K R n 21 ls (vi (0) :: st) σ k) := exS_step.trans rfl
theorem ev_X12_story_21 {ct : Nat → Bool} {K : Kt} {R : Option AV → Hp → Prop} {n : Nat} {ls : List (Option AV)} {st : List AV} {σ : Hp} {k : Nat × Nat} : xe_X12_story ct K R (n + 1) 21 ls st σ k = (lR ls 0 fun x => xk_X12_story ct K R n 22 ls (vr x :: st) σ k) := exS_step.trans rfl
theorem ev_X12_story_22 {ct : Nat → Bool} {K : Kt} {R : Option AV → Hp → Prop} {n : Nat} {ls : List (Option AV)} {st : List AV} {σ : Hp} {k : Nat × Nat} : xe_X12_story ct K R (n + 1) 22 ls st σ k = (oR st fun x st => kd σ x = 13 ∧ xk_X12_story ct K R n 25 ls (vi (fI σ 1323 x) :: st) σ k) := exS_step.trans rfl
theorem ev_X12_story_25 {ct : Nat → Bool} {K : Kt} {R : Option AV → Hp → Prop} {n : Nat} {ls : List (Option AV)} {st : List AV} {σ : Hp} {k : Nat × Nat} : xe_X12_story ct K R (n + 1) 25 ls st σ k = (xk_X12_story ct K R n 26 ls (vi (1) :: st) σ k) := exS_step.trans rfl
theorem ev_X12_story_26 {ct : Nat → Bool} {K : Kt} {R : Option AV → Hp → Prop} {n : Nat} {ls : List (Option AV)} {st : List AV} {σ : Hp} {k : Nat × Nat} : xe_X12_story ct K R (n + 1) 26 ls st σ k = (oI st fun y st => oI st fun x st => xk_X12_story ct K R n 27 ls (vi (x - y) :: st) σ k) := exS_step.trans rfl
theorem ev_X12_story_27 {ct : Nat → Bool} {K : Kt} {R : Option AV → Hp → Prop} {n : Nat} {ls : List (Option AV)} {st : List AV} {σ : Hp} {k : Nat × Nat} : xe_X12_story ct K R (n + 1) 27 ls st σ k = (popN 3 st [] fun av rest => (catS rest ≤ 8 ∧ 1 < 3 ∧ k.1 + 0 ≤ 0 ∧ k.2 + 0 ≤ 0) ∧ (sp_X12_within) av σ fun v σ' => xk_X12_story ct K R n 30 ls (v.toList ++ rest) σ' (k.1 + 0, k.2 + 0)) := exS_step.trans rfl
theorem ev_X12_story_30 {ct : Nat → Bool} {K : Kt} {R : Option AV → Hp → Prop} {n : Nat} {ls : List (Option AV)} {st : List AV} {σ : Hp} {k : Nat × Nat} : xe_X12_story ct K R (n + 1) 30 ls st σ k = (oI st fun x st => (wI x = wI 0 → xk_X12_story ct K R n 42 ls st σ k) ∧ (¬ (wI x = wI 0) → xk_X12_story ct K R n 33 ls st σ k)) := exS_step.trans rfl
theorem ev_X12_story_33 {ct : Nat → Bool} {K : Kt} {R : Option AV → Hp → Prop} {n : Nat} {ls : List (Option AV)} {st : List AV} {σ : Hp} {k : Nat × Nat} : xe_X12_story ct K R (n + 1) 33 ls st σ k = (lI ls 3 fun x => xk_X12_story ct K R n 34 ls (vi x :: st) σ k) := exS_step.trans rfl
theorem ev_X12_story_34 {ct : Nat → Bool} {K : Kt} {R : Option AV → Hp → Prop} {n : Nat} {ls : List (Option AV)} {st : List AV} {σ : Hp} {k : Nat × Nat} : xe_X12_story ct K R (n + 1) 34 ls st σ k = (xk_X12_story ct K R n 35 ls (vi (0) :: st) σ k) := exS_step.trans rfl
theorem ev_X12_story_35 {ct : Nat → Bool} {K : Kt} {R : Option AV → Hp → Prop} {n : Nat} {ls : List (Option AV)} {st : List AV} {σ : Hp} {k : Nat × Nat} : xe_X12_story ct K R (n + 1) 35 ls st σ k = (xk_X12_story ct K R n 36 ls (vi (1) :: st) σ k) := exS_step.trans rfl
theorem ev_X12_story_36 {ct : Nat → Bool} {K : Kt} {R : Option AV → Hp → Prop} {n : Nat} {ls : List (Option AV)} {st : List AV} {σ : Hp} {k : Nat × Nat} : xe_X12_story ct K R (n + 1) 36 ls st σ k = (popN 3 st [] fun av rest => (catS rest ≤ 8 ∧ 1 < 3 ∧ k.1 + 0 ≤ 0 ∧ k.2 + 0 ≤ 0) ∧ (sp_X12_within) av σ fun v σ' => xk_X12_story ct K R n 39 ls (v.toList ++ rest) σ' (k.1 + 0, k.2 + 0)) := exS_step.trans rfl
theorem ev_X12_story_39 {ct : Nat → Bool} {K : Kt} {R : Option AV → Hp → Prop} {n : Nat} {ls : List (Option AV)} {st : List AV} {σ : Hp} {k : Nat × Nat} : xe_X12_story ct K R (n + 1) 39 ls st σ k = (oI st fun x st => (¬ wI x = wI 0 → xk_X12_story ct K R n 44 ls st σ k) ∧ (¬ (¬ wI x = wI 0) → xk_X12_story ct K R n 42 ls st σ k)) := exS_step.trans rfl
theorem ev_X12_story_42 {ct : Nat → Bool} {K : Kt} {R : Option AV → Hp → Prop} {n : Nat} {ls : List (Option AV)} {st : List AV} {σ : Hp} {k : Nat × Nat} : xe_X12_story ct K R (n + 1) 42 ls st σ k = (xk_X12_story ct K R n 43 ls (vi (-1) :: st) σ k) := exS_step.trans rfl
theorem ev_X12_story_43 {ct : Nat → Bool} {K : Kt} {R : Option AV → Hp → Prop} {n : Nat} {ls : List (Option AV)} {st : List AV} {σ : Hp} {k : Nat × Nat} : xe_X12_story ct K R (n + 1) 43 ls st σ k = (oI st fun x st => st = [] ∧ True ∧ R (some (vi x)) σ) := exS_step.trans rfl
theorem ev_X12_story_44 {ct : Nat → Bool} {K : Kt} {R : Option AV → Hp → Prop} {n : Nat} {ls : List (Option AV)} {st : List AV} {σ : Hp} {k : Nat × Nat} : xe_X12_story ct K R (n + 1) 44 ls st σ k = (lI ls 3 fun x => xk_X12_story ct K R n 45 ls (vi x :: st) σ k) := exS_step.trans rfl
theorem ev_X12_story_45 {ct : Nat → Bool} {K : Kt} {R : Option AV → Hp → Prop} {n : Nat} {ls : List (Option AV)} {st : List AV} {σ : Hp} {k : Nat × Nat} : xe_X12_story ct K R (n + 1) 45 ls st σ k = (oI st fun x st => (¬ wI x = wI 0 → xk_X12_story ct K R n 61 ls st σ k) ∧ (¬ (¬ wI x = wI 0) → xk_X12_story ct K R n 48 ls st σ k)) := exS_step.trans rfl
theorem ev_X12_story_48 {ct : Nat → Bool} {K : Kt} {R : Option AV → Hp → Prop} {n : Nat} {ls : List (Option AV)} {st : List AV} {σ : Hp} {k : Nat × Nat} : xe_X12_story ct K R (n + 1) 48 ls st σ k = (lR ls 0 fun x => xk_X12_story ct K R n 49 ls (vr x :: st) σ k) := exS_step.trans rfl
theorem ev_X12_story_49 {ct : Nat → Bool} {K : Kt} {R : Option AV → Hp → Prop} {n : Nat} {ls : List (Option AV)} {st : List AV} {σ : Hp} {k : Nat × Nat} : xe_X12_story ct K R (n + 1) 49 ls st σ k = (oR st fun x st => kd σ x = 13 ∧ xk_X12_story ct K R n 52 ls (vr (fR σ 1324 x) :: st) σ k) := exS_step.trans rfl
theorem ev_X12_story_52 {ct : Nat → Bool} {K : Kt} {R : Option AV → Hp → Prop} {n : Nat} {ls : List (Option AV)} {st : List AV} {σ : Hp} {k : Nat × Nat} : xe_X12_story ct K R (n + 1) 52 ls st σ k = (xk_X12_story ct K R n 53 ls (vi (3) :: st) σ k) := exS_step.trans rfl
theorem ev_X12_story_53 {ct : Nat → Bool} {K : Kt} {R : Option AV → Hp → Prop} {n : Nat} {ls : List (Option AV)} {st : List AV} {σ : Hp} {k : Nat × Nat} : xe_X12_story ct K R (n + 1) 53 ls st σ k = (lI ls 1 fun x => xk_X12_story ct K R n 54 ls (vi x :: st) σ k) := exS_step.trans rfl
theorem ev_X12_story_54 {ct : Nat → Bool} {K : Kt} {R : Option AV → Hp → Prop} {n : Nat} {ls : List (Option AV)} {st : List AV} {σ : Hp} {k : Nat × Nat} : xe_X12_story ct K R (n + 1) 54 ls st σ k = (oI st fun y st => oI st fun x st => xk_X12_story ct K R n 55 ls (vi (x * y) :: st) σ k) := exS_step.trans rfl
theorem ev_X12_story_55 {ct : Nat → Bool} {K : Kt} {R : Option AV → Hp → Prop} {n : Nat} {ls : List (Option AV)} {st : List AV} {σ : Hp} {k : Nat × Nat} : xe_X12_story ct K R (n + 1) 55 ls st σ k = (lI ls 2 fun x => xk_X12_story ct K R n 56 ls (vi x :: st) σ k) := exS_step.trans rfl
theorem ev_X12_story_56 {ct : Nat → Bool} {K : Kt} {R : Option AV → Hp → Prop} {n : Nat} {ls : List (Option AV)} {st : List AV} {σ : Hp} {k : Nat × Nat} : xe_X12_story ct K R (n + 1) 56 ls st σ k = (oI st fun y st => oI st fun x st => xk_X12_story ct K R n 57 ls (vi (x + y) :: st) σ k) := exS_step.trans rfl
theorem ev_X12_story_57 {ct : Nat → Bool} {K : Kt} {R : Option AV → Hp → Prop} {n : Nat} {ls : List (Option AV)} {st : List AV} {σ : Hp} {k : Nat × Nat} : xe_X12_story ct K R (n + 1) 57 ls st σ k = (oI st fun j st => oR st fun x st => (kd σ x = 101 ∨ kd σ x = 108) ∧ (0 ≤ j ∧ j < ln σ x) ∧ xk_X12_story ct K R n 58 ls (vi (aI σ x j) :: st) σ k) := exS_step.trans rfl
theorem ev_X12_story_58 {ct : Nat → Bool} {K : Kt} {R : Option AV → Hp → Prop} {n : Nat} {ls : List (Option AV)} {st : List AV} {σ : Hp} {k : Nat × Nat} : xe_X12_story ct K R (n + 1) 58 ls st σ k = (xk_X12_story ct K R n 71 ls st σ k) := exS_step.trans rfl
theorem ev_X12_story_61 {ct : Nat → Bool} {K : Kt} {R : Option AV → Hp → Prop} {n : Nat} {ls : List (Option AV)} {st : List AV} {σ : Hp} {k : Nat × Nat} : xe_X12_story ct K R (n + 1) 61 ls st σ k = (lR ls 0 fun x => xk_X12_story ct K R n 62 ls (vr x :: st) σ k) := exS_step.trans rfl
theorem ev_X12_story_62 {ct : Nat → Bool} {K : Kt} {R : Option AV → Hp → Prop} {n : Nat} {ls : List (Option AV)} {st : List AV} {σ : Hp} {k : Nat × Nat} : xe_X12_story ct K R (n + 1) 62 ls st σ k = (oR st fun x st => kd σ x = 13 ∧ xk_X12_story ct K R n 65 ls (vr (fR σ 1325 x) :: st) σ k) := exS_step.trans rfl
theorem ev_X12_story_65 {ct : Nat → Bool} {K : Kt} {R : Option AV → Hp → Prop} {n : Nat} {ls : List (Option AV)} {st : List AV} {σ : Hp} {k : Nat × Nat} : xe_X12_story ct K R (n + 1) 65 ls st σ k = (xk_X12_story ct K R n 66 ls (vi (3) :: st) σ k) := exS_step.trans rfl
theorem ev_X12_story_66 {ct : Nat → Bool} {K : Kt} {R : Option AV → Hp → Prop} {n : Nat} {ls : List (Option AV)} {st : List AV} {σ : Hp} {k : Nat × Nat} : xe_X12_story ct K R (n + 1) 66 ls st σ k = (lI ls 1 fun x => xk_X12_story ct K R n 67 ls (vi x :: st) σ k) := exS_step.trans rfl
theorem ev_X12_story_67 {ct : Nat → Bool} {K : Kt} {R : Option AV → Hp → Prop} {n : Nat} {ls : List (Option AV)} {st : List AV} {σ : Hp} {k : Nat × Nat} : xe_X12_story ct K R (n + 1) 67 ls st σ k = (oI st fun y st => oI st fun x st => xk_X12_story ct K R n 68 ls (vi (x * y) :: st) σ k) := exS_step.trans rfl
theorem ev_X12_story_68 {ct : Nat → Bool} {K : Kt} {R : Option AV → Hp → Prop} {n : Nat} {ls : List (Option AV)} {st : List AV} {σ : Hp} {k : Nat × Nat} : xe_X12_story ct K R (n + 1) 68 ls st σ k = (lI ls 2 fun x => xk_X12_story ct K R n 69 ls (vi x :: st) σ k) := exS_step.trans rfl
theorem ev_X12_story_69 {ct : Nat → Bool} {K : Kt} {R : Option AV → Hp → Prop} {n : Nat} {ls : List (Option AV)} {st : List AV} {σ : Hp} {k : Nat × Nat} : xe_X12_story ct K R (n + 1) 69 ls st σ k = (oI st fun y st => oI st fun x st => xk_X12_story ct K R n 70 ls (vi (x + y) :: st) σ k) := exS_step.trans rfl
theorem ev_X12_story_70 {ct : Nat → Bool} {K : Kt} {R : Option AV → Hp → Prop} {n : Nat} {ls : List (Option AV)} {st : List AV} {σ : Hp} {k : Nat × Nat} : xe_X12_story ct K R (n + 1) 70 ls st σ k = (oI st fun j st => oR st fun x st => (kd σ x = 101 ∨ kd σ x = 108) ∧ (0 ≤ j ∧ j < ln σ x) ∧ xk_X12_story ct K R n 71 ls (vi (aI σ x j) :: st) σ k) := exS_step.trans rfl
theorem ev_X12_story_71 {ct : Nat → Bool} {K : Kt} {R : Option AV → Hp → Prop} {n : Nat} {ls : List (Option AV)} {st : List AV} {σ : Hp} {k : Nat × Nat} : xe_X12_story ct K R (n + 1) 71 ls st σ k = (oI st fun x st => st = [] ∧ True ∧ R (some (vi x)) σ) := exS_step.trans rfl
def M_X12_story : Md := (yX12_story, cX12_story, 4, (some FieldType.int), 3, 0, 0, 1, false, tb_X12_story, mt_X12_story)
theorem mm_X12_story : MMOK M_X12_story := ⟨by decide +kernel, tk_X12_story, mk_X12_story, rfl, fun h => by cases h⟩
theorem go_X12_story {Q : Option AV → Hp → Prop} {ct : Nat → Bool} {pc : Nat} {ls : List (Option AV)} {st : List AV} {σ : Hp} {k : Nat × Nat} (n : Nat) (h : xe_X12_story ct (Go M_X12_story Q) Q n pc ls st σ k) : Go M_X12_story Q pc ls st σ k := Go.exS mm_X12_story h

set_option maxRecDepth 20000 in
theorem c_X12_story : Ct yX12_story cX12_story 4 ((some FieldType.int)) 3 0 0 sp_X12_story := by
  refine Ct.go (M := M_X12_story) mm_X12_story fun av σ Q h0 => ?_
  obtain ⟨this, i, j, w, rfl, hk, h⟩ := el_X12_story h0
  clear h0
  refine ⟨Nat.le_of_ble_eq_true rfl, ?_⟩
  show Go M_X12_story Q 0 [some (vr this), some (vi i), some (vi j), some (vi w)] [] σ (0, 0)
  obtain ⟨rfl, hI, hi, hj, hw, h1, h2⟩ := h
  have x1 := hI.storyCount_s
  have x2 := hI.storySize_s
  unfold inR at hi hj hw
  refine go_X12_story (ct := fun p => false) 60 ?_
  simp only [oI, oL, oR, o1, lI, lL, lR, popN, catS, gv, stL, stL2, swt, cnd, spObj, List.getElem?_cons_zero, List.getElem?_cons_succ, List.getD_cons_zero, List.getD_cons_succ, List.set_cons_zero, List.set_cons_succ, List.nil_append, List.cons_append, Option.toList, Bool.or_false, Bool.false_or, Bool.or_true, Bool.true_or, Nat.reduceBEq, Nat.reduceAdd, Nat.reduceLT, Nat.reduceLeDiff, Int.reduceAdd, Int.reduceToNat, true_and, and_true, Fin.isValue, Fin.val_zero, Fin.val_one, Fin.val_two, Fin.reduceFinMk, eq_self, Int.reduceNeg, imp_self, Nat.reduceMul, Nat.le_refl, not_true_eq_false, not_false_eq_true, List.getElem?_nil, reduceCtorEq, true_or, or_true, Classical.not_not, implies_true, or_self, wI_0, wI_1, wI_m1, b2i_w, b2i_eq0, b2i_eq1, b2i_bool, nor_self, nx_pI, kd_pI, ln_pI, fI_pI, fL_pI, fR_pI, aI_pI, aL_pI, aR_pI, nx_pL, kd_pL, ln_pL, fI_pL, fL_pL, fR_pL, aI_pL, aL_pL, aR_pL, nx_pR, kd_pR, ln_pR, fI_pR, fL_pR, fR_pR, aI_pR, aL_pR, aR_pR, nx_qI, kd_qI, ln_qI, fI_qI, fL_qI, fR_qI, aI_qI, aL_qI, aR_qI, nx_qL, kd_qL, ln_qL, fI_qL, fL_qL, fR_qL, aI_qL, aL_qL, aR_qL, nx_qR, kd_qR, ln_qR, fI_qR, fL_qR, fR_qR, aI_qR, aL_qR, aR_qR, nx_mk, kd_mk, ln_mk, fI_mk, fL_mk, fR_mk, aI_mk, aL_mk, aR_mk, false_and, and_false, if_false, if_true, and_self, Int.reduceEq, Nat.reduceEqDiff, ite_self, MLay_pI, MLay_pL, MLay_qI, MLay_qL, ev_X12_story_0, ev_X12_story_1, ev_X12_story_2, ev_X12_story_5, ev_X12_story_6, ev_X12_story_7, ev_X12_story_8, ev_X12_story_11, ev_X12_story_12, ev_X12_story_13, ev_X12_story_16, ev_X12_story_19, ev_X12_story_20, ev_X12_story_21, ev_X12_story_22, ev_X12_story_25, ev_X12_story_26, ev_X12_story_27, ev_X12_story_30, ev_X12_story_33, ev_X12_story_34, ev_X12_story_35, ev_X12_story_36, ev_X12_story_39, ev_X12_story_42, ev_X12_story_43, ev_X12_story_44, ev_X12_story_45, ev_X12_story_48, ev_X12_story_49, ev_X12_story_52, ev_X12_story_53, ev_X12_story_54, ev_X12_story_55, ev_X12_story_56, ev_X12_story_57, ev_X12_story_58, ev_X12_story_61, ev_X12_story_62, ev_X12_story_65, ev_X12_story_66, ev_X12_story_67, ev_X12_story_68, ev_X12_story_69, ev_X12_story_70, ev_X12_story_71, xt_X12_story, xf_X12_story, us_X12_within, hk, hI.lay.eqs]
  try simp (disch := omega) only [wI_id, dv_nn, rm_nn]
  repeat' (first | intro z | apply And.intro)
  all_goals try omega
  all_goals first
    | exact h2 (by omega)
    | (have h1 := h1 (by omega); rw [if_pos (by omega)] at h1; exact h1)
    | (have h1 := h1 (by omega); rw [if_neg (by omega)] at h1; exact h1)
