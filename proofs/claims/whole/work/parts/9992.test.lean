/-! the card reader: a test -/

set_option maxRecDepth 20000 in
theorem rt_10 {d : Nat} (hr : HR_X4_readTest d) {Q : Option AV → Hp → Prop} {σ : Hp} {dep z D p : Int} {L : Int → Int} {css : List (List Int)} {ss : List Int} (hS : RS L z D css ss p σ) (h0 : ¬ (isS L z p 60 ∨ isS L z p 61) → Q (some (vi 1)) σ) (h1 : isS L z p 60 ∨ isS L z p 61 → Go (M_X4_readTest d) Q 47 [some (vr 26), some (vi dep), some (vi (if isS L z p 60 then -4 else -5))] [] σ (0, 0)) : Go (M_X4_readTest d) Q 10 [some (vr 26), some (vi dep), none] [] σ (0, 0) := by
  obtain ⟨hk, hC, hX, hG, hT, hR, eL, ez, -⟩ := hS.fx
  have w36 : isS L z p 60 ∨ isS L z p 61 → Go (M_X4_readTest d) Q 36 [some (vr 26), some (vi dep), none] [vi (b2i (isS L z p 60))] σ (0, 0) := fun q => by
    have h1 := h1 q
    by_cases c : isS L z p 60
    · rw [if_pos c] at h1
      rw [b2i_t c]
      clear h0 hS hX hR hT
      refine go_X4_readTest hr (ct := fun p => p == 44 || p == 47) 10 ?_
      simp only [oI, oL, oR, o1, lI, lL, lR, popN, catS, gv, stL, stL2, swt, cnd, spObj, List.getElem?_cons_zero, List.getElem?_cons_succ, List.getD_cons_zero, List.getD_cons_succ, List.set_cons_zero, List.set_cons_succ, List.nil_append, List.cons_append, Option.toList, Bool.or_false, Bool.false_or, Bool.or_true, Bool.true_or, Nat.reduceBEq, Nat.reduceAdd, Nat.reduceLT, Nat.reduceLeDiff, Int.reduceAdd, Int.reduceToNat, true_and, and_true, Fin.isValue, Fin.val_zero, Fin.val_one, Fin.val_two, Fin.reduceFinMk, eq_self, Int.reduceNeg, imp_self, Nat.reduceMul, Nat.le_refl, not_true_eq_false, not_false_eq_true, List.getElem?_nil, reduceCtorEq, true_or, or_true, Classical.not_not, implies_true, or_self, wI_0, wI_1, wI_m1, b2i_w, b2i_eq0, b2i_eq1, b2i_bool, nor_self, nx_pI, kd_pI, ln_pI, fI_pI, fL_pI, fR_pI, aI_pI, aL_pI, aR_pI, nx_pL, kd_pL, ln_pL, fI_pL, fL_pL, fR_pL, aI_pL, aL_pL, aR_pL, nx_pR, kd_pR, ln_pR, fI_pR, fL_pR, fR_pR, aI_pR, aL_pR, aR_pR, nx_qI, kd_qI, ln_qI, fI_qI, fL_qI, fR_qI, aI_qI, aL_qI, aR_qI, nx_qL, kd_qL, ln_qL, fI_qL, fL_qL, fR_qL, aI_qL, aL_qL, aR_qL, nx_qR, kd_qR, ln_qR, fI_qR, fL_qR, fR_qR, aI_qR, aL_qR, aR_qR, nx_mk, kd_mk, ln_mk, fI_mk, fL_mk, fR_mk, aI_mk, aL_mk, aR_mk, false_and, and_false, if_false, if_true, and_self, Int.reduceEq, Nat.reduceEqDiff, ite_self, MLay_pI, MLay_pL, MLay_qI, MLay_qL, ev_X4_readTest_36, ev_X4_readTest_39, ev_X4_readTest_41, ev_X4_readTest_44, ev_X4_readTest_46, xt_X4_readTest, xf_X4_readTest, us_X4_isSign, us_X4_nextToken, us_X7_addStep]
      repeat' (first | intro z | apply And.intro)
      all_goals try omega
      all_goals try contradiction
      all_goals exact h1
    · rw [if_neg c] at h1
      rw [b2i_f c]
      clear h0 hS hX hR hT
      refine go_X4_readTest hr (ct := fun p => p == 39 || p == 47) 10 ?_
      simp only [oI, oL, oR, o1, lI, lL, lR, popN, catS, gv, stL, stL2, swt, cnd, spObj, List.getElem?_cons_zero, List.getElem?_cons_succ, List.getD_cons_zero, List.getD_cons_succ, List.set_cons_zero, List.set_cons_succ, List.nil_append, List.cons_append, Option.toList, Bool.or_false, Bool.false_or, Bool.or_true, Bool.true_or, Nat.reduceBEq, Nat.reduceAdd, Nat.reduceLT, Nat.reduceLeDiff, Int.reduceAdd, Int.reduceToNat, true_and, and_true, Fin.isValue, Fin.val_zero, Fin.val_one, Fin.val_two, Fin.reduceFinMk, eq_self, Int.reduceNeg, imp_self, Nat.reduceMul, Nat.le_refl, not_true_eq_false, not_false_eq_true, List.getElem?_nil, reduceCtorEq, true_or, or_true, Classical.not_not, implies_true, or_self, wI_0, wI_1, wI_m1, b2i_w, b2i_eq0, b2i_eq1, b2i_bool, nor_self, nx_pI, kd_pI, ln_pI, fI_pI, fL_pI, fR_pI, aI_pI, aL_pI, aR_pI, nx_pL, kd_pL, ln_pL, fI_pL, fL_pL, fR_pL, aI_pL, aL_pL, aR_pL, nx_pR, kd_pR, ln_pR, fI_pR, fL_pR, fR_pR, aI_pR, aL_pR, aR_pR, nx_qI, kd_qI, ln_qI, fI_qI, fL_qI, fR_qI, aI_qI, aL_qI, aR_qI, nx_qL, kd_qL, ln_qL, fI_qL, fL_qL, fR_qL, aI_qL, aL_qL, aR_qL, nx_qR, kd_qR, ln_qR, fI_qR, fL_qR, fR_qR, aI_qR, aL_qR, aR_qR, nx_mk, kd_mk, ln_mk, fI_mk, fL_mk, fR_mk, aI_mk, aL_mk, aR_mk, false_and, and_false, if_false, if_true, and_self, Int.reduceEq, Nat.reduceEqDiff, ite_self, MLay_pI, MLay_pL, MLay_qI, MLay_qL, ev_X4_readTest_36, ev_X4_readTest_39, ev_X4_readTest_41, ev_X4_readTest_44, ev_X4_readTest_46, xt_X4_readTest, xf_X4_readTest, us_X4_isSign, us_X4_nextToken, us_X7_addStep]
      repeat' (first | intro z | apply And.intro)
      all_goals try omega
      all_goals try contradiction
      all_goals exact h1
  have w30 : isS L z p 60 ∨ isS L z p 61 → Go (M_X4_readTest d) Q 30 [some (vr 26), some (vi dep), none] [] σ (0, 0) := fun q => by
    have w36 := w36 q
    clear h0 h1 hS
    refine go_X4_readTest hr (ct := fun p => p == 36) 10 ?_
    simp only [oI, oL, oR, o1, lI, lL, lR, popN, catS, gv, stL, stL2, swt, cnd, spObj, List.getElem?_cons_zero, List.getElem?_cons_succ, List.getD_cons_zero, List.getD_cons_succ, List.set_cons_zero, List.set_cons_succ, List.nil_append, List.cons_append, Option.toList, Bool.or_false, Bool.false_or, Bool.or_true, Bool.true_or, Nat.reduceBEq, Nat.reduceAdd, Nat.reduceLT, Nat.reduceLeDiff, Int.reduceAdd, Int.reduceToNat, true_and, and_true, Fin.isValue, Fin.val_zero, Fin.val_one, Fin.val_two, Fin.reduceFinMk, eq_self, Int.reduceNeg, imp_self, Nat.reduceMul, Nat.le_refl, not_true_eq_false, not_false_eq_true, List.getElem?_nil, reduceCtorEq, true_or, or_true, Classical.not_not, implies_true, or_self, wI_0, wI_1, wI_m1, b2i_w, b2i_eq0, b2i_eq1, b2i_bool, nor_self, nx_pI, kd_pI, ln_pI, fI_pI, fL_pI, fR_pI, aI_pI, aL_pI, aR_pI, nx_pL, kd_pL, ln_pL, fI_pL, fL_pL, fR_pL, aI_pL, aL_pL, aR_pL, nx_pR, kd_pR, ln_pR, fI_pR, fL_pR, fR_pR, aI_pR, aL_pR, aR_pR, nx_qI, kd_qI, ln_qI, fI_qI, fL_qI, fR_qI, aI_qI, aL_qI, aR_qI, nx_qL, kd_qL, ln_qL, fI_qL, fL_qL, fR_qL, aI_qL, aL_qL, aR_qL, nx_qR, kd_qR, ln_qR, fI_qR, fL_qR, fR_qR, aI_qR, aL_qR, aR_qR, nx_mk, kd_mk, ln_mk, fI_mk, fL_mk, fR_mk, aI_mk, aL_mk, aR_mk, false_and, and_false, if_false, if_true, and_self, Int.reduceEq, Nat.reduceEqDiff, ite_self, MLay_pI, MLay_pL, MLay_qI, MLay_qL, ev_X4_readTest_30, ev_X4_readTest_31, ev_X4_readTest_33, xt_X4_readTest, xf_X4_readTest, us_X4_isSign, us_X4_nextToken, us_X7_addStep, hC, hk, eL, ez]
    repeat' (first | intro z | apply And.intro)
    all_goals try omega
    all_goals try contradiction
    all_goals exact ⟨p, hR, w36⟩
  have w25 : ¬ isS L z p 60 → Go (M_X4_readTest d) Q 25 [some (vr 26), some (vi dep), none] [vi (b2i (isS L z p 61))] σ (0, 0) := fun q => by
    by_cases c : isS L z p 61
    · have w := w30 (Or.inr c)
      rw [b2i_t c]
      clear h0 h1 w36 w30 hS hX hR hT
      refine go_X4_readTest hr (ct := fun p => p == 28 || p == 30) 10 ?_
      simp only [oI, oL, oR, o1, lI, lL, lR, popN, catS, gv, stL, stL2, swt, cnd, spObj, List.getElem?_cons_zero, List.getElem?_cons_succ, List.getD_cons_zero, List.getD_cons_succ, List.set_cons_zero, List.set_cons_succ, List.nil_append, List.cons_append, Option.toList, Bool.or_false, Bool.false_or, Bool.or_true, Bool.true_or, Nat.reduceBEq, Nat.reduceAdd, Nat.reduceLT, Nat.reduceLeDiff, Int.reduceAdd, Int.reduceToNat, true_and, and_true, Fin.isValue, Fin.val_zero, Fin.val_one, Fin.val_two, Fin.reduceFinMk, eq_self, Int.reduceNeg, imp_self, Nat.reduceMul, Nat.le_refl, not_true_eq_false, not_false_eq_true, List.getElem?_nil, reduceCtorEq, true_or, or_true, Classical.not_not, implies_true, or_self, wI_0, wI_1, wI_m1, b2i_w, b2i_eq0, b2i_eq1, b2i_bool, nor_self, nx_pI, kd_pI, ln_pI, fI_pI, fL_pI, fR_pI, aI_pI, aL_pI, aR_pI, nx_pL, kd_pL, ln_pL, fI_pL, fL_pL, fR_pL, aI_pL, aL_pL, aR_pL, nx_pR, kd_pR, ln_pR, fI_pR, fL_pR, fR_pR, aI_pR, aL_pR, aR_pR, nx_qI, kd_qI, ln_qI, fI_qI, fL_qI, fR_qI, aI_qI, aL_qI, aR_qI, nx_qL, kd_qL, ln_qL, fI_qL, fL_qL, fR_qL, aI_qL, aL_qL, aR_qL, nx_qR, kd_qR, ln_qR, fI_qR, fL_qR, fR_qR, aI_qR, aL_qR, aR_qR, nx_mk, kd_mk, ln_mk, fI_mk, fL_mk, fR_mk, aI_mk, aL_mk, aR_mk, false_and, and_false, if_false, if_true, and_self, Int.reduceEq, Nat.reduceEqDiff, ite_self, MLay_pI, MLay_pL, MLay_qI, MLay_qL, ev_X4_readTest_25, xt_X4_readTest, xf_X4_readTest, us_X4_isSign, us_X4_nextToken, us_X7_addStep]
      repeat' (first | intro z | apply And.intro)
      all_goals try omega
      all_goals try contradiction
      all_goals exact w
    · have w := h0 (fun y => y.elim q c)
      rw [b2i_f c]
      clear h0 h1 w36 w30 hS hX hR hT
      refine go_X4_readTest hr (ct := fun p => p == 30) 10 ?_
      simp only [oI, oL, oR, o1, lI, lL, lR, popN, catS, gv, stL, stL2, swt, cnd, spObj, List.getElem?_cons_zero, List.getElem?_cons_succ, List.getD_cons_zero, List.getD_cons_succ, List.set_cons_zero, List.set_cons_succ, List.nil_append, List.cons_append, Option.toList, Bool.or_false, Bool.false_or, Bool.or_true, Bool.true_or, Nat.reduceBEq, Nat.reduceAdd, Nat.reduceLT, Nat.reduceLeDiff, Int.reduceAdd, Int.reduceToNat, true_and, and_true, Fin.isValue, Fin.val_zero, Fin.val_one, Fin.val_two, Fin.reduceFinMk, eq_self, Int.reduceNeg, imp_self, Nat.reduceMul, Nat.le_refl, not_true_eq_false, not_false_eq_true, List.getElem?_nil, reduceCtorEq, true_or, or_true, Classical.not_not, implies_true, or_self, wI_0, wI_1, wI_m1, b2i_w, b2i_eq0, b2i_eq1, b2i_bool, nor_self, nx_pI, kd_pI, ln_pI, fI_pI, fL_pI, fR_pI, aI_pI, aL_pI, aR_pI, nx_pL, kd_pL, ln_pL, fI_pL, fL_pL, fR_pL, aI_pL, aL_pL, aR_pL, nx_pR, kd_pR, ln_pR, fI_pR, fL_pR, fR_pR, aI_pR, aL_pR, aR_pR, nx_qI, kd_qI, ln_qI, fI_qI, fL_qI, fR_qI, aI_qI, aL_qI, aR_qI, nx_qL, kd_qL, ln_qL, fI_qL, fL_qL, fR_qL, aI_qL, aL_qL, aR_qL, nx_qR, kd_qR, ln_qR, fI_qR, fL_qR, fR_qR, aI_qR, aL_qR, aR_qR, nx_mk, kd_mk, ln_mk, fI_mk, fL_mk, fR_mk, aI_mk, aL_mk, aR_mk, false_and, and_false, if_false, if_true, and_self, Int.reduceEq, Nat.reduceEqDiff, ite_self, MLay_pI, MLay_pL, MLay_qI, MLay_qL, ev_X4_readTest_25, ev_X4_readTest_28, ev_X4_readTest_29, xt_X4_readTest, xf_X4_readTest, us_X4_isSign, us_X4_nextToken, us_X7_addStep]
      repeat' (first | intro z | apply And.intro)
      all_goals try omega
      all_goals try contradiction
      all_goals exact w
  have w16 : Go (M_X4_readTest d) Q 16 [some (vr 26), some (vi dep), none] [vi (b2i (isS L z p 60))] σ (0, 0) := by
    by_cases c : isS L z p 60
    · have w := w30 (Or.inl c)
      rw [b2i_t c]
      clear h0 h1 w36 w30 w25 hS hX hR hT
      refine go_X4_readTest hr (ct := fun p => p == 19 || p == 30) 10 ?_
      simp only [oI, oL, oR, o1, lI, lL, lR, popN, catS, gv, stL, stL2, swt, cnd, spObj, List.getElem?_cons_zero, List.getElem?_cons_succ, List.getD_cons_zero, List.getD_cons_succ, List.set_cons_zero, List.set_cons_succ, List.nil_append, List.cons_append, Option.toList, Bool.or_false, Bool.false_or, Bool.or_true, Bool.true_or, Nat.reduceBEq, Nat.reduceAdd, Nat.reduceLT, Nat.reduceLeDiff, Int.reduceAdd, Int.reduceToNat, true_and, and_true, Fin.isValue, Fin.val_zero, Fin.val_one, Fin.val_two, Fin.reduceFinMk, eq_self, Int.reduceNeg, imp_self, Nat.reduceMul, Nat.le_refl, not_true_eq_false, not_false_eq_true, List.getElem?_nil, reduceCtorEq, true_or, or_true, Classical.not_not, implies_true, or_self, wI_0, wI_1, wI_m1, b2i_w, b2i_eq0, b2i_eq1, b2i_bool, nor_self, nx_pI, kd_pI, ln_pI, fI_pI, fL_pI, fR_pI, aI_pI, aL_pI, aR_pI, nx_pL, kd_pL, ln_pL, fI_pL, fL_pL, fR_pL, aI_pL, aL_pL, aR_pL, nx_pR, kd_pR, ln_pR, fI_pR, fL_pR, fR_pR, aI_pR, aL_pR, aR_pR, nx_qI, kd_qI, ln_qI, fI_qI, fL_qI, fR_qI, aI_qI, aL_qI, aR_qI, nx_qL, kd_qL, ln_qL, fI_qL, fL_qL, fR_qL, aI_qL, aL_qL, aR_qL, nx_qR, kd_qR, ln_qR, fI_qR, fL_qR, fR_qR, aI_qR, aL_qR, aR_qR, nx_mk, kd_mk, ln_mk, fI_mk, fL_mk, fR_mk, aI_mk, aL_mk, aR_mk, false_and, and_false, if_false, if_true, and_self, Int.reduceEq, Nat.reduceEqDiff, ite_self, MLay_pI, MLay_pL, MLay_qI, MLay_qL, ev_X4_readTest_16, xt_X4_readTest, xf_X4_readTest, us_X4_isSign, us_X4_nextToken, us_X7_addStep]
      repeat' (first | intro z | apply And.intro)
      all_goals try omega
      all_goals try contradiction
      all_goals exact w
    · have w := w25 c
      rw [b2i_f c]
      clear h0 h1 w36 w30 w25 hS hX hT
      refine go_X4_readTest hr (ct := fun p => p == 25 || p == 30) 10 ?_
      simp only [oI, oL, oR, o1, lI, lL, lR, popN, catS, gv, stL, stL2, swt, cnd, spObj, List.getElem?_cons_zero, List.getElem?_cons_succ, List.getD_cons_zero, List.getD_cons_succ, List.set_cons_zero, List.set_cons_succ, List.nil_append, List.cons_append, Option.toList, Bool.or_false, Bool.false_or, Bool.or_true, Bool.true_or, Nat.reduceBEq, Nat.reduceAdd, Nat.reduceLT, Nat.reduceLeDiff, Int.reduceAdd, Int.reduceToNat, true_and, and_true, Fin.isValue, Fin.val_zero, Fin.val_one, Fin.val_two, Fin.reduceFinMk, eq_self, Int.reduceNeg, imp_self, Nat.reduceMul, Nat.le_refl, not_true_eq_false, not_false_eq_true, List.getElem?_nil, reduceCtorEq, true_or, or_true, Classical.not_not, implies_true, or_self, wI_0, wI_1, wI_m1, b2i_w, b2i_eq0, b2i_eq1, b2i_bool, nor_self, nx_pI, kd_pI, ln_pI, fI_pI, fL_pI, fR_pI, aI_pI, aL_pI, aR_pI, nx_pL, kd_pL, ln_pL, fI_pL, fL_pL, fR_pL, aI_pL, aL_pL, aR_pL, nx_pR, kd_pR, ln_pR, fI_pR, fL_pR, fR_pR, aI_pR, aL_pR, aR_pR, nx_qI, kd_qI, ln_qI, fI_qI, fL_qI, fR_qI, aI_qI, aL_qI, aR_qI, nx_qL, kd_qL, ln_qL, fI_qL, fL_qL, fR_qL, aI_qL, aL_qL, aR_qL, nx_qR, kd_qR, ln_qR, fI_qR, fL_qR, fR_qR, aI_qR, aL_qR, aR_qR, nx_mk, kd_mk, ln_mk, fI_mk, fL_mk, fR_mk, aI_mk, aL_mk, aR_mk, false_and, and_false, if_false, if_true, and_self, Int.reduceEq, Nat.reduceEqDiff, ite_self, MLay_pI, MLay_pL, MLay_qI, MLay_qL, ev_X4_readTest_16, ev_X4_readTest_19, ev_X4_readTest_20, ev_X4_readTest_22, xt_X4_readTest, xf_X4_readTest, us_X4_isSign, us_X4_nextToken, us_X7_addStep, hC, hk, eL, ez]
      repeat' (first | intro z | apply And.intro)
      all_goals try omega
      all_goals try contradiction
      all_goals exact ⟨p, hR, w⟩
  clear h0 h1 w36 w30 w25 hS hX hT
  refine go_X4_readTest hr (ct := fun p => p == 16) 10 ?_
  simp only [oI, oL, oR, o1, lI, lL, lR, popN, catS, gv, stL, stL2, swt, cnd, spObj, List.getElem?_cons_zero, List.getElem?_cons_succ, List.getD_cons_zero, List.getD_cons_succ, List.set_cons_zero, List.set_cons_succ, List.nil_append, List.cons_append, Option.toList, Bool.or_false, Bool.false_or, Bool.or_true, Bool.true_or, Nat.reduceBEq, Nat.reduceAdd, Nat.reduceLT, Nat.reduceLeDiff, Int.reduceAdd, Int.reduceToNat, true_and, and_true, Fin.isValue, Fin.val_zero, Fin.val_one, Fin.val_two, Fin.reduceFinMk, eq_self, Int.reduceNeg, imp_self, Nat.reduceMul, Nat.le_refl, not_true_eq_false, not_false_eq_true, List.getElem?_nil, reduceCtorEq, true_or, or_true, Classical.not_not, implies_true, or_self, wI_0, wI_1, wI_m1, b2i_w, b2i_eq0, b2i_eq1, b2i_bool, nor_self, nx_pI, kd_pI, ln_pI, fI_pI, fL_pI, fR_pI, aI_pI, aL_pI, aR_pI, nx_pL, kd_pL, ln_pL, fI_pL, fL_pL, fR_pL, aI_pL, aL_pL, aR_pL, nx_pR, kd_pR, ln_pR, fI_pR, fL_pR, fR_pR, aI_pR, aL_pR, aR_pR, nx_qI, kd_qI, ln_qI, fI_qI, fL_qI, fR_qI, aI_qI, aL_qI, aR_qI, nx_qL, kd_qL, ln_qL, fI_qL, fL_qL, fR_qL, aI_qL, aL_qL, aR_qL, nx_qR, kd_qR, ln_qR, fI_qR, fL_qR, fR_qR, aI_qR, aL_qR, aR_qR, nx_mk, kd_mk, ln_mk, fI_mk, fL_mk, fR_mk, aI_mk, aL_mk, aR_mk, false_and, and_false, if_false, if_true, and_self, Int.reduceEq, Nat.reduceEqDiff, ite_self, MLay_pI, MLay_pL, MLay_qI, MLay_qL, ev_X4_readTest_10, ev_X4_readTest_11, ev_X4_readTest_13, xt_X4_readTest, xf_X4_readTest, us_X4_isSign, us_X4_nextToken, us_X7_addStep, hC, hk, eL, ez]
  repeat' (first | intro z | apply And.intro)
  all_goals try omega
  all_goals try contradiction
  all_goals exact ⟨p, hR, w16⟩

set_option maxRecDepth 20000 in
theorem rt_47 {d : Nat} (hr : HR_X4_readTest d) {Q : Option AV → Hp → Prop} {σ : Hp} {dep z D p v : Int} {L : Int → Int} {css : List (List Int)} {ss : List Int} (hS : RS L z D css ss p σ) (hd : 0 < d ∧ dep + d = 6 ∧ 0 ≤ dep) (hc : cntS css ss ≤ tE L z p) (n : Nat) (hn : 8 * (z - tE L z p) + 2 ≤ n) (h0 : (pp L z n 1 dep (a0 (tE L z p))).1 ≠ 0 → ∀ σ', RF D σ σ' → fI σ' 507 26 = (pp L z n 1 dep (a0 (tE L z p))).1 → Q (some (vi 0)) σ') (h1 : (pp L z n 1 dep (a0 (tE L z p))).1 = 0 → ∀ σ', RF D σ σ' → RS L z D css (ss ++ (pp L z n 1 dep (a0 (tE L z p))).2.2.2.1) (pp L z n 1 dep (a0 (tE L z p))).2.1 σ' → Go (M_X4_readTest d) Q 61 [some (vr 26), some (vi dep), some (vi v)] [] σ' (0, 0)) : Go (M_X4_readTest d) Q 47 [some (vr 26), some (vi dep), some (vi v)] [] σ (0, 0) := by
  obtain ⟨hk, hC, hX, hG, hT, hR, eL, ez, hD, hO, hkD, hp, hz, r1, r2, r3, r4⟩ := hS.fx
  have ht := tok_in L hp.2
  have w51 : ∀ σ', Fz tkF noR noR σ σ' → RD σ' (tE L z p) → Go (M_X4_readTest d) Q 51 [some (vr 26), some (vi dep), some (vi v)] [] σ' (0, 0) := fun σ' y1 y2 => by
    have S2 := hS.nx y1 y2
    have y3 : RF D σ σ' := Fz_rd y1
    obtain ⟨hk2, -⟩ := S2.fx
    have g0 : (pp L z n 1 dep (a0 (tE L z p))).1 ≠ 0 → ∀ σ'', RF D σ' σ'' → fI σ'' 507 26 = (pp L z n 1 dep (a0 (tE L z p))).1 → Go (M_X4_readTest d) Q 56 [some (vr 26), some (vi dep), some (vi v)] [vi 0] σ'' (0, 0) := fun q σ'' q1 q2 => by
      have h := h0 q σ'' (y3.tr q1) q2
      clear h0 h1 hS S2 hX hR hT hC hG q1 q2
      refine go_X4_readTest hr (ct := fun p => p == 61) 10 ?_
      simp only [oI, oL, oR, o1, lI, lL, lR, popN, catS, gv, stL, stL2, swt, cnd, spObj, List.getElem?_cons_zero, List.getElem?_cons_succ, List.getD_cons_zero, List.getD_cons_succ, List.set_cons_zero, List.set_cons_succ, List.nil_append, List.cons_append, Option.toList, Bool.or_false, Bool.false_or, Bool.or_true, Bool.true_or, Nat.reduceBEq, Nat.reduceAdd, Nat.reduceLT, Nat.reduceLeDiff, Int.reduceAdd, Int.reduceToNat, true_and, and_true, Fin.isValue, Fin.val_zero, Fin.val_one, Fin.val_two, Fin.reduceFinMk, eq_self, Int.reduceNeg, imp_self, Nat.reduceMul, Nat.le_refl, not_true_eq_false, not_false_eq_true, List.getElem?_nil, reduceCtorEq, true_or, or_true, Classical.not_not, implies_true, or_self, wI_0, wI_1, wI_m1, b2i_w, b2i_eq0, b2i_eq1, b2i_bool, nor_self, nx_pI, kd_pI, ln_pI, fI_pI, fL_pI, fR_pI, aI_pI, aL_pI, aR_pI, nx_pL, kd_pL, ln_pL, fI_pL, fL_pL, fR_pL, aI_pL, aL_pL, aR_pL, nx_pR, kd_pR, ln_pR, fI_pR, fL_pR, fR_pR, aI_pR, aL_pR, aR_pR, nx_qI, kd_qI, ln_qI, fI_qI, fL_qI, fR_qI, aI_qI, aL_qI, aR_qI, nx_qL, kd_qL, ln_qL, fI_qL, fL_qL, fR_qL, aI_qL, aL_qL, aR_qL, nx_qR, kd_qR, ln_qR, fI_qR, fL_qR, fR_qR, aI_qR, aL_qR, aR_qR, nx_mk, kd_mk, ln_mk, fI_mk, fL_mk, fR_mk, aI_mk, aL_mk, aR_mk, false_and, and_false, if_false, if_true, and_self, Int.reduceEq, Nat.reduceEqDiff, ite_self, MLay_pI, MLay_pL, MLay_qI, MLay_qL, ev_X4_readTest_56, ev_X4_readTest_59, ev_X4_readTest_60, xt_X4_readTest, xf_X4_readTest, us_X4_isSign, us_X4_nextToken, us_X7_addStep]
      repeat' (first | intro z | apply And.intro)
      all_goals try omega
      all_goals try contradiction
      all_goals exact h
    have g1 : (pp L z n 1 dep (a0 (tE L z p))).1 = 0 → ∀ σ'', RF D σ' σ'' → RS L z D css (ss ++ (pp L z n 1 dep (a0 (tE L z p))).2.2.2.1) (pp L z n 1 dep (a0 (tE L z p))).2.1 σ'' → Go (M_X4_readTest d) Q 56 [some (vr 26), some (vi dep), some (vi v)] [vi 1] σ'' (0, 0) := fun q σ'' q1 q2 => by
      have h := h1 q σ'' (y3.tr q1) q2
      clear h0 h1 hS S2 hX hR hT hC hG q1 q2 g0
      refine go_X4_readTest hr (ct := fun p => p == 59 || p == 61) 10 ?_
      simp only [oI, oL, oR, o1, lI, lL, lR, popN, catS, gv, stL, stL2, swt, cnd, spObj, List.getElem?_cons_zero, List.getElem?_cons_succ, List.getD_cons_zero, List.getD_cons_succ, List.set_cons_zero, List.set_cons_succ, List.nil_append, List.cons_append, Option.toList, Bool.or_false, Bool.false_or, Bool.or_true, Bool.true_or, Nat.reduceBEq, Nat.reduceAdd, Nat.reduceLT, Nat.reduceLeDiff, Int.reduceAdd, Int.reduceToNat, true_and, and_true, Fin.isValue, Fin.val_zero, Fin.val_one, Fin.val_two, Fin.reduceFinMk, eq_self, Int.reduceNeg, imp_self, Nat.reduceMul, Nat.le_refl, not_true_eq_false, not_false_eq_true, List.getElem?_nil, reduceCtorEq, true_or, or_true, Classical.not_not, implies_true, or_self, wI_0, wI_1, wI_m1, b2i_w, b2i_eq0, b2i_eq1, b2i_bool, nor_self, nx_pI, kd_pI, ln_pI, fI_pI, fL_pI, fR_pI, aI_pI, aL_pI, aR_pI, nx_pL, kd_pL, ln_pL, fI_pL, fL_pL, fR_pL, aI_pL, aL_pL, aR_pL, nx_pR, kd_pR, ln_pR, fI_pR, fL_pR, fR_pR, aI_pR, aL_pR, aR_pR, nx_qI, kd_qI, ln_qI, fI_qI, fL_qI, fR_qI, aI_qI, aL_qI, aR_qI, nx_qL, kd_qL, ln_qL, fI_qL, fL_qL, fR_qL, aI_qL, aL_qL, aR_qL, nx_qR, kd_qR, ln_qR, fI_qR, fL_qR, fR_qR, aI_qR, aL_qR, aR_qR, nx_mk, kd_mk, ln_mk, fI_mk, fL_mk, fR_mk, aI_mk, aL_mk, aR_mk, false_and, and_false, if_false, if_true, and_self, Int.reduceEq, Nat.reduceEqDiff, ite_self, MLay_pI, MLay_pL, MLay_qI, MLay_qL, ev_X4_readTest_56, ev_X4_readTest_59, ev_X4_readTest_60, xt_X4_readTest, xf_X4_readTest, us_X4_isSign, us_X4_nextToken, us_X7_addStep]
      repeat' (first | intro z | apply And.intro)
      all_goals try omega
      all_goals try contradiction
      all_goals exact h
    have hpre : RdPre d L z D css ss (tE L z p) dep σ' := ⟨S2, hd, hc⟩
    clear h0 h1 hS S2 hX hR hT hC hG y3 y1 y2
    refine go_X4_readTest hr (ct := fun p => p == 56) 10 ?_
    simp only [oI, oL, oR, o1, lI, lL, lR, popN, catS, gv, stL, stL2, swt, cnd, spObj, List.getElem?_cons_zero, List.getElem?_cons_succ, List.getD_cons_zero, List.getD_cons_succ, List.set_cons_zero, List.set_cons_succ, List.nil_append, List.cons_append, Option.toList, Bool.or_false, Bool.false_or, Bool.or_true, Bool.true_or, Nat.reduceBEq, Nat.reduceAdd, Nat.reduceLT, Nat.reduceLeDiff, Int.reduceAdd, Int.reduceToNat, true_and, and_true, Fin.isValue, Fin.val_zero, Fin.val_one, Fin.val_two, Fin.reduceFinMk, eq_self, Int.reduceNeg, imp_self, Nat.reduceMul, Nat.le_refl, not_true_eq_false, not_false_eq_true, List.getElem?_nil, reduceCtorEq, true_or, or_true, Classical.not_not, implies_true, or_self, wI_0, wI_1, wI_m1, b2i_w, b2i_eq0, b2i_eq1, b2i_bool, nor_self, nx_pI, kd_pI, ln_pI, fI_pI, fL_pI, fR_pI, aI_pI, aL_pI, aR_pI, nx_pL, kd_pL, ln_pL, fI_pL, fL_pL, fR_pL, aI_pL, aL_pL, aR_pL, nx_pR, kd_pR, ln_pR, fI_pR, fL_pR, fR_pR, aI_pR, aL_pR, aR_pR, nx_qI, kd_qI, ln_qI, fI_qI, fL_qI, fR_qI, aI_qI, aL_qI, aR_qI, nx_qL, kd_qL, ln_qL, fI_qL, fL_qL, fR_qL, aI_qL, aL_qL, aR_qL, nx_qR, kd_qR, ln_qR, fI_qR, fL_qR, fR_qR, aI_qR, aL_qR, aR_qR, nx_mk, kd_mk, ln_mk, fI_mk, fL_mk, fR_mk, aI_mk, aL_mk, aR_mk, false_and, and_false, if_false, if_true, and_self, Int.reduceEq, Nat.reduceEqDiff, ite_self, MLay_pI, MLay_pL, MLay_qI, MLay_qL, ev_X4_readTest_51, ev_X4_readTest_52, ev_X4_readTest_53, xt_X4_readTest, xf_X4_readTest, us_X4_isSign, us_X4_nextToken, us_X7_addStep, us_X4_readSum, RdPost, hk2]
    repeat' (first | intro z | apply And.intro)
    all_goals try omega
    all_goals try contradiction
    all_goals exact ⟨_, _, _, _, _, _, _, hpre, hn, g0, g1⟩
  have hb : 0 ≤ tE L z p ∧ tE L z p ≤ z := by omega
  have hlv := hd.1
  clear h0 h1 hS hX hR
  refine go_X4_readTest hr (ct := fun p => p == 51) 10 ?_
  simp only [oI, oL, oR, o1, lI, lL, lR, popN, catS, gv, stL, stL2, swt, cnd, spObj, List.getElem?_cons_zero, List.getElem?_cons_succ, List.getD_cons_zero, List.getD_cons_succ, List.set_cons_zero, List.set_cons_succ, List.nil_append, List.cons_append, Option.toList, Bool.or_false, Bool.false_or, Bool.or_true, Bool.true_or, Nat.reduceBEq, Nat.reduceAdd, Nat.reduceLT, Nat.reduceLeDiff, Int.reduceAdd, Int.reduceToNat, true_and, and_true, Fin.isValue, Fin.val_zero, Fin.val_one, Fin.val_two, Fin.reduceFinMk, eq_self, Int.reduceNeg, imp_self, Nat.reduceMul, Nat.le_refl, not_true_eq_false, not_false_eq_true, List.getElem?_nil, reduceCtorEq, true_or, or_true, Classical.not_not, implies_true, or_self, wI_0, wI_1, wI_m1, b2i_w, b2i_eq0, b2i_eq1, b2i_bool, nor_self, nx_pI, kd_pI, ln_pI, fI_pI, fL_pI, fR_pI, aI_pI, aL_pI, aR_pI, nx_pL, kd_pL, ln_pL, fI_pL, fL_pL, fR_pL, aI_pL, aL_pL, aR_pL, nx_pR, kd_pR, ln_pR, fI_pR, fL_pR, fR_pR, aI_pR, aL_pR, aR_pR, nx_qI, kd_qI, ln_qI, fI_qI, fL_qI, fR_qI, aI_qI, aL_qI, aR_qI, nx_qL, kd_qL, ln_qL, fI_qL, fL_qL, fR_qL, aI_qL, aL_qL, aR_qL, nx_qR, kd_qR, ln_qR, fI_qR, fL_qR, fR_qR, aI_qR, aL_qR, aR_qR, nx_mk, kd_mk, ln_mk, fI_mk, fL_mk, fR_mk, aI_mk, aL_mk, aR_mk, false_and, and_false, if_false, if_true, and_self, Int.reduceEq, Nat.reduceEqDiff, ite_self, MLay_pI, MLay_pL, MLay_qI, MLay_qL, ev_X4_readTest_47, ev_X4_readTest_48, xt_X4_readTest, xf_X4_readTest, us_X4_isSign, us_X4_nextToken, us_X7_addStep, hC, hk, hT, hG, r2, ez, hb]
  repeat' (first | intro z | apply And.intro)
  all_goals try omega
  all_goals try contradiction
  all_goals exact w51 _ ‹_› ‹_›

set_option maxRecDepth 20000 in
theorem rt_61 {d : Nat} (hr : HR_X4_readTest d) {Q : Option AV → Hp → Prop} {σ : Hp} {dep z D p v : Int} {L : Int → Int} {css : List (List Int)} {ss : List Int} (hS : RS L z D css ss p σ) (hd : 0 < d) (hc : cntS css ss < 1000) (h : Q (some (vi 1)) (cAdd σ D v)) : Go (M_X4_readTest d) Q 61 [some (vr 26), some (vi dep), some (vi v)] [] σ (0, 0) := by
  obtain ⟨hk, hC, -, -, -, -, -, -, hD, hO, hkD, -⟩ := hS.fx
  have hq := RdL.dr hS.1 hc (cnt_nn _ _)
  clear hS hC
  refine go_X4_readTest hr (ct := fun p => p == 200) 20 ?_
  simp only [oI, oL, oR, o1, lI, lL, lR, popN, catS, gv, stL, stL2, swt, cnd, spObj, List.getElem?_cons_zero, List.getElem?_cons_succ, List.getD_cons_zero, List.getD_cons_succ, List.set_cons_zero, List.set_cons_succ, List.nil_append, List.cons_append, Option.toList, Bool.or_false, Bool.false_or, Bool.or_true, Bool.true_or, Nat.reduceBEq, Nat.reduceAdd, Nat.reduceLT, Nat.reduceLeDiff, Int.reduceAdd, Int.reduceToNat, true_and, and_true, Fin.isValue, Fin.val_zero, Fin.val_one, Fin.val_two, Fin.reduceFinMk, eq_self, Int.reduceNeg, imp_self, Nat.reduceMul, Nat.le_refl, not_true_eq_false, not_false_eq_true, List.getElem?_nil, reduceCtorEq, true_or, or_true, Classical.not_not, implies_true, or_self, wI_0, wI_1, wI_m1, b2i_w, b2i_eq0, b2i_eq1, b2i_bool, nor_self, nx_pI, kd_pI, ln_pI, fI_pI, fL_pI, fR_pI, aI_pI, aL_pI, aR_pI, nx_pL, kd_pL, ln_pL, fI_pL, fL_pL, fR_pL, aI_pL, aL_pL, aR_pL, nx_pR, kd_pR, ln_pR, fI_pR, fL_pR, fR_pR, aI_pR, aL_pR, aR_pR, nx_qI, kd_qI, ln_qI, fI_qI, fL_qI, fR_qI, aI_qI, aL_qI, aR_qI, nx_qL, kd_qL, ln_qL, fI_qL, fL_qL, fR_qL, aI_qL, aL_qL, aR_qL, nx_qR, kd_qR, ln_qR, fI_qR, fL_qR, fR_qR, aI_qR, aL_qR, aR_qR, nx_mk, kd_mk, ln_mk, fI_mk, fL_mk, fR_mk, aI_mk, aL_mk, aR_mk, false_and, and_false, if_false, if_true, and_self, Int.reduceEq, Nat.reduceEqDiff, ite_self, MLay_pI, MLay_pL, MLay_qI, MLay_qL, ev_X4_readTest_61, ev_X4_readTest_62, ev_X4_readTest_65, ev_X4_readTest_66, ev_X4_readTest_69, ev_X4_readTest_70, xt_X4_readTest, xf_X4_readTest, us_X4_isSign, us_X4_nextToken, us_X7_addStep, hk, hD, hO, hkD, hq]
  repeat' (first | intro z | apply And.intro)
  all_goals try omega
  all_goals try contradiction
  all_goals exact h

set_option maxRecDepth 20000 in
theorem cr_X4_readTest {d : Nat} (hr : HR_X4_readTest d) : Ct yX4_readTest cX4_readTest 3 ((some FieldType.boolean)) (5*d+8) 0 0 (sp_X4_readTest d) := by
  refine Ct.go (M := M_X4_readTest d) (mm_X4_readTest hr) fun av σ Q h0 => ?_
  obtain ⟨this, dep, rfl, hk, h⟩ := el_X4_readTest d h0
  clear h0
  refine ⟨Nat.le_of_ble_eq_true rfl, ?_⟩
  show Go (M_X4_readTest d) Q 0 [some (vr this), some (vi dep), none] [] σ (0, 0)
  obtain ⟨rfl, L, z, D, css, ss, p, m, ⟨hS, hd, hcn⟩, hm, hQ⟩ := h
  obtain ⟨-, hC, -, -, -, -, -, -, -, -, -, hp, hz, -⟩ := hS.fx
  obtain ⟨m, rfl⟩ : ∃ k, m = k + 1 := ⟨m - 1, by omega⟩
  rw [pp_3] at hQ
  have pos := pp_pos L z m 1 dep (a0 p) hp.1 hp.2
  have pln := pp_len L z m 1 dep (a0 p) (by omega) hp.2 hp.1
  have eE : (a0 p).2.1 = p := rfl
  rw [eE] at pos pln
  have g0 : (pp L z m 1 dep (a0 p)).1 ≠ 0 → ∀ σ', RF D σ σ' → fI σ' 507 26 = (pp L z m 1 dep (a0 p)).1 → Go (M_X4_readTest d) Q 5 [some (vr 26), some (vi dep), none] [vi 0] σ' (0, 0) := fun q σ' q1 q2 => by
    rw [if_pos q] at hQ
    have h := hQ.1 q σ' q1 q2
    clear hQ hS hC q1 q2 pos pln
    refine go_X4_readTest hr (ct := fun p => p == 10) 10 ?_
    simp only [oI, oL, oR, o1, lI, lL, lR, popN, catS, gv, stL, stL2, swt, cnd, spObj, List.getElem?_cons_zero, List.getElem?_cons_succ, List.getD_cons_zero, List.getD_cons_succ, List.set_cons_zero, List.set_cons_succ, List.nil_append, List.cons_append, Option.toList, Bool.or_false, Bool.false_or, Bool.or_true, Bool.true_or, Nat.reduceBEq, Nat.reduceAdd, Nat.reduceLT, Nat.reduceLeDiff, Int.reduceAdd, Int.reduceToNat, true_and, and_true, Fin.isValue, Fin.val_zero, Fin.val_one, Fin.val_two, Fin.reduceFinMk, eq_self, Int.reduceNeg, imp_self, Nat.reduceMul, Nat.le_refl, not_true_eq_false, not_false_eq_true, List.getElem?_nil, reduceCtorEq, true_or, or_true, Classical.not_not, implies_true, or_self, wI_0, wI_1, wI_m1, b2i_w, b2i_eq0, b2i_eq1, b2i_bool, nor_self, nx_pI, kd_pI, ln_pI, fI_pI, fL_pI, fR_pI, aI_pI, aL_pI, aR_pI, nx_pL, kd_pL, ln_pL, fI_pL, fL_pL, fR_pL, aI_pL, aL_pL, aR_pL, nx_pR, kd_pR, ln_pR, fI_pR, fL_pR, fR_pR, aI_pR, aL_pR, aR_pR, nx_qI, kd_qI, ln_qI, fI_qI, fL_qI, fR_qI, aI_qI, aL_qI, aR_qI, nx_qL, kd_qL, ln_qL, fI_qL, fL_qL, fR_qL, aI_qL, aL_qL, aR_qL, nx_qR, kd_qR, ln_qR, fI_qR, fL_qR, fR_qR, aI_qR, aL_qR, aR_qR, nx_mk, kd_mk, ln_mk, fI_mk, fL_mk, fR_mk, aI_mk, aL_mk, aR_mk, false_and, and_false, if_false, if_true, and_self, Int.reduceEq, Nat.reduceEqDiff, ite_self, MLay_pI, MLay_pL, MLay_qI, MLay_qL, ev_X4_readTest_5, ev_X4_readTest_8, ev_X4_readTest_9, xt_X4_readTest, xf_X4_readTest, us_X4_isSign, us_X4_nextToken, us_X7_addStep]
    repeat' (first | intro z | apply And.intro)
    all_goals try omega
    all_goals try contradiction
    all_goals exact h
  have g1 : (pp L z m 1 dep (a0 p)).1 = 0 → ∀ σ', RF D σ σ' → RS L z D css (ss ++ (pp L z m 1 dep (a0 p)).2.2.2.1) (pp L z m 1 dep (a0 p)).2.1 σ' → Go (M_X4_readTest d) Q 5 [some (vr 26), some (vi dep), none] [vi 1] σ' (0, 0) := fun q σ' q1 q2 => by
    rw [if_neg (fun z => z q)] at hQ
    have pz := pos q
    have pl : lnSt (pp L z m 1 dep (a0 p)) ≤ _ := (pln q).2.1 rfl
    have w10 : Go (M_X4_readTest d) Q 10 [some (vr 26), some (vi dep), none] [] σ' (0, 0) := by
      generalize pp L z m 1 dep (a0 p) = r at *
      refine rt_10 hr q2 (fun c => ?_) (fun c => ?_)
      · rw [if_neg c] at hQ
        exact hQ.2 q σ' q1 q2
      · rw [if_pos c] at hQ
        have ht := tok_in L pz.2.1
        have ht2 := ht.2.2.2.2 (by rcases c with e | e <;> (rw [e.1]; decide))
        have h0E : 0 ≤ tE L z r.2.1 := by omega
        have pos2 := pp_pos L z m 1 dep (a0 (tE L z r.2.1)) h0E ht.2.2.2.1
        have pln2 := pp_len L z m 1 dep (a0 (tE L z r.2.1)) (by omega) ht.2.2.2.1 h0E
        have eE2 : (a0 (tE L z r.2.1)).2.1 = tE L z r.2.1 := rfl
        rw [eE2] at pos2 pln2
        have hcr : cntS css (ss ++ r.2.2.2.1) ≤ r.2.1 := by
          rw [cnt_app]
          unfold lnSt at pl
          omega
        refine rt_47 hr q2 hd (by omega) m (by omega) (fun e σ2 y1 y2 => ?_) (fun e σ2 y1 y2 => ?_)
        · rw [if_pos e] at hQ
          exact hQ.1 e σ2 (q1.tr y1) y2
        · rw [if_neg (fun z => z e)] at hQ
          have pz2 := pos2 e
          have pl2 : lnSt (pp L z m 1 dep (a0 (tE L z r.2.1))) ≤ _ := (pln2 e).2.1 rfl
          generalize pp L z m 1 dep (a0 (tE L z r.2.1)) = u at *
          have hcu : cntS css ((ss ++ r.2.2.2.1) ++ u.2.2.2.1) + 1 ≤ u.2.1 := by
            rw [cnt_app]
            unfold lnSt at pl2
            omega
          refine rt_61 hr y2 hd.1 (by omega) ?_
          have S3 := y2.add (by omega) (if isS L z r.2.1 60 then (-4 : Int) else -5)
          have eS : ss ++ (fTest L z r u).2.2.2.1 = ((ss ++ r.2.2.2.1) ++ u.2.2.2.1) ++ [if isS L z r.2.1 60 then (-4 : Int) else -5] := by
            show ss ++ (r.2.2.2.1 ++ (u.2.2.2.1 ++ [if isS L z r.2.1 60 then (-4 : Int) else -5])) = _
            rw [List.append_assoc, List.append_assoc]
          rw [← eS] at S3
          exact hQ.2 rfl _ ((q1.tr y1).tr (Fz_add σ2 D _)) S3
    clear hQ hS hC q1 q2 pos pln g0 pl
    refine go_X4_readTest hr (ct := fun p => p == 8 || p == 10) 10 ?_
    simp only [oI, oL, oR, o1, lI, lL, lR, popN, catS, gv, stL, stL2, swt, cnd, spObj, List.getElem?_cons_zero, List.getElem?_cons_succ, List.getD_cons_zero, List.getD_cons_succ, List.set_cons_zero, List.set_cons_succ, List.nil_append, List.cons_append, Option.toList, Bool.or_false, Bool.false_or, Bool.or_true, Bool.true_or, Nat.reduceBEq, Nat.reduceAdd, Nat.reduceLT, Nat.reduceLeDiff, Int.reduceAdd, Int.reduceToNat, true_and, and_true, Fin.isValue, Fin.val_zero, Fin.val_one, Fin.val_two, Fin.reduceFinMk, eq_self, Int.reduceNeg, imp_self, Nat.reduceMul, Nat.le_refl, not_true_eq_false, not_false_eq_true, List.getElem?_nil, reduceCtorEq, true_or, or_true, Classical.not_not, implies_true, or_self, wI_0, wI_1, wI_m1, b2i_w, b2i_eq0, b2i_eq1, b2i_bool, nor_self, nx_pI, kd_pI, ln_pI, fI_pI, fL_pI, fR_pI, aI_pI, aL_pI, aR_pI, nx_pL, kd_pL, ln_pL, fI_pL, fL_pL, fR_pL, aI_pL, aL_pL, aR_pL, nx_pR, kd_pR, ln_pR, fI_pR, fL_pR, fR_pR, aI_pR, aL_pR, aR_pR, nx_qI, kd_qI, ln_qI, fI_qI, fL_qI, fR_qI, aI_qI, aL_qI, aR_qI, nx_qL, kd_qL, ln_qL, fI_qL, fL_qL, fR_qL, aI_qL, aL_qL, aR_qL, nx_qR, kd_qR, ln_qR, fI_qR, fL_qR, fR_qR, aI_qR, aL_qR, aR_qR, nx_mk, kd_mk, ln_mk, fI_mk, fL_mk, fR_mk, aI_mk, aL_mk, aR_mk, false_and, and_false, if_false, if_true, and_self, Int.reduceEq, Nat.reduceEqDiff, ite_self, MLay_pI, MLay_pL, MLay_qI, MLay_qL, ev_X4_readTest_5, xt_X4_readTest, xf_X4_readTest, us_X4_isSign, us_X4_nextToken, us_X7_addStep]
    repeat' (first | intro z | apply And.intro)
    all_goals try omega
    all_goals try contradiction
    all_goals exact w10
  have hpre : RdPre d L z D css ss p dep σ := ⟨hS, hd, hcn⟩
  have hlv := hd.1
  have hm2 : 8 * (z - p) + 2 ≤ m := by omega
  clear hQ hS hC pos pln hm
  refine go_X4_readTest hr (ct := fun p => p == 5) 10 ?_
  simp only [oI, oL, oR, o1, lI, lL, lR, popN, catS, gv, stL, stL2, swt, cnd, spObj, List.getElem?_cons_zero, List.getElem?_cons_succ, List.getD_cons_zero, List.getD_cons_succ, List.set_cons_zero, List.set_cons_succ, List.nil_append, List.cons_append, Option.toList, Bool.or_false, Bool.false_or, Bool.or_true, Bool.true_or, Nat.reduceBEq, Nat.reduceAdd, Nat.reduceLT, Nat.reduceLeDiff, Int.reduceAdd, Int.reduceToNat, true_and, and_true, Fin.isValue, Fin.val_zero, Fin.val_one, Fin.val_two, Fin.reduceFinMk, eq_self, Int.reduceNeg, imp_self, Nat.reduceMul, Nat.le_refl, not_true_eq_false, not_false_eq_true, List.getElem?_nil, reduceCtorEq, true_or, or_true, Classical.not_not, implies_true, or_self, wI_0, wI_1, wI_m1, b2i_w, b2i_eq0, b2i_eq1, b2i_bool, nor_self, nx_pI, kd_pI, ln_pI, fI_pI, fL_pI, fR_pI, aI_pI, aL_pI, aR_pI, nx_pL, kd_pL, ln_pL, fI_pL, fL_pL, fR_pL, aI_pL, aL_pL, aR_pL, nx_pR, kd_pR, ln_pR, fI_pR, fL_pR, fR_pR, aI_pR, aL_pR, aR_pR, nx_qI, kd_qI, ln_qI, fI_qI, fL_qI, fR_qI, aI_qI, aL_qI, aR_qI, nx_qL, kd_qL, ln_qL, fI_qL, fL_qL, fR_qL, aI_qL, aL_qL, aR_qL, nx_qR, kd_qR, ln_qR, fI_qR, fL_qR, fR_qR, aI_qR, aL_qR, aR_qR, nx_mk, kd_mk, ln_mk, fI_mk, fL_mk, fR_mk, aI_mk, aL_mk, aR_mk, false_and, and_false, if_false, if_true, and_self, Int.reduceEq, Nat.reduceEqDiff, ite_self, MLay_pI, MLay_pL, MLay_qI, MLay_qL, ev_X4_readTest_0, ev_X4_readTest_1, ev_X4_readTest_2, xt_X4_readTest, xf_X4_readTest, us_X4_isSign, us_X4_nextToken, us_X7_addStep, us_X4_readSum, RdPost, hk]
  repeat' (first | intro z | apply And.intro)
  all_goals try omega
  all_goals try contradiction
  all_goals exact ⟨_, _, _, _, _, _, _, hpre, hm2, g0, g1⟩
