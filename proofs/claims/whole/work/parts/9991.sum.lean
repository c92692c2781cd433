/-! the card reader: a sum -/


set_option maxRecDepth 20000 in
theorem rs_h {d : Nat} (hr : HR_X4_readSum d) {Q : Option AV → Hp → Prop} {σ : Hp} {dep z D p i : Int} {L : Int → Int} {css : List (List Int)} {ss : List Int} {l3 : Option AV} (hS : RS L z D css ss p σ) (hi : 0 ≤ i ∧ i < 1000) (hj : isS L z p 43 ∨ isS L z p 45) (h : Go (M_X4_readSum d) Q 37 [some (vr 26), some (vi dep), some (vi i), l3] [] σ (0, 0)) : Go (M_X4_readSum d) Q 12 [some (vr 26), some (vi dep), some (vi i), l3] [] σ (0, 0) := by
  obtain ⟨hk, hC, hX, hG, hT, hR, eL, ez, hD, hO, hkD, hp, hz, r1, r2, r3, r4⟩ := hS.fx
  have w28 : ¬ isS L z p 43 → Go (M_X4_readSum d) Q 28 [some (vr 26), some (vi dep), some (vi i), l3] [] σ (0, 0) := fun c => by
    have c2 : isS L z p 45 := hj.resolve_left c
    have w34 : Go (M_X4_readSum d) Q 34 [some (vr 26), some (vi dep), some (vi i), l3] [vi (b2i (isS L z p 45))] σ (0, 0) := by
      rw [b2i_t c2]
      clear hS hX hR hT
      refine go_X4_readSum hr (ct := fun p => p == 37 || p == 82) 10 ?_
      simp only [oI, oL, oR, o1, lI, lL, lR, popN, catS, gv, stL, stL2, swt, cnd, spObj, List.getElem?_cons_zero, List.getElem?_cons_succ, List.getD_cons_zero, List.getD_cons_succ, List.set_cons_zero, List.set_cons_succ, List.nil_append, List.cons_append, Option.toList, Bool.or_false, Bool.false_or, Bool.or_true, Bool.true_or, Nat.reduceBEq, Nat.reduceAdd, Nat.reduceLT, Nat.reduceLeDiff, Int.reduceAdd, Int.reduceToNat, true_and, and_true, Fin.isValue, Fin.val_zero, Fin.val_one, Fin.val_two, Fin.reduceFinMk, eq_self, Int.reduceNeg, imp_self, Nat.reduceMul, Nat.le_refl, not_true_eq_false, not_false_eq_true, List.getElem?_nil, reduceCtorEq, true_or, or_true, Classical.not_not, implies_true, or_self, wI_0, wI_1, wI_m1, b2i_w, b2i_eq0, b2i_eq1, b2i_bool, nor_self, nx_pI, kd_pI, ln_pI, fI_pI, fL_pI, fR_pI, aI_pI, aL_pI, aR_pI, nx_pL, kd_pL, ln_pL, fI_pL, fL_pL, fR_pL, aI_pL, aL_pL, aR_pL, nx_pR, kd_pR, ln_pR, fI_pR, fL_pR, fR_pR, aI_pR, aL_pR, aR_pR, nx_qI, kd_qI, ln_qI, fI_qI, fL_qI, fR_qI, aI_qI, aL_qI, aR_qI, nx_qL, kd_qL, ln_qL, fI_qL, fL_qL, fR_qL, aI_qL, aL_qL, aR_qL, nx_qR, kd_qR, ln_qR, fI_qR, fL_qR, fR_qR, aI_qR, aL_qR, aR_qR, nx_mk, kd_mk, ln_mk, fI_mk, fL_mk, fR_mk, aI_mk, aL_mk, aR_mk, false_and, and_false, if_false, if_true, and_self, Int.reduceEq, Nat.reduceEqDiff, ite_self, MLay_pI, MLay_pL, MLay_qI, MLay_qL, ev_X4_readSum_34, xt_X4_readSum, xf_X4_readSum, us_X4_isSign, us_X4_nextToken, us_X7_addStep]
      repeat' (first | intro z | apply And.intro)
      all_goals try omega
      all_goals try contradiction
      all_goals exact h
    clear h hS
    refine go_X4_readSum hr (ct := fun p => p == 34) 10 ?_
    simp only [oI, oL, oR, o1, lI, lL, lR, popN, catS, gv, stL, stL2, swt, cnd, spObj, List.getElem?_cons_zero, List.getElem?_cons_succ, List.getD_cons_zero, List.getD_cons_succ, List.set_cons_zero, List.set_cons_succ, List.nil_append, List.cons_append, Option.toList, Bool.or_false, Bool.false_or, Bool.or_true, Bool.true_or, Nat.reduceBEq, Nat.reduceAdd, Nat.reduceLT, Nat.reduceLeDiff, Int.reduceAdd, Int.reduceToNat, true_and, and_true, Fin.isValue, Fin.val_zero, Fin.val_one, Fin.val_two, Fin.reduceFinMk, eq_self, Int.reduceNeg, imp_self, Nat.reduceMul, Nat.le_refl, not_true_eq_false, not_false_eq_true, List.getElem?_nil, reduceCtorEq, true_or, or_true, Classical.not_not, implies_true, or_self, wI_0, wI_1, wI_m1, b2i_w, b2i_eq0, b2i_eq1, b2i_bool, nor_self, nx_pI, kd_pI, ln_pI, fI_pI, fL_pI, fR_pI, aI_pI, aL_pI, aR_pI, nx_pL, kd_pL, ln_pL, fI_pL, fL_pL, fR_pL, aI_pL, aL_pL, aR_pL, nx_pR, kd_pR, ln_pR, fI_pR, fL_pR, fR_pR, aI_pR, aL_pR, aR_pR, nx_qI, kd_qI, ln_qI, fI_qI, fL_qI, fR_qI, aI_qI, aL_qI, aR_qI, nx_qL, kd_qL, ln_qL, fI_qL, fL_qL, fR_qL, aI_qL, aL_qL, aR_qL, nx_qR, kd_qR, ln_qR, fI_qR, fL_qR, fR_qR, aI_qR, aL_qR, aR_qR, nx_mk, kd_mk, ln_mk, fI_mk, fL_mk, fR_mk, aI_mk, aL_mk, aR_mk, false_and, and_false, if_false, if_true, and_self, Int.reduceEq, Nat.reduceEqDiff, ite_self, MLay_pI, MLay_pL, MLay_qI, MLay_qL, ev_X4_readSum_28, ev_X4_readSum_29, ev_X4_readSum_31, xt_X4_readSum, xf_X4_readSum, us_X4_isSign, us_X4_nextToken, us_X7_addStep, hC, hk, eL, ez]
    repeat' (first | intro z | apply And.intro)
    all_goals try omega
    all_goals try contradiction
    all_goals exact ⟨p, hR, w34⟩
  have w25 : Go (M_X4_readSum d) Q 25 [some (vr 26), some (vi dep), some (vi i), l3] [vi (b2i (isS L z p 43))] σ (0, 0) := by
    by_cases c : isS L z p 43
    · rw [b2i_t c]
      clear w28 hS hX hR hT
      refine go_X4_readSum hr (ct := fun p => p == 28 || p == 37) 10 ?_
      simp only [oI, oL, oR, o1, lI, lL, lR, popN, catS, gv, stL, stL2, swt, cnd, spObj, List.getElem?_cons_zero, List.getElem?_cons_succ, List.getD_cons_zero, List.getD_cons_succ, List.set_cons_zero, List.set_cons_succ, List.nil_append, List.cons_append, Option.toList, Bool.or_false, Bool.false_or, Bool.or_true, Bool.true_or, Nat.reduceBEq, Nat.reduceAdd, Nat.reduceLT, Nat.reduceLeDiff, Int.reduceAdd, Int.reduceToNat, true_and, and_true, Fin.isValue, Fin.val_zero, Fin.val_one, Fin.val_two, Fin.reduceFinMk, eq_self, Int.reduceNeg, imp_self, Nat.reduceMul, Nat.le_refl, not_true_eq_false, not_false_eq_true, List.getElem?_nil, reduceCtorEq, true_or, or_true, Classical.not_not, implies_true, or_self, wI_0, wI_1, wI_m1, b2i_w, b2i_eq0, b2i_eq1, b2i_bool, nor_self, nx_pI, kd_pI, ln_pI, fI_pI, fL_pI, fR_pI, aI_pI, aL_pI, aR_pI, nx_pL, kd_pL, ln_pL, fI_pL, fL_pL, fR_pL, aI_pL, aL_pL, aR_pL, nx_pR, kd_pR, ln_pR, fI_pR, fL_pR, fR_pR, aI_pR, aL_pR, aR_pR, nx_qI, kd_qI, ln_qI, fI_qI, fL_qI, fR_qI, aI_qI, aL_qI, aR_qI, nx_qL, kd_qL, ln_qL, fI_qL, fL_qL, fR_qL, aI_qL, aL_qL, aR_qL, nx_qR, kd_qR, ln_qR, fI_qR, fL_qR, fR_qR, aI_qR, aL_qR, aR_qR, nx_mk, kd_mk, ln_mk, fI_mk, fL_mk, fR_mk, aI_mk, aL_mk, aR_mk, false_and, and_false, if_false, if_true, and_self, Int.reduceEq, Nat.reduceEqDiff, ite_self, MLay_pI, MLay_pL, MLay_qI, MLay_qL, ev_X4_readSum_25, xt_X4_readSum, xf_X4_readSum, us_X4_isSign, us_X4_nextToken, us_X7_addStep]
      repeat' (first | intro z | apply And.intro)
      all_goals try omega
      all_goals try contradiction
      all_goals exact h
    · have w28 := w28 c
      rw [b2i_f c]
      clear h hS hX hR hT
      refine go_X4_readSum hr (ct := fun p => p == 28 || p == 37) 10 ?_
      simp only [oI, oL, oR, o1, lI, lL, lR, popN, catS, gv, stL, stL2, swt, cnd, spObj, List.getElem?_cons_zero, List.getElem?_cons_succ, List.getD_cons_zero, List.getD_cons_succ, List.set_cons_zero, List.set_cons_succ, List.nil_append, List.cons_append, Option.toList, Bool.or_false, Bool.false_or, Bool.or_true, Bool.true_or, Nat.reduceBEq, Nat.reduceAdd, Nat.reduceLT, Nat.reduceLeDiff, Int.reduceAdd, Int.reduceToNat, true_and, and_true, Fin.isValue, Fin.val_zero, Fin.val_one, Fin.val_two, Fin.reduceFinMk, eq_self, Int.reduceNeg, imp_self, Nat.reduceMul, Nat.le_refl, not_true_eq_false, not_false_eq_true, List.getElem?_nil, reduceCtorEq, true_or, or_true, Classical.not_not, implies_true, or_self, wI_0, wI_1, wI_m1, b2i_w, b2i_eq0, b2i_eq1, b2i_bool, nor_self, nx_pI, kd_pI, ln_pI, fI_pI, fL_pI, fR_pI, aI_pI, aL_pI, aR_pI, nx_pL, kd_pL, ln_pL, fI_pL, fL_pL, fR_pL, aI_pL, aL_pL, aR_pL, nx_pR, kd_pR, ln_pR, fI_pR, fL_pR, fR_pR, aI_pR, aL_pR, aR_pR, nx_qI, kd_qI, ln_qI, fI_qI, fL_qI, fR_qI, aI_qI, aL_qI, aR_qI, nx_qL, kd_qL, ln_qL, fI_qL, fL_qL, fR_qL, aI_qL, aL_qL, aR_qL, nx_qR, kd_qR, ln_qR, fI_qR, fL_qR, fR_qR, aI_qR, aL_qR, aR_qR, nx_mk, kd_mk, ln_mk, fI_mk, fL_mk, fR_mk, aI_mk, aL_mk, aR_mk, false_and, and_false, if_false, if_true, and_self, Int.reduceEq, Nat.reduceEqDiff, ite_self, MLay_pI, MLay_pL, MLay_qI, MLay_qL, ev_X4_readSum_25, xt_X4_readSum, xf_X4_readSum, us_X4_isSign, us_X4_nextToken, us_X7_addStep]
      repeat' (first | intro z | apply And.intro)
      all_goals try omega
      all_goals try contradiction
      all_goals exact w28
  clear h w28 hS
  refine go_X4_readSum hr (ct := fun p => p == 25 || p == 82) 10 ?_
  simp only [oI, oL, oR, o1, lI, lL, lR, popN, catS, gv, stL, stL2, swt, cnd, spObj, List.getElem?_cons_zero, List.getElem?_cons_succ, List.getD_cons_zero, List.getD_cons_succ, List.set_cons_zero, List.set_cons_succ, List.nil_append, List.cons_append, Option.toList, Bool.or_false, Bool.false_or, Bool.or_true, Bool.true_or, Nat.reduceBEq, Nat.reduceAdd, Nat.reduceLT, Nat.reduceLeDiff, Int.reduceAdd, Int.reduceToNat, true_and, and_true, Fin.isValue, Fin.val_zero, Fin.val_one, Fin.val_two, Fin.reduceFinMk, eq_self, Int.reduceNeg, imp_self, Nat.reduceMul, Nat.le_refl, not_true_eq_false, not_false_eq_true, List.getElem?_nil, reduceCtorEq, true_or, or_true, Classical.not_not, implies_true, or_self, wI_0, wI_1, wI_m1, b2i_w, b2i_eq0, b2i_eq1, b2i_bool, nor_self, nx_pI, kd_pI, ln_pI, fI_pI, fL_pI, fR_pI, aI_pI, aL_pI, aR_pI, nx_pL, kd_pL, ln_pL, fI_pL, fL_pL, fR_pL, aI_pL, aL_pL, aR_pL, nx_pR, kd_pR, ln_pR, fI_pR, fL_pR, fR_pR, aI_pR, aL_pR, aR_pR, nx_qI, kd_qI, ln_qI, fI_qI, fL_qI, fR_qI, aI_qI, aL_qI, aR_qI, nx_qL, kd_qL, ln_qL, fI_qL, fL_qL, fR_qL, aI_qL, aL_qL, aR_qL, nx_qR, kd_qR, ln_qR, fI_qR, fL_qR, fR_qR, aI_qR, aL_qR, aR_qR, nx_mk, kd_mk, ln_mk, fI_mk, fL_mk, fR_mk, aI_mk, aL_mk, aR_mk, false_and, and_false, if_false, if_true, and_self, Int.reduceEq, Nat.reduceEqDiff, ite_self, MLay_pI, MLay_pL, MLay_qI, MLay_qL, ev_X4_readSum_12, ev_X4_readSum_13, ev_X4_readSum_16, ev_X4_readSum_19, ev_X4_readSum_20, ev_X4_readSum_22, xt_X4_readSum, xf_X4_readSum, us_X4_isSign, us_X4_nextToken, us_X7_addStep, hC, hk, eL, ez]
  try simp (disch := omega) only [wI_id, dv_nn, rm_nn]
  repeat' (first | intro z | apply And.intro)
  all_goals try omega
  all_goals try contradiction
  all_goals exact ⟨p, hR, w25⟩

set_option maxRecDepth 20000 in
theorem rs_n {d : Nat} (hr : HR_X4_readSum d) {Q : Option AV → Hp → Prop} {σ : Hp} {dep z D p i : Int} {L : Int → Int} {css : List (List Int)} {ss : List Int} {l3 : Option AV} (hS : RS L z D css ss p σ) (hi : 0 ≤ i ∧ i ≤ 1000) (hj : ¬ (isS L z p 43 ∨ isS L z p 45)) (h : Q (some (vi 1)) σ) : Go (M_X4_readSum d) Q 12 [some (vr 26), some (vi dep), some (vi i), l3] [] σ (0, 0) := by
  obtain ⟨hk, hC, hX, hG, hT, hR, eL, ez, hD, hO, hkD, hp, hz, r1, r2, r3, r4⟩ := hS.fx
  have c1 : ¬ isS L z p 43 := fun q => hj (Or.inl q)
  have c2 : ¬ isS L z p 45 := fun q => hj (Or.inr q)
  have w82 : Go (M_X4_readSum d) Q 82 [some (vr 26), some (vi dep), some (vi i), l3] [] σ (0, 0) := by
    clear hS hX hR hT
    refine go_X4_readSum hr (ct := fun p => p == 200) 10 ?_
    simp only [oI, oL, oR, o1, lI, lL, lR, popN, catS, gv, stL, stL2, swt, cnd, spObj, List.getElem?_cons_zero, List.getElem?_cons_succ, List.getD_cons_zero, List.getD_cons_succ, List.set_cons_zero, List.set_cons_succ, List.nil_append, List.cons_append, Option.toList, Bool.or_false, Bool.false_or, Bool.or_true, Bool.true_or, Nat.reduceBEq, Nat.reduceAdd, Nat.reduceLT, Nat.reduceLeDiff, Int.reduceAdd, Int.reduceToNat, true_and, and_true, Fin.isValue, Fin.val_zero, Fin.val_one, Fin.val_two, Fin.reduceFinMk, eq_self, Int.reduceNeg, imp_self, Nat.reduceMul, Nat.le_refl, not_true_eq_false, not_false_eq_true, List.getElem?_nil, reduceCtorEq, true_or, or_true, Classical.not_not, implies_true, or_self, wI_0, wI_1, wI_m1, b2i_w, b2i_eq0, b2i_eq1, b2i_bool, nor_self, nx_pI, kd_pI, ln_pI, fI_pI, fL_pI, fR_pI, aI_pI, aL_pI, aR_pI, nx_pL, kd_pL, ln_pL, fI_pL, fL_pL, fR_pL, aI_pL, aL_pL, aR_pL, nx_pR, kd_pR, ln_pR, fI_pR, fL_pR, fR_pR, aI_pR, aL_pR, aR_pR, nx_qI, kd_qI, ln_qI, fI_qI, fL_qI, fR_qI, aI_qI, aL_qI, aR_qI, nx_qL, kd_qL, ln_qL, fI_qL, fL_qL, fR_qL, aI_qL, aL_qL, aR_qL, nx_qR, kd_qR, ln_qR, fI_qR, fL_qR, fR_qR, aI_qR, aL_qR, aR_qR, nx_mk, kd_mk, ln_mk, fI_mk, fL_mk, fR_mk, aI_mk, aL_mk, aR_mk, false_and, and_false, if_false, if_true, and_self, Int.reduceEq, Nat.reduceEqDiff, ite_self, MLay_pI, MLay_pL, MLay_qI, MLay_qL, ev_X4_readSum_82, ev_X4_readSum_83, xt_X4_readSum, xf_X4_readSum, us_X4_isSign, us_X4_nextToken, us_X7_addStep]
    repeat' (first | intro z | apply And.intro)
    all_goals try omega
    all_goals try contradiction
    all_goals exact h
  have w34 : Go (M_X4_readSum d) Q 34 [some (vr 26), some (vi dep), some (vi i), l3] [vi (b2i (isS L z p 45))] σ (0, 0) := by
    rw [b2i_f c2]
    clear hS hX hR hT h
    refine go_X4_readSum hr (ct := fun p => p == 37 || p == 82) 10 ?_
    simp only [oI, oL, oR, o1, lI, lL, lR, popN, catS, gv, stL, stL2, swt, cnd, spObj, List.getElem?_cons_zero, List.getElem?_cons_succ, List.getD_cons_zero, List.getD_cons_succ, List.set_cons_zero, List.set_cons_succ, List.nil_append, List.cons_append, Option.toList, Bool.or_false, Bool.false_or, Bool.or_true, Bool.true_or, Nat.reduceBEq, Nat.reduceAdd, Nat.reduceLT, Nat.reduceLeDiff, Int.reduceAdd, Int.reduceToNat, true_and, and_true, Fin.isValue, Fin.val_zero, Fin.val_one, Fin.val_two, Fin.reduceFinMk, eq_self, Int.reduceNeg, imp_self, Nat.reduceMul, Nat.le_refl, not_true_eq_false, not_false_eq_true, List.getElem?_nil, reduceCtorEq, true_or, or_true, Classical.not_not, implies_true, or_self, wI_0, wI_1, wI_m1, b2i_w, b2i_eq0, b2i_eq1, b2i_bool, nor_self, nx_pI, kd_pI, ln_pI, fI_pI, fL_pI, fR_pI, aI_pI, aL_pI, aR_pI, nx_pL, kd_pL, ln_pL, fI_pL, fL_pL, fR_pL, aI_pL, aL_pL, aR_pL, nx_pR, kd_pR, ln_pR, fI_pR, fL_pR, fR_pR, aI_pR, aL_pR, aR_pR, nx_qI, kd_qI, ln_qI, fI_qI, fL_qI, fR_qI, aI_qI, aL_qI, aR_qI, nx_qL, kd_qL, ln_qL, fI_qL, fL_qL, fR_qL, aI_qL, aL_qL, aR_qL, nx_qR, kd_qR, ln_qR, fI_qR, fL_qR, fR_qR, aI_qR, aL_qR, aR_qR, nx_mk, kd_mk, ln_mk, fI_mk, fL_mk, fR_mk, aI_mk, aL_mk, aR_mk, false_and, and_false, if_false, if_true, and_self, Int.reduceEq, Nat.reduceEqDiff, ite_self, MLay_pI, MLay_pL, MLay_qI, MLay_qL, ev_X4_readSum_34, xt_X4_readSum, xf_X4_readSum, us_X4_isSign, us_X4_nextToken, us_X7_addStep]
    repeat' (first | intro z | apply And.intro)
    all_goals try omega
    all_goals try contradiction
    all_goals exact w82
  have w28 : Go (M_X4_readSum d) Q 28 [some (vr 26), some (vi dep), some (vi i), l3] [] σ (0, 0) := by
    clear h hS w82
    refine go_X4_readSum hr (ct := fun p => p == 34) 10 ?_
    simp only [oI, oL, oR, o1, lI, lL, lR, popN, catS, gv, stL, stL2, swt, cnd, spObj, List.getElem?_cons_zero, List.getElem?_cons_succ, List.getD_cons_zero, List.getD_cons_succ, List.set_cons_zero, List.set_cons_succ, List.nil_append, List.cons_append, Option.toList, Bool.or_false, Bool.false_or, Bool.or_true, Bool.true_or, Nat.reduceBEq, Nat.reduceAdd, Nat.reduceLT, Nat.reduceLeDiff, Int.reduceAdd, Int.reduceToNat, true_and, and_true, Fin.isValue, Fin.val_zero, Fin.val_one, Fin.val_two, Fin.reduceFinMk, eq_self, Int.reduceNeg, imp_self, Nat.reduceMul, Nat.le_refl, not_true_eq_false, not_false_eq_true, List.getElem?_nil, reduceCtorEq, true_or, or_true, Classical.not_not, implies_true, or_self, wI_0, wI_1, wI_m1, b2i_w, b2i_eq0, b2i_eq1, b2i_bool, nor_self, nx_pI, kd_pI, ln_pI, fI_pI, fL_pI, fR_pI, aI_pI, aL_pI, aR_pI, nx_pL, kd_pL, ln_pL, fI_pL, fL_pL, fR_pL, aI_pL, aL_pL, aR_pL, nx_pR, kd_pR, ln_pR, fI_pR, fL_pR, fR_pR, aI_pR, aL_pR, aR_pR, nx_qI, kd_qI, ln_qI, fI_qI, fL_qI, fR_qI, aI_qI, aL_qI, aR_qI, nx_qL, kd_qL, ln_qL, fI_qL, fL_qL, fR_qL, aI_qL, aL_qL, aR_qL, nx_qR, kd_qR, ln_qR, fI_qR, fL_qR, fR_qR, aI_qR, aL_qR, aR_qR, nx_mk, kd_mk, ln_mk, fI_mk, fL_mk, fR_mk, aI_mk, aL_mk, aR_mk, false_and, and_false, if_false, if_true, and_self, Int.reduceEq, Nat.reduceEqDiff, ite_self, MLay_pI, MLay_pL, MLay_qI, MLay_qL, ev_X4_readSum_28, ev_X4_readSum_29, ev_X4_readSum_31, xt_X4_readSum, xf_X4_readSum, us_X4_isSign, us_X4_nextToken, us_X7_addStep, hC, hk, eL, ez]
    repeat' (first | intro z | apply And.intro)
    all_goals try omega
    all_goals try contradiction
    all_goals exact ⟨p, hR, w34⟩
  have w25 : Go (M_X4_readSum d) Q 25 [some (vr 26), some (vi dep), some (vi i), l3] [vi (b2i (isS L z p 43))] σ (0, 0) := by
    rw [b2i_f c1]
    clear h hS hX hR hT w82 w34
    refine go_X4_readSum hr (ct := fun p => p == 28 || p == 37) 10 ?_
    simp only [oI, oL, oR, o1, lI, lL, lR, popN, catS, gv, stL, stL2, swt, cnd, spObj, List.getElem?_cons_zero, List.getElem?_cons_succ, List.getD_cons_zero, List.getD_cons_succ, List.set_cons_zero, List.set_cons_succ, List.nil_append, List.cons_append, Option.toList, Bool.or_false, Bool.false_or, Bool.or_true, Bool.true_or, Nat.reduceBEq, Nat.reduceAdd, Nat.reduceLT, Nat.reduceLeDiff, Int.reduceAdd, Int.reduceToNat, true_and, and_true, Fin.isValue, Fin.val_zero, Fin.val_one, Fin.val_two, Fin.reduceFinMk, eq_self, Int.reduceNeg, imp_self, Nat.reduceMul, Nat.le_refl, not_true_eq_false, not_false_eq_true, List.getElem?_nil, reduceCtorEq, true_or, or_true, Classical.not_not, implies_true, or_self, wI_0, wI_1, wI_m1, b2i_w, b2i_eq0, b2i_eq1, b2i_bool, nor_self, nx_pI, kd_pI, ln_pI, fI_pI, fL_pI, fR_pI, aI_pI, aL_pI, aR_pI, nx_pL, kd_pL, ln_pL, fI_pL, fL_pL, fR_pL, aI_pL, aL_pL, aR_pL, nx_pR, kd_pR, ln_pR, fI_pR, fL_pR, fR_pR, aI_pR, aL_pR, aR_pR, nx_qI, kd_qI, ln_qI, fI_qI, fL_qI, fR_qI, aI_qI, aL_qI, aR_qI, nx_qL, kd_qL, ln_qL, fI_qL, fL_qL, fR_qL, aI_qL, aL_qL, aR_qL, nx_qR, kd_qR, ln_qR, fI_qR, fL_qR, fR_qR, aI_qR, aL_qR, aR_qR, nx_mk, kd_mk, ln_mk, fI_mk, fL_mk, fR_mk, aI_mk, aL_mk, aR_mk, false_and, and_false, if_false, if_true, and_self, Int.reduceEq, Nat.reduceEqDiff, ite_self, MLay_pI, MLay_pL, MLay_qI, MLay_qL, ev_X4_readSum_25, xt_X4_readSum, xf_X4_readSum, us_X4_isSign, us_X4_nextToken, us_X7_addStep]
    repeat' (first | intro z | apply And.intro)
    all_goals try omega
    all_goals try contradiction
    all_goals exact w28
  clear h w28 w34 hS
  refine go_X4_readSum hr (ct := fun p => p == 25 || p == 82) 10 ?_
  simp only [oI, oL, oR, o1, lI, lL, lR, popN, catS, gv, stL, stL2, swt, cnd, spObj, List.getElem?_cons_zero, List.getElem?_cons_succ, List.getD_cons_zero, List.getD_cons_succ, List.set_cons_zero, List.set_cons_succ, List.nil_append, List.cons_append, Option.toList, Bool.or_false, Bool.false_or, Bool.or_true, Bool.true_or, Nat.reduceBEq, Nat.reduceAdd, Nat.reduceLT, Nat.reduceLeDiff, Int.reduceAdd, Int.reduceToNat, true_and, and_true, Fin.isValue, Fin.val_zero, Fin.val_one, Fin.val_two, Fin.reduceFinMk, eq_self, Int.reduceNeg, imp_self, Nat.reduceMul, Nat.le_refl, not_true_eq_false, not_false_eq_true, List.getElem?_nil, reduceCtorEq, true_or, or_true, Classical.not_not, implies_true, or_self, wI_0, wI_1, wI_m1, b2i_w, b2i_eq0, b2i_eq1, b2i_bool, nor_self, nx_pI, kd_pI, ln_pI, fI_pI, fL_pI, fR_pI, aI_pI, aL_pI, aR_pI, nx_pL, kd_pL, ln_pL, fI_pL, fL_pL, fR_pL, aI_pL, aL_pL, aR_pL, nx_pR, kd_pR, ln_pR, fI_pR, fL_pR, fR_pR, aI_pR, aL_pR, aR_pR, nx_qI, kd_qI, ln_qI, fI_qI, fL_qI, fR_qI, aI_qI, aL_qI, aR_qI, nx_qL, kd_qL, ln_qL, fI_qL, fL_qL, fR_qL, aI_qL, aL_qL, aR_qL, nx_qR, kd_qR, ln_qR, fI_qR, fL_qR, fR_qR, aI_qR, aL_qR, aR_qR, nx_mk, kd_mk, ln_mk, fI_mk, fL_mk, fR_mk, aI_mk, aL_mk, aR_mk, false_and, and_false, if_false, if_true, and_self, Int.reduceEq, Nat.reduceEqDiff, ite_self, MLay_pI, MLay_pL, MLay_qI, MLay_qL, ev_X4_readSum_12, ev_X4_readSum_13, ev_X4_readSum_16, ev_X4_readSum_19, ev_X4_readSum_20, ev_X4_readSum_22, xt_X4_readSum, xf_X4_readSum, us_X4_isSign, us_X4_nextToken, us_X7_addStep, hC, hk, eL, ez]
  try simp (disch := omega) only [wI_id, dv_nn, rm_nn]
  repeat' (first | intro z | apply And.intro)
  all_goals try omega
  all_goals try contradiction
  all_goals first | exact w82 | exact ⟨p, hR, w25⟩

set_option maxRecDepth 20000 in
theorem rs_37 {d : Nat} (hr : HR_X4_readSum d) {Q : Option AV → Hp → Prop} {σ : Hp} {dep z D p i : Int} {L : Int → Int} {css : List (List Int)} {ss : List Int} {l3 : Option AV} (hS : RS L z D css ss p σ) (h : Go (M_X4_readSum d) Q 54 [some (vr 26), some (vi dep), some (vi i), some (vi (if isS L z p 43 then -6 else -7))] [] σ (0, 0)) : Go (M_X4_readSum d) Q 37 [some (vr 26), some (vi dep), some (vi i), l3] [] σ (0, 0) := by
  obtain ⟨hk, hC, hX, hG, hT, hR, eL, ez, hD, hO, hkD, hp, hz, r1, r2, r3, r4⟩ := hS.fx
  have w43 : Go (M_X4_readSum d) Q 43 [some (vr 26), some (vi dep), some (vi i), l3] [vi (b2i (isS L z p 43))] σ (0, 0) := by
    by_cases c : isS L z p 43
    · rw [if_pos c] at h
      rw [b2i_t c]
      clear hS hX hR hT
      refine go_X4_readSum hr (ct := fun p => p == 51 || p == 54) 10 ?_
      simp only [oI, oL, oR, o1, lI, lL, lR, popN, catS, gv, stL, stL2, swt, cnd, spObj, List.getElem?_cons_zero, List.getElem?_cons_succ, List.getD_cons_zero, List.getD_cons_succ, List.set_cons_zero, List.set_cons_succ, List.nil_append, List.cons_append, Option.toList, Bool.or_false, Bool.false_or, Bool.or_true, Bool.true_or, Nat.reduceBEq, Nat.reduceAdd, Nat.reduceLT, Nat.reduceLeDiff, Int.reduceAdd, Int.reduceToNat, true_and, and_true, Fin.isValue, Fin.val_zero, Fin.val_one, Fin.val_two, Fin.reduceFinMk, eq_self, Int.reduceNeg, imp_self, Nat.reduceMul, Nat.le_refl, not_true_eq_false, not_false_eq_true, List.getElem?_nil, reduceCtorEq, true_or, or_true, Classical.not_not, implies_true, or_self, wI_0, wI_1, wI_m1, b2i_w, b2i_eq0, b2i_eq1, b2i_bool, nor_self, nx_pI, kd_pI, ln_pI, fI_pI, fL_pI, fR_pI, aI_pI, aL_pI, aR_pI, nx_pL, kd_pL, ln_pL, fI_pL, fL_pL, fR_pL, aI_pL, aL_pL, aR_pL, nx_pR, kd_pR, ln_pR, fI_pR, fL_pR, fR_pR, aI_pR, aL_pR, aR_pR, nx_qI, kd_qI, ln_qI, fI_qI, fL_qI, fR_qI, aI_qI, aL_qI, aR_qI, nx_qL, kd_qL, ln_qL, fI_qL, fL_qL, fR_qL, aI_qL, aL_qL, aR_qL, nx_qR, kd_qR, ln_qR, fI_qR, fL_qR, fR_qR, aI_qR, aL_qR, aR_qR, nx_mk, kd_mk, ln_mk, fI_mk, fL_mk, fR_mk, aI_mk, aL_mk, aR_mk, false_and, and_false, if_false, if_true, and_self, Int.reduceEq, Nat.reduceEqDiff, ite_self, MLay_pI, MLay_pL, MLay_qI, MLay_qL, ev_X4_readSum_43, ev_X4_readSum_46, ev_X4_readSum_48, ev_X4_readSum_51, ev_X4_readSum_53, xt_X4_readSum, xf_X4_readSum, us_X4_isSign, us_X4_nextToken, us_X7_addStep]
      repeat' (first | intro z | apply And.intro)
      all_goals try omega
      all_goals try contradiction
      all_goals exact h
    · rw [if_neg c] at h
      rw [b2i_f c]
      clear hS hX hR hT
      refine go_X4_readSum hr (ct := fun p => p == 46 || p == 54) 10 ?_
      simp only [oI, oL, oR, o1, lI, lL, lR, popN, catS, gv, stL, stL2, swt, cnd, spObj, List.getElem?_cons_zero, List.getElem?_cons_succ, List.getD_cons_zero, List.getD_cons_succ, List.set_cons_zero, List.set_cons_succ, List.nil_append, List.cons_append, Option.toList, Bool.or_false, Bool.false_or, Bool.or_true, Bool.true_or, Nat.reduceBEq, Nat.reduceAdd, Nat.reduceLT, Nat.reduceLeDiff, Int.reduceAdd, Int.reduceToNat, true_and, and_true, Fin.isValue, Fin.val_zero, Fin.val_one, Fin.val_two, Fin.reduceFinMk, eq_self, Int.reduceNeg, imp_self, Nat.reduceMul, Nat.le_refl, not_true_eq_false, not_false_eq_true, List.getElem?_nil, reduceCtorEq, true_or, or_true, Classical.not_not, implies_true, or_self, wI_0, wI_1, wI_m1, b2i_w, b2i_eq0, b2i_eq1, b2i_bool, nor_self, nx_pI, kd_pI, ln_pI, fI_pI, fL_pI, fR_pI, aI_pI, aL_pI, aR_pI, nx_pL, kd_pL, ln_pL, fI_pL, fL_pL, fR_pL, aI_pL, aL_pL, aR_pL, nx_pR, kd_pR, ln_pR, fI_pR, fL_pR, fR_pR, aI_pR, aL_pR, aR_pR, nx_qI, kd_qI, ln_qI, fI_qI, fL_qI, fR_qI, aI_qI, aL_qI, aR_qI, nx_qL, kd_qL, ln_qL, fI_qL, fL_qL, fR_qL, aI_qL, aL_qL, aR_qL, nx_qR, kd_qR, ln_qR, fI_qR, fL_qR, fR_qR, aI_qR, aL_qR, aR_qR, nx_mk, kd_mk, ln_mk, fI_mk, fL_mk, fR_mk, aI_mk, aL_mk, aR_mk, false_and, and_false, if_false, if_true, and_self, Int.reduceEq, Nat.reduceEqDiff, ite_self, MLay_pI, MLay_pL, MLay_qI, MLay_qL, ev_X4_readSum_43, ev_X4_readSum_46, ev_X4_readSum_48, ev_X4_readSum_51, ev_X4_readSum_53, xt_X4_readSum, xf_X4_readSum, us_X4_isSign, us_X4_nextToken, us_X7_addStep]
      repeat' (first | intro z | apply And.intro)
      all_goals try omega
      all_goals try contradiction
      all_goals exact h
  clear h hS
  refine go_X4_readSum hr (ct := fun p => p == 43) 10 ?_
  simp only [oI, oL, oR, o1, lI, lL, lR, popN, catS, gv, stL, stL2, swt, cnd, spObj, List.getElem?_cons_zero, List.getElem?_cons_succ, List.getD_cons_zero, List.getD_cons_succ, List.set_cons_zero, List.set_cons_succ, List.nil_append, List.cons_append, Option.toList, Bool.or_false, Bool.false_or, Bool.or_true, Bool.true_or, Nat.reduceBEq, Nat.reduceAdd, Nat.reduceLT, Nat.reduceLeDiff, Int.reduceAdd, Int.reduceToNat, true_and, and_true, Fin.isValue, Fin.val_zero, Fin.val_one, Fin.val_two, Fin.reduceFinMk, eq_self, Int.reduceNeg, imp_self, Nat.reduceMul, Nat.le_refl, not_true_eq_false, not_false_eq_true, List.getElem?_nil, reduceCtorEq, true_or, or_true, Classical.not_not, implies_true, or_self, wI_0, wI_1, wI_m1, b2i_w, b2i_eq0, b2i_eq1, b2i_bool, nor_self, nx_pI, kd_pI, ln_pI, fI_pI, fL_pI, fR_pI, aI_pI, aL_pI, aR_pI, nx_pL, kd_pL, ln_pL, fI_pL, fL_pL, fR_pL, aI_pL, aL_pL, aR_pL, nx_pR, kd_pR, ln_pR, fI_pR, fL_pR, fR_pR, aI_pR, aL_pR, aR_pR, nx_qI, kd_qI, ln_qI, fI_qI, fL_qI, fR_qI, aI_qI, aL_qI, aR_qI, nx_qL, kd_qL, ln_qL, fI_qL, fL_qL, fR_qL, aI_qL, aL_qL, aR_qL, nx_qR, kd_qR, ln_qR, fI_qR, fL_qR, fR_qR, aI_qR, aL_qR, aR_qR, nx_mk, kd_mk, ln_mk, fI_mk, fL_mk, fR_mk, aI_mk, aL_mk, aR_mk, false_and, and_false, if_false, if_true, and_self, Int.reduceEq, Nat.reduceEqDiff, ite_self, MLay_pI, MLay_pL, MLay_qI, MLay_qL, ev_X4_readSum_37, ev_X4_readSum_38, ev_X4_readSum_40, xt_X4_readSum, xf_X4_readSum, us_X4_isSign, us_X4_nextToken, us_X7_addStep, hC, hk, eL, ez]
  repeat' (first | intro z | apply And.intro)
  all_goals try omega
  all_goals try contradiction
  all_goals exact ⟨p, hR, w43⟩

set_option maxRecDepth 20000 in
theorem rs_54 {d : Nat} (hr : HR_X4_readSum d) {Q : Option AV → Hp → Prop} {σ : Hp} {dep z D p i : Int} {L : Int → Int} {css : List (List Int)} {ss : List Int} {v : Int} (hS : RS L z D css ss p σ) (hd : 0 < d ∧ dep + d = 6 ∧ 0 ≤ dep) (hc : cntS css ss ≤ tE L z p) (n : Nat) (hn : 8 * (z - tE L z p) + 1 ≤ n) (h0 : (pp L z n 0 dep (a0 (tE L z p))).1 ≠ 0 → ∀ σ', RF D σ σ' → fI σ' 507 26 = (pp L z n 0 dep (a0 (tE L z p))).1 → Q (some (vi 0)) σ') (h1 : (pp L z n 0 dep (a0 (tE L z p))).1 = 0 → ∀ σ', RF D σ σ' → RS L z D css (ss ++ (pp L z n 0 dep (a0 (tE L z p))).2.2.2.1) (pp L z n 0 dep (a0 (tE L z p))).2.1 σ' → Go (M_X4_readSum d) Q 68 [some (vr 26), some (vi dep), some (vi i), some (vi v)] [] σ' (0, 0)) : Go (M_X4_readSum d) Q 54 [some (vr 26), some (vi dep), some (vi i), some (vi v)] [] σ (0, 0) := by
  obtain ⟨hk, hC, hX, hG, hT, hR, eL, ez, hD, hO, hkD, hp, hz, r1, r2, r3, r4⟩ := hS.fx
  have ht := tok_in L hp.2
  have w58 : ∀ σ', Fz tkF noR noR σ σ' → RD σ' (tE L z p) → Go (M_X4_readSum d) Q 58 [some (vr 26), some (vi dep), some (vi i), some (vi v)] [] σ' (0, 0) := fun σ' y1 y2 => by
    have S2 := hS.nx y1 y2
    have y3 : RF D σ σ' := Fz_rd y1
    obtain ⟨hk2, -⟩ := S2.fx
    have g0 : (pp L z n 0 dep (a0 (tE L z p))).1 ≠ 0 → ∀ σ'', RF D σ' σ'' → fI σ'' 507 26 = (pp L z n 0 dep (a0 (tE L z p))).1 → Go (M_X4_readSum d) Q 63 [some (vr 26), some (vi dep), some (vi i), some (vi v)] [vi 0] σ'' (0, 0) := fun q σ'' q1 q2 => by
      have h := h0 q σ'' (y3.tr q1) q2
      clear h0 h1 hS S2 hX hR hT hC hG q1 q2
      refine go_X4_readSum hr (ct := fun p => p == 68) 10 ?_
      simp only [oI, oL, oR, o1, lI, lL, lR, popN, catS, gv, stL, stL2, swt, cnd, spObj, List.getElem?_cons_zero, List.getElem?_cons_succ, List.getD_cons_zero, List.getD_cons_succ, List.set_cons_zero, List.set_cons_succ, List.nil_append, List.cons_append, Option.toList, Bool.or_false, Bool.false_or, Bool.or_true, Bool.true_or, Nat.reduceBEq, Nat.reduceAdd, Nat.reduceLT, Nat.reduceLeDiff, Int.reduceAdd, Int.reduceToNat, true_and, and_true, Fin.isValue, Fin.val_zero, Fin.val_one, Fin.val_two, Fin.reduceFinMk, eq_self, Int.reduceNeg, imp_self, Nat.reduceMul, Nat.le_refl, not_true_eq_false, not_false_eq_true, List.getElem?_nil, reduceCtorEq, true_or, or_true, Classical.not_not, implies_true, or_self, wI_0, wI_1, wI_m1, b2i_w, b2i_eq0, b2i_eq1, b2i_bool, nor_self, nx_pI, kd_pI, ln_pI, fI_pI, fL_pI, fR_pI, aI_pI, aL_pI, aR_pI, nx_pL, kd_pL, ln_pL, fI_pL, fL_pL, fR_pL, aI_pL, aL_pL, aR_pL, nx_pR, kd_pR, ln_pR, fI_pR, fL_pR, fR_pR, aI_pR, aL_pR, aR_pR, nx_qI, kd_qI, ln_qI, fI_qI, fL_qI, fR_qI, aI_qI, aL_qI, aR_qI, nx_qL, kd_qL, ln_qL, fI_qL, fL_qL, fR_qL, aI_qL, aL_qL, aR_qL, nx_qR, kd_qR, ln_qR, fI_qR, fL_qR, fR_qR, aI_qR, aL_qR, aR_qR, nx_mk, kd_mk, ln_mk, fI_mk, fL_mk, fR_mk, aI_mk, aL_mk, aR_mk, false_and, and_false, if_false, if_true, and_self, Int.reduceEq, Nat.reduceEqDiff, ite_self, MLay_pI, MLay_pL, MLay_qI, MLay_qL, ev_X4_readSum_63, ev_X4_readSum_66, ev_X4_readSum_67, xt_X4_readSum, xf_X4_readSum, us_X4_isSign, us_X4_nextToken, us_X7_addStep]
      repeat' (first | intro z | apply And.intro)
      all_goals try omega
      all_goals try contradiction
      all_goals exact h
    have g1 : (pp L z n 0 dep (a0 (tE L z p))).1 = 0 → ∀ σ'', RF D σ' σ'' → RS L z D css (ss ++ (pp L z n 0 dep (a0 (tE L z p))).2.2.2.1) (pp L z n 0 dep (a0 (tE L z p))).2.1 σ'' → Go (M_X4_readSum d) Q 63 [some (vr 26), some (vi dep), some (vi i), some (vi v)] [vi 1] σ'' (0, 0) := fun q σ'' q1 q2 => by
      have h := h1 q σ'' (y3.tr q1) q2
      clear h0 h1 hS S2 hX hR hT hC hG q1 q2 g0
      refine go_X4_readSum hr (ct := fun p => p == 66 || p == 68) 10 ?_
      simp only [oI, oL, oR, o1, lI, lL, lR, popN, catS, gv, stL, stL2, swt, cnd, spObj, List.getElem?_cons_zero, List.getElem?_cons_succ, List.getD_cons_zero, List.getD_cons_succ, List.set_cons_zero, List.set_cons_succ, List.nil_append, List.cons_append, Option.toList, Bool.or_false, Bool.false_or, Bool.or_true, Bool.true_or, Nat.reduceBEq, Nat.reduceAdd, Nat.reduceLT, Nat.reduceLeDiff, Int.reduceAdd, Int.reduceToNat, true_and, and_true, Fin.isValue, Fin.val_zero, Fin.val_one, Fin.val_two, Fin.reduceFinMk, eq_self, Int.reduceNeg, imp_self, Nat.reduceMul, Nat.le_refl, not_true_eq_false, not_false_eq_true, List.getElem?_nil, reduceCtorEq, true_or, or_true, Classical.not_not, implies_true, or_self, wI_0, wI_1, wI_m1, b2i_w, b2i_eq0, b2i_eq1, b2i_bool, nor_self, nx_pI, kd_pI, ln_pI, fI_pI, fL_pI, fR_pI, aI_pI, aL_pI, aR_pI, nx_pL, kd_pL, ln_pL, fI_pL, fL_pL, fR_pL, aI_pL, aL_pL, aR_pL, nx_pR, kd_pR, ln_pR, fI_pR, fL_pR, fR_pR, aI_pR, aL_pR, aR_pR, nx_qI, kd_qI, ln_qI, fI_qI, fL_qI, fR_qI, aI_qI, aL_qI, aR_qI, nx_qL, kd_qL, ln_qL, fI_qL, fL_qL, fR_qL, aI_qL, aL_qL, aR_qL, nx_qR, kd_qR, ln_qR, fI_qR, fL_qR, fR_qR, aI_qR, aL_qR, aR_qR, nx_mk, kd_mk, ln_mk, fI_mk, fL_mk, fR_mk, aI_mk, aL_mk, aR_mk, false_and, and_false, if_false, if_true, and_self, Int.reduceEq, Nat.reduceEqDiff, ite_self, MLay_pI, MLay_pL, MLay_qI, MLay_qL, ev_X4_readSum_63, ev_X4_readSum_66, ev_X4_readSum_67, xt_X4_readSum, xf_X4_readSum, us_X4_isSign, us_X4_nextToken, us_X7_addStep]
      repeat' (first | intro z | apply And.intro)
      all_goals try omega
      all_goals try contradiction
      all_goals exact h
    have hpre : RdPre d L z D css ss (tE L z p) dep σ' := ⟨S2, hd, hc⟩
    clear h0 h1 hS S2 hX hR hT hC hG y3 y1 y2
    refine go_X4_readSum hr (ct := fun p => p == 63) 10 ?_
    simp only [oI, oL, oR, o1, lI, lL, lR, popN, catS, gv, stL, stL2, swt, cnd, spObj, List.getElem?_cons_zero, List.getElem?_cons_succ, List.getD_cons_zero, List.getD_cons_succ, List.set_cons_zero, List.set_cons_succ, List.nil_append, List.cons_append, Option.toList, Bool.or_false, Bool.false_or, Bool.or_true, Bool.true_or, Nat.reduceBEq, Nat.reduceAdd, Nat.reduceLT, Nat.reduceLeDiff, Int.reduceAdd, Int.reduceToNat, true_and, and_true, Fin.isValue, Fin.val_zero, Fin.val_one, Fin.val_two, Fin.reduceFinMk, eq_self, Int.reduceNeg, imp_self, Nat.reduceMul, Nat.le_refl, not_true_eq_false, not_false_eq_true, List.getElem?_nil, reduceCtorEq, true_or, or_true, Classical.not_not, implies_true, or_self, wI_0, wI_1, wI_m1, b2i_w, b2i_eq0, b2i_eq1, b2i_bool, nor_self, nx_pI, kd_pI, ln_pI, fI_pI, fL_pI, fR_pI, aI_pI, aL_pI, aR_pI, nx_pL, kd_pL, ln_pL, fI_pL, fL_pL, fR_pL, aI_pL, aL_pL, aR_pL, nx_pR, kd_pR, ln_pR, fI_pR, fL_pR, fR_pR, aI_pR, aL_pR, aR_pR, nx_qI, kd_qI, ln_qI, fI_qI, fL_qI, fR_qI, aI_qI, aL_qI, aR_qI, nx_qL, kd_qL, ln_qL, fI_qL, fL_qL, fR_qL, aI_qL, aL_qL, aR_qL, nx_qR, kd_qR, ln_qR, fI_qR, fL_qR, fR_qR, aI_qR, aL_qR, aR_qR, nx_mk, kd_mk, ln_mk, fI_mk, fL_mk, fR_mk, aI_mk, aL_mk, aR_mk, false_and, and_false, if_false, if_true, and_self, Int.reduceEq, Nat.reduceEqDiff, ite_self, MLay_pI, MLay_pL, MLay_qI, MLay_qL, ev_X4_readSum_58, ev_X4_readSum_59, ev_X4_readSum_60, xt_X4_readSum, xf_X4_readSum, us_X4_isSign, us_X4_nextToken, us_X7_addStep, us_X4_readPart, RdPost, hk2]
    repeat' (first | intro z | apply And.intro)
    all_goals try omega
    all_goals try contradiction
    all_goals exact ⟨_, _, _, _, _, _, _, hpre, hn, g0, g1⟩
  have hb : 0 ≤ tE L z p ∧ tE L z p ≤ z := by omega
  have hlv := hd.1
  clear h0 h1 hS hX hR
  refine go_X4_readSum hr (ct := fun p => p == 58) 10 ?_
  simp only [oI, oL, oR, o1, lI, lL, lR, popN, catS, gv, stL, stL2, swt, cnd, spObj, List.getElem?_cons_zero, List.getElem?_cons_succ, List.getD_cons_zero, List.getD_cons_succ, List.set_cons_zero, List.set_cons_succ, List.nil_append, List.cons_append, Option.toList, Bool.or_false, Bool.false_or, Bool.or_true, Bool.true_or, Nat.reduceBEq, Nat.reduceAdd, Nat.reduceLT, Nat.reduceLeDiff, Int.reduceAdd, Int.reduceToNat, true_and, and_true, Fin.isValue, Fin.val_zero, Fin.val_one, Fin.val_two, Fin.reduceFinMk, eq_self, Int.reduceNeg, imp_self, Nat.reduceMul, Nat.le_refl, not_true_eq_false, not_false_eq_true, List.getElem?_nil, reduceCtorEq, true_or, or_true, Classical.not_not, implies_true, or_self, wI_0, wI_1, wI_m1, b2i_w, b2i_eq0, b2i_eq1, b2i_bool, nor_self, nx_pI, kd_pI, ln_pI, fI_pI, fL_pI, fR_pI, aI_pI, aL_pI, aR_pI, nx_pL, kd_pL, ln_pL, fI_pL, fL_pL, fR_pL, aI_pL, aL_pL, aR_pL, nx_pR, kd_pR, ln_pR, fI_pR, fL_pR, fR_pR, aI_pR, aL_pR, aR_pR, nx_qI, kd_qI, ln_qI, fI_qI, fL_qI, fR_qI, aI_qI, aL_qI, aR_qI, nx_qL, kd_qL, ln_qL, fI_qL, fL_qL, fR_qL, aI_qL, aL_qL, aR_qL, nx_qR, kd_qR, ln_qR, fI_qR, fL_qR, fR_qR, aI_qR, aL_qR, aR_qR, nx_mk, kd_mk, ln_mk, fI_mk, fL_mk, fR_mk, aI_mk, aL_mk, aR_mk, false_and, and_false, if_false, if_true, and_self, Int.reduceEq, Nat.reduceEqDiff, ite_self, MLay_pI, MLay_pL, MLay_qI, MLay_qL, ev_X4_readSum_54, ev_X4_readSum_55, xt_X4_readSum, xf_X4_readSum, us_X4_isSign, us_X4_nextToken, us_X7_addStep, hC, hk, hT, hG, r2, ez, hb]
  repeat' (first | intro z | apply And.intro)
  all_goals try omega
  all_goals try contradiction
  all_goals exact w58 _ ‹_› ‹_›

set_option maxRecDepth 20000 in
theorem rs_68 {d : Nat} (hr : HR_X4_readSum d) {Q : Option AV → Hp → Prop} {σ : Hp} {dep z D p i : Int} {L : Int → Int} {css : List (List Int)} {ss : List Int} {v : Int} (hS : RS L z D css ss p σ) (hd : 0 < d) (hc : cntS css ss < 1000) (h : Go (M_X4_readSum d) Q 12 [some (vr 26), some (vi dep), some (vi (i + 1)), some (vi v)] [] (cAdd σ D v) (0, 0)) : Go (M_X4_readSum d) Q 68 [some (vr 26), some (vi dep), some (vi i), some (vi v)] [] σ (0, 0) := by
  obtain ⟨hk, hC, -, -, -, -, -, -, hD, hO, hkD, -⟩ := hS.fx
  have hq := RdL.dr hS.1 hc (cnt_nn _ _)
  clear hS hC
  refine go_X4_readSum hr (ct := fun p => p == 12) 20 ?_
  simp only [oI, oL, oR, o1, lI, lL, lR, popN, catS, gv, stL, stL2, swt, cnd, spObj, List.getElem?_cons_zero, List.getElem?_cons_succ, List.getD_cons_zero, List.getD_cons_succ, List.set_cons_zero, List.set_cons_succ, List.nil_append, List.cons_append, Option.toList, Bool.or_false, Bool.false_or, Bool.or_true, Bool.true_or, Nat.reduceBEq, Nat.reduceAdd, Nat.reduceLT, Nat.reduceLeDiff, Int.reduceAdd, Int.reduceToNat, true_and, and_true, Fin.isValue, Fin.val_zero, Fin.val_one, Fin.val_two, Fin.reduceFinMk, eq_self, Int.reduceNeg, imp_self, Nat.reduceMul, Nat.le_refl, not_true_eq_false, not_false_eq_true, List.getElem?_nil, reduceCtorEq, true_or, or_true, Classical.not_not, implies_true, or_self, wI_0, wI_1, wI_m1, b2i_w, b2i_eq0, b2i_eq1, b2i_bool, nor_self, nx_pI, kd_pI, ln_pI, fI_pI, fL_pI, fR_pI, aI_pI, aL_pI, aR_pI, nx_pL, kd_pL, ln_pL, fI_pL, fL_pL, fR_pL, aI_pL, aL_pL, aR_pL, nx_pR, kd_pR, ln_pR, fI_pR, fL_pR, fR_pR, aI_pR, aL_pR, aR_pR, nx_qI, kd_qI, ln_qI, fI_qI, fL_qI, fR_qI, aI_qI, aL_qI, aR_qI, nx_qL, kd_qL, ln_qL, fI_qL, fL_qL, fR_qL, aI_qL, aL_qL, aR_qL, nx_qR, kd_qR, ln_qR, fI_qR, fL_qR, fR_qR, aI_qR, aL_qR, aR_qR, nx_mk, kd_mk, ln_mk, fI_mk, fL_mk, fR_mk, aI_mk, aL_mk, aR_mk, false_and, and_false, if_false, if_true, and_self, Int.reduceEq, Nat.reduceEqDiff, ite_self, MLay_pI, MLay_pL, MLay_qI, MLay_qL, ev_X4_readSum_68, ev_X4_readSum_69, ev_X4_readSum_72, ev_X4_readSum_73, ev_X4_readSum_76, ev_X4_readSum_79, xt_X4_readSum, xf_X4_readSum, us_X4_isSign, us_X4_nextToken, us_X7_addStep, hk, hD, hO, hkD, hq]
  repeat' (first | intro z | apply And.intro)
  all_goals try omega
  all_goals try contradiction
  all_goals exact h

set_option maxRecDepth 20000 in
theorem rs_12 {d : Nat} (hr : HR_X4_readSum d) {Q : Option AV → Hp → Prop} {σ : Hp} {dep z D : Int} {L : Int → Int} {css : List (List Int)} {ss : List Int} (hd : 0 < d ∧ dep + d = 6 ∧ 0 ≤ dep) : ∀ (n : Nat) (a : Rs) (ρ : Hp) (i : Int) (l3 : Option AV), 8 * (z - a.2.1) + 1 ≤ n → (0 ≤ i ∧ i ≤ a.2.1) → a.1 = 0 → RF D σ ρ → RS L z D css (ss ++ a.2.2.2.1) a.2.1 ρ → cntS css (ss ++ a.2.2.2.1) ≤ a.2.1 → RdPost σ D L z css ss (pp L z n 2 dep a) Q → Go (M_X4_readSum d) Q 12 [some (vr 26), some (vi dep), some (vi i), l3] [] ρ (0, 0)
  | 0, a, ρ, i, l3, hn, hi, e0, hF, hS, hc, hQ => by
    have hp := hS.fx.2.2.2.2.2.2.2.2.2.2.2.1
    omega
  | n + 1, a, ρ, i, l3, hn, hi, e0, hF, hS, hc, hQ => by
    obtain ⟨-, -, -, -, -, -, -, -, -, -, -, hp, hz, -⟩ := hS.fx
    have ht := tok_in L hp.2
    rw [pp_2] at hQ
    by_cases c3 : isS L z a.2.1 43 ∨ isS L z a.2.1 45
    · rw [if_pos c3] at hQ
      have ht2 := ht.2.2.2.2 (by rcases c3 with e | e <;> (rw [e.1]; decide))
      have h0E : 0 ≤ tE L z a.2.1 := by omega
      have pos := pp_pos L z n 0 dep (a0 (tE L z a.2.1)) h0E ht.2.2.2.1
      have pln := pp_len L z n 0 dep (a0 (tE L z a.2.1)) (by omega) ht.2.2.2.1 h0E
      have eE : (a0 (tE L z a.2.1)).2.1 = tE L z a.2.1 := rfl
      rw [eE] at pos pln
      refine rs_h hr hS (by omega) c3 (rs_37 hr hS (rs_54 hr hS hd (by omega) n (by omega) (fun q σ' y1 y2 => ?_) (fun q σ' y1 y2 => ?_)))
      · rw [if_pos q] at hQ
        exact hQ.1 q σ' (hF.tr y1) y2
      · rw [if_neg (fun z => z q)] at hQ
        have pz := pos q
        have pl : lnSt (pp L z n 0 dep (a0 (tE L z a.2.1))) ≤ _ := (pln q).1 rfl
        generalize pp L z n 0 dep (a0 (tE L z a.2.1)) = r at *
        have hcr : cntS css ((ss ++ a.2.2.2.1) ++ r.2.2.2.1) + 1 ≤ r.2.1 := by
          rw [cnt_app]
          unfold lnSt at pl
          omega
        refine rs_68 hr y2 hd.1 (by omega) ?_
        have eS : ss ++ (fSum L z a r).2.2.2.1 = ((ss ++ a.2.2.2.1) ++ r.2.2.2.1) ++ [if isS L z a.2.1 43 then (-6 : Int) else -7] := by
          show ss ++ (a.2.2.2.1 ++ (r.2.2.2.1 ++ [if isS L z a.2.1 43 then (-6 : Int) else -7])) = _
          rw [List.append_assoc, List.append_assoc]
        have S3 := y2.add (by omega) (if isS L z a.2.1 43 then (-6 : Int) else -7)
        rw [← eS] at S3
        refine rs_12 hr hd n (fSum L z a r) _ (i + 1) _ (by show 8 * (z - r.2.1) + 1 ≤ n; omega) (by show 0 ≤ i + 1 ∧ i + 1 ≤ r.2.1; omega) rfl ((hF.tr y1).tr (Fz_add σ' D _)) S3 ?_ hQ
        rw [eS, cnt_app]
        show _ + ((1 : Nat) : Int) ≤ r.2.1
        omega
    · rw [if_neg c3] at hQ
      exact rs_n hr hS (by omega) c3 (hQ.2 e0 ρ hF hS)

set_option maxRecDepth 20000 in
theorem cr_X4_readSum {d : Nat} (hr : HR_X4_readSum d) : Ct yX4_readSum cX4_readSum 4 ((some FieldType.boolean)) (5*d+7) 0 0 (sp_X4_readSum d) := by
  refine Ct.go (M := M_X4_readSum d) (mm_X4_readSum hr) fun av σ Q h0 => ?_
  obtain ⟨this, dep, rfl, hk, h⟩ := el_X4_readSum d h0
  clear h0
  refine ⟨Nat.le_of_ble_eq_true rfl, ?_⟩
  show Go (M_X4_readSum d) Q 0 [some (vr this), some (vi dep), none, none] [] σ (0, 0)
  obtain ⟨rfl, L, z, D, css, ss, p, m, ⟨hS, hd, hcn⟩, hm, hQ⟩ := h
  obtain ⟨-, hC, -, -, -, -, -, -, -, -, -, hp, hz, -⟩ := hS.fx
  obtain ⟨m, rfl⟩ : ∃ k, m = k + 1 := ⟨m - 1, by omega⟩
  rw [pp_1] at hQ
  have pos := pp_pos L z m 0 dep (a0 p) hp.1 hp.2
  have pln := pp_len L z m 0 dep (a0 p) (by omega) hp.2 hp.1
  have eE : (a0 p).2.1 = p := rfl
  rw [eE] at pos pln
  have g0 : (pp L z m 0 dep (a0 p)).1 ≠ 0 → ∀ σ', RF D σ σ' → fI σ' 507 26 = (pp L z m 0 dep (a0 p)).1 → Go (M_X4_readSum d) Q 5 [some (vr 26), some (vi dep), none, none] [vi 0] σ' (0, 0) := fun q σ' q1 q2 => by
    rw [if_pos q] at hQ
    have h := hQ.1 q σ' q1 q2
    clear hQ hS hC q1 q2 pos pln
    refine go_X4_readSum hr (ct := fun p => p == 10) 10 ?_
    simp only [oI, oL, oR, o1, lI, lL, lR, popN, catS, gv, stL, stL2, swt, cnd, spObj, List.getElem?_cons_zero, List.getElem?_cons_succ, List.getD_cons_zero, List.getD_cons_succ, List.set_cons_zero, List.set_cons_succ, List.nil_append, List.cons_append, Option.toList, Bool.or_false, Bool.false_or, Bool.or_true, Bool.true_or, Nat.reduceBEq, Nat.reduceAdd, Nat.reduceLT, Nat.reduceLeDiff, Int.reduceAdd, Int.reduceToNat, true_and, and_true, Fin.isValue, Fin.val_zero, Fin.val_one, Fin.val_two, Fin.reduceFinMk, eq_self, Int.reduceNeg, imp_self, Nat.reduceMul, Nat.le_refl, not_true_eq_false, not_false_eq_true, List.getElem?_nil, reduceCtorEq, true_or, or_true, Classical.not_not, implies_true, or_self, wI_0, wI_1, wI_m1, b2i_w, b2i_eq0, b2i_eq1, b2i_bool, nor_self, nx_pI, kd_pI, ln_pI, fI_pI, fL_pI, fR_pI, aI_pI, aL_pI, aR_pI, nx_pL, kd_pL, ln_pL, fI_pL, fL_pL, fR_pL, aI_pL, aL_pL, aR_pL, nx_pR, kd_pR, ln_pR, fI_pR, fL_pR, fR_pR, aI_pR, aL_pR, aR_pR, nx_qI, kd_qI, ln_qI, fI_qI, fL_qI, fR_qI, aI_qI, aL_qI, aR_qI, nx_qL, kd_qL, ln_qL, fI_qL, fL_qL, fR_qL, aI_qL, aL_qL, aR_qL, nx_qR, kd_qR, ln_qR, fI_qR, fL_qR, fR_qR, aI_qR, aL_qR, aR_qR, nx_mk, kd_mk, ln_mk, fI_mk, fL_mk, fR_mk, aI_mk, aL_mk, aR_mk, false_and, and_false, if_false, if_true, and_self, Int.reduceEq, Nat.reduceEqDiff, ite_self, MLay_pI, MLay_pL, MLay_qI, MLay_qL, ev_X4_readSum_5, ev_X4_readSum_8, ev_X4_readSum_9, xt_X4_readSum, xf_X4_readSum, us_X4_isSign, us_X4_nextToken, us_X7_addStep]
    repeat' (first | intro z | apply And.intro)
    all_goals try omega
    all_goals try contradiction
    all_goals exact h
  have g1 : (pp L z m 0 dep (a0 p)).1 = 0 → ∀ σ', RF D σ σ' → RS L z D css (ss ++ (pp L z m 0 dep (a0 p)).2.2.2.1) (pp L z m 0 dep (a0 p)).2.1 σ' → Go (M_X4_readSum d) Q 5 [some (vr 26), some (vi dep), none, none] [vi 1] σ' (0, 0) := fun q σ' q1 q2 => by
    rw [if_neg (fun z => z q)] at hQ
    have pz := pos q
    have pl : lnSt (pp L z m 0 dep (a0 p)) ≤ _ := (pln q).1 rfl
    have w := rs_12 hr (Q := Q) (σ := σ) hd m (pp L z m 0 dep (a0 p)) σ' 0 none (by omega) (by omega) q q1 q2 (by rw [cnt_app]; unfold lnSt at pl; omega) hQ
    clear hQ hS hC q1 q2 pos pln g0 pl
    refine go_X4_readSum hr (ct := fun p => p == 8 || p == 12) 10 ?_
    simp only [oI, oL, oR, o1, lI, lL, lR, popN, catS, gv, stL, stL2, swt, cnd, spObj, List.getElem?_cons_zero, List.getElem?_cons_succ, List.getD_cons_zero, List.getD_cons_succ, List.set_cons_zero, List.set_cons_succ, List.nil_append, List.cons_append, Option.toList, Bool.or_false, Bool.false_or, Bool.or_true, Bool.true_or, Nat.reduceBEq, Nat.reduceAdd, Nat.reduceLT, Nat.reduceLeDiff, Int.reduceAdd, Int.reduceToNat, true_and, and_true, Fin.isValue, Fin.val_zero, Fin.val_one, Fin.val_two, Fin.reduceFinMk, eq_self, Int.reduceNeg, imp_self, Nat.reduceMul, Nat.le_refl, not_true_eq_false, not_false_eq_true, List.getElem?_nil, reduceCtorEq, true_or, or_true, Classical.not_not, implies_true, or_self, wI_0, wI_1, wI_m1, b2i_w, b2i_eq0, b2i_eq1, b2i_bool, nor_self, nx_pI, kd_pI, ln_pI, fI_pI, fL_pI, fR_pI, aI_pI, aL_pI, aR_pI, nx_pL, kd_pL, ln_pL, fI_pL, fL_pL, fR_pL, aI_pL, aL_pL, aR_pL, nx_pR, kd_pR, ln_pR, fI_pR, fL_pR, fR_pR, aI_pR, aL_pR, aR_pR, nx_qI, kd_qI, ln_qI, fI_qI, fL_qI, fR_qI, aI_qI, aL_qI, aR_qI, nx_qL, kd_qL, ln_qL, fI_qL, fL_qL, fR_qL, aI_qL, aL_qL, aR_qL, nx_qR, kd_qR, ln_qR, fI_qR, fL_qR, fR_qR, aI_qR, aL_qR, aR_qR, nx_mk, kd_mk, ln_mk, fI_mk, fL_mk, fR_mk, aI_mk, aL_mk, aR_mk, false_and, and_false, if_false, if_true, and_self, Int.reduceEq, Nat.reduceEqDiff, ite_self, MLay_pI, MLay_pL, MLay_qI, MLay_qL, ev_X4_readSum_5, ev_X4_readSum_8, ev_X4_readSum_9, ev_X4_readSum_10, ev_X4_readSum_11, xt_X4_readSum, xf_X4_readSum, us_X4_isSign, us_X4_nextToken, us_X7_addStep]
    repeat' (first | intro z | apply And.intro)
    all_goals try omega
    all_goals try contradiction
    all_goals exact w
  have hpre : RdPre d L z D css ss p dep σ := ⟨hS, hd, hcn⟩
  have hlv := hd.1
  have hm2 : 8 * (z - p) + 1 ≤ m := by omega
  clear hQ hS hC pos pln hm
  refine go_X4_readSum hr (ct := fun p => p == 5) 10 ?_
  simp only [oI, oL, oR, o1, lI, lL, lR, popN, catS, gv, stL, stL2, swt, cnd, spObj, List.getElem?_cons_zero, List.getElem?_cons_succ, List.getD_cons_zero, List.getD_cons_succ, List.set_cons_zero, List.set_cons_succ, List.nil_append, List.cons_append, Option.toList, Bool.or_false, Bool.false_or, Bool.or_true, Bool.true_or, Nat.reduceBEq, Nat.reduceAdd, Nat.reduceLT, Nat.reduceLeDiff, Int.reduceAdd, Int.reduceToNat, true_and, and_true, Fin.isValue, Fin.val_zero, Fin.val_one, Fin.val_two, Fin.reduceFinMk, eq_self, Int.reduceNeg, imp_self, Nat.reduceMul, Nat.le_refl, not_true_eq_false, not_false_eq_true, List.getElem?_nil, reduceCtorEq, true_or, or_true, Classical.not_not, implies_true, or_self, wI_0, wI_1, wI_m1, b2i_w, b2i_eq0, b2i_eq1, b2i_bool, nor_self, nx_pI, kd_pI, ln_pI, fI_pI, fL_pI, fR_pI, aI_pI, aL_pI, aR_pI, nx_pL, kd_pL, ln_pL, fI_pL, fL_pL, fR_pL, aI_pL, aL_pL, aR_pL, nx_pR, kd_pR, ln_pR, fI_pR, fL_pR, fR_pR, aI_pR, aL_pR, aR_pR, nx_qI, kd_qI, ln_qI, fI_qI, fL_qI, fR_qI, aI_qI, aL_qI, aR_qI, nx_qL, kd_qL, ln_qL, fI_qL, fL_qL, fR_qL, aI_qL, aL_qL, aR_qL, nx_qR, kd_qR, ln_qR, fI_qR, fL_qR, fR_qR, aI_qR, aL_qR, aR_qR, nx_mk, kd_mk, ln_mk, fI_mk, fL_mk, fR_mk, aI_mk, aL_mk, aR_mk, false_and, and_false, if_false, if_true, and_self, Int.reduceEq, Nat.reduceEqDiff, ite_self, MLay_pI, MLay_pL, MLay_qI, MLay_qL, ev_X4_readSum_0, ev_X4_readSum_1, ev_X4_readSum_2, xt_X4_readSum, xf_X4_readSum, us_X4_isSign, us_X4_nextToken, us_X7_addStep, us_X4_readPart, RdPost, hk]
  repeat' (first | intro z | apply And.intro)
  all_goals try omega
  all_goals try contradiction
  all_goals exact ⟨_, _, _, _, _, _, _, hpre, hm2, g0, g1⟩
