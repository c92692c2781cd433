/-! the card reader: a part -/

set_option maxRecDepth 20000 in
theorem rp_0 {d : Nat} (hr : HR_X4_readPart d) {Q : Option AV → Hp → Prop} {σ : Hp} {dep z D p : Int} {L : Int → Int} {css : List (List Int)} {ss : List Int} (hd : 0 < d) (hS : RS L z D css ss p σ) (h : Go (M_X4_readPart d) Q 20 [some (vr 26), some (vi dep), some (vi (b2i (isW L z p 10631))), some (vi (b2i (isS L z p 40))), some (vi (fc L z p - 1)), none] [] σ (0, 0)) : Go (M_X4_readPart d) Q 0 [some (vr 26), some (vi dep), none, none, none, none] [] σ (0, 0) := by
  obtain ⟨hk, hC, hX, -, -, hR, eL, ez, -⟩ := hS.fx
  have hN := hX.2.2.2.2.2.2.2.1
  have w18 : Go (M_X4_readPart d) Q 18 [some (vr 26), some (vi dep), some (vi (b2i (isW L z p 10631))), some (vi (b2i (isS L z p 40))), none, none] [vi (fc L z p - 1)] σ (0, 0) := by
    refine go_X4_readPart hr (ct := fun p => p == 20) 10 ?_
    simp only [oI, oL, oR, o1, lI, lL, lR, popN, catS, gv, stL, stL2, swt, cnd, spObj, List.getElem?_cons_zero, List.getElem?_cons_succ, List.getD_cons_zero, List.getD_cons_succ, List.set_cons_zero, List.set_cons_succ, List.nil_append, List.cons_append, Option.toList, Bool.or_false, Bool.false_or, Bool.or_true, Bool.true_or, Nat.reduceBEq, Nat.reduceAdd, Nat.reduceLT, Nat.reduceLeDiff, Int.reduceAdd, Int.reduceToNat, true_and, and_true, Fin.isValue, Fin.val_zero, Fin.val_one, Fin.val_two, Fin.reduceFinMk, eq_self, Int.reduceNeg, imp_self, Nat.reduceMul, Nat.le_refl, not_true_eq_false, not_false_eq_true, List.getElem?_nil, reduceCtorEq, true_or, or_true, Classical.not_not, implies_true, or_self, wI_0, wI_1, wI_m1, b2i_w, b2i_eq0, b2i_eq1, b2i_bool, nor_self, nx_pI, kd_pI, ln_pI, fI_pI, fL_pI, fR_pI, aI_pI, aL_pI, aR_pI, nx_pL, kd_pL, ln_pL, fI_pL, fL_pL, fR_pL, aI_pL, aL_pL, aR_pL, nx_pR, kd_pR, ln_pR, fI_pR, fL_pR, fR_pR, aI_pR, aL_pR, aR_pR, nx_qI, kd_qI, ln_qI, fI_qI, fL_qI, fR_qI, aI_qI, aL_qI, aR_qI, nx_qL, kd_qL, ln_qL, fI_qL, fL_qL, fR_qL, aI_qL, aL_qL, aR_qL, nx_qR, kd_qR, ln_qR, fI_qR, fL_qR, fR_qR, aI_qR, aL_qR, aR_qR, nx_mk, kd_mk, ln_mk, fI_mk, fL_mk, fR_mk, aI_mk, aL_mk, aR_mk, false_and, and_false, if_false, if_true, and_self, Int.reduceEq, Nat.reduceEqDiff, ite_self, MLay_pI, MLay_pL, MLay_qI, MLay_qL, ev_X4_readPart_18, xt_X4_readPart, xf_X4_readPart, us_X4_isWord, us_X4_isSign, us_X4_factNamed, us_X4_refuse, us_X4_nextToken, us_X7_addStep]
    exact h
  have w13 : Go (M_X4_readPart d) Q 13 [some (vr 26), some (vi dep), some (vi (b2i (isW L z p 10631))), none, none, none] [vi (b2i (isS L z p 40))] σ (0, 0) := by
    clear h
    refine go_X4_readPart hr (ct := fun p => p == 18) 10 ?_
    simp only [oI, oL, oR, o1, lI, lL, lR, popN, catS, gv, stL, stL2, swt, cnd, spObj, List.getElem?_cons_zero, List.getElem?_cons_succ, List.getD_cons_zero, List.getD_cons_succ, List.set_cons_zero, List.set_cons_succ, List.nil_append, List.cons_append, Option.toList, Bool.or_false, Bool.false_or, Bool.or_true, Bool.true_or, Nat.reduceBEq, Nat.reduceAdd, Nat.reduceLT, Nat.reduceLeDiff, Int.reduceAdd, Int.reduceToNat, true_and, and_true, Fin.isValue, Fin.val_zero, Fin.val_one, Fin.val_two, Fin.reduceFinMk, eq_self, Int.reduceNeg, imp_self, Nat.reduceMul, Nat.le_refl, not_true_eq_false, not_false_eq_true, List.getElem?_nil, reduceCtorEq, true_or, or_true, Classical.not_not, implies_true, or_self, wI_0, wI_1, wI_m1, b2i_w, b2i_eq0, b2i_eq1, b2i_bool, nor_self, nx_pI, kd_pI, ln_pI, fI_pI, fL_pI, fR_pI, aI_pI, aL_pI, aR_pI, nx_pL, kd_pL, ln_pL, fI_pL, fL_pL, fR_pL, aI_pL, aL_pL, aR_pL, nx_pR, kd_pR, ln_pR, fI_pR, fL_pR, fR_pR, aI_pR, aL_pR, aR_pR, nx_qI, kd_qI, ln_qI, fI_qI, fL_qI, fR_qI, aI_qI, aL_qI, aR_qI, nx_qL, kd_qL, ln_qL, fI_qL, fL_qL, fR_qL, aI_qL, aL_qL, aR_qL, nx_qR, kd_qR, ln_qR, fI_qR, fL_qR, fR_qR, aI_qR, aL_qR, aR_qR, nx_mk, kd_mk, ln_mk, fI_mk, fL_mk, fR_mk, aI_mk, aL_mk, aR_mk, false_and, and_false, if_false, if_true, and_self, Int.reduceEq, Nat.reduceEqDiff, ite_self, MLay_pI, MLay_pL, MLay_qI, MLay_qL, ev_X4_readPart_13, ev_X4_readPart_14, ev_X4_readPart_15, xt_X4_readPart, xf_X4_readPart, us_X4_isWord, us_X4_isSign, us_X4_factNamed, us_X4_refuse, us_X4_nextToken, us_X7_addStep, hC, hk, hX, eL, ez]
    repeat' (first | intro z | apply And.intro)
    all_goals try omega
    all_goals try contradiction
    all_goals exact ⟨p, hR, w18⟩
  have w6 : Go (M_X4_readPart d) Q 6 [some (vr 26), some (vi dep), none, none, none, none] [vi (b2i (isW L z p (BitVec.ofInt 64 10631)))] σ (0, 0) := by
    have e : BitVec.ofInt 64 10631 = (10631 : BitVec 64) := by decide
    rw [e]
    clear h w18
    refine go_X4_readPart hr (ct := fun p => p == 13) 10 ?_
    simp only [oI, oL, oR, o1, lI, lL, lR, popN, catS, gv, stL, stL2, swt, cnd, spObj, List.getElem?_cons_zero, List.getElem?_cons_succ, List.getD_cons_zero, List.getD_cons_succ, List.set_cons_zero, List.set_cons_succ, List.nil_append, List.cons_append, Option.toList, Bool.or_false, Bool.false_or, Bool.or_true, Bool.true_or, Nat.reduceBEq, Nat.reduceAdd, Nat.reduceLT, Nat.reduceLeDiff, Int.reduceAdd, Int.reduceToNat, true_and, and_true, Fin.isValue, Fin.val_zero, Fin.val_one, Fin.val_two, Fin.reduceFinMk, eq_self, Int.reduceNeg, imp_self, Nat.reduceMul, Nat.le_refl, not_true_eq_false, not_false_eq_true, List.getElem?_nil, reduceCtorEq, true_or, or_true, Classical.not_not, implies_true, or_self, wI_0, wI_1, wI_m1, b2i_w, b2i_eq0, b2i_eq1, b2i_bool, nor_self, nx_pI, kd_pI, ln_pI, fI_pI, fL_pI, fR_pI, aI_pI, aL_pI, aR_pI, nx_pL, kd_pL, ln_pL, fI_pL, fL_pL, fR_pL, aI_pL, aL_pL, aR_pL, nx_pR, kd_pR, ln_pR, fI_pR, fL_pR, fR_pR, aI_pR, aL_pR, aR_pR, nx_qI, kd_qI, ln_qI, fI_qI, fL_qI, fR_qI, aI_qI, aL_qI, aR_qI, nx_qL, kd_qL, ln_qL, fI_qL, fL_qL, fR_qL, aI_qL, aL_qL, aR_qL, nx_qR, kd_qR, ln_qR, fI_qR, fL_qR, fR_qR, aI_qR, aL_qR, aR_qR, nx_mk, kd_mk, ln_mk, fI_mk, fL_mk, fR_mk, aI_mk, aL_mk, aR_mk, false_and, and_false, if_false, if_true, and_self, Int.reduceEq, Nat.reduceEqDiff, ite_self, MLay_pI, MLay_pL, MLay_qI, MLay_qL, ev_X4_readPart_6, ev_X4_readPart_7, ev_X4_readPart_8, ev_X4_readPart_10, xt_X4_readPart, xf_X4_readPart, us_X4_isWord, us_X4_isSign, us_X4_factNamed, us_X4_refuse, us_X4_nextToken, us_X7_addStep, hC, hk, eL, ez]
    repeat' (first | intro z | apply And.intro)
    all_goals try omega
    all_goals try contradiction
    all_goals exact ⟨p, hR, w13⟩
  clear h w18 w13
  refine go_X4_readPart hr (ct := fun p => p == 6) 10 ?_
  simp only [oI, oL, oR, o1, lI, lL, lR, popN, catS, gv, stL, stL2, swt, cnd, spObj, List.getElem?_cons_zero, List.getElem?_cons_succ, List.getD_cons_zero, List.getD_cons_succ, List.set_cons_zero, List.set_cons_succ, List.nil_append, List.cons_append, Option.toList, Bool.or_false, Bool.false_or, Bool.or_true, Bool.true_or, Nat.reduceBEq, Nat.reduceAdd, Nat.reduceLT, Nat.reduceLeDiff, Int.reduceAdd, Int.reduceToNat, true_and, and_true, Fin.isValue, Fin.val_zero, Fin.val_one, Fin.val_two, Fin.reduceFinMk, eq_self, Int.reduceNeg, imp_self, Nat.reduceMul, Nat.le_refl, not_true_eq_false, not_false_eq_true, List.getElem?_nil, reduceCtorEq, true_or, or_true, Classical.not_not, implies_true, or_self, wI_0, wI_1, wI_m1, b2i_w, b2i_eq0, b2i_eq1, b2i_bool, nor_self, nx_pI, kd_pI, ln_pI, fI_pI, fL_pI, fR_pI, aI_pI, aL_pI, aR_pI, nx_pL, kd_pL, ln_pL, fI_pL, fL_pL, fR_pL, aI_pL, aL_pL, aR_pL, nx_pR, kd_pR, ln_pR, fI_pR, fL_pR, fR_pR, aI_pR, aL_pR, aR_pR, nx_qI, kd_qI, ln_qI, fI_qI, fL_qI, fR_qI, aI_qI, aL_qI, aR_qI, nx_qL, kd_qL, ln_qL, fI_qL, fL_qL, fR_qL, aI_qL, aL_qL, aR_qL, nx_qR, kd_qR, ln_qR, fI_qR, fL_qR, fR_qR, aI_qR, aL_qR, aR_qR, nx_mk, kd_mk, ln_mk, fI_mk, fL_mk, fR_mk, aI_mk, aL_mk, aR_mk, false_and, and_false, if_false, if_true, and_self, Int.reduceEq, Nat.reduceEqDiff, ite_self, MLay_pI, MLay_pL, MLay_qI, MLay_qL, ev_X4_readPart_0, ev_X4_readPart_1, ev_X4_readPart_3, xt_X4_readPart, xf_X4_readPart, us_X4_isWord, us_X4_isSign, us_X4_factNamed, us_X4_refuse, us_X4_nextToken, us_X7_addStep, hC, hk, eL, ez]
  repeat' (first | intro z | apply And.intro)
  all_goals try omega
  all_goals try contradiction
  all_goals exact ⟨p, 10631, hR, hN, w6⟩

set_option maxRecDepth 20000 in
theorem rp_79 {d : Nat} (hr : HR_X4_readPart d) {Q : Option AV → Hp → Prop} {σ : Hp} {dep z D p x2 x3 x4 x5 : Int} {L : Int → Int} {css : List (List Int)} {ss : List Int} (hd : 0 < d) (hS : RS L z D css ss p σ) (h : ∀ σ', RF D σ σ' → RS L z D css ss (tE L z p) σ' → Go (M_X4_readPart d) Q 83 [some (vr 26), some (vi dep), some (vi x2), some (vi x3), some (vi x4), some (vi x5)] [] σ' (0, 0)) : Go (M_X4_readPart d) Q 79 [some (vr 26), some (vi dep), some (vi x2), some (vi x3), some (vi x4), some (vi x5)] [] σ (0, 0) := by
  obtain ⟨hk, hC, hX, hG, hT, hR, eL, ez, hD, hO, hkD, hp, hz, r1, r2, r3, r4⟩ := hS.fx
  have ht := tok_in L hp.2
  have hb : 0 ≤ tE L z p ∧ tE L z p ≤ z := by omega
  have w : ∀ σ', Fz tkF noR noR σ σ' → RD σ' (tE L z p) → Go (M_X4_readPart d) Q 83 [some (vr 26), some (vi dep), some (vi x2), some (vi x3), some (vi x4), some (vi x5)] [] σ' (0, 0) := fun σ' y1 y2 => h σ' (Fz_rd y1) (hS.nx y1 y2)
  clear h hS hX hR
  refine go_X4_readPart hr (ct := fun p => p == 83) 10 ?_
  simp only [oI, oL, oR, o1, lI, lL, lR, popN, catS, gv, stL, stL2, swt, cnd, spObj, List.getElem?_cons_zero, List.getElem?_cons_succ, List.getD_cons_zero, List.getD_cons_succ, List.set_cons_zero, List.set_cons_succ, List.nil_append, List.cons_append, Option.toList, Bool.or_false, Bool.false_or, Bool.or_true, Bool.true_or, Nat.reduceBEq, Nat.reduceAdd, Nat.reduceLT, Nat.reduceLeDiff, Int.reduceAdd, Int.reduceToNat, true_and, and_true, Fin.isValue, Fin.val_zero, Fin.val_one, Fin.val_two, Fin.reduceFinMk, eq_self, Int.reduceNeg, imp_self, Nat.reduceMul, Nat.le_refl, not_true_eq_false, not_false_eq_true, List.getElem?_nil, reduceCtorEq, true_or, or_true, Classical.not_not, implies_true, or_self, wI_0, wI_1, wI_m1, b2i_w, b2i_eq0, b2i_eq1, b2i_bool, nor_self, nx_pI, kd_pI, ln_pI, fI_pI, fL_pI, fR_pI, aI_pI, aL_pI, aR_pI, nx_pL, kd_pL, ln_pL, fI_pL, fL_pL, fR_pL, aI_pL, aL_pL, aR_pL, nx_pR, kd_pR, ln_pR, fI_pR, fL_pR, fR_pR, aI_pR, aL_pR, aR_pR, nx_qI, kd_qI, ln_qI, fI_qI, fL_qI, fR_qI, aI_qI, aL_qI, aR_qI, nx_qL, kd_qL, ln_qL, fI_qL, fL_qL, fR_qL, aI_qL, aL_qL, aR_qL, nx_qR, kd_qR, ln_qR, fI_qR, fL_qR, fR_qR, aI_qR, aL_qR, aR_qR, nx_mk, kd_mk, ln_mk, fI_mk, fL_mk, fR_mk, aI_mk, aL_mk, aR_mk, false_and, and_false, if_false, if_true, and_self, Int.reduceEq, Nat.reduceEqDiff, ite_self, MLay_pI, MLay_pL, MLay_qI, MLay_qL, ev_X4_readPart_79, ev_X4_readPart_80, xt_X4_readPart, xf_X4_readPart, us_X4_isWord, us_X4_isSign, us_X4_factNamed, us_X4_refuse, us_X4_nextToken, us_X7_addStep, hC, hk, hT, hG, r2, ez, hb]
  repeat' (first | intro z | apply And.intro)
  all_goals try omega
  all_goals try contradiction
  all_goals exact w _ ‹_› ‹_›

set_option maxRecDepth 20000 in
theorem rp_100 {d : Nat} (hr : HR_X4_readPart d) {Q : Option AV → Hp → Prop} {σ : Hp} {dep z D p x2 x3 x4 x5 : Int} {L : Int → Int} {css : List (List Int)} {ss : List Int} (hd : 0 < d) (hS : RS L z D css ss p σ) (hc : cntS css ss < 1000) (h : Q (some (vi 1)) (cAdd σ D x5)) : Go (M_X4_readPart d) Q 100 [some (vr 26), some (vi dep), some (vi x2), some (vi x3), some (vi x4), some (vi x5)] [] σ (0, 0) := by
  obtain ⟨hk, hC, -, -, -, -, -, -, hD, hO, hkD, -⟩ := hS.fx
  have hq := RdL.dr hS.1 hc (cnt_nn _ _)
  clear hS hC
  refine go_X4_readPart hr (ct := fun p => p == 91) 20 ?_
  simp only [oI, oL, oR, o1, lI, lL, lR, popN, catS, gv, stL, stL2, swt, cnd, spObj, List.getElem?_cons_zero, List.getElem?_cons_succ, List.getD_cons_zero, List.getD_cons_succ, List.set_cons_zero, List.set_cons_succ, List.nil_append, List.cons_append, Option.toList, Bool.or_false, Bool.false_or, Bool.or_true, Bool.true_or, Nat.reduceBEq, Nat.reduceAdd, Nat.reduceLT, Nat.reduceLeDiff, Int.reduceAdd, Int.reduceToNat, true_and, and_true, Fin.isValue, Fin.val_zero, Fin.val_one, Fin.val_two, Fin.reduceFinMk, eq_self, Int.reduceNeg, imp_self, Nat.reduceMul, Nat.le_refl, not_true_eq_false, not_false_eq_true, List.getElem?_nil, reduceCtorEq, true_or, or_true, Classical.not_not, implies_true, or_self, wI_0, wI_1, wI_m1, b2i_w, b2i_eq0, b2i_eq1, b2i_bool, nor_self, nx_pI, kd_pI, ln_pI, fI_pI, fL_pI, fR_pI, aI_pI, aL_pI, aR_pI, nx_pL, kd_pL, ln_pL, fI_pL, fL_pL, fR_pL, aI_pL, aL_pL, aR_pL, nx_pR, kd_pR, ln_pR, fI_pR, fL_pR, fR_pR, aI_pR, aL_pR, aR_pR, nx_qI, kd_qI, ln_qI, fI_qI, fL_qI, fR_qI, aI_qI, aL_qI, aR_qI, nx_qL, kd_qL, ln_qL, fI_qL, fL_qL, fR_qL, aI_qL, aL_qL, aR_qL, nx_qR, kd_qR, ln_qR, fI_qR, fL_qR, fR_qR, aI_qR, aL_qR, aR_qR, nx_mk, kd_mk, ln_mk, fI_mk, fL_mk, fR_mk, aI_mk, aL_mk, aR_mk, false_and, and_false, if_false, if_true, and_self, Int.reduceEq, Nat.reduceEqDiff, ite_self, MLay_pI, MLay_pL, MLay_qI, MLay_qL, ev_X4_readPart_100, ev_X4_readPart_101, ev_X4_readPart_104, ev_X4_readPart_106, ev_X4_readPart_109, ev_X4_readPart_110, xt_X4_readPart, xf_X4_readPart, us_X4_isWord, us_X4_isSign, us_X4_factNamed, us_X4_refuse, us_X4_nextToken, us_X7_addStep, hk, hD, hO, hkD, hq]
  repeat' (first | intro z | apply And.intro)
  all_goals try omega
  all_goals try contradiction
  all_goals exact h

set_option maxRecDepth 20000 in
theorem rp_99 {d : Nat} (hr : HR_X4_readPart d) {Q : Option AV → Hp → Prop} {σ : Hp} {dep x2 x3 x4 x5 v : Int} (hv : v = 0 ∨ v = 1) (h : Q (some (vi v)) σ) : Go (M_X4_readPart d) Q 99 [some (vr 26), some (vi dep), some (vi x2), some (vi x3), some (vi x4), some (vi x5)] [vi v] σ (0, 0) := by
  refine go_X4_readPart hr (ct := fun p => p == 91) 10 ?_
  simp only [oI, oL, oR, o1, lI, lL, lR, popN, catS, gv, stL, stL2, swt, cnd, spObj, List.getElem?_cons_zero, List.getElem?_cons_succ, List.getD_cons_zero, List.getD_cons_succ, List.set_cons_zero, List.set_cons_succ, List.nil_append, List.cons_append, Option.toList, Bool.or_false, Bool.false_or, Bool.or_true, Bool.true_or, Nat.reduceBEq, Nat.reduceAdd, Nat.reduceLT, Nat.reduceLeDiff, Int.reduceAdd, Int.reduceToNat, true_and, and_true, Fin.isValue, Fin.val_zero, Fin.val_one, Fin.val_two, Fin.reduceFinMk, eq_self, Int.reduceNeg, imp_self, Nat.reduceMul, Nat.le_refl, not_true_eq_false, not_false_eq_true, List.getElem?_nil, reduceCtorEq, true_or, or_true, Classical.not_not, implies_true, or_self, wI_0, wI_1, wI_m1, b2i_w, b2i_eq0, b2i_eq1, b2i_bool, nor_self, nx_pI, kd_pI, ln_pI, fI_pI, fL_pI, fR_pI, aI_pI, aL_pI, aR_pI, nx_pL, kd_pL, ln_pL, fI_pL, fL_pL, fR_pL, aI_pL, aL_pL, aR_pL, nx_pR, kd_pR, ln_pR, fI_pR, fL_pR, fR_pR, aI_pR, aL_pR, aR_pR, nx_qI, kd_qI, ln_qI, fI_qI, fL_qI, fR_qI, aI_qI, aL_qI, aR_qI, nx_qL, kd_qL, ln_qL, fI_qL, fL_qL, fR_qL, aI_qL, aL_qL, aR_qL, nx_qR, kd_qR, ln_qR, fI_qR, fL_qR, fR_qR, aI_qR, aL_qR, aR_qR, nx_mk, kd_mk, ln_mk, fI_mk, fL_mk, fR_mk, aI_mk, aL_mk, aR_mk, false_and, and_false, if_false, if_true, and_self, Int.reduceEq, Nat.reduceEqDiff, ite_self, MLay_pI, MLay_pL, MLay_qI, MLay_qL, ev_X4_readPart_99, xt_X4_readPart, xf_X4_readPart, us_X4_isWord, us_X4_isSign, us_X4_factNamed, us_X4_refuse, us_X4_nextToken, us_X7_addStep]
  repeat' (first | intro z | apply And.intro)
  all_goals try omega
  all_goals try contradiction
  all_goals exact h

set_option maxRecDepth 20000 in
theorem rp_91 {d : Nat} (hr : HR_X4_readPart d) {Q : Option AV → Hp → Prop} {σ : Hp} {dep z D p x2 x3 x4 x5 : Int} {L : Int → Int} {css : List (List Int)} {ss : List Int} {m : Nat} (hd : 0 < d) (hS : RS L z D css ss p σ) (hx : x3 = 0 ∨ x3 = 1) (hd2 : 0 < d - 1 ∧ (dep + 1) + ((d - 1 : Nat) : Int) = 6 ∧ 0 ≤ dep + 1) (hcn : cntS css ss < p) (hm : 8 * (z - p) + 4 ≤ m) (hQ : RdPost σ D L z css ss (fInn L z x3 (pp L z m 4 (dep + 1) (a0 p)) (pp L z m 0 (dep + 1) (a0 p))) Q) : Go (M_X4_readPart d) Q 91 [some (vr 26), some (vi dep), some (vi x2), some (vi x3), some (vi x4), some (vi x5)] [] σ (0, 0) := by
  obtain ⟨hk, -⟩ := hS.fx
  have g0 : (fInn L z x3 (pp L z m 4 (dep + 1) (a0 p)) (pp L z m 0 (dep + 1) (a0 p))).1 ≠ 0 → ∀ σ', RF D σ σ' → fI σ' 507 26 = (fInn L z x3 (pp L z m 4 (dep + 1) (a0 p)) (pp L z m 0 (dep + 1) (a0 p))).1 → Go (M_X4_readPart d) Q 99 [some (vr 26), some (vi dep), some (vi x2), some (vi x3), some (vi x4), some (vi x5)] [vi 0] σ' (0, 0) := fun q σ' y3 y4 => rp_99 hr (Or.inl rfl) (hQ.1 q σ' y3 y4)
  have g1 : (fInn L z x3 (pp L z m 4 (dep + 1) (a0 p)) (pp L z m 0 (dep + 1) (a0 p))).1 = 0 → ∀ σ', RF D σ σ' → RS L z D css (ss ++ (fInn L z x3 (pp L z m 4 (dep + 1) (a0 p)) (pp L z m 0 (dep + 1) (a0 p))).2.2.2.1) (fInn L z x3 (pp L z m 4 (dep + 1) (a0 p)) (pp L z m 0 (dep + 1) (a0 p))).2.1 σ' → Go (M_X4_readPart d) Q 99 [some (vr 26), some (vi dep), some (vi x2), some (vi x3), some (vi x4), some (vi x5)] [vi 1] σ' (0, 0) := fun q σ' y3 y4 => rp_99 hr (Or.inr rfl) (hQ.2 q σ' y3 y4)
  clear hQ
  have hpre : RdPre (d - 1) L z D css ss p (dep + 1) σ := ⟨hS, hd2, by omega⟩
  clear hS hd2
  refine go_X4_readPart hr (ct := fun p => p == 99) 10 ?_
  simp only [oI, oL, oR, o1, lI, lL, lR, popN, catS, gv, stL, stL2, swt, cnd, spObj, List.getElem?_cons_zero, List.getElem?_cons_succ, List.getD_cons_zero, List.getD_cons_succ, List.set_cons_zero, List.set_cons_succ, List.nil_append, List.cons_append, Option.toList, Bool.or_false, Bool.false_or, Bool.or_true, Bool.true_or, Nat.reduceBEq, Nat.reduceAdd, Nat.reduceLT, Nat.reduceLeDiff, Int.reduceAdd, Int.reduceToNat, true_and, and_true, Fin.isValue, Fin.val_zero, Fin.val_one, Fin.val_two, Fin.reduceFinMk, eq_self, Int.reduceNeg, imp_self, Nat.reduceMul, Nat.le_refl, not_true_eq_false, not_false_eq_true, List.getElem?_nil, reduceCtorEq, true_or, or_true, Classical.not_not, implies_true, or_self, wI_0, wI_1, wI_m1, b2i_w, b2i_eq0, b2i_eq1, b2i_bool, nor_self, nx_pI, kd_pI, ln_pI, fI_pI, fL_pI, fR_pI, aI_pI, aL_pI, aR_pI, nx_pL, kd_pL, ln_pL, fI_pL, fL_pL, fR_pL, aI_pL, aL_pL, aR_pL, nx_pR, kd_pR, ln_pR, fI_pR, fL_pR, fR_pR, aI_pR, aL_pR, aR_pR, nx_qI, kd_qI, ln_qI, fI_qI, fL_qI, fR_qI, aI_qI, aL_qI, aR_qI, nx_qL, kd_qL, ln_qL, fI_qL, fL_qL, fR_qL, aI_qL, aL_qL, aR_qL, nx_qR, kd_qR, ln_qR, fI_qR, fL_qR, fR_qR, aI_qR, aL_qR, aR_qR, nx_mk, kd_mk, ln_mk, fI_mk, fL_mk, fR_mk, aI_mk, aL_mk, aR_mk, false_and, and_false, if_false, if_true, and_self, Int.reduceEq, Nat.reduceEqDiff, ite_self, MLay_pI, MLay_pL, MLay_qI, MLay_qL, ev_X4_readPart_91, ev_X4_readPart_92, ev_X4_readPart_93, ev_X4_readPart_94, ev_X4_readPart_95, ev_X4_readPart_96, xt_X4_readPart, xf_X4_readPart, us_X4_isWord, us_X4_isSign, us_X4_factNamed, us_X4_refuse, us_X4_nextToken, us_X7_addStep, us_X4_readInner, RdPost, hk]
  repeat' (first | intro z | apply And.intro)
  all_goals try omega
  all_goals try contradiction
  all_goals exact ⟨_, _, _, _, _, _, _, hpre, hcn, hm, g0, g1⟩

set_option maxRecDepth 20000 in
theorem cr_X4_readPart {d : Nat} (hr : HR_X4_readPart d) : Ct yX4_readPart cX4_readPart 6 ((some FieldType.boolean)) (5*d+6) 0 0 (sp_X4_readPart d) := by
  refine Ct.go (M := M_X4_readPart d) (mm_X4_readPart hr) fun av σ Q h0 => ?_
  obtain ⟨this, dep, rfl, hk, h⟩ := el_X4_readPart d h0
  clear h0
  refine ⟨Nat.le_of_ble_eq_true rfl, ?_⟩
  show Go (M_X4_readPart d) Q 0 [some (vr this), some (vi dep), none, none, none, none] [] σ (0, 0)
  obtain ⟨rfl, L, z, D, css, ss, p, m, ⟨hS, hd, hcn⟩, hm, hQ⟩ := h
  obtain ⟨hk9, hC, hX, hG, hT, hR, eL, ez, hD, hO, hkD, hp, hz, r1, r2, r3, r4⟩ := hS.fx
  obtain ⟨m, rfl⟩ : ∃ k, m = k + 1 := ⟨m - 1, by omega⟩
  rw [pp_0] at hQ
  have ea : (a0 p).2.1 = p := rfl
  rw [ea] at hQ
  have ht := tok_in L hp.2
  have htk := km_in L z p
  have hf := fc_in L z p
  have htt := tT_in L z p hp.2
  have hpl : 0 ≤ kB L z p ∧ kB L z p ≤ 1000 := by omega
  refine rp_0 hr hd.1 hS ?_
  by_cases c1 : fc L z p = 0 ∧ ¬ isW L z p 10631 ∧ ¬ isS L z p 40 ∧ ¬ tK L z p = 2
  · unfold fPart RdPost at hQ
    rw [if_pos c1] at hQ
    have h := hQ.1 (by show ¬ (1 + 16 * kB L z p = 0); omega) _ (RF.flt σ (1 + 16 * kB L z p)) (by rw [fI_pI, if_pos ⟨rfl, rfl⟩])
    have e4 : fc L z p - 1 = -1 := by omega
    rw [b2i_f c1.2.1, b2i_f c1.2.2.1, e4]
    have hk3 : ¬ km (tK L z p) = 3 := by omega
    clear hQ hS hX hR hT hC
    generalize km (tK L z p) = kk at *
    generalize kB L z p = bb at *
    clear c1
    refine go_X4_readPart hr (ct := fun p => p == 48) 40 ?_
    simp only [oI, oL, oR, o1, lI, lL, lR, popN, catS, gv, stL, stL2, swt, cnd, spObj, List.getElem?_cons_zero, List.getElem?_cons_succ, List.getD_cons_zero, List.getD_cons_succ, List.set_cons_zero, List.set_cons_succ, List.nil_append, List.cons_append, Option.toList, Bool.or_false, Bool.false_or, Bool.or_true, Bool.true_or, Nat.reduceBEq, Nat.reduceAdd, Nat.reduceLT, Nat.reduceLeDiff, Int.reduceAdd, Int.reduceToNat, true_and, and_true, Fin.isValue, Fin.val_zero, Fin.val_one, Fin.val_two, Fin.reduceFinMk, eq_self, Int.reduceNeg, imp_self, Nat.reduceMul, Nat.le_refl, not_true_eq_false, not_false_eq_true, List.getElem?_nil, reduceCtorEq, true_or, or_true, Classical.not_not, implies_true, or_self, wI_0, wI_1, wI_m1, b2i_w, b2i_eq0, b2i_eq1, b2i_bool, nor_self, nx_pI, kd_pI, ln_pI, fI_pI, fL_pI, fR_pI, aI_pI, aL_pI, aR_pI, nx_pL, kd_pL, ln_pL, fI_pL, fL_pL, fR_pL, aI_pL, aL_pL, aR_pL, nx_pR, kd_pR, ln_pR, fI_pR, fL_pR, fR_pR, aI_pR, aL_pR, aR_pR, nx_qI, kd_qI, ln_qI, fI_qI, fL_qI, fR_qI, aI_qI, aL_qI, aR_qI, nx_qL, kd_qL, ln_qL, fI_qL, fL_qL, fR_qL, aI_qL, aL_qL, aR_qL, nx_qR, kd_qR, ln_qR, fI_qR, fL_qR, fR_qR, aI_qR, aL_qR, aR_qR, nx_mk, kd_mk, ln_mk, fI_mk, fL_mk, fR_mk, aI_mk, aL_mk, aR_mk, false_and, and_false, if_false, if_true, and_self, Int.reduceEq, Nat.reduceEqDiff, ite_self, MLay_pI, MLay_pL, MLay_qI, MLay_qL, ev_X4_readPart_20, ev_X4_readPart_21, ev_X4_readPart_24, ev_X4_readPart_25, ev_X4_readPart_28, ev_X4_readPart_30, ev_X4_readPart_31, ev_X4_readPart_34, ev_X4_readPart_35, ev_X4_readPart_38, ev_X4_readPart_39, ev_X4_readPart_42, ev_X4_readPart_43, ev_X4_readPart_44, ev_X4_readPart_47, xt_X4_readPart, xf_X4_readPart, us_X4_isWord, us_X4_isSign, us_X4_factNamed, us_X4_refuse, us_X4_nextToken, us_X7_addStep, hk, r1, r3, hpl]
    try simp (disch := omega) only [wI_id, dv_nn, rm_nn]
    repeat' (first | intro z | apply And.intro)
    all_goals try omega
    all_goals try contradiction
    all_goals exact h
  by_cases c2 : dep = 5
  · unfold fPart RdPost at hQ
    rw [if_neg c1, if_pos c2] at hQ
    have h := hQ.1 (by show ¬ (5 + 16 * kB L z p = 0); omega) _ (RF.flt σ (5 + 16 * kB L z p)) (by rw [fI_pI, if_pos ⟨rfl, rfl⟩])
    have w48 : ∀ x2 x3 x4 : Int, Go (M_X4_readPart d) Q 48 [some (vr 26), some (vi dep), some (vi x2), some (vi x3), some (vi x4), none] [] σ (0, 0) := fun x2 x3 x4 => by
      clear hQ hS hX hR hT hC c1
      refine go_X4_readPart hr (ct := fun p => p == 59) 40 ?_
      simp only [oI, oL, oR, o1, lI, lL, lR, popN, catS, gv, stL, stL2, swt, cnd, spObj, List.getElem?_cons_zero, List.getElem?_cons_succ, List.getD_cons_zero, List.getD_cons_succ, List.set_cons_zero, List.set_cons_succ, List.nil_append, List.cons_append, Option.toList, Bool.or_false, Bool.false_or, Bool.or_true, Bool.true_or, Nat.reduceBEq, Nat.reduceAdd, Nat.reduceLT, Nat.reduceLeDiff, Int.reduceAdd, Int.reduceToNat, true_and, and_true, Fin.isValue, Fin.val_zero, Fin.val_one, Fin.val_two, Fin.reduceFinMk, eq_self, Int.reduceNeg, imp_self, Nat.reduceMul, Nat.le_refl, not_true_eq_false, not_false_eq_true, List.getElem?_nil, reduceCtorEq, true_or, or_true, Classical.not_not, implies_true, or_self, wI_0, wI_1, wI_m1, b2i_w, b2i_eq0, b2i_eq1, b2i_bool, nor_self, nx_pI, kd_pI, ln_pI, fI_pI, fL_pI, fR_pI, aI_pI, aL_pI, aR_pI, nx_pL, kd_pL, ln_pL, fI_pL, fL_pL, fR_pL, aI_pL, aL_pL, aR_pL, nx_pR, kd_pR, ln_pR, fI_pR, fL_pR, fR_pR, aI_pR, aL_pR, aR_pR, nx_qI, kd_qI, ln_qI, fI_qI, fL_qI, fR_qI, aI_qI, aL_qI, aR_qI, nx_qL, kd_qL, ln_qL, fI_qL, fL_qL, fR_qL, aI_qL, aL_qL, aR_qL, nx_qR, kd_qR, ln_qR, fI_qR, fL_qR, fR_qR, aI_qR, aL_qR, aR_qR, nx_mk, kd_mk, ln_mk, fI_mk, fL_mk, fR_mk, aI_mk, aL_mk, aR_mk, false_and, and_false, if_false, if_true, and_self, Int.reduceEq, Nat.reduceEqDiff, ite_self, MLay_pI, MLay_pL, MLay_qI, MLay_qL, ev_X4_readPart_48, ev_X4_readPart_49, ev_X4_readPart_50, ev_X4_readPart_53, ev_X4_readPart_54, ev_X4_readPart_55, ev_X4_readPart_58, xt_X4_readPart, xf_X4_readPart, us_X4_isWord, us_X4_isSign, us_X4_factNamed, us_X4_refuse, us_X4_nextToken, us_X7_addStep, hk, r1, hpl]
      try simp (disch := omega) only [wI_id, dv_nn, rm_nn]
      repeat' (first | intro z | apply And.intro)
      all_goals try omega
      all_goals try contradiction
      all_goals exact h
    have c1' : km (tK L z p) = 3 ∨ (¬ km (tK L z p) = 3 ∧ (¬ fc L z p - 1 = -1 ∨ (fc L z p - 1 = -1 ∧ (¬ b2i (isW L z p 10631) = 0 ∨ (b2i (isW L z p 10631) = 0 ∧ ¬ b2i (isS L z p 40) = 0))))) := by
      rw [b2i_eq0, b2i_eq0]
      by_cases q1 : tK L z p = 2
      · exact Or.inl (by omega)
      · refine Or.inr ⟨by omega, ?_⟩
        by_cases q2 : fc L z p = 0
        · refine Or.inr ⟨by omega, ?_⟩
          by_cases q3 : isW L z p 10631
          · exact Or.inl (fun q => q q3)
          · refine Or.inr ⟨q3, fun q => c1 ⟨q2, q3, q, q1⟩⟩
        · exact Or.inl (by omega)
    have bw := b2i_w (isW L z p 10631)
    have bs := b2i_w (isS L z p 40)
    have fw : wI (fc L z p - 1) = fc L z p - 1 := wI_id (by omega) (by omega)
    have kw : wI (km (tK L z p)) = km (tK L z p) := wI_id (by omega) (by omega)
    have w48 := w48 (b2i (isW L z p 10631)) (b2i (isS L z p 40)) (fc L z p - 1)
    clear hQ hS hX hR hT hC c1 r1 r2 r4 h hpl hm hcn htt ht hp hz
    generalize b2i (isW L z p 10631) = x2 at *
    generalize b2i (isS L z p 40) = x3 at *
    generalize fc L z p - 1 = x4 at *
    generalize km (tK L z p) = kk at *
    clear htk hf
    rcases c1' with c | ⟨n1, c | ⟨n2, c | ⟨n3, c⟩⟩⟩
    · subst c
      refine go_X4_readPart hr (ct := fun p => p == 28 || p == 48) 40 ?_
      simp only [oI, oL, oR, o1, lI, lL, lR, popN, catS, gv, stL, stL2, swt, cnd, spObj, List.getElem?_cons_zero, List.getElem?_cons_succ, List.getD_cons_zero, List.getD_cons_succ, List.set_cons_zero, List.set_cons_succ, List.nil_append, List.cons_append, Option.toList, Bool.or_false, Bool.false_or, Bool.or_true, Bool.true_or, Nat.reduceBEq, Nat.reduceAdd, Nat.reduceLT, Nat.reduceLeDiff, Int.reduceAdd, Int.reduceToNat, true_and, and_true, Fin.isValue, Fin.val_zero, Fin.val_one, Fin.val_two, Fin.reduceFinMk, eq_self, Int.reduceNeg, imp_self, Nat.reduceMul, Nat.le_refl, not_true_eq_false, not_false_eq_true, List.getElem?_nil, reduceCtorEq, true_or, or_true, Classical.not_not, implies_true, or_self, wI_0, wI_1, wI_m1, b2i_w, b2i_eq0, b2i_eq1, b2i_bool, nor_self, nx_pI, kd_pI, ln_pI, fI_pI, fL_pI, fR_pI, aI_pI, aL_pI, aR_pI, nx_pL, kd_pL, ln_pL, fI_pL, fL_pL, fR_pL, aI_pL, aL_pL, aR_pL, nx_pR, kd_pR, ln_pR, fI_pR, fL_pR, fR_pR, aI_pR, aL_pR, aR_pR, nx_qI, kd_qI, ln_qI, fI_qI, fL_qI, fR_qI, aI_qI, aL_qI, aR_qI, nx_qL, kd_qL, ln_qL, fI_qL, fL_qL, fR_qL, aI_qL, aL_qL, aR_qL, nx_qR, kd_qR, ln_qR, fI_qR, fL_qR, fR_qR, aI_qR, aL_qR, aR_qR, nx_mk, kd_mk, ln_mk, fI_mk, fL_mk, fR_mk, aI_mk, aL_mk, aR_mk, false_and, and_false, if_false, if_true, and_self, Int.reduceEq, Nat.reduceEqDiff, ite_self, MLay_pI, MLay_pL, MLay_qI, MLay_qL, ev_X4_readPart_20, ev_X4_readPart_21, ev_X4_readPart_24, ev_X4_readPart_25, ev_X4_readPart_28, ev_X4_readPart_30, ev_X4_readPart_31, ev_X4_readPart_34, ev_X4_readPart_35, ev_X4_readPart_38, ev_X4_readPart_39, xt_X4_readPart, xf_X4_readPart, us_X4_isWord, us_X4_isSign, us_X4_factNamed, us_X4_refuse, us_X4_nextToken, us_X7_addStep, hk, r3]
      try simp (disch := omega) only [wI_id, dv_nn, rm_nn]
      repeat' (first | intro z | apply And.intro)
      all_goals try omega
      all_goals try contradiction
      all_goals exact w48
    · refine go_X4_readPart hr (ct := fun p => p == 34 || p == 48) 40 ?_
      simp only [oI, oL, oR, o1, lI, lL, lR, popN, catS, gv, stL, stL2, swt, cnd, spObj, List.getElem?_cons_zero, List.getElem?_cons_succ, List.getD_cons_zero, List.getD_cons_succ, List.set_cons_zero, List.set_cons_succ, List.nil_append, List.cons_append, Option.toList, Bool.or_false, Bool.false_or, Bool.or_true, Bool.true_or, Nat.reduceBEq, Nat.reduceAdd, Nat.reduceLT, Nat.reduceLeDiff, Int.reduceAdd, Int.reduceToNat, true_and, and_true, Fin.isValue, Fin.val_zero, Fin.val_one, Fin.val_two, Fin.reduceFinMk, eq_self, Int.reduceNeg, imp_self, Nat.reduceMul, Nat.le_refl, not_true_eq_false, not_false_eq_true, List.getElem?_nil, reduceCtorEq, true_or, or_true, Classical.not_not, implies_true, or_self, wI_0, wI_1, wI_m1, b2i_w, b2i_eq0, b2i_eq1, b2i_bool, nor_self, nx_pI, kd_pI, ln_pI, fI_pI, fL_pI, fR_pI, aI_pI, aL_pI, aR_pI, nx_pL, kd_pL, ln_pL, fI_pL, fL_pL, fR_pL, aI_pL, aL_pL, aR_pL, nx_pR, kd_pR, ln_pR, fI_pR, fL_pR, fR_pR, aI_pR, aL_pR, aR_pR, nx_qI, kd_qI, ln_qI, fI_qI, fL_qI, fR_qI, aI_qI, aL_qI, aR_qI, nx_qL, kd_qL, ln_qL, fI_qL, fL_qL, fR_qL, aI_qL, aL_qL, aR_qL, nx_qR, kd_qR, ln_qR, fI_qR, fL_qR, fR_qR, aI_qR, aL_qR, aR_qR, nx_mk, kd_mk, ln_mk, fI_mk, fL_mk, fR_mk, aI_mk, aL_mk, aR_mk, false_and, and_false, if_false, if_true, and_self, Int.reduceEq, Nat.reduceEqDiff, ite_self, MLay_pI, MLay_pL, MLay_qI, MLay_qL, ev_X4_readPart_20, ev_X4_readPart_21, ev_X4_readPart_24, ev_X4_readPart_25, ev_X4_readPart_28, ev_X4_readPart_30, ev_X4_readPart_31, ev_X4_readPart_34, ev_X4_readPart_35, ev_X4_readPart_38, ev_X4_readPart_39, xt_X4_readPart, xf_X4_readPart, us_X4_isWord, us_X4_isSign, us_X4_factNamed, us_X4_refuse, us_X4_nextToken, us_X7_addStep, hk, r3, kw, fw]
      repeat' (first | intro z | apply And.intro)
      all_goals try omega
      all_goals try contradiction
      all_goals exact w48
    · subst n2
      refine go_X4_readPart hr (ct := fun p => p == 38 || p == 48) 40 ?_
      simp only [oI, oL, oR, o1, lI, lL, lR, popN, catS, gv, stL, stL2, swt, cnd, spObj, List.getElem?_cons_zero, List.getElem?_cons_succ, List.getD_cons_zero, List.getD_cons_succ, List.set_cons_zero, List.set_cons_succ, List.nil_append, List.cons_append, Option.toList, Bool.or_false, Bool.false_or, Bool.or_true, Bool.true_or, Nat.reduceBEq, Nat.reduceAdd, Nat.reduceLT, Nat.reduceLeDiff, Int.reduceAdd, Int.reduceToNat, true_and, and_true, Fin.isValue, Fin.val_zero, Fin.val_one, Fin.val_two, Fin.reduceFinMk, eq_self, Int.reduceNeg, imp_self, Nat.reduceMul, Nat.le_refl, not_true_eq_false, not_false_eq_true, List.getElem?_nil, reduceCtorEq, true_or, or_true, Classical.not_not, implies_true, or_self, wI_0, wI_1, wI_m1, b2i_w, b2i_eq0, b2i_eq1, b2i_bool, nor_self, nx_pI, kd_pI, ln_pI, fI_pI, fL_pI, fR_pI, aI_pI, aL_pI, aR_pI, nx_pL, kd_pL, ln_pL, fI_pL, fL_pL, fR_pL, aI_pL, aL_pL, aR_pL, nx_pR, kd_pR, ln_pR, fI_pR, fL_pR, fR_pR, aI_pR, aL_pR, aR_pR, nx_qI, kd_qI, ln_qI, fI_qI, fL_qI, fR_qI, aI_qI, aL_qI, aR_qI, nx_qL, kd_qL, ln_qL, fI_qL, fL_qL, fR_qL, aI_qL, aL_qL, aR_qL, nx_qR, kd_qR, ln_qR, fI_qR, fL_qR, fR_qR, aI_qR, aL_qR, aR_qR, nx_mk, kd_mk, ln_mk, fI_mk, fL_mk, fR_mk, aI_mk, aL_mk, aR_mk, false_and, and_false, if_false, if_true, and_self, Int.reduceEq, Nat.reduceEqDiff, ite_self, MLay_pI, MLay_pL, MLay_qI, MLay_qL, ev_X4_readPart_20, ev_X4_readPart_21, ev_X4_readPart_24, ev_X4_readPart_25, ev_X4_readPart_28, ev_X4_readPart_30, ev_X4_readPart_31, ev_X4_readPart_34, ev_X4_readPart_35, ev_X4_readPart_38, ev_X4_readPart_39, xt_X4_readPart, xf_X4_readPart, us_X4_isWord, us_X4_isSign, us_X4_factNamed, us_X4_refuse, us_X4_nextToken, us_X7_addStep, hk, r3, kw, fw, bw]
      repeat' (first | intro z | apply And.intro)
      all_goals try omega
      all_goals try contradiction
      all_goals exact w48
    · subst n2
      subst n3
      refine go_X4_readPart hr (ct := fun p => p == 42 || p == 48) 40 ?_
      simp only [oI, oL, oR, o1, lI, lL, lR, popN, catS, gv, stL, stL2, swt, cnd, spObj, List.getElem?_cons_zero, List.getElem?_cons_succ, List.getD_cons_zero, List.getD_cons_succ, List.set_cons_zero, List.set_cons_succ, List.nil_append, List.cons_append, Option.toList, Bool.or_false, Bool.false_or, Bool.or_true, Bool.true_or, Nat.reduceBEq, Nat.reduceAdd, Nat.reduceLT, Nat.reduceLeDiff, Int.reduceAdd, Int.reduceToNat, true_and, and_true, Fin.isValue, Fin.val_zero, Fin.val_one, Fin.val_two, Fin.reduceFinMk, eq_self, Int.reduceNeg, imp_self, Nat.reduceMul, Nat.le_refl, not_true_eq_false, not_false_eq_true, List.getElem?_nil, reduceCtorEq, true_or, or_true, Classical.not_not, implies_true, or_self, wI_0, wI_1, wI_m1, b2i_w, b2i_eq0, b2i_eq1, b2i_bool, nor_self, nx_pI, kd_pI, ln_pI, fI_pI, fL_pI, fR_pI, aI_pI, aL_pI, aR_pI, nx_pL, kd_pL, ln_pL, fI_pL, fL_pL, fR_pL, aI_pL, aL_pL, aR_pL, nx_pR, kd_pR, ln_pR, fI_pR, fL_pR, fR_pR, aI_pR, aL_pR, aR_pR, nx_qI, kd_qI, ln_qI, fI_qI, fL_qI, fR_qI, aI_qI, aL_qI, aR_qI, nx_qL, kd_qL, ln_qL, fI_qL, fL_qL, fR_qL, aI_qL, aL_qL, aR_qL, nx_qR, kd_qR, ln_qR, fI_qR, fL_qR, fR_qR, aI_qR, aL_qR, aR_qR, nx_mk, kd_mk, ln_mk, fI_mk, fL_mk, fR_mk, aI_mk, aL_mk, aR_mk, false_and, and_false, if_false, if_true, and_self, Int.reduceEq, Nat.reduceEqDiff, ite_self, MLay_pI, MLay_pL, MLay_qI, MLay_qL, ev_X4_readPart_20, ev_X4_readPart_21, ev_X4_readPart_24, ev_X4_readPart_25, ev_X4_readPart_28, ev_X4_readPart_30, ev_X4_readPart_31, ev_X4_readPart_34, ev_X4_readPart_35, ev_X4_readPart_38, ev_X4_readPart_39, xt_X4_readPart, xf_X4_readPart, us_X4_isWord, us_X4_isSign, us_X4_factNamed, us_X4_refuse, us_X4_nextToken, us_X7_addStep, hk, r3, kw, fw, bs]
      repeat' (first | intro z | apply And.intro)
      all_goals try omega
      all_goals try contradiction
      all_goals exact w48
  have hdep : dep ≤ 4 := by omega
  have htp : p < tE L z p := by
    refine (ht.2.2.2.2 ?_).2.2
    intro e
    refine c1 ⟨?_, fun q => ?_, fun q => ?_, by omega⟩
    · by_cases e2 : fc L z p = 0
      · exact e2
      · have := hf.2.2 e2; omega
    · have := q.1; omega
    · have := q.1; omega
  have hd2 : 0 < d - 1 ∧ (dep + 1) + ((d - 1 : Nat) : Int) = 6 ∧ 0 ≤ dep + 1 := by omega
  have h0E : 0 ≤ tE L z p := by omega
  unfold fPart at hQ
  rw [if_neg c1, if_neg c2] at hQ
  by_cases c3 : isS L z p 40
  · rw [if_pos c3] at hQ
    have nW : ¬ isW L z p 10631 := fun q => by have := q.1; have := c3.1; omega
    have f0 : fc L z p = 0 := by
      by_cases e2 : fc L z p = 0
      · exact e2
      · have := hf.2.2 e2; have := c3.1; omega
    have e4 : fc L z p - 1 = -1 := by omega
    rw [b2i_f nW, b2i_t c3, e4]
    have k4 : km (tK L z p) = 4 := by rw [c3.1]; rfl
    rw [k4] at r3
    have hQ : RdPost σ D L z css ss (fInn L z 1 (pp L z m 4 (dep + 1) (a0 (tE L z p))) (pp L z m 0 (dep + 1) (a0 (tE L z p)))) Q := by
      unfold fInn
      rw [if_pos (show (1 : Int) = 1 by rfl)]
      exact hQ
    have w83 : ∀ x5 : Int, ∀ σ', RF D σ σ' → RS L z D css ss (tE L z p) σ' → Go (M_X4_readPart d) Q 83 [some (vr 26), some (vi dep), some (vi 0), some (vi 1), some (vi (-1)), some (vi x5)] [] σ' (0, 0) := fun x5 σ' y1 y2 => by
      have w := rp_91 hr (dep := dep) (x2 := 0) (x3 := 1) (x4 := -1) (x5 := x5) (m := m) hd.1 y2 (Or.inr rfl) hd2 (by omega) (by omega) (hQ.mv y1)
      clear hQ y1 y2 hS hX hR hT hC hG
      refine go_X4_readPart hr (ct := fun p => p == 87 || p == 91) 10 ?_
      simp only [oI, oL, oR, o1, lI, lL, lR, popN, catS, gv, stL, stL2, swt, cnd, spObj, List.getElem?_cons_zero, List.getElem?_cons_succ, List.getD_cons_zero, List.getD_cons_succ, List.set_cons_zero, List.set_cons_succ, List.nil_append, List.cons_append, Option.toList, Bool.or_false, Bool.false_or, Bool.or_true, Bool.true_or, Nat.reduceBEq, Nat.reduceAdd, Nat.reduceLT, Nat.reduceLeDiff, Int.reduceAdd, Int.reduceToNat, true_and, and_true, Fin.isValue, Fin.val_zero, Fin.val_one, Fin.val_two, Fin.reduceFinMk, eq_self, Int.reduceNeg, imp_self, Nat.reduceMul, Nat.le_refl, not_true_eq_false, not_false_eq_true, List.getElem?_nil, reduceCtorEq, true_or, or_true, Classical.not_not, implies_true, or_self, wI_0, wI_1, wI_m1, b2i_w, b2i_eq0, b2i_eq1, b2i_bool, nor_self, nx_pI, kd_pI, ln_pI, fI_pI, fL_pI, fR_pI, aI_pI, aL_pI, aR_pI, nx_pL, kd_pL, ln_pL, fI_pL, fL_pL, fR_pL, aI_pL, aL_pL, aR_pL, nx_pR, kd_pR, ln_pR, fI_pR, fL_pR, fR_pR, aI_pR, aL_pR, aR_pR, nx_qI, kd_qI, ln_qI, fI_qI, fL_qI, fR_qI, aI_qI, aL_qI, aR_qI, nx_qL, kd_qL, ln_qL, fI_qL, fL_qL, fR_qL, aI_qL, aL_qL, aR_qL, nx_qR, kd_qR, ln_qR, fI_qR, fL_qR, fR_qR, aI_qR, aL_qR, aR_qR, nx_mk, kd_mk, ln_mk, fI_mk, fL_mk, fR_mk, aI_mk, aL_mk, aR_mk, false_and, and_false, if_false, if_true, and_self, Int.reduceEq, Nat.reduceEqDiff, ite_self, MLay_pI, MLay_pL, MLay_qI, MLay_qL, ev_X4_readPart_83, ev_X4_readPart_84, xt_X4_readPart, xf_X4_readPart, us_X4_isWord, us_X4_isSign, us_X4_factNamed, us_X4_refuse, us_X4_nextToken, us_X7_addStep]
      repeat' (first | intro z | apply And.intro)
      all_goals try omega
      all_goals try contradiction
      all_goals exact w
    have w79 := fun x5 => rp_79 hr (dep := dep) (x2 := 0) (x3 := 1) (x4 := -1) (x5 := x5) hd.1 hS (w83 x5)
    clear w83 hQ hS hX hR hT hC hG
    refine go_X4_readPart hr (ct := fun p => p == 42 || p == 53 || p == 72 || p == 79) 40 ?_
    simp only [oI, oL, oR, o1, lI, lL, lR, popN, catS, gv, stL, stL2, swt, cnd, spObj, List.getElem?_cons_zero, List.getElem?_cons_succ, List.getD_cons_zero, List.getD_cons_succ, List.set_cons_zero, List.set_cons_succ, List.nil_append, List.cons_append, Option.toList, Bool.or_false, Bool.false_or, Bool.or_true, Bool.true_or, Nat.reduceBEq, Nat.reduceAdd, Nat.reduceLT, Nat.reduceLeDiff, Int.reduceAdd, Int.reduceToNat, true_and, and_true, Fin.isValue, Fin.val_zero, Fin.val_one, Fin.val_two, Fin.reduceFinMk, eq_self, Int.reduceNeg, imp_self, Nat.reduceMul, Nat.le_refl, not_true_eq_false, not_false_eq_true, List.getElem?_nil, reduceCtorEq, true_or, or_true, Classical.not_not, implies_true, or_self, wI_0, wI_1, wI_m1, b2i_w, b2i_eq0, b2i_eq1, b2i_bool, nor_self, nx_pI, kd_pI, ln_pI, fI_pI, fL_pI, fR_pI, aI_pI, aL_pI, aR_pI, nx_pL, kd_pL, ln_pL, fI_pL, fL_pL, fR_pL, aI_pL, aL_pL, aR_pL, nx_pR, kd_pR, ln_pR, fI_pR, fL_pR, fR_pR, aI_pR, aL_pR, aR_pR, nx_qI, kd_qI, ln_qI, fI_qI, fL_qI, fR_qI, aI_qI, aL_qI, aR_qI, nx_qL, kd_qL, ln_qL, fI_qL, fL_qL, fR_qL, aI_qL, aL_qL, aR_qL, nx_qR, kd_qR, ln_qR, fI_qR, fL_qR, fR_qR, aI_qR, aL_qR, aR_qR, nx_mk, kd_mk, ln_mk, fI_mk, fL_mk, fR_mk, aI_mk, aL_mk, aR_mk, false_and, and_false, if_false, if_true, and_self, Int.reduceEq, Nat.reduceEqDiff, ite_self, MLay_pI, MLay_pL, MLay_qI, MLay_qL, ev_X4_readPart_20, ev_X4_readPart_21, ev_X4_readPart_24, ev_X4_readPart_25, ev_X4_readPart_28, ev_X4_readPart_30, ev_X4_readPart_31, ev_X4_readPart_34, ev_X4_readPart_35, ev_X4_readPart_38, ev_X4_readPart_39, ev_X4_readPart_42, ev_X4_readPart_43, ev_X4_readPart_44, ev_X4_readPart_47, ev_X4_readPart_48, ev_X4_readPart_49, ev_X4_readPart_50, ev_X4_readPart_53, ev_X4_readPart_54, ev_X4_readPart_55, ev_X4_readPart_58, ev_X4_readPart_59, ev_X4_readPart_61, ev_X4_readPart_62, ev_X4_readPart_65, ev_X4_readPart_66, ev_X4_readPart_69, ev_X4_readPart_72, ev_X4_readPart_74, ev_X4_readPart_76, ev_X4_readPart_77, xt_X4_readPart, xf_X4_readPart, us_X4_isWord, us_X4_isSign, us_X4_factNamed, us_X4_refuse, us_X4_nextToken, us_X7_addStep, hk, r3]
    try simp (disch := omega) only [wI_id, dv_nn, rm_nn]
    repeat' (first | intro z | apply And.intro)
    all_goals try omega
    all_goals try contradiction
    all_goals exact w79 _
  rw [if_neg c3] at hQ
  by_cases c4 : isW L z p 10631
  · rw [if_pos c4] at hQ
    have f0 : fc L z p = 0 := fc_not L z p c4
    have e4 : fc L z p - 1 = -1 := by omega
    rw [b2i_t c4, b2i_f c3, e4]
    have k4 : km (tK L z p) = 2 := by rw [c4.1]; rfl
    rw [k4] at r3
    have hQ : RdPost σ D L z css ss (fInn L z 0 (pp L z m 4 (dep + 1) (a0 (tE L z p))) (pp L z m 0 (dep + 1) (a0 (tE L z p)))) Q := by
      unfold fInn
      rw [if_neg (show ¬ (0 : Int) = 1 by decide)]
      exact hQ
    have w83 : ∀ x5 : Int, ∀ σ', RF D σ σ' → RS L z D css ss (tE L z p) σ' → Go (M_X4_readPart d) Q 83 [some (vr 26), some (vi dep), some (vi 1), some (vi 0), some (vi (-1)), some (vi x5)] [] σ' (0, 0) := fun x5 σ' y1 y2 => by
      have w := rp_91 hr (dep := dep) (x2 := 1) (x3 := 0) (x4 := -1) (x5 := x5) (m := m) hd.1 y2 (Or.inl rfl) hd2 (by omega) (by omega) (hQ.mv y1)
      clear hQ y1 y2 hS hX hR hT hC hG
      refine go_X4_readPart hr (ct := fun p => p == 100 || p == 91) 10 ?_
      simp only [oI, oL, oR, o1, lI, lL, lR, popN, catS, gv, stL, stL2, swt, cnd, spObj, List.getElem?_cons_zero, List.getElem?_cons_succ, List.getD_cons_zero, List.getD_cons_succ, List.set_cons_zero, List.set_cons_succ, List.nil_append, List.cons_append, Option.toList, Bool.or_false, Bool.false_or, Bool.or_true, Bool.true_or, Nat.reduceBEq, Nat.reduceAdd, Nat.reduceLT, Nat.reduceLeDiff, Int.reduceAdd, Int.reduceToNat, true_and, and_true, Fin.isValue, Fin.val_zero, Fin.val_one, Fin.val_two, Fin.reduceFinMk, eq_self, Int.reduceNeg, imp_self, Nat.reduceMul, Nat.le_refl, not_true_eq_false, not_false_eq_true, List.getElem?_nil, reduceCtorEq, true_or, or_true, Classical.not_not, implies_true, or_self, wI_0, wI_1, wI_m1, b2i_w, b2i_eq0, b2i_eq1, b2i_bool, nor_self, nx_pI, kd_pI, ln_pI, fI_pI, fL_pI, fR_pI, aI_pI, aL_pI, aR_pI, nx_pL, kd_pL, ln_pL, fI_pL, fL_pL, fR_pL, aI_pL, aL_pL, aR_pL, nx_pR, kd_pR, ln_pR, fI_pR, fL_pR, fR_pR, aI_pR, aL_pR, aR_pR, nx_qI, kd_qI, ln_qI, fI_qI, fL_qI, fR_qI, aI_qI, aL_qI, aR_qI, nx_qL, kd_qL, ln_qL, fI_qL, fL_qL, fR_qL, aI_qL, aL_qL, aR_qL, nx_qR, kd_qR, ln_qR, fI_qR, fL_qR, fR_qR, aI_qR, aL_qR, aR_qR, nx_mk, kd_mk, ln_mk, fI_mk, fL_mk, fR_mk, aI_mk, aL_mk, aR_mk, false_and, and_false, if_false, if_true, and_self, Int.reduceEq, Nat.reduceEqDiff, ite_self, MLay_pI, MLay_pL, MLay_qI, MLay_qL, ev_X4_readPart_83, ev_X4_readPart_84, ev_X4_readPart_87, ev_X4_readPart_88, xt_X4_readPart, xf_X4_readPart, us_X4_isWord, us_X4_isSign, us_X4_factNamed, us_X4_refuse, us_X4_nextToken, us_X7_addStep]
      repeat' (first | intro z | apply And.intro)
      all_goals try omega
      all_goals try contradiction
      all_goals exact w
    have w79 := fun x5 => rp_79 hr (dep := dep) (x2 := 1) (x3 := 0) (x4 := -1) (x5 := x5) hd.1 hS (w83 x5)
    clear w83 hQ hS hX hR hT hC hG
    refine go_X4_readPart hr (ct := fun p => p == 38 || p == 42 || p == 53 || p == 72 || p == 79) 40 ?_
    simp only [oI, oL, oR, o1, lI, lL, lR, popN, catS, gv, stL, stL2, swt, cnd, spObj, List.getElem?_cons_zero, List.getElem?_cons_succ, List.getD_cons_zero, List.getD_cons_succ, List.set_cons_zero, List.set_cons_succ, List.nil_append, List.cons_append, Option.toList, Bool.or_false, Bool.false_or, Bool.or_true, Bool.true_or, Nat.reduceBEq, Nat.reduceAdd, Nat.reduceLT, Nat.reduceLeDiff, Int.reduceAdd, Int.reduceToNat, true_and, and_true, Fin.isValue, Fin.val_zero, Fin.val_one, Fin.val_two, Fin.reduceFinMk, eq_self, Int.reduceNeg, imp_self, Nat.reduceMul, Nat.le_refl, not_true_eq_false, not_false_eq_true, List.getElem?_nil, reduceCtorEq, true_or, or_true, Classical.not_not, implies_true, or_self, wI_0, wI_1, wI_m1, b2i_w, b2i_eq0, b2i_eq1, b2i_bool, nor_self, nx_pI, kd_pI, ln_pI, fI_pI, fL_pI, fR_pI, aI_pI, aL_pI, aR_pI, nx_pL, kd_pL, ln_pL, fI_pL, fL_pL, fR_pL, aI_pL, aL_pL, aR_pL, nx_pR, kd_pR, ln_pR, fI_pR, fL_pR, fR_pR, aI_pR, aL_pR, aR_pR, nx_qI, kd_qI, ln_qI, fI_qI, fL_qI, fR_qI, aI_qI, aL_qI, aR_qI, nx_qL, kd_qL, ln_qL, fI_qL, fL_qL, fR_qL, aI_qL, aL_qL, aR_qL, nx_qR, kd_qR, ln_qR, fI_qR, fL_qR, fR_qR, aI_qR, aL_qR, aR_qR, nx_mk, kd_mk, ln_mk, fI_mk, fL_mk, fR_mk, aI_mk, aL_mk, aR_mk, false_and, and_false, if_false, if_true, and_self, Int.reduceEq, Nat.reduceEqDiff, ite_self, MLay_pI, MLay_pL, MLay_qI, MLay_qL, ev_X4_readPart_20, ev_X4_readPart_21, ev_X4_readPart_24, ev_X4_readPart_25, ev_X4_readPart_28, ev_X4_readPart_30, ev_X4_readPart_31, ev_X4_readPart_34, ev_X4_readPart_35, ev_X4_readPart_38, ev_X4_readPart_39, ev_X4_readPart_42, ev_X4_readPart_43, ev_X4_readPart_44, ev_X4_readPart_47, ev_X4_readPart_48, ev_X4_readPart_49, ev_X4_readPart_50, ev_X4_readPart_53, ev_X4_readPart_54, ev_X4_readPart_55, ev_X4_readPart_58, ev_X4_readPart_59, ev_X4_readPart_61, ev_X4_readPart_62, ev_X4_readPart_65, ev_X4_readPart_66, ev_X4_readPart_69, ev_X4_readPart_72, ev_X4_readPart_74, ev_X4_readPart_76, ev_X4_readPart_77, xt_X4_readPart, xf_X4_readPart, us_X4_isWord, us_X4_isSign, us_X4_factNamed, us_X4_refuse, us_X4_nextToken, us_X7_addStep, hk, r3]
    try simp (disch := omega) only [wI_id, dv_nn, rm_nn]
    repeat' (first | intro z | apply And.intro)
    all_goals try omega
    all_goals try contradiction
    all_goals exact w79 _
  rw [if_neg c4] at hQ
  have hc9 : cntS css ss < 1000 := by omega
  have fin : ∀ (v : Int), v = (if 0 < fc L z p then -9 - fc L z p else tT L z p) → Go (M_X4_readPart d) Q 79 [some (vr 26), some (vi dep), some (vi 0), some (vi 0), some (vi (fc L z p - 1)), some (vi v)] [] σ (0, 0) := fun v hv => by
    refine rp_79 hr hd.1 hS (fun σ' y1 y2 => ?_)
    have h := hQ.2 rfl _ (y1.tr (Fz_add σ' D v)) (by
      have := y2.add hc9 v
      show RS L z D css (ss ++ [if 0 < fc L z p then -9 - fc L z p else tT L z p]) (tE L z p) _
      rw [← hv]
      exact this)
    have w := rp_100 hr (dep := dep) (x2 := 0) (x3 := 0) (x4 := fc L z p - 1) (x5 := v) hd.1 y2 hc9 h
    clear hQ y1 y2 hS hX hR hT hC hG h hv
    refine go_X4_readPart hr (ct := fun p => p == 100 || p == 91) 10 ?_
    simp only [oI, oL, oR, o1, lI, lL, lR, popN, catS, gv, stL, stL2, swt, cnd, spObj, List.getElem?_cons_zero, List.getElem?_cons_succ, List.getD_cons_zero, List.getD_cons_succ, List.set_cons_zero, List.set_cons_succ, List.nil_append, List.cons_append, Option.toList, Bool.or_false, Bool.false_or, Bool.or_true, Bool.true_or, Nat.reduceBEq, Nat.reduceAdd, Nat.reduceLT, Nat.reduceLeDiff, Int.reduceAdd, Int.reduceToNat, true_and, and_true, Fin.isValue, Fin.val_zero, Fin.val_one, Fin.val_two, Fin.reduceFinMk, eq_self, Int.reduceNeg, imp_self, Nat.reduceMul, Nat.le_refl, not_true_eq_false, not_false_eq_true, List.getElem?_nil, reduceCtorEq, true_or, or_true, Classical.not_not, implies_true, or_self, wI_0, wI_1, wI_m1, b2i_w, b2i_eq0, b2i_eq1, b2i_bool, nor_self, nx_pI, kd_pI, ln_pI, fI_pI, fL_pI, fR_pI, aI_pI, aL_pI, aR_pI, nx_pL, kd_pL, ln_pL, fI_pL, fL_pL, fR_pL, aI_pL, aL_pL, aR_pL, nx_pR, kd_pR, ln_pR, fI_pR, fL_pR, fR_pR, aI_pR, aL_pR, aR_pR, nx_qI, kd_qI, ln_qI, fI_qI, fL_qI, fR_qI, aI_qI, aL_qI, aR_qI, nx_qL, kd_qL, ln_qL, fI_qL, fL_qL, fR_qL, aI_qL, aL_qL, aR_qL, nx_qR, kd_qR, ln_qR, fI_qR, fL_qR, fR_qR, aI_qR, aL_qR, aR_qR, nx_mk, kd_mk, ln_mk, fI_mk, fL_mk, fR_mk, aI_mk, aL_mk, aR_mk, false_and, and_false, if_false, if_true, and_self, Int.reduceEq, Nat.reduceEqDiff, ite_self, MLay_pI, MLay_pL, MLay_qI, MLay_qL, ev_X4_readPart_83, ev_X4_readPart_84, ev_X4_readPart_87, ev_X4_readPart_88, xt_X4_readPart, xf_X4_readPart, us_X4_isWord, us_X4_isSign, us_X4_factNamed, us_X4_refuse, us_X4_nextToken, us_X7_addStep]
    repeat' (first | intro z | apply And.intro)
    all_goals try omega
    all_goals try contradiction
    all_goals exact w
  clear hQ
  rw [b2i_f c4, b2i_f c3]
  by_cases c5 : 0 < fc L z p
  · have w := fin (-10 - (fc L z p - 1)) (by rw [if_pos c5]; omega)
    have k3 : ¬ km (tK L z p) = 3 := by have := hf.2.2 (by omega); omega
    have kr := htk.2.1
    clear fin hS hX hR hT hC hG r4 htk
    generalize km (tK L z p) = kk at *
    generalize fc L z p = ff at *
    clear c1
    refine go_X4_readPart hr (ct := fun p => p == 34 || p == 53 || p == 65 || p == 79) 40 ?_
    simp only [oI, oL, oR, o1, lI, lL, lR, popN, catS, gv, stL, stL2, swt, cnd, spObj, List.getElem?_cons_zero, List.getElem?_cons_succ, List.getD_cons_zero, List.getD_cons_succ, List.set_cons_zero, List.set_cons_succ, List.nil_append, List.cons_append, Option.toList, Bool.or_false, Bool.false_or, Bool.or_true, Bool.true_or, Nat.reduceBEq, Nat.reduceAdd, Nat.reduceLT, Nat.reduceLeDiff, Int.reduceAdd, Int.reduceToNat, true_and, and_true, Fin.isValue, Fin.val_zero, Fin.val_one, Fin.val_two, Fin.reduceFinMk, eq_self, Int.reduceNeg, imp_self, Nat.reduceMul, Nat.le_refl, not_true_eq_false, not_false_eq_true, List.getElem?_nil, reduceCtorEq, true_or, or_true, Classical.not_not, implies_true, or_self, wI_0, wI_1, wI_m1, b2i_w, b2i_eq0, b2i_eq1, b2i_bool, nor_self, nx_pI, kd_pI, ln_pI, fI_pI, fL_pI, fR_pI, aI_pI, aL_pI, aR_pI, nx_pL, kd_pL, ln_pL, fI_pL, fL_pL, fR_pL, aI_pL, aL_pL, aR_pL, nx_pR, kd_pR, ln_pR, fI_pR, fL_pR, fR_pR, aI_pR, aL_pR, aR_pR, nx_qI, kd_qI, ln_qI, fI_qI, fL_qI, fR_qI, aI_qI, aL_qI, aR_qI, nx_qL, kd_qL, ln_qL, fI_qL, fL_qL, fR_qL, aI_qL, aL_qL, aR_qL, nx_qR, kd_qR, ln_qR, fI_qR, fL_qR, fR_qR, aI_qR, aL_qR, aR_qR, nx_mk, kd_mk, ln_mk, fI_mk, fL_mk, fR_mk, aI_mk, aL_mk, aR_mk, false_and, and_false, if_false, if_true, and_self, Int.reduceEq, Nat.reduceEqDiff, ite_self, MLay_pI, MLay_pL, MLay_qI, MLay_qL, ev_X4_readPart_20, ev_X4_readPart_21, ev_X4_readPart_24, ev_X4_readPart_25, ev_X4_readPart_28, ev_X4_readPart_30, ev_X4_readPart_31, ev_X4_readPart_34, ev_X4_readPart_35, ev_X4_readPart_38, ev_X4_readPart_39, ev_X4_readPart_42, ev_X4_readPart_43, ev_X4_readPart_44, ev_X4_readPart_47, ev_X4_readPart_48, ev_X4_readPart_49, ev_X4_readPart_50, ev_X4_readPart_53, ev_X4_readPart_54, ev_X4_readPart_55, ev_X4_readPart_58, ev_X4_readPart_59, ev_X4_readPart_61, ev_X4_readPart_62, ev_X4_readPart_65, ev_X4_readPart_66, ev_X4_readPart_69, ev_X4_readPart_72, ev_X4_readPart_74, ev_X4_readPart_76, ev_X4_readPart_77, xt_X4_readPart, xf_X4_readPart, us_X4_isWord, us_X4_isSign, us_X4_factNamed, us_X4_refuse, us_X4_nextToken, us_X7_addStep, hk, r3]
    try simp (disch := omega) only [wI_id, dv_nn, rm_nn]
    repeat' (first | intro z | apply And.intro)
    all_goals try omega
    all_goals try contradiction
    all_goals exact w
  · have f0 : fc L z p = 0 := by omega
    have k2 : tK L z p = 2 := by
      apply Decidable.byContradiction
      intro q
      exact c1 ⟨f0, c4, c3, q⟩
    have w := fin (tT L z p) (by rw [if_neg c5])
    have r4 := r4 k2
    rw [k2] at r3
    have r3 : fI σ 502 26 = 3 := r3
    have e4 : fc L z p - 1 = -1 := by omega
    rw [e4] at w ⊢
    clear fin hS hX hR hT hC hG htk hf c1
    generalize tT L z p = tt at *
    refine go_X4_readPart hr (ct := fun p => p == 28 || p == 53 || p == 72 || p == 79) 40 ?_
    simp only [oI, oL, oR, o1, lI, lL, lR, popN, catS, gv, stL, stL2, swt, cnd, spObj, List.getElem?_cons_zero, List.getElem?_cons_succ, List.getD_cons_zero, List.getD_cons_succ, List.set_cons_zero, List.set_cons_succ, List.nil_append, List.cons_append, Option.toList, Bool.or_false, Bool.false_or, Bool.or_true, Bool.true_or, Nat.reduceBEq, Nat.reduceAdd, Nat.reduceLT, Nat.reduceLeDiff, Int.reduceAdd, Int.reduceToNat, true_and, and_true, Fin.isValue, Fin.val_zero, Fin.val_one, Fin.val_two, Fin.reduceFinMk, eq_self, Int.reduceNeg, imp_self, Nat.reduceMul, Nat.le_refl, not_true_eq_false, not_false_eq_true, List.getElem?_nil, reduceCtorEq, true_or, or_true, Classical.not_not, implies_true, or_self, wI_0, wI_1, wI_m1, b2i_w, b2i_eq0, b2i_eq1, b2i_bool, nor_self, nx_pI, kd_pI, ln_pI, fI_pI, fL_pI, fR_pI, aI_pI, aL_pI, aR_pI, nx_pL, kd_pL, ln_pL, fI_pL, fL_pL, fR_pL, aI_pL, aL_pL, aR_pL, nx_pR, kd_pR, ln_pR, fI_pR, fL_pR, fR_pR, aI_pR, aL_pR, aR_pR, nx_qI, kd_qI, ln_qI, fI_qI, fL_qI, fR_qI, aI_qI, aL_qI, aR_qI, nx_qL, kd_qL, ln_qL, fI_qL, fL_qL, fR_qL, aI_qL, aL_qL, aR_qL, nx_qR, kd_qR, ln_qR, fI_qR, fL_qR, fR_qR, aI_qR, aL_qR, aR_qR, nx_mk, kd_mk, ln_mk, fI_mk, fL_mk, fR_mk, aI_mk, aL_mk, aR_mk, false_and, and_false, if_false, if_true, and_self, Int.reduceEq, Nat.reduceEqDiff, ite_self, MLay_pI, MLay_pL, MLay_qI, MLay_qL, ev_X4_readPart_20, ev_X4_readPart_21, ev_X4_readPart_24, ev_X4_readPart_25, ev_X4_readPart_28, ev_X4_readPart_30, ev_X4_readPart_31, ev_X4_readPart_34, ev_X4_readPart_35, ev_X4_readPart_38, ev_X4_readPart_39, ev_X4_readPart_42, ev_X4_readPart_43, ev_X4_readPart_44, ev_X4_readPart_47, ev_X4_readPart_48, ev_X4_readPart_49, ev_X4_readPart_50, ev_X4_readPart_53, ev_X4_readPart_54, ev_X4_readPart_55, ev_X4_readPart_58, ev_X4_readPart_59, ev_X4_readPart_61, ev_X4_readPart_62, ev_X4_readPart_65, ev_X4_readPart_66, ev_X4_readPart_69, ev_X4_readPart_72, ev_X4_readPart_74, ev_X4_readPart_76, ev_X4_readPart_77, xt_X4_readPart, xf_X4_readPart, us_X4_isWord, us_X4_isSign, us_X4_factNamed, us_X4_refuse, us_X4_nextToken, us_X7_addStep, hk, r3, r4]
    try simp (disch := omega) only [wI_id, dv_nn, rm_nn]
    repeat' (first | intro z | apply And.intro)
    all_goals try omega
    all_goals try contradiction
    all_goals exact w

set_option maxRecDepth 20000 in
theorem ri_9 {d : Nat} (hr : HR_X4_readInner d) {Q : Option AV → Hp → Prop} {σ : Hp} {o dep z D p : Int} {L : Int → Int} {css : List (List Int)} {ss : List Int} (hS : RS L z D css ss p σ) (h1 : isS L z p 41 → ∀ σ', RF D σ σ' → RS L z D css ss (tE L z p) σ' → Q (some (vi 1)) σ') (h2 : ¬ isS L z p 41 → ∀ σ', RF D σ σ' → fI σ' 507 26 = 1 + 16 * kB L z p → Q (some (vi 0)) σ') : Go (M_X4_readInner d) Q 9 [some (vr 26), some (vi o), some (vi dep)] [vi 1] σ (0, 0) := by
  obtain ⟨hk, hC, hX, hG, hT, hR, eL, ez, hD, hO, hkD, hp, hz, r1, r2, r3, r4⟩ := hS.fx
  have w1 : isS L z p 41 → ∀ σ', Fz tkF noR noR σ σ' → RD σ' (tE L z p) → Go (M_X4_readInner d) Q 18 [some (vr 26), some (vi o), some (vi dep)] [vi 1] σ' (0, 0) := fun c σ' y1 y2 => by
    have h := h1 c σ' (Fz_rd y1) (hS.nx y1 y2)
    clear h1 h2
    refine go_X4_readInner hr (ct := fun p => p == 25) 10 ?_
    simp only [oI, oL, oR, o1, lI, lL, lR, popN, catS, gv, stL, stL2, swt, cnd, spObj, List.getElem?_cons_zero, List.getElem?_cons_succ, List.getD_cons_zero, List.getD_cons_succ, List.set_cons_zero, List.set_cons_succ, List.nil_append, List.cons_append, Option.toList, Bool.or_false, Bool.false_or, Bool.or_true, Bool.true_or, Nat.reduceBEq, Nat.reduceAdd, Nat.reduceLT, Nat.reduceLeDiff, Int.reduceAdd, Int.reduceToNat, true_and, and_true, Fin.isValue, Fin.val_zero, Fin.val_one, Fin.val_two, Fin.reduceFinMk, eq_self, Int.reduceNeg, imp_self, Nat.reduceMul, Nat.le_refl, not_true_eq_false, not_false_eq_true, List.getElem?_nil, reduceCtorEq, true_or, or_true, Classical.not_not, implies_true, or_self, wI_0, wI_1, wI_m1, b2i_w, b2i_eq0, b2i_eq1, b2i_bool, nor_self, nx_pI, kd_pI, ln_pI, fI_pI, fL_pI, fR_pI, aI_pI, aL_pI, aR_pI, nx_pL, kd_pL, ln_pL, fI_pL, fL_pL, fR_pL, aI_pL, aL_pL, aR_pL, nx_pR, kd_pR, ln_pR, fI_pR, fL_pR, fR_pR, aI_pR, aL_pR, aR_pR, nx_qI, kd_qI, ln_qI, fI_qI, fL_qI, fR_qI, aI_qI, aL_qI, aR_qI, nx_qL, kd_qL, ln_qL, fI_qL, fL_qL, fR_qL, aI_qL, aL_qL, aR_qL, nx_qR, kd_qR, ln_qR, fI_qR, fL_qR, fR_qR, aI_qR, aL_qR, aR_qR, nx_mk, kd_mk, ln_mk, fI_mk, fL_mk, fR_mk, aI_mk, aL_mk, aR_mk, false_and, and_false, if_false, if_true, and_self, Int.reduceEq, Nat.reduceEqDiff, ite_self, MLay_pI, MLay_pL, MLay_qI, MLay_qL, ev_X4_readInner_18, ev_X4_readInner_21, ev_X4_readInner_22, ev_X4_readInner_25, ev_X4_readInner_26, xt_X4_readInner, xf_X4_readInner, us_X4_takeSign, us_X7_addStep]
    repeat' (first | intro z | apply And.intro)
    all_goals try omega
    all_goals try contradiction
    all_goals exact h
  have w2 : ¬ isS L z p 41 → Go (M_X4_readInner d) Q 18 [some (vr 26), some (vi o), some (vi dep)] [vi 0] (pI σ 507 26 (1 + 16 * kB L z p)) (0, 0) := fun c => by
    have h := h2 c _ (RF.flt σ _) (by rw [fI_pI, if_pos ⟨rfl, rfl⟩])
    clear h1 h2
    refine go_X4_readInner hr (ct := fun p => p == 21) 10 ?_
    simp only [oI, oL, oR, o1, lI, lL, lR, popN, catS, gv, stL, stL2, swt, cnd, spObj, List.getElem?_cons_zero, List.getElem?_cons_succ, List.getD_cons_zero, List.getD_cons_succ, List.set_cons_zero, List.set_cons_succ, List.nil_append, List.cons_append, Option.toList, Bool.or_false, Bool.false_or, Bool.or_true, Bool.true_or, Nat.reduceBEq, Nat.reduceAdd, Nat.reduceLT, Nat.reduceLeDiff, Int.reduceAdd, Int.reduceToNat, true_and, and_true, Fin.isValue, Fin.val_zero, Fin.val_one, Fin.val_two, Fin.reduceFinMk, eq_self, Int.reduceNeg, imp_self, Nat.reduceMul, Nat.le_refl, not_true_eq_false, not_false_eq_true, List.getElem?_nil, reduceCtorEq, true_or, or_true, Classical.not_not, implies_true, or_self, wI_0, wI_1, wI_m1, b2i_w, b2i_eq0, b2i_eq1, b2i_bool, nor_self, nx_pI, kd_pI, ln_pI, fI_pI, fL_pI, fR_pI, aI_pI, aL_pI, aR_pI, nx_pL, kd_pL, ln_pL, fI_pL, fL_pL, fR_pL, aI_pL, aL_pL, aR_pL, nx_pR, kd_pR, ln_pR, fI_pR, fL_pR, fR_pR, aI_pR, aL_pR, aR_pR, nx_qI, kd_qI, ln_qI, fI_qI, fL_qI, fR_qI, aI_qI, aL_qI, aR_qI, nx_qL, kd_qL, ln_qL, fI_qL, fL_qL, fR_qL, aI_qL, aL_qL, aR_qL, nx_qR, kd_qR, ln_qR, fI_qR, fL_qR, fR_qR, aI_qR, aL_qR, aR_qR, nx_mk, kd_mk, ln_mk, fI_mk, fL_mk, fR_mk, aI_mk, aL_mk, aR_mk, false_and, and_false, if_false, if_true, and_self, Int.reduceEq, Nat.reduceEqDiff, ite_self, MLay_pI, MLay_pL, MLay_qI, MLay_qL, ev_X4_readInner_18, ev_X4_readInner_21, ev_X4_readInner_22, ev_X4_readInner_25, ev_X4_readInner_26, xt_X4_readInner, xf_X4_readInner, us_X4_takeSign, us_X7_addStep]
    repeat' (first | intro z | apply And.intro)
    all_goals try omega
    all_goals try contradiction
    all_goals exact h
  clear h1 h2 hS hX
  refine go_X4_readInner hr (ct := fun p => p == 18 || p == 25) 20 ?_
  simp only [oI, oL, oR, o1, lI, lL, lR, popN, catS, gv, stL, stL2, swt, cnd, spObj, List.getElem?_cons_zero, List.getElem?_cons_succ, List.getD_cons_zero, List.getD_cons_succ, List.set_cons_zero, List.set_cons_succ, List.nil_append, List.cons_append, Option.toList, Bool.or_false, Bool.false_or, Bool.or_true, Bool.true_or, Nat.reduceBEq, Nat.reduceAdd, Nat.reduceLT, Nat.reduceLeDiff, Int.reduceAdd, Int.reduceToNat, true_and, and_true, Fin.isValue, Fin.val_zero, Fin.val_one, Fin.val_two, Fin.reduceFinMk, eq_self, Int.reduceNeg, imp_self, Nat.reduceMul, Nat.le_refl, not_true_eq_false, not_false_eq_true, List.getElem?_nil, reduceCtorEq, true_or, or_true, Classical.not_not, implies_true, or_self, wI_0, wI_1, wI_m1, b2i_w, b2i_eq0, b2i_eq1, b2i_bool, nor_self, nx_pI, kd_pI, ln_pI, fI_pI, fL_pI, fR_pI, aI_pI, aL_pI, aR_pI, nx_pL, kd_pL, ln_pL, fI_pL, fL_pL, fR_pL, aI_pL, aL_pL, aR_pL, nx_pR, kd_pR, ln_pR, fI_pR, fL_pR, fR_pR, aI_pR, aL_pR, aR_pR, nx_qI, kd_qI, ln_qI, fI_qI, fL_qI, fR_qI, aI_qI, aL_qI, aR_qI, nx_qL, kd_qL, ln_qL, fI_qL, fL_qL, fR_qL, aI_qL, aL_qL, aR_qL, nx_qR, kd_qR, ln_qR, fI_qR, fL_qR, fR_qR, aI_qR, aL_qR, aR_qR, nx_mk, kd_mk, ln_mk, fI_mk, fL_mk, fR_mk, aI_mk, aL_mk, aR_mk, false_and, and_false, if_false, if_true, and_self, Int.reduceEq, Nat.reduceEqDiff, ite_self, MLay_pI, MLay_pL, MLay_qI, MLay_qL, ev_X4_readInner_9, ev_X4_readInner_12, ev_X4_readInner_13, ev_X4_readInner_15, xt_X4_readInner, xf_X4_readInner, us_X4_takeSign, us_X7_addStep, hC, hk, hG, eL, ez]
  repeat' (first | intro z | apply And.intro)
  all_goals try omega
  all_goals try contradiction
  all_goals exact ⟨p, hR, w1, w2⟩

set_option maxRecDepth 20000 in
theorem ri_37 {d : Nat} (hr : HR_X4_readInner d) {Q : Option AV → Hp → Prop} {σ : Hp} {o dep z D p : Int} {L : Int → Int} {css : List (List Int)} {ss : List Int} (hS : RS L z D css ss p σ) (hc : cntS css ss < 1000) (h : Q (some (vi 1)) (cAdd σ D (-1))) : Go (M_X4_readInner d) Q 37 [some (vr 26), some (vi o), some (vi dep)] [] σ (0, 0) := by
  obtain ⟨hk, hC, -, -, -, -, -, -, hD, hO, hkD, -⟩ := hS.fx
  have hq := RdL.dr hS.1 hc (cnt_nn _ _)
  clear hS hC
  refine go_X4_readInner hr (ct := fun p => p == 4) 20 ?_
  simp only [oI, oL, oR, o1, lI, lL, lR, popN, catS, gv, stL, stL2, swt, cnd, spObj, List.getElem?_cons_zero, List.getElem?_cons_succ, List.getD_cons_zero, List.getD_cons_succ, List.set_cons_zero, List.set_cons_succ, List.nil_append, List.cons_append, Option.toList, Bool.or_false, Bool.false_or, Bool.or_true, Bool.true_or, Nat.reduceBEq, Nat.reduceAdd, Nat.reduceLT, Nat.reduceLeDiff, Int.reduceAdd, Int.reduceToNat, true_and, and_true, Fin.isValue, Fin.val_zero, Fin.val_one, Fin.val_two, Fin.reduceFinMk, eq_self, Int.reduceNeg, imp_self, Nat.reduceMul, Nat.le_refl, not_true_eq_false, not_false_eq_true, List.getElem?_nil, reduceCtorEq, true_or, or_true, Classical.not_not, implies_true, or_self, wI_0, wI_1, wI_m1, b2i_w, b2i_eq0, b2i_eq1, b2i_bool, nor_self, nx_pI, kd_pI, ln_pI, fI_pI, fL_pI, fR_pI, aI_pI, aL_pI, aR_pI, nx_pL, kd_pL, ln_pL, fI_pL, fL_pL, fR_pL, aI_pL, aL_pL, aR_pL, nx_pR, kd_pR, ln_pR, fI_pR, fL_pR, fR_pR, aI_pR, aL_pR, aR_pR, nx_qI, kd_qI, ln_qI, fI_qI, fL_qI, fR_qI, aI_qI, aL_qI, aR_qI, nx_qL, kd_qL, ln_qL, fI_qL, fL_qL, fR_qL, aI_qL, aL_qL, aR_qL, nx_qR, kd_qR, ln_qR, fI_qR, fL_qR, fR_qR, aI_qR, aL_qR, aR_qR, nx_mk, kd_mk, ln_mk, fI_mk, fL_mk, fR_mk, aI_mk, aL_mk, aR_mk, false_and, and_false, if_false, if_true, and_self, Int.reduceEq, Nat.reduceEqDiff, ite_self, MLay_pI, MLay_pL, MLay_qI, MLay_qL, ev_X4_readInner_37, ev_X4_readInner_38, ev_X4_readInner_41, ev_X4_readInner_42, ev_X4_readInner_45, ev_X4_readInner_46, xt_X4_readInner, xf_X4_readInner, us_X4_takeSign, us_X7_addStep, hk, hD, hO, hkD, hq]
  repeat' (first | intro z | apply And.intro)
  all_goals try omega
  all_goals try contradiction
  all_goals exact h

set_option maxRecDepth 20000 in
theorem cr_X4_readInner {d : Nat} (hr : HR_X4_readInner d) : Ct yX4_readInner cX4_readInner 3 ((some FieldType.boolean)) (5*d+10) 0 0 (sp_X4_readInner d) := by
  refine Ct.go (M := M_X4_readInner d) (mm_X4_readInner hr) fun av σ Q h0 => ?_
  obtain ⟨this, opens, dep, rfl, hk, h⟩ := el_X4_readInner d h0
  clear h0
  refine ⟨Nat.le_of_ble_eq_true rfl, ?_⟩
  show Go (M_X4_readInner d) Q 0 [some (vr this), some (vi opens), some (vi dep)] [] σ (0, 0)
  obtain ⟨rfl, ho, L, z, D, css, ss, p, m, ⟨hS, hd, hcn⟩, hlt, hm, hQ⟩ := h
  obtain ⟨hk9, hC, hX, hG, hT, hR, eL, ez, hD, hO, hkD, hp, hz, r1, r2, r3, r4⟩ := hS.fx
  clear hC hX hG hT hR eL ez hD hO hkD r1 r2 r3 r4
  have eE : (a0 p).2.1 = p := rfl
  rcases ho with e0 | e1
  · rw [e0] at hQ ⊢
    unfold fInn at hQ
    rw [if_neg (show ¬ (0 : Int) = 1 by decide)] at hQ
    have pos := pp_pos L z m 0 dep (a0 p) hp.1 hp.2
    have pln := pp_len L z m 0 dep (a0 p) (by omega) hp.2 hp.1
    rw [eE] at pos pln
    have g0 : (pp L z m 0 dep (a0 p)).1 ≠ 0 → ∀ σ'', RF D σ σ'' → fI σ'' 507 26 = (pp L z m 0 dep (a0 p)).1 → Go (M_X4_readInner d) Q 32 [some (vr 26), some (vi 0), some (vi dep)] [vi 0] σ'' (0, 0) := fun q σ'' y3 y4 => by
      rw [if_pos q] at hQ
      have h := hQ.1 q σ'' y3 y4
      clear hQ y3 y4 pos pln hS hcn
      refine go_X4_readInner hr (ct := fun p => p == 37) 10 ?_
      simp only [oI, oL, oR, o1, lI, lL, lR, popN, catS, gv, stL, stL2, swt, cnd, spObj, List.getElem?_cons_zero, List.getElem?_cons_succ, List.getD_cons_zero, List.getD_cons_succ, List.set_cons_zero, List.set_cons_succ, List.nil_append, List.cons_append, Option.toList, Bool.or_false, Bool.false_or, Bool.or_true, Bool.true_or, Nat.reduceBEq, Nat.reduceAdd, Nat.reduceLT, Nat.reduceLeDiff, Int.reduceAdd, Int.reduceToNat, true_and, and_true, Fin.isValue, Fin.val_zero, Fin.val_one, Fin.val_two, Fin.reduceFinMk, eq_self, Int.reduceNeg, imp_self, Nat.reduceMul, Nat.le_refl, not_true_eq_false, not_false_eq_true, List.getElem?_nil, reduceCtorEq, true_or, or_true, Classical.not_not, implies_true, or_self, wI_0, wI_1, wI_m1, b2i_w, b2i_eq0, b2i_eq1, b2i_bool, nor_self, nx_pI, kd_pI, ln_pI, fI_pI, fL_pI, fR_pI, aI_pI, aL_pI, aR_pI, nx_pL, kd_pL, ln_pL, fI_pL, fL_pL, fR_pL, aI_pL, aL_pL, aR_pL, nx_pR, kd_pR, ln_pR, fI_pR, fL_pR, fR_pR, aI_pR, aL_pR, aR_pR, nx_qI, kd_qI, ln_qI, fI_qI, fL_qI, fR_qI, aI_qI, aL_qI, aR_qI, nx_qL, kd_qL, ln_qL, fI_qL, fL_qL, fR_qL, aI_qL, aL_qL, aR_qL, nx_qR, kd_qR, ln_qR, fI_qR, fL_qR, fR_qR, aI_qR, aL_qR, aR_qR, nx_mk, kd_mk, ln_mk, fI_mk, fL_mk, fR_mk, aI_mk, aL_mk, aR_mk, false_and, and_false, if_false, if_true, and_self, Int.reduceEq, Nat.reduceEqDiff, ite_self, MLay_pI, MLay_pL, MLay_qI, MLay_qL, ev_X4_readInner_32, ev_X4_readInner_35, ev_X4_readInner_36, xt_X4_readInner, xf_X4_readInner, us_X4_takeSign, us_X7_addStep]
      repeat' (first | intro z | apply And.intro)
      all_goals try omega
      all_goals try contradiction
      all_goals exact h
    have g1 : (pp L z m 0 dep (a0 p)).1 = 0 → ∀ σ'', RF D σ σ'' → RS L z D css (ss ++ (pp L z m 0 dep (a0 p)).2.2.2.1) (pp L z m 0 dep (a0 p)).2.1 σ'' → Go (M_X4_readInner d) Q 32 [some (vr 26), some (vi 0), some (vi dep)] [vi 1] σ'' (0, 0) := fun q σ'' y3 y4 => by
      rw [if_neg (fun q2 => q2 q)] at hQ
      have pz := pos q
      have pl : lnSt (pp L z m 0 dep (a0 p)) ≤ _ := (pln q).1 rfl
      have hc9 : cntS css (ss ++ (pp L z m 0 dep (a0 p)).2.2.2.1) < 1000 := by
        rw [cnt_app]
        unfold lnSt at pl
        omega
      have h := hQ.2 rfl _ (y3.tr (Fz_add σ'' D (-1))) (by
        have := y4.add hc9 (-1)
        rw [List.append_assoc] at this
        exact this)
      have w := ri_37 hr (o := 0) (dep := dep) y4 hc9 h
      clear hQ y3 y4 pos pln hS pl h hcn hlt
      refine go_X4_readInner hr (ct := fun p => p == 35 || p == 37) 10 ?_
      simp only [oI, oL, oR, o1, lI, lL, lR, popN, catS, gv, stL, stL2, swt, cnd, spObj, List.getElem?_cons_zero, List.getElem?_cons_succ, List.getD_cons_zero, List.getD_cons_succ, List.set_cons_zero, List.set_cons_succ, List.nil_append, List.cons_append, Option.toList, Bool.or_false, Bool.false_or, Bool.or_true, Bool.true_or, Nat.reduceBEq, Nat.reduceAdd, Nat.reduceLT, Nat.reduceLeDiff, Int.reduceAdd, Int.reduceToNat, true_and, and_true, Fin.isValue, Fin.val_zero, Fin.val_one, Fin.val_two, Fin.reduceFinMk, eq_self, Int.reduceNeg, imp_self, Nat.reduceMul, Nat.le_refl, not_true_eq_false, not_false_eq_true, List.getElem?_nil, reduceCtorEq, true_or, or_true, Classical.not_not, implies_true, or_self, wI_0, wI_1, wI_m1, b2i_w, b2i_eq0, b2i_eq1, b2i_bool, nor_self, nx_pI, kd_pI, ln_pI, fI_pI, fL_pI, fR_pI, aI_pI, aL_pI, aR_pI, nx_pL, kd_pL, ln_pL, fI_pL, fL_pL, fR_pL, aI_pL, aL_pL, aR_pL, nx_pR, kd_pR, ln_pR, fI_pR, fL_pR, fR_pR, aI_pR, aL_pR, aR_pR, nx_qI, kd_qI, ln_qI, fI_qI, fL_qI, fR_qI, aI_qI, aL_qI, aR_qI, nx_qL, kd_qL, ln_qL, fI_qL, fL_qL, fR_qL, aI_qL, aL_qL, aR_qL, nx_qR, kd_qR, ln_qR, fI_qR, fL_qR, fR_qR, aI_qR, aL_qR, aR_qR, nx_mk, kd_mk, ln_mk, fI_mk, fL_mk, fR_mk, aI_mk, aL_mk, aR_mk, false_and, and_false, if_false, if_true, and_self, Int.reduceEq, Nat.reduceEqDiff, ite_self, MLay_pI, MLay_pL, MLay_qI, MLay_qL, ev_X4_readInner_32, ev_X4_readInner_35, ev_X4_readInner_36, xt_X4_readInner, xf_X4_readInner, us_X4_takeSign, us_X7_addStep]
      repeat' (first | intro z | apply And.intro)
      all_goals try omega
      all_goals try contradiction
      all_goals exact w
    clear hQ
    have hpre : RdPre d L z D css ss p dep σ ∧ 8 * (z - p) + 1 ≤ m := ⟨⟨hS, hd, hcn⟩, by omega⟩
    clear pos pln hS hcn hm hlt
    refine go_X4_readInner hr (ct := fun p => p == 4 || p == 32) 10 ?_
    simp only [oI, oL, oR, o1, lI, lL, lR, popN, catS, gv, stL, stL2, swt, cnd, spObj, List.getElem?_cons_zero, List.getElem?_cons_succ, List.getD_cons_zero, List.getD_cons_succ, List.set_cons_zero, List.set_cons_succ, List.nil_append, List.cons_append, Option.toList, Bool.or_false, Bool.false_or, Bool.or_true, Bool.true_or, Nat.reduceBEq, Nat.reduceAdd, Nat.reduceLT, Nat.reduceLeDiff, Int.reduceAdd, Int.reduceToNat, true_and, and_true, Fin.isValue, Fin.val_zero, Fin.val_one, Fin.val_two, Fin.reduceFinMk, eq_self, Int.reduceNeg, imp_self, Nat.reduceMul, Nat.le_refl, not_true_eq_false, not_false_eq_true, List.getElem?_nil, reduceCtorEq, true_or, or_true, Classical.not_not, implies_true, or_self, wI_0, wI_1, wI_m1, b2i_w, b2i_eq0, b2i_eq1, b2i_bool, nor_self, nx_pI, kd_pI, ln_pI, fI_pI, fL_pI, fR_pI, aI_pI, aL_pI, aR_pI, nx_pL, kd_pL, ln_pL, fI_pL, fL_pL, fR_pL, aI_pL, aL_pL, aR_pL, nx_pR, kd_pR, ln_pR, fI_pR, fL_pR, fR_pR, aI_pR, aL_pR, aR_pR, nx_qI, kd_qI, ln_qI, fI_qI, fL_qI, fR_qI, aI_qI, aL_qI, aR_qI, nx_qL, kd_qL, ln_qL, fI_qL, fL_qL, fR_qL, aI_qL, aL_qL, aR_qL, nx_qR, kd_qR, ln_qR, fI_qR, fL_qR, fR_qR, aI_qR, aL_qR, aR_qR, nx_mk, kd_mk, ln_mk, fI_mk, fL_mk, fR_mk, aI_mk, aL_mk, aR_mk, false_and, and_false, if_false, if_true, and_self, Int.reduceEq, Nat.reduceEqDiff, ite_self, MLay_pI, MLay_pL, MLay_qI, MLay_qL, ev_X4_readInner_0, ev_X4_readInner_1, ev_X4_readInner_27, ev_X4_readInner_28, ev_X4_readInner_29, xt_X4_readInner, xf_X4_readInner, us_X4_takeSign, us_X7_addStep, us_X4_readPart, RdPost, hk9]
    repeat' (first | intro z | apply And.intro)
    all_goals try omega
    all_goals try contradiction
    all_goals exact ⟨_, _, _, _, _, _, _, hpre.1, hpre.2, g0, g1⟩
  · rw [e1] at hQ ⊢
    unfold fInn at hQ
    rw [if_pos (show (1 : Int) = 1 by rfl)] at hQ
    have pos := pp_pos L z m 4 dep (a0 p) hp.1 hp.2
    rw [eE] at pos
    have g0 : (pp L z m 4 dep (a0 p)).1 ≠ 0 → ∀ σ'', RF D σ σ'' → fI σ'' 507 26 = (pp L z m 4 dep (a0 p)).1 → Go (M_X4_readInner d) Q 9 [some (vr 26), some (vi 1), some (vi dep)] [vi 0] σ'' (0, 0) := fun q σ'' y3 y4 => by
      rw [if_pos q] at hQ
      have h := hQ.1 q σ'' y3 y4
      clear hQ y3 y4 pos hS hcn
      refine go_X4_readInner hr (ct := fun p => p == 12) 10 ?_
      simp only [oI, oL, oR, o1, lI, lL, lR, popN, catS, gv, stL, stL2, swt, cnd, spObj, List.getElem?_cons_zero, List.getElem?_cons_succ, List.getD_cons_zero, List.getD_cons_succ, List.set_cons_zero, List.set_cons_succ, List.nil_append, List.cons_append, Option.toList, Bool.or_false, Bool.false_or, Bool.or_true, Bool.true_or, Nat.reduceBEq, Nat.reduceAdd, Nat.reduceLT, Nat.reduceLeDiff, Int.reduceAdd, Int.reduceToNat, true_and, and_true, Fin.isValue, Fin.val_zero, Fin.val_one, Fin.val_two, Fin.reduceFinMk, eq_self, Int.reduceNeg, imp_self, Nat.reduceMul, Nat.le_refl, not_true_eq_false, not_false_eq_true, List.getElem?_nil, reduceCtorEq, true_or, or_true, Classical.not_not, implies_true, or_self, wI_0, wI_1, wI_m1, b2i_w, b2i_eq0, b2i_eq1, b2i_bool, nor_self, nx_pI, kd_pI, ln_pI, fI_pI, fL_pI, fR_pI, aI_pI, aL_pI, aR_pI, nx_pL, kd_pL, ln_pL, fI_pL, fL_pL, fR_pL, aI_pL, aL_pL, aR_pL, nx_pR, kd_pR, ln_pR, fI_pR, fL_pR, fR_pR, aI_pR, aL_pR, aR_pR, nx_qI, kd_qI, ln_qI, fI_qI, fL_qI, fR_qI, aI_qI, aL_qI, aR_qI, nx_qL, kd_qL, ln_qL, fI_qL, fL_qL, fR_qL, aI_qL, aL_qL, aR_qL, nx_qR, kd_qR, ln_qR, fI_qR, fL_qR, fR_qR, aI_qR, aL_qR, aR_qR, nx_mk, kd_mk, ln_mk, fI_mk, fL_mk, fR_mk, aI_mk, aL_mk, aR_mk, false_and, and_false, if_false, if_true, and_self, Int.reduceEq, Nat.reduceEqDiff, ite_self, MLay_pI, MLay_pL, MLay_qI, MLay_qL, ev_X4_readInner_9, ev_X4_readInner_25, ev_X4_readInner_26, xt_X4_readInner, xf_X4_readInner, us_X4_takeSign, us_X7_addStep]
      repeat' (first | intro z | apply And.intro)
      all_goals try omega
      all_goals try contradiction
      all_goals exact h
    have g1 : (pp L z m 4 dep (a0 p)).1 = 0 → ∀ σ'', RF D σ σ'' → RS L z D css (ss ++ (pp L z m 4 dep (a0 p)).2.2.2.1) (pp L z m 4 dep (a0 p)).2.1 σ'' → Go (M_X4_readInner d) Q 9 [some (vr 26), some (vi 1), some (vi dep)] [vi 1] σ'' (0, 0) := fun q σ'' y3 y4 => by
      rw [if_neg (fun q2 => q2 q)] at hQ
      refine ri_9 hr y4 (fun c5 σ3 y5 y6 => ?_) (fun c5 σ3 y5 y6 => ?_)
      · rw [if_pos c5] at hQ
        exact hQ.2 rfl σ3 (y3.tr y5) y6
      · rw [if_neg c5] at hQ
        have pz := pos q
        have pk := tok_in L pz.2.1
        exact hQ.1 (by show ¬ (1 + 16 * kB L z (pp L z m 4 dep (a0 p)).2.1 = 0); omega) σ3 (y3.tr y5) y6
    clear hQ
    have hpre : RdPre d L z D css ss p dep σ ∧ 8 * (z - p) + 4 ≤ m := ⟨⟨hS, hd, hcn⟩, by omega⟩
    clear pos hS hcn hm hlt
    refine go_X4_readInner hr (ct := fun p => p == 9 || p == 27) 10 ?_
    simp only [oI, oL, oR, o1, lI, lL, lR, popN, catS, gv, stL, stL2, swt, cnd, spObj, List.getElem?_cons_zero, List.getElem?_cons_succ, List.getD_cons_zero, List.getD_cons_succ, List.set_cons_zero, List.set_cons_succ, List.nil_append, List.cons_append, Option.toList, Bool.or_false, Bool.false_or, Bool.or_true, Bool.true_or, Nat.reduceBEq, Nat.reduceAdd, Nat.reduceLT, Nat.reduceLeDiff, Int.reduceAdd, Int.reduceToNat, true_and, and_true, Fin.isValue, Fin.val_zero, Fin.val_one, Fin.val_two, Fin.reduceFinMk, eq_self, Int.reduceNeg, imp_self, Nat.reduceMul, Nat.le_refl, not_true_eq_false, not_false_eq_true, List.getElem?_nil, reduceCtorEq, true_or, or_true, Classical.not_not, implies_true, or_self, wI_0, wI_1, wI_m1, b2i_w, b2i_eq0, b2i_eq1, b2i_bool, nor_self, nx_pI, kd_pI, ln_pI, fI_pI, fL_pI, fR_pI, aI_pI, aL_pI, aR_pI, nx_pL, kd_pL, ln_pL, fI_pL, fL_pL, fR_pL, aI_pL, aL_pL, aR_pL, nx_pR, kd_pR, ln_pR, fI_pR, fL_pR, fR_pR, aI_pR, aL_pR, aR_pR, nx_qI, kd_qI, ln_qI, fI_qI, fL_qI, fR_qI, aI_qI, aL_qI, aR_qI, nx_qL, kd_qL, ln_qL, fI_qL, fL_qL, fR_qL, aI_qL, aL_qL, aR_qL, nx_qR, kd_qR, ln_qR, fI_qR, fL_qR, fR_qR, aI_qR, aL_qR, aR_qR, nx_mk, kd_mk, ln_mk, fI_mk, fL_mk, fR_mk, aI_mk, aL_mk, aR_mk, false_and, and_false, if_false, if_true, and_self, Int.reduceEq, Nat.reduceEqDiff, ite_self, MLay_pI, MLay_pL, MLay_qI, MLay_qL, ev_X4_readInner_0, ev_X4_readInner_1, ev_X4_readInner_4, ev_X4_readInner_5, ev_X4_readInner_6, xt_X4_readInner, xf_X4_readInner, us_X4_takeSign, us_X7_addStep, us_X4_readWhole, RdPost, hk9]
    repeat' (first | intro z | apply And.intro)
    all_goals try omega
    all_goals try contradiction
    all_goals exact ⟨_, _, _, _, _, _, _, hpre.1, hpre.2, g0, g1⟩
