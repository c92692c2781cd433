/-! the reference: a box more, the contract -/

set_option maxRecDepth 20000 in
theorem bx_88 {Q : Option AV → Hp → Prop} {σ : Hp} {l n kn x y w : Int} {a8 a9 a10 : Option AV} (hI : MI σ) (hl : 0 ≤ l ∧ l ≤ 3) (hn : 0 ≤ n ∧ n ≤ 1000)
    (k1 : (bE (fI σ 1302 61) fun b => aI σ 62 b = l ∧ aI σ 63 b = n) → Q (some (vi (-1))) σ) (k2 : (¬ bE (fI σ 1302 61) fun b => aI σ 62 b = l ∧ aI σ 63 b = n) → ∀ a7, Go M_X12_box Q 127 [some (vr 61), some (vi l), some (vi n), some (vi kn), some (vi x), some (vi y), some (vi w), a7, a8, a9, a10] [] σ (0, 0)) :
    ∀ (m : Nat) (k : Int), 0 ≤ k → k + m = fI σ 1302 61 → (∀ j, 0 ≤ j → j < k → ¬ (aI σ 62 j = l ∧ aI σ 63 j = n)) → Go M_X12_box Q 88 [some (vr 61), some (vi l), some (vi n), some (vi kn), some (vi x), some (vi y), some (vi w), some (vi k), a8, a9, a10] [] σ (0, 0) := by
  have hk : kd σ 61 = 13 := hI.lay.1
  have hb := hI.boxes_s
  intro m
  induction m with
  | zero =>
    intro k h0 hm hno
    have w := k2 (by rintro ⟨j, a, b, c⟩; exact hno j a (by omega) c) (some (vi k))
    clear k1 k2
    refine go_X12_box (ct := fun p => p == 97 || p == 127) 20 ?_
    simp only [oI, oL, oR, o1, lI, lL, lR, popN, catS, gv, stL, stL2, swt, cnd, spObj, List.getElem?_cons_zero, List.getElem?_cons_succ, List.getD_cons_zero, List.getD_cons_succ, List.set_cons_zero, List.set_cons_succ, List.nil_append, List.cons_append, Option.toList, Bool.or_false, Bool.false_or, Bool.or_true, Bool.true_or, Nat.reduceBEq, Nat.reduceAdd, Nat.reduceLT, Nat.reduceLeDiff, Int.reduceAdd, Int.reduceToNat, true_and, and_true, Fin.isValue, Fin.val_zero, Fin.val_one, Fin.val_two, Fin.reduceFinMk, eq_self, Int.reduceNeg, imp_self, Nat.reduceMul, Nat.le_refl, not_true_eq_false, not_false_eq_true, List.getElem?_nil, reduceCtorEq, true_or, or_true, Classical.not_not, implies_true, or_self, wI_0, wI_1, wI_m1, b2i_w, b2i_eq0, b2i_eq1, b2i_bool, nor_self, nx_pI, kd_pI, ln_pI, fI_pI, fL_pI, fR_pI, aI_pI, aL_pI, aR_pI, nx_pL, kd_pL, ln_pL, fI_pL, fL_pL, fR_pL, aI_pL, aL_pL, aR_pL, nx_pR, kd_pR, ln_pR, fI_pR, fL_pR, fR_pR, aI_pR, aL_pR, aR_pR, nx_qI, kd_qI, ln_qI, fI_qI, fL_qI, fR_qI, aI_qI, aL_qI, aR_qI, nx_qL, kd_qL, ln_qL, fI_qL, fL_qL, fR_qL, aI_qL, aL_qL, aR_qL, nx_qR, kd_qR, ln_qR, fI_qR, fL_qR, fR_qR, aI_qR, aL_qR, aR_qR, nx_mk, kd_mk, ln_mk, fI_mk, fL_mk, fR_mk, aI_mk, aL_mk, aR_mk, false_and, and_false, if_false, if_true, and_self, Int.reduceEq, Nat.reduceEqDiff, ite_self, MLay_pI, MLay_pL, MLay_qI, MLay_qL, ev_X12_box_88, ev_X12_box_90, ev_X12_box_91, ev_X12_box_94, xt_X12_box, xf_X12_box, us_X12_within, us_X12_isNumber, hk]
    try simp (disch := omega) only [wI_id, dv_nn, rm_nn]
    repeat' (first | intro z | apply And.intro)
    all_goals try omega
    all_goals exact w
  | succ m ih =>
    intro k h0 hm hno
    have y1 := hI.loop_ k
    have y2 := hI.number_ k
    have ih := fun q => ih (k + 1) (by omega) (by omega) q
    by_cases c : aI σ 62 k = l ∧ aI σ 63 k = n
    · have k1 := k1 ⟨k, h0, by omega, c⟩
      clear k2 ih
      refine go_X12_box (ct := fun p => p == 127 || p == 121) 40 ?_
      simp only [oI, oL, oR, o1, lI, lL, lR, popN, catS, gv, stL, stL2, swt, cnd, spObj, List.getElem?_cons_zero, List.getElem?_cons_succ, List.getD_cons_zero, List.getD_cons_succ, List.set_cons_zero, List.set_cons_succ, List.nil_append, List.cons_append, Option.toList, Bool.or_false, Bool.false_or, Bool.or_true, Bool.true_or, Nat.reduceBEq, Nat.reduceAdd, Nat.reduceLT, Nat.reduceLeDiff, Int.reduceAdd, Int.reduceToNat, true_and, and_true, Fin.isValue, Fin.val_zero, Fin.val_one, Fin.val_two, Fin.reduceFinMk, eq_self, Int.reduceNeg, imp_self, Nat.reduceMul, Nat.le_refl, not_true_eq_false, not_false_eq_true, List.getElem?_nil, reduceCtorEq, true_or, or_true, Classical.not_not, implies_true, or_self, wI_0, wI_1, wI_m1, b2i_w, b2i_eq0, b2i_eq1, b2i_bool, nor_self, nx_pI, kd_pI, ln_pI, fI_pI, fL_pI, fR_pI, aI_pI, aL_pI, aR_pI, nx_pL, kd_pL, ln_pL, fI_pL, fL_pL, fR_pL, aI_pL, aL_pL, aR_pL, nx_pR, kd_pR, ln_pR, fI_pR, fL_pR, fR_pR, aI_pR, aL_pR, aR_pR, nx_qI, kd_qI, ln_qI, fI_qI, fL_qI, fR_qI, aI_qI, aL_qI, aR_qI, nx_qL, kd_qL, ln_qL, fI_qL, fL_qL, fR_qL, aI_qL, aL_qL, aR_qL, nx_qR, kd_qR, ln_qR, fI_qR, fL_qR, fR_qR, aI_qR, aL_qR, aR_qR, nx_mk, kd_mk, ln_mk, fI_mk, fL_mk, fR_mk, aI_mk, aL_mk, aR_mk, false_and, and_false, if_false, if_true, and_self, Int.reduceEq, Nat.reduceEqDiff, ite_self, MLay_pI, MLay_pL, MLay_qI, MLay_qL, ev_X12_box_88, ev_X12_box_90, ev_X12_box_91, ev_X12_box_94, ev_X12_box_97, ev_X12_box_98, ev_X12_box_101, ev_X12_box_103, ev_X12_box_104, ev_X12_box_105, ev_X12_box_108, ev_X12_box_109, ev_X12_box_112, ev_X12_box_114, ev_X12_box_115, ev_X12_box_116, ev_X12_box_119, ev_X12_box_120, ev_X12_box_121, ev_X12_box_124, xt_X12_box, xf_X12_box, us_X12_within, us_X12_isNumber, hk, hI.lay.eqs]
      try simp (disch := omega) only [wI_id, dv_nn, rm_nn]
      repeat' (first | intro z | apply And.intro)
      all_goals try omega
      all_goals exact k1
    · have w := ih (fun j a b => by
        by_cases e : j = k
        · subst e; exact c
        · exact hno j a (by omega))
      clear k1 k2 ih
      refine go_X12_box (ct := fun p => p == 127 || p == 88) 40 ?_
      simp only [oI, oL, oR, o1, lI, lL, lR, popN, catS, gv, stL, stL2, swt, cnd, spObj, List.getElem?_cons_zero, List.getElem?_cons_succ, List.getD_cons_zero, List.getD_cons_succ, List.set_cons_zero, List.set_cons_succ, List.nil_append, List.cons_append, Option.toList, Bool.or_false, Bool.false_or, Bool.or_true, Bool.true_or, Nat.reduceBEq, Nat.reduceAdd, Nat.reduceLT, Nat.reduceLeDiff, Int.reduceAdd, Int.reduceToNat, true_and, and_true, Fin.isValue, Fin.val_zero, Fin.val_one, Fin.val_two, Fin.reduceFinMk, eq_self, Int.reduceNeg, imp_self, Nat.reduceMul, Nat.le_refl, not_true_eq_false, not_false_eq_true, List.getElem?_nil, reduceCtorEq, true_or, or_true, Classical.not_not, implies_true, or_self, wI_0, wI_1, wI_m1, b2i_w, b2i_eq0, b2i_eq1, b2i_bool, nor_self, nx_pI, kd_pI, ln_pI, fI_pI, fL_pI, fR_pI, aI_pI, aL_pI, aR_pI, nx_pL, kd_pL, ln_pL, fI_pL, fL_pL, fR_pL, aI_pL, aL_pL, aR_pL, nx_pR, kd_pR, ln_pR, fI_pR, fL_pR, fR_pR, aI_pR, aL_pR, aR_pR, nx_qI, kd_qI, ln_qI, fI_qI, fL_qI, fR_qI, aI_qI, aL_qI, aR_qI, nx_qL, kd_qL, ln_qL, fI_qL, fL_qL, fR_qL, aI_qL, aL_qL, aR_qL, nx_qR, kd_qR, ln_qR, fI_qR, fL_qR, fR_qR, aI_qR, aL_qR, aR_qR, nx_mk, kd_mk, ln_mk, fI_mk, fL_mk, fR_mk, aI_mk, aL_mk, aR_mk, false_and, and_false, if_false, if_true, and_self, Int.reduceEq, Nat.reduceEqDiff, ite_self, MLay_pI, MLay_pL, MLay_qI, MLay_qL, ev_X12_box_88, ev_X12_box_90, ev_X12_box_91, ev_X12_box_94, ev_X12_box_97, ev_X12_box_98, ev_X12_box_101, ev_X12_box_103, ev_X12_box_104, ev_X12_box_105, ev_X12_box_108, ev_X12_box_109, ev_X12_box_112, ev_X12_box_114, ev_X12_box_115, ev_X12_box_116, ev_X12_box_119, ev_X12_box_120, ev_X12_box_121, ev_X12_box_124, xt_X12_box, xf_X12_box, us_X12_within, us_X12_isNumber, hk, hI.lay.eqs]
      try simp (disch := omega) only [wI_id, dv_nn, rm_nn]
      repeat' (first | intro z | apply And.intro)
      all_goals try omega
      all_goals first | exact w | (exfalso; exact c ⟨by omega, by omega⟩)
