/-! the law's beginning -/

set_option maxRecDepth 20000 in
theorem law_1 {Q : Option AV → Hp → Prop} {b : Int} {σ0 : Hp} (hs : nx σ0 = 1) (h : ∀ σ9, Ini σ0 σ9 aiL (aiR (fR σ0 3000 0)) aiI aiA → GoF M_L_law Q 7 [some (vr b), none, none, none, none, none, none] [vr 1] σ9 (61, 6322)) : GoF M_L_law Q 0 [some (vr b), none, none, none, none, none, none] [] σ0 (0, 0) := by
  have k1 : kd (mk σ0 12 0) 1 = 12 := by rw [kd_mk, hs, if_pos rfl]
  have i0 : Ini σ0 (mk σ0 12 0) [(12, 0)] [] [] [] := by
    refine ⟨?_, fun k hk => ?_, fun i q hq => ?_, fun f k => ?_, fun f k => ?_, fun r j => ?_, ?_, ?_, ?_, ?_⟩
    · rw [nx_mk, hs]
      rfl
    · rw [kd_mk, ln_mk, hs, if_neg (by omega), if_neg (by omega)]
      exact ⟨rfl, rfl⟩
    · rw [kd_mk, ln_mk, hs]
      have hi : i < 1 := (List.getElem?_eq_some_iff.mp hq).1
      have e : i = 0 := by omega
      subst e
      cases hq
      exact ⟨rfl, rfl⟩
    · rw [fR_mk]
      rfl
    · rw [fI_mk]
      rfl
    · rw [aR_mk]
      rfl
    · rw [fL_mk]
    · rw [aI_mk]
    · rw [aL_mk]
    · rw [fR_mk]
  refine gof_L_law (ct := fun p => p == 7) 20 ?_
  simp only [oI, oL, oR, o1, lI, lL, lR, popN, catS, gv, stL, stL2, swt, cnd, spObj, List.getElem?_cons_zero, List.getElem?_cons_succ, List.getD_cons_zero, List.getD_cons_succ, List.set_cons_zero, List.set_cons_succ, List.nil_append, List.cons_append, Option.toList, Bool.or_false, Bool.false_or, Bool.or_true, Bool.true_or, Nat.reduceBEq, Nat.reduceAdd, Nat.reduceLT, Nat.reduceLeDiff, Int.reduceAdd, Int.reduceToNat, true_and, and_true, Fin.isValue, Fin.val_zero, Fin.val_one, Fin.val_two, Fin.reduceFinMk, eq_self, Int.reduceNeg, imp_self, Nat.reduceMul, Nat.le_refl, not_true_eq_false, not_false_eq_true, List.getElem?_nil, reduceCtorEq, true_or, or_true, Classical.not_not, implies_true, or_self, wI_0, wI_1, wI_m1, b2i_w, b2i_eq0, b2i_eq1, b2i_bool, nor_self, nx_pI, kd_pI, ln_pI, fI_pI, fL_pI, fR_pI, aI_pI, aL_pI, aR_pI, nx_pL, kd_pL, ln_pL, fI_pL, fL_pL, fR_pL, aI_pL, aL_pL, aR_pL, nx_pR, kd_pR, ln_pR, fI_pR, fL_pR, fR_pR, aI_pR, aL_pR, aR_pR, nx_qI, kd_qI, ln_qI, fI_qI, fL_qI, fR_qI, aI_qI, aL_qI, aR_qI, nx_qL, kd_qL, ln_qL, fI_qL, fL_qL, fR_qL, aI_qL, aL_qL, aR_qL, nx_qR, kd_qR, ln_qR, fI_qR, fL_qR, fR_qR, aI_qR, aL_qR, aR_qR, nx_mk, kd_mk, ln_mk, fI_mk, fL_mk, fR_mk, aI_mk, aL_mk, aR_mk, false_and, and_false, if_false, if_true, and_self, Int.reduceEq, Nat.reduceEqDiff, ite_self, MLay_pI, MLay_pL, MLay_qI, MLay_qL, ev_L_law_0, ev_L_law_3, ev_L_law_4, xt_L_law, xf_L_law, us_X11_init, us_X12_init, us_X11_ticks, us_X12_ticks, us_X11_box, us_X12_box, us_X11_pull, us_X12_pull, us_X11_cut, us_X12_cut, us_X11_knocked, us_X12_knocked, us_X11_reading, us_X12_reading, us_X11_stories, us_X12_stories, us_X11_story, us_X12_story, us_X11_ask, us_X12_ask, us_X11_house, us_X12_house, us_X11_company, us_X12_company, us_X11_pace, us_X12_pace, us_X11_feed, us_X12_feed, us_X11_cards, us_X12_cards, us_X11_alarm, us_X12_alarm, us_X11_again, us_X12_again, us_X11_sent, us_X12_sent, us_X11_over, us_X12_over, us_X11_at, us_X12_at, us_X11_there, us_X12_there, us_X11_covered, us_X12_covered, us_X11_moves, us_X12_moves, us_X11_move, us_X12_move, us_X11_done, us_X12_done, us_X11_word, us_X12_word, us_X11_known, us_X12_known, us_X11_rate, us_X12_rate, us_X11_worst, us_X12_worst, us_X12_look, us_X12_thrown, us_X11_count, us_X12_count, hs, k1, true_implies]
  repeat' with_reducible apply And.intro
  all_goals try omega
  all_goals exact ⟨σ0, i0, h⟩

set_option maxRecDepth 20000 in
theorem law_2 {Q : Option AV → Hp → Prop} {b : Int} {σ9 : Hp} (hn : nx σ9 = 62) (h : GoF M_L_law Q 15 [some (vr b), some (vr 1), none, none, none, none, none] [vr 62] (mIni (mk σ9 13 0)) (120, 38843)) : GoF M_L_law Q 7 [some (vr b), none, none, none, none, none, none] [vr 1] σ9 (61, 6322) := by
  have k1 : kd (mk σ9 13 0) 62 = 13 := by rw [kd_mk, hn, if_pos rfl]
  have n1 : nx (mk σ9 13 0) = 63 := by rw [nx_mk, hn]; rfl
  refine gof_L_law (ct := fun p => p == 15) 20 ?_
  simp only [oI, oL, oR, o1, lI, lL, lR, popN, catS, gv, stL, stL2, swt, cnd, spObj, List.getElem?_cons_zero, List.getElem?_cons_succ, List.getD_cons_zero, List.getD_cons_succ, List.set_cons_zero, List.set_cons_succ, List.nil_append, List.cons_append, Option.toList, Bool.or_false, Bool.false_or, Bool.or_true, Bool.true_or, Nat.reduceBEq, Nat.reduceAdd, Nat.reduceLT, Nat.reduceLeDiff, Int.reduceAdd, Int.reduceToNat, true_and, and_true, Fin.isValue, Fin.val_zero, Fin.val_one, Fin.val_two, Fin.reduceFinMk, eq_self, Int.reduceNeg, imp_self, Nat.reduceMul, Nat.le_refl, not_true_eq_false, not_false_eq_true, List.getElem?_nil, reduceCtorEq, true_or, or_true, Classical.not_not, implies_true, or_self, wI_0, wI_1, wI_m1, b2i_w, b2i_eq0, b2i_eq1, b2i_bool, nor_self, nx_pI, kd_pI, ln_pI, fI_pI, fL_pI, fR_pI, aI_pI, aL_pI, aR_pI, nx_pL, kd_pL, ln_pL, fI_pL, fL_pL, fR_pL, aI_pL, aL_pL, aR_pL, nx_pR, kd_pR, ln_pR, fI_pR, fL_pR, fR_pR, aI_pR, aL_pR, aR_pR, nx_qI, kd_qI, ln_qI, fI_qI, fL_qI, fR_qI, aI_qI, aL_qI, aR_qI, nx_qL, kd_qL, ln_qL, fI_qL, fL_qL, fR_qL, aI_qL, aL_qL, aR_qL, nx_qR, kd_qR, ln_qR, fI_qR, fL_qR, fR_qR, aI_qR, aL_qR, aR_qR, nx_mk, kd_mk, ln_mk, fI_mk, fL_mk, fR_mk, aI_mk, aL_mk, aR_mk, false_and, and_false, if_false, if_true, and_self, Int.reduceEq, Nat.reduceEqDiff, ite_self, MLay_pI, MLay_pL, MLay_qI, MLay_qL, ev_L_law_7, ev_L_law_8, ev_L_law_11, ev_L_law_12, xt_L_law, xf_L_law, us_X11_init, us_X12_init, us_X11_ticks, us_X12_ticks, us_X11_box, us_X12_box, us_X11_pull, us_X12_pull, us_X11_cut, us_X12_cut, us_X11_knocked, us_X12_knocked, us_X11_reading, us_X12_reading, us_X11_stories, us_X12_stories, us_X11_story, us_X12_story, us_X11_ask, us_X12_ask, us_X11_house, us_X12_house, us_X11_company, us_X12_company, us_X11_pace, us_X12_pace, us_X11_feed, us_X12_feed, us_X11_cards, us_X12_cards, us_X11_alarm, us_X12_alarm, us_X11_again, us_X12_again, us_X11_sent, us_X12_sent, us_X11_over, us_X12_over, us_X11_at, us_X12_at, us_X11_there, us_X12_there, us_X11_covered, us_X12_covered, us_X11_moves, us_X12_moves, us_X11_move, us_X12_move, us_X11_done, us_X12_done, us_X11_word, us_X12_word, us_X11_known, us_X12_known, us_X11_rate, us_X12_rate, us_X11_worst, us_X12_worst, us_X12_look, us_X12_thrown, us_X11_count, us_X12_count, hn, k1, n1, true_implies]
  repeat' with_reducible apply And.intro
  all_goals try omega
  all_goals exact h
theorem nx_mIni {σ9 : Hp} (hn : nx σ9 = 62) : nx (mIni (mk σ9 13 0)) = 121 := by
  have nt : nx (mk σ9 13 0) = 63 := by rw [nx_mk, hn]; rfl
  unfold mIni
  rw [nx_pI, nx_pI, nx_pI, nx_wrN, nx_wrN, nx_mkN, nt]
  rfl

set_option maxRecDepth 20000 in
theorem law_3 {Q : Option AV → Hp → Prop} {b : Int} {ρ : Hp} (hn : nx ρ = 121) (h : GoF M_L_law Q 23 [some (vr b), some (vr 1), some (vr 62), some (vr 121), some (vi 0), none, none] [] (mk ρ 102 1) (121, 38844)) : GoF M_L_law Q 15 [some (vr b), some (vr 1), none, none, none, none, none] [vr 62] ρ (120, 38843) := by
  refine gof_L_law (ct := fun p => p == 23) 20 ?_
  simp only [oI, oL, oR, o1, lI, lL, lR, popN, catS, gv, stL, stL2, swt, cnd, spObj, List.getElem?_cons_zero, List.getElem?_cons_succ, List.getD_cons_zero, List.getD_cons_succ, List.set_cons_zero, List.set_cons_succ, List.nil_append, List.cons_append, Option.toList, Bool.or_false, Bool.false_or, Bool.or_true, Bool.true_or, Nat.reduceBEq, Nat.reduceAdd, Nat.reduceLT, Nat.reduceLeDiff, Int.reduceAdd, Int.reduceToNat, true_and, and_true, Fin.isValue, Fin.val_zero, Fin.val_one, Fin.val_two, Fin.reduceFinMk, eq_self, Int.reduceNeg, imp_self, Nat.reduceMul, Nat.le_refl, not_true_eq_false, not_false_eq_true, List.getElem?_nil, reduceCtorEq, true_or, or_true, Classical.not_not, implies_true, or_self, wI_0, wI_1, wI_m1, b2i_w, b2i_eq0, b2i_eq1, b2i_bool, nor_self, nx_pI, kd_pI, ln_pI, fI_pI, fL_pI, fR_pI, aI_pI, aL_pI, aR_pI, nx_pL, kd_pL, ln_pL, fI_pL, fL_pL, fR_pL, aI_pL, aL_pL, aR_pL, nx_pR, kd_pR, ln_pR, fI_pR, fL_pR, fR_pR, aI_pR, aL_pR, aR_pR, nx_qI, kd_qI, ln_qI, fI_qI, fL_qI, fR_qI, aI_qI, aL_qI, aR_qI, nx_qL, kd_qL, ln_qL, fI_qL, fL_qL, fR_qL, aI_qL, aL_qL, aR_qL, nx_qR, kd_qR, ln_qR, fI_qR, fL_qR, fR_qR, aI_qR, aL_qR, aR_qR, nx_mk, kd_mk, ln_mk, fI_mk, fL_mk, fR_mk, aI_mk, aL_mk, aR_mk, false_and, and_false, if_false, if_true, and_self, Int.reduceEq, Nat.reduceEqDiff, ite_self, MLay_pI, MLay_pL, MLay_qI, MLay_qL, ev_L_law_15, ev_L_law_16, ev_L_law_17, ev_L_law_19, ev_L_law_20, ev_L_law_21, xt_L_law, xf_L_law, hn, true_implies]
  repeat' with_reducible apply And.intro
  all_goals try omega
  all_goals exact h

set_option maxRecDepth 20000 in
theorem law_start {Q : Option AV → Hp → Prop} {b n : Int} {σ0 : Hp} (hs : nx σ0 = 1) (w0 : Wf σ0) (hz : kd σ0 (fR σ0 3000 0) = 105 ∧ ln σ0 (fR σ0 3000 0) = 0) (hT : TXT σ0) (hb : b < 0) (hS : kd σ0 b = 108 ∧ ln σ0 b = n ∧ ∀ j, inR (aI σ0 b j)) (hR0 : ∀ f k, fR σ0 f k ≤ 0) (hA0 : ∀ r j, aR σ0 r j ≤ 0) (hn : 0 ≤ n ∧ n ≤ 3584) (hQ : ∀ σ', Q (some (vi 1)) σ') : GoF M_L_law Q 0 [some (vr b), none, none, none, none, none, none] [] σ0 (0, 0) := by
  refine law_1 hs fun σ9 h9 => ?_
  have n9 : nx σ9 = 62 := h9.1
  refine law_2 n9 (law_3 (nx_mIni n9) ?_)
  have n122 : nx (mk (mIni (mk σ9 13 0)) 102 1) = 122 := by rw [nx_mk, nx_mIni n9]; rfl
  refine GoF_rn (ls' := [some (vr b), some (vr 1), some (vr 61), some (vr 120), some (vi 0), none, none]) rnp_vw (by rw [n122]; decide) hQ ?_ (GoF_wf fun wr => ?_)
  · have e : pw b = b := pw_out (Or.inl (by omega))
    show _ = [some (vr (pw b)), some (vr (pw 1)), some (vr (pw 62)), some (vr (pw 121)), some (vi 0), none, none]
    rw [e]
    rfl
  exact law_loop hb hn (fun σ' q => ⟨rfl, q⟩) 512 _ 0 121 38844 none none (fu_start hs w0 wr hz hT hb hS hR0 hA0 h9 rfl) ⟨by decide, by decide⟩ (by omega) (by decide) (by decide)
