/-! the law's switch, its loop -/

set_option maxRecDepth 20000 in
theorem law_sw {Q : Option AV → Hp → Prop} {σ : Hp} {b n i : Int} {kc ks : Nat} {a5 a6 : Option AV} (hF : Fu b n σ) (hb : b < 0) (hi : 0 ≤ i ∧ i + 7 ≤ n ∧ n ≤ 3584) (hk : kc + 3 ≤ 601024 ∧ ks + 314 ≤ 7293034) (h : NX Q b n i kc ks) : GoF M_L_law Q 33 [some (vr b), some (vr 1), some (vr 61), some (vr 120), some (vi i), a5, a6] [] σ (kc, ks) := by
  refine GoF_wf fun hw => ?_
  obtain ⟨⟨s1, s1a, s1b⟩, s2, s3⟩ := id hF.2.2
  have hd : GoF M_L_law Q 1333 [some (vr b), some (vr 1), some (vr 61), some (vr 120), some (vi i), a5, a6] [] σ (kc, ks) := h σ kc ks a5 a6 hF (by omega) (by omega)
  have h_ticks : GoF M_L_law Q 176 [some (vr b), some (vr 1), some (vr 61), some (vr 120), some (vi i), a5, a6] [] σ (kc, ks) := lc_ticks hF hw hb hi hk h
  have h_box : GoF M_L_law Q 201 [some (vr b), some (vr 1), some (vr 61), some (vr 120), some (vi i), a5, a6] [] σ (kc, ks) := lc_box hF hw hb hi hk h
  have h_pull : GoF M_L_law Q 288 [some (vr b), some (vr 1), some (vr 61), some (vr 120), some (vi i), a5, a6] [] σ (kc, ks) := lc_pull hF hw hb hi hk h
  have h_cut : GoF M_L_law Q 313 [some (vr b), some (vr 1), some (vr 61), some (vr 120), some (vi i), a5, a6] [] σ (kc, ks) := lc_cut hF hw hb hi hk h
  have h_knocked : GoF M_L_law Q 378 [some (vr b), some (vr 1), some (vr 61), some (vr 120), some (vi i), a5, a6] [] σ (kc, ks) := lc_knocked hF hw hb hi hk h
  have h_reading : GoF M_L_law Q 415 [some (vr b), some (vr 1), some (vr 61), some (vr 120), some (vi i), a5, a6] [] σ (kc, ks) := lc_reading hF hw hb hi hk h
  have h_stories : GoF M_L_law Q 464 [some (vr b), some (vr 1), some (vr 61), some (vr 120), some (vi i), a5, a6] [] σ (kc, ks) := lc_stories hF hw hb hi hk h
  have h_story : GoF M_L_law Q 477 [some (vr b), some (vr 1), some (vr 61), some (vr 120), some (vi i), a5, a6] [] σ (kc, ks) := lc_story hF hw hb hi hk h
  have h_ask : GoF M_L_law Q 526 [some (vr b), some (vr 1), some (vr 61), some (vr 120), some (vi i), a5, a6] [] σ (kc, ks) := lc_ask hF hw hb hi hk h
  have h_house : GoF M_L_law Q 539 [some (vr b), some (vr 1), some (vr 61), some (vr 120), some (vi i), a5, a6] [] σ (kc, ks) := lc_house hF hw hb hi hk h
  have h_company : GoF M_L_law Q 576 [some (vr b), some (vr 1), some (vr 61), some (vr 120), some (vi i), a5, a6] [] σ (kc, ks) := lc_company hF hw hb hi hk h
  have h_pace : GoF M_L_law Q 613 [some (vr b), some (vr 1), some (vr 61), some (vr 120), some (vi i), a5, a6] [] σ (kc, ks) := lc_pace hF hw hb hi hk h
  have h_feed : GoF M_L_law Q 650 [some (vr b), some (vr 1), some (vr 61), some (vr 120), some (vi i), a5, a6] [] σ (kc, ks) := lc_feed hF hw hb hi hk h
  have h_cards : GoF M_L_law Q 797 [some (vr b), some (vr 1), some (vr 61), some (vr 120), some (vi i), a5, a6] [] σ (kc, ks) := lc_cards hF hw hb hi hk h
  have h_alarm : GoF M_L_law Q 810 [some (vr b), some (vr 1), some (vr 61), some (vr 120), some (vi i), a5, a6] [] σ (kc, ks) := lc_alarm hF hw hb hi hk h
  have h_again : GoF M_L_law Q 835 [some (vr b), some (vr 1), some (vr 61), some (vr 120), some (vi i), a5, a6] [] σ (kc, ks) := lc_again hF hw hb hi hk h
  have h_sent : GoF M_L_law Q 860 [some (vr b), some (vr 1), some (vr 61), some (vr 120), some (vi i), a5, a6] [] σ (kc, ks) := lc_sent hF hw hb hi hk h
  have h_over : GoF M_L_law Q 897 [some (vr b), some (vr 1), some (vr 61), some (vr 120), some (vi i), a5, a6] [] σ (kc, ks) := lc_over hF hw hb hi hk h
  have h_at : GoF M_L_law Q 950 [some (vr b), some (vr 1), some (vr 61), some (vr 120), some (vi i), a5, a6] [] σ (kc, ks) := lc_at hF hw hb hi hk h
  have h_there : GoF M_L_law Q 975 [some (vr b), some (vr 1), some (vr 61), some (vr 120), some (vi i), a5, a6] [] σ (kc, ks) := lc_there hF hw hb hi hk h
  have h_covered : GoF M_L_law Q 1000 [some (vr b), some (vr 1), some (vr 61), some (vr 120), some (vi i), a5, a6] [] σ (kc, ks) := lc_covered hF hw hb hi hk h
  have h_moves : GoF M_L_law Q 1025 [some (vr b), some (vr 1), some (vr 61), some (vr 120), some (vi i), a5, a6] [] σ (kc, ks) := lc_moves hF hw hb hi hk h
  have h_move : GoF M_L_law Q 1038 [some (vr b), some (vr 1), some (vr 61), some (vr 120), some (vi i), a5, a6] [] σ (kc, ks) := lc_move hF hw hb hi hk h
  have h_done : GoF M_L_law Q 1075 [some (vr b), some (vr 1), some (vr 61), some (vr 120), some (vi i), a5, a6] [] σ (kc, ks) := lc_done hF hw hb hi hk h
  have h_word : GoF M_L_law Q 1088 [some (vr b), some (vr 1), some (vr 61), some (vr 120), some (vi i), a5, a6] [] σ (kc, ks) := lc_word hF hw hb hi hk h
  have h_known : GoF M_L_law Q 1141 [some (vr b), some (vr 1), some (vr 61), some (vr 120), some (vi i), a5, a6] [] σ (kc, ks) := lc_known hF hw hb hi hk h
  have h_rate : GoF M_L_law Q 1178 [some (vr b), some (vr 1), some (vr 61), some (vr 120), some (vi i), a5, a6] [] σ (kc, ks) := lc_rate hF hw hb hi hk h
  have h_worst : GoF M_L_law Q 1215 [some (vr b), some (vr 1), some (vr 61), some (vr 120), some (vi i), a5, a6] [] σ (kc, ks) := lc_worst hF hw hb hi hk h
  have h_look : GoF M_L_law Q 1240 [some (vr b), some (vr 1), some (vr 61), some (vr 120), some (vi i), a5, a6] [] σ (kc, ks) := lc_look hF hw hb hi hk h
  have h_count : GoF M_L_law Q 1308 [some (vr b), some (vr 1), some (vr 61), some (vr 120), some (vi i), a5, a6] [] σ (kc, ks) := lc_count hF hw hb hi hk h
  clear h hF hw
  refine gof_L_law (ct := fun p => p == 1333 || p == 176 || p == 201 || p == 288 || p == 313 || p == 378 || p == 415 || p == 464 || p == 477 || p == 526 || p == 539 || p == 576 || p == 613 || p == 650 || p == 797 || p == 810 || p == 835 || p == 860 || p == 897 || p == 950 || p == 975 || p == 1000 || p == 1025 || p == 1038 || p == 1075 || p == 1088 || p == 1141 || p == 1178 || p == 1215 || p == 1240 || p == 1308) 20 ?_
  simp only [oI, oL, oR, o1, lI, lL, lR, popN, catS, gv, stL, stL2, swt, cnd, spObj, List.getElem?_cons_zero, List.getElem?_cons_succ, List.getD_cons_zero, List.getD_cons_succ, List.set_cons_zero, List.set_cons_succ, List.nil_append, List.cons_append, Option.toList, Bool.or_false, Bool.false_or, Bool.or_true, Bool.true_or, Nat.reduceBEq, Nat.reduceAdd, Nat.reduceLT, Nat.reduceLeDiff, Int.reduceAdd, Int.reduceToNat, true_and, and_true, Fin.isValue, Fin.val_zero, Fin.val_one, Fin.val_two, Fin.reduceFinMk, eq_self, Int.reduceNeg, imp_self, Nat.reduceMul, Nat.le_refl, not_true_eq_false, not_false_eq_true, List.getElem?_nil, reduceCtorEq, true_or, or_true, Classical.not_not, implies_true, or_self, wI_0, wI_1, wI_m1, b2i_w, b2i_eq0, b2i_eq1, b2i_bool, nor_self, nx_pI, kd_pI, ln_pI, fI_pI, fL_pI, fR_pI, aI_pI, aL_pI, aR_pI, nx_pL, kd_pL, ln_pL, fI_pL, fL_pL, fR_pL, aI_pL, aL_pL, aR_pL, nx_pR, kd_pR, ln_pR, fI_pR, fL_pR, fR_pR, aI_pR, aL_pR, aR_pR, nx_qI, kd_qI, ln_qI, fI_qI, fL_qI, fR_qI, aI_qI, aL_qI, aR_qI, nx_qL, kd_qL, ln_qL, fI_qL, fL_qL, fR_qL, aI_qL, aL_qL, aR_qL, nx_qR, kd_qR, ln_qR, fI_qR, fL_qR, fR_qR, aI_qR, aL_qR, aR_qR, nx_mk, kd_mk, ln_mk, fI_mk, fL_mk, fR_mk, aI_mk, aL_mk, aR_mk, false_and, and_false, if_false, if_true, and_self, Int.reduceEq, Nat.reduceEqDiff, ite_self, MLay_pI, MLay_pL, MLay_qI, MLay_qL, ev_L_law_33, ev_L_law_34, ev_L_law_36, ev_L_law_37, ev_L_law_39, ev_L_law_40, xt_L_law, xf_L_law, s1, s2, true_implies, false_implies]
  clear s1 s1a s1b s2 s3
  repeat' with_reducible apply And.intro
  all_goals try omega
  all_goals try trivial
  all_goals intro _
  all_goals first | exact hd | exact h_ticks | exact h_box | exact h_pull | exact h_cut | exact h_knocked | exact h_reading | exact h_stories | exact h_story | exact h_ask | exact h_house | exact h_company | exact h_pace | exact h_feed | exact h_cards | exact h_alarm | exact h_again | exact h_sent | exact h_over | exact h_at | exact h_there | exact h_covered | exact h_moves | exact h_move | exact h_done | exact h_word | exact h_known | exact h_rate | exact h_worst | exact h_look | exact h_count

set_option maxRecDepth 20000 in
theorem law_hd {Q : Option AV → Hp → Prop} {σ : Hp} {b n i : Int} {kc ks : Nat} {a5 a6 : Option AV} (hS : Scp σ b n) (hi : 0 ≤ i ∧ i ≤ 3591 ∧ 0 ≤ n ∧ n ≤ 3584) (h1 : n < i + 7 → Q (some (vi 1)) σ) (h2 : i + 7 ≤ n → GoF M_L_law Q 33 [some (vr b), some (vr 1), some (vr 61), some (vr 120), some (vi i), a5, a6] [] σ (kc, ks)) : GoF M_L_law Q 23 [some (vr b), some (vr 1), some (vr 61), some (vr 120), some (vi i), a5, a6] [] σ (kc, ks) := by
  obtain ⟨⟨s1, s1a, s1b⟩, s2, s3⟩ := hS
  by_cases c : i + 7 ≤ n
  · have h2 := h2 c
    clear h1 s3
    refine gof_L_law (ct := fun p => p == 33 || p == 1339) 20 ?_
    simp only [oI, oL, oR, o1, lI, lL, lR, popN, catS, gv, stL, stL2, swt, cnd, spObj, List.getElem?_cons_zero, List.getElem?_cons_succ, List.getD_cons_zero, List.getD_cons_succ, List.set_cons_zero, List.set_cons_succ, List.nil_append, List.cons_append, Option.toList, Bool.or_false, Bool.false_or, Bool.or_true, Bool.true_or, Nat.reduceBEq, Nat.reduceAdd, Nat.reduceLT, Nat.reduceLeDiff, Int.reduceAdd, Int.reduceToNat, true_and, and_true, Fin.isValue, Fin.val_zero, Fin.val_one, Fin.val_two, Fin.reduceFinMk, eq_self, Int.reduceNeg, imp_self, Nat.reduceMul, Nat.le_refl, not_true_eq_false, not_false_eq_true, List.getElem?_nil, reduceCtorEq, true_or, or_true, Classical.not_not, implies_true, or_self, wI_0, wI_1, wI_m1, b2i_w, b2i_eq0, b2i_eq1, b2i_bool, nor_self, nx_pI, kd_pI, ln_pI, fI_pI, fL_pI, fR_pI, aI_pI, aL_pI, aR_pI, nx_pL, kd_pL, ln_pL, fI_pL, fL_pL, fR_pL, aI_pL, aL_pL, aR_pL, nx_pR, kd_pR, ln_pR, fI_pR, fL_pR, fR_pR, aI_pR, aL_pR, aR_pR, nx_qI, kd_qI, ln_qI, fI_qI, fL_qI, fR_qI, aI_qI, aL_qI, aR_qI, nx_qL, kd_qL, ln_qL, fI_qL, fL_qL, fR_qL, aI_qL, aL_qL, aR_qL, nx_qR, kd_qR, ln_qR, fI_qR, fL_qR, fR_qR, aI_qR, aL_qR, aR_qR, nx_mk, kd_mk, ln_mk, fI_mk, fL_mk, fR_mk, aI_mk, aL_mk, aR_mk, false_and, and_false, if_false, if_true, and_self, Int.reduceEq, Nat.reduceEqDiff, ite_self, MLay_pI, MLay_pL, MLay_qI, MLay_qL, ev_L_law_23, ev_L_law_25, ev_L_law_26, ev_L_law_27, ev_L_law_29, ev_L_law_30, xt_L_law, xf_L_law, s1, s2]
    try simp (disch := omega) only [wI_id, dv_nn, rm_nn]
    repeat' (first | intro z | apply And.intro)
    all_goals try omega
    all_goals try contradiction
    all_goals exact h2
  · have h1 := h1 (by omega)
    clear h2 s3
    refine gof_L_law (ct := fun p => p == 33) 20 ?_
    simp only [oI, oL, oR, o1, lI, lL, lR, popN, catS, gv, stL, stL2, swt, cnd, spObj, List.getElem?_cons_zero, List.getElem?_cons_succ, List.getD_cons_zero, List.getD_cons_succ, List.set_cons_zero, List.set_cons_succ, List.nil_append, List.cons_append, Option.toList, Bool.or_false, Bool.false_or, Bool.or_true, Bool.true_or, Nat.reduceBEq, Nat.reduceAdd, Nat.reduceLT, Nat.reduceLeDiff, Int.reduceAdd, Int.reduceToNat, true_and, and_true, Fin.isValue, Fin.val_zero, Fin.val_one, Fin.val_two, Fin.reduceFinMk, eq_self, Int.reduceNeg, imp_self, Nat.reduceMul, Nat.le_refl, not_true_eq_false, not_false_eq_true, List.getElem?_nil, reduceCtorEq, true_or, or_true, Classical.not_not, implies_true, or_self, wI_0, wI_1, wI_m1, b2i_w, b2i_eq0, b2i_eq1, b2i_bool, nor_self, nx_pI, kd_pI, ln_pI, fI_pI, fL_pI, fR_pI, aI_pI, aL_pI, aR_pI, nx_pL, kd_pL, ln_pL, fI_pL, fL_pL, fR_pL, aI_pL, aL_pL, aR_pL, nx_pR, kd_pR, ln_pR, fI_pR, fL_pR, fR_pR, aI_pR, aL_pR, aR_pR, nx_qI, kd_qI, ln_qI, fI_qI, fL_qI, fR_qI, aI_qI, aL_qI, aR_qI, nx_qL, kd_qL, ln_qL, fI_qL, fL_qL, fR_qL, aI_qL, aL_qL, aR_qL, nx_qR, kd_qR, ln_qR, fI_qR, fL_qR, fR_qR, aI_qR, aL_qR, aR_qR, nx_mk, kd_mk, ln_mk, fI_mk, fL_mk, fR_mk, aI_mk, aL_mk, aR_mk, false_and, and_false, if_false, if_true, and_self, Int.reduceEq, Nat.reduceEqDiff, ite_self, MLay_pI, MLay_pL, MLay_qI, MLay_qL, ev_L_law_23, ev_L_law_25, ev_L_law_26, ev_L_law_27, ev_L_law_29, ev_L_law_30, ev_L_law_1339, ev_L_law_1340, xt_L_law, xf_L_law, s1, s2]
    try simp (disch := omega) only [wI_id, dv_nn, rm_nn]
    repeat' (first | intro z | apply And.intro)
    all_goals try omega
    all_goals try contradiction
    all_goals exact h1

set_option maxRecDepth 20000 in
theorem law_tl {Q : Option AV → Hp → Prop} {σ : Hp} {b i : Int} {kc ks : Nat} {a5 a6 : Option AV} (h : GoF M_L_law Q 23 [some (vr b), some (vr 1), some (vr 61), some (vr 120), some (vi (i + 7)), a5, a6] [] σ (kc, ks)) : GoF M_L_law Q 1333 [some (vr b), some (vr 1), some (vr 61), some (vr 120), some (vi i), a5, a6] [] σ (kc, ks) := by
  refine gof_L_law (ct := fun p => p == 23) 20 ?_
  simp only [oI, oL, oR, o1, lI, lL, lR, popN, catS, gv, stL, stL2, swt, cnd, spObj, List.getElem?_cons_zero, List.getElem?_cons_succ, List.getD_cons_zero, List.getD_cons_succ, List.set_cons_zero, List.set_cons_succ, List.nil_append, List.cons_append, Option.toList, Bool.or_false, Bool.false_or, Bool.or_true, Bool.true_or, Nat.reduceBEq, Nat.reduceAdd, Nat.reduceLT, Nat.reduceLeDiff, Int.reduceAdd, Int.reduceToNat, true_and, and_true, Fin.isValue, Fin.val_zero, Fin.val_one, Fin.val_two, Fin.reduceFinMk, eq_self, Int.reduceNeg, imp_self, Nat.reduceMul, Nat.le_refl, not_true_eq_false, not_false_eq_true, List.getElem?_nil, reduceCtorEq, true_or, or_true, Classical.not_not, implies_true, or_self, wI_0, wI_1, wI_m1, b2i_w, b2i_eq0, b2i_eq1, b2i_bool, nor_self, nx_pI, kd_pI, ln_pI, fI_pI, fL_pI, fR_pI, aI_pI, aL_pI, aR_pI, nx_pL, kd_pL, ln_pL, fI_pL, fL_pL, fR_pL, aI_pL, aL_pL, aR_pL, nx_pR, kd_pR, ln_pR, fI_pR, fL_pR, fR_pR, aI_pR, aL_pR, aR_pR, nx_qI, kd_qI, ln_qI, fI_qI, fL_qI, fR_qI, aI_qI, aL_qI, aR_qI, nx_qL, kd_qL, ln_qL, fI_qL, fL_qL, fR_qL, aI_qL, aL_qL, aR_qL, nx_qR, kd_qR, ln_qR, fI_qR, fL_qR, fR_qR, aI_qR, aL_qR, aR_qR, nx_mk, kd_mk, ln_mk, fI_mk, fL_mk, fR_mk, aI_mk, aL_mk, aR_mk, false_and, and_false, if_false, if_true, and_self, Int.reduceEq, Nat.reduceEqDiff, ite_self, MLay_pI, MLay_pL, MLay_qI, MLay_qL, ev_L_law_1333, ev_L_law_1336, xt_L_law, xf_L_law]
  exact h

set_option maxRecDepth 20000 in
theorem law_loop {Q : Option AV → Hp → Prop} {b n : Int} (hb : b < 0) (hn : 0 ≤ n ∧ n ≤ 3584) (hQ : ∀ σ', 122 ≤ nx σ' → Q (some (vi 1)) σ') : ∀ (m : Nat) (σ : Hp) (i : Int) (kc ks : Nat) (a5 a6 : Option AV), Fu b n σ → 0 ≤ i ∧ i ≤ 3591 → n < i + 7 * ((m : Int) + 1) → kc + 3 * m ≤ 601024 → ks + 314 * m ≤ 7293034 → GoF M_L_law Q 23 [some (vr b), some (vr 1), some (vr 61), some (vr 120), some (vi i), a5, a6] [] σ (kc, ks) := by
  have nx9 : ∀ σ, Fu b n σ → Wf σ → 122 ≤ nx σ := fun σ hF hw => by
    have k9 : kd σ 121 = 14 := by simp only [hF.1.1.eqs]
    have := (hw.2.1 121 (by rw [k9]; decide)).2.1
    omega
  intro m
  induction m with
  | zero =>
    intro σ i kc ks a5 a6 hF hi h1 h2 h3
    exact GoF_wf fun hw => law_hd hF.2.2 ⟨hi.1, hi.2, hn.1, hn.2⟩ (fun _ => hQ _ (nx9 σ hF hw)) (fun c => by omega)
  | succ m ih =>
    intro σ i kc ks a5 a6 hF hi h1 h2 h3
    refine GoF_wf fun hw => law_hd hF.2.2 ⟨hi.1, hi.2, hn.1, hn.2⟩ (fun _ => hQ _ (nx9 σ hF hw)) (fun c => ?_)
    refine law_sw hF hb ⟨hi.1, c, hn.2⟩ ⟨by omega, by omega⟩ ?_
    intro σ' k1 k2 b5 b6 hF' g1 g2
    exact law_tl (ih σ' (i + 7) k1 k2 b5 b6 hF' ⟨by omega, by omega⟩ (by omega) (by omega) (by omega))
