/-! the reference: stories of three, the outer loops -/

section TH
variable {Q : Option AV → Hp → Prop} {τ0 : Hp} {H : Int → Prop} {K : Int → Int → Prop} {n sp e : Int}
theorem k13_300 {k : Int} (h : 0 ≤ k ∧ k ≤ 12) : 0 ≤ k13 (300 * k) ∧ k13 (300 * k) ≤ 6144 := by unfold k13; omega

set_option maxRecDepth 20000 in
theorem th_132 (h0 : Pc τ0 H K n sp e) {a b : Int} (ha : VP n sp a) (hb : VP n sp b) (hab : a / 300 < b / 300) (w : ∀ τ xs a5 a6 a7, Wt τ0 τ → Told τ xs → SgB (Sm H K n sp 3) ((k13 a * 8192 + k13 (b + 1)) * 8192) xs → Go M_X12_threes Q 226 [some (vr 61), some (vi n), some (vi a), some (vi b), some (vi (b2i (any3 e a b))), a5, a6, a7] [] τ (0, 0)) :
    ∀ (m : Nat) (k : Int) (τ : Hp) (xs : List (List Int)) (a6 a7 : Option AV), b / 300 < k → k + m = n → Wt τ0 τ → Told τ xs → SgB (Sm H K n sp 3) (B3 a b (300 * k)) xs → Go M_X12_threes Q 132 [some (vr 61), some (vi n), some (vi a), some (vi b), some (vi (b2i (any3 e a b))), some (vi k), a6, a7] [] τ (0, 0) := by
  have hn := h0.1
  have hsp := h0.2.2.1
  have he := h0.2.2.2.2.1
  have hb' := hb
  unfold VP at hb'
  have xb := k13_mono (show b < b + 1 by omega)
  intro m
  induction m with
  | zero =>
    intro k τ xs a6 a7 h1 h2 hW hTd hS
    have hkd : kd τ 61 = 13 := hW.1.lay.1
    have ek : k = n := by omega
    rw [ek] at hS ⊢
    have x3 := k13_300 (k := n) (by omega)
    have w := w τ xs (some (vi n)) a6 a7 hW hTd (hS.skip (by unfold B3; omega) fun x hx q1 q2 => by
      obtain ⟨p, q, r, rfl⟩ := len3 hx.2
      rw [keyL_3] at q1 q2
      have hx1 := ST3.mp hx.1
      unfold B3 at q1
      have ee := k3_ab (a := a) (b := b) (p := p) (q := q) (r := r) hn.2 ⟨hx1.1.2.1.1, hx1.1.2.1.2.1⟩ ⟨hx1.1.2.2.1, hx1.1.2.2.2.1⟩ ⟨hb.1, hb.2.1⟩ (by omega) q2
      rw [ee.1, ee.2] at q1 q2
      have := k13_mono (show r < 300 * n by have := hx1.1.2.2; omega)
      omega)
    generalize b2i (any3 e a b) = v at *
    refine go_X12_threes (ct := fun p => p == 138 || p == 226) 20 ?_
    simp only [oI, oL, oR, o1, lI, lL, lR, popN, catS, gv, stL, stL2, swt, cnd, spObj, List.getElem?_cons_zero, List.getElem?_cons_succ, List.getD_cons_zero, List.getD_cons_succ, List.set_cons_zero, List.set_cons_succ, List.nil_append, List.cons_append, Option.toList, Bool.or_false, Bool.false_or, Bool.or_true, Bool.true_or, Nat.reduceBEq, Nat.reduceAdd, Nat.reduceLT, Nat.reduceLeDiff, Int.reduceAdd, Int.reduceToNat, true_and, and_true, Fin.isValue, Fin.val_zero, Fin.val_one, Fin.val_two, Fin.reduceFinMk, eq_self, Int.reduceNeg, imp_self, Nat.reduceMul, Nat.le_refl, not_true_eq_false, not_false_eq_true, List.getElem?_nil, reduceCtorEq, true_or, or_true, Classical.not_not, implies_true, or_self, wI_0, wI_1, wI_m1, b2i_w, b2i_eq0, b2i_eq1, b2i_bool, nor_self, nx_pI, kd_pI, ln_pI, fI_pI, fL_pI, fR_pI, aI_pI, aL_pI, aR_pI, nx_pL, kd_pL, ln_pL, fI_pL, fL_pL, fR_pL, aI_pL, aL_pL, aR_pL, nx_pR, kd_pR, ln_pR, fI_pR, fL_pR, fR_pR, aI_pR, aL_pR, aR_pR, nx_qI, kd_qI, ln_qI, fI_qI, fL_qI, fR_qI, aI_qI, aL_qI, aR_qI, nx_qL, kd_qL, ln_qL, fI_qL, fL_qL, fR_qL, aI_qL, aL_qL, aR_qL, nx_qR, kd_qR, ln_qR, fI_qR, fL_qR, fR_qR, aI_qR, aL_qR, aR_qR, nx_mk, kd_mk, ln_mk, fI_mk, fL_mk, fR_mk, aI_mk, aL_mk, aR_mk, false_and, and_false, if_false, if_true, and_self, Int.reduceEq, Nat.reduceEqDiff, ite_self, MLay_pI, MLay_pL, MLay_qI, MLay_qL, ev_X12_threes_132, ev_X12_threes_134, ev_X12_threes_135, xt_X12_threes, xf_X12_threes, us_X12_isFirst, us_X12_rowOf, us_X12_areAll, us_X12_tells, hkd]
    try simp (disch := omega) only [wI_id, dv_nn, rm_nn]
    repeat' (first | intro z | apply And.intro)
    all_goals try omega
    all_goals exact w
  | succ m ih =>
    intro k τ xs a6 a7 h1 h2 hW hTd hS
    have hT := hW.1
    have hkd : kd τ 61 = 13 := hT.lay.1
    have hP := h0.keep hW
    have ee := hP.2.2.2.1
    have hwk : wI k = k := wI_id (by omega) (by omega)
    have hwn : wI n = n := wI_id (by omega) (by omega)
    have fin : ∀ (hi : Int) (τ : Hp) (xs : List (List Int)) (a6 a7 : Option AV), hi = (if any3 e a b then sp else e + 1) → Wt τ0 τ → Told τ xs → SgB (Sm H K n sp 3) (B3 a b (300 * k + hi)) xs → Go M_X12_threes Q 220 [some (vr 61), some (vi n), some (vi a), some (vi b), some (vi (b2i (any3 e a b))), some (vi k), a6, a7] [] τ (0, 0) := by
      intro hi τ xs a6 a7 hhi hW hTd hS
      have hkd : kd τ 61 = 13 := hW.1.lay.1
      have hP := h0.keep hW
      have hh : 0 ≤ hi ∧ hi ≤ sp := by rw [hhi]; split <;> omega
      have w := ih (k + 1) τ xs a6 a7 (by omega) (by omega) hW hTd (th_skip (a := a) (b := b) (c := 300 * k + hi) (c' := 300 * (k + 1)) hn.2 ⟨hb.1, hb.2.1⟩ (by omega) (by omega) (by omega) hS rfl (fun r q1 q2 => by
        by_cases c : any3 e a b
        · rw [if_pos c] at hhi
          intro q
          have := (ST3.mp q).1.2.2.2.2
          omega
        · rw [if_neg c] at hhi
          exact th_no hP c (by omega)))
      generalize b2i (any3 e a b) = v at *
      refine go_X12_threes (ct := fun p => p == 132) 20 ?_
      simp only [oI, oL, oR, o1, lI, lL, lR, popN, catS, gv, stL, stL2, swt, cnd, spObj, List.getElem?_cons_zero, List.getElem?_cons_succ, List.getD_cons_zero, List.getD_cons_succ, List.set_cons_zero, List.set_cons_succ, List.nil_append, List.cons_append, Option.toList, Bool.or_false, Bool.false_or, Bool.or_true, Bool.true_or, Nat.reduceBEq, Nat.reduceAdd, Nat.reduceLT, Nat.reduceLeDiff, Int.reduceAdd, Int.reduceToNat, true_and, and_true, Fin.isValue, Fin.val_zero, Fin.val_one, Fin.val_two, Fin.reduceFinMk, eq_self, Int.reduceNeg, imp_self, Nat.reduceMul, Nat.le_refl, not_true_eq_false, not_false_eq_true, List.getElem?_nil, reduceCtorEq, true_or, or_true, Classical.not_not, implies_true, or_self, wI_0, wI_1, wI_m1, b2i_w, b2i_eq0, b2i_eq1, b2i_bool, nor_self, nx_pI, kd_pI, ln_pI, fI_pI, fL_pI, fR_pI, aI_pI, aL_pI, aR_pI, nx_pL, kd_pL, ln_pL, fI_pL, fL_pL, fR_pL, aI_pL, aL_pL, aR_pL, nx_pR, kd_pR, ln_pR, fI_pR, fL_pR, fR_pR, aI_pR, aL_pR, aR_pR, nx_qI, kd_qI, ln_qI, fI_qI, fL_qI, fR_qI, aI_qI, aL_qI, aR_qI, nx_qL, kd_qL, ln_qL, fI_qL, fL_qL, fR_qL, aI_qL, aL_qL, aR_qL, nx_qR, kd_qR, ln_qR, fI_qR, fL_qR, fR_qR, aI_qR, aL_qR, aR_qR, nx_mk, kd_mk, ln_mk, fI_mk, fL_mk, fR_mk, aI_mk, aL_mk, aR_mk, false_and, and_false, if_false, if_true, and_self, Int.reduceEq, Nat.reduceEqDiff, ite_self, MLay_pI, MLay_pL, MLay_qI, MLay_qL, ev_X12_threes_220, ev_X12_threes_223, xt_X12_threes, xf_X12_threes, us_X12_isFirst, us_X12_rowOf, us_X12_areAll, us_X12_tells, hkd]
      exact w
    by_cases c : any3 e a b
    · have w153 := th_153 (Q := Q) (hi := sp) h0 ha hb hab ⟨h1, by omega⟩ (by rw [if_pos c]) (fun τ xs a6 a7 g1 g2 g3 => fin sp τ xs a6 a7 (by rw [if_pos c]) g1 g2 g3) sp.toNat 0 τ xs a7 (by omega) (by omega) hW hTd (by rw [Int.add_zero]; exact hS)
      rw [b2i_t c] at w153 ⊢
      refine go_X12_threes (ct := fun p => p == 147 || p == 226 || p == 153) 20 ?_
      simp only [oI, oL, oR, o1, lI, lL, lR, popN, catS, gv, stL, stL2, swt, cnd, spObj, List.getElem?_cons_zero, List.getElem?_cons_succ, List.getD_cons_zero, List.getD_cons_succ, List.set_cons_zero, List.set_cons_succ, List.nil_append, List.cons_append, Option.toList, Bool.or_false, Bool.false_or, Bool.or_true, Bool.true_or, Nat.reduceBEq, Nat.reduceAdd, Nat.reduceLT, Nat.reduceLeDiff, Int.reduceAdd, Int.reduceToNat, true_and, and_true, Fin.isValue, Fin.val_zero, Fin.val_one, Fin.val_two, Fin.reduceFinMk, eq_self, Int.reduceNeg, imp_self, Nat.reduceMul, Nat.le_refl, not_true_eq_false, not_false_eq_true, List.getElem?_nil, reduceCtorEq, true_or, or_true, Classical.not_not, implies_true, or_self, wI_0, wI_1, wI_m1, b2i_w, b2i_eq0, b2i_eq1, b2i_bool, nor_self, nx_pI, kd_pI, ln_pI, fI_pI, fL_pI, fR_pI, aI_pI, aL_pI, aR_pI, nx_pL, kd_pL, ln_pL, fI_pL, fL_pL, fR_pL, aI_pL, aL_pL, aR_pL, nx_pR, kd_pR, ln_pR, fI_pR, fL_pR, fR_pR, aI_pR, aL_pR, aR_pR, nx_qI, kd_qI, ln_qI, fI_qI, fL_qI, fR_qI, aI_qI, aL_qI, aR_qI, nx_qL, kd_qL, ln_qL, fI_qL, fL_qL, fR_qL, aI_qL, aL_qL, aR_qL, nx_qR, kd_qR, ln_qR, fI_qR, fL_qR, fR_qR, aI_qR, aL_qR, aR_qR, nx_mk, kd_mk, ln_mk, fI_mk, fL_mk, fR_mk, aI_mk, aL_mk, aR_mk, false_and, and_false, if_false, if_true, and_self, Int.reduceEq, Nat.reduceEqDiff, ite_self, MLay_pI, MLay_pL, MLay_qI, MLay_qL, ev_X12_threes_132, ev_X12_threes_134, ev_X12_threes_135, ev_X12_threes_138, ev_X12_threes_140, ev_X12_threes_143, ev_X12_threes_144, ev_X12_threes_147, ev_X12_threes_148, ev_X12_threes_151, xt_X12_threes, xf_X12_threes, us_X12_isFirst, us_X12_rowOf, us_X12_areAll, us_X12_tells, hkd, hwk, hwn, not_true_eq_false, not_false_eq_true, false_imp_iff, true_imp_iff]
      try simp (disch := omega) only [wI_id, dv_nn, rm_nn]
      repeat' (first | intro z | apply And.intro)
      all_goals try omega
      all_goals exact w153
    · have w153 := th_153 (Q := Q) (hi := e + 1) h0 ha hb hab ⟨h1, by omega⟩ (by rw [if_neg c]) (fun τ xs a6 a7 g1 g2 g3 => fin (e + 1) τ xs a6 a7 (by rw [if_neg c]) g1 g2 g3) 1 e τ xs a7 (by omega) (by omega) hW hTd (th_skip (a := a) (b := b) (c := 300 * k) (c' := 300 * k + e) hn.2 ⟨hb.1, hb.2.1⟩ (by omega) (by omega) (by omega) hS rfl (fun r q1 q2 => th_no hP c (by omega)))
      rw [b2i_f c] at w153 ⊢
      refine go_X12_threes (ct := fun p => p == 143 || p == 226 || p == 153) 20 ?_
      simp only [oI, oL, oR, o1, lI, lL, lR, popN, catS, gv, stL, stL2, swt, cnd, spObj, List.getElem?_cons_zero, List.getElem?_cons_succ, List.getD_cons_zero, List.getD_cons_succ, List.set_cons_zero, List.set_cons_succ, List.nil_append, List.cons_append, Option.toList, Bool.or_false, Bool.false_or, Bool.or_true, Bool.true_or, Nat.reduceBEq, Nat.reduceAdd, Nat.reduceLT, Nat.reduceLeDiff, Int.reduceAdd, Int.reduceToNat, true_and, and_true, Fin.isValue, Fin.val_zero, Fin.val_one, Fin.val_two, Fin.reduceFinMk, eq_self, Int.reduceNeg, imp_self, Nat.reduceMul, Nat.le_refl, not_true_eq_false, not_false_eq_true, List.getElem?_nil, reduceCtorEq, true_or, or_true, Classical.not_not, implies_true, or_self, wI_0, wI_1, wI_m1, b2i_w, b2i_eq0, b2i_eq1, b2i_bool, nor_self, nx_pI, kd_pI, ln_pI, fI_pI, fL_pI, fR_pI, aI_pI, aL_pI, aR_pI, nx_pL, kd_pL, ln_pL, fI_pL, fL_pL, fR_pL, aI_pL, aL_pL, aR_pL, nx_pR, kd_pR, ln_pR, fI_pR, fL_pR, fR_pR, aI_pR, aL_pR, aR_pR, nx_qI, kd_qI, ln_qI, fI_qI, fL_qI, fR_qI, aI_qI, aL_qI, aR_qI, nx_qL, kd_qL, ln_qL, fI_qL, fL_qL, fR_qL, aI_qL, aL_qL, aR_qL, nx_qR, kd_qR, ln_qR, fI_qR, fL_qR, fR_qR, aI_qR, aL_qR, aR_qR, nx_mk, kd_mk, ln_mk, fI_mk, fL_mk, fR_mk, aI_mk, aL_mk, aR_mk, false_and, and_false, if_false, if_true, and_self, Int.reduceEq, Nat.reduceEqDiff, ite_self, MLay_pI, MLay_pL, MLay_qI, MLay_qL, ev_X12_threes_132, ev_X12_threes_134, ev_X12_threes_135, ev_X12_threes_138, ev_X12_threes_140, ev_X12_threes_143, ev_X12_threes_144, ev_X12_threes_147, ev_X12_threes_148, ev_X12_threes_151, xt_X12_threes, xf_X12_threes, us_X12_isFirst, us_X12_rowOf, us_X12_areAll, us_X12_tells, hkd, ee, hwk, hwn, not_true_eq_false, not_false_eq_true, false_imp_iff, true_imp_iff]
      try simp (disch := omega) only [wI_id, dv_nn, rm_nn]
      repeat' (first | intro z | apply And.intro)
      all_goals try omega
      all_goals exact w153

set_option maxRecDepth 20000 in
theorem th_57 (h0 : Pc τ0 H K n sp e) {a : Int} (ha : VP n sp a) (w : ∀ τ xs b a4 a5 a6 a7, Wt τ0 τ → Told τ xs → SgB (Sm H K n sp 3) (k13 (a + 1) * 8192 * 8192) xs → Go M_X12_threes Q 232 [some (vr 61), some (vi n), some (vi a), some (vi b), a4, a5, a6, a7] [] τ (0, 0)) :
    ∀ (m : Nat) (b : Int) (τ : Hp) (xs : List (List Int)) (a4 a5 a6 a7 : Option AV), 300 * (a / 300 + 1) ≤ b → b + m = 300 * n → Wt τ0 τ → Told τ xs → SgB (Sm H K n sp 3) ((k13 a * 8192 + k13 b) * 8192) xs → Go M_X12_threes Q 57 [some (vr 61), some (vi n), some (vi a), some (vi b), a4, a5, a6, a7] [] τ (0, 0) := by
  have hn := h0.1
  have hsp := h0.2.2.1
  have ha' := ha
  unfold VP at ha'
  have xa := k13_mono (show a < a + 1 by omega)
  intro m
  induction m with
  | zero =>
    intro b τ xs a4 a5 a6 a7 hb hm hW hTd hS
    have hkd : kd τ 61 = 13 := hW.1.lay.1
    have eb : b = 300 * n := by omega
    have x3 := k13_300 (k := n) (by omega)
    rw [eb] at hS
    have w := w τ xs b a4 a5 a6 a7 hW hTd (hS.skip (by omega) (fun x hx q1 q2 => by
      obtain ⟨p, q, r, rfl⟩ := len3 hx.2
      rw [keyL_3] at q1 q2
      have hx1 := ST3.mp hx.1
      have ep := k3_a (a := a) (p := p) (q := q) (r := r) hn.2 ⟨hx1.1.2.1.1, hx1.1.2.1.2.1⟩ ⟨hx1.1.2.2.1, hx1.1.2.2.2.1⟩ (by omega) q2
      subst ep
      have x4 := k13_mono (show q < 300 * n by have := hx1.1.2.1; omega)
      have x5 := k13_b (p := r) ⟨hx1.1.2.2.1, hx1.1.2.2.2.1⟩ hn.2
      omega))
    rw [eb] at w ⊢
    refine go_X12_threes (ct := fun p => p == 66 || p == 232) 20 ?_
    simp only [oI, oL, oR, o1, lI, lL, lR, popN, catS, gv, stL, stL2, swt, cnd, spObj, List.getElem?_cons_zero, List.getElem?_cons_succ, List.getD_cons_zero, List.getD_cons_succ, List.set_cons_zero, List.set_cons_succ, List.nil_append, List.cons_append, Option.toList, Bool.or_false, Bool.false_or, Bool.or_true, Bool.true_or, Nat.reduceBEq, Nat.reduceAdd, Nat.reduceLT, Nat.reduceLeDiff, Int.reduceAdd, Int.reduceToNat, true_and, and_true, Fin.isValue, Fin.val_zero, Fin.val_one, Fin.val_two, Fin.reduceFinMk, eq_self, Int.reduceNeg, imp_self, Nat.reduceMul, Nat.le_refl, not_true_eq_false, not_false_eq_true, List.getElem?_nil, reduceCtorEq, true_or, or_true, Classical.not_not, implies_true, or_self, wI_0, wI_1, wI_m1, b2i_w, b2i_eq0, b2i_eq1, b2i_bool, nor_self, nx_pI, kd_pI, ln_pI, fI_pI, fL_pI, fR_pI, aI_pI, aL_pI, aR_pI, nx_pL, kd_pL, ln_pL, fI_pL, fL_pL, fR_pL, aI_pL, aL_pL, aR_pL, nx_pR, kd_pR, ln_pR, fI_pR, fL_pR, fR_pR, aI_pR, aL_pR, aR_pR, nx_qI, kd_qI, ln_qI, fI_qI, fL_qI, fR_qI, aI_qI, aL_qI, aR_qI, nx_qL, kd_qL, ln_qL, fI_qL, fL_qL, fR_qL, aI_qL, aL_qL, aR_qL, nx_qR, kd_qR, ln_qR, fI_qR, fL_qR, fR_qR, aI_qR, aL_qR, aR_qR, nx_mk, kd_mk, ln_mk, fI_mk, fL_mk, fR_mk, aI_mk, aL_mk, aR_mk, false_and, and_false, if_false, if_true, and_self, Int.reduceEq, Nat.reduceEqDiff, ite_self, MLay_pI, MLay_pL, MLay_qI, MLay_qL, ev_X12_threes_57, ev_X12_threes_58, ev_X12_threes_61, ev_X12_threes_62, ev_X12_threes_63, xt_X12_threes, xf_X12_threes, us_X12_isFirst, us_X12_rowOf, us_X12_areAll, us_X12_tells, hkd]
    try simp (disch := omega) only [wI_id, dv_nn, rm_nn]
    repeat' (first | intro z | apply And.intro)
    all_goals try omega
    all_goals exact w
  | succ m ih =>
    intro b τ xs a4 a5 a6 a7 hb hm hW hTd hS
    have hT := hW.1
    have hkd : kd τ 61 = 13 := hT.lay.1
    have hP := h0.keep hW
    have es := hP.2.1
    have ee := hP.2.2.2.1
    have hsc := hT.storyCount_s
    have hmy := hT.may_ b
    have hwm : wI (aI τ 82 b) = aI τ 82 b := wI_id (by omega) (by omega)
    have hrm : rmI b 300 = b % 300 := rm_nn (by omega) (by omega) (by omega) (by omega)
    have hdv : dvI b 300 = b / 300 := dv_nn (by omega) (by omega) (by omega) (by omega)
    have hw2 : wI 200 = 200 := by decide
    have xb := k13_mono (show b < b + 1 by omega)
    have x3 : k13 b ≤ 6144 := by
      have := k13_le (show b ≤ 300 * n by omega)
      have := k13_300 (k := n) (by omega)
      omega
    have noS : (∀ r, ¬ ST H K n sp [a, b, r]) → Go M_X12_threes Q 57 [some (vr 61), some (vi n), some (vi a), some (vi (b + 1)), a4, a5, a6, a7] [] τ (0, 0) := fun c => ih (b + 1) τ xs a4 a5 a6 a7 (by omega) (by omega) hW hTd (hS.skip (by omega) fun x hx q1 q2 => by
      obtain ⟨p, q, r, rfl⟩ := len3 hx.2
      rw [keyL_3] at q1 q2
      have hx1 := ST3.mp hx.1
      have := k3_ab (a := a) (b := b) (p := p) (q := q) (r := r) hn.2 ⟨hx1.1.2.1.1, hx1.1.2.1.2.1⟩ ⟨hx1.1.2.2.1, hx1.1.2.2.2.1⟩ (by omega) q1 q2
      rw [this.1, this.2] at hx
      exact c r hx.1)
    by_cases cf : 200 ≤ fI τ 1322 61
    · have w := w τ xs b a4 a5 a6 a7 hW hTd (hS.full (by omega) (by have := hTd.1; omega))
      have cT := eq_true cf
      have hws : wI (fI τ 1322 61) = fI τ 1322 61 := wI_id (by omega) (by omega)
      refine go_X12_threes (ct := fun p => p == 76 || p == 232) 30 ?_
      simp only [oI, oL, oR, o1, lI, lL, lR, popN, catS, gv, stL, stL2, swt, cnd, spObj, List.getElem?_cons_zero, List.getElem?_cons_succ, List.getD_cons_zero, List.getD_cons_succ, List.set_cons_zero, List.set_cons_succ, List.nil_append, List.cons_append, Option.toList, Bool.or_false, Bool.false_or, Bool.or_true, Bool.true_or, Nat.reduceBEq, Nat.reduceAdd, Nat.reduceLT, Nat.reduceLeDiff, Int.reduceAdd, Int.reduceToNat, true_and, and_true, Fin.isValue, Fin.val_zero, Fin.val_one, Fin.val_two, Fin.reduceFinMk, eq_self, Int.reduceNeg, imp_self, Nat.reduceMul, Nat.le_refl, not_true_eq_false, not_false_eq_true, List.getElem?_nil, reduceCtorEq, true_or, or_true, Classical.not_not, implies_true, or_self, wI_0, wI_1, wI_m1, b2i_w, b2i_eq0, b2i_eq1, b2i_bool, nor_self, nx_pI, kd_pI, ln_pI, fI_pI, fL_pI, fR_pI, aI_pI, aL_pI, aR_pI, nx_pL, kd_pL, ln_pL, fI_pL, fL_pL, fR_pL, aI_pL, aL_pL, aR_pL, nx_pR, kd_pR, ln_pR, fI_pR, fL_pR, fR_pR, aI_pR, aL_pR, aR_pR, nx_qI, kd_qI, ln_qI, fI_qI, fL_qI, fR_qI, aI_qI, aL_qI, aR_qI, nx_qL, kd_qL, ln_qL, fI_qL, fL_qL, fR_qL, aI_qL, aL_qL, aR_qL, nx_qR, kd_qR, ln_qR, fI_qR, fL_qR, fR_qR, aI_qR, aL_qR, aR_qR, nx_mk, kd_mk, ln_mk, fI_mk, fL_mk, fR_mk, aI_mk, aL_mk, aR_mk, false_and, and_false, if_false, if_true, and_self, Int.reduceEq, Nat.reduceEqDiff, ite_self, MLay_pI, MLay_pL, MLay_qI, MLay_qL, ev_X12_threes_57, ev_X12_threes_58, ev_X12_threes_61, ev_X12_threes_62, ev_X12_threes_63, ev_X12_threes_66, ev_X12_threes_67, ev_X12_threes_70, ev_X12_threes_73, xt_X12_threes, xf_X12_threes, us_X12_isFirst, us_X12_rowOf, us_X12_areAll, us_X12_tells, hkd, hw2, hws, cT, not_true_eq_false, not_false_eq_true, false_imp_iff, true_imp_iff]
      try simp (disch := omega) only [wI_id, dv_nn, rm_nn]
      repeat' (first | intro z | apply And.intro)
      all_goals try omega
      all_goals exact w
    · have cF := eq_false cf
      have hws : wI (fI τ 1322 61) = fI τ 1322 61 := wI_id (by omega) (by omega)
      suffices w76 : Go M_X12_threes Q 76 [some (vr 61), some (vi n), some (vi a), some (vi b), a4, a5, a6, a7] [] τ (0, 0) by
        refine go_X12_threes (ct := fun p => p == 76 || p == 232) 30 ?_
        simp only [oI, oL, oR, o1, lI, lL, lR, popN, catS, gv, stL, stL2, swt, cnd, spObj, List.getElem?_cons_zero, List.getElem?_cons_succ, List.getD_cons_zero, List.getD_cons_succ, List.set_cons_zero, List.set_cons_succ, List.nil_append, List.cons_append, Option.toList, Bool.or_false, Bool.false_or, Bool.or_true, Bool.true_or, Nat.reduceBEq, Nat.reduceAdd, Nat.reduceLT, Nat.reduceLeDiff, Int.reduceAdd, Int.reduceToNat, true_and, and_true, Fin.isValue, Fin.val_zero, Fin.val_one, Fin.val_two, Fin.reduceFinMk, eq_self, Int.reduceNeg, imp_self, Nat.reduceMul, Nat.le_refl, not_true_eq_false, not_false_eq_true, List.getElem?_nil, reduceCtorEq, true_or, or_true, Classical.not_not, implies_true, or_self, wI_0, wI_1, wI_m1, b2i_w, b2i_eq0, b2i_eq1, b2i_bool, nor_self, nx_pI, kd_pI, ln_pI, fI_pI, fL_pI, fR_pI, aI_pI, aL_pI, aR_pI, nx_pL, kd_pL, ln_pL, fI_pL, fL_pL, fR_pL, aI_pL, aL_pL, aR_pL, nx_pR, kd_pR, ln_pR, fI_pR, fL_pR, fR_pR, aI_pR, aL_pR, aR_pR, nx_qI, kd_qI, ln_qI, fI_qI, fL_qI, fR_qI, aI_qI, aL_qI, aR_qI, nx_qL, kd_qL, ln_qL, fI_qL, fL_qL, fR_qL, aI_qL, aL_qL, aR_qL, nx_qR, kd_qR, ln_qR, fI_qR, fL_qR, fR_qR, aI_qR, aL_qR, aR_qR, nx_mk, kd_mk, ln_mk, fI_mk, fL_mk, fR_mk, aI_mk, aL_mk, aR_mk, false_and, and_false, if_false, if_true, and_self, Int.reduceEq, Nat.reduceEqDiff, ite_self, MLay_pI, MLay_pL, MLay_qI, MLay_qL, ev_X12_threes_57, ev_X12_threes_58, ev_X12_threes_61, ev_X12_threes_62, ev_X12_threes_63, ev_X12_threes_66, ev_X12_threes_67, ev_X12_threes_70, ev_X12_threes_73, xt_X12_threes, xf_X12_threes, us_X12_isFirst, us_X12_rowOf, us_X12_areAll, us_X12_tells, hkd, hw2, hws, cF, not_true_eq_false, not_false_eq_true, false_imp_iff, true_imp_iff]
        try simp (disch := omega) only [wI_id, dv_nn, rm_nn]
        repeat' (first | intro z | apply And.intro)
        all_goals try omega
        all_goals exact w76
      by_cases c2 : b % 300 < sp
      · have hv : VP n sp b := ⟨by omega, by omega, c2⟩
        by_cases c1 : aI τ 82 b = 0
        · have w := noS (fun r q => by have := may_1 hP q (p := b) (by simp); omega)
          refine go_X12_threes (ct := fun p => p == 100 || p == 57) 30 ?_
          simp only [oI, oL, oR, o1, lI, lL, lR, popN, catS, gv, stL, stL2, swt, cnd, spObj, List.getElem?_cons_zero, List.getElem?_cons_succ, List.getD_cons_zero, List.getD_cons_succ, List.set_cons_zero, List.set_cons_succ, List.nil_append, List.cons_append, Option.toList, Bool.or_false, Bool.false_or, Bool.or_true, Bool.true_or, Nat.reduceBEq, Nat.reduceAdd, Nat.reduceLT, Nat.reduceLeDiff, Int.reduceAdd, Int.reduceToNat, true_and, and_true, Fin.isValue, Fin.val_zero, Fin.val_one, Fin.val_two, Fin.reduceFinMk, eq_self, Int.reduceNeg, imp_self, Nat.reduceMul, Nat.le_refl, not_true_eq_false, not_false_eq_true, List.getElem?_nil, reduceCtorEq, true_or, or_true, Classical.not_not, implies_true, or_self, wI_0, wI_1, wI_m1, b2i_w, b2i_eq0, b2i_eq1, b2i_bool, nor_self, nx_pI, kd_pI, ln_pI, fI_pI, fL_pI, fR_pI, aI_pI, aL_pI, aR_pI, nx_pL, kd_pL, ln_pL, fI_pL, fL_pL, fR_pL, aI_pL, aL_pL, aR_pL, nx_pR, kd_pR, ln_pR, fI_pR, fL_pR, fR_pR, aI_pR, aL_pR, aR_pR, nx_qI, kd_qI, ln_qI, fI_qI, fL_qI, fR_qI, aI_qI, aL_qI, aR_qI, nx_qL, kd_qL, ln_qL, fI_qL, fL_qL, fR_qL, aI_qL, aL_qL, aR_qL, nx_qR, kd_qR, ln_qR, fI_qR, fL_qR, fR_qR, aI_qR, aL_qR, aR_qR, nx_mk, kd_mk, ln_mk, fI_mk, fL_mk, fR_mk, aI_mk, aL_mk, aR_mk, false_and, and_false, if_false, if_true, and_self, Int.reduceEq, Nat.reduceEqDiff, ite_self, MLay_pI, MLay_pL, MLay_qI, MLay_qL, ev_X12_threes_76, ev_X12_threes_77, ev_X12_threes_80, ev_X12_threes_81, ev_X12_threes_82, ev_X12_threes_85, ev_X12_threes_88, ev_X12_threes_89, ev_X12_threes_92, ev_X12_threes_93, ev_X12_threes_94, ev_X12_threes_97, ev_X12_threes_226, ev_X12_threes_229, xt_X12_threes, xf_X12_threes, us_X12_isFirst, us_X12_rowOf, us_X12_areAll, us_X12_tells, hkd, hT.lay.eqs, es, hrm, c1, not_true_eq_false, not_false_eq_true, false_imp_iff, true_imp_iff]
          try simp (disch := omega) only [wI_id, dv_nn, rm_nn]
          repeat' (first | intro z | apply And.intro)
          all_goals try omega
          all_goals exact w
        · have b1 : 0 ≤ a ∧ a < 3600 := by omega
          have b2 : 0 ≤ b ∧ b < 3600 := by omega
          have hab : a / 300 < b / 300 := by omega
          have w132 := fun a6 a7 => th_132 (Q := Q) h0 ha hv hab (fun τ xs a5 a6 a7 g1 g2 g3 => by
            have hkd : kd τ 61 = 13 := g1.1.lay.1
            have w := ih (b + 1) τ xs (some (vi (b2i (any3 e a b)))) a5 a6 a7 (by omega) (by omega) g1 g2 g3
            generalize b2i (any3 e a b) = v at *
            refine go_X12_threes (ct := fun p => p == 57) 20 ?_
            simp only [oI, oL, oR, o1, lI, lL, lR, popN, catS, gv, stL, stL2, swt, cnd, spObj, List.getElem?_cons_zero, List.getElem?_cons_succ, List.getD_cons_zero, List.getD_cons_succ, List.set_cons_zero, List.set_cons_succ, List.nil_append, List.cons_append, Option.toList, Bool.or_false, Bool.false_or, Bool.or_true, Bool.true_or, Nat.reduceBEq, Nat.reduceAdd, Nat.reduceLT, Nat.reduceLeDiff, Int.reduceAdd, Int.reduceToNat, true_and, and_true, Fin.isValue, Fin.val_zero, Fin.val_one, Fin.val_two, Fin.reduceFinMk, eq_self, Int.reduceNeg, imp_self, Nat.reduceMul, Nat.le_refl, not_true_eq_false, not_false_eq_true, List.getElem?_nil, reduceCtorEq, true_or, or_true, Classical.not_not, implies_true, or_self, wI_0, wI_1, wI_m1, b2i_w, b2i_eq0, b2i_eq1, b2i_bool, nor_self, nx_pI, kd_pI, ln_pI, fI_pI, fL_pI, fR_pI, aI_pI, aL_pI, aR_pI, nx_pL, kd_pL, ln_pL, fI_pL, fL_pL, fR_pL, aI_pL, aL_pL, aR_pL, nx_pR, kd_pR, ln_pR, fI_pR, fL_pR, fR_pR, aI_pR, aL_pR, aR_pR, nx_qI, kd_qI, ln_qI, fI_qI, fL_qI, fR_qI, aI_qI, aL_qI, aR_qI, nx_qL, kd_qL, ln_qL, fI_qL, fL_qL, fR_qL, aI_qL, aL_qL, aR_qL, nx_qR, kd_qR, ln_qR, fI_qR, fL_qR, fR_qR, aI_qR, aL_qR, aR_qR, nx_mk, kd_mk, ln_mk, fI_mk, fL_mk, fR_mk, aI_mk, aL_mk, aR_mk, false_and, and_false, if_false, if_true, and_self, Int.reduceEq, Nat.reduceEqDiff, ite_self, MLay_pI, MLay_pL, MLay_qI, MLay_qL, ev_X12_threes_226, ev_X12_threes_229, xt_X12_threes, xf_X12_threes, us_X12_isFirst, us_X12_rowOf, us_X12_areAll, us_X12_tells, hkd]
            exact w) (n - (b / 300 + 1)).toNat (b / 300 + 1) τ xs a6 a7 (by omega) (by omega) hW hTd (hS.skip (by
              have := k13_300 (k := b / 300 + 1) (by omega)
              unfold B3; omega) fun x hx q1 q2 => by
            obtain ⟨p, q, r, rfl⟩ := len3 hx.2
            rw [keyL_3] at q1 q2
            have hx1 := ST3.mp hx.1
            have x5 := k13_300 (k := b / 300 + 1) (by omega)
            unfold B3 at q2
            have e2 := k3_ab (a := a) (b := b) (p := p) (q := q) (r := r) hn.2 ⟨hx1.1.2.1.1, hx1.1.2.1.2.1⟩ ⟨hx1.1.2.2.1, hx1.1.2.2.2.1⟩ (by omega) q1 (by omega)
            rw [e2.1, e2.2] at q1 q2
            have := k13_lt (p := r) (q := 300 * (b / 300 + 1)) (by omega)
            have h7 := hx1.2.2.1
            rw [e2.2] at h7
            omega)
          by_cases c5 : a % 300 = e
          · rw [b2i_t (p := any3 e a b) (Or.inl c5)] at w132
            have cT := eq_true c5
            refine go_X12_threes (ct := fun p => p == 226 || p == 108 || p == 120 || p == 132) 40 ?_
            simp only [oI, oL, oR, o1, lI, lL, lR, popN, catS, gv, stL, stL2, swt, cnd, spObj, List.getElem?_cons_zero, List.getElem?_cons_succ, List.getD_cons_zero, List.getD_cons_succ, List.set_cons_zero, List.set_cons_succ, List.nil_append, List.cons_append, Option.toList, Bool.or_false, Bool.false_or, Bool.or_true, Bool.true_or, Nat.reduceBEq, Nat.reduceAdd, Nat.reduceLT, Nat.reduceLeDiff, Int.reduceAdd, Int.reduceToNat, true_and, and_true, Fin.isValue, Fin.val_zero, Fin.val_one, Fin.val_two, Fin.reduceFinMk, eq_self, Int.reduceNeg, imp_self, Nat.reduceMul, Nat.le_refl, not_true_eq_false, not_false_eq_true, List.getElem?_nil, reduceCtorEq, true_or, or_true, Classical.not_not, implies_true, or_self, wI_0, wI_1, wI_m1, b2i_w, b2i_eq0, b2i_eq1, b2i_bool, nor_self, nx_pI, kd_pI, ln_pI, fI_pI, fL_pI, fR_pI, aI_pI, aL_pI, aR_pI, nx_pL, kd_pL, ln_pL, fI_pL, fL_pL, fR_pL, aI_pL, aL_pL, aR_pL, nx_pR, kd_pR, ln_pR, fI_pR, fL_pR, fR_pR, aI_pR, aL_pR, aR_pR, nx_qI, kd_qI, ln_qI, fI_qI, fL_qI, fR_qI, aI_qI, aL_qI, aR_qI, nx_qL, kd_qL, ln_qL, fI_qL, fL_qL, fR_qL, aI_qL, aL_qL, aR_qL, nx_qR, kd_qR, ln_qR, fI_qR, fL_qR, fR_qR, aI_qR, aL_qR, aR_qR, nx_mk, kd_mk, ln_mk, fI_mk, fL_mk, fR_mk, aI_mk, aL_mk, aR_mk, false_and, and_false, if_false, if_true, and_self, Int.reduceEq, Nat.reduceEqDiff, ite_self, MLay_pI, MLay_pL, MLay_qI, MLay_qL, ev_X12_threes_76, ev_X12_threes_77, ev_X12_threes_80, ev_X12_threes_81, ev_X12_threes_82, ev_X12_threes_85, ev_X12_threes_88, ev_X12_threes_89, ev_X12_threes_92, ev_X12_threes_93, ev_X12_threes_94, ev_X12_threes_97, ev_X12_threes_100, ev_X12_threes_101, ev_X12_threes_102, ev_X12_threes_105, ev_X12_threes_108, ev_X12_threes_109, ev_X12_threes_110, ev_X12_threes_113, ev_X12_threes_116, ev_X12_threes_117, ev_X12_threes_120, ev_X12_threes_121, ev_X12_threes_123, ev_X12_threes_124, ev_X12_threes_127, ev_X12_threes_128, ev_X12_threes_129, ev_X12_threes_130, xt_X12_threes, xf_X12_threes, us_X12_isFirst, us_X12_rowOf, us_X12_areAll, us_X12_tells, hkd, hT, hT.lay.eqs, es, ee, hrm, hdv, hwm, c1, cT, b1, b2, b2i_T, not_true_eq_false, not_false_eq_true, false_imp_iff, true_imp_iff]
            try simp (disch := omega) only [wI_id, dv_nn, rm_nn]
            repeat' (first | intro z | apply And.intro)
            all_goals try omega
            all_goals exact w132 _ _
          · have cF2 := eq_false c5
            by_cases c6 : b % 300 = e
            · rw [b2i_t (p := any3 e a b) (Or.inr c6)] at w132
              have cT := eq_true c6
              refine go_X12_threes (ct := fun p => p == 226 || p == 120 || p == 132) 40 ?_
              simp only [oI, oL, oR, o1, lI, lL, lR, popN, catS, gv, stL, stL2, swt, cnd, spObj, List.getElem?_cons_zero, List.getElem?_cons_succ, List.getD_cons_zero, List.getD_cons_succ, List.set_cons_zero, List.set_cons_succ, List.nil_append, List.cons_append, Option.toList, Bool.or_false, Bool.false_or, Bool.or_true, Bool.true_or, Nat.reduceBEq, Nat.reduceAdd, Nat.reduceLT, Nat.reduceLeDiff, Int.reduceAdd, Int.reduceToNat, true_and, and_true, Fin.isValue, Fin.val_zero, Fin.val_one, Fin.val_two, Fin.reduceFinMk, eq_self, Int.reduceNeg, imp_self, Nat.reduceMul, Nat.le_refl, not_true_eq_false, not_false_eq_true, List.getElem?_nil, reduceCtorEq, true_or, or_true, Classical.not_not, implies_true, or_self, wI_0, wI_1, wI_m1, b2i_w, b2i_eq0, b2i_eq1, b2i_bool, nor_self, nx_pI, kd_pI, ln_pI, fI_pI, fL_pI, fR_pI, aI_pI, aL_pI, aR_pI, nx_pL, kd_pL, ln_pL, fI_pL, fL_pL, fR_pL, aI_pL, aL_pL, aR_pL, nx_pR, kd_pR, ln_pR, fI_pR, fL_pR, fR_pR, aI_pR, aL_pR, aR_pR, nx_qI, kd_qI, ln_qI, fI_qI, fL_qI, fR_qI, aI_qI, aL_qI, aR_qI, nx_qL, kd_qL, ln_qL, fI_qL, fL_qL, fR_qL, aI_qL, aL_qL, aR_qL, nx_qR, kd_qR, ln_qR, fI_qR, fL_qR, fR_qR, aI_qR, aL_qR, aR_qR, nx_mk, kd_mk, ln_mk, fI_mk, fL_mk, fR_mk, aI_mk, aL_mk, aR_mk, false_and, and_false, if_false, if_true, and_self, Int.reduceEq, Nat.reduceEqDiff, ite_self, MLay_pI, MLay_pL, MLay_qI, MLay_qL, ev_X12_threes_76, ev_X12_threes_77, ev_X12_threes_80, ev_X12_threes_81, ev_X12_threes_82, ev_X12_threes_85, ev_X12_threes_88, ev_X12_threes_89, ev_X12_threes_92, ev_X12_threes_93, ev_X12_threes_94, ev_X12_threes_97, ev_X12_threes_100, ev_X12_threes_101, ev_X12_threes_102, ev_X12_threes_105, ev_X12_threes_108, ev_X12_threes_109, ev_X12_threes_110, ev_X12_threes_113, ev_X12_threes_116, ev_X12_threes_117, ev_X12_threes_120, ev_X12_threes_121, ev_X12_threes_123, ev_X12_threes_124, ev_X12_threes_127, ev_X12_threes_128, ev_X12_threes_129, ev_X12_threes_130, xt_X12_threes, xf_X12_threes, us_X12_isFirst, us_X12_rowOf, us_X12_areAll, us_X12_tells, hkd, hT, hT.lay.eqs, es, ee, hrm, hdv, hwm, c1, cF2, cT, b1, b2, b2i_T, b2i_F, not_true_eq_false, not_false_eq_true, false_imp_iff, true_imp_iff]
              try simp (disch := omega) only [wI_id, dv_nn, rm_nn]
              repeat' (first | intro z | apply And.intro)
              all_goals try omega
              all_goals exact w132 _ _
            · rw [b2i_f (p := any3 e a b) (fun q => q.elim c5 c6)] at w132
              have cG := eq_false c6
              refine go_X12_threes (ct := fun p => p == 226 || p == 116 || p == 132) 40 ?_
              simp only [oI, oL, oR, o1, lI, lL, lR, popN, catS, gv, stL, stL2, swt, cnd, spObj, List.getElem?_cons_zero, List.getElem?_cons_succ, List.getD_cons_zero, List.getD_cons_succ, List.set_cons_zero, List.set_cons_succ, List.nil_append, List.cons_append, Option.toList, Bool.or_false, Bool.false_or, Bool.or_true, Bool.true_or, Nat.reduceBEq, Nat.reduceAdd, Nat.reduceLT, Nat.reduceLeDiff, Int.reduceAdd, Int.reduceToNat, true_and, and_true, Fin.isValue, Fin.val_zero, Fin.val_one, Fin.val_two, Fin.reduceFinMk, eq_self, Int.reduceNeg, imp_self, Nat.reduceMul, Nat.le_refl, not_true_eq_false, not_false_eq_true, List.getElem?_nil, reduceCtorEq, true_or, or_true, Classical.not_not, implies_true, or_self, wI_0, wI_1, wI_m1, b2i_w, b2i_eq0, b2i_eq1, b2i_bool, nor_self, nx_pI, kd_pI, ln_pI, fI_pI, fL_pI, fR_pI, aI_pI, aL_pI, aR_pI, nx_pL, kd_pL, ln_pL, fI_pL, fL_pL, fR_pL, aI_pL, aL_pL, aR_pL, nx_pR, kd_pR, ln_pR, fI_pR, fL_pR, fR_pR, aI_pR, aL_pR, aR_pR, nx_qI, kd_qI, ln_qI, fI_qI, fL_qI, fR_qI, aI_qI, aL_qI, aR_qI, nx_qL, kd_qL, ln_qL, fI_qL, fL_qL, fR_qL, aI_qL, aL_qL, aR_qL, nx_qR, kd_qR, ln_qR, fI_qR, fL_qR, fR_qR, aI_qR, aL_qR, aR_qR, nx_mk, kd_mk, ln_mk, fI_mk, fL_mk, fR_mk, aI_mk, aL_mk, aR_mk, false_and, and_false, if_false, if_true, and_self, Int.reduceEq, Nat.reduceEqDiff, ite_self, MLay_pI, MLay_pL, MLay_qI, MLay_qL, ev_X12_threes_76, ev_X12_threes_77, ev_X12_threes_80, ev_X12_threes_81, ev_X12_threes_82, ev_X12_threes_85, ev_X12_threes_88, ev_X12_threes_89, ev_X12_threes_92, ev_X12_threes_93, ev_X12_threes_94, ev_X12_threes_97, ev_X12_threes_100, ev_X12_threes_101, ev_X12_threes_102, ev_X12_threes_105, ev_X12_threes_108, ev_X12_threes_109, ev_X12_threes_110, ev_X12_threes_113, ev_X12_threes_116, ev_X12_threes_117, ev_X12_threes_120, ev_X12_threes_121, ev_X12_threes_123, ev_X12_threes_124, ev_X12_threes_127, ev_X12_threes_128, ev_X12_threes_129, ev_X12_threes_130, xt_X12_threes, xf_X12_threes, us_X12_isFirst, us_X12_rowOf, us_X12_areAll, us_X12_tells, hkd, hT, hT.lay.eqs, es, ee, hrm, hdv, hwm, c1, cF2, cG, b1, b2, b2i_F, not_true_eq_false, not_false_eq_true, false_imp_iff, true_imp_iff]
              try simp (disch := omega) only [wI_id, dv_nn, rm_nn]
              repeat' (first | intro z | apply And.intro)
              all_goals try omega
              all_goals exact w132 _ _
      · have w := noS (fun r q => c2 (ST3.mp q).1.2.1.2.2)
        refine go_X12_threes (ct := fun p => p == 88 || p == 57) 30 ?_
        simp only [oI, oL, oR, o1, lI, lL, lR, popN, catS, gv, stL, stL2, swt, cnd, spObj, List.getElem?_cons_zero, List.getElem?_cons_succ, List.getD_cons_zero, List.getD_cons_succ, List.set_cons_zero, List.set_cons_succ, List.nil_append, List.cons_append, Option.toList, Bool.or_false, Bool.false_or, Bool.or_true, Bool.true_or, Nat.reduceBEq, Nat.reduceAdd, Nat.reduceLT, Nat.reduceLeDiff, Int.reduceAdd, Int.reduceToNat, true_and, and_true, Fin.isValue, Fin.val_zero, Fin.val_one, Fin.val_two, Fin.reduceFinMk, eq_self, Int.reduceNeg, imp_self, Nat.reduceMul, Nat.le_refl, not_true_eq_false, not_false_eq_true, List.getElem?_nil, reduceCtorEq, true_or, or_true, Classical.not_not, implies_true, or_self, wI_0, wI_1, wI_m1, b2i_w, b2i_eq0, b2i_eq1, b2i_bool, nor_self, nx_pI, kd_pI, ln_pI, fI_pI, fL_pI, fR_pI, aI_pI, aL_pI, aR_pI, nx_pL, kd_pL, ln_pL, fI_pL, fL_pL, fR_pL, aI_pL, aL_pL, aR_pL, nx_pR, kd_pR, ln_pR, fI_pR, fL_pR, fR_pR, aI_pR, aL_pR, aR_pR, nx_qI, kd_qI, ln_qI, fI_qI, fL_qI, fR_qI, aI_qI, aL_qI, aR_qI, nx_qL, kd_qL, ln_qL, fI_qL, fL_qL, fR_qL, aI_qL, aL_qL, aR_qL, nx_qR, kd_qR, ln_qR, fI_qR, fL_qR, fR_qR, aI_qR, aL_qR, aR_qR, nx_mk, kd_mk, ln_mk, fI_mk, fL_mk, fR_mk, aI_mk, aL_mk, aR_mk, false_and, and_false, if_false, if_true, and_self, Int.reduceEq, Nat.reduceEqDiff, ite_self, MLay_pI, MLay_pL, MLay_qI, MLay_qL, ev_X12_threes_76, ev_X12_threes_77, ev_X12_threes_80, ev_X12_threes_81, ev_X12_threes_82, ev_X12_threes_85, ev_X12_threes_88, ev_X12_threes_89, ev_X12_threes_92, ev_X12_threes_93, ev_X12_threes_94, ev_X12_threes_97, ev_X12_threes_226, ev_X12_threes_229, xt_X12_threes, xf_X12_threes, us_X12_isFirst, us_X12_rowOf, us_X12_areAll, us_X12_tells, hkd, hT.lay.eqs, es, hrm, not_true_eq_false, not_false_eq_true, false_imp_iff, true_imp_iff]
        try simp (disch := omega) only [wI_id, dv_nn, rm_nn]
        repeat' (first | intro z | apply And.intro)
        all_goals try omega
        all_goals exact w

end TH
