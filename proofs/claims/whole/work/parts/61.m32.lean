/-! the reference: stories of three -/

section TH
variable {Q : Option AV → Hp → Prop} {τ0 : Hp} {H : Int → Prop} {K : Int → Int → Prop} {n sp e : Int}
abbrev any3 (e a b : Int) : Prop := a % 300 = e ∨ b % 300 = e
theorem th_no {τ : Hp} (hP : Pc τ H K n sp e) {a b c : Int} (h : ¬ any3 e a b) (hc : ¬ c % 300 = e) : ¬ ST H K n sp [a, b, c] := fun q => by
  obtain ⟨p, hp, h9⟩ := is_first hP q
  rcases List.mem_cons.mp hp with z | z
  · subst z; exact h (Or.inl h9)
  · rcases List.mem_cons.mp z with z | z
    · subst z; exact h (Or.inr h9)
    · rw [List.mem_singleton.mp z] at h9; exact hc h9
/-- from c to c', if no story has a third one between -/
theorem th_skip {B' : Int} {a b c c' : Int} {xs : List (List Int)} (hn : n ≤ 12) (hb : 0 ≤ b ∧ b / 300 < n) (hc : 0 ≤ c) (hcc : c ≤ c') (hc' : c' ≤ 300 * n) (h : SgB (Sm H K n sp 3) (B3 a b c) xs) (hB : B' = B3 a b c') (hno : ∀ r, c ≤ r → r < c' → ¬ ST H K n sp [a, b, r]) : SgB (Sm H K n sp 3) B' xs := by
  have x1 := k13_le hcc
  rw [hB]
  refine h.skip (by unfold B3; omega) fun x hx q1 q2 => ?_
  obtain ⟨p, q, r, rfl⟩ := len3 hx.2
  rw [keyL_3] at q1 q2
  have hx1 := ST3.mp hx.1
  unfold B3 at q1 q2
  have x2 := k13_b (p := r) ⟨hx1.1.2.2.1, hx1.1.2.2.2.1⟩ hn
  have x3 : 0 ≤ k13 c := by unfold k13; omega
  have x4 : k13 c' ≤ 6144 := by
    have := k13_le hc'
    have : k13 (300 * n) ≤ 6144 := by unfold k13; omega
    omega
  have x5 := k13_mono (show b < b + 1 by omega)
  have ee := k3_ab (a := a) (b := b) (p := p) (q := q) (r := r) hn ⟨hx1.1.2.1.1, hx1.1.2.1.2.1⟩ ⟨hx1.1.2.2.1, hx1.1.2.2.2.1⟩ hb (by omega) (by omega)
  rw [ee.1, ee.2] at q1 q2 hx
  have r1 : ¬ r < c := fun z => by have := k13_mono z; omega
  exact hno r (by omega) (k13_lt (by omega)) hx.1

set_option maxRecDepth 20000 in
theorem th_153 (h0 : Pc τ0 H K n sp e) {a b k hi : Int} (ha : VP n sp a) (hb : VP n sp b) (hab : a / 300 < b / 300) (hk : b / 300 < k ∧ k < n) (hhi : hi = if any3 e a b then sp else e + 1) (w : ∀ τ xs a6 a7, Wt τ0 τ → Told τ xs → SgB (Sm H K n sp 3) (B3 a b (300 * k + hi)) xs → Go M_X12_threes Q 220 [some (vr 61), some (vi n), some (vi a), some (vi b), some (vi (b2i (any3 e a b))), some (vi k), a6, a7] [] τ (0, 0)) :
    ∀ (m : Nat) (t : Int) (τ : Hp) (xs : List (List Int)) (a7 : Option AV), 0 ≤ t → t + m = hi → Wt τ0 τ → Told τ xs → SgB (Sm H K n sp 3) (B3 a b (300 * k + t)) xs → Go M_X12_threes Q 153 [some (vr 61), some (vi n), some (vi a), some (vi b), some (vi (b2i (any3 e a b))), some (vi k), some (vi t), a7] [] τ (0, 0) := by
  have hn := h0.1
  have hsp := h0.2.2.1
  have he := h0.2.2.2.2.1
  have hh : hi ≤ sp := by rw [hhi]; split <;> omega
  have hb' := hb
  unfold VP at hb'
  have hk0 : 0 ≤ k := by omega
  intro m
  induction m with
  | zero =>
    intro t τ xs a7 h1 h2 hW hTd hS
    have hkd : kd τ 61 = 13 := hW.1.lay.1
    have hP := h0.keep hW
    have es := hP.2.1
    have ee := hP.2.2.2.1
    have et : t = hi := by omega
    rw [et] at hS
    have w := w τ xs (some (vi t)) a7 hW hTd hS
    by_cases c : any3 e a b
    · rw [b2i_t c] at w ⊢
      rw [if_pos c] at hhi
      refine go_X12_threes (ct := fun p => p == 167 || p == 176 || p == 220) 20 ?_
      simp only [oI, oL, oR, o1, lI, lL, lR, popN, catS, gv, stL, stL2, swt, cnd, spObj, List.getElem?_cons_zero, List.getElem?_cons_succ, List.getD_cons_zero, List.getD_cons_succ, List.set_cons_zero, List.set_cons_succ, List.nil_append, List.cons_append, Option.toList, Bool.or_false, Bool.false_or, Bool.or_true, Bool.true_or, Nat.reduceBEq, Nat.reduceAdd, Nat.reduceLT, Nat.reduceLeDiff, Int.reduceAdd, Int.reduceToNat, true_and, and_true, Fin.isValue, Fin.val_zero, Fin.val_one, Fin.val_two, Fin.reduceFinMk, eq_self, Int.reduceNeg, imp_self, Nat.reduceMul, Nat.le_refl, not_true_eq_false, not_false_eq_true, List.getElem?_nil, reduceCtorEq, true_or, or_true, Classical.not_not, implies_true, or_self, wI_0, wI_1, wI_m1, b2i_w, b2i_eq0, b2i_eq1, b2i_bool, nor_self, nx_pI, kd_pI, ln_pI, fI_pI, fL_pI, fR_pI, aI_pI, aL_pI, aR_pI, nx_pL, kd_pL, ln_pL, fI_pL, fL_pL, fR_pL, aI_pL, aL_pL, aR_pL, nx_pR, kd_pR, ln_pR, fI_pR, fL_pR, fR_pR, aI_pR, aL_pR, aR_pR, nx_qI, kd_qI, ln_qI, fI_qI, fL_qI, fR_qI, aI_qI, aL_qI, aR_qI, nx_qL, kd_qL, ln_qL, fI_qL, fL_qL, fR_qL, aI_qL, aL_qL, aR_qL, nx_qR, kd_qR, ln_qR, fI_qR, fL_qR, fR_qR, aI_qR, aL_qR, aR_qR, nx_mk, kd_mk, ln_mk, fI_mk, fL_mk, fR_mk, aI_mk, aL_mk, aR_mk, false_and, and_false, if_false, if_true, and_self, Int.reduceEq, Nat.reduceEqDiff, ite_self, MLay_pI, MLay_pL, MLay_qI, MLay_qL, ev_X12_threes_153, ev_X12_threes_155, ev_X12_threes_157, ev_X12_threes_160, ev_X12_threes_161, ev_X12_threes_164, ev_X12_threes_167, ev_X12_threes_168, ev_X12_threes_171, ev_X12_threes_172, ev_X12_threes_173, xt_X12_threes, xf_X12_threes, us_X12_isFirst, us_X12_rowOf, us_X12_areAll, us_X12_tells, hkd, es, not_true_eq_false, not_false_eq_true, false_imp_iff, true_imp_iff]
      try simp (disch := omega) only [wI_id, dv_nn, rm_nn]
      repeat' (first | intro z | apply And.intro)
      all_goals try omega
      all_goals exact w
    · rw [b2i_f c] at w ⊢
      rw [if_neg c] at hhi
      refine go_X12_threes (ct := fun p => p == 160 || p == 176 || p == 220) 20 ?_
      simp only [oI, oL, oR, o1, lI, lL, lR, popN, catS, gv, stL, stL2, swt, cnd, spObj, List.getElem?_cons_zero, List.getElem?_cons_succ, List.getD_cons_zero, List.getD_cons_succ, List.set_cons_zero, List.set_cons_succ, List.nil_append, List.cons_append, Option.toList, Bool.or_false, Bool.false_or, Bool.or_true, Bool.true_or, Nat.reduceBEq, Nat.reduceAdd, Nat.reduceLT, Nat.reduceLeDiff, Int.reduceAdd, Int.reduceToNat, true_and, and_true, Fin.isValue, Fin.val_zero, Fin.val_one, Fin.val_two, Fin.reduceFinMk, eq_self, Int.reduceNeg, imp_self, Nat.reduceMul, Nat.le_refl, not_true_eq_false, not_false_eq_true, List.getElem?_nil, reduceCtorEq, true_or, or_true, Classical.not_not, implies_true, or_self, wI_0, wI_1, wI_m1, b2i_w, b2i_eq0, b2i_eq1, b2i_bool, nor_self, nx_pI, kd_pI, ln_pI, fI_pI, fL_pI, fR_pI, aI_pI, aL_pI, aR_pI, nx_pL, kd_pL, ln_pL, fI_pL, fL_pL, fR_pL, aI_pL, aL_pL, aR_pL, nx_pR, kd_pR, ln_pR, fI_pR, fL_pR, fR_pR, aI_pR, aL_pR, aR_pR, nx_qI, kd_qI, ln_qI, fI_qI, fL_qI, fR_qI, aI_qI, aL_qI, aR_qI, nx_qL, kd_qL, ln_qL, fI_qL, fL_qL, fR_qL, aI_qL, aL_qL, aR_qL, nx_qR, kd_qR, ln_qR, fI_qR, fL_qR, fR_qR, aI_qR, aL_qR, aR_qR, nx_mk, kd_mk, ln_mk, fI_mk, fL_mk, fR_mk, aI_mk, aL_mk, aR_mk, false_and, and_false, if_false, if_true, and_self, Int.reduceEq, Nat.reduceEqDiff, ite_self, MLay_pI, MLay_pL, MLay_qI, MLay_qL, ev_X12_threes_153, ev_X12_threes_155, ev_X12_threes_157, ev_X12_threes_160, ev_X12_threes_161, ev_X12_threes_164, ev_X12_threes_167, ev_X12_threes_168, ev_X12_threes_171, ev_X12_threes_172, ev_X12_threes_173, xt_X12_threes, xf_X12_threes, us_X12_isFirst, us_X12_rowOf, us_X12_areAll, us_X12_tells, hkd, ee, not_true_eq_false, not_false_eq_true, false_imp_iff, true_imp_iff]
      try simp (disch := omega) only [wI_id, dv_nn, rm_nn]
      repeat' (first | intro z | apply And.intro)
      all_goals try omega
      all_goals exact w
  | succ m ih =>
    intro t τ xs a7 h1 h2 hW hTd hS
    have hT := hW.1
    have hkd : kd τ 61 = 13 := hT.lay.1
    have hP := h0.keep hW
    have es := hP.2.1
    have ee := hP.2.2.2.1
    have hv : VP n sp (300 * k + t) := ⟨by omega, by omega, by omega⟩
    have w176 : Go M_X12_threes Q 176 [some (vr 61), some (vi n), some (vi a), some (vi b), some (vi (b2i (any3 e a b))), some (vi k), some (vi t), a7] [] τ (0, 0) := by
      have hmy := hT.may_ (300 * k + t)
      have noS : ¬ ST H K n sp [a, b, 300 * k + t] → ∀ a7, Go M_X12_threes Q 153 [some (vr 61), some (vi n), some (vi a), some (vi b), some (vi (b2i (any3 e a b))), some (vi k), some (vi (t + 1)), a7] [] τ (0, 0) := fun c a7 => ih (t + 1) τ xs a7 (by omega) (by omega) hW hTd (th_skip (a := a) (b := b) (c := 300 * k + t) (c' := 300 * k + (t + 1)) hn.2 ⟨hb.1, hb.2.1⟩ (by omega) (by omega) (by omega) hS rfl (fun r q1 q2 => by
        have : r = 300 * k + t := by omega
        rw [this]; exact c))
      generalize b2i (any3 e a b) = v at *
      by_cases c1 : aI τ 82 (300 * k + t) = 0
      · have w := noS (fun q => by have := may_1 hP q (p := 300 * k + t) (by simp); omega)
        refine go_X12_threes (ct := fun p => p == 195 || p == 153) 30 ?_
        simp only [oI, oL, oR, o1, lI, lL, lR, popN, catS, gv, stL, stL2, swt, cnd, spObj, List.getElem?_cons_zero, List.getElem?_cons_succ, List.getD_cons_zero, List.getD_cons_succ, List.set_cons_zero, List.set_cons_succ, List.nil_append, List.cons_append, Option.toList, Bool.or_false, Bool.false_or, Bool.or_true, Bool.true_or, Nat.reduceBEq, Nat.reduceAdd, Nat.reduceLT, Nat.reduceLeDiff, Int.reduceAdd, Int.reduceToNat, true_and, and_true, Fin.isValue, Fin.val_zero, Fin.val_one, Fin.val_two, Fin.reduceFinMk, eq_self, Int.reduceNeg, imp_self, Nat.reduceMul, Nat.le_refl, not_true_eq_false, not_false_eq_true, List.getElem?_nil, reduceCtorEq, true_or, or_true, Classical.not_not, implies_true, or_self, wI_0, wI_1, wI_m1, b2i_w, b2i_eq0, b2i_eq1, b2i_bool, nor_self, nx_pI, kd_pI, ln_pI, fI_pI, fL_pI, fR_pI, aI_pI, aL_pI, aR_pI, nx_pL, kd_pL, ln_pL, fI_pL, fL_pL, fR_pL, aI_pL, aL_pL, aR_pL, nx_pR, kd_pR, ln_pR, fI_pR, fL_pR, fR_pR, aI_pR, aL_pR, aR_pR, nx_qI, kd_qI, ln_qI, fI_qI, fL_qI, fR_qI, aI_qI, aL_qI, aR_qI, nx_qL, kd_qL, ln_qL, fI_qL, fL_qL, fR_qL, aI_qL, aL_qL, aR_qL, nx_qR, kd_qR, ln_qR, fI_qR, fL_qR, fR_qR, aI_qR, aL_qR, aR_qR, nx_mk, kd_mk, ln_mk, fI_mk, fL_mk, fR_mk, aI_mk, aL_mk, aR_mk, false_and, and_false, if_false, if_true, and_self, Int.reduceEq, Nat.reduceEqDiff, ite_self, MLay_pI, MLay_pL, MLay_qI, MLay_qL, ev_X12_threes_176, ev_X12_threes_178, ev_X12_threes_180, ev_X12_threes_183, ev_X12_threes_185, ev_X12_threes_186, ev_X12_threes_189, ev_X12_threes_191, ev_X12_threes_192, ev_X12_threes_195, ev_X12_threes_196, ev_X12_threes_197, ev_X12_threes_198, ev_X12_threes_200, ev_X12_threes_203, ev_X12_threes_206, ev_X12_threes_207, ev_X12_threes_208, ev_X12_threes_209, ev_X12_threes_211, ev_X12_threes_214, ev_X12_threes_217, xt_X12_threes, xf_X12_threes, us_X12_isFirst, us_X12_rowOf, us_X12_areAll, us_X12_tells, hkd, hT.lay.eqs, c1, not_true_eq_false, not_false_eq_true, false_imp_iff, true_imp_iff]
        try simp (disch := omega) only [wI_id, dv_nn, rm_nn]
        repeat' (first | intro z | apply And.intro)
        all_goals try omega
        all_goals first | exact w _ | (unfold VP at hv; omega)
      · have hA := are3 hP ha hb hv
        have b3 : -1 ≤ a ∧ a < 3600 := by unfold VP at ha; omega
        have b4 : -1 ≤ b ∧ b < 3600 := by unfold VP at hb; omega
        have b5 : -1 ≤ 300 * k + t ∧ 300 * k + t < 3600 := by unfold VP at hv; omega
        have hwm : wI (aI τ 82 (300 * k + t)) = aI τ 82 (300 * k + t) := wI_id (by omega) (by omega)
        by_cases c4 : mAre τ a b (300 * k + t)
        · have hst : ST H K n sp [a, b, 300 * k + t] := ST3.mpr ⟨⟨ha, hb, hv⟩, ⟨hab, by omega⟩, by omega, hA.mp c4⟩
          have hst9 := hP.2.2.2.2.2.2.2.2.2.2.2.2
          have va := ha.2.2
          have vb := hb.2.2
          have vc := hv.2.2
          have hW2 := hW.tells (a := a) (b := b) (c := 300 * k + t) (fun _ => by omega) (fun _ => by omega) (fun _ => by omega)
          have hT2 := told_tells hTd hS.2.2.1 (a := a) (b := b) (c := 300 * k + t) (fun q => by have := ha.1; omega) (fun q => by have := hb.1; omega)
          have eL : toL a b (300 * k + t) = [a, b, 300 * k + t] := by
            have q1 := ha.1
            have q2 := hb.1
            have q3 := hv.1
            unfold toL; rw [if_neg (by omega), if_neg (by omega), if_neg (by omega)]; rfl
          rw [eL] at hT2
          have xb := k13_mono (show 300 * k + t < 300 * k + (t + 1) by omega)
          have w := fun a7 => ih (t + 1) _ _ a7 (by omega) (by omega) hW2 hT2 (hS.add (x0 := [a, b, 300 * k + t]) ⟨hst, rfl⟩ (by rw [keyL_3]; exact Int.le_refl _) (by rw [keyL_3]; unfold B3; omega) (fun x hx q1 q2 => by
            obtain ⟨p, q, r, rfl⟩ := len3 hx.2
            rw [keyL_3] at q1 q2
            have hx1 := ST3.mp hx.1
            have ea : 300 * k + (t + 1) = 300 * k + t + 1 := by omega
            unfold B3 at q1 q2
            rw [ea] at q2
            have := k3_abc hn.2 ⟨hx1.1.2.1.1, hx1.1.2.1.2.1⟩ ⟨hx1.1.2.2.1, hx1.1.2.2.2.1⟩ ⟨hb.1, hb.2.1⟩ ⟨hv.1, hv.2.1⟩ q1 q2
            rw [this.1, this.2.1, this.2.2]))
          have hr := hP.2.2.2.2.2.2.2.2.2.2.2.1
          have hst2 : fI τ 1331 61 ≤ 999700 + (300 - sp) := hst9
          have z1 : (0 ≤ a → a % 300 < sp) = True := eq_true (fun _ => va)
          have z3 : (0 ≤ b → b % 300 < sp) = True := eq_true (fun _ => vb)
          have z2 : (0 ≤ 300 * k + t → (300 * k + t) % 300 < sp) = True := eq_true (fun _ => vc)
          have cT := eq_true c4
          clear ih noS
          refine go_X12_threes (ct := fun p => p == 214 || p == 153) 60 ?_
          simp only [oI, oL, oR, o1, lI, lL, lR, popN, catS, gv, stL, stL2, swt, cnd, spObj, List.getElem?_cons_zero, List.getElem?_cons_succ, List.getD_cons_zero, List.getD_cons_succ, List.set_cons_zero, List.set_cons_succ, List.nil_append, List.cons_append, Option.toList, Bool.or_false, Bool.false_or, Bool.or_true, Bool.true_or, Nat.reduceBEq, Nat.reduceAdd, Nat.reduceLT, Nat.reduceLeDiff, Int.reduceAdd, Int.reduceToNat, true_and, and_true, Fin.isValue, Fin.val_zero, Fin.val_one, Fin.val_two, Fin.reduceFinMk, eq_self, Int.reduceNeg, imp_self, Nat.reduceMul, Nat.le_refl, not_true_eq_false, not_false_eq_true, List.getElem?_nil, reduceCtorEq, true_or, or_true, Classical.not_not, implies_true, or_self, wI_0, wI_1, wI_m1, b2i_w, b2i_eq0, b2i_eq1, b2i_bool, nor_self, nx_pI, kd_pI, ln_pI, fI_pI, fL_pI, fR_pI, aI_pI, aL_pI, aR_pI, nx_pL, kd_pL, ln_pL, fI_pL, fL_pL, fR_pL, aI_pL, aL_pL, aR_pL, nx_pR, kd_pR, ln_pR, fI_pR, fL_pR, fR_pR, aI_pR, aL_pR, aR_pR, nx_qI, kd_qI, ln_qI, fI_qI, fL_qI, fR_qI, aI_qI, aL_qI, aR_qI, nx_qL, kd_qL, ln_qL, fI_qL, fL_qL, fR_qL, aI_qL, aL_qL, aR_qL, nx_qR, kd_qR, ln_qR, fI_qR, fL_qR, fR_qR, aI_qR, aL_qR, aR_qR, nx_mk, kd_mk, ln_mk, fI_mk, fL_mk, fR_mk, aI_mk, aL_mk, aR_mk, false_and, and_false, if_false, if_true, and_self, Int.reduceEq, Nat.reduceEqDiff, ite_self, MLay_pI, MLay_pL, MLay_qI, MLay_qL, ev_X12_threes_176, ev_X12_threes_178, ev_X12_threes_180, ev_X12_threes_183, ev_X12_threes_185, ev_X12_threes_186, ev_X12_threes_189, ev_X12_threes_191, ev_X12_threes_192, ev_X12_threes_195, ev_X12_threes_196, ev_X12_threes_197, ev_X12_threes_198, ev_X12_threes_200, ev_X12_threes_203, ev_X12_threes_206, ev_X12_threes_207, ev_X12_threes_208, ev_X12_threes_209, ev_X12_threes_211, ev_X12_threes_214, ev_X12_threes_217, xt_X12_threes, xf_X12_threes, us_X12_isFirst, us_X12_rowOf, us_X12_areAll, us_X12_tells, hkd, hT, hT.lay.eqs, es, hwm, c1, cT, b3, b4, b5, b2i_T, hr, hst2, z1, z2, z3, not_true_eq_false, not_false_eq_true, false_imp_iff, true_imp_iff]
          refine ⟨by unfold VP at hv; omega, ?_⟩
          refine go_X12_threes (ct := fun p => p == 153) 10 ?_
          simp only [oI, oL, oR, o1, lI, lL, lR, popN, catS, gv, stL, stL2, swt, cnd, spObj, List.getElem?_cons_zero, List.getElem?_cons_succ, List.getD_cons_zero, List.getD_cons_succ, List.set_cons_zero, List.set_cons_succ, List.nil_append, List.cons_append, Option.toList, Bool.or_false, Bool.false_or, Bool.or_true, Bool.true_or, Nat.reduceBEq, Nat.reduceAdd, Nat.reduceLT, Nat.reduceLeDiff, Int.reduceAdd, Int.reduceToNat, true_and, and_true, Fin.isValue, Fin.val_zero, Fin.val_one, Fin.val_two, Fin.reduceFinMk, eq_self, Int.reduceNeg, imp_self, Nat.reduceMul, Nat.le_refl, not_true_eq_false, not_false_eq_true, List.getElem?_nil, reduceCtorEq, true_or, or_true, Classical.not_not, implies_true, or_self, wI_0, wI_1, wI_m1, b2i_w, b2i_eq0, b2i_eq1, b2i_bool, nor_self, nx_pI, kd_pI, ln_pI, fI_pI, fL_pI, fR_pI, aI_pI, aL_pI, aR_pI, nx_pL, kd_pL, ln_pL, fI_pL, fL_pL, fR_pL, aI_pL, aL_pL, aR_pL, nx_pR, kd_pR, ln_pR, fI_pR, fL_pR, fR_pR, aI_pR, aL_pR, aR_pR, nx_qI, kd_qI, ln_qI, fI_qI, fL_qI, fR_qI, aI_qI, aL_qI, aR_qI, nx_qL, kd_qL, ln_qL, fI_qL, fL_qL, fR_qL, aI_qL, aL_qL, aR_qL, nx_qR, kd_qR, ln_qR, fI_qR, fL_qR, fR_qR, aI_qR, aL_qR, aR_qR, nx_mk, kd_mk, ln_mk, fI_mk, fL_mk, fR_mk, aI_mk, aL_mk, aR_mk, false_and, and_false, if_false, if_true, and_self, Int.reduceEq, Nat.reduceEqDiff, ite_self, MLay_pI, MLay_pL, MLay_qI, MLay_qL, ev_X12_threes_214, ev_X12_threes_217, xt_X12_threes, xf_X12_threes, us_X12_isFirst, us_X12_rowOf, us_X12_areAll, us_X12_tells]
          exact w _
        · have w := noS (fun q => c4 (hA.mpr (ST3.mp q).2.2.2))
          have cF := eq_false c4
          clear ih noS
          refine go_X12_threes (ct := fun p => p == 206 || p == 153) 40 ?_
          simp only [oI, oL, oR, o1, lI, lL, lR, popN, catS, gv, stL, stL2, swt, cnd, spObj, List.getElem?_cons_zero, List.getElem?_cons_succ, List.getD_cons_zero, List.getD_cons_succ, List.set_cons_zero, List.set_cons_succ, List.nil_append, List.cons_append, Option.toList, Bool.or_false, Bool.false_or, Bool.or_true, Bool.true_or, Nat.reduceBEq, Nat.reduceAdd, Nat.reduceLT, Nat.reduceLeDiff, Int.reduceAdd, Int.reduceToNat, true_and, and_true, Fin.isValue, Fin.val_zero, Fin.val_one, Fin.val_two, Fin.reduceFinMk, eq_self, Int.reduceNeg, imp_self, Nat.reduceMul, Nat.le_refl, not_true_eq_false, not_false_eq_true, List.getElem?_nil, reduceCtorEq, true_or, or_true, Classical.not_not, implies_true, or_self, wI_0, wI_1, wI_m1, b2i_w, b2i_eq0, b2i_eq1, b2i_bool, nor_self, nx_pI, kd_pI, ln_pI, fI_pI, fL_pI, fR_pI, aI_pI, aL_pI, aR_pI, nx_pL, kd_pL, ln_pL, fI_pL, fL_pL, fR_pL, aI_pL, aL_pL, aR_pL, nx_pR, kd_pR, ln_pR, fI_pR, fL_pR, fR_pR, aI_pR, aL_pR, aR_pR, nx_qI, kd_qI, ln_qI, fI_qI, fL_qI, fR_qI, aI_qI, aL_qI, aR_qI, nx_qL, kd_qL, ln_qL, fI_qL, fL_qL, fR_qL, aI_qL, aL_qL, aR_qL, nx_qR, kd_qR, ln_qR, fI_qR, fL_qR, fR_qR, aI_qR, aL_qR, aR_qR, nx_mk, kd_mk, ln_mk, fI_mk, fL_mk, fR_mk, aI_mk, aL_mk, aR_mk, false_and, and_false, if_false, if_true, and_self, Int.reduceEq, Nat.reduceEqDiff, ite_self, MLay_pI, MLay_pL, MLay_qI, MLay_qL, ev_X12_threes_176, ev_X12_threes_178, ev_X12_threes_180, ev_X12_threes_183, ev_X12_threes_185, ev_X12_threes_186, ev_X12_threes_189, ev_X12_threes_191, ev_X12_threes_192, ev_X12_threes_195, ev_X12_threes_196, ev_X12_threes_197, ev_X12_threes_198, ev_X12_threes_200, ev_X12_threes_203, ev_X12_threes_206, ev_X12_threes_207, ev_X12_threes_208, ev_X12_threes_209, ev_X12_threes_211, ev_X12_threes_214, ev_X12_threes_217, xt_X12_threes, xf_X12_threes, us_X12_isFirst, us_X12_rowOf, us_X12_areAll, us_X12_tells, hkd, hT, hT.lay.eqs, es, hwm, c1, cF, b3, b4, b5, b2i_F, not_true_eq_false, not_false_eq_true, false_imp_iff, true_imp_iff]
          first | exact w _ | exact ⟨by unfold VP at hv; omega, w _⟩
    have hwt : wI t = t := wI_id (by omega) (by omega)
    by_cases c : any3 e a b
    · rw [b2i_t c] at w176 ⊢
      rw [if_pos c] at hhi
      refine go_X12_threes (ct := fun p => p == 167 || p == 176 || p == 220) 20 ?_
      simp only [oI, oL, oR, o1, lI, lL, lR, popN, catS, gv, stL, stL2, swt, cnd, spObj, List.getElem?_cons_zero, List.getElem?_cons_succ, List.getD_cons_zero, List.getD_cons_succ, List.set_cons_zero, List.set_cons_succ, List.nil_append, List.cons_append, Option.toList, Bool.or_false, Bool.false_or, Bool.or_true, Bool.true_or, Nat.reduceBEq, Nat.reduceAdd, Nat.reduceLT, Nat.reduceLeDiff, Int.reduceAdd, Int.reduceToNat, true_and, and_true, Fin.isValue, Fin.val_zero, Fin.val_one, Fin.val_two, Fin.reduceFinMk, eq_self, Int.reduceNeg, imp_self, Nat.reduceMul, Nat.le_refl, not_true_eq_false, not_false_eq_true, List.getElem?_nil, reduceCtorEq, true_or, or_true, Classical.not_not, implies_true, or_self, wI_0, wI_1, wI_m1, b2i_w, b2i_eq0, b2i_eq1, b2i_bool, nor_self, nx_pI, kd_pI, ln_pI, fI_pI, fL_pI, fR_pI, aI_pI, aL_pI, aR_pI, nx_pL, kd_pL, ln_pL, fI_pL, fL_pL, fR_pL, aI_pL, aL_pL, aR_pL, nx_pR, kd_pR, ln_pR, fI_pR, fL_pR, fR_pR, aI_pR, aL_pR, aR_pR, nx_qI, kd_qI, ln_qI, fI_qI, fL_qI, fR_qI, aI_qI, aL_qI, aR_qI, nx_qL, kd_qL, ln_qL, fI_qL, fL_qL, fR_qL, aI_qL, aL_qL, aR_qL, nx_qR, kd_qR, ln_qR, fI_qR, fL_qR, fR_qR, aI_qR, aL_qR, aR_qR, nx_mk, kd_mk, ln_mk, fI_mk, fL_mk, fR_mk, aI_mk, aL_mk, aR_mk, false_and, and_false, if_false, if_true, and_self, Int.reduceEq, Nat.reduceEqDiff, ite_self, MLay_pI, MLay_pL, MLay_qI, MLay_qL, ev_X12_threes_153, ev_X12_threes_155, ev_X12_threes_157, ev_X12_threes_160, ev_X12_threes_161, ev_X12_threes_164, ev_X12_threes_167, ev_X12_threes_168, ev_X12_threes_171, ev_X12_threes_172, ev_X12_threes_173, xt_X12_threes, xf_X12_threes, us_X12_isFirst, us_X12_rowOf, us_X12_areAll, us_X12_tells, hkd, es, not_true_eq_false, not_false_eq_true, false_imp_iff, true_imp_iff]
      try simp (disch := omega) only [wI_id, dv_nn, rm_nn]
      repeat' (first | intro z | apply And.intro)
      all_goals try omega
      all_goals exact w176
    · rw [b2i_f c] at w176 ⊢
      rw [if_neg c] at hhi
      refine go_X12_threes (ct := fun p => p == 160 || p == 176 || p == 220) 20 ?_
      simp only [oI, oL, oR, o1, lI, lL, lR, popN, catS, gv, stL, stL2, swt, cnd, spObj, List.getElem?_cons_zero, List.getElem?_cons_succ, List.getD_cons_zero, List.getD_cons_succ, List.set_cons_zero, List.set_cons_succ, List.nil_append, List.cons_append, Option.toList, Bool.or_false, Bool.false_or, Bool.or_true, Bool.true_or, Nat.reduceBEq, Nat.reduceAdd, Nat.reduceLT, Nat.reduceLeDiff, Int.reduceAdd, Int.reduceToNat, true_and, and_true, Fin.isValue, Fin.val_zero, Fin.val_one, Fin.val_two, Fin.reduceFinMk, eq_self, Int.reduceNeg, imp_self, Nat.reduceMul, Nat.le_refl, not_true_eq_false, not_false_eq_true, List.getElem?_nil, reduceCtorEq, true_or, or_true, Classical.not_not, implies_true, or_self, wI_0, wI_1, wI_m1, b2i_w, b2i_eq0, b2i_eq1, b2i_bool, nor_self, nx_pI, kd_pI, ln_pI, fI_pI, fL_pI, fR_pI, aI_pI, aL_pI, aR_pI, nx_pL, kd_pL, ln_pL, fI_pL, fL_pL, fR_pL, aI_pL, aL_pL, aR_pL, nx_pR, kd_pR, ln_pR, fI_pR, fL_pR, fR_pR, aI_pR, aL_pR, aR_pR, nx_qI, kd_qI, ln_qI, fI_qI, fL_qI, fR_qI, aI_qI, aL_qI, aR_qI, nx_qL, kd_qL, ln_qL, fI_qL, fL_qL, fR_qL, aI_qL, aL_qL, aR_qL, nx_qR, kd_qR, ln_qR, fI_qR, fL_qR, fR_qR, aI_qR, aL_qR, aR_qR, nx_mk, kd_mk, ln_mk, fI_mk, fL_mk, fR_mk, aI_mk, aL_mk, aR_mk, false_and, and_false, if_false, if_true, and_self, Int.reduceEq, Nat.reduceEqDiff, ite_self, MLay_pI, MLay_pL, MLay_qI, MLay_qL, ev_X12_threes_153, ev_X12_threes_155, ev_X12_threes_157, ev_X12_threes_160, ev_X12_threes_161, ev_X12_threes_164, ev_X12_threes_167, ev_X12_threes_168, ev_X12_threes_171, ev_X12_threes_172, ev_X12_threes_173, xt_X12_threes, xf_X12_threes, us_X12_isFirst, us_X12_rowOf, us_X12_areAll, us_X12_tells, hkd, ee, not_true_eq_false, not_false_eq_true, false_imp_iff, true_imp_iff]
      try simp (disch := omega) only [wI_id, dv_nn, rm_nn]
      repeat' (first | intro z | apply And.intro)
      all_goals try omega
      all_goals exact w176

end TH
