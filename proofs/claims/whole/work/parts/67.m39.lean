/-! the reference: a box more, its units -/

set_option maxRecDepth 20000 in
theorem bx_312 {Q : Option AV → Hp → Prop} {τ : Hp} {a1 a2 a3 a4 a5 a6 a8 a10 : Option AV} {b u : Int} (hI : MI τ) (hb : 0 ≤ b ∧ b < 32) (hu : 0 < u ∧ u ≤ 100)
    (h : Go M_X12_box Q 243 [some (vr 61), a1, a2, a3, a4, a5, a6, some (vi b), some (vi (aI τ 73 b + 4)), some (vi (u / 10)), a10] [] τ (0, 0)) : Go M_X12_box Q 312 [some (vr 61), a1, a2, a3, a4, a5, a6, some (vi b), a8, some (vi u), a10] [] τ (0, 0) := by
  have hkd : kd τ 61 = 13 := hI.lay.1
  have h10 : wI 10 = 10 := by decide
  have hn10 : ((10 : Int) = 0) = False := eq_false (by decide)
  have hdv : dvI u 10 = u / 10 := dv_nn (by omega) (by omega) (by decide) (by decide)
  refine go_X12_box (ct := fun p => p == 243) 20 ?_
  simp only [oI, oL, oR, o1, lI, lL, lR, popN, catS, gv, stL, stL2, swt, cnd, spObj, List.getElem?_cons_zero, List.getElem?_cons_succ, List.getD_cons_zero, List.getD_cons_succ, List.set_cons_zero, List.set_cons_succ, List.nil_append, List.cons_append, Option.toList, Bool.or_false, Bool.false_or, Bool.or_true, Bool.true_or, Nat.reduceBEq, Nat.reduceAdd, Nat.reduceLT, Nat.reduceLeDiff, Int.reduceAdd, Int.reduceToNat, true_and, and_true, Fin.isValue, Fin.val_zero, Fin.val_one, Fin.val_two, Fin.reduceFinMk, eq_self, Int.reduceNeg, imp_self, Nat.reduceMul, Nat.le_refl, not_true_eq_false, not_false_eq_true, List.getElem?_nil, reduceCtorEq, true_or, or_true, Classical.not_not, implies_true, or_self, wI_0, wI_1, wI_m1, b2i_w, b2i_eq0, b2i_eq1, b2i_bool, nor_self, nx_pI, kd_pI, ln_pI, fI_pI, fL_pI, fR_pI, aI_pI, aL_pI, aR_pI, nx_pL, kd_pL, ln_pL, fI_pL, fL_pL, fR_pL, aI_pL, aL_pL, aR_pL, nx_pR, kd_pR, ln_pR, fI_pR, fL_pR, fR_pR, aI_pR, aL_pR, aR_pR, nx_qI, kd_qI, ln_qI, fI_qI, fL_qI, fR_qI, aI_qI, aL_qI, aR_qI, nx_qL, kd_qL, ln_qL, fI_qL, fL_qL, fR_qL, aI_qL, aL_qL, aR_qL, nx_qR, kd_qR, ln_qR, fI_qR, fL_qR, fR_qR, aI_qR, aL_qR, aR_qR, nx_mk, kd_mk, ln_mk, fI_mk, fL_mk, fR_mk, aI_mk, aL_mk, aR_mk, false_and, and_false, if_false, if_true, and_self, Int.reduceEq, Nat.reduceEqDiff, ite_self, MLay_pI, MLay_pL, MLay_qI, MLay_qL, ev_X12_box_312, ev_X12_box_313, ev_X12_box_316, ev_X12_box_318, ev_X12_box_319, ev_X12_box_320, ev_X12_box_321, ev_X12_box_323, ev_X12_box_325, ev_X12_box_327, ev_X12_box_328, ev_X12_box_330, xt_X12_box, xf_X12_box, us_X12_within, us_X12_isNumber, hkd, hI.lay.eqs, h10, hn10, hdv, not_true_eq_false, not_false_eq_true, false_imp_iff, true_imp_iff]
  exact ⟨hb, h⟩

set_option maxRecDepth 20000 in
theorem bx_243s {Q : Option AV → Hp → Prop} {τ : Hp} {a1 a2 a3 a4 a5 a6 a7 a8 a10 : Option AV} {u : Int} (hu : 0 < u ∧ u ≤ 100)
    (h : Go M_X12_box Q 251 [some (vr 61), a1, a2, a3, a4, a5, a6, a7, a8, some (vi u), some (vi 0)] [] τ (0, 0)) : Go M_X12_box Q 243 [some (vr 61), a1, a2, a3, a4, a5, a6, a7, a8, some (vi u), a10] [] τ (0, 0) := by
  have hw : wI u = u := wI_id (by omega) (by omega)
  have c : (u ≤ 0) = False := eq_false (by clear hw; omega)
  refine go_X12_box (ct := fun p => p == 251 || p == 333) 20 ?_
  simp only [oI, oL, oR, o1, lI, lL, lR, popN, catS, gv, stL, stL2, swt, cnd, spObj, List.getElem?_cons_zero, List.getElem?_cons_succ, List.getD_cons_zero, List.getD_cons_succ, List.set_cons_zero, List.set_cons_succ, List.nil_append, List.cons_append, Option.toList, Bool.or_false, Bool.false_or, Bool.or_true, Bool.true_or, Nat.reduceBEq, Nat.reduceAdd, Nat.reduceLT, Nat.reduceLeDiff, Int.reduceAdd, Int.reduceToNat, true_and, and_true, Fin.isValue, Fin.val_zero, Fin.val_one, Fin.val_two, Fin.reduceFinMk, eq_self, Int.reduceNeg, imp_self, Nat.reduceMul, Nat.le_refl, not_true_eq_false, not_false_eq_true, List.getElem?_nil, reduceCtorEq, true_or, or_true, Classical.not_not, implies_true, or_self, wI_0, wI_1, wI_m1, b2i_w, b2i_eq0, b2i_eq1, b2i_bool, nor_self, nx_pI, kd_pI, ln_pI, fI_pI, fL_pI, fR_pI, aI_pI, aL_pI, aR_pI, nx_pL, kd_pL, ln_pL, fI_pL, fL_pL, fR_pL, aI_pL, aL_pL, aR_pL, nx_pR, kd_pR, ln_pR, fI_pR, fL_pR, fR_pR, aI_pR, aL_pR, aR_pR, nx_qI, kd_qI, ln_qI, fI_qI, fL_qI, fR_qI, aI_qI, aL_qI, aR_qI, nx_qL, kd_qL, ln_qL, fI_qL, fL_qL, fR_qL, aI_qL, aL_qL, aR_qL, nx_qR, kd_qR, ln_qR, fI_qR, fL_qR, fR_qR, aI_qR, aL_qR, aR_qR, nx_mk, kd_mk, ln_mk, fI_mk, fL_mk, fR_mk, aI_mk, aL_mk, aR_mk, false_and, and_false, if_false, if_true, and_self, Int.reduceEq, Nat.reduceEqDiff, ite_self, MLay_pI, MLay_pL, MLay_qI, MLay_qL, ev_X12_box_243, ev_X12_box_245, ev_X12_box_248, ev_X12_box_249, xt_X12_box, xf_X12_box, us_X12_within, us_X12_isNumber, hw, c, not_true_eq_false, not_false_eq_true, false_imp_iff, true_imp_iff]
  exact h

set_option maxRecDepth 20000 in
theorem bx_243e {Q : Option AV → Hp → Prop} {τ : Hp} {a1 a2 a3 a4 a5 a6 a7 a8 a10 : Option AV}
    (h : Go M_X12_box Q 333 [some (vr 61), a1, a2, a3, a4, a5, a6, a7, a8, some (vi 0), a10] [] τ (0, 0)) : Go M_X12_box Q 243 [some (vr 61), a1, a2, a3, a4, a5, a6, a7, a8, some (vi 0), a10] [] τ (0, 0) := by
  refine go_X12_box (ct := fun p => p == 248 || p == 333) 20 ?_
  simp only [oI, oL, oR, o1, lI, lL, lR, popN, catS, gv, stL, stL2, swt, cnd, spObj, List.getElem?_cons_zero, List.getElem?_cons_succ, List.getD_cons_zero, List.getD_cons_succ, List.set_cons_zero, List.set_cons_succ, List.nil_append, List.cons_append, Option.toList, Bool.or_false, Bool.false_or, Bool.or_true, Bool.true_or, Nat.reduceBEq, Nat.reduceAdd, Nat.reduceLT, Nat.reduceLeDiff, Int.reduceAdd, Int.reduceToNat, true_and, and_true, Fin.isValue, Fin.val_zero, Fin.val_one, Fin.val_two, Fin.reduceFinMk, eq_self, Int.reduceNeg, imp_self, Nat.reduceMul, Nat.le_refl, not_true_eq_false, not_false_eq_true, List.getElem?_nil, reduceCtorEq, true_or, or_true, Classical.not_not, implies_true, or_self, wI_0, wI_1, wI_m1, b2i_w, b2i_eq0, b2i_eq1, b2i_bool, nor_self, nx_pI, kd_pI, ln_pI, fI_pI, fL_pI, fR_pI, aI_pI, aL_pI, aR_pI, nx_pL, kd_pL, ln_pL, fI_pL, fL_pL, fR_pL, aI_pL, aL_pL, aR_pL, nx_pR, kd_pR, ln_pR, fI_pR, fL_pR, fR_pR, aI_pR, aL_pR, aR_pR, nx_qI, kd_qI, ln_qI, fI_qI, fL_qI, fR_qI, aI_qI, aL_qI, aR_qI, nx_qL, kd_qL, ln_qL, fI_qL, fL_qL, fR_qL, aI_qL, aL_qL, aR_qL, nx_qR, kd_qR, ln_qR, fI_qR, fL_qR, fR_qR, aI_qR, aL_qR, aR_qR, nx_mk, kd_mk, ln_mk, fI_mk, fL_mk, fR_mk, aI_mk, aL_mk, aR_mk, false_and, and_false, if_false, if_true, and_self, Int.reduceEq, Nat.reduceEqDiff, ite_self, MLay_pI, MLay_pL, MLay_qI, MLay_qL, ev_X12_box_243, ev_X12_box_245, ev_X12_box_248, ev_X12_box_249, xt_X12_box, xf_X12_box, us_X12_within, us_X12_isNumber, Int.le_refl, not_true_eq_false, not_false_eq_true, false_imp_iff, true_imp_iff]
  exact h

theorem mDg_n (σ : Hp) (b a : Int) (d : Int) (h : 0 ≤ d) : ∀ P : Nat → Prop, P d.toNat → ∃ n : Nat, d = n ∧ P n := fun P q => ⟨d.toNat, by omega, q⟩

set_option maxRecDepth 20000 in
theorem bx_unit {Q : Option AV → Hp → Prop} {τ : Hp} {l n kn x y w b a u d : Int} {a10 : Option AV} (hI : MI τ) (hb : 0 ≤ b ∧ b < 32) (hu : 0 < u ∧ u ≤ 100) (ha : 0 ≤ a) (hd : 0 ≤ d ∧ d ≤ 5) (hk : aI τ 72 b + d ≤ 15) (had : a + 2 * d ≤ 42) (hdg : rmI (dvI n u) 10 = d)
    (h : ∀ a10, Go M_X12_box Q 243 [some (vr 61), some (vi l), some (vi n), some (vi kn), some (vi x), some (vi y), some (vi w), some (vi b), some (vi (aI (mDg τ b a d.toNat) 73 b + 4)), some (vi (u / 10)), a10] [] (mDg τ b a d.toNat) (0, 0)) :
    Go M_X12_box Q 243 [some (vr 61), some (vi l), some (vi n), some (vi kn), some (vi x), some (vi y), some (vi w), some (vi b), some (vi a), some (vi u), a10] [] τ (0, 0) := by
  obtain ⟨dn, rfl⟩ : ∃ dn : Nat, d = dn := ⟨d.toNat, by omega⟩
  rw [Int.toNat_natCast] at h
  have hu0 : ¬ wI u = 0 := by rw [wI_id (by omega) (by omega)]; omega
  have hd5 : dn ≤ 5 := by clear hu0; omega
  have hM := MI_mDg (b := b) hI ha dn hk had
  have w251 := bx_251 (Q := Q) (l := l) (kn := kn) (x := x) (y := y) (w := w) (u := u) hI hb ha hd5 hk had hu0 hdg (fun a10 => bx_312 hM hb hu (h a10)) dn 0 (Nat.zero_add dn)
  have e0 : a + 2 * ((0 : Nat) : Int) = a := by show a + 2 * 0 = a; rw [Int.mul_zero, Int.add_zero]
  rw [e0] at w251
  exact bx_243s hu w251
