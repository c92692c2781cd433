/-! the reference: a box more, the contract's end -/

theorem fI_mWh (σ : Hp) (b n : Int) : fI (mWh σ b n) = fI σ := by
  unfold mWh mWh3 mWh2
  split
  · rw [fI_mDg, fI_mDg, fI_mDg]
  · rw [fI_mDg, fI_mDg]
theorem MI_mWh {σ : Hp} {b n : Int} (hI : MI σ) (hn : okNum n) (hk : aI σ 72 b = 0) : MI (mWh σ b n) := by
  unfold mWh mWh3 mWh2
  by_cases c : 99 < n
  · have h3 := okNum_3 hn c
    rw [if_pos c]
    generalize n / 100 % 10 = d1 at *
    generalize n / 10 % 10 = d2 at *
    generalize n % 10 = d3 at *
    have l1 := lo_mDg2 σ b 0 d1 h3.2.2.2.1
    have k1 := kn_mDg2 σ b 0 d1 (by omega)
    have M1 := MI_mDg (b := b) hI (Int.le_refl 0) d1.toNat (by omega) (by omega)
    rw [l1]
    generalize mDg σ b 0 d1.toNat = τ1 at *
    have l2 := lo_mDg2 τ1 b (0 + 2 * (d1 - 1) + 4) d2 h3.2.2.1.1
    have k2 := kn_mDg2 τ1 b (0 + 2 * (d1 - 1) + 4) d2 (by omega)
    have M2 := MI_mDg (b := b) M1 (show 0 ≤ 0 + 2 * (d1 - 1) + 4 by omega) d2.toNat (by omega) (by omega)
    rw [l2]
    generalize mDg τ1 b (0 + 2 * (d1 - 1) + 4) d2.toNat = τ2 at *
    exact MI_mDg (b := b) M2 (by omega) d3.toNat (by omega) (by omega)
  · have h3 := okNum_2 hn c
    rw [if_neg c]
    generalize n / 10 % 10 = d2 at *
    generalize n % 10 = d3 at *
    have l2 := lo_mDg2 σ b 0 d2 h3.2.2.1
    have k2 := kn_mDg2 σ b 0 d2 (by omega)
    have M2 := MI_mDg (b := b) hI (Int.le_refl 0) d2.toNat (by omega) (by omega)
    rw [l2]
    generalize mDg σ b 0 d2.toNat = τ2 at *
    exact MI_mDg (b := b) M2 (by omega) d3.toNat (by omega) (by omega)
theorem MI_mAdd {σ : Hp} {l n kn x y w : Int} (hI : MI σ) (h : boxOk σ l n kn x y w) : MI (mAdd σ l n kn x y w) := by
  obtain ⟨h1, h2, h3, h4, h5, h6, h7, h8, -⟩ := h
  have hb := hI.boxes_s
  have hm := hI.many_ l
  have hn : 0 ≤ n ∧ n ≤ 555 := by have := h2.1; omega
  exact MI_many_q (MI_boxAt_q (MI_along_q (MI_ward_q (MI_y_q (MI_x_q (MI_kind_q (MI_number_q (MI_loop_q (MI_fre hI (by decide)) h1) hn) h3) h4) h5) h6) (by omega)) (by omega)) (by omega)
theorem kn_mAdd (σ : Hp) (l n kn x y w j : Int) : aI (mAdd σ l n kn x y w) 72 j = aI σ 72 j := by
  unfold mAdd
  simp only [aI_qI, aI_pI, Int.reduceEq, false_and, if_false]

set_option maxRecDepth 20000 in
theorem bx_333 {Q : Option AV → Hp → Prop} {τ : Hp} {a1 a2 a3 a4 a5 a6 a8 a9 a10 : Option AV} {b : Int} (hk : kd τ 61 = 13) (hb : fI τ 1302 61 = b) (h : Q (some (vi b)) (pI τ 1302 61 (b + 1))) : Go M_X12_box Q 333 [some (vr 61), a1, a2, a3, a4, a5, a6, some (vi b), a8, a9, a10] [] τ (0, 0) := by
  refine go_X12_box (ct := fun p => p == 0) 20 ?_
  simp only [oI, oL, oR, o1, lI, lL, lR, popN, catS, gv, stL, stL2, swt, cnd, spObj, List.getElem?_cons_zero, List.getElem?_cons_succ, List.getD_cons_zero, List.getD_cons_succ, List.set_cons_zero, List.set_cons_succ, List.nil_append, List.cons_append, Option.toList, Bool.or_false, Bool.false_or, Bool.or_true, Bool.true_or, Nat.reduceBEq, Nat.reduceAdd, Nat.reduceLT, Nat.reduceLeDiff, Int.reduceAdd, Int.reduceToNat, true_and, and_true, Fin.isValue, Fin.val_zero, Fin.val_one, Fin.val_two, Fin.reduceFinMk, eq_self, Int.reduceNeg, imp_self, Nat.reduceMul, Nat.le_refl, not_true_eq_false, not_false_eq_true, List.getElem?_nil, reduceCtorEq, true_or, or_true, Classical.not_not, implies_true, or_self, wI_0, wI_1, wI_m1, b2i_w, b2i_eq0, b2i_eq1, b2i_bool, nor_self, nx_pI, kd_pI, ln_pI, fI_pI, fL_pI, fR_pI, aI_pI, aL_pI, aR_pI, nx_pL, kd_pL, ln_pL, fI_pL, fL_pL, fR_pL, aI_pL, aL_pL, aR_pL, nx_pR, kd_pR, ln_pR, fI_pR, fL_pR, fR_pR, aI_pR, aL_pR, aR_pR, nx_qI, kd_qI, ln_qI, fI_qI, fL_qI, fR_qI, aI_qI, aL_qI, aR_qI, nx_qL, kd_qL, ln_qL, fI_qL, fL_qL, fR_qL, aI_qL, aL_qL, aR_qL, nx_qR, kd_qR, ln_qR, fI_qR, fL_qR, fR_qR, aI_qR, aL_qR, aR_qR, nx_mk, kd_mk, ln_mk, fI_mk, fL_mk, fR_mk, aI_mk, aL_mk, aR_mk, false_and, and_false, if_false, if_true, and_self, Int.reduceEq, Nat.reduceEqDiff, ite_self, MLay_pI, MLay_pL, MLay_qI, MLay_qL, ev_X12_box_333, ev_X12_box_334, ev_X12_box_335, ev_X12_box_338, ev_X12_box_339, ev_X12_box_340, ev_X12_box_343, ev_X12_box_345, xt_X12_box, xf_X12_box, us_X12_within, us_X12_isNumber, hk, hb]
  exact h

set_option maxRecDepth 20000 in
theorem bx_127 {Q : Option AV → Hp → Prop} {σ : Hp} {l n kn x y w : Int} {a7 a8 a9 a10 : Option AV} (hI : MI σ) (hok : boxOk σ l n kn x y w)
    (h : ∀ a10 v, v = (if 99 < n then 100 else 10) → Go M_X12_box Q 243 [some (vr 61), some (vi l), some (vi n), some (vi kn), some (vi x), some (vi y), some (vi w), some (vi (fI σ 1302 61)), some (vi 0), some (vi v), a10] [] (mAdd σ l n kn x y w) (0, 0)) :
    Go M_X12_box Q 127 [some (vr 61), some (vi l), some (vi n), some (vi kn), some (vi x), some (vi y), some (vi w), a7, a8, a9, a10] [] (pI σ 1300 61 0) (0, 0) := by
  have hk : kd σ 61 = 13 := hI.lay.1
  obtain ⟨h1, h2, -, -, -, -, h7, h8, -⟩ := hok
  have hb := hI.boxes_s
  have hm := hI.many_ l
  have hn : 0 ≤ n ∧ n ≤ 555 := by have := h2.1; omega
  have h := h a10
  unfold mAdd at h
  clear h2
  refine go_X12_box (ct := fun p => p == 243) 80 ?_
  simp only [oI, oL, oR, o1, lI, lL, lR, popN, catS, gv, stL, stL2, swt, cnd, spObj, List.getElem?_cons_zero, List.getElem?_cons_succ, List.getD_cons_zero, List.getD_cons_succ, List.set_cons_zero, List.set_cons_succ, List.nil_append, List.cons_append, Option.toList, Bool.or_false, Bool.false_or, Bool.or_true, Bool.true_or, Nat.reduceBEq, Nat.reduceAdd, Nat.reduceLT, Nat.reduceLeDiff, Int.reduceAdd, Int.reduceToNat, true_and, and_true, Fin.isValue, Fin.val_zero, Fin.val_one, Fin.val_two, Fin.reduceFinMk, eq_self, Int.reduceNeg, imp_self, Nat.reduceMul, Nat.le_refl, not_true_eq_false, not_false_eq_true, List.getElem?_nil, reduceCtorEq, true_or, or_true, Classical.not_not, implies_true, or_self, wI_0, wI_1, wI_m1, b2i_w, b2i_eq0, b2i_eq1, b2i_bool, nor_self, nx_pI, kd_pI, ln_pI, fI_pI, fL_pI, fR_pI, aI_pI, aL_pI, aR_pI, nx_pL, kd_pL, ln_pL, fI_pL, fL_pL, fR_pL, aI_pL, aL_pL, aR_pL, nx_pR, kd_pR, ln_pR, fI_pR, fL_pR, fR_pR, aI_pR, aL_pR, aR_pR, nx_qI, kd_qI, ln_qI, fI_qI, fL_qI, fR_qI, aI_qI, aL_qI, aR_qI, nx_qL, kd_qL, ln_qL, fI_qL, fL_qL, fR_qL, aI_qL, aL_qL, aR_qL, nx_qR, kd_qR, ln_qR, fI_qR, fL_qR, fR_qR, aI_qR, aL_qR, aR_qR, nx_mk, kd_mk, ln_mk, fI_mk, fL_mk, fR_mk, aI_mk, aL_mk, aR_mk, false_and, and_false, if_false, if_true, and_self, Int.reduceEq, Nat.reduceEqDiff, ite_self, MLay_pI, MLay_pL, MLay_qI, MLay_qL, ev_X12_box_127, ev_X12_box_128, ev_X12_box_131, ev_X12_box_133, ev_X12_box_134, ev_X12_box_137, ev_X12_box_139, ev_X12_box_140, ev_X12_box_141, ev_X12_box_142, ev_X12_box_145, ev_X12_box_147, ev_X12_box_148, ev_X12_box_149, ev_X12_box_150, ev_X12_box_153, ev_X12_box_155, ev_X12_box_156, ev_X12_box_157, ev_X12_box_158, ev_X12_box_161, ev_X12_box_163, ev_X12_box_165, ev_X12_box_166, ev_X12_box_167, ev_X12_box_170, ev_X12_box_172, ev_X12_box_174, ev_X12_box_175, ev_X12_box_176, ev_X12_box_179, ev_X12_box_181, ev_X12_box_183, ev_X12_box_184, ev_X12_box_185, ev_X12_box_188, ev_X12_box_190, ev_X12_box_191, ev_X12_box_194, ev_X12_box_195, ev_X12_box_196, ev_X12_box_197, ev_X12_box_198, ev_X12_box_201, ev_X12_box_203, ev_X12_box_204, ev_X12_box_205, ev_X12_box_206, ev_X12_box_209, ev_X12_box_210, ev_X12_box_211, ev_X12_box_212, ev_X12_box_214, ev_X12_box_215, ev_X12_box_216, ev_X12_box_219, ev_X12_box_220, ev_X12_box_221, ev_X12_box_222, ev_X12_box_223, ev_X12_box_224, ev_X12_box_225, ev_X12_box_226, ev_X12_box_228, ev_X12_box_229, ev_X12_box_231, ev_X12_box_234, ev_X12_box_236, ev_X12_box_239, ev_X12_box_241, xt_X12_box, xf_X12_box, us_X12_within, us_X12_isNumber, hk, hI.lay.eqs, Int.reduceEq]
  try simp (disch := omega) only [wI_id, dv_nn, rm_nn]
  repeat' (first | intro z | apply And.intro)
  all_goals try omega
  · exact h 10 (by rw [if_neg (by omega)])
  · exact h 100 (by rw [if_pos (by omega)])

set_option maxRecDepth 20000 in
theorem c_X12_box : Ct yX12_box cX12_box 11 ((some FieldType.int)) 3 0 0 sp_X12_box := by
  refine Ct.go (M := M_X12_box) mm_X12_box fun av σ Q h0 => ?_
  obtain ⟨this, l, n, kn, x, y, w, rfl, hk, h⟩ := el_X12_box h0
  clear h0
  refine ⟨Nat.le_of_ble_eq_true rfl, ?_⟩
  show Go M_X12_box Q 0 [some (vr this), some (vi l), some (vi n), some (vi kn), some (vi x), some (vi y), some (vi w), none, none, none, none] [] σ (0, 0)
  obtain ⟨rfl, hI, r1, r2, r3, r4, r5, r6, hkz, h1, h2⟩ := h
  have hI2 : MI (pI σ 1300 61 0) := MI_fre hI (by decide)
  have hb := hI.boxes_s
  have hm := hI.many_ l
  have k83 : ¬ boxOk σ l n kn x y w → Go M_X12_box Q 83 [some (vr 61), some (vi l), some (vi n), some (vi kn), some (vi x), some (vi y), some (vi w), none, none, none, none] [] (pI σ 1300 61 0) (0, 0) := fun q => by
    have h2 := h2 q
    clear h1
    refine go_X12_box (ct := fun p => p == 0) 20 ?_
    simp only [oI, oL, oR, o1, lI, lL, lR, popN, catS, gv, stL, stL2, swt, cnd, spObj, List.getElem?_cons_zero, List.getElem?_cons_succ, List.getD_cons_zero, List.getD_cons_succ, List.set_cons_zero, List.set_cons_succ, List.nil_append, List.cons_append, Option.toList, Bool.or_false, Bool.false_or, Bool.or_true, Bool.true_or, Nat.reduceBEq, Nat.reduceAdd, Nat.reduceLT, Nat.reduceLeDiff, Int.reduceAdd, Int.reduceToNat, true_and, and_true, Fin.isValue, Fin.val_zero, Fin.val_one, Fin.val_two, Fin.reduceFinMk, eq_self, Int.reduceNeg, imp_self, Nat.reduceMul, Nat.le_refl, not_true_eq_false, not_false_eq_true, List.getElem?_nil, reduceCtorEq, true_or, or_true, Classical.not_not, implies_true, or_self, wI_0, wI_1, wI_m1, b2i_w, b2i_eq0, b2i_eq1, b2i_bool, nor_self, nx_pI, kd_pI, ln_pI, fI_pI, fL_pI, fR_pI, aI_pI, aL_pI, aR_pI, nx_pL, kd_pL, ln_pL, fI_pL, fL_pL, fR_pL, aI_pL, aL_pL, aR_pL, nx_pR, kd_pR, ln_pR, fI_pR, fL_pR, fR_pR, aI_pR, aL_pR, aR_pR, nx_qI, kd_qI, ln_qI, fI_qI, fL_qI, fR_qI, aI_qI, aL_qI, aR_qI, nx_qL, kd_qL, ln_qL, fI_qL, fL_qL, fR_qL, aI_qL, aL_qL, aR_qL, nx_qR, kd_qR, ln_qR, fI_qR, fL_qR, fR_qR, aI_qR, aL_qR, aR_qR, nx_mk, kd_mk, ln_mk, fI_mk, fL_mk, fR_mk, aI_mk, aL_mk, aR_mk, false_and, and_false, if_false, if_true, and_self, Int.reduceEq, Nat.reduceEqDiff, ite_self, MLay_pI, MLay_pL, MLay_qI, MLay_qL, ev_X12_box_83, ev_X12_box_84, xt_X12_box, xf_X12_box, us_X12_within, us_X12_isNumber]
    exact h2
  have k88 : (0 ≤ l ∧ l ≤ 3) ∧ okNum n ∧ (0 ≤ kn ∧ kn ≤ 1) ∧ (0 ≤ x ∧ x ≤ 99) ∧ (0 ≤ y ∧ y ≤ 99) ∧ (0 ≤ w ∧ w ≤ 7) ∧ ¬ fI σ 1302 61 = 32 ∧ ¬ aI σ 74 l = 12 → Go M_X12_box Q 88 [some (vr 61), some (vi l), some (vi n), some (vi kn), some (vi x), some (vi y), some (vi w), some (vi 0), none, none, none] [] (pI σ 1300 61 0) (0, 0) := by
    rintro ⟨q1, q2, q3, q4, q5, q6, q7, q8⟩
    have hn : 0 ≤ n ∧ n ≤ 1000 := by have := q2.1; omega
    refine bx_88 hI2 q1 hn (fun z => h2 fun q => q.2.2.2.2.2.2.2.2 z) (fun z a7 => ?_) (fI σ 1302 61).toNat 0 (Int.le_refl 0) (by show (0 : Int) + _ = fI σ _ _; omega) (fun j a b => by omega)
    have hok : boxOk σ l n kn x y w := ⟨q1, q2, q3, q4, q5, q6, q7, q8, z⟩
    have h1 := h1 hok
    have hM := MI_mAdd hI hok
    refine bx_127 hI hok fun a10 v hv => ?_
    rw [hv]
    refine bx_wheel hM (by omega) q2 ((kn_mAdd ..).trans hkz) fun a8 a10 => ?_
    refine bx_333 (MI_mWh hM q2 ((kn_mAdd ..).trans hkz)).lay.1 ?_ h1
    rw [fI_mWh]; rfl
  have r2' := r2
  unfold inR at r1 r2 r3 r4 r5 r6
  clear h1 h2 hkz
  refine go_X12_box (ct := fun p => p == 83 || p == 88) 60 ?_
  simp only [oI, oL, oR, o1, lI, lL, lR, popN, catS, gv, stL, stL2, swt, cnd, spObj, List.getElem?_cons_zero, List.getElem?_cons_succ, List.getD_cons_zero, List.getD_cons_succ, List.set_cons_zero, List.set_cons_succ, List.nil_append, List.cons_append, Option.toList, Bool.or_false, Bool.false_or, Bool.or_true, Bool.true_or, Nat.reduceBEq, Nat.reduceAdd, Nat.reduceLT, Nat.reduceLeDiff, Int.reduceAdd, Int.reduceToNat, true_and, and_true, Fin.isValue, Fin.val_zero, Fin.val_one, Fin.val_two, Fin.reduceFinMk, eq_self, Int.reduceNeg, imp_self, Nat.reduceMul, Nat.le_refl, not_true_eq_false, not_false_eq_true, List.getElem?_nil, reduceCtorEq, true_or, or_true, Classical.not_not, implies_true, or_self, wI_0, wI_1, wI_m1, b2i_w, b2i_eq0, b2i_eq1, b2i_bool, nor_self, nx_pI, kd_pI, ln_pI, fI_pI, fL_pI, fR_pI, aI_pI, aL_pI, aR_pI, nx_pL, kd_pL, ln_pL, fI_pL, fL_pL, fR_pL, aI_pL, aL_pL, aR_pL, nx_pR, kd_pR, ln_pR, fI_pR, fL_pR, fR_pR, aI_pR, aL_pR, aR_pR, nx_qI, kd_qI, ln_qI, fI_qI, fL_qI, fR_qI, aI_qI, aL_qI, aR_qI, nx_qL, kd_qL, ln_qL, fI_qL, fL_qL, fR_qL, aI_qL, aL_qL, aR_qL, nx_qR, kd_qR, ln_qR, fI_qR, fL_qR, fR_qR, aI_qR, aL_qR, aR_qR, nx_mk, kd_mk, ln_mk, fI_mk, fL_mk, fR_mk, aI_mk, aL_mk, aR_mk, false_and, and_false, if_false, if_true, and_self, Int.reduceEq, Nat.reduceEqDiff, ite_self, MLay_pI, MLay_pL, MLay_qI, MLay_qL, ev_X12_box_0, ev_X12_box_1, ev_X12_box_2, ev_X12_box_5, ev_X12_box_6, ev_X12_box_7, ev_X12_box_8, ev_X12_box_11, ev_X12_box_14, ev_X12_box_15, ev_X12_box_18, ev_X12_box_21, ev_X12_box_22, ev_X12_box_23, ev_X12_box_24, ev_X12_box_27, ev_X12_box_30, ev_X12_box_32, ev_X12_box_33, ev_X12_box_35, ev_X12_box_38, ev_X12_box_41, ev_X12_box_43, ev_X12_box_44, ev_X12_box_46, ev_X12_box_49, ev_X12_box_52, ev_X12_box_54, ev_X12_box_55, ev_X12_box_57, ev_X12_box_60, ev_X12_box_63, ev_X12_box_64, ev_X12_box_67, ev_X12_box_69, ev_X12_box_72, ev_X12_box_73, ev_X12_box_76, ev_X12_box_77, ev_X12_box_78, ev_X12_box_80, ev_X12_box_83, ev_X12_box_84, ev_X12_box_85, ev_X12_box_86, xt_X12_box, xf_X12_box, us_X12_within, us_X12_isNumber, hk, hI.lay.eqs, r2']
  try simp (disch := omega) only [wI_id, dv_nn, rm_nn]
  repeat' (first | intro z | apply And.intro)
  all_goals try omega
  all_goals first
    | exact k83 (fun q => by have q1 := q.1; have q3 := q.2.2.1; have q4 := q.2.2.2.1; have q5 := q.2.2.2.2.1; have q6 := q.2.2.2.2.2.1; have q7 := q.2.2.2.2.2.2.1; have q8 := q.2.2.2.2.2.2.2.1; omega)
    | exact k83 (fun q => absurd q.2.1 ‹¬ okNum n›)
    | exact k88 ⟨by omega, ‹okNum n›, by omega, by omega, by omega, by omega, by omega, by omega⟩
