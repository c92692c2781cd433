/-! the reference: cards, as a contract -/

theorem nx_lt (τ : Hp) : fI (mNext τ) 1343 61 = fI τ 1343 61 := Eq.trans rfl rfl
theorem nx_th (τ : Hp) : fI (mNext τ) 1300 61 = fI τ 1300 61 := Eq.trans rfl rfl
theorem nx_nl (τ : Hp) : fI (mNext τ) 1353 61 = fI τ 1353 61 := Eq.trans rfl rfl

set_option maxRecDepth 20000 in
theorem c_X12_cards : Ct yX12_cards cX12_cards 2 ((some FieldType.int)) 5 0 0 sp_X12_cards := by
  refine Ct.go (M := M_X12_cards) mm_X12_cards fun av σ Q h0 => ?_
  obtain ⟨this, rfl, hk, h⟩ := el_X12_cards h0
  clear h0
  refine ⟨Nat.le_of_ble_eq_true rfl, ?_⟩
  show Go M_X12_cards Q 0 [some (vr this), none] [] σ (0, 0)
  obtain ⟨rfl, hI, hu, k1, k2⟩ := h
  have hlt := hI.lettered_s
  have hlw : wI 1000 = 1000 := by decide
  generalize eL : aI σ 92 = L at *
  generalize ez : fI σ 1343 61 = z at *
  have hM6 : MI (pI (pI (pI (pI (pI (pI σ 1300 61 0) 1345 61 z) 1343 61 0) 1346 61 0) 1353 61 0) 1359 61 1000) := MI_code_p (MI_newLines_p (MI_place_p (MI_lettered_p (MI_size_p (MI_fre hI (by decide)) hlt) (by omega)) (by omega)) (by omega)) (by omega)
  have hU6 : Ut fsC arC σ (pI (pI (pI (pI (pI (pI σ 1300 61 0) 1345 61 z) 1343 61 0) 1346 61 0) 1353 61 0) 1359 61 1000) := ((((((Ut.refl _ _ _).pI _ (by decide)).pI _ (by decide)).pI _ (by decide)).pI _ (by decide)).pI _ (by decide)).pI _ (by decide)
  generalize eτ : pI (pI (pI (pI (pI (pI σ 1300 61 0) 1345 61 z) 1343 61 0) 1346 61 0) 1353 61 0) 1359 61 1000 = τ at *
  have g1 : aI τ 92 = L := by rw [← eτ, ← eL]; exact Eq.trans rfl rfl
  have g2 : fI τ 1345 61 = z := by rw [← eτ]; exact Eq.trans rfl rfl
  have g3 : fI τ 1346 61 = 0 := by rw [← eτ]; exact Eq.trans rfl rfl
  have g4 : fI τ 1343 61 = 0 := by rw [← eτ]; exact Eq.trans rfl rfl
  have g5 : fI τ 1300 61 = 0 := by rw [← eτ]; exact Eq.trans rfl rfl
  have g6 : fI τ 1353 61 = 0 := by rw [← eτ]; exact Eq.trans rfl rfl
  have g7 : fI τ 1359 61 = 1000 := by rw [← eτ]; exact Eq.trans rfl rfl
  have g8 : upL τ := by rw [← eτ]; exact hu
  have hpl : (0 : Int) ≤ z := hlt.1
  have eN : mNext τ = tk τ (kB L z 0) (tE L z 0) (tW L z 0) (tT L z 0) (tK L z 0) := by
    unfold mNext
    rw [g1, g2, g3]
  have hMN := MI_mNext hM6 (by rw [g2, g3]; exact hpl)
  have hkb := tok_in L hpl
  have hb9 : fI (mNext τ) 1347 61 = kB L z 0 := by rw [eN, tk_fb]
  have hz9 : fI (mNext τ) 1345 61 = z := by rw [eN, tk_fz]; exact g2
  have hTT : TT L z (mNext τ) 0 := by rw [eN]; exact ⟨rfl, rfl, rfl, rfl, rfl⟩
  have e00 : ((([] : List Ln).length : Nat) : Int) = 0 := rfl
  have b1 : Ut fsC arC σ (mNext τ) := by rw [eN]; exact ((((hU6.pI _ (by decide)).pI _ (by decide)).pL _ (by decide)).pI _ (by decide)).pI _ (by decide)
  have b0 : TT (aI (mNext τ) 92) (fI (mNext τ) 1345 61) (mNext τ) (fI (mNext τ) 1347 61) := by rw [aI_mNext, g1, hz9]; exact hTT.b hpl
  have c0 : 1000 ≤ fI (mNext τ) 1359 61 := by rw [cd_mNext, g7]; exact Int.le_refl _
  have c1 : fI (mNext τ) 1359 61 ≤ 1000 + fI (mNext τ) 1347 61 := by rw [cd_mNext, g7, hb9]; clear k1 k2; omega
  have c2 : 0 ≤ fI (mNext τ) 1347 61 ∧ fI (mNext τ) 1347 61 ≤ fI (mNext τ) 1345 61 := by rw [hb9, hz9]; clear k1 k2; omega
  have b2 : TS (mNext τ) := ⟨b0, c2, c0, c1⟩
  have b3 : fI (mNext τ) 1343 61 = 0 := (nx_lt τ).trans g4
  have b4 : fI (mNext τ) 1300 61 = 0 := (nx_th τ).trans g5
  have b5 : fI (mNext τ) 1353 61 = ((([] : List Ln).length : Nat) : Int) := (nx_nl τ).trans (g6.trans e00.symm)
  have b6 : upL (mNext τ) := by intro j hj; rw [aI_mNext]; exact g8 j hj
  have b7 : LnS (mNext τ) 1000 (fI (mNext τ) 1359 61) 24 [] := fun i x hx => by cases hx
  have b8 : aI (mNext τ) 92 = L := by rw [aI_mNext]; exact g1
  have w := cd_39 (Q := Q) (σ := σ) (L := L) (z := z) 25 [] (mNext τ) rfl hMN b1 b2 b8 hz9 b3 b4 b5 b6 b7
  rw [hb9, e00] at w
  have w := w k1 k2
  have hk6 : kd τ 61 = 13 := hM6.lay.1
  refine go_X12_cards (ct := fun p => p == 39) 60 ?_
  simp only [oI, oL, oR, o1, lI, lL, lR, popN, catS, gv, stL, stL2, swt, cnd, spObj, List.getElem?_cons_zero, List.getElem?_cons_succ, List.getD_cons_zero, List.getD_cons_succ, List.set_cons_zero, List.set_cons_succ, List.nil_append, List.cons_append, Option.toList, Bool.or_false, Bool.false_or, Bool.or_true, Bool.true_or, Nat.reduceBEq, Nat.reduceAdd, Nat.reduceLT, Nat.reduceLeDiff, Int.reduceAdd, Int.reduceToNat, true_and, and_true, Fin.isValue, Fin.val_zero, Fin.val_one, Fin.val_two, Fin.reduceFinMk, eq_self, Int.reduceNeg, imp_self, Nat.reduceMul, Nat.le_refl, not_true_eq_false, not_false_eq_true, List.getElem?_nil, reduceCtorEq, true_or, or_true, Classical.not_not, implies_true, or_self, wI_0, wI_1, wI_m1, b2i_w, b2i_eq0, b2i_eq1, b2i_bool, nor_self, nx_pI, kd_pI, ln_pI, fI_pI, fL_pI, fR_pI, aI_pI, aL_pI, aR_pI, nx_pL, kd_pL, ln_pL, fI_pL, fL_pL, fR_pL, aI_pL, aL_pL, aR_pL, nx_pR, kd_pR, ln_pR, fI_pR, fL_pR, fR_pR, aI_pR, aL_pR, aR_pR, nx_qI, kd_qI, ln_qI, fI_qI, fL_qI, fR_qI, aI_qI, aL_qI, aR_qI, nx_qL, kd_qL, ln_qL, fI_qL, fL_qL, fR_qL, aI_qL, aL_qL, aR_qL, nx_qR, kd_qR, ln_qR, fI_qR, fL_qR, fR_qR, aI_qR, aL_qR, aR_qR, nx_mk, kd_mk, ln_mk, fI_mk, fL_mk, fR_mk, aI_mk, aL_mk, aR_mk, false_and, and_false, if_false, if_true, and_self, Int.reduceEq, Nat.reduceEqDiff, ite_self, MLay_pI, MLay_pL, MLay_qI, MLay_qL, ev_X12_cards_0, ev_X12_cards_1, ev_X12_cards_2, ev_X12_cards_5, ev_X12_cards_6, ev_X12_cards_7, ev_X12_cards_10, ev_X12_cards_13, ev_X12_cards_14, ev_X12_cards_15, ev_X12_cards_18, ev_X12_cards_19, ev_X12_cards_20, ev_X12_cards_23, ev_X12_cards_24, ev_X12_cards_25, ev_X12_cards_28, ev_X12_cards_29, ev_X12_cards_32, ev_X12_cards_35, ev_X12_cards_36, xt_X12_cards, xf_X12_cards, us_X12_next, us_X12_readsLine, hk, ez, hlw, eτ, hk6, hM6, g2, g3, hpl]
  first | exact w | skip
