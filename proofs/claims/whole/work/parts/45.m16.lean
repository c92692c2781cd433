/-! the reference: a line's test, further steps -/

theorem kd_mCode (σ : Hp) (c : Int) : kd (mCode σ c) = kd σ := Eq.trans rfl rfl
theorem fR_mCode (σ : Hp) (c : Int) : fR (mCode σ c) = fR σ := Eq.trans rfl rfl
theorem ln_mCode (σ : Hp) (c : Int) : ln (mCode σ c) = ln σ := Eq.trans rfl rfl
theorem op_mCode (σ : Hp) (c : Int) : aI (mCode σ c) 98 = aI σ 98 := Eq.trans rfl rfl
theorem cm_mCode (σ : Hp) (c : Int) : aI (mCode σ c) 99 = aI σ 99 := Eq.trans rfl rfl
section RD
variable {Q : Option AV → Hp → Prop} {l : Int} {σ : Hp} {L : Int → Int} {z : Int}

set_option maxRecDepth 20000 in
theorem rd_open {τ : Hp} {p d : Int} (h : IV L z σ τ p) (hd : 0 ≤ d ∧ d < 5) (hs : isS L z p 40) (w : ∀ a4 a5 a6, Go M_X12_reads Q 186 [some (vr 61), some (vi l), some (vi (d + 1)), some (vi 1), a4, a5, a6] [] (mOp τ 28 d 2) (0, 0)) (a4 a5 a6 : Option AV) : Go M_X12_reads Q 21 [some (vr 61), some (vi l), some (vi d), some (vi 1), a4, a5, a6] [] τ (0, 0) := by
  obtain ⟨hI, h2, h3, h4, h5, ⟨t1, t2, t3, t4, t5⟩, h7, h8⟩ := h
  have hk : kd τ 61 = 13 := hI.lay.1
  have ht := tok_in L h7.2
  have hb3 : kB L z p < 1000 := by have := ht.2.2.2.2 (by rw [hs.1]; decide); omega
  have hc : fI τ 1359 61 < 2000 := by have := ht.2.2.2.2 (by rw [hs.1]; decide); omega
  have e1 : BitVec.ofInt 64 10631 = 10631#64 := by decide
  have ef : (if tK L z p = 1 then fctW (tW L z p) else 0) = 0 := by rw [if_neg (by rw [hs.1]; decide)]
  have hw5 : wI 5 = 5 := by decide
  have hwd : wI d = d := wI_id (by omega) (by omega)
  have hd5 : (d = 5) = False := eq_false (by omega)
  have x1 : (0 : Int) ≤ 40 := by decide
  have x2 : (40 : Int) ≤ 255 := by decide
  have k3 := hs.1
  have kL := hs.2
  unfold mOp at w
  refine go_X12_reads (ct := fun p => p == 193 || p == 71 || p == 82 || p == 143 || p == 186) 70 ?_
  simp only [oI, oL, oR, o1, lI, lL, lR, popN, catS, gv, stL, stL2, swt, cnd, spObj, List.getElem?_cons_zero, List.getElem?_cons_succ, List.getD_cons_zero, List.getD_cons_succ, List.set_cons_zero, List.set_cons_succ, List.nil_append, List.cons_append, Option.toList, Bool.or_false, Bool.false_or, Bool.or_true, Bool.true_or, Nat.reduceBEq, Nat.reduceAdd, Nat.reduceLT, Nat.reduceLeDiff, Int.reduceAdd, Int.reduceToNat, true_and, and_true, Fin.isValue, Fin.val_zero, Fin.val_one, Fin.val_two, Fin.reduceFinMk, eq_self, Int.reduceNeg, imp_self, Nat.reduceMul, Nat.le_refl, not_true_eq_false, not_false_eq_true, List.getElem?_nil, reduceCtorEq, true_or, or_true, Classical.not_not, implies_true, or_self, wI_0, wI_1, wI_m1, b2i_w, b2i_eq0, b2i_eq1, b2i_bool, nor_self, nx_pI, kd_pI, ln_pI, fI_pI, fL_pI, fR_pI, aI_pI, aL_pI, aR_pI, nx_pL, kd_pL, ln_pL, fI_pL, fL_pL, fR_pL, aI_pL, aL_pL, aR_pL, nx_pR, kd_pR, ln_pR, fI_pR, fL_pR, fR_pR, aI_pR, aL_pR, aR_pR, nx_qI, kd_qI, ln_qI, fI_qI, fL_qI, fR_qI, aI_qI, aL_qI, aR_qI, nx_qL, kd_qL, ln_qL, fI_qL, fL_qL, fR_qL, aI_qL, aL_qL, aR_qL, nx_qR, kd_qR, ln_qR, fI_qR, fL_qR, fR_qR, aI_qR, aL_qR, aR_qR, nx_mk, kd_mk, ln_mk, fI_mk, fL_mk, fR_mk, aI_mk, aL_mk, aR_mk, false_and, and_false, if_false, if_true, and_self, Int.reduceEq, Nat.reduceEqDiff, ite_self, MLay_pI, MLay_pL, MLay_qI, MLay_qL, ev_X12_reads_21, ev_X12_reads_22, ev_X12_reads_25, ev_X12_reads_26, ev_X12_reads_29, ev_X12_reads_31, ev_X12_reads_32, ev_X12_reads_35, ev_X12_reads_38, ev_X12_reads_40, ev_X12_reads_41, ev_X12_reads_43, ev_X12_reads_46, ev_X12_reads_48, ev_X12_reads_50, ev_X12_reads_53, ev_X12_reads_55, ev_X12_reads_58, ev_X12_reads_60, ev_X12_reads_63, ev_X12_reads_64, ev_X12_reads_67, ev_X12_reads_68, ev_X12_reads_71, ev_X12_reads_72, ev_X12_reads_73, ev_X12_reads_76, ev_X12_reads_77, ev_X12_reads_78, ev_X12_reads_79, ev_X12_reads_82, ev_X12_reads_83, ev_X12_reads_84, ev_X12_reads_87, ev_X12_reads_88, ev_X12_reads_90, ev_X12_reads_93, ev_X12_reads_95, ev_X12_reads_98, ev_X12_reads_99, ev_X12_reads_101, ev_X12_reads_104, ev_X12_reads_106, ev_X12_reads_109, ev_X12_reads_111, ev_X12_reads_114, ev_X12_reads_117, ev_X12_reads_118, ev_X12_reads_121, ev_X12_reads_122, ev_X12_reads_124, ev_X12_reads_127, ev_X12_reads_128, ev_X12_reads_131, ev_X12_reads_132, ev_X12_reads_133, ev_X12_reads_134, ev_X12_reads_137, ev_X12_reads_138, ev_X12_reads_139, ev_X12_reads_140, xt_X12_reads, xf_X12_reads, us_X12_fact, us_X12_isWord, us_X12_isSign, us_X12_fails, us_X12_code, us_X12_next, hk, hI, hI.lay.eqs, h3, t1, t3, t5, k3, kL, hb3, e1, ef, b2i_T, b2i_F, hw5, hwd, hd5, x1, x2, hc, kd_mCode, fR_mCode, ln_mCode, not_false_eq_true, false_imp_iff, true_imp_iff]
  repeat' (first | intro z | apply And.intro)
  all_goals try omega
  all_goals exact w _ _ _

set_option maxRecDepth 20000 in
theorem rd_not {τ : Hp} {p d : Int} (h : IV L z σ τ p) (hd : 0 ≤ d ∧ d < 5) (hs : isW L z p 10631) (w : ∀ a4 a5 a6, Go M_X12_reads Q 186 [some (vr 61), some (vi l), some (vi (d + 1)), some (vi 1), a4, a5, a6] [] (mOp τ 30 d 1) (0, 0)) (a4 a5 a6 : Option AV) : Go M_X12_reads Q 21 [some (vr 61), some (vi l), some (vi d), some (vi 1), a4, a5, a6] [] τ (0, 0) := by
  obtain ⟨hI, h2, h3, h4, h5, ⟨t1, t2, t3, t4, t5⟩, h7, h8⟩ := h
  have hk : kd τ 61 = 13 := hI.lay.1
  have ht := tok_in L h7.2
  have hc : fI τ 1359 61 < 2000 := by have := ht.2.2.2.2 (by rw [hs.1]; decide); omega
  have e1 : BitVec.ofInt 64 10631 = 10631#64 := by decide
  have ef : fctW (10631#64) = 0 := by decide
  have hw5 : wI 5 = 5 := by decide
  have hwd : wI d = d := wI_id (by omega) (by omega)
  have hd5 : (d = 5) = False := eq_false (by omega)
  have x1 : (0 : Int) ≤ 40 := by decide
  have x2 : (40 : Int) ≤ 255 := by decide
  have k3 := hs.1
  have kL : tW L z p = 10631#64 := hs.2
  unfold mOp at w
  refine go_X12_reads (ct := fun p => p == 193 || p == 71 || p == 82 || p == 143 || p == 186) 70 ?_
  simp only [oI, oL, oR, o1, lI, lL, lR, popN, catS, gv, stL, stL2, swt, cnd, spObj, List.getElem?_cons_zero, List.getElem?_cons_succ, List.getD_cons_zero, List.getD_cons_succ, List.set_cons_zero, List.set_cons_succ, List.nil_append, List.cons_append, Option.toList, Bool.or_false, Bool.false_or, Bool.or_true, Bool.true_or, Nat.reduceBEq, Nat.reduceAdd, Nat.reduceLT, Nat.reduceLeDiff, Int.reduceAdd, Int.reduceToNat, true_and, and_true, Fin.isValue, Fin.val_zero, Fin.val_one, Fin.val_two, Fin.reduceFinMk, eq_self, Int.reduceNeg, imp_self, Nat.reduceMul, Nat.le_refl, not_true_eq_false, not_false_eq_true, List.getElem?_nil, reduceCtorEq, true_or, or_true, Classical.not_not, implies_true, or_self, wI_0, wI_1, wI_m1, b2i_w, b2i_eq0, b2i_eq1, b2i_bool, nor_self, nx_pI, kd_pI, ln_pI, fI_pI, fL_pI, fR_pI, aI_pI, aL_pI, aR_pI, nx_pL, kd_pL, ln_pL, fI_pL, fL_pL, fR_pL, aI_pL, aL_pL, aR_pL, nx_pR, kd_pR, ln_pR, fI_pR, fL_pR, fR_pR, aI_pR, aL_pR, aR_pR, nx_qI, kd_qI, ln_qI, fI_qI, fL_qI, fR_qI, aI_qI, aL_qI, aR_qI, nx_qL, kd_qL, ln_qL, fI_qL, fL_qL, fR_qL, aI_qL, aL_qL, aR_qL, nx_qR, kd_qR, ln_qR, fI_qR, fL_qR, fR_qR, aI_qR, aL_qR, aR_qR, nx_mk, kd_mk, ln_mk, fI_mk, fL_mk, fR_mk, aI_mk, aL_mk, aR_mk, false_and, and_false, if_false, if_true, and_self, Int.reduceEq, Nat.reduceEqDiff, ite_self, MLay_pI, MLay_pL, MLay_qI, MLay_qL, ev_X12_reads_21, ev_X12_reads_22, ev_X12_reads_25, ev_X12_reads_26, ev_X12_reads_29, ev_X12_reads_31, ev_X12_reads_32, ev_X12_reads_35, ev_X12_reads_38, ev_X12_reads_40, ev_X12_reads_41, ev_X12_reads_43, ev_X12_reads_46, ev_X12_reads_48, ev_X12_reads_50, ev_X12_reads_53, ev_X12_reads_55, ev_X12_reads_58, ev_X12_reads_60, ev_X12_reads_63, ev_X12_reads_64, ev_X12_reads_67, ev_X12_reads_68, ev_X12_reads_71, ev_X12_reads_72, ev_X12_reads_73, ev_X12_reads_76, ev_X12_reads_77, ev_X12_reads_78, ev_X12_reads_79, ev_X12_reads_82, ev_X12_reads_83, ev_X12_reads_84, ev_X12_reads_87, ev_X12_reads_88, ev_X12_reads_90, ev_X12_reads_93, ev_X12_reads_95, ev_X12_reads_98, ev_X12_reads_99, ev_X12_reads_101, ev_X12_reads_104, ev_X12_reads_106, ev_X12_reads_109, ev_X12_reads_111, ev_X12_reads_114, ev_X12_reads_117, ev_X12_reads_118, ev_X12_reads_121, ev_X12_reads_122, ev_X12_reads_124, ev_X12_reads_127, ev_X12_reads_128, ev_X12_reads_131, ev_X12_reads_132, ev_X12_reads_133, ev_X12_reads_134, ev_X12_reads_137, ev_X12_reads_138, ev_X12_reads_139, ev_X12_reads_140, xt_X12_reads, xf_X12_reads, us_X12_fact, us_X12_isWord, us_X12_isSign, us_X12_fails, us_X12_code, us_X12_next, hk, hI, hI.lay.eqs, h3, t1, t3, t5, k3, kL, e1, ef, b2i_T, b2i_F, hw5, hwd, hd5, x1, x2, hc, kd_mCode, fR_mCode, ln_mCode, not_false_eq_true, false_imp_iff, true_imp_iff]
  repeat' (first | intro z | apply And.intro)
  all_goals try omega
  all_goals exact w _ _ _

set_option maxRecDepth 20000 in
theorem rd_atom {τ : Hp} {p d : Int} (h : IV L z σ τ p) (hd : 0 ≤ d ∧ d < 5) (c : ¬ (fc L z p = 0 ∧ ¬ isW L z p 10631 ∧ ¬ isS L z p 40 ∧ ¬ tK L z p = 2)) (hO : ¬ isS L z p 40) (hN : ¬ isW L z p 10631) (w : ∀ a4 a5 a6, Go M_X12_reads Q 166 [some (vr 61), some (vi l), some (vi d), some (vi 0), a4, a5, a6] [] (mCode τ (if 0 < fc L z p then fc L z p else 100 + tT L z p)) (0, 0)) (a4 a5 a6 : Option AV) : Go M_X12_reads Q 21 [some (vr 61), some (vi l), some (vi d), some (vi 1), a4, a5, a6] [] τ (0, 0) := by
  obtain ⟨hI, h2, h3, h4, h5, ⟨t1, t2, t3, t4, t5⟩, h7, h8⟩ := h
  have hk : kd τ 61 = 13 := hI.lay.1
  have ht := tok_in L h7.2
  have hf := fc_in L z p
  have hb3 : (tK L z p = 3 → kB L z p < 1000) = True := eq_true fun q => by have := ht.2.2.2.2 (by omega); omega
  have hc : fI τ 1359 61 < 2000 := by
    have := ht.2.2.2.2 (fun e => c ⟨by by_cases e2 : fc L z p = 0; exact e2; have := hf.2.2 e2; omega, hN, hO, by omega⟩)
    omega
  have e1 : BitVec.ofInt 64 10631 = 10631#64 := by decide
  have ef : (if tK L z p = 1 then fctW (tW L z p) else 0) = fc L z p := rfl
  have hw5 : wI 5 = 5 := by decide
  have hw2 : wI 2 = 2 := by decide
  have hwd : wI d = d := wI_id (by omega) (by omega)
  have hd5 : (d = 5) = False := eq_false (by omega)
  have x1 : (0 : Int) ≤ 40 := by decide
  have x2 : (40 : Int) ≤ 255 := by decide
  have n2 : (tK L z p = 3 ∧ L (kB L z p) = 40) = False := eq_false hO
  have n1 : (tK L z p = 1 ∧ tW L z p = 10631#64) = False := eq_false hN
  have tw : 0 ≤ tK L z p ∧ tK L z p ≤ 4 := tKb_in L z (kB L z p)
  have hwk : wI (tK L z p) = tK L z p := wI_id (by omega) (by omega)
  have hwf : wI (fc L z p) = fc L z p := wI_id (by omega) (by omega)
  by_cases f0 : 0 < fc L z p
  · rw [if_pos f0] at w
    have f1 : (fc L z p = 0) = False := eq_false (by omega)
    have f2 : (fc L z p ≤ 0) = False := eq_false (by omega)
    refine go_X12_reads (ct := fun p => p == 193 || p == 71 || p == 82 || p == 98 || p == 166 || p == 53) 70 ?_
    simp only [oI, oL, oR, o1, lI, lL, lR, popN, catS, gv, stL, stL2, swt, cnd, spObj, List.getElem?_cons_zero, List.getElem?_cons_succ, List.getD_cons_zero, List.getD_cons_succ, List.set_cons_zero, List.set_cons_succ, List.nil_append, List.cons_append, Option.toList, Bool.or_false, Bool.false_or, Bool.or_true, Bool.true_or, Nat.reduceBEq, Nat.reduceAdd, Nat.reduceLT, Nat.reduceLeDiff, Int.reduceAdd, Int.reduceToNat, true_and, and_true, Fin.isValue, Fin.val_zero, Fin.val_one, Fin.val_two, Fin.reduceFinMk, eq_self, Int.reduceNeg, imp_self, Nat.reduceMul, Nat.le_refl, not_true_eq_false, not_false_eq_true, List.getElem?_nil, reduceCtorEq, true_or, or_true, Classical.not_not, implies_true, or_self, wI_0, wI_1, wI_m1, b2i_w, b2i_eq0, b2i_eq1, b2i_bool, nor_self, nx_pI, kd_pI, ln_pI, fI_pI, fL_pI, fR_pI, aI_pI, aL_pI, aR_pI, nx_pL, kd_pL, ln_pL, fI_pL, fL_pL, fR_pL, aI_pL, aL_pL, aR_pL, nx_pR, kd_pR, ln_pR, fI_pR, fL_pR, fR_pR, aI_pR, aL_pR, aR_pR, nx_qI, kd_qI, ln_qI, fI_qI, fL_qI, fR_qI, aI_qI, aL_qI, aR_qI, nx_qL, kd_qL, ln_qL, fI_qL, fL_qL, fR_qL, aI_qL, aL_qL, aR_qL, nx_qR, kd_qR, ln_qR, fI_qR, fL_qR, fR_qR, aI_qR, aL_qR, aR_qR, nx_mk, kd_mk, ln_mk, fI_mk, fL_mk, fR_mk, aI_mk, aL_mk, aR_mk, false_and, and_false, if_false, if_true, and_self, Int.reduceEq, Nat.reduceEqDiff, ite_self, MLay_pI, MLay_pL, MLay_qI, MLay_qL, ev_X12_reads_21, ev_X12_reads_22, ev_X12_reads_25, ev_X12_reads_26, ev_X12_reads_29, ev_X12_reads_31, ev_X12_reads_32, ev_X12_reads_35, ev_X12_reads_38, ev_X12_reads_40, ev_X12_reads_41, ev_X12_reads_43, ev_X12_reads_46, ev_X12_reads_48, ev_X12_reads_50, ev_X12_reads_53, ev_X12_reads_55, ev_X12_reads_58, ev_X12_reads_60, ev_X12_reads_63, ev_X12_reads_64, ev_X12_reads_67, ev_X12_reads_68, ev_X12_reads_71, ev_X12_reads_72, ev_X12_reads_73, ev_X12_reads_76, ev_X12_reads_77, ev_X12_reads_78, ev_X12_reads_79, ev_X12_reads_82, ev_X12_reads_83, ev_X12_reads_84, ev_X12_reads_87, ev_X12_reads_88, ev_X12_reads_90, ev_X12_reads_93, ev_X12_reads_95, ev_X12_reads_98, ev_X12_reads_99, ev_X12_reads_101, ev_X12_reads_104, ev_X12_reads_106, ev_X12_reads_109, ev_X12_reads_111, ev_X12_reads_114, ev_X12_reads_117, ev_X12_reads_118, ev_X12_reads_121, ev_X12_reads_122, ev_X12_reads_124, ev_X12_reads_127, ev_X12_reads_128, ev_X12_reads_131, ev_X12_reads_132, ev_X12_reads_133, ev_X12_reads_134, ev_X12_reads_137, ev_X12_reads_138, ev_X12_reads_139, ev_X12_reads_140, ev_X12_reads_143, ev_X12_reads_144, ev_X12_reads_146, ev_X12_reads_149, ev_X12_reads_151, ev_X12_reads_154, ev_X12_reads_156, ev_X12_reads_157, ev_X12_reads_160, ev_X12_reads_161, ev_X12_reads_164, ev_X12_reads_165, xt_X12_reads, xf_X12_reads, us_X12_fact, us_X12_isWord, us_X12_isSign, us_X12_fails, us_X12_code, us_X12_next, hk, hI, hI.lay.eqs, h3, t1, t3, t4, t5, n1, n2, hb3, e1, ef, b2i_T, b2i_F, hw5, hw2, hwd, hwk, hwf, hd5, x1, x2, hc, f1, f2, not_false_eq_true, false_imp_iff, true_imp_iff]
    repeat' (first | intro z | apply And.intro)
    all_goals try omega
    all_goals exact w _ _ _
  · rw [if_neg f0] at w
    have f1 : fc L z p = 0 := by omega
    have f2 : tK L z p = 2 := by
      by_cases e2 : tK L z p = 2
      · exact e2
      · exact absurd ⟨f1, hN, hO, e2⟩ c
    refine go_X12_reads (ct := fun p => p == 193 || p == 71 || p == 82 || p == 98 || p == 166) 70 ?_
    simp only [oI, oL, oR, o1, lI, lL, lR, popN, catS, gv, stL, stL2, swt, cnd, spObj, List.getElem?_cons_zero, List.getElem?_cons_succ, List.getD_cons_zero, List.getD_cons_succ, List.set_cons_zero, List.set_cons_succ, List.nil_append, List.cons_append, Option.toList, Bool.or_false, Bool.false_or, Bool.or_true, Bool.true_or, Nat.reduceBEq, Nat.reduceAdd, Nat.reduceLT, Nat.reduceLeDiff, Int.reduceAdd, Int.reduceToNat, true_and, and_true, Fin.isValue, Fin.val_zero, Fin.val_one, Fin.val_two, Fin.reduceFinMk, eq_self, Int.reduceNeg, imp_self, Nat.reduceMul, Nat.le_refl, not_true_eq_false, not_false_eq_true, List.getElem?_nil, reduceCtorEq, true_or, or_true, Classical.not_not, implies_true, or_self, wI_0, wI_1, wI_m1, b2i_w, b2i_eq0, b2i_eq1, b2i_bool, nor_self, nx_pI, kd_pI, ln_pI, fI_pI, fL_pI, fR_pI, aI_pI, aL_pI, aR_pI, nx_pL, kd_pL, ln_pL, fI_pL, fL_pL, fR_pL, aI_pL, aL_pL, aR_pL, nx_pR, kd_pR, ln_pR, fI_pR, fL_pR, fR_pR, aI_pR, aL_pR, aR_pR, nx_qI, kd_qI, ln_qI, fI_qI, fL_qI, fR_qI, aI_qI, aL_qI, aR_qI, nx_qL, kd_qL, ln_qL, fI_qL, fL_qL, fR_qL, aI_qL, aL_qL, aR_qL, nx_qR, kd_qR, ln_qR, fI_qR, fL_qR, fR_qR, aI_qR, aL_qR, aR_qR, nx_mk, kd_mk, ln_mk, fI_mk, fL_mk, fR_mk, aI_mk, aL_mk, aR_mk, false_and, and_false, if_false, if_true, and_self, Int.reduceEq, Nat.reduceEqDiff, ite_self, MLay_pI, MLay_pL, MLay_qI, MLay_qL, ev_X12_reads_21, ev_X12_reads_22, ev_X12_reads_25, ev_X12_reads_26, ev_X12_reads_29, ev_X12_reads_31, ev_X12_reads_32, ev_X12_reads_35, ev_X12_reads_38, ev_X12_reads_40, ev_X12_reads_41, ev_X12_reads_43, ev_X12_reads_46, ev_X12_reads_48, ev_X12_reads_50, ev_X12_reads_53, ev_X12_reads_55, ev_X12_reads_58, ev_X12_reads_60, ev_X12_reads_63, ev_X12_reads_64, ev_X12_reads_67, ev_X12_reads_68, ev_X12_reads_71, ev_X12_reads_72, ev_X12_reads_73, ev_X12_reads_76, ev_X12_reads_77, ev_X12_reads_78, ev_X12_reads_79, ev_X12_reads_82, ev_X12_reads_83, ev_X12_reads_84, ev_X12_reads_87, ev_X12_reads_88, ev_X12_reads_90, ev_X12_reads_93, ev_X12_reads_95, ev_X12_reads_98, ev_X12_reads_99, ev_X12_reads_101, ev_X12_reads_104, ev_X12_reads_106, ev_X12_reads_109, ev_X12_reads_111, ev_X12_reads_114, ev_X12_reads_117, ev_X12_reads_118, ev_X12_reads_121, ev_X12_reads_122, ev_X12_reads_124, ev_X12_reads_127, ev_X12_reads_128, ev_X12_reads_131, ev_X12_reads_132, ev_X12_reads_133, ev_X12_reads_134, ev_X12_reads_137, ev_X12_reads_138, ev_X12_reads_139, ev_X12_reads_140, ev_X12_reads_143, ev_X12_reads_144, ev_X12_reads_146, ev_X12_reads_149, ev_X12_reads_151, ev_X12_reads_154, ev_X12_reads_156, ev_X12_reads_157, ev_X12_reads_160, ev_X12_reads_161, ev_X12_reads_164, ev_X12_reads_165, xt_X12_reads, xf_X12_reads, us_X12_fact, us_X12_isWord, us_X12_isSign, us_X12_fails, us_X12_code, us_X12_next, hk, hI, hI.lay.eqs, h3, t1, t3, t4, t5, f2, e1, ef, f1, b2i_T, b2i_F, hw5, hw2, hwd, hd5, x1, x2, hc, not_false_eq_true, false_imp_iff, true_imp_iff]
    repeat' (first | intro z | apply And.intro)
    all_goals try omega
    all_goals exact w _ _ _

set_option maxRecDepth 20000 in
theorem rd_sum {τ : Hp} {p d : Int} (h : IV L z σ τ p) (hs : isS L z p 43 ∨ isS L z p 45) (w : ∀ a4 a5 a6, Go M_X12_reads Q 425 [some (vr 61), some (vi l), some (vi d), some (vi 1), a4, a5, a6] [] (mCode τ (if isS L z p 43 then 20 else 21)) (0, 0)) (a4 a5 a6 : Option AV) : Go M_X12_reads Q 21 [some (vr 61), some (vi l), some (vi d), some (vi 0), a4, a5, a6] [] τ (0, 0) := by
  obtain ⟨hI, h2, h3, h4, h5, ⟨t1, t2, t3, t4, t5⟩, h7, h8⟩ := h
  have hk : kd τ 61 = 13 := hI.lay.1
  have ht := tok_in L h7.2
  have k3 : tK L z p = 3 := hs.elim (fun q => q.1) (fun q => q.1)
  have hb3 : kB L z p < 1000 := by have := ht.2.2.2.2 (by rw [k3]; decide); omega
  have hc : fI τ 1359 61 < 2000 := by have := ht.2.2.2.2 (by rw [k3]; decide); omega
  have x1 : (0 : Int) ≤ 43 := by decide
  have x2 : (43 : Int) ≤ 255 := by decide
  have x3 : (0 : Int) ≤ 45 := by decide
  have x4 : (45 : Int) ≤ 255 := by decide
  by_cases s1 : isS L z p 43
  · rw [if_pos s1] at w
    have kL := s1.2
    refine go_X12_reads (ct := fun p => p == 25 || p == 236 || p == 226 || p == 425) 70 ?_
    simp only [oI, oL, oR, o1, lI, lL, lR, popN, catS, gv, stL, stL2, swt, cnd, spObj, List.getElem?_cons_zero, List.getElem?_cons_succ, List.getD_cons_zero, List.getD_cons_succ, List.set_cons_zero, List.set_cons_succ, List.nil_append, List.cons_append, Option.toList, Bool.or_false, Bool.false_or, Bool.or_true, Bool.true_or, Nat.reduceBEq, Nat.reduceAdd, Nat.reduceLT, Nat.reduceLeDiff, Int.reduceAdd, Int.reduceToNat, true_and, and_true, Fin.isValue, Fin.val_zero, Fin.val_one, Fin.val_two, Fin.reduceFinMk, eq_self, Int.reduceNeg, imp_self, Nat.reduceMul, Nat.le_refl, not_true_eq_false, not_false_eq_true, List.getElem?_nil, reduceCtorEq, true_or, or_true, Classical.not_not, implies_true, or_self, wI_0, wI_1, wI_m1, b2i_w, b2i_eq0, b2i_eq1, b2i_bool, nor_self, nx_pI, kd_pI, ln_pI, fI_pI, fL_pI, fR_pI, aI_pI, aL_pI, aR_pI, nx_pL, kd_pL, ln_pL, fI_pL, fL_pL, fR_pL, aI_pL, aL_pL, aR_pL, nx_pR, kd_pR, ln_pR, fI_pR, fL_pR, fR_pR, aI_pR, aL_pR, aR_pR, nx_qI, kd_qI, ln_qI, fI_qI, fL_qI, fR_qI, aI_qI, aL_qI, aR_qI, nx_qL, kd_qL, ln_qL, fI_qL, fL_qL, fR_qL, aI_qL, aL_qL, aR_qL, nx_qR, kd_qR, ln_qR, fI_qR, fL_qR, fR_qR, aI_qR, aL_qR, aR_qR, nx_mk, kd_mk, ln_mk, fI_mk, fL_mk, fR_mk, aI_mk, aL_mk, aR_mk, false_and, and_false, if_false, if_true, and_self, Int.reduceEq, Nat.reduceEqDiff, ite_self, MLay_pI, MLay_pL, MLay_qI, MLay_qL, ev_X12_reads_21, ev_X12_reads_22, ev_X12_reads_193, ev_X12_reads_194, ev_X12_reads_196, ev_X12_reads_199, ev_X12_reads_202, ev_X12_reads_203, ev_X12_reads_205, ev_X12_reads_208, ev_X12_reads_211, ev_X12_reads_212, ev_X12_reads_213, ev_X12_reads_215, ev_X12_reads_218, ev_X12_reads_221, ev_X12_reads_223, ev_X12_reads_226, ev_X12_reads_228, ev_X12_reads_231, ev_X12_reads_232, ev_X12_reads_233, xt_X12_reads, xf_X12_reads, us_X12_fact, us_X12_isWord, us_X12_isSign, us_X12_fails, us_X12_code, us_X12_next, hk, hI, hI.lay.eqs, h3, t1, t5, k3, kL, hb3, b2i_T, b2i_F, x1, x2, x3, x4, hc, not_false_eq_true, false_imp_iff, true_imp_iff]
    exact w _ _ _
  · rw [if_neg s1] at w
    have kL := (hs.resolve_left s1).2
    refine go_X12_reads (ct := fun p => p == 25 || p == 236 || p == 221 || p == 425) 70 ?_
    simp only [oI, oL, oR, o1, lI, lL, lR, popN, catS, gv, stL, stL2, swt, cnd, spObj, List.getElem?_cons_zero, List.getElem?_cons_succ, List.getD_cons_zero, List.getD_cons_succ, List.set_cons_zero, List.set_cons_succ, List.nil_append, List.cons_append, Option.toList, Bool.or_false, Bool.false_or, Bool.or_true, Bool.true_or, Nat.reduceBEq, Nat.reduceAdd, Nat.reduceLT, Nat.reduceLeDiff, Int.reduceAdd, Int.reduceToNat, true_and, and_true, Fin.isValue, Fin.val_zero, Fin.val_one, Fin.val_two, Fin.reduceFinMk, eq_self, Int.reduceNeg, imp_self, Nat.reduceMul, Nat.le_refl, not_true_eq_false, not_false_eq_true, List.getElem?_nil, reduceCtorEq, true_or, or_true, Classical.not_not, implies_true, or_self, wI_0, wI_1, wI_m1, b2i_w, b2i_eq0, b2i_eq1, b2i_bool, nor_self, nx_pI, kd_pI, ln_pI, fI_pI, fL_pI, fR_pI, aI_pI, aL_pI, aR_pI, nx_pL, kd_pL, ln_pL, fI_pL, fL_pL, fR_pL, aI_pL, aL_pL, aR_pL, nx_pR, kd_pR, ln_pR, fI_pR, fL_pR, fR_pR, aI_pR, aL_pR, aR_pR, nx_qI, kd_qI, ln_qI, fI_qI, fL_qI, fR_qI, aI_qI, aL_qI, aR_qI, nx_qL, kd_qL, ln_qL, fI_qL, fL_qL, fR_qL, aI_qL, aL_qL, aR_qL, nx_qR, kd_qR, ln_qR, fI_qR, fL_qR, fR_qR, aI_qR, aL_qR, aR_qR, nx_mk, kd_mk, ln_mk, fI_mk, fL_mk, fR_mk, aI_mk, aL_mk, aR_mk, false_and, and_false, if_false, if_true, and_self, Int.reduceEq, Nat.reduceEqDiff, ite_self, MLay_pI, MLay_pL, MLay_qI, MLay_qL, ev_X12_reads_21, ev_X12_reads_22, ev_X12_reads_193, ev_X12_reads_194, ev_X12_reads_196, ev_X12_reads_199, ev_X12_reads_202, ev_X12_reads_203, ev_X12_reads_205, ev_X12_reads_208, ev_X12_reads_211, ev_X12_reads_212, ev_X12_reads_213, ev_X12_reads_215, ev_X12_reads_218, ev_X12_reads_221, ev_X12_reads_223, ev_X12_reads_226, ev_X12_reads_228, ev_X12_reads_231, ev_X12_reads_232, ev_X12_reads_233, xt_X12_reads, xf_X12_reads, us_X12_fact, us_X12_isWord, us_X12_isSign, us_X12_fails, us_X12_code, us_X12_next, hk, hI, hI.lay.eqs, h3, t1, t5, k3, kL, hb3, b2i_T, b2i_F, x1, x2, x3, x4, hc, not_false_eq_true, false_imp_iff, true_imp_iff]
    exact w _ _ _

end RD
