/-! the class: a reading: from a depth on -/

set_option maxRecDepth 20000 in
theorem ef_57 {d : Nat} (hr : HR_X10_explainFrom d) {Q : Option AV → Hp → Prop} {ρ : Hp} {x f dep : Int} (h : Go (M_X10_explainFrom d) Q 27 [some (vr 4), some (vi dep), some (vi f), some (vi (x + 1))] [] ρ (0, 0)) : Go (M_X10_explainFrom d) Q 54 [some (vr 4), some (vi dep), some (vi f), some (vi x)] [] ρ (0, 0) := by
  refine go_X10_explainFrom hr (ct := fun p => p == 27) 10 ?_
  simp only [oI, oL, oR, o1, lI, lL, lR, popN, catS, gv, stL, stL2, swt, cnd, spObj, List.getElem?_cons_zero, List.getElem?_cons_succ, List.getD_cons_zero, List.getD_cons_succ, List.set_cons_zero, List.set_cons_succ, List.nil_append, List.cons_append, Option.toList, Bool.or_false, Bool.false_or, Bool.or_true, Bool.true_or, Nat.reduceBEq, Nat.reduceAdd, Nat.reduceLT, Nat.reduceLeDiff, Int.reduceAdd, Int.reduceToNat, true_and, and_true, Fin.isValue, Fin.val_zero, Fin.val_one, Fin.val_two, Fin.reduceFinMk, eq_self, Int.reduceNeg, imp_self, Nat.reduceMul, Nat.le_refl, not_true_eq_false, not_false_eq_true, List.getElem?_nil, reduceCtorEq, true_or, or_true, Classical.not_not, implies_true, or_self, wI_0, wI_1, wI_m1, b2i_w, b2i_eq0, b2i_eq1, b2i_bool, nor_self, nx_pI, kd_pI, ln_pI, fI_pI, fL_pI, fR_pI, aI_pI, aL_pI, aR_pI, nx_pL, kd_pL, ln_pL, fI_pL, fL_pL, fR_pL, aI_pL, aL_pL, aR_pL, nx_pR, kd_pR, ln_pR, fI_pR, fL_pR, fR_pR, aI_pR, aL_pR, aR_pR, nx_qI, kd_qI, ln_qI, fI_qI, fL_qI, fR_qI, aI_qI, aL_qI, aR_qI, nx_qL, kd_qL, ln_qL, fI_qL, fL_qL, fR_qL, aI_qL, aL_qL, aR_qL, nx_qR, kd_qR, ln_qR, fI_qR, fL_qR, fR_qR, aI_qR, aL_qR, aR_qR, nx_mk, kd_mk, ln_mk, fI_mk, fL_mk, fR_mk, aI_mk, aL_mk, aR_mk, false_and, and_false, if_false, if_true, and_self, Int.reduceEq, Nat.reduceEqDiff, ite_self, MLay_pI, MLay_pL, MLay_qI, MLay_qL, ev_X10_explainFrom_54, ev_X10_explainFrom_57, xt_X10_explainFrom, xf_X10_explainFrom, us_X10_firstOpen, us_Jx4a65c_size_8abf5, us_X10_isPicked]
  exact h

set_option maxRecDepth 20000 in
theorem ef_27 {d : Nat} (hr : HR_X10_explainFrom d) {Q : Option AV → Hp → Prop} {σ : Hp} {H : Int → Prop} {K : Int → Int → Prop} {nb sp l f dep : Int} {pk : List Int} {S : Int → Prop} (hd : 0 < d ∧ dep + d ≤ 3 ∧ 0 ≤ dep) (hE : RGe H K nb sp l (dep + d) σ) (hpl : (pk.length : Int) = dep) (hM : PkM σ pk) (hI : PkI nb pk) (hB : B64 (aL σ (8 + dep)) (fun u => u < sp ∧ Opn H K pk u)) (hF : Fst H K sp pk f) (h : ∀ σ' ks', FzD dep σ σ' → KM σ' ks' → SgK (fun k => S k ∨ ∃ p, Cnd H K nb sp pk f p ∧ FdS H K nb sp (d - 1) (pk ++ [p]) k) ks' → Q none σ') : ∀ (m : Nat) (x : Int) (ρ : Hp) (ks : List Int), 0 ≤ x → x + m = nb → FzD dep σ ρ → KM ρ ks → SgK (fun k => S k ∨ ∃ p, p / 300 < x ∧ Cnd H K nb sp pk f p ∧ FdS H K nb sp (d - 1) (pk ++ [p]) k) ks → Go (M_X10_explainFrom d) Q 27 [some (vr 4), some (vi dep), some (vi f), some (vi x)] [] ρ (0, 0) := by
  intro m
  induction m with
  | zero =>
    intro x ρ ks hx hm z hKM hSg
    have h := h ρ ks z hKM (hSg.congr (fun k => ⟨fun y => y.imp id (fun ⟨p, a, b⟩ => ⟨p, b⟩), fun y => y.imp id (fun ⟨p, b⟩ => ⟨p, by have := b.1.1; omega, b⟩)⟩))
    have hE2 := hE.fz z.1
    have hC := hE2.1
    have k4 : kd ρ 4 = 11 := by simp only [hC.eqs]
    have hlp := hE2.2.2.1
    have hg := lpx hC hE2.2.1
    have hg1 := hg.1
    have hg2 := hg.2.1
    have hg3 := hg.2.2
    have hsz := hE2.2.2.2.2.1
    have hnb := hE2.2.2.2.2.2.1
    have hx2 : x = nb := by omega
    clear hE hM hI hB hF hSg hKM z hE2
    refine go_X10_explainFrom hr (ct := fun p => p == 38) 20 ?_
    simp only [oI, oL, oR, o1, lI, lL, lR, popN, catS, gv, stL, stL2, swt, cnd, spObj, List.getElem?_cons_zero, List.getElem?_cons_succ, List.getD_cons_zero, List.getD_cons_succ, List.set_cons_zero, List.set_cons_succ, List.nil_append, List.cons_append, Option.toList, Bool.or_false, Bool.false_or, Bool.or_true, Bool.true_or, Nat.reduceBEq, Nat.reduceAdd, Nat.reduceLT, Nat.reduceLeDiff, Int.reduceAdd, Int.reduceToNat, true_and, and_true, Fin.isValue, Fin.val_zero, Fin.val_one, Fin.val_two, Fin.reduceFinMk, eq_self, Int.reduceNeg, imp_self, Nat.reduceMul, Nat.le_refl, not_true_eq_false, not_false_eq_true, List.getElem?_nil, reduceCtorEq, true_or, or_true, Classical.not_not, implies_true, or_self, wI_0, wI_1, wI_m1, b2i_w, b2i_eq0, b2i_eq1, b2i_bool, nor_self, nx_pI, kd_pI, ln_pI, fI_pI, fL_pI, fR_pI, aI_pI, aL_pI, aR_pI, nx_pL, kd_pL, ln_pL, fI_pL, fL_pL, fR_pL, aI_pL, aL_pL, aR_pL, nx_pR, kd_pR, ln_pR, fI_pR, fL_pR, fR_pR, aI_pR, aL_pR, aR_pR, nx_qI, kd_qI, ln_qI, fI_qI, fL_qI, fR_qI, aI_qI, aL_qI, aR_qI, nx_qL, kd_qL, ln_qL, fI_qL, fL_qL, fR_qL, aI_qL, aL_qL, aR_qL, nx_qR, kd_qR, ln_qR, fI_qR, fL_qR, fR_qR, aI_qR, aL_qR, aR_qR, nx_mk, kd_mk, ln_mk, fI_mk, fL_mk, fR_mk, aI_mk, aL_mk, aR_mk, false_and, and_false, if_false, if_true, and_self, Int.reduceEq, Nat.reduceEqDiff, ite_self, MLay_pI, MLay_pL, MLay_qI, MLay_qL, ev_X10_explainFrom_27, ev_X10_explainFrom_28, ev_X10_explainFrom_29, ev_X10_explainFrom_32, ev_X10_explainFrom_35, ev_X10_explainFrom_60, xt_X10_explainFrom, xf_X10_explainFrom, us_X10_firstOpen, us_Jx4a65c_size_8abf5, us_X10_isPicked, k4, hlp, hg1, hg2, hg3, hsz]
    try simp (disch := omega) only [wI_id, dv_nn, rm_nn]
    repeat' (first | intro z | apply And.intro)
    all_goals try omega
    all_goals try contradiction
    all_goals exact h
  | succ m ih =>
    intro x ρ ks hx hm z hKM hSg
    have hE2 := hE.fz z.1
    have hC := hE2.1
    have k4 : kd ρ 4 = 11 := by simp only [hC.eqs]
    have hlp := hE2.2.2.1
    have hg := lpx hC hE2.2.1
    have hg1 := hg.1
    have hg2 := hg.2.1
    have hg3 := hg.2.2
    have hsz := hE2.2.2.2.2.1
    have hnb := hE2.2.2.2.2.2.1
    have hM2 : PkM ρ pk := hM.fz (by rw [hpl]; exact z)
    have hpin : ∀ i, 0 ≤ i → i < dep → 0 ≤ aI ρ 12 i ∧ aI ρ 12 i < 12 := fun i a b => by
      have he : pk[i.toNat]? = some (pk[i.toNat]'(by omega)) := List.getElem?_eq_getElem (by omega)
      have h1 := hM2 _ _ he
      have h2 := hI.1 _ (List.mem_of_getElem? he)
      rw [Int.toNat_of_nonneg a] at h1
      omega
    have hpx : (∃ i, 0 ≤ i ∧ i < dep ∧ aI ρ 12 i = x) ↔ ∃ a ∈ pk, a / 300 = x := by
      constructor
      · rintro ⟨i, a, b, c⟩
        have he : pk[i.toNat]? = some (pk[i.toNat]'(by omega)) := List.getElem?_eq_getElem (by omega)
        have h1 := hM2 _ _ he
        rw [Int.toNat_of_nonneg a] at h1
        exact ⟨_, List.mem_of_getElem? he, by omega⟩
      · rintro ⟨a, ha, e⟩
        obtain ⟨i, hi⟩ := List.getElem?_of_mem ha
        have h1 := hM2 _ _ hi
        have h2 := (List.getElem?_eq_some_iff.mp hi).1
        exact ⟨i, by omega, by omega, by omega⟩
    have w47 : Go (M_X10_explainFrom d) Q 44 [some (vr 4), some (vi dep), some (vi f), some (vi x)] [vi (b2i (∃ i, 0 ≤ i ∧ i < dep ∧ aI ρ 12 i = x))] ρ (0, 0) := by
      by_cases c : ∃ a ∈ pk, a / 300 = x
      · have w := ef_57 hr (Q := Q) (f := f) (ih (x + 1) ρ ks (by omega) (by omega) z hKM (hSg.congr (fun k => ⟨fun y => y.imp id (fun ⟨p, a, b⟩ => ⟨p, by omega, b⟩), fun y => y.imp id (fun ⟨p, a, b⟩ => ⟨p, by
          apply Decidable.byContradiction
          intro q
          obtain ⟨a9, ha, e⟩ := c
          exact b.1.2.1 a9 ha (by omega), b⟩)⟩)))
        rw [b2i_t (hpx.mpr c)]
        clear ih h hE hM hI hB hF hSg hKM z hE2 hpx hpin hM2
        refine go_X10_explainFrom hr (ct := fun p => p == 47 || p == 54) 10 ?_
        simp only [oI, oL, oR, o1, lI, lL, lR, popN, catS, gv, stL, stL2, swt, cnd, spObj, List.getElem?_cons_zero, List.getElem?_cons_succ, List.getD_cons_zero, List.getD_cons_succ, List.set_cons_zero, List.set_cons_succ, List.nil_append, List.cons_append, Option.toList, Bool.or_false, Bool.false_or, Bool.or_true, Bool.true_or, Nat.reduceBEq, Nat.reduceAdd, Nat.reduceLT, Nat.reduceLeDiff, Int.reduceAdd, Int.reduceToNat, true_and, and_true, Fin.isValue, Fin.val_zero, Fin.val_one, Fin.val_two, Fin.reduceFinMk, eq_self, Int.reduceNeg, imp_self, Nat.reduceMul, Nat.le_refl, not_true_eq_false, not_false_eq_true, List.getElem?_nil, reduceCtorEq, true_or, or_true, Classical.not_not, implies_true, or_self, wI_0, wI_1, wI_m1, b2i_w, b2i_eq0, b2i_eq1, b2i_bool, nor_self, nx_pI, kd_pI, ln_pI, fI_pI, fL_pI, fR_pI, aI_pI, aL_pI, aR_pI, nx_pL, kd_pL, ln_pL, fI_pL, fL_pL, fR_pL, aI_pL, aL_pL, aR_pL, nx_pR, kd_pR, ln_pR, fI_pR, fL_pR, fR_pR, aI_pR, aL_pR, aR_pR, nx_qI, kd_qI, ln_qI, fI_qI, fL_qI, fR_qI, aI_qI, aL_qI, aR_qI, nx_qL, kd_qL, ln_qL, fI_qL, fL_qL, fR_qL, aI_qL, aL_qL, aR_qL, nx_qR, kd_qR, ln_qR, fI_qR, fL_qR, fR_qR, aI_qR, aL_qR, aR_qR, nx_mk, kd_mk, ln_mk, fI_mk, fL_mk, fR_mk, aI_mk, aL_mk, aR_mk, false_and, and_false, if_false, if_true, and_self, Int.reduceEq, Nat.reduceEqDiff, ite_self, MLay_pI, MLay_pL, MLay_qI, MLay_qL, ev_X10_explainFrom_44, xt_X10_explainFrom, xf_X10_explainFrom, us_X10_firstOpen, us_Jx4a65c_size_8abf5, us_X10_isPicked]
        repeat' (first | intro z | apply And.intro)
        all_goals try omega
        all_goals try contradiction
        all_goals exact w
      · have w50 : Go (M_X10_explainFrom d) Q 47 [some (vr 4), some (vi dep), some (vi f), some (vi x)] [] ρ (0, 0) := by
          have S2 : SeS H K nb sp l (dep + d) pk ks (fun k => S k ∨ ∃ p, p / 300 < x ∧ Cnd H K nb sp pk f p ∧ FdS H K nb sp (d - 1) (pk ++ [p]) k) dep ρ := ⟨hE2, hpl, hM2, hI, by rw [z.2.2 (8 + dep) (by omega) (by omega)]; exact hB, hKM, hSg⟩
          have hd2 : 0 < d ∧ dep + d ≤ 3 := ⟨hd.1, hd.2.1⟩
          have hx3 : 0 ≤ x ∧ x < nb := by omega
          have hnx : ∀ a ∈ pk, a / 300 ≠ x := fun a ha e => c ⟨a, ha, e⟩
          have h2 : ∀ σ' ks', FzD dep ρ σ' → KM σ' ks' → SgK (fun k => (S k ∨ ∃ p, p / 300 < x ∧ Cnd H K nb sp pk f p ∧ FdS H K nb sp (d - 1) (pk ++ [p]) k) ∨ ∃ p, p / 300 = x ∧ Cnd H K nb sp pk f p ∧ FdS H K nb sp (d - 1) (pk ++ [p]) k) ks' → Go (M_X10_explainFrom d) Q 54 [some (vr 4), some (vi dep), some (vi f), some (vi x)] [] σ' (0, 0) := fun σ' ks' y1 y2 y3 => ef_57 hr (ih (x + 1) σ' ks' (by omega) (by omega) (z.tr y1) y2 (y3.congr (fun k => by
            constructor
            · rintro ((u | ⟨p, a, b⟩) | ⟨p, a, b⟩)
              · exact Or.inl u
              · exact Or.inr ⟨p, by omega, b⟩
              · exact Or.inr ⟨p, by omega, b⟩
            · rintro (u | ⟨p, a, b⟩)
              · exact Or.inl (Or.inl u)
              · by_cases q : p / 300 = x
                · exact Or.inr ⟨p, q, b⟩
                · exact Or.inl (Or.inr ⟨p, by omega, b⟩))))
          clear ih h hE hM hB hSg hKM z hE2 hpx hpin hM2
          refine go_X10_explainFrom hr (ct := fun p => p == 54) 10 ?_
          simp only [oI, oL, oR, o1, lI, lL, lR, popN, catS, gv, stL, stL2, swt, cnd, spObj, List.getElem?_cons_zero, List.getElem?_cons_succ, List.getD_cons_zero, List.getD_cons_succ, List.set_cons_zero, List.set_cons_succ, List.nil_append, List.cons_append, Option.toList, Bool.or_false, Bool.false_or, Bool.or_true, Bool.true_or, Nat.reduceBEq, Nat.reduceAdd, Nat.reduceLT, Nat.reduceLeDiff, Int.reduceAdd, Int.reduceToNat, true_and, and_true, Fin.isValue, Fin.val_zero, Fin.val_one, Fin.val_two, Fin.reduceFinMk, eq_self, Int.reduceNeg, imp_self, Nat.reduceMul, Nat.le_refl, not_true_eq_false, not_false_eq_true, List.getElem?_nil, reduceCtorEq, true_or, or_true, Classical.not_not, implies_true, or_self, wI_0, wI_1, wI_m1, b2i_w, b2i_eq0, b2i_eq1, b2i_bool, nor_self, nx_pI, kd_pI, ln_pI, fI_pI, fL_pI, fR_pI, aI_pI, aL_pI, aR_pI, nx_pL, kd_pL, ln_pL, fI_pL, fL_pL, fR_pL, aI_pL, aL_pL, aR_pL, nx_pR, kd_pR, ln_pR, fI_pR, fL_pR, fR_pR, aI_pR, aL_pR, aR_pR, nx_qI, kd_qI, ln_qI, fI_qI, fL_qI, fR_qI, aI_qI, aL_qI, aR_qI, nx_qL, kd_qL, ln_qL, fI_qL, fL_qL, fR_qL, aI_qL, aL_qL, aR_qL, nx_qR, kd_qR, ln_qR, fI_qR, fL_qR, fR_qR, aI_qR, aL_qR, aR_qR, nx_mk, kd_mk, ln_mk, fI_mk, fL_mk, fR_mk, aI_mk, aL_mk, aR_mk, false_and, and_false, if_false, if_true, and_self, Int.reduceEq, Nat.reduceEqDiff, ite_self, MLay_pI, MLay_pL, MLay_qI, MLay_qL, ev_X10_explainFrom_47, ev_X10_explainFrom_48, ev_X10_explainFrom_49, ev_X10_explainFrom_50, ev_X10_explainFrom_51, xt_X10_explainFrom, xf_X10_explainFrom, us_X10_firstOpen, us_Jx4a65c_size_8abf5, us_X10_isPicked, us_X10_explainBy, k4]
          repeat' (first | intro z | apply And.intro)
          all_goals try omega
          all_goals try contradiction
          all_goals exact ⟨H, K, nb, sp, l, pk, ks, _, S2, hd2, hF, hx3, hnx, h2⟩
        rw [b2i_f (fun q => c (hpx.mp q))]
        clear ih h hE hM hI hB hF hSg hKM z hE2 hpx hpin hM2
        refine go_X10_explainFrom hr (ct := fun p => p == 47 || p == 54) 10 ?_
        simp only [oI, oL, oR, o1, lI, lL, lR, popN, catS, gv, stL, stL2, swt, cnd, spObj, List.getElem?_cons_zero, List.getElem?_cons_succ, List.getD_cons_zero, List.getD_cons_succ, List.set_cons_zero, List.set_cons_succ, List.nil_append, List.cons_append, Option.toList, Bool.or_false, Bool.false_or, Bool.or_true, Bool.true_or, Nat.reduceBEq, Nat.reduceAdd, Nat.reduceLT, Nat.reduceLeDiff, Int.reduceAdd, Int.reduceToNat, true_and, and_true, Fin.isValue, Fin.val_zero, Fin.val_one, Fin.val_two, Fin.reduceFinMk, eq_self, Int.reduceNeg, imp_self, Nat.reduceMul, Nat.le_refl, not_true_eq_false, not_false_eq_true, List.getElem?_nil, reduceCtorEq, true_or, or_true, Classical.not_not, implies_true, or_self, wI_0, wI_1, wI_m1, b2i_w, b2i_eq0, b2i_eq1, b2i_bool, nor_self, nx_pI, kd_pI, ln_pI, fI_pI, fL_pI, fR_pI, aI_pI, aL_pI, aR_pI, nx_pL, kd_pL, ln_pL, fI_pL, fL_pL, fR_pL, aI_pL, aL_pL, aR_pL, nx_pR, kd_pR, ln_pR, fI_pR, fL_pR, fR_pR, aI_pR, aL_pR, aR_pR, nx_qI, kd_qI, ln_qI, fI_qI, fL_qI, fR_qI, aI_qI, aL_qI, aR_qI, nx_qL, kd_qL, ln_qL, fI_qL, fL_qL, fR_qL, aI_qL, aL_qL, aR_qL, nx_qR, kd_qR, ln_qR, fI_qR, fL_qR, fR_qR, aI_qR, aL_qR, aR_qR, nx_mk, kd_mk, ln_mk, fI_mk, fL_mk, fR_mk, aI_mk, aL_mk, aR_mk, false_and, and_false, if_false, if_true, and_self, Int.reduceEq, Nat.reduceEqDiff, ite_self, MLay_pI, MLay_pL, MLay_qI, MLay_qL, ev_X10_explainFrom_44, xt_X10_explainFrom, xf_X10_explainFrom, us_X10_firstOpen, us_Jx4a65c_size_8abf5, us_X10_isPicked]
        repeat' (first | intro z | apply And.intro)
        all_goals try omega
        all_goals try contradiction
        all_goals exact w50
    have hd3 : 0 ≤ dep ∧ dep ≤ 3 := by omega
    have hx12 : 0 ≤ x ∧ x < 12 := by omega
    clear ih h hE hM hI hB hF hSg hKM z hE2 hpx hM2
    refine go_X10_explainFrom hr (ct := fun p => p == 44 || p == 60) 20 ?_
    simp only [oI, oL, oR, o1, lI, lL, lR, popN, catS, gv, stL, stL2, swt, cnd, spObj, List.getElem?_cons_zero, List.getElem?_cons_succ, List.getD_cons_zero, List.getD_cons_succ, List.set_cons_zero, List.set_cons_succ, List.nil_append, List.cons_append, Option.toList, Bool.or_false, Bool.false_or, Bool.or_true, Bool.true_or, Nat.reduceBEq, Nat.reduceAdd, Nat.reduceLT, Nat.reduceLeDiff, Int.reduceAdd, Int.reduceToNat, true_and, and_true, Fin.isValue, Fin.val_zero, Fin.val_one, Fin.val_two, Fin.reduceFinMk, eq_self, Int.reduceNeg, imp_self, Nat.reduceMul, Nat.le_refl, not_true_eq_false, not_false_eq_true, List.getElem?_nil, reduceCtorEq, true_or, or_true, Classical.not_not, implies_true, or_self, wI_0, wI_1, wI_m1, b2i_w, b2i_eq0, b2i_eq1, b2i_bool, nor_self, nx_pI, kd_pI, ln_pI, fI_pI, fL_pI, fR_pI, aI_pI, aL_pI, aR_pI, nx_pL, kd_pL, ln_pL, fI_pL, fL_pL, fR_pL, aI_pL, aL_pL, aR_pL, nx_pR, kd_pR, ln_pR, fI_pR, fL_pR, fR_pR, aI_pR, aL_pR, aR_pR, nx_qI, kd_qI, ln_qI, fI_qI, fL_qI, fR_qI, aI_qI, aL_qI, aR_qI, nx_qL, kd_qL, ln_qL, fI_qL, fL_qL, fR_qL, aI_qL, aL_qL, aR_qL, nx_qR, kd_qR, ln_qR, fI_qR, fL_qR, fR_qR, aI_qR, aL_qR, aR_qR, nx_mk, kd_mk, ln_mk, fI_mk, fL_mk, fR_mk, aI_mk, aL_mk, aR_mk, false_and, and_false, if_false, if_true, and_self, Int.reduceEq, Nat.reduceEqDiff, ite_self, MLay_pI, MLay_pL, MLay_qI, MLay_qL, ev_X10_explainFrom_27, ev_X10_explainFrom_28, ev_X10_explainFrom_29, ev_X10_explainFrom_32, ev_X10_explainFrom_35, ev_X10_explainFrom_38, ev_X10_explainFrom_39, ev_X10_explainFrom_40, ev_X10_explainFrom_41, xt_X10_explainFrom, xf_X10_explainFrom, us_X10_firstOpen, us_Jx4a65c_size_8abf5, us_X10_isPicked, k4, hC, hlp, hg1, hg2, hg3, hsz, hd3, hx12]
    try simp (disch := omega) only [wI_id, dv_nn, rm_nn]
    repeat' (first | intro z | apply And.intro)
    all_goals try omega
    all_goals try contradiction
    all_goals first | exact w47 | exact (hpin _ ‹_› ‹_›).1 | exact (hpin _ ‹_› ‹_›).2 | omega

set_option maxRecDepth 20000 in
theorem cr_X10_explainFrom {d : Nat} (hr : HR_X10_explainFrom d) : Ct yX10_explainFrom cX10_explainFrom 4 ((none : Option FieldType)) (3*d+11) 0 0 (sp_X10_explainFrom d) := by
  refine Ct.go (M := M_X10_explainFrom d) (mm_X10_explainFrom hr) fun av σ Q h0 => ?_
  obtain ⟨this, dep, rfl, hk, h⟩ := el_X10_explainFrom d h0
  clear h0
  refine ⟨Nat.le_of_ble_eq_true rfl, ?_⟩
  show Go (M_X10_explainFrom d) Q 0 [some (vr this), some (vi dep), none, none] [] σ (0, 0)
  obtain ⟨rfl, H, K, nb, sp, l, pk, ks, S, hS, hd, h⟩ := h
  obtain ⟨hE, hpl, hM, hI, hB, hKM, hSg⟩ := hS
  have hdep : 0 ≤ dep := by omega
  have hC := hE.1
  have hsz := hE.2.2.2.2.2.2.2.1
  have hsp := hE.2.2.2.2.2.2.1
  have hnb := hE.2.2.2.2.2.1
  obtain ⟨d0, hd0⟩ : ∃ d0, d = d0 + 1 := ⟨d - 1, by omega⟩
  have w5a : ∀ f, (0 ≤ f ∧ f < 320) → (f < sp ∧ Opn H K pk f) → (∀ u, 0 ≤ u → u < f → ¬ (u < sp ∧ Opn H K pk u)) → Go (M_X10_explainFrom d) Q 5 [some (vr 4), some (vi dep), none, none] [vi f] σ (0, 0) := fun f f1 f2 f3 => by
    have hF : Fst H K sp pk f := ⟨⟨f1.1, f2.1⟩, f2.2, fun u a b c => f3 u a b ⟨by omega, c⟩⟩
    have w := ef_27 hr (Q := Q) (S := S) ⟨hd.1, hd.2, hdep⟩ hE hpl hM hI hB hF (fun σ' ks' y1 y2 y3 => h σ' ks' y1 y2 (y3.congr (fun k => by
      subst hd0
      constructor
      · rintro (u | ⟨p, a, b⟩)
        · exact Or.inl u
        · exact Or.inr ⟨f, hF, p, a, b⟩
      · rintro (u | ⟨f', hF', p, a, b⟩)
        · exact Or.inl u
        · have e : f' = f := by
            by_cases q1 : f' < f
            · exact absurd hF'.2.1 (hF.2.2 f' hF'.1.1 q1)
            · by_cases q2 : f < f'
              · exact absurd hF.2.1 (hF'.2.2 f hF.1.1 q2)
              · omega
          rw [e] at a
          exact Or.inr ⟨p, a, b⟩))) nb.toNat 0 σ ks (by omega) (by omega) (FzD.rf _ _) hKM (hSg.congr (fun k => ⟨Or.inl, fun y => y.elim id (fun ⟨p, a, b⟩ => by have := b.1.1; omega)⟩))
    clear h hE hM hI hB hSg hKM hF f2 f3
    refine go_X10_explainFrom hr (ct := fun p => p == 24 || p == 27) 20 ?_
    simp only [oI, oL, oR, o1, lI, lL, lR, popN, catS, gv, stL, stL2, swt, cnd, spObj, List.getElem?_cons_zero, List.getElem?_cons_succ, List.getD_cons_zero, List.getD_cons_succ, List.set_cons_zero, List.set_cons_succ, List.nil_append, List.cons_append, Option.toList, Bool.or_false, Bool.false_or, Bool.or_true, Bool.true_or, Nat.reduceBEq, Nat.reduceAdd, Nat.reduceLT, Nat.reduceLeDiff, Int.reduceAdd, Int.reduceToNat, true_and, and_true, Fin.isValue, Fin.val_zero, Fin.val_one, Fin.val_two, Fin.reduceFinMk, eq_self, Int.reduceNeg, imp_self, Nat.reduceMul, Nat.le_refl, not_true_eq_false, not_false_eq_true, List.getElem?_nil, reduceCtorEq, true_or, or_true, Classical.not_not, implies_true, or_self, wI_0, wI_1, wI_m1, b2i_w, b2i_eq0, b2i_eq1, b2i_bool, nor_self, nx_pI, kd_pI, ln_pI, fI_pI, fL_pI, fR_pI, aI_pI, aL_pI, aR_pI, nx_pL, kd_pL, ln_pL, fI_pL, fL_pL, fR_pL, aI_pL, aL_pL, aR_pL, nx_pR, kd_pR, ln_pR, fI_pR, fL_pR, fR_pR, aI_pR, aL_pR, aR_pR, nx_qI, kd_qI, ln_qI, fI_qI, fL_qI, fR_qI, aI_qI, aL_qI, aR_qI, nx_qL, kd_qL, ln_qL, fI_qL, fL_qL, fR_qL, aI_qL, aL_qL, aR_qL, nx_qR, kd_qR, ln_qR, fI_qR, fL_qR, fR_qR, aI_qR, aL_qR, aR_qR, nx_mk, kd_mk, ln_mk, fI_mk, fL_mk, fR_mk, aI_mk, aL_mk, aR_mk, false_and, and_false, if_false, if_true, and_self, Int.reduceEq, Nat.reduceEqDiff, ite_self, MLay_pI, MLay_pL, MLay_qI, MLay_qL, ev_X10_explainFrom_5, ev_X10_explainFrom_6, ev_X10_explainFrom_7, ev_X10_explainFrom_8, ev_X10_explainFrom_11, ev_X10_explainFrom_12, ev_X10_explainFrom_13, ev_X10_explainFrom_16, ev_X10_explainFrom_19, ev_X10_explainFrom_20, ev_X10_explainFrom_21, ev_X10_explainFrom_24, ev_X10_explainFrom_25, ev_X10_explainFrom_26, xt_X10_explainFrom, xf_X10_explainFrom, us_X10_firstOpen, us_Jx4a65c_size_8abf5, us_X10_isPicked, hk, hsz]
    try simp (disch := omega) only [wI_id, dv_nn, rm_nn]
    repeat' (first | intro z | apply And.intro)
    all_goals try omega
    all_goals try contradiction
    all_goals exact w
  have w5b : (∀ u, 0 ≤ u → u < 320 → ¬ (u < sp ∧ Opn H K pk u)) → Go (M_X10_explainFrom d) Q 5 [some (vr 4), some (vi dep), none, none] [vi (-1)] σ (0, 0) := fun q => by
    have h := h σ ks (FzD.rf _ _) hKM (hSg.congr (fun k => ⟨Or.inl, fun y => y.elim id (fun e => by
      subst hd0
      obtain ⟨f, hF, -⟩ := e
      exact absurd ⟨hF.1.2, hF.2.1⟩ (q f hF.1.1 (by have := hF.1.2; omega)))⟩))
    clear hE hM hI hB hSg hKM w5a q
    refine go_X10_explainFrom hr (ct := fun p => p == 11 || p == 25) 20 ?_
    simp only [oI, oL, oR, o1, lI, lL, lR, popN, catS, gv, stL, stL2, swt, cnd, spObj, List.getElem?_cons_zero, List.getElem?_cons_succ, List.getD_cons_zero, List.getD_cons_succ, List.set_cons_zero, List.set_cons_succ, List.nil_append, List.cons_append, Option.toList, Bool.or_false, Bool.false_or, Bool.or_true, Bool.true_or, Nat.reduceBEq, Nat.reduceAdd, Nat.reduceLT, Nat.reduceLeDiff, Int.reduceAdd, Int.reduceToNat, true_and, and_true, Fin.isValue, Fin.val_zero, Fin.val_one, Fin.val_two, Fin.reduceFinMk, eq_self, Int.reduceNeg, imp_self, Nat.reduceMul, Nat.le_refl, not_true_eq_false, not_false_eq_true, List.getElem?_nil, reduceCtorEq, true_or, or_true, Classical.not_not, implies_true, or_self, wI_0, wI_1, wI_m1, b2i_w, b2i_eq0, b2i_eq1, b2i_bool, nor_self, nx_pI, kd_pI, ln_pI, fI_pI, fL_pI, fR_pI, aI_pI, aL_pI, aR_pI, nx_pL, kd_pL, ln_pL, fI_pL, fL_pL, fR_pL, aI_pL, aL_pL, aR_pL, nx_pR, kd_pR, ln_pR, fI_pR, fL_pR, fR_pR, aI_pR, aL_pR, aR_pR, nx_qI, kd_qI, ln_qI, fI_qI, fL_qI, fR_qI, aI_qI, aL_qI, aR_qI, nx_qL, kd_qL, ln_qL, fI_qL, fL_qL, fR_qL, aI_qL, aL_qL, aR_qL, nx_qR, kd_qR, ln_qR, fI_qR, fL_qR, fR_qR, aI_qR, aL_qR, aR_qR, nx_mk, kd_mk, ln_mk, fI_mk, fL_mk, fR_mk, aI_mk, aL_mk, aR_mk, false_and, and_false, if_false, if_true, and_self, Int.reduceEq, Nat.reduceEqDiff, ite_self, MLay_pI, MLay_pL, MLay_qI, MLay_qL, ev_X10_explainFrom_5, ev_X10_explainFrom_6, ev_X10_explainFrom_7, ev_X10_explainFrom_8, ev_X10_explainFrom_11, ev_X10_explainFrom_12, ev_X10_explainFrom_13, ev_X10_explainFrom_16, ev_X10_explainFrom_19, ev_X10_explainFrom_20, ev_X10_explainFrom_21, ev_X10_explainFrom_24, xt_X10_explainFrom, xf_X10_explainFrom, us_X10_firstOpen, us_Jx4a65c_size_8abf5, us_X10_isPicked]
    try simp (disch := omega) only [wI_id, dv_nn, rm_nn]
    repeat' (first | intro z | apply And.intro)
    all_goals try omega
    all_goals try contradiction
    all_goals exact h
  have hd4 : 0 ≤ dep ∧ dep < 4 := by omega
  clear h hE hM hI hSg hKM
  refine go_X10_explainFrom hr (ct := fun p => p == 5) 20 ?_
  simp only [oI, oL, oR, o1, lI, lL, lR, popN, catS, gv, stL, stL2, swt, cnd, spObj, List.getElem?_cons_zero, List.getElem?_cons_succ, List.getD_cons_zero, List.getD_cons_succ, List.set_cons_zero, List.set_cons_succ, List.nil_append, List.cons_append, Option.toList, Bool.or_false, Bool.false_or, Bool.or_true, Bool.true_or, Nat.reduceBEq, Nat.reduceAdd, Nat.reduceLT, Nat.reduceLeDiff, Int.reduceAdd, Int.reduceToNat, true_and, and_true, Fin.isValue, Fin.val_zero, Fin.val_one, Fin.val_two, Fin.reduceFinMk, eq_self, Int.reduceNeg, imp_self, Nat.reduceMul, Nat.le_refl, not_true_eq_false, not_false_eq_true, List.getElem?_nil, reduceCtorEq, true_or, or_true, Classical.not_not, implies_true, or_self, wI_0, wI_1, wI_m1, b2i_w, b2i_eq0, b2i_eq1, b2i_bool, nor_self, nx_pI, kd_pI, ln_pI, fI_pI, fL_pI, fR_pI, aI_pI, aL_pI, aR_pI, nx_pL, kd_pL, ln_pL, fI_pL, fL_pL, fR_pL, aI_pL, aL_pL, aR_pL, nx_pR, kd_pR, ln_pR, fI_pR, fL_pR, fR_pR, aI_pR, aL_pR, aR_pR, nx_qI, kd_qI, ln_qI, fI_qI, fL_qI, fR_qI, aI_qI, aL_qI, aR_qI, nx_qL, kd_qL, ln_qL, fI_qL, fL_qL, fR_qL, aI_qL, aL_qL, aR_qL, nx_qR, kd_qR, ln_qR, fI_qR, fL_qR, fR_qR, aI_qR, aL_qR, aR_qR, nx_mk, kd_mk, ln_mk, fI_mk, fL_mk, fR_mk, aI_mk, aL_mk, aR_mk, false_and, and_false, if_false, if_true, and_self, Int.reduceEq, Nat.reduceEqDiff, ite_self, MLay_pI, MLay_pL, MLay_qI, MLay_qL, ev_X10_explainFrom_0, ev_X10_explainFrom_1, ev_X10_explainFrom_2, xt_X10_explainFrom, xf_X10_explainFrom, us_X10_firstOpen, us_Jx4a65c_size_8abf5, us_X10_isPicked, hk, hC, hd4]
  repeat' (first | intro z | apply And.intro)
  all_goals try omega
  all_goals try contradiction
  all_goals exact ⟨_, hB, w5a, w5b⟩

theorem sp_eb_no (av : List AV) (σ : Hp) (Q : Option AV → Hp → Prop) : ¬ sp_X10_explainBy 0 av σ Q := fun h => by
  obtain ⟨this, x, f, dep, rfl, -, -, H, K, nb, sp, l, pk, ks, S, -, hd, -⟩ := el_X10_explainBy 0 h
  omega
theorem sp_ef_no (av : List AV) (σ : Hp) (Q : Option AV → Hp → Prop) : ¬ sp_X10_explainFrom 0 av σ Q := fun h => by
  obtain ⟨this, dep, rfl, -, -, H, K, nb, sp, l, pk, ks, S, -, hd, -⟩ := el_X10_explainFrom 0 h
  omega
theorem se_all : ∀ d : Nat, HR_X10_goOn d
  | 0 => Ct.no sp_ef_no
  | d + 1 => by
    have hg : HR_X10_explainBy (d + 1) := cr_X10_goOn (se_all d)
    have hb : HR_X10_explainFrom (d + 1) := cr_X10_explainBy hg
    exact cr_X10_explainFrom hb
theorem c_X10_explainFrom (d : Nat) : Ct yX10_explainFrom cX10_explainFrom 4 none (3 * d + 11) 0 0 (sp_X10_explainFrom d) := se_all d
