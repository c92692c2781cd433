/-! the class: a reading: what explains a tick -/

theorem lpx {σ : Hp} (hC : CLay σ) {l : Int} (hl : 0 ≤ l ∧ l < 4) : kd σ (45 + 4 * l) = 10 ∧ fR σ 1000 (45 + 4 * l) = 46 + 4 * l ∧ kd σ (46 + 4 * l) = 14 := by
  have : l = 0 ∨ l = 1 ∨ l = 2 ∨ l = 3 := by omega
  rcases this with rfl | rfl | rfl | rfl <;> simp only [hC.eqs, Int.reduceAdd, Int.reduceMul, and_self]
theorem eb_set {x st p k : Int} {C : Int → Prop} {F : Int → Int → Prop} (hp : p / 300 = x ∧ p % 300 = st) : (∃ q, (q / 300 = x ∧ st - 1 < q % 300) ∧ C q ∧ F q k) ↔ ((∃ q, (q / 300 = x ∧ st < q % 300) ∧ C q ∧ F q k) ∨ (C p ∧ F p k)) := by
  constructor
  · rintro ⟨q, ⟨h1, h2⟩, h3⟩
    by_cases e : q % 300 = st
    · have : q = p := by omega
      rw [this] at h3
      exact Or.inr h3
    · exact Or.inl ⟨q, ⟨h1, by omega⟩, h3⟩
  · rintro (⟨q, ⟨h1, h2⟩, h3⟩ | h)
    · exact ⟨q, ⟨h1, by omega⟩, h3⟩
    · exact ⟨p, ⟨hp.1, by omega⟩, h⟩

set_option maxRecDepth 20000 in
theorem eb_114 {d : Nat} (hr : HR_X10_explainBy d) {Q : Option AV → Hp → Prop} {ρ : Hp} {x f dep box st : Int} (h : Go (M_X10_explainBy d) Q 41 [some (vr 4), some (vi x), some (vi f), some (vi dep), some (vr box), some (vi (st - 1))] [] ρ (0, 0)) : Go (M_X10_explainBy d) Q 112 [some (vr 4), some (vi x), some (vi f), some (vi dep), some (vr box), some (vi st)] [] ρ (0, 0) := by
  have e : st - 1 = st + -1 := by omega
  rw [e] at h
  refine go_X10_explainBy hr (ct := fun p => p == 41) 10 ?_
  simp only [oI, oL, oR, o1, lI, lL, lR, popN, catS, gv, stL, stL2, swt, cnd, spObj, List.getElem?_cons_zero, List.getElem?_cons_succ, List.getD_cons_zero, List.getD_cons_succ, List.set_cons_zero, List.set_cons_succ, List.nil_append, List.cons_append, Option.toList, Bool.or_false, Bool.false_or, Bool.or_true, Bool.true_or, Nat.reduceBEq, Nat.reduceAdd, Nat.reduceLT, Nat.reduceLeDiff, Int.reduceAdd, Int.reduceToNat, true_and, and_true, Fin.isValue, Fin.val_zero, Fin.val_one, Fin.val_two, Fin.reduceFinMk, eq_self, Int.reduceNeg, imp_self, Nat.reduceMul, Nat.le_refl, not_true_eq_false, not_false_eq_true, List.getElem?_nil, reduceCtorEq, true_or, or_true, Classical.not_not, implies_true, or_self, wI_0, wI_1, wI_m1, b2i_w, b2i_eq0, b2i_eq1, b2i_bool, nor_self, nx_pI, kd_pI, ln_pI, fI_pI, fL_pI, fR_pI, aI_pI, aL_pI, aR_pI, nx_pL, kd_pL, ln_pL, fI_pL, fL_pL, fR_pL, aI_pL, aL_pL, aR_pL, nx_pR, kd_pR, ln_pR, fI_pR, fL_pR, fR_pR, aI_pR, aL_pR, aR_pR, nx_qI, kd_qI, ln_qI, fI_qI, fL_qI, fR_qI, aI_qI, aL_qI, aR_qI, nx_qL, kd_qL, ln_qL, fI_qL, fL_qL, fR_qL, aI_qL, aL_qL, aR_qL, nx_qR, kd_qR, ln_qR, fI_qR, fL_qR, fR_qR, aI_qR, aL_qR, aR_qR, nx_mk, kd_mk, ln_mk, fI_mk, fL_mk, fR_mk, aI_mk, aL_mk, aR_mk, false_and, and_false, if_false, if_true, and_self, Int.reduceEq, Nat.reduceEqDiff, ite_self, MLay_pI, MLay_pL, MLay_qI, MLay_qL, ev_X10_explainBy_112, ev_X10_explainBy_115, xt_X10_explainBy, xf_X10_explainBy, us_Jx4a65c_size_8abf5, us_Jx4a65c_get_915e3, us_X2_knocksBehind, us_X10_fits, us_X10_strikeOut]
  exact h

set_option maxRecDepth 20000 in
theorem eb_83 {d : Nat} (hr : HR_X10_explainBy d) {Q : Option AV → Hp → Prop} {ρ : Hp} {H : Int → Prop} {K : Int → Int → Prop} {nb sp l x f dep box st : Int} {pk ks : List Int} {S : Int → Prop} (hd : 0 < d ∧ dep + d ≤ 3 ∧ 0 ≤ dep) (hS : SeS H K nb sp l (dep + d) pk ks S dep ρ) (hx : 0 ≤ x ∧ x < nb) (hnx : ∀ a ∈ pk, a / 300 ≠ x) (hst : 0 ≤ st ∧ st < 300) (hbox : lat ρ (46 + 4 * l) x = box) (hK : ∀ u, whl ρ box (u - st) = true ↔ K (300 * x + st) u) (h : ∀ σ' ks', FzD dep ρ σ' → KM σ' ks' → SgK (fun k => S k ∨ FdS H K nb sp (d - 1) (pk ++ [300 * x + st]) k) ks' → Go (M_X10_explainBy d) Q 112 [some (vr 4), some (vi x), some (vi f), some (vi dep), some (vr box), some (vi st)] [] σ' (0, 0)) : Go (M_X10_explainBy d) Q 81 [some (vr 4), some (vi x), some (vi f), some (vi dep), some (vr box), some (vi st)] [] ρ (0, 0) := by
  obtain ⟨hE, hpl, hM, hI, hB, hKM, hSg⟩ := hS
  have hC := hE.1
  have k4 : kd ρ 4 = 11 := by simp only [hC.eqs]
  have hkb : kd ρ box = 3 := by
    rw [← hbox]
    exact hE.2.2.2.1.2.2.2.2.2 x hx.1 (by rw [hE.2.2.2.2.1]; exact hx.2)
  have y1 : FzD dep ρ (qI (qI ρ 12 dep x) 13 dep st) := ⟨(Fz_qI (fs := seF) (ars := seA) (als := seL) _ _ _ (Or.inl rfl)).tr (Fz_qI _ _ _ (Or.inr rfl)), fun i a b => by
    rw [aI_qI, if_neg (by omega), aI_qI, if_neg (by omega), aI_qI, if_neg (by omega), aI_qI, if_neg (by omega)]
    exact ⟨rfl, rfl⟩, fun r a b => rfl⟩
  have E1 := hE.fz y1.1
  have C1 := E1.1
  have M1 := hM.fz (by rw [hpl]; exact y1)
  have q1 : aI (qI (qI ρ 12 dep x) 13 dep st) 12 dep = x := by rw [aI_qI, if_neg (by omega), aI_qI, if_pos ⟨rfl, rfl⟩]
  have q2 : aI (qI (qI ρ 12 dep x) 13 dep st) 13 dep = st := by rw [aI_qI, if_pos ⟨rfl, rfl⟩]
  have B1 : aL (qI (qI ρ 12 dep x) 13 dep st) (8 + dep) = aL ρ (8 + dep) := rfl
  have w1 : ∀ o, whl (qI (qI ρ 12 dep x) 13 dep st) box o = whl ρ box o := fun _ => rfl
  have k1 : kd (qI (qI ρ 12 dep x) 13 dep st) 4 = 11 := k4
  have kb1 : kd (qI (qI ρ 12 dep x) 13 dep st) box = 3 := hkb
  have KM1 : KM (qI (qI ρ 12 dep x) 13 dep st) ks := hKM
  have w98 : Go (M_X10_explainBy d) Q 96 [some (vr 4), some (vi x), some (vi f), some (vi dep), some (vr box), some (vi st)] [] (qI (qI ρ 12 dep x) 13 dep st) (0, 0) := by
    generalize qI (qI ρ 12 dep x) 13 dep st = ρ1 at *
    have w107 : ∀ ρ2, Fz [] noR (fun r => r = 8 + (dep + 1)) ρ1 ρ2 → (∀ w, 0 ≤ w → w < 5 → ∀ j : Nat, j < 64 → (aL ρ2 (8 + (dep + 1)) w).getLsbD j = ((aL ρ1 (8 + dep) w).getLsbD j && !whl ρ1 box (64 * w + j - st))) → Go (M_X10_explainBy d) Q 105 [some (vr 4), some (vi x), some (vi f), some (vi dep), some (vr box), some (vi st)] [] ρ2 (0, 0) := fun ρ2 z zb => by
      have y2 : FzD dep ρ1 ρ2 := ⟨z.up (fun f q => absurd q List.not_mem_nil) (fun r q => absurd q id) (fun r q => Or.inr (by omega)), fun i a b => by rw [z.aI (fun q => q), z.aI (fun q => q)]; exact ⟨rfl, rfl⟩, fun r a b => z.aL (by omega)⟩
      have k2 : kd ρ2 4 = 11 := by rw [z.kd]; exact k1
      have e9 : dep + 1 + ((d - 1 : Nat) : Int) = dep + d := by omega
      have S2 : SeS H K nb sp l (dep + 1 + ((d - 1 : Nat) : Int)) (pk ++ [300 * x + st]) ks S (dep + 1) ρ2 := by
        refine ⟨by rw [e9]; exact E1.fz y2.1, by rw [List.length_append, List.length_singleton]; omega, fun i p hi => ?_, ⟨fun p hp => ?_, ?_⟩, fun w a b j hj => ?_, ?_, hSg⟩
        · rw [z.aI (fun q => q), z.aI (fun q => q)]
          rw [List.getElem?_append] at hi
          by_cases c : i < pk.length
          · rw [if_pos c] at hi
            exact M1 i p hi
          · rw [if_neg c] at hi
            have hi2 := (List.getElem?_eq_some_iff.mp hi).1
            rw [List.length_singleton] at hi2
            have e0 : i - pk.length = 0 := by omega
            rw [e0] at hi
            have hi : some (300 * x + st) = some p := hi
            cases hi
            have ei : (i : Int) = dep := by omega
            rw [ei, q1, q2]
            omega
        · rcases List.mem_append.mp hp with q | q
          · exact hI.1 p q
          · rw [List.mem_singleton.mp q]; omega
        · rw [List.pairwise_append]
          exact ⟨hI.2, List.pairwise_singleton _ _, fun a ha b hb => by rw [List.mem_singleton.mp hb, show (300 * x + st) / 300 = x by omega]; exact hnx a ha⟩
        · rw [zb w a b j hj, B1, w1, Bool.and_eq_true, hB w a b j hj]
          have hk := hK (64 * w + j)
          constructor
          · rintro ⟨⟨p1, p2, p3⟩, p4⟩
            refine ⟨p1, p2, fun y hy => ?_⟩
            rcases List.mem_append.mp hy with q | q
            · exact p3 y q
            · rw [List.mem_singleton.mp q]
              intro kk
              rw [hk.mpr kk] at p4
              cases p4
          · rintro ⟨p1, p2, p3⟩
            refine ⟨⟨p1, p2, fun y hy => p3 y (List.mem_append_left _ hy)⟩, ?_⟩
            cases e : whl ρ box (64 * w + j - st) with
            | false => rfl
            | true => exact absurd (hk.mp e) (p3 _ (List.mem_append_right _ List.mem_cons_self))
        · obtain ⟨a1, a2, a3⟩ := KM1
          exact ⟨by rw [z.fI (by decide)]; exact a1, a2, fun i k hi => by rw [z.aL (by omega)]; exact a3 i k hi⟩
      have hd2 : dep + 1 + ((d - 1 : Nat) : Int) ≤ 3 := by omega
      have h2 : ∀ σ' ks', FzD (dep + 1) ρ2 σ' → KM σ' ks' → SgK (fun k => S k ∨ FdS H K nb sp (d - 1) (pk ++ [300 * x + st]) k) ks' → Go (M_X10_explainBy d) Q 112 [some (vr 4), some (vi x), some (vi f), some (vi dep), some (vr box), some (vi st)] [] σ' (0, 0) := fun σ' ks' a b c => h σ' ks' ((y1.tr y2).tr a.dn) b c
      have hd0 := hd.1
      clear h hE hM hB hKM hSg zb z y1 y2 E1 M1 KM1 hK w1
      refine go_X10_explainBy hr (ct := fun p => p == 112) 10 ?_
      simp only [oI, oL, oR, o1, lI, lL, lR, popN, catS, gv, stL, stL2, swt, cnd, spObj, List.getElem?_cons_zero, List.getElem?_cons_succ, List.getD_cons_zero, List.getD_cons_succ, List.set_cons_zero, List.set_cons_succ, List.nil_append, List.cons_append, Option.toList, Bool.or_false, Bool.false_or, Bool.or_true, Bool.true_or, Nat.reduceBEq, Nat.reduceAdd, Nat.reduceLT, Nat.reduceLeDiff, Int.reduceAdd, Int.reduceToNat, true_and, and_true, Fin.isValue, Fin.val_zero, Fin.val_one, Fin.val_two, Fin.reduceFinMk, eq_self, Int.reduceNeg, imp_self, Nat.reduceMul, Nat.le_refl, not_true_eq_false, not_false_eq_true, List.getElem?_nil, reduceCtorEq, true_or, or_true, Classical.not_not, implies_true, or_self, wI_0, wI_1, wI_m1, b2i_w, b2i_eq0, b2i_eq1, b2i_bool, nor_self, nx_pI, kd_pI, ln_pI, fI_pI, fL_pI, fR_pI, aI_pI, aL_pI, aR_pI, nx_pL, kd_pL, ln_pL, fI_pL, fL_pL, fR_pL, aI_pL, aL_pL, aR_pL, nx_pR, kd_pR, ln_pR, fI_pR, fL_pR, fR_pR, aI_pR, aL_pR, aR_pR, nx_qI, kd_qI, ln_qI, fI_qI, fL_qI, fR_qI, aI_qI, aL_qI, aR_qI, nx_qL, kd_qL, ln_qL, fI_qL, fL_qL, fR_qL, aI_qL, aL_qL, aR_qL, nx_qR, kd_qR, ln_qR, fI_qR, fL_qR, fR_qR, aI_qR, aL_qR, aR_qR, nx_mk, kd_mk, ln_mk, fI_mk, fL_mk, fR_mk, aI_mk, aL_mk, aR_mk, false_and, and_false, if_false, if_true, and_self, Int.reduceEq, Nat.reduceEqDiff, ite_self, MLay_pI, MLay_pL, MLay_qI, MLay_qL, ev_X10_explainBy_105, ev_X10_explainBy_106, ev_X10_explainBy_107, ev_X10_explainBy_108, ev_X10_explainBy_109, xt_X10_explainBy, xf_X10_explainBy, us_Jx4a65c_size_8abf5, us_Jx4a65c_get_915e3, us_X2_knocksBehind, us_X10_fits, us_X10_strikeOut, us_X10_goOn, k2]
      repeat' (first | intro z | apply And.intro)
      all_goals try omega
      all_goals try contradiction
      all_goals exact ⟨H, K, nb, sp, l, _, ks, S, S2, hd2, h2⟩
    have hst3 : 0 ≤ dep ∧ dep < 3 := by omega
    clear h hE hM hB hKM hSg E1 M1 KM1 hK w1 hI
    refine go_X10_explainBy hr (ct := fun p => p == 105) 10 ?_
    simp only [oI, oL, oR, o1, lI, lL, lR, popN, catS, gv, stL, stL2, swt, cnd, spObj, List.getElem?_cons_zero, List.getElem?_cons_succ, List.getD_cons_zero, List.getD_cons_succ, List.set_cons_zero, List.set_cons_succ, List.nil_append, List.cons_append, Option.toList, Bool.or_false, Bool.false_or, Bool.or_true, Bool.true_or, Nat.reduceBEq, Nat.reduceAdd, Nat.reduceLT, Nat.reduceLeDiff, Int.reduceAdd, Int.reduceToNat, true_and, and_true, Fin.isValue, Fin.val_zero, Fin.val_one, Fin.val_two, Fin.reduceFinMk, eq_self, Int.reduceNeg, imp_self, Nat.reduceMul, Nat.le_refl, not_true_eq_false, not_false_eq_true, List.getElem?_nil, reduceCtorEq, true_or, or_true, Classical.not_not, implies_true, or_self, wI_0, wI_1, wI_m1, b2i_w, b2i_eq0, b2i_eq1, b2i_bool, nor_self, nx_pI, kd_pI, ln_pI, fI_pI, fL_pI, fR_pI, aI_pI, aL_pI, aR_pI, nx_pL, kd_pL, ln_pL, fI_pL, fL_pL, fR_pL, aI_pL, aL_pL, aR_pL, nx_pR, kd_pR, ln_pR, fI_pR, fL_pR, fR_pR, aI_pR, aL_pR, aR_pR, nx_qI, kd_qI, ln_qI, fI_qI, fL_qI, fR_qI, aI_qI, aL_qI, aR_qI, nx_qL, kd_qL, ln_qL, fI_qL, fL_qL, fR_qL, aI_qL, aL_qL, aR_qL, nx_qR, kd_qR, ln_qR, fI_qR, fL_qR, fR_qR, aI_qR, aL_qR, aR_qR, nx_mk, kd_mk, ln_mk, fI_mk, fL_mk, fR_mk, aI_mk, aL_mk, aR_mk, false_and, and_false, if_false, if_true, and_self, Int.reduceEq, Nat.reduceEqDiff, ite_self, MLay_pI, MLay_pL, MLay_qI, MLay_qL, ev_X10_explainBy_96, ev_X10_explainBy_97, ev_X10_explainBy_99, ev_X10_explainBy_101, ev_X10_explainBy_102, xt_X10_explainBy, xf_X10_explainBy, us_Jx4a65c_size_8abf5, us_Jx4a65c_get_915e3, us_X2_knocksBehind, us_X10_fits, us_X10_strikeOut, k1, C1, kb1, hst, hst3]
    repeat' (first | intro z | apply And.intro)
    all_goals try omega
    all_goals try contradiction
    all_goals exact w107 _ ‹_› ‹_›
  clear h hE hM hB hKM hSg E1 M1 KM1 hK w1 hI y1
  refine go_X10_explainBy hr (ct := fun p => p == 96) 20 ?_
  simp only [oI, oL, oR, o1, lI, lL, lR, popN, catS, gv, stL, stL2, swt, cnd, spObj, List.getElem?_cons_zero, List.getElem?_cons_succ, List.getD_cons_zero, List.getD_cons_succ, List.set_cons_zero, List.set_cons_succ, List.nil_append, List.cons_append, Option.toList, Bool.or_false, Bool.false_or, Bool.or_true, Bool.true_or, Nat.reduceBEq, Nat.reduceAdd, Nat.reduceLT, Nat.reduceLeDiff, Int.reduceAdd, Int.reduceToNat, true_and, and_true, Fin.isValue, Fin.val_zero, Fin.val_one, Fin.val_two, Fin.reduceFinMk, eq_self, Int.reduceNeg, imp_self, Nat.reduceMul, Nat.le_refl, not_true_eq_false, not_false_eq_true, List.getElem?_nil, reduceCtorEq, true_or, or_true, Classical.not_not, implies_true, or_self, wI_0, wI_1, wI_m1, b2i_w, b2i_eq0, b2i_eq1, b2i_bool, nor_self, nx_pI, kd_pI, ln_pI, fI_pI, fL_pI, fR_pI, aI_pI, aL_pI, aR_pI, nx_pL, kd_pL, ln_pL, fI_pL, fL_pL, fR_pL, aI_pL, aL_pL, aR_pL, nx_pR, kd_pR, ln_pR, fI_pR, fL_pR, fR_pR, aI_pR, aL_pR, aR_pR, nx_qI, kd_qI, ln_qI, fI_qI, fL_qI, fR_qI, aI_qI, aL_qI, aR_qI, nx_qL, kd_qL, ln_qL, fI_qL, fL_qL, fR_qL, aI_qL, aL_qL, aR_qL, nx_qR, kd_qR, ln_qR, fI_qR, fL_qR, fR_qR, aI_qR, aL_qR, aR_qR, nx_mk, kd_mk, ln_mk, fI_mk, fL_mk, fR_mk, aI_mk, aL_mk, aR_mk, false_and, and_false, if_false, if_true, and_self, Int.reduceEq, Nat.reduceEqDiff, ite_self, MLay_pI, MLay_pL, MLay_qI, MLay_qL, ev_X10_explainBy_81, ev_X10_explainBy_82, ev_X10_explainBy_85, ev_X10_explainBy_86, ev_X10_explainBy_87, ev_X10_explainBy_88, ev_X10_explainBy_89, ev_X10_explainBy_92, ev_X10_explainBy_93, ev_X10_explainBy_95, xt_X10_explainBy, xf_X10_explainBy, us_Jx4a65c_size_8abf5, us_Jx4a65c_get_915e3, us_X2_knocksBehind, us_X10_fits, us_X10_strikeOut, k4, hC.eqs]
  try simp (disch := omega) only [wI_id, dv_nn, rm_nn]
  repeat' (first | intro z | apply And.intro)
  all_goals try omega
  all_goals try contradiction
  all_goals exact w98

set_option maxRecDepth 20000 in
theorem eb_43 {d : Nat} (hr : HR_X10_explainBy d) {Q : Option AV → Hp → Prop} {σ : Hp} {H : Int → Prop} {K : Int → Int → Prop} {nb sp l x f dep box : Int} {pk : List Int} {S : Int → Prop} (hd : 0 < d ∧ dep + d ≤ 3 ∧ 0 ≤ dep) (hE : RGe H K nb sp l (dep + d) σ) (hpl : (pk.length : Int) = dep) (hM : PkM σ pk) (hI : PkI nb pk) (hB : B64 (aL σ (8 + dep)) (fun u => u < sp ∧ Opn H K pk u)) (hF : Fst H K sp pk f) (hx : 0 ≤ x ∧ x < nb) (hnx : ∀ a ∈ pk, a / 300 ≠ x) (hbox : lat σ (46 + 4 * l) x = box) (h : ∀ σ' ks', FzD dep σ σ' → KM σ' ks' → SgK (fun k => S k ∨ ∃ p, p / 300 = x ∧ Cnd H K nb sp pk f p ∧ FdS H K nb sp (d - 1) (pk ++ [p]) k) ks' → Q none σ') : ∀ (m : Nat) (st : Int) (ρ : Hp) (ks : List Int), st = m - 1 → st ≤ f → FzD dep σ ρ → KM ρ ks → SgK (fun k => S k ∨ ∃ p, (p / 300 = x ∧ st < p % 300) ∧ Cnd H K nb sp pk f p ∧ FdS H K nb sp (d - 1) (pk ++ [p]) k) ks → Go (M_X10_explainBy d) Q 41 [some (vr 4), some (vi x), some (vi f), some (vi dep), some (vr box), some (vi st)] [] ρ (0, 0) := by
  intro m
  induction m with
  | zero =>
    intro st ρ ks hm hsf z hKM hSg
    have e : st = -1 := by omega
    have h := h ρ ks z hKM (hSg.congr (fun k => ⟨fun y => y.imp id (fun ⟨p, a, b⟩ => ⟨p, a.1, b⟩), fun y => y.imp id (fun ⟨p, a, b⟩ => ⟨p, ⟨a, by omega⟩, b⟩)⟩))
    subst e
    clear hE hM hI hB hF hnx hSg hKM z
    refine go_X10_explainBy hr (ct := fun p => p == 46) 10 ?_
    simp only [oI, oL, oR, o1, lI, lL, lR, popN, catS, gv, stL, stL2, swt, cnd, spObj, List.getElem?_cons_zero, List.getElem?_cons_succ, List.getD_cons_zero, List.getD_cons_succ, List.set_cons_zero, List.set_cons_succ, List.nil_append, List.cons_append, Option.toList, Bool.or_false, Bool.false_or, Bool.or_true, Bool.true_or, Nat.reduceBEq, Nat.reduceAdd, Nat.reduceLT, Nat.reduceLeDiff, Int.reduceAdd, Int.reduceToNat, true_and, and_true, Fin.isValue, Fin.val_zero, Fin.val_one, Fin.val_two, Fin.reduceFinMk, eq_self, Int.reduceNeg, imp_self, Nat.reduceMul, Nat.le_refl, not_true_eq_false, not_false_eq_true, List.getElem?_nil, reduceCtorEq, true_or, or_true, Classical.not_not, implies_true, or_self, wI_0, wI_1, wI_m1, b2i_w, b2i_eq0, b2i_eq1, b2i_bool, nor_self, nx_pI, kd_pI, ln_pI, fI_pI, fL_pI, fR_pI, aI_pI, aL_pI, aR_pI, nx_pL, kd_pL, ln_pL, fI_pL, fL_pL, fR_pL, aI_pL, aL_pL, aR_pL, nx_pR, kd_pR, ln_pR, fI_pR, fL_pR, fR_pR, aI_pR, aL_pR, aR_pR, nx_qI, kd_qI, ln_qI, fI_qI, fL_qI, fR_qI, aI_qI, aL_qI, aR_qI, nx_qL, kd_qL, ln_qL, fI_qL, fL_qL, fR_qL, aI_qL, aL_qL, aR_qL, nx_qR, kd_qR, ln_qR, fI_qR, fL_qR, fR_qR, aI_qR, aL_qR, aR_qR, nx_mk, kd_mk, ln_mk, fI_mk, fL_mk, fR_mk, aI_mk, aL_mk, aR_mk, false_and, and_false, if_false, if_true, and_self, Int.reduceEq, Nat.reduceEqDiff, ite_self, MLay_pI, MLay_pL, MLay_qI, MLay_qL, ev_X10_explainBy_41, ev_X10_explainBy_43, ev_X10_explainBy_118, xt_X10_explainBy, xf_X10_explainBy, us_Jx4a65c_size_8abf5, us_Jx4a65c_get_915e3, us_X2_knocksBehind, us_X10_fits, us_X10_strikeOut]
    try simp (disch := omega) only [wI_id, dv_nn, rm_nn]
    repeat' (first | intro z | apply And.intro)
    all_goals try omega
    all_goals try contradiction
    all_goals exact h
  | succ m ih =>
    intro st ρ ks hm hsf z hKM hSg
    have hsp := hE.2.2.2.2.2.2.1
    have hf := hF.1
    have hE2 := hE.fz z.1
    have hC := hE2.1
    have k4 : kd ρ 4 = 11 := by simp only [hC.eqs]
    have hbox2 : lat ρ (46 + 4 * l) x = box := by rw [lat_fz z.1 (by decide)]; exact hbox
    have hbx := hE2.2.2.2.2.2.2.2.2.2.2 x hx.1 hx.2
    rw [hbox2] at hbx
    have hkb : kd ρ box = 3 := by
      rw [← hbox2]
      exact hE2.2.2.2.1.2.2.2.2.2 x hx.1 (by rw [hE2.2.2.2.2.1]; exact hx.2)
    have hst : 0 ≤ st ∧ st < 300 := by omega
    have hp1 : (300 * x + st) / 300 = x ∧ (300 * x + st) % 300 = st := by omega
    have hK := fun u => hbx.2.1 st u hst.1 hst.2
    have hlen := hbx.1
    by_cases c1 : st ≤ f - fI ρ 309 box
    · have h := h ρ ks z hKM (hSg.congr (fun k => ⟨fun y => y.imp id (fun ⟨p, a, b⟩ => ⟨p, a.1, b⟩), fun y => y.imp id (fun ⟨p, a, b⟩ => ⟨p, ⟨a, by
        apply Decidable.byContradiction
        intro q
        have hc := b.1.1
        have e3 : 300 * x + p % 300 = p := by omega
        have kk := (hbx.2.1 (p % 300) f (by omega) (by omega)).mpr (by rw [e3]; exact b.1.2.2.1)
        have := hbx.2.2 _ kk
        omega⟩, b⟩)⟩))
      clear ih hE hM hI hB hF hnx hSg hKM z hE2 hbx hK
      refine go_X10_explainBy hr (ct := fun p => p == 58) 20 ?_
      simp only [oI, oL, oR, o1, lI, lL, lR, popN, catS, gv, stL, stL2, swt, cnd, spObj, List.getElem?_cons_zero, List.getElem?_cons_succ, List.getD_cons_zero, List.getD_cons_succ, List.set_cons_zero, List.set_cons_succ, List.nil_append, List.cons_append, Option.toList, Bool.or_false, Bool.false_or, Bool.or_true, Bool.true_or, Nat.reduceBEq, Nat.reduceAdd, Nat.reduceLT, Nat.reduceLeDiff, Int.reduceAdd, Int.reduceToNat, true_and, and_true, Fin.isValue, Fin.val_zero, Fin.val_one, Fin.val_two, Fin.reduceFinMk, eq_self, Int.reduceNeg, imp_self, Nat.reduceMul, Nat.le_refl, not_true_eq_false, not_false_eq_true, List.getElem?_nil, reduceCtorEq, true_or, or_true, Classical.not_not, implies_true, or_self, wI_0, wI_1, wI_m1, b2i_w, b2i_eq0, b2i_eq1, b2i_bool, nor_self, nx_pI, kd_pI, ln_pI, fI_pI, fL_pI, fR_pI, aI_pI, aL_pI, aR_pI, nx_pL, kd_pL, ln_pL, fI_pL, fL_pL, fR_pL, aI_pL, aL_pL, aR_pL, nx_pR, kd_pR, ln_pR, fI_pR, fL_pR, fR_pR, aI_pR, aL_pR, aR_pR, nx_qI, kd_qI, ln_qI, fI_qI, fL_qI, fR_qI, aI_qI, aL_qI, aR_qI, nx_qL, kd_qL, ln_qL, fI_qL, fL_qL, fR_qL, aI_qL, aL_qL, aR_qL, nx_qR, kd_qR, ln_qR, fI_qR, fL_qR, fR_qR, aI_qR, aL_qR, aR_qR, nx_mk, kd_mk, ln_mk, fI_mk, fL_mk, fR_mk, aI_mk, aL_mk, aR_mk, false_and, and_false, if_false, if_true, and_self, Int.reduceEq, Nat.reduceEqDiff, ite_self, MLay_pI, MLay_pL, MLay_qI, MLay_qL, ev_X10_explainBy_41, ev_X10_explainBy_43, ev_X10_explainBy_46, ev_X10_explainBy_48, ev_X10_explainBy_49, ev_X10_explainBy_51, ev_X10_explainBy_54, ev_X10_explainBy_55, ev_X10_explainBy_118, xt_X10_explainBy, xf_X10_explainBy, us_Jx4a65c_size_8abf5, us_Jx4a65c_get_915e3, us_X2_knocksBehind, us_X10_fits, us_X10_strikeOut, hkb]
      try simp (disch := omega) only [wI_id, dv_nn, rm_nn]
      repeat' (first | intro z | apply And.intro)
      all_goals try omega
      all_goals try contradiction
      all_goals exact h
    · have skip : ¬ Cnd H K nb sp pk f (300 * x + st) → Go (M_X10_explainBy d) Q 112 [some (vr 4), some (vi x), some (vi f), some (vi dep), some (vr box), some (vi st)] [] ρ (0, 0) := fun nc =>
        eb_114 hr (ih (st - 1) ρ ks (by omega) (by omega) z hKM (hSg.congr (fun k => by
          rw [eb_set hp1]
          exact ⟨fun y => y.imp id Or.inl, fun y => y.imp id (fun u => u.elim id (fun v => absurd v.1 nc))⟩)))
      have w60 : Go (M_X10_explainBy d) Q 58 [some (vr 4), some (vi x), some (vi f), some (vi dep), some (vr box), some (vi st)] [] ρ (0, 0) := by
        by_cases c2 : whl ρ box (f - st) = true
        · have w72 : Go (M_X10_explainBy d) Q 70 [some (vr 4), some (vi x), some (vi f), some (vi dep), some (vr box), some (vi st)] [] ρ (0, 0) := by
            have w80 : Go (M_X10_explainBy d) Q 78 [some (vr 4), some (vi x), some (vi f), some (vi dep), some (vr box), some (vi st)] [vi (b2i (∀ u, 0 ≤ u → u < 320 → whl ρ box (u - st) = true → u < sp → (u < sp ∧ H u)))] ρ (0, 0) := by
              by_cases c3 : ∀ u, 0 ≤ u → u < 320 → whl ρ box (u - st) = true → u < sp → (u < sp ∧ H u)
              · have hc : Cnd H K nb sp pk f (300 * x + st) := ⟨by omega, fun a ha => by rw [hp1.1]; exact hnx a ha, (hK f).mp c2, fun u a b kk => (c3 u a (by omega) ((hK u).mpr kk) b).2⟩
                have w83 := eb_83 hr (Q := Q) (f := f) hd (⟨hE2, hpl, hM.fz (by rw [hpl]; exact z), hI, by rw [z.2.2 (8 + dep) (by omega) (by omega)]; exact hB, hKM, hSg⟩ : SeS H K nb sp l (dep + d) pk ks _ dep ρ) hx hnx hst hbox2 hK (fun σ' ks' y1 y2 y3 => eb_114 hr (ih (st - 1) σ' ks' (by omega) (by omega) (z.tr y1) y2 (y3.congr (fun k => by
                  rw [eb_set hp1]
                  constructor
                  · rintro ((u | u) | u)
                    · exact Or.inl u
                    · exact Or.inr (Or.inl u)
                    · exact Or.inr (Or.inr ⟨hc, u⟩)
                  · rintro (u | u | u)
                    · exact Or.inl (Or.inl u)
                    · exact Or.inl (Or.inr u)
                    · exact Or.inr u.2))))
                rw [b2i_t c3]
                clear ih h skip hE hM hI hB hF hnx hSg hKM z hE2 hbx hK c3 hc
                refine go_X10_explainBy hr (ct := fun p => p == 81 || p == 112) 10 ?_
                simp only [oI, oL, oR, o1, lI, lL, lR, popN, catS, gv, stL, stL2, swt, cnd, spObj, List.getElem?_cons_zero, List.getElem?_cons_succ, List.getD_cons_zero, List.getD_cons_succ, List.set_cons_zero, List.set_cons_succ, List.nil_append, List.cons_append, Option.toList, Bool.or_false, Bool.false_or, Bool.or_true, Bool.true_or, Nat.reduceBEq, Nat.reduceAdd, Nat.reduceLT, Nat.reduceLeDiff, Int.reduceAdd, Int.reduceToNat, true_and, and_true, Fin.isValue, Fin.val_zero, Fin.val_one, Fin.val_two, Fin.reduceFinMk, eq_self, Int.reduceNeg, imp_self, Nat.reduceMul, Nat.le_refl, not_true_eq_false, not_false_eq_true, List.getElem?_nil, reduceCtorEq, true_or, or_true, Classical.not_not, implies_true, or_self, wI_0, wI_1, wI_m1, b2i_w, b2i_eq0, b2i_eq1, b2i_bool, nor_self, nx_pI, kd_pI, ln_pI, fI_pI, fL_pI, fR_pI, aI_pI, aL_pI, aR_pI, nx_pL, kd_pL, ln_pL, fI_pL, fL_pL, fR_pL, aI_pL, aL_pL, aR_pL, nx_pR, kd_pR, ln_pR, fI_pR, fL_pR, fR_pR, aI_pR, aL_pR, aR_pR, nx_qI, kd_qI, ln_qI, fI_qI, fL_qI, fR_qI, aI_qI, aL_qI, aR_qI, nx_qL, kd_qL, ln_qL, fI_qL, fL_qL, fR_qL, aI_qL, aL_qL, aR_qL, nx_qR, kd_qR, ln_qR, fI_qR, fL_qR, fR_qR, aI_qR, aL_qR, aR_qR, nx_mk, kd_mk, ln_mk, fI_mk, fL_mk, fR_mk, aI_mk, aL_mk, aR_mk, false_and, and_false, if_false, if_true, and_self, Int.reduceEq, Nat.reduceEqDiff, ite_self, MLay_pI, MLay_pL, MLay_qI, MLay_qL, ev_X10_explainBy_78, xt_X10_explainBy, xf_X10_explainBy, us_Jx4a65c_size_8abf5, us_Jx4a65c_get_915e3, us_X2_knocksBehind, us_X10_fits, us_X10_strikeOut]
                repeat' (first | intro z | apply And.intro)
                all_goals try omega
                all_goals try contradiction
                all_goals exact w83
              · have w114 := skip (fun hc => c3 (fun u a b kk us => ⟨us, hc.2.2.2 u a us ((hK u).mp kk)⟩))
                rw [b2i_f c3]
                clear ih h skip hE hM hI hB hF hnx hSg hKM z hE2 hbx hK c3
                refine go_X10_explainBy hr (ct := fun p => p == 81 || p == 112) 10 ?_
                simp only [oI, oL, oR, o1, lI, lL, lR, popN, catS, gv, stL, stL2, swt, cnd, spObj, List.getElem?_cons_zero, List.getElem?_cons_succ, List.getD_cons_zero, List.getD_cons_succ, List.set_cons_zero, List.set_cons_succ, List.nil_append, List.cons_append, Option.toList, Bool.or_false, Bool.false_or, Bool.or_true, Bool.true_or, Nat.reduceBEq, Nat.reduceAdd, Nat.reduceLT, Nat.reduceLeDiff, Int.reduceAdd, Int.reduceToNat, true_and, and_true, Fin.isValue, Fin.val_zero, Fin.val_one, Fin.val_two, Fin.reduceFinMk, eq_self, Int.reduceNeg, imp_self, Nat.reduceMul, Nat.le_refl, not_true_eq_false, not_false_eq_true, List.getElem?_nil, reduceCtorEq, true_or, or_true, Classical.not_not, implies_true, or_self, wI_0, wI_1, wI_m1, b2i_w, b2i_eq0, b2i_eq1, b2i_bool, nor_self, nx_pI, kd_pI, ln_pI, fI_pI, fL_pI, fR_pI, aI_pI, aL_pI, aR_pI, nx_pL, kd_pL, ln_pL, fI_pL, fL_pL, fR_pL, aI_pL, aL_pL, aR_pL, nx_pR, kd_pR, ln_pR, fI_pR, fL_pR, fR_pR, aI_pR, aL_pR, aR_pR, nx_qI, kd_qI, ln_qI, fI_qI, fL_qI, fR_qI, aI_qI, aL_qI, aR_qI, nx_qL, kd_qL, ln_qL, fI_qL, fL_qL, fR_qL, aI_qL, aL_qL, aR_qL, nx_qR, kd_qR, ln_qR, fI_qR, fL_qR, fR_qR, aI_qR, aL_qR, aR_qR, nx_mk, kd_mk, ln_mk, fI_mk, fL_mk, fR_mk, aI_mk, aL_mk, aR_mk, false_and, and_false, if_false, if_true, and_self, Int.reduceEq, Nat.reduceEqDiff, ite_self, MLay_pI, MLay_pL, MLay_qI, MLay_qL, ev_X10_explainBy_78, xt_X10_explainBy, xf_X10_explainBy, us_Jx4a65c_size_8abf5, us_Jx4a65c_get_915e3, us_X2_knocksBehind, us_X10_fits, us_X10_strikeOut]
                repeat' (first | intro z | apply And.intro)
                all_goals try omega
                all_goals try contradiction
                all_goals exact w114
            have b5 := hE2.2.2.2.2.2.2.2.2.1
            have b6 := hE2.2.2.2.2.2.2.2.2.2.1
            clear ih h skip hE hM hI hB hF hnx hSg hKM z hE2 hbx hK
            refine go_X10_explainBy hr (ct := fun p => p == 78) 10 ?_
            simp only [oI, oL, oR, o1, lI, lL, lR, popN, catS, gv, stL, stL2, swt, cnd, spObj, List.getElem?_cons_zero, List.getElem?_cons_succ, List.getD_cons_zero, List.getD_cons_succ, List.set_cons_zero, List.set_cons_succ, List.nil_append, List.cons_append, Option.toList, Bool.or_false, Bool.false_or, Bool.or_true, Bool.true_or, Nat.reduceBEq, Nat.reduceAdd, Nat.reduceLT, Nat.reduceLeDiff, Int.reduceAdd, Int.reduceToNat, true_and, and_true, Fin.isValue, Fin.val_zero, Fin.val_one, Fin.val_two, Fin.reduceFinMk, eq_self, Int.reduceNeg, imp_self, Nat.reduceMul, Nat.le_refl, not_true_eq_false, not_false_eq_true, List.getElem?_nil, reduceCtorEq, true_or, or_true, Classical.not_not, implies_true, or_self, wI_0, wI_1, wI_m1, b2i_w, b2i_eq0, b2i_eq1, b2i_bool, nor_self, nx_pI, kd_pI, ln_pI, fI_pI, fL_pI, fR_pI, aI_pI, aL_pI, aR_pI, nx_pL, kd_pL, ln_pL, fI_pL, fL_pL, fR_pL, aI_pL, aL_pL, aR_pL, nx_pR, kd_pR, ln_pR, fI_pR, fL_pR, fR_pR, aI_pR, aL_pR, aR_pR, nx_qI, kd_qI, ln_qI, fI_qI, fL_qI, fR_qI, aI_qI, aL_qI, aR_qI, nx_qL, kd_qL, ln_qL, fI_qL, fL_qL, fR_qL, aI_qL, aL_qL, aR_qL, nx_qR, kd_qR, ln_qR, fI_qR, fL_qR, fR_qR, aI_qR, aL_qR, aR_qR, nx_mk, kd_mk, ln_mk, fI_mk, fL_mk, fR_mk, aI_mk, aL_mk, aR_mk, false_and, and_false, if_false, if_true, and_self, Int.reduceEq, Nat.reduceEqDiff, ite_self, MLay_pI, MLay_pL, MLay_qI, MLay_qL, ev_X10_explainBy_70, ev_X10_explainBy_71, ev_X10_explainBy_73, ev_X10_explainBy_75, xt_X10_explainBy, xf_X10_explainBy, us_Jx4a65c_size_8abf5, us_Jx4a65c_get_915e3, us_X2_knocksBehind, us_X10_fits, us_X10_strikeOut, k4, hC, hkb, hst]
            repeat' (first | intro z | apply And.intro)
            all_goals try omega
            all_goals try contradiction
            all_goals exact ⟨_, sp, b5, b6, w80⟩
          have hr2 : -4000000 ≤ f - st ∧ f - st ≤ 4000000 := by omega
          clear ih h skip hE hM hI hB hF hnx hSg hKM z hE2 hbx hK
          refine go_X10_explainBy hr (ct := fun p => p == 70 || p == 112) 20 ?_
          simp only [oI, oL, oR, o1, lI, lL, lR, popN, catS, gv, stL, stL2, swt, cnd, spObj, List.getElem?_cons_zero, List.getElem?_cons_succ, List.getD_cons_zero, List.getD_cons_succ, List.set_cons_zero, List.set_cons_succ, List.nil_append, List.cons_append, Option.toList, Bool.or_false, Bool.false_or, Bool.or_true, Bool.true_or, Nat.reduceBEq, Nat.reduceAdd, Nat.reduceLT, Nat.reduceLeDiff, Int.reduceAdd, Int.reduceToNat, true_and, and_true, Fin.isValue, Fin.val_zero, Fin.val_one, Fin.val_two, Fin.reduceFinMk, eq_self, Int.reduceNeg, imp_self, Nat.reduceMul, Nat.le_refl, not_true_eq_false, not_false_eq_true, List.getElem?_nil, reduceCtorEq, true_or, or_true, Classical.not_not, implies_true, or_self, wI_0, wI_1, wI_m1, b2i_w, b2i_eq0, b2i_eq1, b2i_bool, nor_self, nx_pI, kd_pI, ln_pI, fI_pI, fL_pI, fR_pI, aI_pI, aL_pI, aR_pI, nx_pL, kd_pL, ln_pL, fI_pL, fL_pL, fR_pL, aI_pL, aL_pL, aR_pL, nx_pR, kd_pR, ln_pR, fI_pR, fL_pR, fR_pR, aI_pR, aL_pR, aR_pR, nx_qI, kd_qI, ln_qI, fI_qI, fL_qI, fR_qI, aI_qI, aL_qI, aR_qI, nx_qL, kd_qL, ln_qL, fI_qL, fL_qL, fR_qL, aI_qL, aL_qL, aR_qL, nx_qR, kd_qR, ln_qR, fI_qR, fL_qR, fR_qR, aI_qR, aL_qR, aR_qR, nx_mk, kd_mk, ln_mk, fI_mk, fL_mk, fR_mk, aI_mk, aL_mk, aR_mk, false_and, and_false, if_false, if_true, and_self, Int.reduceEq, Nat.reduceEqDiff, ite_self, MLay_pI, MLay_pL, MLay_qI, MLay_qL, ev_X10_explainBy_58, ev_X10_explainBy_60, ev_X10_explainBy_61, ev_X10_explainBy_63, ev_X10_explainBy_64, ev_X10_explainBy_67, xt_X10_explainBy, xf_X10_explainBy, us_Jx4a65c_size_8abf5, us_Jx4a65c_get_915e3, us_X2_knocksBehind, us_X10_fits, us_X10_strikeOut, hkb, hr2, b2i_t c2]
          repeat' (first | intro z | apply And.intro)
          all_goals try omega
          all_goals try contradiction
          all_goals exact w72
        · have w114 := skip (fun hc => c2 ((hK f).mpr hc.2.2.1))
          have hr2 : -4000000 ≤ f - st ∧ f - st ≤ 4000000 := by omega
          clear ih h skip hE hM hI hB hF hnx hSg hKM z hE2 hbx hK
          refine go_X10_explainBy hr (ct := fun p => p == 70 || p == 112) 20 ?_
          simp only [oI, oL, oR, o1, lI, lL, lR, popN, catS, gv, stL, stL2, swt, cnd, spObj, List.getElem?_cons_zero, List.getElem?_cons_succ, List.getD_cons_zero, List.getD_cons_succ, List.set_cons_zero, List.set_cons_succ, List.nil_append, List.cons_append, Option.toList, Bool.or_false, Bool.false_or, Bool.or_true, Bool.true_or, Nat.reduceBEq, Nat.reduceAdd, Nat.reduceLT, Nat.reduceLeDiff, Int.reduceAdd, Int.reduceToNat, true_and, and_true, Fin.isValue, Fin.val_zero, Fin.val_one, Fin.val_two, Fin.reduceFinMk, eq_self, Int.reduceNeg, imp_self, Nat.reduceMul, Nat.le_refl, not_true_eq_false, not_false_eq_true, List.getElem?_nil, reduceCtorEq, true_or, or_true, Classical.not_not, implies_true, or_self, wI_0, wI_1, wI_m1, b2i_w, b2i_eq0, b2i_eq1, b2i_bool, nor_self, nx_pI, kd_pI, ln_pI, fI_pI, fL_pI, fR_pI, aI_pI, aL_pI, aR_pI, nx_pL, kd_pL, ln_pL, fI_pL, fL_pL, fR_pL, aI_pL, aL_pL, aR_pL, nx_pR, kd_pR, ln_pR, fI_pR, fL_pR, fR_pR, aI_pR, aL_pR, aR_pR, nx_qI, kd_qI, ln_qI, fI_qI, fL_qI, fR_qI, aI_qI, aL_qI, aR_qI, nx_qL, kd_qL, ln_qL, fI_qL, fL_qL, fR_qL, aI_qL, aL_qL, aR_qL, nx_qR, kd_qR, ln_qR, fI_qR, fL_qR, fR_qR, aI_qR, aL_qR, aR_qR, nx_mk, kd_mk, ln_mk, fI_mk, fL_mk, fR_mk, aI_mk, aL_mk, aR_mk, false_and, and_false, if_false, if_true, and_self, Int.reduceEq, Nat.reduceEqDiff, ite_self, MLay_pI, MLay_pL, MLay_qI, MLay_qL, ev_X10_explainBy_58, ev_X10_explainBy_60, ev_X10_explainBy_61, ev_X10_explainBy_63, ev_X10_explainBy_64, ev_X10_explainBy_67, xt_X10_explainBy, xf_X10_explainBy, us_Jx4a65c_size_8abf5, us_Jx4a65c_get_915e3, us_X2_knocksBehind, us_X10_fits, us_X10_strikeOut, hkb, hr2, b2i_f c2]
          repeat' (first | intro z | apply And.intro)
          all_goals try omega
          all_goals try contradiction
          all_goals exact w114
      clear ih h skip hE hM hI hB hF hnx hSg hKM z hE2 hbx hK
      refine go_X10_explainBy hr (ct := fun p => p == 118 || p == 58) 20 ?_
      simp only [oI, oL, oR, o1, lI, lL, lR, popN, catS, gv, stL, stL2, swt, cnd, spObj, List.getElem?_cons_zero, List.getElem?_cons_succ, List.getD_cons_zero, List.getD_cons_succ, List.set_cons_zero, List.set_cons_succ, List.nil_append, List.cons_append, Option.toList, Bool.or_false, Bool.false_or, Bool.or_true, Bool.true_or, Nat.reduceBEq, Nat.reduceAdd, Nat.reduceLT, Nat.reduceLeDiff, Int.reduceAdd, Int.reduceToNat, true_and, and_true, Fin.isValue, Fin.val_zero, Fin.val_one, Fin.val_two, Fin.reduceFinMk, eq_self, Int.reduceNeg, imp_self, Nat.reduceMul, Nat.le_refl, not_true_eq_false, not_false_eq_true, List.getElem?_nil, reduceCtorEq, true_or, or_true, Classical.not_not, implies_true, or_self, wI_0, wI_1, wI_m1, b2i_w, b2i_eq0, b2i_eq1, b2i_bool, nor_self, nx_pI, kd_pI, ln_pI, fI_pI, fL_pI, fR_pI, aI_pI, aL_pI, aR_pI, nx_pL, kd_pL, ln_pL, fI_pL, fL_pL, fR_pL, aI_pL, aL_pL, aR_pL, nx_pR, kd_pR, ln_pR, fI_pR, fL_pR, fR_pR, aI_pR, aL_pR, aR_pR, nx_qI, kd_qI, ln_qI, fI_qI, fL_qI, fR_qI, aI_qI, aL_qI, aR_qI, nx_qL, kd_qL, ln_qL, fI_qL, fL_qL, fR_qL, aI_qL, aL_qL, aR_qL, nx_qR, kd_qR, ln_qR, fI_qR, fL_qR, fR_qR, aI_qR, aL_qR, aR_qR, nx_mk, kd_mk, ln_mk, fI_mk, fL_mk, fR_mk, aI_mk, aL_mk, aR_mk, false_and, and_false, if_false, if_true, and_self, Int.reduceEq, Nat.reduceEqDiff, ite_self, MLay_pI, MLay_pL, MLay_qI, MLay_qL, ev_X10_explainBy_41, ev_X10_explainBy_43, ev_X10_explainBy_46, ev_X10_explainBy_48, ev_X10_explainBy_49, ev_X10_explainBy_51, ev_X10_explainBy_54, ev_X10_explainBy_55, xt_X10_explainBy, xf_X10_explainBy, us_Jx4a65c_size_8abf5, us_Jx4a65c_get_915e3, us_X2_knocksBehind, us_X10_fits, us_X10_strikeOut, hkb]
      try simp (disch := omega) only [wI_id, dv_nn, rm_nn]
      repeat' (first | intro z | apply And.intro)
      all_goals try omega
      all_goals try contradiction
      all_goals exact w60

set_option maxRecDepth 20000 in
theorem cr_X10_explainBy {d : Nat} (hr : HR_X10_explainBy d) : Ct yX10_explainBy cX10_explainBy 6 ((none : Option FieldType)) (3*d+10) 0 0 (sp_X10_explainBy d) := by
  refine Ct.go (M := M_X10_explainBy d) (mm_X10_explainBy hr) fun av σ Q h0 => ?_
  obtain ⟨this, x, f, dep, rfl, hk, h⟩ := el_X10_explainBy d h0
  clear h0
  refine ⟨Nat.le_of_ble_eq_true rfl, ?_⟩
  show Go (M_X10_explainBy d) Q 0 [some (vr this), some (vi x), some (vi f), some (vi dep), none, none] [] σ (0, 0)
  obtain ⟨rfl, H, K, nb, sp, l, pk, ks, S, hS, hd, hF, hx, hnx, h⟩ := h
  obtain ⟨hE, hpl, hM, hI, hB, hKM, hSg⟩ := hS
  have hdep : 0 ≤ dep := by omega
  have hC := hE.1
  have hL := hE.2.2.2.1
  have hsz := hE.2.2.2.2.1
  have hlp := hE.2.2.1
  have hg := lpx hC hE.2.1
  have hg1 := hg.1
  have hg2 := hg.2.1
  have hg3 := hg.2.2
  have hLe : ∃ ci, LOk σ (46 + 4 * l) ci := ⟨2, hL⟩
  have hkc : kd σ (lat σ (46 + 4 * l) x) = 3 := hL.2.2.2.2.2 x hx.1 (by rw [hsz]; exact hx.2)
  have hnb := hE.2.2.2.2.2.1
  have hf := hF.1
  have hsp := hE.2.2.2.2.2.2.1
  have w := eb_43 hr (Q := Q) ⟨hd.1, hd.2, hdep⟩ hE hpl hM hI hB hF hx hnx rfl h (f + 1).toNat f σ ks (by omega) (Int.le_refl _) (FzD.rf _ _) hKM (hSg.congr (fun k => ⟨Or.inl, fun y => y.elim id (fun ⟨p, a, b⟩ => by have := b.1.1; omega)⟩))
  clear h hE hM hI hB hF hnx hSg hKM
  refine go_X10_explainBy hr (ct := fun p => p == 24 || p == 41) 40 ?_
  simp only [oI, oL, oR, o1, lI, lL, lR, popN, catS, gv, stL, stL2, swt, cnd, spObj, List.getElem?_cons_zero, List.getElem?_cons_succ, List.getD_cons_zero, List.getD_cons_succ, List.set_cons_zero, List.set_cons_succ, List.nil_append, List.cons_append, Option.toList, Bool.or_false, Bool.false_or, Bool.or_true, Bool.true_or, Nat.reduceBEq, Nat.reduceAdd, Nat.reduceLT, Nat.reduceLeDiff, Int.reduceAdd, Int.reduceToNat, true_and, and_true, Fin.isValue, Fin.val_zero, Fin.val_one, Fin.val_two, Fin.reduceFinMk, eq_self, Int.reduceNeg, imp_self, Nat.reduceMul, Nat.le_refl, not_true_eq_false, not_false_eq_true, List.getElem?_nil, reduceCtorEq, true_or, or_true, Classical.not_not, implies_true, or_self, wI_0, wI_1, wI_m1, b2i_w, b2i_eq0, b2i_eq1, b2i_bool, nor_self, nx_pI, kd_pI, ln_pI, fI_pI, fL_pI, fR_pI, aI_pI, aL_pI, aR_pI, nx_pL, kd_pL, ln_pL, fI_pL, fL_pL, fR_pL, aI_pL, aL_pL, aR_pL, nx_pR, kd_pR, ln_pR, fI_pR, fL_pR, fR_pR, aI_pR, aL_pR, aR_pR, nx_qI, kd_qI, ln_qI, fI_qI, fL_qI, fR_qI, aI_qI, aL_qI, aR_qI, nx_qL, kd_qL, ln_qL, fI_qL, fL_qL, fR_qL, aI_qL, aL_qL, aR_qL, nx_qR, kd_qR, ln_qR, fI_qR, fL_qR, fR_qR, aI_qR, aL_qR, aR_qR, nx_mk, kd_mk, ln_mk, fI_mk, fL_mk, fR_mk, aI_mk, aL_mk, aR_mk, false_and, and_false, if_false, if_true, and_self, Int.reduceEq, Nat.reduceEqDiff, ite_self, MLay_pI, MLay_pL, MLay_qI, MLay_qL, ev_X10_explainBy_0, ev_X10_explainBy_1, ev_X10_explainBy_4, ev_X10_explainBy_5, ev_X10_explainBy_6, ev_X10_explainBy_9, ev_X10_explainBy_12, ev_X10_explainBy_15, ev_X10_explainBy_16, ev_X10_explainBy_19, ev_X10_explainBy_20, ev_X10_explainBy_21, ev_X10_explainBy_24, ev_X10_explainBy_25, ev_X10_explainBy_26, ev_X10_explainBy_29, ev_X10_explainBy_30, ev_X10_explainBy_33, ev_X10_explainBy_36, ev_X10_explainBy_38, ev_X10_explainBy_39, xt_X10_explainBy, xf_X10_explainBy, us_Jx4a65c_size_8abf5, us_Jx4a65c_get_915e3, us_X2_knocksBehind, us_X10_fits, us_X10_strikeOut, hk, hlp, hg1, hg2, hg3, hLe, hsz, hx, hkc]
  try simp (disch := omega) only [wI_id, dv_nn, rm_nn]
  repeat' (first | intro z | apply And.intro)
  all_goals try omega
  all_goals try contradiction
  all_goals exact w
