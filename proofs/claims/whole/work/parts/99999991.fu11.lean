/-! all that holds between two steps holds behind a step: company -/

section COM
variable {σ σ' τ : Hp}
theorem cCo_v (hw : Wf σ) (kn hm : Int) : nx (cCo σ kn hm) = nx σ + 1 ∧ (∀ k, kd (cCo σ kn hm) k = if k = nx σ then 6 else kd σ k) ∧ (fI (cCo σ kn hm) 600 (nx σ) = kn ∧ fI (cCo σ kn hm) 601 (nx σ) = hm ∧ fI (cCo σ kn hm) 602 (nx σ) = hm ∧ fI (cCo σ kn hm) 603 (nx σ) = 0) ∧ fI (cCo σ kn hm) 3001 0 = fI σ 3001 0 ∧ Bel (cCo σ kn hm) ∧ Kp (fun _ => False) (fun _ => False) σ (cCo σ kn hm) := by
  have e1 : nx (cCo σ kn hm) = nx σ + 1 := by
    unfold cCo
    simp only [nx_pI, nx_mk]
  have e2 : ∀ k, kd (cCo σ kn hm) k = if k = nx σ then 6 else kd σ k := fun k => by
    unfold cCo
    simp only [kd_pI, kd_mk]
  refine ⟨e1, e2, ?_, ?_, fun k hk => ?_, fun k hk => ?_, ?_⟩
  · unfold cCo
    simp only [fI_pI, fI_mk, Nat.reduceEqDiff, false_and, true_and, and_self, if_true, if_false]
  · unfold cCo
    simp only [fI_pI, fI_mk, Nat.reduceEqDiff, false_and, if_false]
  · rw [e2] at hk
    rw [e1]
    by_cases c : k = nx σ
    · omega
    · rw [if_neg c] at hk
      have := hw.bel k hk
      omega
  · have hn := hw.bel k hk
    have h1 : ¬ k = nx σ := by omega
    unfold cCo
    simp only [kd_pI, ln_pI, fI_pI, fL_pI, fR_pI, aI_pI, aL_pI, aR_pI, kd_mk, ln_mk, fI_mk, fL_mk, fR_mk, aI_mk, aL_mk, aR_mk, nx_mk, h1, and_false, if_false, and_self, implies_true]
  · unfold cCo
    simp only [fR_pI, fR_mk]
end COM
theorem fu_company {b n kn hm : Int} {σ σ2 τ : Hp} (hF : Fu b n σ) (hb : b < 0) (hw : Wf σ) (hw2 : Wf σ2) (c : (0 ≤ kn ∧ kn ≤ 1) ∧ (0 ≤ hm ∧ hm < fI σ 1332 61) ∧ fI σ 1335 61 < 20) (hA2 : Added (cCo σ kn hm) 18 (nx σ) σ2) (hL2 : LOk σ2 18 5) (e2 : τ = pI (qI (qI (qI (pI σ2 1300 61 0) 87 (fI σ2 1335 61) kn) 88 (fI σ2 1335 61) hm) 89 (fI σ2 1335 61) hm) 1335 61 (fI σ2 1335 61 + 1)) : Fu b n τ := by
  obtain ⟨⟨hC, hnw, hX, hL, hG, hA, hK, hR, hH, hT, hLT, hTX, hLD⟩, ⟨iM, iB, iF, iU, iC, iW, iA, iH, iG, iN, iS, iT⟩, hS⟩ := hF
  have v0 := cCo_v hw kn hm
  have ls0 := lists_ok hX hG hA hL
  have hnx := hw.1
  have hp0 : 0 < nx σ := by omega
  obtain ⟨p, ep⟩ : ∃ q : Int, q = nx σ := ⟨_, rfl⟩
  rw [← ep] at v0 hA2 hp0
  obtain ⟨σa, ea⟩ : ∃ ρ9 : Hp, ρ9 = cCo σ kn hm := ⟨_, rfl⟩
  rw [← ea] at v0 hA2
  clear ea
  obtain ⟨v1, v2, ⟨v3, v4, v5, v6⟩, v7, v8, z0⟩ := v0
  have C0 : CLay σa := hC.kp z0 (fun q => q) (fun q => q)
  have L0 : ∀ q ci, LOk σ q ci → LOk σa q ci ∧ fI σa 1402 q = fI σ 1402 q ∧ ∀ i, lat σa q i = lat σ q i := fun q ci h => h.kp z0 (fun q => q) (fun q => q)
  have L18 := L0 18 5 hG.1
  have zA : Kp (fun k => k = 18) (fun k => k = fR σa 1401 18) σa σ2 := hA2.kp9 v8
  have na : ∀ k, ¬ kd σa k = 105 → ¬ k = fR σa 1401 18 := fun k hk e => hk (by rw [e]; exact L18.1.2.1)
  have C2 : CLay σ2 := C0.kp zA (na 2 (by simp only [C0.eqs]; decide)) (na 7 (by simp only [C0.eqs]; decide))
  have LD1 : LD σa := hLD.kp z0 (fun _ _ q => q) (fun q h => by obtain ⟨ci, g⟩ := ls0 q h; rw [g.1]; decide) (fun q h => by obtain ⟨ci, g⟩ := ls0 q h; rw [g.2.1]; decide)
  have LD2 : LD σ2 := LD1.add v8 hA2 (fun q h => by obtain ⟨ci, g⟩ := ls0 q h; rw [(L0 q ci g).1.2.1]; decide)
  have LL : ∀ q ci, isLs q → ¬ q = 18 → LOk σ q ci → LOk σ2 q ci ∧ fI σ2 1402 q = fI σa 1402 q ∧ ∀ i, 0 ≤ i → i < fI σa 1402 q → lat σ2 q i = lat σa q i := fun q ci hq1 hq2 h => LOk.ad9 v8 hA2 (L0 q ci h).1 hq2 (fun e => LD1 q 18 hq1 (Or.inr (Or.inl rfl)) hq2 e)
  have re0 : RE σ σa := z0.re iM.1.lay (fun _ _ _ q => q)
  have I1 : MI σa := MI_RE re0 iM.1
  have re2 : RE σa σ2 := zA.re I1.lay (fun k q1 q2 q3 => by omega)
  have re : RE σ σ2 := re0.tr re2
  have I2 : MI σ2 := MI_RE re iM.1
  have co2 : fI σ2 1335 61 = fI σ 1335 61 := (re.2 1335 (by omega) (by omega)).1
  have cs := iM.1.companies_s
  have hs := iM.1.houses_s
  have rf : Rf [1300, 1335] [87, 88, 89] σ2 τ := by
    rw [e2]
    exact ((((Rf_thr _ _ σ2 0 (by decide)).q (by decide)).q (by decide)).q (by decide)).p (by decide)
  have ce : CE σ2 τ := by
    rw [e2]
    exact ((((CE_pI σ2 61 0 (by decide)).tr (CE_qI _ _ _ (by decide))).tr (CE_qI _ _ _ (by decide))).tr (CE_qI _ _ _ (by decide))).tr (CE_pI _ 61 _ (by decide))
  have mi : MI τ := by
    rw [e2]
    exact MI_companies_p (MI_isAt_q (MI_own_q (MI_companyKind_q (MI_fre I2 (by decide)) c.1) (by omega)) (by omega)) (by rw [co2]; omega)
  have coT : fI τ 1335 61 = fI σ 1335 61 + 1 := by
    rw [e2, fI_pI, if_pos ⟨rfl, rfl⟩, co2]
  have vT : ∀ q, (aI τ 87 q = if q = fI σ 1335 61 then kn else aI σ 87 q) ∧ (aI τ 88 q = if q = fI σ 1335 61 then hm else aI σ 88 q) ∧ (aI τ 89 q = if q = fI σ 1335 61 then hm else aI σ 89 q) := fun q => by
    rw [e2]
    simp only [aI_pI, aI_qI, Int.reduceEq, false_and, if_false, true_and]
    rw [co2, (re.1 87 (by omega) (by omega)).2.2.1, (re.1 88 (by omega) (by omega)).2.2.1, (re.1 89 (by omega) (by omega)).2.2.1]
    exact ⟨rfl, rfl, rfl⟩
  have ar : ∀ r, 62 ≤ r → r ≤ 119 → r ∉ ([87, 88, 89] : List Int) → aI τ r = aI σ r := fun r p1 p2 p3 => (rf.2 r p1 p2 p3).trans (re.1 r (by omega) p2).2.2.1
  have k1a : ∀ k, kd σ k ≠ 0 → kd σa k = kd σ k := fun k hk => z0.k hk
  have fo : ∀ f k, kd σ k ≠ 0 → f < 1400 → fI σ2 f k = fI σ f k := fun f k hk hf => by
    rw [zA.i (by rw [k1a k hk]; exact hk) hf, z0.i hk hf]
  have aio : ∀ k, kd σ k ≠ 0 → aI σ2 k = aI σ k := fun k hk => by
    rw [zA.ai (by rw [k1a k hk]; exact hk), z0.ai hk]
  have b3 : fI σa 1402 3 = fI σ 1302 61 := (L0 3 2 hX.1).2.1.trans hX.2.1
  have LL3 := LL 3 2 (Or.inl rfl) (by omega) hX.1
  have l3 : ∀ i, 0 ≤ i → i < fI σ 1302 61 → lat σ2 3 i = lat σa 3 i := fun i p1 p2 => LL3.2.2 i p1 (by rw [b3]; exact p2)
  have c1 : kd σ 1 ≠ 0 := by simp only [hC.eqs]; decide
  have c24 : kd σ 24 ≠ 0 := by simp only [hC.eqs]; decide
  have c25 : kd σ 25 ≠ 0 := by simp only [hC.eqs]; decide
  have c15 : kd σ 15 ≠ 0 := by simp only [hC.eqs]; decide
  have c16 : kd σ 16 ≠ 0 := by simp only [hC.eqs]; decide
  have c17 : kd σ 17 ≠ 0 := by simp only [hC.eqs]; decide
  have h121 : 120 < p := by
    rw [ep]
    exact hw.bel 120 (by rw [hS.1.2.1]; decide)
  have r_BX : BX σ2 τ := ((((hX.kp z0 (fun q => q) (fun q => q))).ad zA LL3).re re).rf rf (by decide) (by decide)
  have r_LR : ∀ l, 0 ≤ l → l < 4 → LR l σ2 τ := fun l a1 a2 => ((((hL l a1 a2).kp hC ⟨a1, a2⟩ z0 (fun q => q) (fun q => q) (fun k p1 p2 => (hX.1.kp z0 (fun q => q) (fun q => q)).2.2 _)).ad C0 ⟨a1, a2⟩ zA (LL (46 + 4 * l) 2 (by unfold isLs; omega) (by omega) (hL l a1 a2).1.1.1) (fun k p1 p2 => l3 _ (iM.1.boxAt_ _).1 (iB.1 l k a1 a2 p1 p2).1)).re re).rf rf (by decide)
  have r_AL : AL σ2 τ := (((hA.kp hC z0 (fun q => q) (fun q => q) (fun a _ _ => (hX.1.kp z0 (fun q => q) (fun q => q)).2.2 _)).ad C0 zA (LL 28 0 (Or.inr (Or.inr (Or.inl rfl))) (by omega) hA.1) (fun a p1 p2 => l3 _ (iM.1.alarmBox_ a).1 (iA a p1 p2))).re re).rf rf (by decide) (by decide)
  have r_DKR : DKR σ2 τ := (((hK.kp hC z0).kp C0 zA).re re).rf rf (by decide) (by decide)
  have r_RDR : RDR σ2 τ := (((hR.kp hC z0).kp C0 zA).re re).rf rf (by decide) (by decide)
  have r_TG : TGr σ2 := (hT.kp hC z0).kp C0 zA
  have r_LTT : LTT σ2 := (hLT.kp hC z0).kp C0 zA
  have s0 : S21 σa := fun k hk => by
    rw [v2] at hk
    by_cases q2 : k = p
    · rw [if_pos q2] at hk
      omega
    · rw [if_neg q2] at hk
      exact hw.s21 k hk
  obtain ⟨t1, t2, t3, t4, t5, t6, t7, t8, t9, t10, t11, t12, t13⟩ := hA2
  have r_TXT : TXT σ2 := (hTX.kp hw.s21 s0 z0 (fun _ _ q => q) (fun k hk => by rw [v2, if_neg (by omega)]) v7).kp s0 hw2.s21 zA (fun k hk q => by omega) (fun k hk => (t2 k (by omega)).1) (t4 3001 0 (by omega))
  have al1 : fI σa 1402 18 = fI σ 1335 61 := L18.2.1.trans hG.2.1
  have el : ∀ k, 0 ≤ k → k < fI σ 1335 61 → lat σ2 18 k = lat σ 18 k := fun k u1 u2 => (t12 k u1 (by rw [al1]; exact u2)).trans (L18.2.2 k)
  have r_BG : BG σ2 τ := by
    obtain ⟨h1, h2, h3, h4, h5, h6, h7, h8⟩ := hG
    refine ⟨hL2, by rw [t5, al1, coT], fun q q1 q2 => ?_, fun q r q1 q2 q3 => ?_, ?_, fun u => ?_, ?_, ?_⟩
    · rw [coT] at q2
      obtain ⟨u1, u2, u3⟩ := vT q
      unfold CoE
      rw [u1, u2, u3, ar 91 (by omega) (by omega) (by decide)]
      by_cases e : q = fI σ 1335 61
      · have eq : lat σ2 18 q = p := by rw [e, ← al1]; exact t13
        have kp1 : kd σa p ≠ 0 := by rw [v2, if_pos rfl]; decide
        rw [eq, if_pos e, if_pos e, if_pos e, zA.i kp1 (by decide), zA.i kp1 (by decide), zA.i kp1 (by decide), zA.i kp1 (by decide), zA.i kp1 (by decide), v3, v4, v5, v6]
        exact ⟨h121, rfl, rfl, fun w => by omega, fun _ => ⟨rfl, rfl⟩, by omega⟩
      · have hqa : q < fI σ 1335 61 := by omega
        have g := h3 q q1 hqa
        have kq : kd σ (lat σ 18 q) ≠ 0 := fun w => absurd ((h1.2.2.2.2.2 q q1 (by rw [h2]; exact hqa)).symm.trans w) (by decide)
        rw [el q q1 hqa, if_neg e, if_neg e, if_neg e, fo _ _ kq (by decide), fo _ _ kq (by decide), fo _ _ kq (by decide), fo _ _ kq (by decide), fo _ _ kq (by decide)]
        exact g
    · rw [coT] at q3
      rw [el q q1 (by omega)]
      by_cases e : r = fI σ 1335 61
      · have er : lat σ2 18 r = p := by rw [e, ← al1]; exact t13
        rw [er, ep]
        have kq : kd σ (lat σ 18 q) ≠ 0 := fun w => absurd ((h1.2.2.2.2.2 q q1 (by omega)).symm.trans w) (by decide)
        have lt := hw.bel _ kq
        omega
      · rw [el r (by omega) (by omega)]
        exact h4 q r q1 q2 (by omega)
    · rw [fo _ 15 c15 (by decide), rf.1 1332 (by omega) (by omega) (by decide), (re.2 1332 (by omega) (by omega)).1]
      exact h5
    · rw [aio 16 c16, aio 17 c17, ar 85 (by omega) (by omega) (by decide), ar 86 (by omega) (by omega) (by decide)]
      exact h6 u
    · rw [fo _ 15 c15 (by decide), rf.1 1341 (by omega) (by omega) (by decide), (re.2 1341 (by omega) (by omega)).1]
      exact h7
    · rw [fo _ 15 c15 (by decide), rf.1 1342 (by omega) (by omega) (by decide), (re.2 1342 (by omega) (by omega)).1]
      exact h8
  have r_now : fI σ2 1210 1 = fI τ 1301 61 := by
    rw [fo 1210 1 c1 (by decide), hnw]
    exact ((rf.1 1301 (by omega) (by omega) (by decide)).trans (re.2 1301 (by omega) (by omega)).1).symm
  have r_held : fI σ2 901 24 = fI τ 1343 61 ∧ aI σ2 25 = aI τ 92 := by
    rw [fo 901 24 c24 (by decide), aio 25 c25, ar 92 (by omega) (by omega) (by decide), rf.1 1343 (by omega) (by omega) (by decide), (re.2 1343 (by omega) (by omega)).1]
    exact hH
  have S2 : Scp σ2 b n := (hS.kp z0).kp zA
  have i_HI : HIs τ := by
    intro q q1 q2
    rw [coT] at q2
    rw [(vT q).2.1, (vT q).2.2, rf.1 1332 (by omega) (by omega) (by decide), (re.2 1332 (by omega) (by omega)).1]
    by_cases e : q = fI σ 1335 61
    · rw [if_pos e, if_pos e]
      exact ⟨c.2.1.2, c.2.1.2⟩
    · rw [if_neg e, if_neg e]
      exact iH q q1 (by omega)
  have i_InS : InS2 τ := by
    have s1 := ar 90 (by omega) (by omega) (by decide)
    have s2 := ar 115 (by omega) (by omega) (by decide)
    have s3 := ar 116 (by omega) (by omega) (by decide)
    have s4 := ar 112 (by omega) (by omega) (by decide)
    have s5 : fI τ 1371 61 = fI σ 1371 61 := (rf.1 1371 (by omega) (by omega) (by decide)).trans (re.2 1371 (by omega) (by omega)).1
    unfold InS2
    rw [s1, s2, s3, s4, s5, coT]
    refine ⟨fun q q1 q2 q3 => ?_, fun a i q1 q2 => ?_, fun a q1 q2 => ?_⟩
    · rw [(vT q).2.2] at q3
      by_cases e : q = fI σ 1335 61
      · rw [if_pos e] at q3
        omega
      · rw [if_neg e] at q3
        exact iS.1 q q1 (by omega) q3
    · obtain ⟨k1, k2⟩ := iS.2.1 a i q1 q2
      refine ⟨⟨k1.1, by omega⟩, fun q3 => ?_⟩
      rw [(vT _).2.2, if_neg (by omega)]
      exact k2 q3
    · have k := iS.2.2 a q1 q2
      have em : mTo τ a = mTo σ a := by
        unfold mTo
        rw [s1, coT]
        have en : (fI σ 1335 61 + 1).toNat = (fI σ 1335 61).toNat + 1 := by omega
        rw [en, hwM_f (by
          rw [(vT _).2.2, if_pos (by omega)]
          omega)]
        exact hwM_cgb _ fun j p1 p2 => by
          rw [(vT j).2.2, if_neg (by omega)]
      rw [em]
      exact k
  have rel : Rel σ2 τ := ⟨C2, r_now, r_BX, r_LR, r_BG, r_AL, r_DKR, r_RDR, r_held, r_TG, r_LTT, r_TXT, LD2⟩
  exact ⟨rel.ce (fun r q => hw2.s21 r (Or.inr q)) ce, ⟨(iM.re re).rf rf mi (by decide) (by decide), (iB.re re).rf rf (by decide) (by decide), (iF.re re).rf rf (by decide), (iU.re re).rf rf (by decide), (iC.re re).rf rf (by decide) (by decide), (iW.re re).rf rf (by decide) (by decide), (iA.re re).rf rf (by decide) (by decide), i_HI, (iG.re re).rf rf (by decide) (by decide), (iN.re re).rf rf (by decide) (by decide), i_InS, (iT.re re).rf rf (by decide) (by decide)⟩, S2.ce hb ce⟩
