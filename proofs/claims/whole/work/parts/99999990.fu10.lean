/-! all that holds between two steps holds behind a step: alarm -/

section ALM
variable {σ σ' τ : Hp}
theorem lists_ok (hX : BX σ τ) (hG : BG σ τ) (hA : AL σ τ) (hL : ∀ l, 0 ≤ l → l < 4 → LR l σ τ) : ∀ q, isLs q → ∃ ci, LOk σ q ci := by
  intro q h
  unfold isLs at h
  rcases h with rfl | rfl | rfl | rfl | rfl | rfl | rfl
  · exact ⟨_, hX.1⟩
  · exact ⟨_, hG.1⟩
  · exact ⟨_, hA.1⟩
  · exact ⟨_, (hL 0 (by omega) (by omega)).1.1.1⟩
  · exact ⟨_, (hL 1 (by omega) (by omega)).1.1.1⟩
  · exact ⟨_, (hL 2 (by omega) (by omega)).1.1.1⟩
  · exact ⟨_, (hL 3 (by omega) (by omega)).1.1.1⟩
theorem mRaise_v (ρ : Hp) (x q : Int) : (aI (mRaise ρ x) 109 q = if q = fI ρ 1371 61 then x else aI ρ 109 q) ∧ (aI (mRaise ρ x) 110 q = if q = fI ρ 1371 61 then fI ρ 1301 61 / 86400 else aI ρ 110 q) ∧ (aI (mRaise ρ x) 111 q = if q = fI ρ 1371 61 then 1 else aI ρ 111 q) := by
  unfold mRaise
  simp only [aI_pI, aI_qI, Int.reduceEq, false_and, if_false, true_and, and_self]
theorem mRaise_n (ρ : Hp) (x : Int) : fI (mRaise ρ x) 1371 61 = fI ρ 1371 61 + 1 := by
  unfold mRaise
  rw [fI_pI]
  exact if_pos ⟨rfl, rfl⟩
theorem Rf_raise (ρ : Hp) (x : Int) : Rf [1300, 1371] [109, 110, 111] ρ (mRaise ρ x) := ((((Rf_thr _ _ ρ 0 (by decide)).q (by decide)).q (by decide)).q (by decide)).p (by decide)
theorem CE_raise (ρ : Hp) (x : Int) : CE ρ (mRaise ρ x) := ((((CE_pI ρ 61 0 (by decide)).tr (CE_qI _ _ _ (by decide))).tr (CE_qI _ _ _ (by decide))).tr (CE_qI _ _ _ (by decide))).tr (CE_pI _ 61 _ (by decide))
/-- a new alarm that nobody is sent to yet -/
theorem Snt_raise {ρ : Hp} {x : Int} (hI : MI ρ) (hS : InS2 ρ) (hH : HIs ρ) (hN : InN ρ) (hx : 0 ≤ x ∧ x < fI ρ 1302 61) (hn : ¬ fI ρ 1371 61 = 100) : Snt (mRaise ρ x) (fI ρ 1371 61) := by
  have rf := Rf_raise ρ x
  have as := hI.alarms_s
  have bs := hI.boxes_s
  have ns := hI.now_s
  have nw := hN.2.1 (fI ρ 1371 61) (by omega)
  have hM : MI (mRaise ρ x) := MI_alarms_p (MI_calls_q (MI_alarmDay_q (MI_alarmBox_q (MI_fre hI (by decide)) (by omega)) (by omega)) (by omega)) (by omega)
  have en := mRaise_n ρ x
  have e1 := rf.2 89 (by omega) (by omega) (by decide)
  have e2 := rf.2 90 (by omega) (by omega) (by decide)
  have e3 := rf.2 112 (by omega) (by omega) (by decide)
  have e4 := rf.2 115 (by omega) (by omega) (by decide)
  have e5 := rf.2 116 (by omega) (by omega) (by decide)
  have e6 := rf.1 1335 (by omega) (by omega) (by decide)
  refine ⟨hM, ⟨?_, ?_, ?_⟩, hH.rf rf (by decide) (by decide), by rw [en]; omega, by rw [e3]; exact nw.1⟩
  · rw [e1, e2, e3, e4, e5, e6, en]
    intro c q1 q2 q3
    obtain ⟨k1, k2, k3⟩ := hS.1 c q1 q2 q3
    exact ⟨⟨k1.1, by omega⟩, k2, k3⟩
  · rw [e1, e2, e3, e4, e5, e6, en]
    intro a i q1 q2
    by_cases e : a = fI ρ 1371 61
    · rw [e, nw.2.2.2] at q2
      omega
    · exact hS.2.1 a i (by omega) q2
  · rw [e3, e4, en]
    intro a q1 q2
    have em : mTo (mRaise ρ x) a = mTo ρ a := by
      unfold mTo
      rw [e1, e2, e6]
    rw [em]
    by_cases e : a = fI ρ 1371 61
    · rw [e, nw.2.2.2]
      exact (hwM_in _ _).1
    · exact hS.2.2 a (by omega) q2
/-- the class's new alarm -/
theorem cAlm_v (hn : 1 ≤ nx σ) (p b d : Int) (hp : p = nx σ) : nx (cAlm (mk σ 1 0) p b d) = p + 2 ∧ (∀ k, kd (cAlm (mk σ 1 0) p b d) k = if k = p + 1 then 101 else if k = p then 1 else kd σ k) ∧ ln (cAlm (mk σ 1 0) p b d) (p + 1) = 20 ∧ (fR (cAlm (mk σ 1 0) p b d) 100 p = b ∧ fR (cAlm (mk σ 1 0) p b d) 102 p = p + 1) ∧ (fI (cAlm (mk σ 1 0) p b d) 101 p = d ∧ fI (cAlm (mk σ 1 0) p b d) 104 p = 1 ∧ fI (cAlm (mk σ 1 0) p b d) 105 p = 0 ∧ fI (cAlm (mk σ 1 0) p b d) 106 p = 0 ∧ fI (cAlm (mk σ 1 0) p b d) 107 p = 0) ∧ fI (cAlm (mk σ 1 0) p b d) 3001 0 = fI σ 3001 0 ∧ fI (cAlm (mk σ 1 0) p b d) 1402 = fI σ 1402 := by
  subst hp
  have e : ∀ k, fI (cAlm (mk σ 1 0) (nx σ) b d) 1402 k = fI σ 1402 k := fun k => by
    unfold cAlm
    simp only [fI_pI, fI_pR, fI_mk, Nat.reduceEqDiff, false_and, if_false]
  refine ⟨?_, fun k => ?_, ?_, ?_, ?_, ?_, funext e⟩
  · unfold cAlm
    simp only [nx_pI, nx_pR, nx_mk]
    omega
  · unfold cAlm
    simp only [kd_pI, kd_pR, kd_mk, nx_mk]
  · unfold cAlm
    simp only [ln_pI, ln_pR, ln_mk, nx_mk, if_true]
  · unfold cAlm
    simp only [fR_pI, fR_pR, nx_mk, Nat.reduceEqDiff, false_and, and_self, if_true, if_false]
  · unfold cAlm
    simp only [fI_pI, fI_pR, fI_mk, Nat.reduceEqDiff, false_and, true_and, and_self, if_true, if_false]
  · unfold cAlm
    simp only [fI_pI, fI_pR, fI_mk, Nat.reduceEqDiff, false_and, if_false]
end ALM
theorem fu_alarm {b n x d : Int} {σ σ1 σ2 τ : Hp} (hF : Fu b n σ) (hb : b < 0) (hw : Wf σ) (hw1 : Wf σ1) (hw2 : Wf σ2) (c : (0 ≤ x ∧ x < fI σ 1302 61) ∧ ¬ fI σ 1371 61 = 100) (hd : d = fI σ 1301 61 / 86400) (g1 : BG σ1 (mAns (mRaise (w9 σ) x) (fI (w9 σ) 1371 61))) (g2 : AlS σ1 (mAns (mRaise (w9 σ) x) (fI (w9 σ) 1371 61)) (fI (w9 σ) 1371 61) (nx σ)) (y : Fz ansF (ansA (nx σ)) noR (cAlm (mk σ 1 0) (nx σ) (lat σ 3 x) d) σ1) (hA2 : Added σ1 28 (nx σ) σ2) (hL2 : LOk σ2 28 0) (e2 : τ = mAns (mRaise σ2 x) (fI σ2 1371 61)) : Fu b n τ := by
  obtain ⟨⟨hC, hnw, hX, hL, hG, hA, hK, hR, hH, hT, hLT, hTX, hLD⟩, ⟨iM, iB, iF, iU, iC, iW, iA, iH, iG, iN, iS, iT⟩, hS⟩ := hF
  have eA : fI (w9 σ) 1371 61 = fI σ 1371 61 := ((RE_w9 σ).2 1371 (by omega) (by omega)).1
  rw [eA] at g1 g2
  have hbx := hX.2.2 x c.1.1 c.1.2
  have kbx := hX.k c.1.1 c.1.2
  have hnx := hw.1
  have hq : 120 < nx σ := by
    have := (hw.2.1 (lat σ 3 x) (by rw [kbx]; decide)).2.1
    have := hbx.1
    omega
  have z0 := cAlm_kp hw (lat σ 3 x) d
  have v0 := cAlm_v hnx (nx σ) (lat σ 3 x) d rfl
  have f5 : ∀ k, ¬ k = nx σ → fI (cAlm (mk σ 1 0) (nx σ) (lat σ 3 x) d) 103 k = fI σ 103 k := fun k hk9 => by
    unfold cAlm
    simp only [fI_pI, fI_pR, fI_mk, Nat.reduceEqDiff, false_and, if_false, true_and, hk9]
  have ls0 := lists_ok hX hG hA hL
  obtain ⟨p, ep⟩ : ∃ q : Int, q = nx σ := ⟨_, rfl⟩
  rw [← ep] at hq z0 v0 f5 g2 y hA2
  obtain ⟨σa, ea⟩ : ∃ ρ9 : Hp, ρ9 = cAlm (mk σ 1 0) p (lat σ 3 x) d := ⟨_, rfl⟩
  rw [← ea] at z0 v0 f5 y
  clear ea
  obtain ⟨v1, v2, v3, ⟨v4, v5⟩, ⟨v6, v7, v8, v9, v10⟩, v11, v12⟩ := v0
  have C0 : CLay σa := hC.kp z0 (fun q => q) (fun q => q)
  have C1 : CLay σ1 := C0.fz y (by decide)
  have L0 : ∀ q ci, LOk σ q ci → LOk σ1 q ci ∧ fI σ1 1402 q = fI σ 1402 q ∧ ∀ i, lat σ1 q i = lat σ q i := fun q ci h => by
    have h1 := h.kp z0 (fun q => q) (fun q => q)
    exact ⟨h1.1.fz y (by decide) (by decide) (by decide), by rw [y.fI (f := 1402) (by decide)]; exact h1.2.1, fun i => by rw [y.elt (by decide)]; exact h1.2.2 i⟩
  have L28 := L0 28 0 hA.1
  have zA : Kp (fun k => k = 28) (fun k => k = fR σ1 1401 28) σ1 σ2 := hA2.kp hw1
  have na : ∀ k, ¬ kd σ1 k = 105 → ¬ k = fR σ1 1401 28 := fun k hk e => hk (by rw [e]; exact L28.1.2.1)
  have C2 : CLay σ2 := C1.kp zA (na 2 (by simp only [C1.eqs]; decide)) (na 7 (by simp only [C1.eqs]; decide))
  have LD1 : LD σ1 := (hLD.kp z0 (fun _ _ q => q) (fun q h => by obtain ⟨ci, g⟩ := ls0 q h; rw [g.1]; decide) (fun q h => by obtain ⟨ci, g⟩ := ls0 q h; rw [g.2.1]; decide)).fz y (by decide)
  have LD2 : LD σ2 := LD1.add hw1.bel hA2 (fun q h => by obtain ⟨ci, g⟩ := ls0 q h; rw [(L0 q ci g).1.2.1]; decide)
  have LL : ∀ q ci, isLs q → ¬ q = 28 → LOk σ q ci → LOk σ2 q ci ∧ fI σ2 1402 q = fI σ1 1402 q ∧ ∀ i, 0 ≤ i → i < fI σ1 1402 q → lat σ2 q i = lat σ1 q i := fun q ci hq1 hq2 h => LOk.added hw1 hA2 (L0 q ci h).1 hq2 (fun e => LD1 q 28 hq1 (Or.inr (Or.inr (Or.inl rfl))) hq2 e)
  have re0 : RE σ σa := z0.re iM.1.lay (fun _ _ _ q => q)
  have re1 : RE σa σ1 := y.re (by decide) (fun r q => by unfold ansA at q; omega) (fun r q => absurd q id)
  have I1 : MI σ1 := MI_RE (re0.tr re1) iM.1
  have re2 : RE σ1 σ2 := zA.re I1.lay (fun k q1 q2 q3 => by omega)
  have re : RE σ σ2 := (re0.tr re1).tr re2
  have I2 : MI σ2 := MI_RE re iM.1
  have al2 : fI σ2 1371 61 = fI σ 1371 61 := (re.2 1371 (by omega) (by omega)).1
  have bo2 : fI σ2 1302 61 = fI σ 1302 61 := (re.2 1302 (by omega) (by omega)).1
  have Snt0 := Snt_raise (x := x) I2 (iS.re re) (iH.re re) (iN.re re) (by rw [bo2]; exact c.1) (by rw [al2]; exact c.2)
  have SntT : Snt τ (fI σ2 1371 61) := by
    rw [e2]
    exact Snt_ans Snt0
  have mi : MI τ := SntT.1
  have ce : CE σ2 τ := by
    rw [e2]
    exact (CE_raise σ2 x).tr (CE_mAns _ _)
  have rc := Rf_raise σ2 x
  have ha : 0 ≤ fI σ2 1371 61 ∧ fI σ2 1371 61 < 100 := by have := iM.1.alarms_s; rw [al2]; omega
  have rf : Rf [1300, 1371] [109, 110, 111, 91, 89, 90, 116, 115, 100, 101, 102, 103, 104, 105, 106, 107, 108] σ2 τ := by
    rw [e2]
    exact (rc.up (by decide) (by decide)).tr ((Rf_mAns ha Snt0.1 (Snt0.2.1.2.2 _ Snt0.2.2.2.1 Snt0.2.2.2.2)).up (by decide) (by decide))
  have r0 : RE (mAns (mRaise (w9 σ) x) (fI σ 1371 61)) τ := by
    rw [e2, al2]
    exact RE_ans (RE_raise ((RE_w9 σ).sy.tr re) x) _
  have alT : fI τ 1371 61 = fI σ 1371 61 + 1 := by
    rw [e2, (mAns_c ha Snt0.1 (Snt0.2.1.2.2 _ Snt0.2.2.2.1 Snt0.2.2.2.2)).1, mRaise_n, al2]
  have vT : ∀ q, (aI τ 109 q = if q = fI σ 1371 61 then x else aI σ 109 q) ∧ (aI τ 110 q = if q = fI σ 1371 61 then d else aI σ 110 q) ∧ (aI τ 111 q = if q = fI σ 1371 61 then 1 else aI σ 111 q) := fun q => by
    rw [e2, mAns_a _ _ (r := 109) (by decide) (by decide), mAns_a _ _ (r := 110) (by decide) (by decide), mAns_a _ _ (r := 111) (by decide) (by decide)]
    have u := mRaise_v σ2 x q
    rw [al2, (re.2 1301 (by omega) (by omega)).1, (re.1 109 (by omega) (by omega)).2.2.1, (re.1 110 (by omega) (by omega)).2.2.1, (re.1 111 (by omega) (by omega)).2.2.1, ← hd] at u
    exact u
  have oth := Oth_ans Snt0
  rw [← e2] at oth
  have oth2 : ∀ q, ¬ q = fI σ 1371 61 → aI τ 115 q = aI σ 115 q ∧ ∀ i, 0 ≤ i → i < 20 → aI τ 116 (20 * q + i) = aI σ 116 (20 * q + i) := fun q hq => by
    have u := oth q (by rw [al2]; exact hq)
    rw [rc.2 115 (by omega) (by omega) (by decide), rc.2 116 (by omega) (by omega) (by decide), (re.1 115 (by omega) (by omega)).2.2.1, (re.1 116 (by omega) (by omega)).2.2.1] at u
    exact u
  have ar : ∀ r, 62 ≤ r → r ≤ 119 → r ∉ ([109, 110, 111, 91, 89, 90, 116, 115, 100, 101, 102, 103, 104, 105, 106, 107, 108] : List Int) → aI τ r = aI σ r := fun r p1 p2 p3 => (rf.2 r p1 p2 p3).trans (re.1 r (by omega) p2).2.2.1
  have k1a : ∀ k, kd σ k ≠ 0 → kd σ1 k = kd σ k := fun k hk => by rw [y.kd]; exact z0.k hk
  have fo : ∀ f k, kd σ k ≠ 0 → f < 1400 → f ∉ ansF → fI σ2 f k = fI σ f k := fun f k hk hf h => by
    rw [zA.i (by rw [k1a k hk]; exact hk) hf, y.fI h, z0.i hk hf]
  have fr : ∀ f k, kd σ k ≠ 0 → f < 1400 → f ∉ ansF → fR σ2 f k = fR σ f k := fun f k hk hf h => by
    rw [zA.r (by rw [k1a k hk]; exact hk) hf, y.fR h, z0.r hk hf]
  have aio : ∀ k, kd σ k ≠ 0 → ¬ ansA p k → aI σ2 k = aI σ k := fun k hk h => by
    rw [zA.ai (by rw [k1a k hk]; exact hk), y.aI h, z0.ai hk]
  have ko : ∀ k, kd σ k ≠ 0 → kd σ2 k = kd σ k ∧ ln σ2 k = ln σ k := fun k hk => by
    rw [zA.k (by rw [k1a k hk]; exact hk), zA.l (by rw [k1a k hk]; exact hk), k1a k hk, y.ln, z0.l hk]
    exact ⟨rfl, rfl⟩
  have b3 : fI σ1 1402 3 = fI σ 1302 61 := (L0 3 2 hX.1).2.1.trans hX.2.1
  have LL3 := LL 3 2 (Or.inl rfl) (by omega) hX.1
  have l3 : ∀ i, 0 ≤ i → i < fI σ 1302 61 → lat σ2 3 i = lat σ1 3 i := fun i p1 p2 => LL3.2.2 i p1 (by rw [b3]; exact p2)
  have l3' : ∀ i, 0 ≤ i → i < fI σ 1302 61 → lat σ2 3 i = lat σ 3 i := fun i p1 p2 => (l3 i p1 p2).trans ((L0 3 2 hX.1).2.2 i)
  have kn : ∀ {k : Int} {m : Nat}, kd σ k = m → m ≠ 0 → kd σ k ≠ 0 := fun h1 h2 => by rw [h1]; exact h2
  have c1 : kd σ 1 ≠ 0 := by simp only [hC.eqs]; decide
  have c24 : kd σ 24 ≠ 0 := by simp only [hC.eqs]; decide
  have c25 : kd σ 25 ≠ 0 := by simp only [hC.eqs]; decide
  have c27 : kd σ 27 ≠ 0 := by simp only [hC.eqs]; decide
  have c29 : kd σ 29 ≠ 0 := by simp only [hC.eqs]; decide
  have c30 : kd σ 30 ≠ 0 := by simp only [hC.eqs]; decide
  have c31 : kd σ 31 ≠ 0 := by simp only [hC.eqs]; decide
  have r_BX : BX σ2 τ := (((((hX.kp z0 (fun q => q) (fun q => q)).fz y (by decide) (by decide) (by decide) (by decide)).ad zA LL3).re re)).rf rf (by decide) (by decide)
  have r_LR : ∀ l, 0 ≤ l → l < 4 → LR l σ2 τ := fun l a1 a2 => ((((((hL l a1 a2).kp hC ⟨a1, a2⟩ z0 (fun q => q) (fun q => q) (fun k p1 p2 => (hX.1.kp z0 (fun q => q) (fun q => q)).2.2 _)).fz C0 ⟨a1, a2⟩ y (by decide) (by decide) (by decide) (by decide) (by decide) (fun r h1 h2 => by unfold ansA; omega))).ad C1 ⟨a1, a2⟩ zA (LL (46 + 4 * l) 2 (by unfold isLs; omega) (by omega) (hL l a1 a2).1.1.1) (fun k p1 p2 => l3 _ (iM.1.boxAt_ _).1 (iB.1 l k a1 a2 p1 p2).1)).re re).rf rf (by decide)
  have r_BG : BG σ2 τ := (g1.ad C1 zA (LL 18 5 (Or.inr (Or.inl rfl)) (by omega) hG.1)).re r0
  have r_DKR : DKR σ2 τ := ((((hK.kp hC z0).fz y (by decide) (fun r q => by unfold ansA at q; omega)).kp C1 zA).re re).rf rf (by decide) (by decide)
  have r_RDR : RDR σ2 τ := ((((hR.kp hC z0).fz y (by decide) id).kp C1 zA).re re).rf rf (by decide) (by decide)
  have r_TG : TGr σ2 := ((hT.kp hC z0).fz y (by unfold ansA; omega) (by unfold ansA; omega)).kp C1 zA
  have r_LTT : LTT σ2 := ((hLT.kp hC z0).fz y (by decide) (by unfold ansA; omega)).1.kp C1 zA
  have s0 : S21 σa := fun k hk => by
    rw [v2] at hk
    by_cases q1 : k = p + 1
    · rw [if_pos q1] at hk
      omega
    · rw [if_neg q1] at hk
      by_cases q2 : k = p
      · rw [if_pos q2] at hk
        omega
      · rw [if_neg q2] at hk
        exact hw.s21 k hk
  have s1 : S21 σ1 := fun k hk => s0 k (by rw [← y.kd]; exact hk)
  obtain ⟨t1, t2, t3, t4, t5, t6, t7, t8, t9, t10, t11, t12, t13⟩ := hA2
  have n1 := hw1.1
  have r_TXT : TXT σ2 := ((hTX.kp hw.s21 s0 z0 (fun _ _ q => q) (fun k hk => by rw [v2, if_neg (by omega), if_neg (by omega)]) v11).fz y (by decide) (fun r q e => by have := s0 r (Or.inr e); unfold ansA at q; omega)).kp s1 hw2.s21 zA (fun k hk q => by omega) (fun k hk => (t2 k (by omega)).1) (t4 3001 0 (by omega))
  have al1 : fI σ1 1402 28 = fI σ 1371 61 := L28.2.1.trans hA.2.1
  have as := iM.1.alarms_s
  have r_AL : AL σ2 τ := by
    refine ⟨hL2, by rw [t5, al1, alT], fun q q1 q2 => ?_, fun q r q1 q2 q3 => ?_, fun w => ?_, ?_⟩
    · rw [alT] at q2
      obtain ⟨u1, u2, u3⟩ := vT q
      by_cases e : q = fI σ 1371 61
      · have el : lat σ2 28 q = p := by rw [e, ← al1]; exact t13
        rw [el]
        have kp1 : kd σ1 p = 1 := by rw [y.kd, v2, if_neg (by omega), if_pos rfl]
        have kp : kd σ1 p ≠ 0 := by rw [kp1]; decide
        have kq1 : kd σ1 (p + 1) = 101 := by rw [y.kd, v2, if_pos rfl]
        have kq : kd σ1 (p + 1) ≠ 0 := by rw [kq1]; decide
        have row := g2.row r0
        have nn := iN.2.1 (fI σ 1371 61) (by omega)
        rw [if_pos e] at u1 u2 u3
        unfold AlE
        rw [zA.r kp (by decide), zA.r kp (by decide), zA.k kq, zA.l kq, zA.ai kq, zA.i kp (by decide), zA.i kp (by decide), zA.i kp (by decide), zA.i kp (by decide), zA.i kp (by decide), zA.i kp (by decide), u1, u2, u3, e, row.1]
        refine ⟨hq, ?_, ?_, ?_, kq1, ?_, rfl, row.2, ?_, ?_, ?_, ?_⟩
        · rw [y.fR (by decide), v4]
          exact (l3' x c.1.1 c.1.2).symm
        · rw [y.fI (by decide), v6]
        · rw [y.fR (by decide), v5]
        · rw [y.ln, v3]
        · rw [y.fI (by decide), v7]
        · rw [y.fI (by decide), v8, ar 112 (by omega) (by omega) (by decide), nn.1]
        · rw [y.fI (by decide), v9, ar 113 (by omega) (by omega) (by decide), nn.2.1]
        · rw [y.fI (by decide), v10, ar 114 (by omega) (by omega) (by decide), nn.2.2.1]
      · have hqa : q < fI σ 1371 61 := by omega
        have el : lat σ2 28 q = lat σ 28 q := (t12 q q1 (by rw [al1]; exact hqa)).trans (L28.2.2 q)
        have g := hA.2.2.1 q q1 hqa
        have hkq := hA.k q1 hqa
        have kq : kd σ (lat σ 28 q) ≠ 0 := by rw [hkq]; decide
        have lt := (hw.2.1 _ kq).2.1
        rw [el]
        have kr : kd σ (lat σ 28 q + 1) ≠ 0 := by rw [g.2.2.2.2.1]; decide
        have hpos := g.1
        rw [if_neg e] at u1 u2 u3
        have o2 := oth2 q e
        have sm := iM.1.sentMany_ q
        have c9 : fI σ2 103 (lat σ 28 q) = fI σ 103 (lat σ 28 q) := by
          rw [zA.i (by rw [k1a _ kq]; exact kq) (by decide), g2.2.2.2.2.2.2.2 (lat σ 28 q) (by omega)]
          have q1 : fI (mAns (mRaise (w9 σ) x) (fI σ 1371 61)) 9999 = fI (mRaise (w9 σ) x) 9999 := (CE_mAns (mRaise (w9 σ) x) (fI σ 1371 61)).f 9999 (by omega)
          have q2 : fI (mRaise (w9 σ) x) 9999 = fI (w9 σ) 9999 := (CE_raise (w9 σ) x).f 9999 (by omega)
          rw [q1, q2, w9_f, if_pos rfl]
        unfold AlE at g ⊢
        obtain ⟨k0, k1, k2, k3, k4, k5, k6, k7, k8, k9, k10, k11⟩ := g
        have ab := iA q q1 hqa
        have abx := iM.1.alarmBox_ q
        rw [c9, fr 100 _ kq (by decide) (by decide), fr 102 _ kq (by decide) (by decide), (ko _ kr).1, (ko _ kr).2, aio _ kr (by unfold ansA; omega), fo 101 _ kq (by decide) (by decide), fo 104 _ kq (by decide) (by decide), fo 105 _ kq (by decide) (by decide), fo 106 _ kq (by decide) (by decide), fo 107 _ kq (by decide) (by decide), u1, u2, u3, o2.1, ar 112 (by omega) (by omega) (by decide), ar 113 (by omega) (by omega) (by decide), ar 114 (by omega) (by omega) (by decide), l3' _ abx.1 ab]
        exact ⟨k0, k1, k2, k3, k4, k5, k6, fun i i1 i2 => by rw [o2.2 i i1 (by omega)]; exact k7 i i1 i2, k8, k9, k10, k11⟩
    · rw [alT] at q3
      have el : ∀ k, 0 ≤ k → k < fI σ 1371 61 → lat σ2 28 k = lat σ 28 k := fun k u1 u2 => (t12 k u1 (by rw [al1]; exact u2)).trans (L28.2.2 k)
      rw [el q q1 (by omega)]
      by_cases e : r = fI σ 1371 61
      · have er : lat σ2 28 r = p := by rw [e, ← al1]; exact t13
        rw [er]
        have lt := (hw.2.1 (lat σ 28 q) (by rw [hA.k q1 (by omega)]; decide)).2.1
        omega
      · rw [el r (by omega) (by omega)]
        exact hA.2.2.2.1 q r q1 q2 (by omega)
    · rw [aio 29 c29 (by unfold ansA; omega), aio 30 c30 (by unfold ansA; omega), aio 31 c31 (by unfold ansA; omega), ar 117 (by omega) (by omega) (by decide), ar 119 (by omega) (by omega) (by decide), ar 118 (by omega) (by omega) (by decide)]
      exact hA.2.2.2.2.1 w
    · rw [fo 204 27 c27 (by decide) (by decide), rf.1 1380 (by omega) (by omega) (by decide), (re.2 1380 (by omega) (by omega)).1]
      exact hA.2.2.2.2.2
  have r_now : fI σ2 1210 1 = fI τ 1301 61 := by
    rw [fo 1210 1 c1 (by decide) (by decide), hnw]
    exact ((rf.1 1301 (by omega) (by omega) (by decide)).trans (re.2 1301 (by omega) (by omega)).1).symm
  have r_held : fI σ2 901 24 = fI τ 1343 61 ∧ aI σ2 25 = aI τ 92 := by
    rw [fo 901 24 c24 (by decide) (by decide), aio 25 c25 (by unfold ansA; omega), ar 92 (by omega) (by omega) (by decide), rf.1 1343 (by omega) (by omega) (by decide), (re.2 1343 (by omega) (by omega)).1]
    exact hH
  have kb : kd σ b ≠ 0 := by rw [hS.1.1]; decide
  have k120 : kd σ 120 ≠ 0 := by rw [hS.1.2.1]; decide
  have S2 : Scp σ2 b n := by
    unfold Scp at *
    rw [(ko b kb).1, (ko b kb).2, aio b kb (by unfold ansA; omega), (ko 120 k120).1, (ko 120 k120).2]
    exact hS
  have i_AB : AB τ := by
    intro a q1 q2
    rw [alT] at q2
    rw [(vT a).1, rf.1 1302 (by omega) (by omega) (by decide), bo2]
    by_cases e : a = fI σ 1371 61
    · rw [if_pos e]
      exact c.1.2
    · rw [if_neg e]
      exact iA a q1 (by omega)
  have i_WI : WI τ := by
    intro w q1 q2
    rw [rf.1 1380 (by omega) (by omega) (by decide), (re.2 1380 (by omega) (by omega)).1] at q2
    obtain ⟨k1, k2, k3⟩ := iW w q1 q2
    rw [alT, ar 117 (by omega) (by omega) (by decide), ar 112 (by omega) (by omega) (by decide), ar 114 (by omega) (by omega) (by decide), ar 119 (by omega) (by omega) (by decide)]
    exact ⟨⟨k1.1, by omega⟩, k2, k3⟩
  have i_InN : InN τ := by
    obtain ⟨n0, n2, n3, n4⟩ := iN
    refine ⟨?_, fun a ha2 => ?_, ?_, ?_⟩
    · rw [rf.1 1302 (by omega) (by omega) (by decide), bo2, ar 72 (by omega) (by omega) (by decide), ar 73 (by omega) (by omega) (by decide), ar 70 (by omega) (by omega) (by decide)]
      exact n0
    · rw [alT] at ha2
      rw [(oth2 a (by omega)).1, ar 112 (by omega) (by omega) (by decide), ar 113 (by omega) (by omega) (by decide), ar 114 (by omega) (by omega) (by decide)]
      exact n2 a (by omega)
    · rw [rf.1 1322 (by omega) (by omega) (by decide), rf.1 1321 (by omega) (by omega) (by decide), (re.2 1322 (by omega) (by omega)).1, (re.2 1321 (by omega) (by omega)).1]
      exact n3
    · rw [rf.1 1301 (by omega) (by omega) (by decide), (re.2 1301 (by omega) (by omega)).1, ar 114 (by omega) (by omega) (by decide)]
      exact n4
  have rel : Rel σ2 τ := ⟨C2, r_now, r_BX, r_LR, r_BG, r_AL, r_DKR, r_RDR, r_held, r_TG, r_LTT, r_TXT, LD2⟩
  exact ⟨rel.ce (fun r q => hw2.s21 r (Or.inr q)) ce, ⟨(iM.re re).rf rf mi (by decide) (by decide), (iB.re re).rf rf (by decide) (by decide), (iF.re re).rf rf (by decide), (iU.re re).rf rf (by decide), (iC.re re).rf rf (by decide) (by decide), i_WI, i_AB, SntT.2.2.1, (iG.re re).rf rf (by decide) (by decide), i_InN, SntT.2.1, (iT.re re).rf rf (by decide) (by decide)⟩, S2.ce hb ce⟩
