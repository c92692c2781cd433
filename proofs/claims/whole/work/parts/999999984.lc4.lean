/-! the law's cases in full -/

theorem RdR.re9 {σ σ1 : Hp} (re : RE σ σ1) {l f nb sp res sz : Int} {xs : List (List Int)} (h : RdR (fun u => mTaped σ1 l (f + u)) (fun p u => mK σ1 l (p / 300) (p % 300) u) nb sp res sz xs) : RdR (fun u => mTaped σ l (f + u)) (fun p u => mK σ l (p / 300) (p % 300) u) nb sp res sz xs := by
  have e1 : mTaped σ1 = mTaped σ := by
    funext x y
    unfold mTaped bE
    simp only [re.eqs]
  have e2 : mK σ1 = mK σ := by
    funext x y v w
    unfold mK
    simp only [re.eqs]
  rw [e1, e2] at h
  exact h


set_option maxRecDepth 20000 in
theorem lc_reading {Q : Option AV → Hp → Prop} {σ : Hp} {b n i : Int} {kc ks : Nat} {a5 a6 : Option AV} (hF : Fu b n σ) (hw : Wf σ) (hb : b < 0) (hi : 0 ≤ i ∧ i + 7 ≤ n ∧ n ≤ 3584) (hk : kc + 3 ≤ 601024 ∧ ks + 314 ≤ 7293034) (h : NX Q b n i kc ks) : GoF M_L_law Q 415 [some (vr b), some (vr 1), some (vr 61), some (vr 120), some (vi i), a5, a6] [] σ (kc, ks) := by
  obtain ⟨⟨hC, hnw, hX, hL, hG, hA, hK, hR, hH, hT, hLT, hTX, hLD⟩, ⟨iM, iB, iF, iU, iC, iW, iA, iH, iG, iN, iS, iT⟩, hS⟩ := id hF
  have hI := iM.1
  have s3 := hS.2.2
  have k1 : kd σ 1 = 12 := by simp only [hC.eqs]
  have k61 : kd σ 61 = 13 := hI.lay.1
  have hw21 : ∀ r, kd σ r = 21 → r < 0 := fun r q => hw.s21 r (Or.inr q)
  have nb : 0 ≤ fI σ 1210 1 ∧ fI σ 1210 1 ≤ 999999 := by
    rw [hnw]
    exact hI.now_s
  have hz := h _ kc ks a5 a6 (Fu.th (v := 0) hb hw21 hF) (by omega) (by omega)
  refine ls_reading hS hi ⟨by omega, by omega⟩ fun Q1 hQ => ?_
  rw [us_X11_reading]
  refine ⟨k1, rfl, hC, s3 _, s3 _, s3 _, σ, hnw, hL, hI, iB, fun c => hQ _ σ hS rfl fun _ Q2 hQ2 => ?_, fun c σ1 res sz xs hr z q1 q2 q3 q4 => ?_⟩
  · rw [us_X12_reading]
    exact ⟨k61, rfl, hI, s3 _, s3 _, s3 _, iF, fun _ => hQ2 _ hz, fun w => absurd w c⟩
  · have re : RE σ σ1 := z.re (by decide) (fun r q => by first | exact absurd q id | (dsimp only at q; omega) | omega | (unfold tfA at q; omega) | (unfold tfL at q; omega) | (unfold fewA at q; omega) | (unfold surA at q; omega)) (fun r q => by first | exact absurd q id | (dsimp only at q; omega) | omega | (unfold tfA at q; omega) | (unfold tfL at q; omega) | (unfold fewA at q; omega) | (unfold surA at q; omega))
    obtain ⟨S1, eb⟩ := hS.fz9 z (by first | exact id | (intro q; omega) | (intro q; dsimp only at q; omega) | (intro q; unfold tfA at q; omega) | (intro q; unfold fewA at q; omega) | (intro q; unfold surA at q; omega))
    have k9 : kd σ1 61 = 13 := by rw [z.kd]; exact k61
    have I1 : MI σ1 := MI_RE re hI
    refine hQ _ _ S1 eb fun _ Q2 hQ2 => ?_
    have e1 : fI σ1 1301 61 = fI σ 1301 61 := (re.2 1301 (by omega) (by omega)).1
    have e2 : aI σ1 74 = aI σ 74 := (re.1 74 (by omega) (by omega)).2.2.1
    rw [us_X12_reading, e1, e2]
    refine ⟨k9, rfl, I1, s3 _, s3 _, s3 _, iF.re re, fun w => absurd c w, fun _ τ res2 sz2 xs2 hr2 mi hv _ t1 t2 t3 t4 => ?_⟩
    have u := RdR.uniq (hI.many_ _).2 (by omega) hr (RdR.re9 re hr2)
    rw [← u.2.1] at t3
    rw [← u.2.2] at t4
    rw [← u.1]
    exact hQ2 _ (h _ kc ks a5 a6 (fu_reading hF hb hw21 c.1 hr z q1 q2 q3 q4 mi hv t1 t2 t3 t4) (by omega) (by omega))


set_option maxRecDepth 20000 in
theorem lc_cards {Q : Option AV → Hp → Prop} {σ : Hp} {b n i : Int} {kc ks : Nat} {a5 a6 : Option AV} (hF : Fu b n σ) (hw : Wf σ) (hb : b < 0) (hi : 0 ≤ i ∧ i + 7 ≤ n ∧ n ≤ 3584) (hk : kc + 3 ≤ 601024 ∧ ks + 314 ≤ 7293034) (h : NX Q b n i kc ks) : GoF M_L_law Q 797 [some (vr b), some (vr 1), some (vr 61), some (vr 120), some (vi i), a5, a6] [] σ (kc, ks) := by
  obtain ⟨⟨hC, hnw, hX, hL, hG, hA, hK, hR, hH, hT, hLT, hTX, hLD⟩, ⟨iM, iB, iF, iU, iC, iW, iA, iH, iG, iN, iS, iT⟩, hS⟩ := id hF
  have hI := iM.1
  have s3 := hS.2.2
  have k1 : kd σ 1 = 12 := by simp only [hC.eqs]
  have k61 : kd σ 61 = 13 := hI.lay.1
  have hw21 : ∀ r, kd σ r = 21 → r < 0 := fun r q => hw.s21 r (Or.inr q)
  have nb : 0 ≤ fI σ 1210 1 ∧ fI σ 1210 1 ≤ 999999 := by
    rw [hnw]
    exact hI.now_s
  have hz := h _ kc ks a5 a6 (Fu.th (v := 0) hb hw21 hF) (by omega) (by omega)
  refine ls_cards hS hi ⟨by omega, by omega⟩ fun Q1 hQ => ?_
  rw [us_X11_cards]
  obtain ⟨xs0, -, D, D2, hD, d1, d2, -⟩ := id hK
  have hD2 : D2 = 33 ∨ D2 = 39 := by omega
  refine ⟨k1, rfl, hC, hTX, hLT, D, D2, hD, d1, d2, fun c ρ y => ?_, fun c ρ y hk9 he => ?_⟩
  · have z0 := y.cr hD2
    have z : Fz crF crA noR σ (pI ρ 901 24 0) := z0.tr (Fz_pI _ _ _ (by decide))
    have re : RE σ (pI ρ 901 24 0) := z.re (by decide) (fun r q => by first | exact absurd q id | (dsimp only at q; omega) | omega | (unfold tfA at q; omega) | (unfold tfL at q; omega) | (unfold fewA at q; omega) | (unfold surA at q; omega)) (fun r q => by first | exact absurd q id | (dsimp only at q; omega) | omega | (unfold tfA at q; omega) | (unfold tfL at q; omega) | (unfold fewA at q; omega) | (unfold surA at q; omega))
    obtain ⟨S1, eb⟩ := hS.fz9 z (by first | exact id | (intro q; omega) | (intro q; dsimp only at q; omega) | (intro q; unfold tfA at q; omega) | (intro q; unfold fewA at q; omega) | (intro q; unfold surA at q; omega))
    have k9 : kd (pI ρ 901 24 0) 61 = 13 := by rw [z.kd]; exact k61
    have I1 : MI (pI ρ 901 24 0) := MI_RE re hI
    have e1 : aI (pI ρ 901 24 0) 92 = aI σ 25 := (re.1 92 (by omega) (by omega)).2.2.1.trans hH.2.symm
    have e2 : fI (pI ρ 901 24 0) 1343 61 = fI σ 901 24 := (re.2 1343 (by omega) (by omega)).1.trans hH.1.symm
    have u1 : upL (pI ρ 901 24 0) := iU.re re
    refine hQ _ _ S1 eb fun _ Q2 hQ2 => ?_
    rw [us_X12_cards, e1, e2]
    refine ⟨k9, rfl, I1, u1, fun _ τ mi hu tl _ tu => ?_, fun w => absurd w c⟩
    exact hQ2 _ (h _ kc ks a5 a6 (fu_cards1 hF hb hw21 hD d1 d2 y rfl mi hu tl tu) (by omega) (by omega))
  · have z0 := y.cr hD2
    have z : Fz crF crA noR σ (pR (pR (pI ρ 901 24 0) 501 26 D) 1209 1 D2) := (((z0.tr (Fz_pI _ _ _ (by decide))).tr (Fz_pR _ _ _ (by decide))).tr (Fz_pR _ _ _ (by decide)))
    have re : RE σ (pR (pR (pI ρ 901 24 0) 501 26 D) 1209 1 D2) := z.re (by decide) (fun r q => by first | exact absurd q id | (dsimp only at q; omega) | omega | (unfold tfA at q; omega) | (unfold tfL at q; omega) | (unfold fewA at q; omega) | (unfold surA at q; omega)) (fun r q => by first | exact absurd q id | (dsimp only at q; omega) | omega | (unfold tfA at q; omega) | (unfold tfL at q; omega) | (unfold fewA at q; omega) | (unfold surA at q; omega))
    obtain ⟨S1, eb⟩ := hS.fz9 z (by first | exact id | (intro q; omega) | (intro q; dsimp only at q; omega) | (intro q; unfold tfA at q; omega) | (intro q; unfold fewA at q; omega) | (intro q; unfold surA at q; omega))
    have k9 : kd (pR (pR (pI ρ 901 24 0) 501 26 D) 1209 1 D2) 61 = 13 := by rw [z.kd]; exact k61
    have I1 : MI (pR (pR (pI ρ 901 24 0) 501 26 D) 1209 1 D2) := MI_RE re hI
    have e1 : aI (pR (pR (pI ρ 901 24 0) 501 26 D) 1209 1 D2) 92 = aI σ 25 := (re.1 92 (by omega) (by omega)).2.2.1.trans hH.2.symm
    have e2 : fI (pR (pR (pI ρ 901 24 0) 501 26 D) 1209 1 D2) 1343 61 = fI σ 901 24 := (re.2 1343 (by omega) (by omega)).1.trans hH.1.symm
    have u1 : upL (pR (pR (pI ρ 901 24 0) 501 26 D) 1209 1 D2) := iU.re re
    refine hQ _ _ S1 eb fun _ Q2 hQ2 => ?_
    rw [us_X12_cards, e1, e2]
    refine ⟨k9, rfl, I1, u1, fun w => absurd c w, fun _ τ mi hu tl _ tu tc ts => ?_⟩
    have kb := kB_in (aI σ 25) (z := fI σ 901 24) (p := 0) (by rw [hH.1]; exact hI.lettered_s.1)
    have hg := cdR_good (aI σ 25) (z := fI σ 901 24) 25 0 (kB (aI σ 25) (fI σ 901 24) 0) kb.1 kb.2 (by omega) c
    exact hQ2 _ (h _ kc ks a5 a6 (fu_cards2 hF hb hw21 hD d1 d2 y rfl hk9 he ⟨hg.1, by have := hg.2; omega⟩ mi hu tl tu tc ts) (by omega) (by omega))


set_option maxRecDepth 20000 in
theorem lc_again {Q : Option AV → Hp → Prop} {σ : Hp} {b n i : Int} {kc ks : Nat} {a5 a6 : Option AV} (hF : Fu b n σ) (hw : Wf σ) (hb : b < 0) (hi : 0 ≤ i ∧ i + 7 ≤ n ∧ n ≤ 3584) (hk : kc + 3 ≤ 601024 ∧ ks + 314 ≤ 7293034) (h : NX Q b n i kc ks) : GoF M_L_law Q 835 [some (vr b), some (vr 1), some (vr 61), some (vr 120), some (vi i), a5, a6] [] σ (kc, ks) := by
  obtain ⟨⟨hC, hnw, hX, hL, hG, hA, hK, hR, hH, hT, hLT, hTX, hLD⟩, ⟨iM, iB, iF, iU, iC, iW, iA, iH, iG, iN, iS, iT⟩, hS⟩ := id hF
  have hI := iM.1
  have s3 := hS.2.2
  have k1 : kd σ 1 = 12 := by simp only [hC.eqs]
  have k61 : kd σ 61 = 13 := hI.lay.1
  have hw21 : ∀ r, kd σ r = 21 → r < 0 := fun r q => hw.s21 r (Or.inr q)
  have nb : 0 ≤ fI σ 1210 1 ∧ fI σ 1210 1 ≤ 999999 := by
    rw [hnw]
    exact hI.now_s
  have hz := h _ kc ks a5 a6 (Fu.th (v := 0) hb hw21 hF) (by omega) (by omega)
  refine ls_again hS hi ⟨by omega, by omega⟩ fun Q1 hQ => ?_
  rw [us_X11_again]
  have rw9 := RE_w9 σ
  have eA : fI (w9 σ) 1371 61 = fI σ 1371 61 := (rw9.2 1371 (by omega) (by omega)).1
  have eO : aI (w9 σ) 112 = aI σ 112 := (rw9.1 112 (by omega) (by omega)).2.2.1
  have eC : aI (w9 σ) 111 = aI σ 111 := (rw9.1 111 (by omega) (by omega)).2.2.1
  refine ⟨k1, rfl, hC, s3 _, w9 σ, ⟨hK.re rw9, hG.re rw9, hA.re rw9, hX.re rw9, MI_RE rw9 hI, iW.re rw9, iA.re rw9⟩, ⟨hnw.trans (rw9.2 1301 (by omega) (by omega)).1.symm, fun k => by rw [w9_f, if_pos rfl]⟩, fun q1 q2 q3 => (iS.re rw9).2.2 _ ⟨q1, q2⟩ q3, fun c σ1 g1 g2 y => ?_, fun c => hQ _ σ hS rfl fun _ Q2 hQ2 => ?_⟩
  · rw [eA, eO, eC] at c
    have gp := (hA.2.2.1 (aI σ b (i + 1)) c.1.1 c.1.2).1
    have z : Fz agF agA noR σ σ1 := (Fz_pI (fs := agF) (f := 104) _ _ _ (by decide)).tr (y.up (by decide) (fun r q => by unfold ansA at q; show r = 32 ∨ r = 38 ∨ r = 44 ∨ 120 < r; omega) (fun r q => q))
    have re : RE σ σ1 := z.re (by decide) (fun r q => by first | exact absurd q id | (dsimp only at q; omega) | omega | (unfold tfA at q; omega) | (unfold tfL at q; omega) | (unfold fewA at q; omega) | (unfold surA at q; omega)) (fun r q => by first | exact absurd q id | (dsimp only at q; omega) | omega | (unfold tfA at q; omega) | (unfold tfL at q; omega) | (unfold fewA at q; omega) | (unfold surA at q; omega))
    obtain ⟨S1, eb⟩ := hS.fz9 z (by intro q; show False; have q : b = 32 ∨ b = 38 ∨ b = 44 ∨ 120 < b := q; omega)
    have k9 : kd σ1 61 = 13 := by rw [z.kd]; exact k61
    have I1 : MI σ1 := MI_RE re hI
    have e1 : fI σ1 1371 61 = fI σ 1371 61 := (re.2 1371 (by omega) (by omega)).1
    have e2 : aI σ1 112 = aI σ 112 := (re.1 112 (by omega) (by omega)).2.2.1
    have e3 : aI σ1 111 = aI σ 111 := (re.1 111 (by omega) (by omega)).2.2.1
    refine hQ _ _ S1 eb fun _ Q2 hQ2 => ?_
    have g := hQ2 _ (h _ kc ks a5 a6 (fu_again hF hb hw21 c (by rw [eC]) g1 g2 y rfl) (by omega) (by omega))
    rw [eC] at g
    rw [us_X12_again, e1, e2, e3]
    exact ⟨k9, rfl, I1, s3 _, iC.re re, fun q1 q2 q3 => (iS.re re).2.2 _ ⟨q1, by rw [e1]; exact q2⟩ (by rw [e2]; exact q3), fun _ => g, fun w => absurd c w⟩
  · rw [eA, eO, eC] at c
    rw [us_X12_again]
    exact ⟨k61, rfl, hI, s3 _, iC, fun q1 q2 q3 => iS.2.2 _ ⟨q1, q2⟩ q3, fun w => absurd w c, fun _ => hQ2 _ hz⟩


set_option maxRecDepth 20000 in
theorem lc_alarm {Q : Option AV → Hp → Prop} {σ : Hp} {b n i : Int} {kc ks : Nat} {a5 a6 : Option AV} (hF : Fu b n σ) (hw : Wf σ) (hb : b < 0) (hi : 0 ≤ i ∧ i + 7 ≤ n ∧ n ≤ 3584) (hk : kc + 3 ≤ 601024 ∧ ks + 314 ≤ 7293034) (h : NX Q b n i kc ks) : GoF M_L_law Q 810 [some (vr b), some (vr 1), some (vr 61), some (vr 120), some (vi i), a5, a6] [] σ (kc, ks) := by
  obtain ⟨⟨hC, hnw, hX, hL, hG, hA, hK, hR, hH, hT, hLT, hTX, hLD⟩, ⟨iM, iB, iF, iU, iC, iW, iA, iH, iG, iN, iS, iT⟩, hS⟩ := id hF
  have hI := iM.1
  have s3 := hS.2.2
  have k1 : kd σ 1 = 12 := by simp only [hC.eqs]
  have k61 : kd σ 61 = 13 := hI.lay.1
  have hw21 : ∀ r, kd σ r = 21 → r < 0 := fun r q => hw.s21 r (Or.inr q)
  have nb : 0 ≤ fI σ 1210 1 ∧ fI σ 1210 1 ≤ 999999 := by
    rw [hnw]
    exact hI.now_s
  have hz := h _ kc ks a5 a6 (Fu.th (v := 0) hb hw21 hF) (by omega) (by omega)
  refine ls_alarm hS hi ⟨by omega, by omega⟩ fun Q1 hQ => ?_
  rw [us_X11_alarm]
  have rw9 := RE_w9 σ
  have eA : fI (w9 σ) 1371 61 = fI σ 1371 61 := (rw9.2 1371 (by omega) (by omega)).1
  have eB : fI (w9 σ) 1302 61 = fI σ 1302 61 := (rw9.2 1302 (by omega) (by omega)).1
  have eN : fI (w9 σ) 1301 61 = fI σ 1301 61 := (rw9.2 1301 (by omega) (by omega)).1
  have n9 := (iN.re rw9).2.1 _ (Int.le_refl _)
  refine ⟨k1, rfl, hC, s3 _, w9 σ, ⟨hK.re rw9, hG.re rw9, hA.re rw9, hX.re rw9, MI_RE rw9 hI, iW.re rw9, iA.re rw9⟩, ⟨hnw.trans eN.symm, fun k => by rw [w9_f, if_pos rfl]⟩, ⟨n9.2.2.2, n9.1⟩, fun c σ1 σ2 hw1 g1 g2 y hA2 hL2 => ?_, fun c => hQ _ σ hS rfl fun _ Q2 hQ2 => ?_⟩
  · have c0 := c
    rw [eA, eB] at c
    have hbx := hX.2.2 (aI σ b (i + 1)) c.1.1 c.1.2
    have kbx := hX.k c.1.1 c.1.2
    have hnx : 120 < nx σ := by
      have := (hw.2.1 (lat σ 3 (aI σ b (i + 1))) (by rw [kbx]; decide)).2.1
      have := hbx.1
      omega
    have z0 := cAlm_kp hw (lat σ 3 (aI σ b (i + 1))) (fI (w9 σ) 1301 61 / 86400)
    have zA : Kp (fun k => k = 28) (fun k => k = fR σ1 1401 28) σ1 σ2 := hA2.kp hw1
    have re0 := z0.re hI.lay (fun _ _ _ q => q)
    have re1 := y.re (by decide) (fun r q => by unfold ansA at q; omega) (fun r q => absurd q id)
    have re2 : RE σ1 σ2 := zA.re (MI_RE (re0.tr re1) hI).lay (fun k q1 q2 q3 => by omega)
    have re : RE σ σ2 := (re0.tr re1).tr re2
    have I2 : MI σ2 := MI_RE re hI
    obtain ⟨Sa, ea⟩ := hS.kp9 z0
    obtain ⟨Sb, eb⟩ := Sa.fz9 y (by intro q; unfold ansA at q; omega)
    obtain ⟨Sc, ec⟩ := Sb.kp9 zA
    have e1 : fI σ2 1371 61 = fI σ 1371 61 := (re.2 1371 (by omega) (by omega)).1
    have e2 : fI σ2 1302 61 = fI σ 1302 61 := (re.2 1302 (by omega) (by omega)).1
    have e3 : fI (w9 σ) 1371 61 = fI σ2 1371 61 := eA.trans e1.symm
    refine hQ _ _ Sc ((ec.trans eb).trans ea) fun hw2 Q2 hQ2 => ?_
    have g := hQ2 _ (h _ (kc + 3) (ks + 178) a5 a6 (fu_alarm hF hb hw hw1 hw2 c (by rw [eN]) g1 g2 y hA2 hL2 rfl) (by omega) (by omega))
    rw [e3] at g
    rw [us_X12_alarm]
    refine ⟨I2.lay.1, rfl, I2, s3 _, iC.re re, ((iN.re re).2.1 _ (Int.le_refl _)).2.2.2, fun _ => g, fun w => absurd ?_ w⟩
    rw [e1, e2]
    exact c
  · rw [eA, eB] at c
    rw [us_X12_alarm]
    have hz2 := h _ (kc + 3) (ks + 178) a5 a6 (Fu.th (v := 0) hb hw21 hF) (by omega) (by omega)
    exact ⟨k61, rfl, hI, s3 _, iC, (iN.2.1 _ (Int.le_refl _)).2.2.2, fun w => absurd w c, fun _ => hQ2 _ hz2⟩


set_option maxRecDepth 20000 in
theorem lc_company {Q : Option AV → Hp → Prop} {σ : Hp} {b n i : Int} {kc ks : Nat} {a5 a6 : Option AV} (hF : Fu b n σ) (hw : Wf σ) (hb : b < 0) (hi : 0 ≤ i ∧ i + 7 ≤ n ∧ n ≤ 3584) (hk : kc + 3 ≤ 601024 ∧ ks + 314 ≤ 7293034) (h : NX Q b n i kc ks) : GoF M_L_law Q 576 [some (vr b), some (vr 1), some (vr 61), some (vr 120), some (vi i), a5, a6] [] σ (kc, ks) := by
  obtain ⟨⟨hC, hnw, hX, hL, hG, hA, hK, hR, hH, hT, hLT, hTX, hLD⟩, ⟨iM, iB, iF, iU, iC, iW, iA, iH, iG, iN, iS, iT⟩, hS⟩ := id hF
  have hI := iM.1
  have s3 := hS.2.2
  have k1 : kd σ 1 = 12 := by simp only [hC.eqs]
  have k61 : kd σ 61 = 13 := hI.lay.1
  have hw21 : ∀ r, kd σ r = 21 → r < 0 := fun r q => hw.s21 r (Or.inr q)
  have nb : 0 ≤ fI σ 1210 1 ∧ fI σ 1210 1 ≤ 999999 := by
    rw [hnw]
    exact hI.now_s
  have hz := h _ kc ks a5 a6 (Fu.th (v := 0) hb hw21 hF) (by omega) (by omega)
  refine ls_company hS hi ⟨by omega, by omega⟩ fun Q1 hQ => ?_
  rw [us_X11_company]
  have eh : fI σ 403 15 = fI σ 1332 61 := hG.2.2.2.2.1
  have cs := hI.companies_s
  refine ⟨k1, rfl, hC, hG.1, s3 _, s3 _, by rw [eh]; exact hI.houses_s, fun c σ2 hA2 hL2 => ?_, fun c => hQ _ σ hS rfl fun _ Q2 hQ2 => ?_⟩
  · rw [eh, hG.2.1] at c
    have v0 := cCo_v hw (aI σ b (i + 1)) (aI σ b (i + 2))
    have z0 := v0.2.2.2.2.2
    have zA : Kp (fun k => k = 18) (fun k => k = fR (cCo σ (aI σ b (i + 1)) (aI σ b (i + 2))) 1401 18) (cCo σ (aI σ b (i + 1)) (aI σ b (i + 2))) σ2 := hA2.kp9 v0.2.2.2.2.1
    have re0 := z0.re hI.lay (fun _ _ _ q => q)
    have re2 : RE (cCo σ (aI σ b (i + 1)) (aI σ b (i + 2))) σ2 := zA.re (MI_RE re0 hI).lay (fun k q1 q2 q3 => by omega)
    have re : RE σ σ2 := re0.tr re2
    have I2 : MI σ2 := MI_RE re hI
    obtain ⟨Sa, ea⟩ := hS.kp9 z0
    obtain ⟨Sc, ec⟩ := Sa.kp9 zA
    have e1 : fI σ2 1335 61 = fI σ 1335 61 := (re.2 1335 (by omega) (by omega)).1
    have e2 : fI σ2 1332 61 = fI σ 1332 61 := (re.2 1332 (by omega) (by omega)).1
    refine hQ _ _ Sc (ec.trans ea) fun hw2 Q2 hQ2 => ?_
    have g := hQ2 _ (h _ (kc + 2) (ks + 155) a5 a6 (fu_company hF hb hw hw2 c hA2 hL2 rfl) (by omega) (by omega))
    rw [hG.2.1, ← e1] at g
    rw [us_X12_company]
    refine ⟨I2.lay.1, rfl, I2, s3 _, s3 _, fun _ => g, fun w => absurd ?_ w⟩
    rw [e1, e2]
    exact ⟨c.1, c.2.1, by omega⟩
  · rw [eh, hG.2.1] at c
    rw [us_X12_company]
    have hz2 := h _ (kc + 2) (ks + 155) a5 a6 (Fu.th (v := 0) hb hw21 hF) (by omega) (by omega)
    exact ⟨k61, rfl, hI, s3 _, s3 _, fun w => absurd ⟨w.1, w.2.1, by omega⟩ c, fun _ => hQ2 _ hz2⟩


theorem boxOk.re {τ τ' : Hp} {l n kn x y w : Int} (z : RE τ τ') : boxOk τ' l n kn x y w = boxOk τ l n kn x y w := by
  unfold boxOk bE
  simp only [z.eqs]


set_option maxRecDepth 20000 in
theorem lc_box {Q : Option AV → Hp → Prop} {σ : Hp} {b n i : Int} {kc ks : Nat} {a5 a6 : Option AV} (hF : Fu b n σ) (hw : Wf σ) (hb : b < 0) (hi : 0 ≤ i ∧ i + 7 ≤ n ∧ n ≤ 3584) (hk : kc + 3 ≤ 601024 ∧ ks + 314 ≤ 7293034) (h : NX Q b n i kc ks) : GoF M_L_law Q 201 [some (vr b), some (vr 1), some (vr 61), some (vr 120), some (vi i), a5, a6] [] σ (kc, ks) := by
  obtain ⟨⟨hC, hnw, hX, hL, hG, hA, hK, hR, hH, hT, hLT, hTX, hLD⟩, ⟨iM, iB, iF, iU, iC, iW, iA, iH, iG, iN, iS, iT⟩, hS⟩ := id hF
  have hI := iM.1
  have s3 := hS.2.2
  have k1 : kd σ 1 = 12 := by simp only [hC.eqs]
  have k61 : kd σ 61 = 13 := hI.lay.1
  have hw21 : ∀ r, kd σ r = 21 → r < 0 := fun r q => hw.s21 r (Or.inr q)
  have nb : 0 ≤ fI σ 1210 1 ∧ fI σ 1210 1 ≤ 999999 := by
    rw [hnw]
    exact hI.now_s
  have hlo : ∀ l, 0 ≤ l → l < 4 → LpO σ (45 + 4 * l) := fun l q1 q2 => LoP.o hC hX hI ⟨q1, q2⟩ (hL l q1 q2).1.1 (hL l q1 q2).1.2 (fun k a b => (iB.1 l k q1 q2 a b).1)
  have hz := h _ kc ks a5 a6 (Fu.th (v := 0) hb hw21 hF) (by omega) (by omega)
  refine ls_box hS hi ⟨by omega, by omega⟩ fun Q1 hQ => ?_
  rw [us_X11_box]
  have bok := box_ok hX hL iB hI (aI σ b (i + 1)) (aI σ b (i + 2)) (aI σ b (i + 3)) (aI σ b (i + 4)) (aI σ b (i + 5)) (aI σ b (i + 6))
  refine ⟨k1, rfl, hC, s3 _, s3 _, s3 _, s3 _, s3 _, s3 _, hX.1, hlo, fun l q1 q2 q3 => hLD 3 (46 + 4 * l) (Or.inl rfl) (by unfold isLs; omega) (by omega) q3, fun c σ2 σ3 hwb hA2 hL2 hw2 hA3 hL3 => ?_, fun c => hQ _ σ hS rfl fun _ Q2 hQ2 => ?_⟩
  · have c2 := bok.mp c
    have z0 := cBox1_kp hw (aI σ b (i + 1)) (aI σ b (i + 2)) (aI σ b (i + 3)) (aI σ b (i + 4)) (aI σ b (i + 5)) (aI σ b (i + 6))
    have zA := hA2.kp hwb
    have zB := hA3.kp hw2
    have re0 := z0.re hI.lay (fun _ _ _ q => q)
    have I1 := MI_RE re0 hI
    have re2 := zA.re I1.lay (fun k q1 q2 q3 => by have := c2.1; omega)
    have I2 := MI_RE re2 I1
    have re3 := zB.re I2.lay (fun k q1 q2 q3 => by omega)
    have re : RE σ σ3 := (re0.tr re2).tr re3
    have I3 : MI σ3 := MI_RE re hI
    obtain ⟨Sa, ea⟩ := hS.kp9 z0
    obtain ⟨Sb, eb⟩ := Sa.kp9 zA
    obtain ⟨Sc, ec⟩ := Sb.kp9 zB
    have e1 : fI σ3 1302 61 = fI σ 1302 61 := (re.2 1302 (by omega) (by omega)).1
    refine hQ _ _ Sc ((ec.trans eb).trans ea) fun hw3 Q2 hQ2 => ?_
    have g := hQ2 _ (h _ (kc + 3) (ks + 314) a5 a6 (fu_box hF hb hw hwb hw2 hw3 c hA2 hL2 hA3 hL3 rfl) (by omega) (by omega))
    rw [hX.2.1, ← e1] at g
    rw [us_X12_box, boxOk.re re]
    exact ⟨I3.lay.1, rfl, I3, s3 _, s3 _, s3 _, s3 _, s3 _, s3 _, ((iN.re re).1 _ (Int.le_refl _)).1, fun _ => g, fun w => absurd c2 w⟩
  · rw [us_X12_box]
    have hz2 := h _ (kc + 3) (ks + 314) a5 a6 (Fu.th (v := 0) hb hw21 hF) (by omega) (by omega)
    exact ⟨k61, rfl, hI, s3 _, s3 _, s3 _, s3 _, s3 _, s3 _, (iN.1 _ (Int.le_refl _)).1, fun w => absurd (bok.mpr w) c, fun _ => hQ2 _ hz2⟩

