/-! the law's cases in full -/

set_option maxRecDepth 20000 in
theorem lc_ticks {Q : Option AV → Hp → Prop} {σ : Hp} {b n i : Int} {kc ks : Nat} {a5 a6 : Option AV} (hF : Fu b n σ) (hw : Wf σ) (hb : b < 0) (hi : 0 ≤ i ∧ i + 7 ≤ n ∧ n ≤ 3584) (hk : kc + 3 ≤ 601024 ∧ ks + 314 ≤ 7293034) (h : NX Q b n i kc ks) : GoF M_L_law Q 176 [some (vr b), some (vr 1), some (vr 61), some (vr 120), some (vi i), a5, a6] [] σ (kc, ks) := by
  obtain ⟨⟨hC, hnw, hX, hL, hG, hA, hK, hR, hH, hT, hLT, hTX, hLD⟩, ⟨iM, iB, iF, iU, iC, iW, iA, iH, iG, iN, iS, iT⟩, hS⟩ := id hF
  have hI := iM.1
  have s3 := hS.2.2
  have k1 : kd σ 1 = 12 := by simp only [hC.eqs]
  have k61 : kd σ 61 = 13 := hI.lay.1
  have hw21 : ∀ r, kd σ r = 21 → r < 0 := fun r q => hw.s21 r (Or.inr q)
  have nb : 0 ≤ fI σ 1210 1 ∧ fI σ 1210 1 ≤ 999999 := by
    rw [hnw]
    exact hI.now_s
  have hlo : ∀ l, 0 ≤ l → l < 4 → LpO σ (45 + 4 * l) := fun l q1 q2 => LoP.o hC hX hI ⟨q1, q2⟩ (hL l q1 q2).1.1 (hL l q1 q2).1.2 (fun k a b => (iB.1 l k q1 q2 a b).1)
  have hz := h _ kc ks a5 a6 (Fu.th (v := 0) hb hw21 hF) (by omega) (by omega)
  refine ls_ticks hS hi ⟨by omega, by omega⟩ fun Q1 hQ => ?_
  rw [us_X11_ticks]
  refine ⟨k1, rfl, hC, hlo, nb, s3 _, fun c => ?_, fun c => hQ _ σ hS rfl fun _ Q2 hQ2 => ?_⟩
  · have z : Fz tckF tckA noR σ (pI (cTk σ (fI σ 1210 1) (aI σ b (i + 1)).toNat 4) 1210 1 (fI σ 1210 1 + (aI σ b (i + 1)))) := (Fz_cTk hC _ _ 4 (by omega)).tr (Fz_pI (fs := tckF) _ _ _ (by decide))
    have re : RE σ (pI (cTk σ (fI σ 1210 1) (aI σ b (i + 1)).toNat 4) 1210 1 (fI σ 1210 1 + (aI σ b (i + 1)))) := z.re (by decide) (fun r q => by first | exact absurd q id | (dsimp only at q; omega) | omega | (unfold tfA at q; omega) | (unfold tfL at q; omega) | (unfold fewA at q; omega) | (unfold surA at q; omega) | (unfold tckA at q; omega)) (fun r q => by first | exact absurd q id | (dsimp only at q; omega) | omega | (unfold tfA at q; omega) | (unfold tfL at q; omega) | (unfold fewA at q; omega) | (unfold surA at q; omega) | (unfold tckA at q; omega))
    obtain ⟨S1, eb⟩ := hS.fz9 z (by intro q; unfold tckA at q; omega)
    have k9 : kd (pI (cTk σ (fI σ 1210 1) (aI σ b (i + 1)).toNat 4) 1210 1 (fI σ 1210 1 + (aI σ b (i + 1)))) 61 = 13 := by rw [z.kd]; exact k61
    have I1 : MI (pI (cTk σ (fI σ 1210 1) (aI σ b (i + 1)).toNat 4) 1210 1 (fI σ 1210 1 + (aI σ b (i + 1)))) := MI_RE re hI
    have en : fI (pI (cTk σ (fI σ 1210 1) (aI σ b (i + 1)).toNat 4) 1210 1 (fI σ 1210 1 + (aI σ b (i + 1)))) 1301 61 = fI σ 1210 1 := ((re.2 1301 (by omega) (by omega)).1).trans hnw.symm
    refine hQ _ _ S1 eb fun _ Q2 hQ2 => ?_
    have g := hQ2 _ (h _ kc ks a5 a6 (fu_ticks hF hb hw21 rfl (Int.toNat_of_nonneg c.1.1) c.2) (by omega) (by omega))
    have m1 : MT (pI (cTk σ (fI σ 1210 1) (aI σ b (i + 1)).toNat 4) 1210 1 (fI σ 1210 1 + (aI σ b (i + 1)))) := iM.re re
    generalize pI (cTk σ (fI σ 1210 1) (aI σ b (i + 1)).toNat 4) 1210 1 (fI σ 1210 1 + (aI σ b (i + 1))) = σ1 at *
    rw [us_X12_ticks, en]
    exact ⟨k9, rfl, m1, s3 _, fun _ => g, fun z => absurd c z⟩
  · rw [us_X12_ticks, ← hnw]
    exact ⟨k61, rfl, iM, s3 _, fun z => absurd z c, fun _ => hQ2 _ hz⟩


set_option maxRecDepth 20000 in
theorem lc_pace {Q : Option AV → Hp → Prop} {σ : Hp} {b n i : Int} {kc ks : Nat} {a5 a6 : Option AV} (hF : Fu b n σ) (hw : Wf σ) (hb : b < 0) (hi : 0 ≤ i ∧ i + 7 ≤ n ∧ n ≤ 3584) (hk : kc + 3 ≤ 601024 ∧ ks + 314 ≤ 7293034) (h : NX Q b n i kc ks) : GoF M_L_law Q 613 [some (vr b), some (vr 1), some (vr 61), some (vr 120), some (vi i), a5, a6] [] σ (kc, ks) := by
  obtain ⟨⟨hC, hnw, hX, hL, hG, hA, hK, hR, hH, hT, hLT, hTX, hLD⟩, ⟨iM, iB, iF, iU, iC, iW, iA, iH, iG, iN, iS, iT⟩, hS⟩ := id hF
  have hI := iM.1
  have s3 := hS.2.2
  have k1 : kd σ 1 = 12 := by simp only [hC.eqs]
  have k61 : kd σ 61 = 13 := hI.lay.1
  have hw21 : ∀ r, kd σ r = 21 → r < 0 := fun r q => hw.s21 r (Or.inr q)
  have nb : 0 ≤ fI σ 1210 1 ∧ fI σ 1210 1 ≤ 999999 := by
    rw [hnw]
    exact hI.now_s
  have hz := h _ kc ks a5 a6 (Fu.th (v := 0) hb hw21 hF) (by omega) (by omega)
  refine ls_pace hS hi ⟨by omega, by omega⟩ fun Q1 hQ => ?_
  rw [us_X11_pace]
  refine ⟨k1, rfl, hC, s3 _, s3 _, fun c => ?_, fun c => hQ _ σ hS rfl fun _ Q2 hQ2 => ?_⟩
  · have z : Fz [404, 405] noR noR σ (pI (pI σ 404 15 (aI σ b (i + 1))) 405 15 (aI σ b (i + 2))) := (Fz_pI (fs := [404, 405]) _ _ _ (by decide)).tr (Fz_pI (fs := [404, 405]) _ _ _ (by decide))
    have re : RE σ (pI (pI σ 404 15 (aI σ b (i + 1))) 405 15 (aI σ b (i + 2))) := z.re (by decide) (fun r q => by first | exact absurd q id | (dsimp only at q; omega) | omega | (unfold tfA at q; omega) | (unfold tfL at q; omega) | (unfold fewA at q; omega) | (unfold surA at q; omega)) (fun r q => by first | exact absurd q id | (dsimp only at q; omega) | omega | (unfold tfA at q; omega) | (unfold tfL at q; omega) | (unfold fewA at q; omega) | (unfold surA at q; omega))
    obtain ⟨S1, eb⟩ := hS.fz9 z (by first | exact id | (intro q; omega) | (intro q; dsimp only at q; omega) | (intro q; unfold tfA at q; omega) | (intro q; unfold fewA at q; omega) | (intro q; unfold surA at q; omega))
    have k9 : kd (pI (pI σ 404 15 (aI σ b (i + 1))) 405 15 (aI σ b (i + 2))) 61 = 13 := by rw [z.kd]; exact k61
    have I1 : MI (pI (pI σ 404 15 (aI σ b (i + 1))) 405 15 (aI σ b (i + 2))) := MI_RE re hI
    refine hQ _ _ S1 eb fun _ Q2 hQ2 => ?_
    have g := hQ2 _ (h _ kc ks a5 a6 (fu_pace hF hb hw21 c) (by omega) (by omega))
    rw [us_X12_pace]
    exact ⟨k9, rfl, I1, s3 _, s3 _, fun _ => g, fun z => absurd c z⟩
  · rw [us_X12_pace]
    exact ⟨k61, rfl, hI, s3 _, s3 _, fun z => absurd z c, fun _ => hQ2 _ hz⟩


set_option maxRecDepth 20000 in
theorem lc_house {Q : Option AV → Hp → Prop} {σ : Hp} {b n i : Int} {kc ks : Nat} {a5 a6 : Option AV} (hF : Fu b n σ) (hw : Wf σ) (hb : b < 0) (hi : 0 ≤ i ∧ i + 7 ≤ n ∧ n ≤ 3584) (hk : kc + 3 ≤ 601024 ∧ ks + 314 ≤ 7293034) (h : NX Q b n i kc ks) : GoF M_L_law Q 539 [some (vr b), some (vr 1), some (vr 61), some (vr 120), some (vi i), a5, a6] [] σ (kc, ks) := by
  obtain ⟨⟨hC, hnw, hX, hL, hG, hA, hK, hR, hH, hT, hLT, hTX, hLD⟩, ⟨iM, iB, iF, iU, iC, iW, iA, iH, iG, iN, iS, iT⟩, hS⟩ := id hF
  have hI := iM.1
  have s3 := hS.2.2
  have k1 : kd σ 1 = 12 := by simp only [hC.eqs]
  have k61 : kd σ 61 = 13 := hI.lay.1
  have hw21 : ∀ r, kd σ r = 21 → r < 0 := fun r q => hw.s21 r (Or.inr q)
  have nb : 0 ≤ fI σ 1210 1 ∧ fI σ 1210 1 ≤ 999999 := by
    rw [hnw]
    exact hI.now_s
  have hz := h _ kc ks a5 a6 (Fu.th (v := 0) hb hw21 hF) (by omega) (by omega)
  have eh : fI σ 403 15 = fI σ 1332 61 := hG.2.2.2.2.1
  refine ls_house hS hi ⟨by omega, by omega⟩ fun Q1 hQ => ?_
  rw [us_X11_house]
  refine ⟨k1, rfl, hC, s3 _, s3 _, by rw [eh]; exact hI.houses_s, fun c => ?_, fun c => hQ _ σ hS rfl fun _ Q2 hQ2 => ?_⟩
  · have z : Fz [403] (fun r => r = 16 ∨ r = 17) noR σ (pI (qI (qI σ 16 (fI σ 403 15) (aI σ b (i + 1))) 17 (fI σ 403 15) (aI σ b (i + 2))) 403 15 ((fI σ 403 15) + 1)) := ((Fz_qI _ _ _ (Or.inl rfl)).tr (Fz_qI _ _ _ (Or.inr rfl))).tr (Fz_pI (fs := [403]) _ _ _ (by decide))
    have re : RE σ (pI (qI (qI σ 16 (fI σ 403 15) (aI σ b (i + 1))) 17 (fI σ 403 15) (aI σ b (i + 2))) 403 15 ((fI σ 403 15) + 1)) := z.re (by decide) (fun r q => by first | exact absurd q id | (dsimp only at q; omega) | omega | (unfold tfA at q; omega) | (unfold tfL at q; omega) | (unfold fewA at q; omega) | (unfold surA at q; omega)) (fun r q => by first | exact absurd q id | (dsimp only at q; omega) | omega | (unfold tfA at q; omega) | (unfold tfL at q; omega) | (unfold fewA at q; omega) | (unfold surA at q; omega))
    obtain ⟨S1, eb⟩ := hS.fz9 z (by first | exact id | (intro q; omega) | (intro q; dsimp only at q; omega) | (intro q; unfold tfA at q; omega) | (intro q; unfold fewA at q; omega) | (intro q; unfold surA at q; omega))
    have k9 : kd (pI (qI (qI σ 16 (fI σ 403 15) (aI σ b (i + 1))) 17 (fI σ 403 15) (aI σ b (i + 2))) 403 15 ((fI σ 403 15) + 1)) 61 = 13 := by rw [z.kd]; exact k61
    have I1 : MI (pI (qI (qI σ 16 (fI σ 403 15) (aI σ b (i + 1))) 17 (fI σ 403 15) (aI σ b (i + 2))) 403 15 ((fI σ 403 15) + 1)) := MI_RE re hI
    refine hQ _ _ S1 eb fun _ Q2 hQ2 => ?_
    have g := hQ2 _ (h _ kc ks a5 a6 (fu_house hF hb hw21 rfl c.1 c.2) (by omega) (by omega))
    rw [us_X12_house]
    have e2 : fI (pI (qI (qI σ 16 (fI σ 403 15) (aI σ b (i + 1))) 17 (fI σ 403 15) (aI σ b (i + 2))) 403 15 ((fI σ 403 15) + 1)) 1332 61 = (fI σ 403 15) := ((re.2 1332 (by omega) (by omega)).1).trans eh.symm
    generalize pI (qI (qI σ 16 (fI σ 403 15) (aI σ b (i + 1))) 17 (fI σ 403 15) (aI σ b (i + 2))) 403 15 ((fI σ 403 15) + 1) = σ1 at *
    rw [e2] at g ⊢
    exact ⟨k9, rfl, I1, s3 _, s3 _, fun _ => g, fun z => absurd ⟨c.1.1, c.1.2, by omega⟩ z⟩
  · rw [us_X12_house, ← eh]
    exact ⟨k61, rfl, hI, s3 _, s3 _, fun z => absurd ⟨⟨z.1, z.2.1⟩, by have := hI.houses_s; omega⟩ c, fun _ => hQ2 _ hz⟩


set_option maxRecDepth 20000 in
theorem lc_word {Q : Option AV → Hp → Prop} {σ : Hp} {b n i : Int} {kc ks : Nat} {a5 a6 : Option AV} (hF : Fu b n σ) (hw : Wf σ) (hb : b < 0) (hi : 0 ≤ i ∧ i + 7 ≤ n ∧ n ≤ 3584) (hk : kc + 3 ≤ 601024 ∧ ks + 314 ≤ 7293034) (h : NX Q b n i kc ks) : GoF M_L_law Q 1088 [some (vr b), some (vr 1), some (vr 61), some (vr 120), some (vi i), a5, a6] [] σ (kc, ks) := by
  obtain ⟨⟨hC, hnw, hX, hL, hG, hA, hK, hR, hH, hT, hLT, hTX, hLD⟩, ⟨iM, iB, iF, iU, iC, iW, iA, iH, iG, iN, iS, iT⟩, hS⟩ := id hF
  have hI := iM.1
  have s3 := hS.2.2
  have k1 : kd σ 1 = 12 := by simp only [hC.eqs]
  have k61 : kd σ 61 = 13 := hI.lay.1
  have hw21 : ∀ r, kd σ r = 21 → r < 0 := fun r q => hw.s21 r (Or.inr q)
  have nb : 0 ≤ fI σ 1210 1 ∧ fI σ 1210 1 ≤ 999999 := by
    rw [hnw]
    exact hI.now_s
  have hz := h _ kc ks a5 a6 (Fu.th (v := 0) hb hw21 hF) (by omega) (by omega)
  obtain ⟨y, ey⟩ : ∃ y : Int, y = if aI σ b (i + 2) = 0 then 0 else 1 := ⟨_, rfl⟩
  have hy : y = 0 ∨ y = 1 := by
    rw [ey]
    split <;> omega
  refine ls_word hS hi ⟨by omega, by omega⟩ ey fun Q1 hQ => ?_
  clear ey
  rw [us_X11_word]
  refine ⟨k1, rfl, hC, s3 _, hy, nb, σ, hA, hI, fun c => ?_, fun c => hQ _ σ hS rfl fun _ Q2 hQ2 => ?_⟩
  · have z : Fz [204] (fun r => r = 29 ∨ r = 30 ∨ r = 31) noR σ (pI (qI (qI (qI σ 29 (fI σ 1380 61) (aI σ b (i + 1))) 30 (fI σ 1380 61) (fI σ 1210 1 / 86400)) 31 (fI σ 1380 61) y) 204 27 ((fI σ 1380 61) + 1)) := (((Fz_qI _ _ _ (Or.inl rfl)).tr (Fz_qI _ _ _ (Or.inr (Or.inl rfl)))).tr (Fz_qI _ _ _ (Or.inr (Or.inr rfl)))).tr (Fz_pI (fs := [204]) _ _ _ (by decide))
    have re : RE σ (pI (qI (qI (qI σ 29 (fI σ 1380 61) (aI σ b (i + 1))) 30 (fI σ 1380 61) (fI σ 1210 1 / 86400)) 31 (fI σ 1380 61) y) 204 27 ((fI σ 1380 61) + 1)) := z.re (by decide) (fun r q => by first | exact absurd q id | (dsimp only at q; omega) | omega | (unfold tfA at q; omega) | (unfold tfL at q; omega) | (unfold fewA at q; omega) | (unfold surA at q; omega)) (fun r q => by first | exact absurd q id | (dsimp only at q; omega) | omega | (unfold tfA at q; omega) | (unfold tfL at q; omega) | (unfold fewA at q; omega) | (unfold surA at q; omega))
    obtain ⟨S1, eb⟩ := hS.fz9 z (by first | exact id | (intro q; omega) | (intro q; dsimp only at q; omega) | (intro q; unfold tfA at q; omega) | (intro q; unfold fewA at q; omega) | (intro q; unfold surA at q; omega))
    have k9 : kd (pI (qI (qI (qI σ 29 (fI σ 1380 61) (aI σ b (i + 1))) 30 (fI σ 1380 61) (fI σ 1210 1 / 86400)) 31 (fI σ 1380 61) y) 204 27 ((fI σ 1380 61) + 1)) 61 = 13 := by rw [z.kd]; exact k61
    have I1 : MI (pI (qI (qI (qI σ 29 (fI σ 1380 61) (aI σ b (i + 1))) 30 (fI σ 1380 61) (fI σ 1210 1 / 86400)) 31 (fI σ 1380 61) y) 204 27 ((fI σ 1380 61) + 1)) := MI_RE re hI
    refine hQ _ _ S1 eb fun _ Q2 hQ2 => ?_
    have g := hQ2 _ (h _ kc ks a5 a6 (fu_word (v := y) (d := fI σ 1210 1 / 86400) hF hb hw21 rfl (by rw [hnw]) hy c) (by omega) (by omega))
    rw [us_X12_word]
    have e2 : fI (pI (qI (qI (qI σ 29 (fI σ 1380 61) (aI σ b (i + 1))) 30 (fI σ 1380 61) (fI σ 1210 1 / 86400)) 31 (fI σ 1380 61) y) 204 27 ((fI σ 1380 61) + 1)) 1380 61 = fI σ 1380 61 := (re.2 1380 (by omega) (by omega)).1
    have e3 : fI (pI (qI (qI (qI σ 29 (fI σ 1380 61) (aI σ b (i + 1))) 30 (fI σ 1380 61) (fI σ 1210 1 / 86400)) 31 (fI σ 1380 61) y) 204 27 ((fI σ 1380 61) + 1)) 1371 61 = fI σ 1371 61 := (re.2 1371 (by omega) (by omega)).1
    have e4 : aI (pI (qI (qI (qI σ 29 (fI σ 1380 61) (aI σ b (i + 1))) 30 (fI σ 1380 61) (fI σ 1210 1 / 86400)) 31 (fI σ 1380 61) y) 204 27 ((fI σ 1380 61) + 1)) 112 = aI σ 112 := (re.1 112 (by omega) (by omega)).2.2.1
    generalize pI (qI (qI (qI σ 29 (fI σ 1380 61) (aI σ b (i + 1))) 30 (fI σ 1380 61) (fI σ 1210 1 / 86400)) 31 (fI σ 1380 61) y) 204 27 ((fI σ 1380 61) + 1) = σ1 at *
    refine ⟨k9, rfl, I1, s3 _, hy, fun _ => g, fun z => absurd ?_ z⟩
    rw [e2, e3, e4]
    exact c
  · rw [us_X12_word]
    exact ⟨k61, rfl, hI, s3 _, hy, fun z => absurd z c, fun _ => hQ2 _ hz⟩


set_option maxRecDepth 20000 in
theorem lc_pull {Q : Option AV → Hp → Prop} {σ : Hp} {b n i : Int} {kc ks : Nat} {a5 a6 : Option AV} (hF : Fu b n σ) (hw : Wf σ) (hb : b < 0) (hi : 0 ≤ i ∧ i + 7 ≤ n ∧ n ≤ 3584) (hk : kc + 3 ≤ 601024 ∧ ks + 314 ≤ 7293034) (h : NX Q b n i kc ks) : GoF M_L_law Q 288 [some (vr b), some (vr 1), some (vr 61), some (vr 120), some (vi i), a5, a6] [] σ (kc, ks) := by
  obtain ⟨⟨hC, hnw, hX, hL, hG, hA, hK, hR, hH, hT, hLT, hTX, hLD⟩, ⟨iM, iB, iF, iU, iC, iW, iA, iH, iG, iN, iS, iT⟩, hS⟩ := id hF
  have hI := iM.1
  have s3 := hS.2.2
  have k1 : kd σ 1 = 12 := by simp only [hC.eqs]
  have k61 : kd σ 61 = 13 := hI.lay.1
  have hw21 : ∀ r, kd σ r = 21 → r < 0 := fun r q => hw.s21 r (Or.inr q)
  have nb : 0 ≤ fI σ 1210 1 ∧ fI σ 1210 1 ≤ 999999 := by
    rw [hnw]
    exact hI.now_s
  have hz := h _ kc ks a5 a6 (Fu.th (v := 0) hb hw21 hF) (by omega) (by omega)
  have cc : (0 ≤ (aI σ b (i + 1)) ∧ (aI σ b (i + 1)) < fI σ 1302 61) → (((0 ≤ (aI σ b (i + 1)) ∧ (aI σ b (i + 1)) < fI σ 1302 61) ∧ fI σ 312 (lat σ 3 (aI σ b (i + 1))) = 0 ∧ ¬ cGo σ (lat σ 3 (aI σ b (i + 1))) (fI σ 1210 1)) ↔ (0 ≤ (aI σ b (i + 1)) ∧ (aI σ b (i + 1)) < fI σ 1302 61 ∧ aI σ 70 (aI σ b (i + 1)) = 0 ∧ ¬ mGo σ (aI σ b (i + 1)) (fI σ 1301 61) ∧ ¬ aI σ 69 (aI σ b (i + 1)) = fI σ 1301 61 + 1)) := fun c => by
    have hE := hX.2.2 _ c.1 c.2
    have hg := going_is iM hE
    have e11 : fI σ 312 (lat σ 3 (aI σ b (i + 1))) = aI σ 70 (aI σ b (i + 1)) := by
      obtain ⟨p0, e1, e2, e3, e4, e5, e6, e7, e8, e9, e10, e11, -⟩ := hE
      exact e11
    rw [hnw, e11, hg]
    unfold mGoing
    constructor
    · rintro ⟨q1, q2, q3⟩
      exact ⟨q1.1, q1.2, q2, fun w => q3 (Or.inl w), fun w => q3 (Or.inr w)⟩
    · rintro ⟨q1, q2, q3, q4, q5⟩
      exact ⟨⟨q1, q2⟩, q3, fun w => w.elim q4 q5⟩
  refine ls_pull hS hi ⟨by omega, by omega⟩ fun Q1 hQ => ?_
  rw [us_X11_pull]
  refine ⟨k1, rfl, hC, s3 _, nb, σ, hX, hI, fun c => ?_, fun c => hQ _ σ hS rfl fun _ Q2 hQ2 => ?_⟩
  · have c2 := (cc c.1).mp c
    have ek : fI σ 301 (lat σ 3 (aI σ b (i + 1))) = aI σ 64 (aI σ b (i + 1)) := (hX.2.2 _ c.1.1 c.1.2).2.2.1
    refine ⟨fun ck => ?_, fun ck => ?_⟩
    · have z : Fz [313] noR noR σ (pI σ 313 (lat σ 3 (aI σ b (i + 1))) (fI σ 1210 1 + 1)) := Fz_pI (fs := [313]) _ _ _ (by decide)
      have re : RE σ (pI σ 313 (lat σ 3 (aI σ b (i + 1))) (fI σ 1210 1 + 1)) := z.re (by decide) (fun r q => by first | exact absurd q id | (dsimp only at q; omega) | omega | (unfold tfA at q; omega) | (unfold tfL at q; omega) | (unfold fewA at q; omega) | (unfold surA at q; omega)) (fun r q => by first | exact absurd q id | (dsimp only at q; omega) | omega | (unfold tfA at q; omega) | (unfold tfL at q; omega) | (unfold fewA at q; omega) | (unfold surA at q; omega))
      obtain ⟨S1, eb⟩ := hS.fz9 z (by first | exact id | (intro q; omega) | (intro q; dsimp only at q; omega) | (intro q; unfold tfA at q; omega) | (intro q; unfold fewA at q; omega) | (intro q; unfold surA at q; omega))
      have k9 : kd (pI σ 313 (lat σ 3 (aI σ b (i + 1))) (fI σ 1210 1 + 1)) 61 = 13 := by rw [z.kd]; exact k61
      have I1 : MI (pI σ 313 (lat σ 3 (aI σ b (i + 1))) (fI σ 1210 1 + 1)) := MI_RE re hI
      refine hQ _ _ S1 eb fun _ Q2 hQ2 => ?_
      have g := hQ2 _ (h _ kc ks a5 a6 (fu_pull1 (t := fI σ 1210 1 + 1) hF hb hw21 (by rw [hnw]) c.1 c2.2.2.1) (by omega) (by omega))
      have m1 : MT (pI σ 313 (lat σ 3 (aI σ b (i + 1))) (fI σ 1210 1 + 1)) := iM.re re
      have e1 : fI (pI σ 313 (lat σ 3 (aI σ b (i + 1))) (fI σ 1210 1 + 1)) 1301 61 = fI σ 1301 61 := (re.2 1301 (by omega) (by omega)).1
      have e2 : fI (pI σ 313 (lat σ 3 (aI σ b (i + 1))) (fI σ 1210 1 + 1)) 1302 61 = fI σ 1302 61 := (re.2 1302 (by omega) (by omega)).1
      have e3 : aI (pI σ 313 (lat σ 3 (aI σ b (i + 1))) (fI σ 1210 1 + 1)) 70 = aI σ 70 := (re.1 70 (by omega) (by omega)).2.2.1
      have e4 : aI (pI σ 313 (lat σ 3 (aI σ b (i + 1))) (fI σ 1210 1 + 1)) 69 = aI σ 69 := (re.1 69 (by omega) (by omega)).2.2.1
      have e5 : aI (pI σ 313 (lat σ 3 (aI σ b (i + 1))) (fI σ 1210 1 + 1)) 64 = aI σ 64 := (re.1 64 (by omega) (by omega)).2.2.1
      have e6 : mGo (pI σ 313 (lat σ 3 (aI σ b (i + 1))) (fI σ 1210 1 + 1)) (aI σ b (i + 1)) (fI σ 1301 61) = mGo σ (aI σ b (i + 1)) (fI σ 1301 61) := by
        unfold mGo
        rw [e4, (re.1 73 (by omega) (by omega)).2.2.1]
      generalize pI σ 313 (lat σ 3 (aI σ b (i + 1))) (fI σ 1210 1 + 1) = σ1 at *
      rw [us_X12_pull]
      refine ⟨k9, rfl, I1, s3 _, m1.2.2, fun _ => ⟨fun z => ?_, fun z => ?_⟩, fun z => absurd ?_ z⟩
      · exact g
      · exact absurd (by rw [e5, ← ek]; exact ck) z
      · rw [e1, e2, e3, e4, e6]
        exact c2
    · have z : Fz [312] noR noR σ (pI σ 312 (lat σ 3 (aI σ b (i + 1))) 1) := Fz_pI (fs := [312]) _ _ _ (by decide)
      have re : RE σ (pI σ 312 (lat σ 3 (aI σ b (i + 1))) 1) := z.re (by decide) (fun r q => by first | exact absurd q id | (dsimp only at q; omega) | omega | (unfold tfA at q; omega) | (unfold tfL at q; omega) | (unfold fewA at q; omega) | (unfold surA at q; omega)) (fun r q => by first | exact absurd q id | (dsimp only at q; omega) | omega | (unfold tfA at q; omega) | (unfold tfL at q; omega) | (unfold fewA at q; omega) | (unfold surA at q; omega))
      obtain ⟨S1, eb⟩ := hS.fz9 z (by first | exact id | (intro q; omega) | (intro q; dsimp only at q; omega) | (intro q; unfold tfA at q; omega) | (intro q; unfold fewA at q; omega) | (intro q; unfold surA at q; omega))
      have k9 : kd (pI σ 312 (lat σ 3 (aI σ b (i + 1))) 1) 61 = 13 := by rw [z.kd]; exact k61
      have I1 : MI (pI σ 312 (lat σ 3 (aI σ b (i + 1))) 1) := MI_RE re hI
      refine hQ _ _ S1 eb fun _ Q2 hQ2 => ?_
      have g := hQ2 _ (h _ kc ks a5 a6 (fu_pull2 hF hb hw21 c.1 c2.2.2.2) (by omega) (by omega))
      have m1 : MT (pI σ 312 (lat σ 3 (aI σ b (i + 1))) 1) := iM.re re
      have e1 : fI (pI σ 312 (lat σ 3 (aI σ b (i + 1))) 1) 1301 61 = fI σ 1301 61 := (re.2 1301 (by omega) (by omega)).1
      have e2 : fI (pI σ 312 (lat σ 3 (aI σ b (i + 1))) 1) 1302 61 = fI σ 1302 61 := (re.2 1302 (by omega) (by omega)).1
      have e3 : aI (pI σ 312 (lat σ 3 (aI σ b (i + 1))) 1) 70 = aI σ 70 := (re.1 70 (by omega) (by omega)).2.2.1
      have e4 : aI (pI σ 312 (lat σ 3 (aI σ b (i + 1))) 1) 69 = aI σ 69 := (re.1 69 (by omega) (by omega)).2.2.1
      have e5 : aI (pI σ 312 (lat σ 3 (aI σ b (i + 1))) 1) 64 = aI σ 64 := (re.1 64 (by omega) (by omega)).2.2.1
      have e6 : mGo (pI σ 312 (lat σ 3 (aI σ b (i + 1))) 1) (aI σ b (i + 1)) (fI σ 1301 61) = mGo σ (aI σ b (i + 1)) (fI σ 1301 61) := by
        unfold mGo
        rw [e4, (re.1 73 (by omega) (by omega)).2.2.1]
      generalize pI σ 312 (lat σ 3 (aI σ b (i + 1))) 1 = σ1 at *
      rw [us_X12_pull]
      refine ⟨k9, rfl, I1, s3 _, m1.2.2, fun _ => ⟨fun z => ?_, fun z => ?_⟩, fun z => absurd ?_ z⟩
      · exact absurd (by rw [ek, ← e5]; exact z) ck
      · exact g
      · rw [e1, e2, e3, e4, e6]
        exact c2
  · rw [us_X12_pull]
    exact ⟨k61, rfl, hI, s3 _, iM.2.2, fun z => absurd ((cc ⟨z.1, z.2.1⟩).mpr z) c, fun _ => hQ2 _ hz⟩


set_option maxRecDepth 20000 in
theorem lc_cut {Q : Option AV → Hp → Prop} {σ : Hp} {b n i : Int} {kc ks : Nat} {a5 a6 : Option AV} (hF : Fu b n σ) (hw : Wf σ) (hb : b < 0) (hi : 0 ≤ i ∧ i + 7 ≤ n ∧ n ≤ 3584) (hk : kc + 3 ≤ 601024 ∧ ks + 314 ≤ 7293034) (h : NX Q b n i kc ks) : GoF M_L_law Q 313 [some (vr b), some (vr 1), some (vr 61), some (vr 120), some (vi i), a5, a6] [] σ (kc, ks) := by
  obtain ⟨⟨hC, hnw, hX, hL, hG, hA, hK, hR, hH, hT, hLT, hTX, hLD⟩, ⟨iM, iB, iF, iU, iC, iW, iA, iH, iG, iN, iS, iT⟩, hS⟩ := id hF
  have hI := iM.1
  have s3 := hS.2.2
  have k1 : kd σ 1 = 12 := by simp only [hC.eqs]
  have k61 : kd σ 61 = 13 := hI.lay.1
  have hw21 : ∀ r, kd σ r = 21 → r < 0 := fun r q => hw.s21 r (Or.inr q)
  have nb : 0 ≤ fI σ 1210 1 ∧ fI σ 1210 1 ≤ 999999 := by
    rw [hnw]
    exact hI.now_s
  have hlo : ∀ l, 0 ≤ l → l < 4 → LpO σ (45 + 4 * l) := fun l q1 q2 => LoP.o hC hX hI ⟨q1, q2⟩ (hL l q1 q2).1.1 (hL l q1 q2).1.2 (fun k a b => (iB.1 l k q1 q2 a b).1)
  have hz := h _ kc ks a5 a6 (Fu.th (v := 0) hb hw21 hF) (by omega) (by omega)
  obtain ⟨y, ey⟩ : ∃ y : Int, y = if aI σ b (i + 3) = 0 then 0 else 1 := ⟨_, rfl⟩
  have hy : y = 0 ∨ y = 1 := by
    rw [ey]
    split <;> omega
  refine ls_cut hS hi ⟨by omega, by omega⟩ ey fun Q1 hQ => ?_
  clear ey
  rw [us_X11_cut]
  refine ⟨k1, rfl, hC, s3 _, s3 _, hy, hlo, fun c f9 e9 hc9 => ?_, fun c => hQ _ σ hS rfl fun _ Q2 hQ2 => ?_⟩
  · have em : fI σ 1402 (46 + 4 * (aI σ b (i + 1))) = aI σ 74 (aI σ b (i + 1)) := (hL _ c.1.1 c.1.2).1.1.2.1
    rw [em] at c
    have z : Fz [1006, 1007] (fun r => r = 47 + 4 * (aI σ b (i + 1))) noR σ (E2 (qI σ (47 + 4 * (aI σ b (i + 1))) (aI σ b (i + 2)) y) (45 + 4 * (aI σ b (i + 1))) f9 e9) := ((Fz_qI (ars := fun r => r = 47 + 4 * (aI σ b (i + 1))) (r := 47 + 4 * (aI σ b (i + 1))) _ _ _ rfl).tr (Fz_pI (fs := [1006, 1007]) (f := 1006) _ _ _ (by decide))).tr (Fz_pI (fs := [1006, 1007]) (f := 1007) _ _ _ (by decide))
    have re : RE σ (E2 (qI σ (47 + 4 * (aI σ b (i + 1))) (aI σ b (i + 2)) y) (45 + 4 * (aI σ b (i + 1))) f9 e9) := z.re (by decide) (fun r q => by first | exact absurd q id | (dsimp only at q; omega) | omega | (unfold tfA at q; omega) | (unfold tfL at q; omega) | (unfold fewA at q; omega) | (unfold surA at q; omega)) (fun r q => by first | exact absurd q id | (dsimp only at q; omega) | omega | (unfold tfA at q; omega) | (unfold tfL at q; omega) | (unfold fewA at q; omega) | (unfold surA at q; omega))
    obtain ⟨S1, eb⟩ := hS.fz9 z (by first | exact id | (intro q; omega) | (intro q; dsimp only at q; omega) | (intro q; unfold tfA at q; omega) | (intro q; unfold fewA at q; omega) | (intro q; unfold surA at q; omega))
    have k9 : kd (E2 (qI σ (47 + 4 * (aI σ b (i + 1))) (aI σ b (i + 2)) y) (45 + 4 * (aI σ b (i + 1))) f9 e9) 61 = 13 := by rw [z.kd]; exact k61
    have I1 : MI (E2 (qI σ (47 + 4 * (aI σ b (i + 1))) (aI σ b (i + 2)) y) (45 + 4 * (aI σ b (i + 1))) f9 e9) := MI_RE re hI
    refine hQ _ _ S1 eb fun _ Q2 hQ2 => ?_
    have g := hQ2 _ (h _ kc ks a5 a6 (fu_cut hF hb hw21 c.1 hy c.2 hc9) (by omega) (by omega))
    have e1 : aI (E2 (qI σ (47 + 4 * (aI σ b (i + 1))) (aI σ b (i + 2)) y) (45 + 4 * (aI σ b (i + 1))) f9 e9) 74 = aI σ 74 := (re.1 74 (by omega) (by omega)).2.2.1
    generalize E2 (qI σ (47 + 4 * (aI σ b (i + 1))) (aI σ b (i + 2)) y) (45 + 4 * (aI σ b (i + 1))) f9 e9 = σ1 at *
    rw [us_X12_cut, e1]
    exact ⟨k9, rfl, I1, s3 _, s3 _, hy, fun _ => g, fun z => absurd ⟨⟨c.1.1, by omega⟩, c.2⟩ z⟩
  · rw [us_X12_cut]
    refine ⟨k61, rfl, hI, s3 _, s3 _, hy, fun z => absurd ⟨⟨z.1.1, by omega⟩, ?_⟩ c, fun _ => hQ2 _ hz⟩
    rw [(hL _ z.1.1 (by omega)).1.1.2.1]
    exact z.2


set_option maxRecDepth 20000 in
theorem lc_feed {Q : Option AV → Hp → Prop} {σ : Hp} {b n i : Int} {kc ks : Nat} {a5 a6 : Option AV} (hF : Fu b n σ) (hw : Wf σ) (hb : b < 0) (hi : 0 ≤ i ∧ i + 7 ≤ n ∧ n ≤ 3584) (hk : kc + 3 ≤ 601024 ∧ ks + 314 ≤ 7293034) (h : NX Q b n i kc ks) : GoF M_L_law Q 650 [some (vr b), some (vr 1), some (vr 61), some (vr 120), some (vi i), a5, a6] [] σ (kc, ks) := by
  obtain ⟨⟨hC, hnw, hX, hL, hG, hA, hK, hR, hH, hT, hLT, hTX, hLD⟩, ⟨iM, iB, iF, iU, iC, iW, iA, iH, iG, iN, iS, iT⟩, hS⟩ := id hF
  have hI := iM.1
  have s3 := hS.2.2
  have k1 : kd σ 1 = 12 := by simp only [hC.eqs]
  have k61 : kd σ 61 = 13 := hI.lay.1
  have hw21 : ∀ r, kd σ r = 21 → r < 0 := fun r q => hw.s21 r (Or.inr q)
  have nb : 0 ≤ fI σ 1210 1 ∧ fI σ 1210 1 ≤ 999999 := by
    rw [hnw]
    exact hI.now_s
  have hz := h _ kc ks a5 a6 (Fu.th (v := 0) hb hw21 hF) (by omega) (by omega)
  refine ls_feed hS hi ⟨by omega, by omega⟩ fun Q1 hQ => ?_
  rw [us_X11_feed]
  refine ⟨k1, rfl, hC, by rw [hH.1]; have := hI.lettered_s; omega, ?_⟩
  have z : Fz [901] (fun r => r = 25) noR σ (cBs (cBs (cBs σ (lng (aI σ b (i + 1)) (aI σ b (i + 2))) 8) (lng (aI σ b (i + 3)) (aI σ b (i + 4))) 8) (lng (aI σ b (i + 5)) (aI σ b (i + 6))) 8) := ((cBs_s σ (lng (aI σ b (i + 1)) (aI σ b (i + 2))) 8).1.tr (cBs_s _ (lng (aI σ b (i + 3)) (aI σ b (i + 4))) 8).1).tr (cBs_s _ (lng (aI σ b (i + 5)) (aI σ b (i + 6))) 8).1
  have re : RE σ (cBs (cBs (cBs σ (lng (aI σ b (i + 1)) (aI σ b (i + 2))) 8) (lng (aI σ b (i + 3)) (aI σ b (i + 4))) 8) (lng (aI σ b (i + 5)) (aI σ b (i + 6))) 8) := z.re (by decide) (fun r q => by first | exact absurd q id | (dsimp only at q; omega) | omega | (unfold tfA at q; omega) | (unfold tfL at q; omega) | (unfold fewA at q; omega) | (unfold surA at q; omega)) (fun r q => by first | exact absurd q id | (dsimp only at q; omega) | omega | (unfold tfA at q; omega) | (unfold tfL at q; omega) | (unfold fewA at q; omega) | (unfold surA at q; omega))
  obtain ⟨S1, eb⟩ := hS.fz9 z (by first | exact id | (intro q; omega) | (intro q; dsimp only at q; omega) | (intro q; unfold tfA at q; omega) | (intro q; unfold fewA at q; omega) | (intro q; unfold surA at q; omega))
  have k9 : kd (cBs (cBs (cBs σ (lng (aI σ b (i + 1)) (aI σ b (i + 2))) 8) (lng (aI σ b (i + 3)) (aI σ b (i + 4))) 8) (lng (aI σ b (i + 5)) (aI σ b (i + 6))) 8) 61 = 13 := by rw [z.kd]; exact k61
  have I1 : MI (cBs (cBs (cBs σ (lng (aI σ b (i + 1)) (aI σ b (i + 2))) 8) (lng (aI σ b (i + 3)) (aI σ b (i + 4))) 8) (lng (aI σ b (i + 5)) (aI σ b (i + 6))) 8) := MI_RE re hI
  have gH0 : HLq σ (pI (cBs (cBs (cBs σ (lng (aI σ b (i + 1)) (aI σ b (i + 2))) 8) (lng (aI σ b (i + 3)) (aI σ b (i + 4))) 8) (lng (aI σ b (i + 5)) (aI σ b (i + 6))) 8) 1300 61 0) := ⟨hH.1.trans (re.2 1343 (by omega) (by omega)).1.symm, hH.2.trans (re.1 92 (by omega) (by omega)).2.2.1.symm⟩
  have gH := (HLq_3 gH0 (lng (aI σ b (i + 1)) (aI σ b (i + 2))) (lng (aI σ b (i + 3)) (aI σ b (i + 4))) (lng (aI σ b (i + 5)) (aI σ b (i + 6))) 8 (by omega)).1
  refine hQ _ _ S1 eb fun _ Q2 hQ2 => ?_
  have g := hQ2 _ (h _ kc ks a5 a6 (fu_feed (u := (lng (aI σ b (i + 1)) (aI σ b (i + 2)))) (v := (lng (aI σ b (i + 3)) (aI σ b (i + 4)))) (w := (lng (aI σ b (i + 5)) (aI σ b (i + 6)))) hF hb hw21) (by omega) (by omega))
  rw [gH] at g
  rw [us_X12_feed]
  exact ⟨k9, rfl, I1, g⟩


set_option maxRecDepth 20000 in
theorem lc_over {Q : Option AV → Hp → Prop} {σ : Hp} {b n i : Int} {kc ks : Nat} {a5 a6 : Option AV} (hF : Fu b n σ) (hw : Wf σ) (hb : b < 0) (hi : 0 ≤ i ∧ i + 7 ≤ n ∧ n ≤ 3584) (hk : kc + 3 ≤ 601024 ∧ ks + 314 ≤ 7293034) (h : NX Q b n i kc ks) : GoF M_L_law Q 897 [some (vr b), some (vr 1), some (vr 61), some (vr 120), some (vi i), a5, a6] [] σ (kc, ks) := by
  obtain ⟨⟨hC, hnw, hX, hL, hG, hA, hK, hR, hH, hT, hLT, hTX, hLD⟩, ⟨iM, iB, iF, iU, iC, iW, iA, iH, iG, iN, iS, iT⟩, hS⟩ := id hF
  have hI := iM.1
  have s3 := hS.2.2
  have k1 : kd σ 1 = 12 := by simp only [hC.eqs]
  have k61 : kd σ 61 = 13 := hI.lay.1
  have hw21 : ∀ r, kd σ r = 21 → r < 0 := fun r q => hw.s21 r (Or.inr q)
  have nb : 0 ≤ fI σ 1210 1 ∧ fI σ 1210 1 ≤ 999999 := by
    rw [hnw]
    exact hI.now_s
  have hz := h _ kc ks a5 a6 (Fu.th (v := 0) hb hw21 hF) (by omega) (by omega)
  obtain ⟨y, ey⟩ : ∃ y : Int, y = if aI σ b (i + 2) = 0 then 0 else 1 := ⟨_, rfl⟩
  have hy : y = 0 ∨ y = 1 := by
    rw [ey]
    split <;> omega
  refine ls_over hS hi ⟨by omega, by omega⟩ ey fun Q1 hQ => ?_
  clear ey
  rw [us_X11_over]
  refine ⟨k1, rfl, hC, s3 _, hy, nb, hG.1, σ, hA, hI, fun j c q1 q2 => ?_, fun c => ?_, fun c => hQ _ σ hS rfl fun _ Q2 hQ2 => ?_⟩
  · rw [hG.2.1]
    exact (iS.2.1 _ j c ⟨q1, q2⟩).1.2
  · have z : Fz [105, 106, 107, 603, 602] noR noR σ (cHm (cOv1 σ (lat σ 28 (aI σ b (i + 1))) y (fI σ 1210 1 / 86400)) (lat σ 28 (aI σ b (i + 1))) (aI σ 115 (aI σ b (i + 1))).toNat) := ((((Fz_pI (fs := [105, 106, 107, 603, 602]) (f := 105) _ _ _ (by decide)).tr (Fz_pI (f := 106) _ _ _ (by decide))).tr (Fz_pI (f := 107) _ _ _ (by decide))).tr ((Fz_cHm _ (lat σ 28 (aI σ b (i + 1))) _).up (by decide) (fun r q => q) (fun r q => q)))
    have re : RE σ (cHm (cOv1 σ (lat σ 28 (aI σ b (i + 1))) y (fI σ 1210 1 / 86400)) (lat σ 28 (aI σ b (i + 1))) (aI σ 115 (aI σ b (i + 1))).toNat) := z.re (by decide) (fun r q => by first | exact absurd q id | (dsimp only at q; omega) | omega | (unfold tfA at q; omega) | (unfold tfL at q; omega) | (unfold fewA at q; omega) | (unfold surA at q; omega)) (fun r q => by first | exact absurd q id | (dsimp only at q; omega) | omega | (unfold tfA at q; omega) | (unfold tfL at q; omega) | (unfold fewA at q; omega) | (unfold surA at q; omega))
    obtain ⟨S1, eb⟩ := hS.fz9 z (by first | exact id | (intro q; omega) | (intro q; dsimp only at q; omega) | (intro q; unfold tfA at q; omega) | (intro q; unfold fewA at q; omega) | (intro q; unfold surA at q; omega))
    have k9 : kd (cHm (cOv1 σ (lat σ 28 (aI σ b (i + 1))) y (fI σ 1210 1 / 86400)) (lat σ 28 (aI σ b (i + 1))) (aI σ 115 (aI σ b (i + 1))).toNat) 61 = 13 := by rw [z.kd]; exact k61
    have I1 : MI (cHm (cOv1 σ (lat σ 28 (aI σ b (i + 1))) y (fI σ 1210 1 / 86400)) (lat σ 28 (aI σ b (i + 1))) (aI σ 115 (aI σ b (i + 1))).toNat) := MI_RE re hI
    refine hQ _ _ S1 eb fun _ Q2 hQ2 => ?_
    have g := hQ2 _ (h _ kc ks a5 a6 (fu_over (d := fI σ 1210 1 / 86400) (v := y) hF hb hw21 (by rw [hnw]) hy (Int.toNat_of_nonneg (hI.sentMany_ _).1) c) (by omega) (by omega))
    have e3 : fI (cHm (cOv1 σ (lat σ 28 (aI σ b (i + 1))) y (fI σ 1210 1 / 86400)) (lat σ 28 (aI σ b (i + 1))) (aI σ 115 (aI σ b (i + 1))).toNat) 1371 61 = fI σ 1371 61 := (re.2 1371 (by omega) (by omega)).1
    have e4 : aI (cHm (cOv1 σ (lat σ 28 (aI σ b (i + 1))) y (fI σ 1210 1 / 86400)) (lat σ 28 (aI σ b (i + 1))) (aI σ 115 (aI σ b (i + 1))).toNat) 112 = aI σ 112 := (re.1 112 (by omega) (by omega)).2.2.1
    generalize cHm (cOv1 σ (lat σ 28 (aI σ b (i + 1))) y (fI σ 1210 1 / 86400)) (lat σ 28 (aI σ b (i + 1))) (aI σ 115 (aI σ b (i + 1))).toNat = σ1 at *
    rw [us_X12_over]
    refine ⟨k9, rfl, I1, s3 _, hy, fun _ => g, fun z => absurd ?_ z⟩
    rw [e3, e4]
    exact c
  · rw [us_X12_over]
    exact ⟨k61, rfl, hI, s3 _, hy, fun z => absurd z c, fun _ => hQ2 _ hz⟩

