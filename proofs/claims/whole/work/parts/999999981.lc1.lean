/-! the law's cases in full -/

set_option maxRecDepth 20000 in
theorem lc_stories {Q : Option AV → Hp → Prop} {σ : Hp} {b n i : Int} {kc ks : Nat} {a5 a6 : Option AV} (hF : Fu b n σ) (hw : Wf σ) (hb : b < 0) (hi : 0 ≤ i ∧ i + 7 ≤ n ∧ n ≤ 3584) (hk : kc + 3 ≤ 601024 ∧ ks + 314 ≤ 7293034) (h : NX Q b n i kc ks) : GoF M_L_law Q 464 [some (vr b), some (vr 1), some (vr 61), some (vr 120), some (vi i), a5, a6] [] σ (kc, ks) := by
  obtain ⟨⟨hC, hnw, hX, hL, hG, hA, hK, hR, hH, hT, hLT, hTX, hLD⟩, ⟨iM, iB, iF, iU, iC, iW, iA, iH, iG, iN, iS, iT⟩, hS⟩ := id hF
  have hI := iM.1
  have s3 := hS.2.2
  have k1 : kd σ 1 = 12 := by simp only [hC.eqs]
  have k61 : kd σ 61 = 13 := hI.lay.1
  have hw21 : ∀ r, kd σ r = 21 → r < 0 := fun r q => hw.s21 r (Or.inr q)
  have nb : 0 ≤ fI σ 1210 1 ∧ fI σ 1210 1 ≤ 999999 := by
    rw [hnw]
    exact hI.now_s
  have hz := h _ kc ks a5 a6 (Fu.th (v := 0) hb hw21 hF) (by omega) (by omega)
  have e : fI σ 1109 4 = fI σ 1322 61 := by
    obtain ⟨xs, t1, t2, -⟩ := hR
    rw [t2.1, t1.1, List.length_map]
  refine ls_stories hS hi ⟨by omega, by omega⟩ fun Q1 hQ => ?_
  rw [us_X11_stories]
  refine ⟨k1, rfl, hC, hQ _ σ hS rfl fun _ Q2 hQ2 => ?_⟩
  rw [us_X12_stories, ← e]
  exact ⟨k61, rfl, hQ2 _ hz⟩


set_option maxRecDepth 20000 in
theorem lc_ask {Q : Option AV → Hp → Prop} {σ : Hp} {b n i : Int} {kc ks : Nat} {a5 a6 : Option AV} (hF : Fu b n σ) (hw : Wf σ) (hb : b < 0) (hi : 0 ≤ i ∧ i + 7 ≤ n ∧ n ≤ 3584) (hk : kc + 3 ≤ 601024 ∧ ks + 314 ≤ 7293034) (h : NX Q b n i kc ks) : GoF M_L_law Q 526 [some (vr b), some (vr 1), some (vr 61), some (vr 120), some (vi i), a5, a6] [] σ (kc, ks) := by
  obtain ⟨⟨hC, hnw, hX, hL, hG, hA, hK, hR, hH, hT, hLT, hTX, hLD⟩, ⟨iM, iB, iF, iU, iC, iW, iA, iH, iG, iN, iS, iT⟩, hS⟩ := id hF
  have hI := iM.1
  have s3 := hS.2.2
  have k1 : kd σ 1 = 12 := by simp only [hC.eqs]
  have k61 : kd σ 61 = 13 := hI.lay.1
  have hw21 : ∀ r, kd σ r = 21 → r < 0 := fun r q => hw.s21 r (Or.inr q)
  have nb : 0 ≤ fI σ 1210 1 ∧ fI σ 1210 1 ≤ 999999 := by
    rw [hnw]
    exact hI.now_s
  have hz := h _ kc ks a5 a6 (Fu.th (v := 0) hb hw21 hF) (by omega) (by omega)
  refine ls_ask hS hi ⟨by omega, by omega⟩ fun Q1 hQ => ?_
  rw [us_X11_ask]
  refine ⟨k1, rfl, hC, σ, hR, hI, iB, hX, fun l a b => (hL l a b).1.1, hQ _ σ hS rfl fun _ Q2 hQ2 => ?_⟩
  rw [us_X12_ask]
  exact ⟨k61, rfl, hI, iN.2.2.1, hQ2 _ hz⟩


set_option maxRecDepth 20000 in
theorem lc_story {Q : Option AV → Hp → Prop} {σ : Hp} {b n i : Int} {kc ks : Nat} {a5 a6 : Option AV} (hF : Fu b n σ) (hw : Wf σ) (hb : b < 0) (hi : 0 ≤ i ∧ i + 7 ≤ n ∧ n ≤ 3584) (hk : kc + 3 ≤ 601024 ∧ ks + 314 ≤ 7293034) (h : NX Q b n i kc ks) : GoF M_L_law Q 477 [some (vr b), some (vr 1), some (vr 61), some (vr 120), some (vi i), a5, a6] [] σ (kc, ks) := by
  obtain ⟨⟨hC, hnw, hX, hL, hG, hA, hK, hR, hH, hT, hLT, hTX, hLD⟩, ⟨iM, iB, iF, iU, iC, iW, iA, iH, iG, iN, iS, iT⟩, hS⟩ := id hF
  have hI := iM.1
  have s3 := hS.2.2
  have k1 : kd σ 1 = 12 := by simp only [hC.eqs]
  have k61 : kd σ 61 = 13 := hI.lay.1
  have hw21 : ∀ r, kd σ r = 21 → r < 0 := fun r q => hw.s21 r (Or.inr q)
  have nb : 0 ≤ fI σ 1210 1 ∧ fI σ 1210 1 ≤ 999999 := by
    rw [hnw]
    exact hI.now_s
  have hz := h _ kc ks a5 a6 (Fu.th (v := 0) hb hw21 hF) (by omega) (by omega)
  refine ls_story hS hi ⟨by omega, by omega⟩ fun Q1 hQ => ?_
  rw [us_X11_story]
  refine ⟨k1, rfl, hC, s3 _, s3 _, s3 _, σ, hR, hI, iB, hX, fun l a b => (hL l a b).1.1, fun c => hQ _ σ hS rfl fun _ Q2 hQ2 => ?_, fun c => hQ _ σ hS rfl fun _ Q2 hQ2 => ?_⟩
  · rw [us_X12_story]
    exact ⟨k61, rfl, hI, s3 _, s3 _, s3 _, fun _ => hQ2 _ hz, fun z => absurd c z⟩
  · rw [us_X12_story]
    exact ⟨k61, rfl, hI, s3 _, s3 _, s3 _, fun z => absurd z c, fun _ => hQ2 _ hz⟩


set_option maxRecDepth 20000 in
theorem lc_sent {Q : Option AV → Hp → Prop} {σ : Hp} {b n i : Int} {kc ks : Nat} {a5 a6 : Option AV} (hF : Fu b n σ) (hw : Wf σ) (hb : b < 0) (hi : 0 ≤ i ∧ i + 7 ≤ n ∧ n ≤ 3584) (hk : kc + 3 ≤ 601024 ∧ ks + 314 ≤ 7293034) (h : NX Q b n i kc ks) : GoF M_L_law Q 860 [some (vr b), some (vr 1), some (vr 61), some (vr 120), some (vi i), a5, a6] [] σ (kc, ks) := by
  obtain ⟨⟨hC, hnw, hX, hL, hG, hA, hK, hR, hH, hT, hLT, hTX, hLD⟩, ⟨iM, iB, iF, iU, iC, iW, iA, iH, iG, iN, iS, iT⟩, hS⟩ := id hF
  have hI := iM.1
  have s3 := hS.2.2
  have k1 : kd σ 1 = 12 := by simp only [hC.eqs]
  have k61 : kd σ 61 = 13 := hI.lay.1
  have hw21 : ∀ r, kd σ r = 21 → r < 0 := fun r q => hw.s21 r (Or.inr q)
  have nb : 0 ≤ fI σ 1210 1 ∧ fI σ 1210 1 ≤ 999999 := by
    rw [hnw]
    exact hI.now_s
  have hz := h _ kc ks a5 a6 (Fu.th (v := 0) hb hw21 hF) (by omega) (by omega)
  refine ls_sent hS hi ⟨by omega, by omega⟩ fun Q1 hQ => ?_
  rw [us_X11_sent]
  refine ⟨k1, rfl, hC, s3 _, s3 _, σ, hA, hI, hQ _ σ hS rfl fun _ Q2 hQ2 => ?_⟩
  have g := hQ2 _ hz
  rw [us_X12_sent]
  refine ⟨k61, rfl, hI, s3 _, s3 _, fun c => ?_, fun c => ?_⟩
  · rw [if_pos c] at g
    exact g
  · rw [if_neg c] at g
    exact g


set_option maxRecDepth 20000 in
theorem lc_at {Q : Option AV → Hp → Prop} {σ : Hp} {b n i : Int} {kc ks : Nat} {a5 a6 : Option AV} (hF : Fu b n σ) (hw : Wf σ) (hb : b < 0) (hi : 0 ≤ i ∧ i + 7 ≤ n ∧ n ≤ 3584) (hk : kc + 3 ≤ 601024 ∧ ks + 314 ≤ 7293034) (h : NX Q b n i kc ks) : GoF M_L_law Q 950 [some (vr b), some (vr 1), some (vr 61), some (vr 120), some (vi i), a5, a6] [] σ (kc, ks) := by
  obtain ⟨⟨hC, hnw, hX, hL, hG, hA, hK, hR, hH, hT, hLT, hTX, hLD⟩, ⟨iM, iB, iF, iU, iC, iW, iA, iH, iG, iN, iS, iT⟩, hS⟩ := id hF
  have hI := iM.1
  have s3 := hS.2.2
  have k1 : kd σ 1 = 12 := by simp only [hC.eqs]
  have k61 : kd σ 61 = 13 := hI.lay.1
  have hw21 : ∀ r, kd σ r = 21 → r < 0 := fun r q => hw.s21 r (Or.inr q)
  have nb : 0 ≤ fI σ 1210 1 ∧ fI σ 1210 1 ≤ 999999 := by
    rw [hnw]
    exact hI.now_s
  have hz := h _ kc ks a5 a6 (Fu.th (v := 0) hb hw21 hF) (by omega) (by omega)
  refine ls_at hS hi ⟨by omega, by omega⟩ fun Q1 hQ => ?_
  rw [us_X11_at]
  refine ⟨k1, rfl, hC, s3 _, σ, hG, hI, hQ _ σ hS rfl fun _ Q2 hQ2 => ?_⟩
  have g := hQ2 _ hz
  rw [us_X12_at]
  refine ⟨k61, rfl, hI, s3 _, fun c => ?_, fun c => ?_⟩
  · rw [if_pos c] at g
    exact g
  · rw [if_neg c] at g
    exact g


set_option maxRecDepth 20000 in
theorem lc_there {Q : Option AV → Hp → Prop} {σ : Hp} {b n i : Int} {kc ks : Nat} {a5 a6 : Option AV} (hF : Fu b n σ) (hw : Wf σ) (hb : b < 0) (hi : 0 ≤ i ∧ i + 7 ≤ n ∧ n ≤ 3584) (hk : kc + 3 ≤ 601024 ∧ ks + 314 ≤ 7293034) (h : NX Q b n i kc ks) : GoF M_L_law Q 975 [some (vr b), some (vr 1), some (vr 61), some (vr 120), some (vi i), a5, a6] [] σ (kc, ks) := by
  obtain ⟨⟨hC, hnw, hX, hL, hG, hA, hK, hR, hH, hT, hLT, hTX, hLD⟩, ⟨iM, iB, iF, iU, iC, iW, iA, iH, iG, iN, iS, iT⟩, hS⟩ := id hF
  have hI := iM.1
  have s3 := hS.2.2
  have k1 : kd σ 1 = 12 := by simp only [hC.eqs]
  have k61 : kd σ 61 = 13 := hI.lay.1
  have hw21 : ∀ r, kd σ r = 21 → r < 0 := fun r q => hw.s21 r (Or.inr q)
  have nb : 0 ≤ fI σ 1210 1 ∧ fI σ 1210 1 ≤ 999999 := by
    rw [hnw]
    exact hI.now_s
  have hz := h _ kc ks a5 a6 (Fu.th (v := 0) hb hw21 hF) (by omega) (by omega)
  refine ls_there hS hi ⟨by omega, by omega⟩ fun Q1 hQ => ?_
  rw [us_X11_there]
  refine ⟨k1, rfl, hC, s3 _, σ, hG, hI, hQ _ σ hS rfl fun _ Q2 hQ2 => ?_⟩
  have g := hQ2 _ hz
  rw [us_X12_there]
  refine ⟨k61, rfl, hI, s3 _, fun c => ?_, fun c => ?_⟩
  · rw [if_pos c] at g
    exact g
  · rw [if_neg c] at g
    exact g


set_option maxRecDepth 20000 in
theorem lc_knocked {Q : Option AV → Hp → Prop} {σ : Hp} {b n i : Int} {kc ks : Nat} {a5 a6 : Option AV} (hF : Fu b n σ) (hw : Wf σ) (hb : b < 0) (hi : 0 ≤ i ∧ i + 7 ≤ n ∧ n ≤ 3584) (hk : kc + 3 ≤ 601024 ∧ ks + 314 ≤ 7293034) (h : NX Q b n i kc ks) : GoF M_L_law Q 378 [some (vr b), some (vr 1), some (vr 61), some (vr 120), some (vi i), a5, a6] [] σ (kc, ks) := by
  obtain ⟨⟨hC, hnw, hX, hL, hG, hA, hK, hR, hH, hT, hLT, hTX, hLD⟩, ⟨iM, iB, iF, iU, iC, iW, iA, iH, iG, iN, iS, iT⟩, hS⟩ := id hF
  have hI := iM.1
  have s3 := hS.2.2
  have k1 : kd σ 1 = 12 := by simp only [hC.eqs]
  have k61 : kd σ 61 = 13 := hI.lay.1
  have hw21 : ∀ r, kd σ r = 21 → r < 0 := fun r q => hw.s21 r (Or.inr q)
  have nb : 0 ≤ fI σ 1210 1 ∧ fI σ 1210 1 ≤ 999999 := by
    rw [hnw]
    exact hI.now_s
  have hlo : ∀ l, 0 ≤ l → l < 4 → LpO σ (45 + 4 * l) := fun l q1 q2 => LoP.o hC hX hI ⟨q1, q2⟩ (hL l q1 q2).1.1 (hL l q1 q2).1.2 (fun k a b => (iB.1 l k q1 q2 a b).1)
  have hz := h _ kc ks a5 a6 (Fu.th (v := 0) hb hw21 hF) (by omega) (by omega)
  refine ls_knocked hS hi ⟨by omega, by omega⟩ fun Q1 hQ => ?_
  rw [us_X11_knocked]
  refine ⟨k1, rfl, hC, s3 _, s3 _, nb, hlo, fun c => hQ _ σ hS rfl fun _ Q2 hQ2 => ?_, fun c => hQ _ σ hS rfl fun _ Q2 hQ2 => ?_⟩
  · have g := hQ2 _ hz
    rw [us_X12_knocked]
    obtain ⟨⟨⟨-, -, -, -, -, -, -, -, t1, t2, -⟩, -⟩, -⟩ := hL (aI σ b (i + 1)) c.1.1 c.1.2
    have e : (bE 500 fun k => k < fI σ 1003 ((45 + 4 * (aI σ b (i + 1)))) ∧ aI σ (48 + 4 * (aI σ b (i + 1))) k = (aI σ b (i + 2))) ↔ mTaped σ (aI σ b (i + 1)) (aI σ b (i + 2)) := by
      unfold mTaped bE
      constructor
      · rintro ⟨k, p, q, r, u⟩
        exact ⟨k, p, q, by rw [t2] at r; omega, by rw [← t1 k p q]; exact u⟩
      · rintro ⟨k, p, q, r, u⟩
        exact ⟨k, p, q, by rw [t2]; omega, by rw [t1 k p q]; exact u⟩
    rw [b2i_congr e] at g
    rw [hnw] at c
    exact ⟨k61, rfl, hI, s3 _, s3 _, fun _ => g, fun z => absurd ⟨c.1.1, by omega, c.2⟩ z⟩
  · rw [us_X12_knocked]
    rw [hnw] at c
    exact ⟨k61, rfl, hI, s3 _, s3 _, fun z => absurd ⟨⟨z.1, by omega⟩, z.2.2⟩ c, fun _ => hQ2 _ hz⟩


set_option maxRecDepth 20000 in
theorem lc_known {Q : Option AV → Hp → Prop} {σ : Hp} {b n i : Int} {kc ks : Nat} {a5 a6 : Option AV} (hF : Fu b n σ) (hw : Wf σ) (hb : b < 0) (hi : 0 ≤ i ∧ i + 7 ≤ n ∧ n ≤ 3584) (hk : kc + 3 ≤ 601024 ∧ ks + 314 ≤ 7293034) (h : NX Q b n i kc ks) : GoF M_L_law Q 1141 [some (vr b), some (vr 1), some (vr 61), some (vr 120), some (vi i), a5, a6] [] σ (kc, ks) := by
  obtain ⟨⟨hC, hnw, hX, hL, hG, hA, hK, hR, hH, hT, hLT, hTX, hLD⟩, ⟨iM, iB, iF, iU, iC, iW, iA, iH, iG, iN, iS, iT⟩, hS⟩ := id hF
  have hI := iM.1
  have s3 := hS.2.2
  have k1 : kd σ 1 = 12 := by simp only [hC.eqs]
  have k61 : kd σ 61 = 13 := hI.lay.1
  have hw21 : ∀ r, kd σ r = 21 → r < 0 := fun r q => hw.s21 r (Or.inr q)
  have nb : 0 ≤ fI σ 1210 1 ∧ fI σ 1210 1 ≤ 999999 := by
    rw [hnw]
    exact hI.now_s
  have hz := h _ kc ks a5 a6 (Fu.th (v := 0) hb hw21 hF) (by omega) (by omega)
  refine ls_known hS hi ⟨by omega, by omega⟩ fun Q1 hQ => ?_
  rw [us_X11_known]
  refine ⟨k1, rfl, hC, s3 _, s3 _, nb, σ, hA, hI, iW, hQ _ σ hS rfl fun _ Q2 hQ2 => ?_⟩
  have g := hQ2 _ hz
  rw [hnw] at g
  rw [us_X12_known]
  refine ⟨k61, rfl, hI, s3 _, s3 _, fun c => ?_, fun c => ?_⟩
  · rw [if_pos c.2.1] at g
    unfold cKnw at g
    rw [if_pos ⟨c.1, c.2.2⟩] at g
    exact g
  · by_cases c1 : 0 ≤ (aI σ b (i + 2)) ∧ (aI σ b (i + 2)) ≤ fI σ 1301 61 / 86400
    · rw [if_pos c1] at g
      unfold cKnw at g
      rw [if_neg (fun q => c ⟨q.1, c1, q.2⟩)] at g
      exact g
    · rw [if_neg c1] at g
      exact g


set_option maxRecDepth 20000 in
theorem lc_rate {Q : Option AV → Hp → Prop} {σ : Hp} {b n i : Int} {kc ks : Nat} {a5 a6 : Option AV} (hF : Fu b n σ) (hw : Wf σ) (hb : b < 0) (hi : 0 ≤ i ∧ i + 7 ≤ n ∧ n ≤ 3584) (hk : kc + 3 ≤ 601024 ∧ ks + 314 ≤ 7293034) (h : NX Q b n i kc ks) : GoF M_L_law Q 1178 [some (vr b), some (vr 1), some (vr 61), some (vr 120), some (vi i), a5, a6] [] σ (kc, ks) := by
  obtain ⟨⟨hC, hnw, hX, hL, hG, hA, hK, hR, hH, hT, hLT, hTX, hLD⟩, ⟨iM, iB, iF, iU, iC, iW, iA, iH, iG, iN, iS, iT⟩, hS⟩ := id hF
  have hI := iM.1
  have s3 := hS.2.2
  have k1 : kd σ 1 = 12 := by simp only [hC.eqs]
  have k61 : kd σ 61 = 13 := hI.lay.1
  have hw21 : ∀ r, kd σ r = 21 → r < 0 := fun r q => hw.s21 r (Or.inr q)
  have nb : 0 ≤ fI σ 1210 1 ∧ fI σ 1210 1 ≤ 999999 := by
    rw [hnw]
    exact hI.now_s
  have hz := h _ kc ks a5 a6 (Fu.th (v := 0) hb hw21 hF) (by omega) (by omega)
  refine ls_rate hS hi ⟨by omega, by omega⟩ fun Q1 hQ => ?_
  rw [us_X11_rate]
  refine ⟨k1, rfl, hC, s3 _, s3 _, nb, σ, hA, hX, hI, iW, iA, hQ _ σ hS rfl fun _ Q2 hQ2 => ?_⟩
  have g := hQ2 _ hz
  rw [hnw] at g
  rw [us_X12_rate]
  refine ⟨k61, rfl, hI, s3 _, s3 _, fun c => ?_, fun c => ?_⟩
  · rw [if_pos ⟨c.1, c.2⟩] at g
    exact g
  · rw [if_neg (fun q => c ⟨q.1, q.2⟩)] at g
    exact g


set_option maxRecDepth 20000 in
theorem lc_worst {Q : Option AV → Hp → Prop} {σ : Hp} {b n i : Int} {kc ks : Nat} {a5 a6 : Option AV} (hF : Fu b n σ) (hw : Wf σ) (hb : b < 0) (hi : 0 ≤ i ∧ i + 7 ≤ n ∧ n ≤ 3584) (hk : kc + 3 ≤ 601024 ∧ ks + 314 ≤ 7293034) (h : NX Q b n i kc ks) : GoF M_L_law Q 1215 [some (vr b), some (vr 1), some (vr 61), some (vr 120), some (vi i), a5, a6] [] σ (kc, ks) := by
  obtain ⟨⟨hC, hnw, hX, hL, hG, hA, hK, hR, hH, hT, hLT, hTX, hLD⟩, ⟨iM, iB, iF, iU, iC, iW, iA, iH, iG, iN, iS, iT⟩, hS⟩ := id hF
  have hI := iM.1
  have s3 := hS.2.2
  have k1 : kd σ 1 = 12 := by simp only [hC.eqs]
  have k61 : kd σ 61 = 13 := hI.lay.1
  have hw21 : ∀ r, kd σ r = 21 → r < 0 := fun r q => hw.s21 r (Or.inr q)
  have nb : 0 ≤ fI σ 1210 1 ∧ fI σ 1210 1 ≤ 999999 := by
    rw [hnw]
    exact hI.now_s
  have hz := h _ kc ks a5 a6 (Fu.th (v := 0) hb hw21 hF) (by omega) (by omega)
  refine ls_worst hS hi ⟨by omega, by omega⟩ fun Q1 hQ => ?_
  rw [us_X11_worst]
  refine ⟨k1, rfl, hC, s3 _, σ, hnw, hA, hX, hI, iW, iA, hQ _ σ hS rfl fun _ Q2 hQ2 => ?_⟩
  rw [us_X12_worst]
  exact ⟨k61, rfl, hI, s3 _, hQ2 _ hz⟩


set_option maxRecDepth 20000 in
theorem lc_count {Q : Option AV → Hp → Prop} {σ : Hp} {b n i : Int} {kc ks : Nat} {a5 a6 : Option AV} (hF : Fu b n σ) (hw : Wf σ) (hb : b < 0) (hi : 0 ≤ i ∧ i + 7 ≤ n ∧ n ≤ 3584) (hk : kc + 3 ≤ 601024 ∧ ks + 314 ≤ 7293034) (h : NX Q b n i kc ks) : GoF M_L_law Q 1308 [some (vr b), some (vr 1), some (vr 61), some (vr 120), some (vi i), a5, a6] [] σ (kc, ks) := by
  obtain ⟨⟨hC, hnw, hX, hL, hG, hA, hK, hR, hH, hT, hLT, hTX, hLD⟩, ⟨iM, iB, iF, iU, iC, iW, iA, iH, iG, iN, iS, iT⟩, hS⟩ := id hF
  have hI := iM.1
  have s3 := hS.2.2
  have k1 : kd σ 1 = 12 := by simp only [hC.eqs]
  have k61 : kd σ 61 = 13 := hI.lay.1
  have hw21 : ∀ r, kd σ r = 21 → r < 0 := fun r q => hw.s21 r (Or.inr q)
  have nb : 0 ≤ fI σ 1210 1 ∧ fI σ 1210 1 ≤ 999999 := by
    rw [hnw]
    exact hI.now_s
  have hz := h _ kc ks a5 a6 (Fu.th (v := 0) hb hw21 hF) (by omega) (by omega)
  refine ls_count hS hi ⟨by omega, by omega⟩ fun Q1 hQ => ?_
  rw [us_X11_count]
  refine ⟨k1, rfl, hC, s3 _, σ, hnw, hX, hL, hG, hA, hK, hH.1, iM, iB, iG, hQ _ σ hS rfl fun _ Q2 hQ2 => ?_⟩
  rw [us_X12_count]
  exact ⟨k61, rfl, hI, s3 _, hQ2 _ hz⟩

