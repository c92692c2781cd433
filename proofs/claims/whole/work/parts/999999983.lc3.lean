/-! the law's cases in full -/

theorem mCov_is {τ : Hp} {w : Int} : mCov (pI (pI τ 1384 61 (-1)) 1386 61 (-1)) w ↔ ¬ bE (fI τ 1302 61) fun b => aI τ 67 b = w ∧ ¬ ∃ c, (0 ≤ c ∧ c < fI τ 1335 61) ∧ mEng τ c ∧ mWay τ (aI τ 89 c) b ≤ fI τ 1342 61 := by
  have e : ∀ b, mNear (pI (pI τ 1384 61 (-1)) 1386 61 (-1)) b ↔ ∃ c, (0 ≤ c ∧ c < fI τ 1335 61) ∧ mEng τ c ∧ mWay τ (aI τ 89 c) b ≤ fI τ 1342 61 := fun b => by
    have ho : ∀ c, 0 ≤ c → mHo (pI (pI τ 1384 61 (-1)) 1386 61 (-1)) c = aI τ 89 c := fun c hc => by
      unfold mHo
      have e1 : fI (pI (pI τ 1384 61 (-1)) 1386 61 (-1)) 1384 61 = -1 := by
        simp only [fI_pI, Nat.reduceEqDiff, false_and, if_false, and_self, if_true]
      have e2 : fI (pI (pI τ 1384 61 (-1)) 1386 61 (-1)) 1386 61 = -1 := by
        simp only [fI_pI, Nat.reduceEqDiff, false_and, if_false, and_self, if_true]
      rw [e1, e2, if_neg (by omega), if_neg (by omega), aI_pI, aI_pI]
    unfold mNear bE
    constructor
    · rintro ⟨c, p, q, r, t⟩
      rw [ho c p] at t
      exact ⟨c, ⟨p, q⟩, r, t⟩
    · rintro ⟨c, ⟨p, q⟩, r, t⟩
      refine ⟨c, p, q, r, ?_⟩
      rw [ho c p]
      exact t
  unfold mCov bE
  constructor
  · rintro h ⟨j, p, q, r, t⟩
    exact h ⟨j, p, q, r, fun z => t ((e j).mp z)⟩
  · rintro h ⟨j, p, q, r, t⟩
    exact h ⟨j, p, q, r, fun z => t ((e j).mpr z)⟩
theorem mHas.re {τ τ' : Hp} {w : Int} (z : RE τ τ') : mHas τ' w = mHas τ w := by
  unfold mHas bE
  simp only [z.eqs]
theorem cFew.th {τ σ' : Hp} {n v : Int} (h : cFew τ σ' n) : cFew (pI τ 1300 61 v) σ' n := h


set_option maxRecDepth 20000 in
theorem lc_covered {Q : Option AV → Hp → Prop} {σ : Hp} {b n i : Int} {kc ks : Nat} {a5 a6 : Option AV} (hF : Fu b n σ) (hw : Wf σ) (hb : b < 0) (hi : 0 ≤ i ∧ i + 7 ≤ n ∧ n ≤ 3584) (hk : kc + 3 ≤ 601024 ∧ ks + 314 ≤ 7293034) (h : NX Q b n i kc ks) : GoF M_L_law Q 1000 [some (vr b), some (vr 1), some (vr 61), some (vr 120), some (vi i), a5, a6] [] σ (kc, ks) := by
  obtain ⟨⟨hC, hnw, hX, hL, hG, hA, hK, hR, hH, hT, hLT, hTX, hLD⟩, ⟨iM, iB, iF, iU, iC, iW, iA, iH, iG, iN, iS, iT⟩, hS⟩ := id hF
  have hI := iM.1
  have s3 := hS.2.2
  have k1 : kd σ 1 = 12 := by simp only [hC.eqs]
  have k61 : kd σ 61 = 13 := hI.lay.1
  have hw21 : ∀ r, kd σ r = 21 → r < 0 := fun r q => hw.s21 r (Or.inr q)
  have nb : 0 ≤ fI σ 1210 1 ∧ fI σ 1210 1 ≤ 999999 := by
    rw [hnw]
    exact hI.now_s
  have hz := h _ kc ks a5 a6 (Fu.th (v := 0) hb hw21 hF) (by omega) (by omega)
  refine ls_covered hS hi ⟨by omega, by omega⟩ fun Q1 hQ => ?_
  rw [us_X11_covered]
  refine ⟨k1, rfl, hC, s3 _, σ, hX, hG, hI, iH, fun c σ1 z => ?_, fun c => hQ _ σ hS rfl fun _ Q2 hQ2 => ?_⟩
  · have re : RE σ σ1 := z.re (by decide) (fun r q => by first | exact absurd q id | (dsimp only at q; omega) | omega | (unfold tfA at q; omega) | (unfold tfL at q; omega) | (unfold fewA at q; omega) | (unfold surA at q; omega)) (fun r q => by first | exact absurd q id | (dsimp only at q; omega) | omega | (unfold tfA at q; omega) | (unfold tfL at q; omega) | (unfold fewA at q; omega) | (unfold surA at q; omega))
    obtain ⟨S1, eb⟩ := hS.fz9 z (by first | exact id | (intro q; omega) | (intro q; dsimp only at q; omega) | (intro q; unfold tfA at q; omega) | (intro q; unfold fewA at q; omega) | (intro q; unfold surA at q; omega))
    have k9 : kd σ1 61 = 13 := by rw [z.kd]; exact k61
    have I1 : MI σ1 := MI_RE re hI
    refine hQ _ _ S1 eb fun _ Q2 hQ2 => ?_
    have g := hQ2 _ (h _ kc ks a5 a6 (fu_covered hF hb hw21 z rfl) (by omega) (by omega))
    have c1 : mHas σ1 (aI σ b (i + 1)) := by
      rw [mHas.re re]
      exact c
    have cw : 0 ≤ (aI σ b (i + 1)) ∧ (aI σ b (i + 1)) ≤ 7 := by
      obtain ⟨j, -, -, e⟩ := c
      rw [← e]
      exact hI.ward_ j
    have ee : (¬ bE (fI σ 1302 61) fun b9 => aI σ 67 b9 = (aI σ b (i + 1)) ∧ ¬ ∃ c, (0 ≤ c ∧ c < fI σ 1335 61) ∧ mEng σ c ∧ mWay σ (aI σ 89 c) b9 ≤ fI σ 1342 61) ↔ mCov (pI (pI σ1 1384 61 (-1)) 1386 61 (-1)) (aI σ b (i + 1)) := by
      rw [mCov_is]
      unfold bE mEng mWay
      simp only [re.eqs]
    rw [b2i_congr ee] at g
    rw [us_X12_covered]
    exact ⟨k9, rfl, I1, s3 _, fun _ => g, fun w => absurd ⟨cw, c1⟩ w⟩
  · rw [us_X12_covered]
    exact ⟨k61, rfl, hI, s3 _, fun w => absurd w.2 c, fun _ => hQ2 _ hz⟩


set_option maxRecDepth 20000 in
theorem lc_moves {Q : Option AV → Hp → Prop} {σ : Hp} {b n i : Int} {kc ks : Nat} {a5 a6 : Option AV} (hF : Fu b n σ) (hw : Wf σ) (hb : b < 0) (hi : 0 ≤ i ∧ i + 7 ≤ n ∧ n ≤ 3584) (hk : kc + 3 ≤ 601024 ∧ ks + 314 ≤ 7293034) (h : NX Q b n i kc ks) : GoF M_L_law Q 1025 [some (vr b), some (vr 1), some (vr 61), some (vr 120), some (vi i), a5, a6] [] σ (kc, ks) := by
  obtain ⟨⟨hC, hnw, hX, hL, hG, hA, hK, hR, hH, hT, hLT, hTX, hLD⟩, ⟨iM, iB, iF, iU, iC, iW, iA, iH, iG, iN, iS, iT⟩, hS⟩ := id hF
  have hI := iM.1
  have s3 := hS.2.2
  have k1 : kd σ 1 = 12 := by simp only [hC.eqs]
  have k61 : kd σ 61 = 13 := hI.lay.1
  have hw21 : ∀ r, kd σ r = 21 → r < 0 := fun r q => hw.s21 r (Or.inr q)
  have nb : 0 ≤ fI σ 1210 1 ∧ fI σ 1210 1 ≤ 999999 := by
    rw [hnw]
    exact hI.now_s
  have hz := h _ kc ks a5 a6 (Fu.th (v := 0) hb hw21 hF) (by omega) (by omega)
  refine ls_moves hS hi ⟨by omega, by omega⟩ fun Q1 hQ => ?_
  rw [us_X11_moves]
  refine ⟨k1, rfl, hC, hT, σ, hX, hG, hI, iH, fun σ1 n9 z T1 cf => ?_⟩
  have re : RE σ σ1 := z.re (by decide) (fun r q => by first | exact absurd q id | (dsimp only at q; omega) | omega | (unfold tfA at q; omega) | (unfold tfL at q; omega) | (unfold fewA at q; omega) | (unfold surA at q; omega)) (fun r q => by first | exact absurd q id | (dsimp only at q; omega) | omega | (unfold tfA at q; omega) | (unfold tfL at q; omega) | (unfold fewA at q; omega) | (unfold surA at q; omega))
  obtain ⟨S1, eb⟩ := hS.fz9 z (by first | exact id | (intro q; omega) | (intro q; dsimp only at q; omega) | (intro q; unfold tfA at q; omega) | (intro q; unfold fewA at q; omega) | (intro q; unfold surA at q; omega))
  have k9 : kd σ1 61 = 13 := by rw [z.kd]; exact k61
  have I1 : MI σ1 := MI_RE re hI
  refine hQ _ _ S1 eb fun _ Q2 hQ2 => ?_
  rw [us_X12_moves]
  refine ⟨k9, rfl, I1, fun n8 A a B c hm => ?_⟩
  have e := few_is (cFew.th (cFew.re re cf)) hm
  rw [e.1]
  exact hQ2 _ (h _ kc ks a5 a6 (fu_moves hF hb hw21 z T1 hm.1 rfl) (by omega) (by omega))


set_option maxRecDepth 20000 in
theorem lc_move {Q : Option AV → Hp → Prop} {σ : Hp} {b n i : Int} {kc ks : Nat} {a5 a6 : Option AV} (hF : Fu b n σ) (hw : Wf σ) (hb : b < 0) (hi : 0 ≤ i ∧ i + 7 ≤ n ∧ n ≤ 3584) (hk : kc + 3 ≤ 601024 ∧ ks + 314 ≤ 7293034) (h : NX Q b n i kc ks) : GoF M_L_law Q 1038 [some (vr b), some (vr 1), some (vr 61), some (vr 120), some (vi i), a5, a6] [] σ (kc, ks) := by
  obtain ⟨⟨hC, hnw, hX, hL, hG, hA, hK, hR, hH, hT, hLT, hTX, hLD⟩, ⟨iM, iB, iF, iU, iC, iW, iA, iH, iG, iN, iS, iT⟩, hS⟩ := id hF
  have hI := iM.1
  have s3 := hS.2.2
  have k1 : kd σ 1 = 12 := by simp only [hC.eqs]
  have k61 : kd σ 61 = 13 := hI.lay.1
  have hw21 : ∀ r, kd σ r = 21 → r < 0 := fun r q => hw.s21 r (Or.inr q)
  have nb : 0 ≤ fI σ 1210 1 ∧ fI σ 1210 1 ≤ 999999 := by
    rw [hnw]
    exact hI.now_s
  have hz := h _ kc ks a5 a6 (Fu.th (v := 0) hb hw21 hF) (by omega) (by omega)
  refine ls_move hS hi ⟨by omega, by omega⟩ fun Q1 hQ => ?_
  rw [us_X11_move]
  refine ⟨k1, rfl, hC, hT, s3 _, s3 _, σ, hX, hG, hI, iH, fun σ1 n9 z T1 cf => ?_⟩
  have re : RE σ σ1 := z.re (by decide) (fun r q => by first | exact absurd q id | (dsimp only at q; omega) | omega | (unfold tfA at q; omega) | (unfold tfL at q; omega) | (unfold fewA at q; omega) | (unfold surA at q; omega)) (fun r q => by first | exact absurd q id | (dsimp only at q; omega) | omega | (unfold tfA at q; omega) | (unfold tfL at q; omega) | (unfold fewA at q; omega) | (unfold surA at q; omega))
  obtain ⟨S1, eb⟩ := hS.fz9 z (by first | exact id | (intro q; omega) | (intro q; dsimp only at q; omega) | (intro q; unfold tfA at q; omega) | (intro q; unfold fewA at q; omega) | (intro q; unfold surA at q; omega))
  have k9 : kd σ1 61 = 13 := by rw [z.kd]; exact k61
  have I1 : MI σ1 := MI_RE re hI
  refine hQ _ _ S1 eb fun _ Q2 hQ2 => ?_
  have n2 := (cFew_m cf).1
  rw [us_X12_move]
  refine ⟨k9, rfl, I1, s3 _, s3 _, fun c => ?_, fun c n8 A a B d hm => ⟨fun c2 => ?_, fun c2 => ?_⟩⟩
  · rw [if_neg (fun q => c q.2)] at hQ2
    exact hQ2 _ (h _ kc ks a5 a6 (Fu.th (v := 0) hb (fun r q => hw21 r (by rw [← z.kd]; exact q)) (fu_few hF hb hw21 z T1)) (by omega) (by omega))
  · have e := few_is (cFew.th (cFew.re re cf)) hm
    rw [if_neg (fun q => c2 (by rw [e.1]; exact q.1))] at hQ2
    exact hQ2 _ (h _ kc ks a5 a6 (fu_moves hF hb hw21 z T1 hm.1 rfl) (by omega) (by omega))
  · have e := few_is (cFew.th (cFew.re re cf)) hm
    rw [e.1] at c2
    have g := hQ2 _ (h _ kc ks a5 a6 (fu_moves hF hb hw21 z T1 hm.1 rfl) (by omega) (by omega))
    rw [if_pos ⟨c2, c⟩] at g
    have e1 := e.2.1 (by omega)
    have q : (aI σ b (i + 1)) = 0 ∨ ((aI σ b (i + 1)) = 1 ∧ n9 = 2) := by omega
    rcases q with q | ⟨q, q2⟩
    · rw [q, ← e1.1, ← e1.2] at g
      rw [if_pos q, if_pos q]
      exact g
    · have e2 := e.2.2 q2
      rw [q, ← e2.1, ← e2.2] at g
      have q0 : ¬ (aI σ b (i + 1)) = 0 := by omega
      rw [if_neg q0, if_neg q0]
      exact g


set_option maxRecDepth 20000 in
theorem lc_done {Q : Option AV → Hp → Prop} {σ : Hp} {b n i : Int} {kc ks : Nat} {a5 a6 : Option AV} (hF : Fu b n σ) (hw : Wf σ) (hb : b < 0) (hi : 0 ≤ i ∧ i + 7 ≤ n ∧ n ≤ 3584) (hk : kc + 3 ≤ 601024 ∧ ks + 314 ≤ 7293034) (h : NX Q b n i kc ks) : GoF M_L_law Q 1075 [some (vr b), some (vr 1), some (vr 61), some (vr 120), some (vi i), a5, a6] [] σ (kc, ks) := by
  obtain ⟨⟨hC, hnw, hX, hL, hG, hA, hK, hR, hH, hT, hLT, hTX, hLD⟩, ⟨iM, iB, iF, iU, iC, iW, iA, iH, iG, iN, iS, iT⟩, hS⟩ := id hF
  have hI := iM.1
  have s3 := hS.2.2
  have k1 : kd σ 1 = 12 := by simp only [hC.eqs]
  have k61 : kd σ 61 = 13 := hI.lay.1
  have hw21 : ∀ r, kd σ r = 21 → r < 0 := fun r q => hw.s21 r (Or.inr q)
  have nb : 0 ≤ fI σ 1210 1 ∧ fI σ 1210 1 ≤ 999999 := by
    rw [hnw]
    exact hI.now_s
  have hz := h _ kc ks a5 a6 (Fu.th (v := 0) hb hw21 hF) (by omega) (by omega)
  refine ls_done hS hi ⟨by omega, by omega⟩ fun Q1 hQ => ?_
  rw [us_X11_done]
  refine ⟨k1, rfl, hC, hT, σ, hX, hG, hI, iH, fun σ1 n9 z T1 cf => ?_⟩
  have n2 := (cFew_m cf).1
  have zd : Fz (602 :: fewF) fewA noR σ (cDn σ1 n9.toNat) := (z.up (by decide) (fun r q => q) (fun r q => q)).tr ((Fz_cDn σ1 n9.toNat).up (by decide) (fun r q => absurd q id) (fun r q => q))
  have re : RE σ (cDn σ1 n9.toNat) := zd.re (by decide) (fun r q => by first | exact absurd q id | (dsimp only at q; omega) | omega | (unfold tfA at q; omega) | (unfold tfL at q; omega) | (unfold fewA at q; omega) | (unfold surA at q; omega)) (fun r q => by first | exact absurd q id | (dsimp only at q; omega) | omega | (unfold tfA at q; omega) | (unfold tfL at q; omega) | (unfold fewA at q; omega) | (unfold surA at q; omega))
  obtain ⟨S1, eb⟩ := hS.fz9 zd (by first | exact id | (intro q; omega) | (intro q; dsimp only at q; omega) | (intro q; unfold tfA at q; omega) | (intro q; unfold fewA at q; omega) | (intro q; unfold surA at q; omega))
  have k9 : kd (cDn σ1 n9.toNat) 61 = 13 := by rw [zd.kd]; exact k61
  have I1 : MI (cDn σ1 n9.toNat) := MI_RE re hI
  have rc : fI (cDn σ1 n9.toNat) 1335 61 = fI σ 1335 61 := (re.2 1335 (by omega) (by omega)).1
  have rh : fI (cDn σ1 n9.toNat) 1332 61 = fI σ 1332 61 := (re.2 1332 (by omega) (by omega)).1
  have ra : aI (cDn σ1 n9.toNat) 89 = aI σ 89 := (re.1 89 (by omega) (by omega)).2.2.1
  refine hQ _ _ S1 eb fun _ Q2 hQ2 => ?_
  rw [us_X12_done]
  refine ⟨k9, rfl, I1, fun n8 A a B d hm => ?_⟩
  have e := few_is (cFew.th (cFew.re re cf)) hm
  obtain ⟨hmr, hmm⟩ := hm
  rw [e.1] at hmm ⊢
  have md1 : n9 = 1 ∨ n9 = 2 → ((0 ≤ A ∧ A < fI σ 1335 61) ∧ 0 ≤ aI σ 89 A ∧ 0 ≤ a ∧ a < fI σ 1332 61) := fun hn => by
    rw [← rc, ← rh, ← ra]
    rcases hmm with ⟨q, -⟩ | ⟨-, ⟨q, w, -⟩ | ⟨-, ⟨q, w, -⟩ | ⟨q, -⟩⟩⟩
    · omega
    · exact ⟨w.1, w.2.1.2, w.2.2.1⟩
    · exact ⟨⟨w.1.1, Int.lt_trans w.1.2.1 w.1.2.2⟩, w.2.1.2, w.2.2.1⟩
    · omega
  have md2 : n9 = 2 → (((0 ≤ B ∧ B < fI σ 1335 61) ∧ 0 ≤ aI σ 89 B ∧ 0 ≤ d ∧ d < fI σ 1332 61) ∧ ¬ B = A) := fun hn => by
    rw [← rc, ← rh, ← ra]
    rcases hmm with ⟨q, -⟩ | ⟨-, ⟨q, -⟩ | ⟨-, ⟨q, w, -⟩ | ⟨q, -⟩⟩⟩
    · omega
    · omega
    · have w1 := w.1
      exact ⟨⟨⟨Int.le_of_lt (Int.lt_of_le_of_lt w1.1 w1.2.1), w1.2.2⟩, w.2.2.2.2.1.2, w.2.2.2.2.2.1⟩, by omega⟩
    · omega
  refine ⟨fun c => ?_, fun c => ?_, fun c => ?_⟩
  · have q : n9.toNat = 0 := by omega
    have g := fu_moves hF hb hw21 z T1 hmr rfl
    rw [q]
    show Q2 (some (vi n9)) (mv (pI σ1 1300 61 0) A a B d)
    exact hQ2 _ (h _ kc ks a5 a6 g (by omega) (by omega))
  · have q : n9.toNat = 1 := by omega
    have e1 := e.2.1 (by omega)
    have g := fu_done1 hF hb hw21 z T1 hmr (md1 (Or.inl c))
    have ed : cDn σ1 n9.toNat = pI σ1 602 (lat σ1 18 A) a := by
      rw [q, e1.1, e1.2]
      rfl
    rw [ed]
    exact hQ2 _ (h _ kc ks a5 a6 g (by omega) (by omega))
  · have q : n9.toNat = 2 := by omega
    have e1 := e.2.1 (by omega)
    have e2 := e.2.2 c
    have g := fu_done2 hF hb hw21 z T1 hmr (md1 (Or.inr c)) (md2 c).1 (md2 c).2
    have ed : cDn σ1 n9.toNat = pI (pI σ1 602 (lat σ1 18 A) a) 602 (lat σ1 18 B) d := by
      rw [q, e1.1, e1.2, e2.1, e2.2]
      rfl
    rw [ed]
    exact hQ2 _ (h _ kc ks a5 a6 g (by omega) (by omega))

