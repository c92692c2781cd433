/-! all that holds between two steps holds behind a step: done -/

/-- an engine at home is put into another house, on both sides -/
theorem BG_stay {σ τ : Hp} {c u : Int} (g : BG σ τ) (hc : 0 ≤ c ∧ c < fI τ 1335 61) (ha : 0 ≤ aI τ 89 c) (hu : 0 ≤ u ∧ u ≤ 11) : BG (pI σ 602 (lat σ 18 c) u) (qI τ 89 c u) := by
  obtain ⟨h1, h2, h3, h4, h5, h6, h7, h8⟩ := g
  have z : Fz [602] noR noR σ (pI σ 602 (lat σ 18 c) u) := Fz_pI (fs := [602]) _ _ _ (by decide)
  have el := z.elt (by decide)
  have fo : ∀ f k, ¬ f = 602 → fI (pI σ 602 (lat σ 18 c) u) f k = fI σ f k := fun f k hf => by rw [fI_pI, if_neg (fun q => hf q.1)]
  have at_ : ∀ q, aI (qI τ 89 c u) 89 q = if q = c then u else aI τ 89 q := fun q => by
    rw [aI_qI]
    simp only [true_and]
  have ao : ∀ r, ¬ r = 89 → aI (qI τ 89 c u) r = aI τ r := fun r hr => by
    funext j
    rw [aI_qI, if_neg (fun q => hr q.1)]
  refine ⟨h1.fz z (by decide) (by decide) (by decide), by rw [fo _ _ (by decide)]; exact h2, fun q q1 q2 => ?_, fun q r q1 q2 q3 => by rw [el]; exact h4 q r q1 q2 q3, by rw [fo _ _ (by decide)]; exact h5, fun w => h6 w, by rw [fo _ _ (by decide)]; exact h7, by rw [fo _ _ (by decide)]; exact h8⟩
  have g := h3 q q1 q2
  rw [el]
  have es : fI (pI σ 602 (lat σ 18 c) u) 602 (lat σ 18 q) = if q = c then u else fI σ 602 ((lat σ 18 q)) := by
    rw [fI_pI]
    by_cases e : q = c
    · rw [if_pos e, if_pos ⟨rfl, by rw [e]⟩]
    · rw [if_neg e, if_neg]
      rintro ⟨-, w⟩
      rcases Int.lt_or_gt_of_ne e with k | k
      · exact h4 q c q1 k hc.2 w
      · exact h4 c q hc.1 k q2 w.symm
  unfold CoE at g ⊢
  rw [fo _ _ (by decide), fo _ _ (by decide), fo _ _ (by decide), fo _ _ (by decide), es, at_, ao _ (by decide), ao _ (by decide), ao _ (by decide)]
  obtain ⟨k1, k2, k3, k4, k5, k6⟩ := g
  by_cases e : q = c
  · subst e
    rw [if_pos rfl, if_pos rfl]
    exact ⟨k1, k2, k3, fun w => by omega, fun _ => ⟨(k5 ha).1, rfl⟩, hu⟩
  · rw [if_neg e, if_neg e]
    exact ⟨k1, k2, k3, k4, k5, k6⟩
theorem fu_stay {b n : Int} {σ : Hp} {x u : Int} (hF : Fu b n σ) (hb : b < 0) (hw : ∀ r, kd σ r = 21 → r < 0) (c : (0 ≤ x ∧ x < fI σ 1335 61) ∧ 0 ≤ aI σ 89 x ∧ 0 ≤ u ∧ u < fI σ 1332 61) : Fu b n (qI (pI σ 602 (lat σ 18 x) u) 89 x u) := by
  obtain ⟨⟨hC, hnw, hX, hL, hG, hA, hK, hR, hH, hT, hLT, hTX, hLD⟩, ⟨iM, iB, iF, iU, iC, iW, iA, iH, iG, iN, iS, iT⟩, hS⟩ := hF
  have z : Fz [602] noR noR σ (pI σ 602 (lat σ 18 x) u) := Fz_pI (fs := [602]) _ _ _ (by decide)
  have re : RE σ (pI σ 602 (lat σ 18 x) u) := z.re (by decide) (fun r q => by first | exact absurd q id | (dsimp only at q; omega) | omega | (unfold tfA at q; omega) | (unfold tfL at q; omega)) (fun r q => by first | exact absurd q id | (dsimp only at q; omega) | omega | (unfold tfA at q; omega) | (unfold tfL at q; omega))
  have hhs := iM.1.houses_s
  have gG := BG_stay (u := u) (hG.re re) (by rw [(re.2 1335 (by omega) (by omega)).1]; exact c.1) (by rw [(re.1 89 (by omega) (by omega)).2.2.1]; exact c.2.1) (by omega)
  obtain ⟨σ1, e1⟩ : ∃ ρ9 : Hp, ρ9 = pI σ 602 (lat σ 18 x) u := ⟨_, rfl⟩
  rw [← e1] at z re ⊢
  have C1 : CLay σ1 := hC.fz z (by decide)
  have n1 : fI σ1 1210 1 = fI σ1 1301 61 := by
    rw [z.fI (f := 1210) (by decide), hnw]
    exact (re.2 1301 (by omega) (by omega)).1.symm
  have iM1 : MI σ1 := MI_RE re iM.1
  obtain ⟨τ, e2⟩ : ∃ ρ9 : Hp, ρ9 = qI σ1 89 x u := ⟨_, rfl⟩
  rw [← e2]
  have gG : BG σ1 τ := by
    rw [e2, e1]
    exact gG
  have at_ : ∀ q, aI τ 89 q = if q = x then u else aI σ1 89 q := fun q => by
    rw [e2, aI_qI]
    simp only [true_and]

  have rf : Rf [] [89] σ1 τ := by
    rw [e2]
    exact (Rf.rf [] [89] σ1).q (by decide)
  have ce : CE σ1 τ := by
    rw [e2]
    exact CE_qI σ1 _ _ (by decide)
  have mi : MI τ := by
    rw [e2]
    exact MI_isAt_q iM1 (by have := iM.1.houses_s; omega)
  have S1 : Scp σ1 b n := by
    unfold Scp at *
    rw [z.kd, z.ln, z.aI (r := b) (by first | exact id | omega | (intro q; dsimp only at q; omega) | (unfold tfA; omega))]
    exact hS
  have r_now : fI σ1 1210 1 = fI τ 1301 61 := n1.trans (rf.1 1301 (by omega) (by omega) (by decide)).symm
  have r_BX : BX σ1 τ := ((hX.re re).fz z (by decide) (by decide) (by decide) (by decide)).rf rf (by decide) (by decide)
  have r_LR : ∀ l, 0 ≤ l → l < 4 → LR l σ1 τ := fun l a b => ((((hL l a b).re re).fz hC ⟨a, b⟩ z (by decide) (by decide) (by decide) (by decide) (by decide) (fun r h1 h2 => by first | exact id | omega | (intro q; dsimp only at q; omega) | (unfold tfA; omega))).rf rf (by decide))
  have r_BG : BG σ1 τ := gG
  have r_AL : AL σ1 τ := ((hA.re re).fz z (by decide) (by decide) (by decide) (by decide) (by decide) (fun r q => by first | exact absurd q id | (dsimp only at q; omega) | omega | (unfold tfA at q; omega) | (unfold tfL at q; omega))).rf rf (by decide) (by decide)
  have r_DKR : DKR σ1 τ := ((hK.re re).fz z (by decide) (fun r q => by first | exact absurd q id | (dsimp only at q; omega) | omega | (unfold tfA at q; omega) | (unfold tfL at q; omega))).rf rf (by decide) (by decide)
  have r_RDR : RDR σ1 τ := ((hR.re re).fz z (by decide) (by first | exact id | omega | (intro q; dsimp only at q; omega) | (unfold tfA; omega) | (unfold tfL; omega))).rf rf (by decide) (by decide)
  have r_held : fI σ1 901 24 = fI τ 1343 61 ∧ aI σ1 25 = aI τ 92 := ⟨by rw [z.fI (f := 901) (by decide), hH.1]; exact ((rf.1 1343 (by omega) (by omega) (by decide)).trans (re.2 1343 (by omega) (by omega)).1).symm, by rw [z.aI (r := 25) (by first | exact id | omega | (intro q; dsimp only at q; omega) | (unfold tfA; omega) | (unfold tfL; omega)), hH.2]; exact ((rf.2 92 (by omega) (by omega) (by decide)).trans (re.1 92 (by omega) (by omega)).2.2.1).symm⟩
  have r_TG : TGr σ1 := hT.fz z (by first | exact id | omega | (intro q; dsimp only at q; omega) | (unfold tfA; omega) | (unfold tfL; omega)) (by first | exact id | omega | (intro q; dsimp only at q; omega) | (unfold tfA; omega) | (unfold tfL; omega))
  have r_LTT : LTT σ1 := (hLT.fz z (by decide) (by first | exact id | omega | (intro q; dsimp only at q; omega) | (unfold tfA; omega) | (unfold tfL; omega))).1
  have r_TXT : TXT σ1 := hTX.fz z (by decide) (fun r q e => by have q2 := hw r e; first | exact absurd q id | (dsimp only at q; omega) | omega | (unfold tfA at q; omega))
  have r_LD : LD σ1 := hLD.fz z (by decide)
  have i_MT : MT τ := (iM.re re).rf rf mi (by decide) (by decide)
  have i_RB : RB τ := (iB.re re).rf rf (by decide) (by decide)
  have i_kF : kFirst τ := (iF.re re).rf rf (by decide)
  have i_upL : upL τ := (iU.re re).rf rf (by decide)
  have i_mC : mCards τ := (iC.re re).rf rf (by decide) (by decide)
  have i_WI : WI τ := (iW.re re).rf rf (by decide) (by decide)
  have i_AB : AB τ := (iA.re re).rf rf (by decide) (by decide)
  have i_HI : HIs τ := by
    have h0 := iH.re re
    intro q q1 q2
    rw [rf.1 1335 (by omega) (by omega) (by decide)] at q2
    obtain ⟨k1, k2⟩ := h0 q q1 q2
    rw [rf.1 1332 (by omega) (by omega) (by decide), rf.2 88 (by omega) (by omega) (by decide), at_]
    refine ⟨?_, k2⟩
    by_cases e : q = x
    · rw [if_pos e, (re.2 1332 (by omega) (by omega)).1]
      exact c.2.2.2
    · rw [if_neg e]
      exact k1
  have i_WG : WG τ := (iG.re re).rf rf (by decide) (by decide)
  have i_InN : InN τ := (iN.re re).rf rf (by decide) (by decide)
  have i_InS : InS2 τ := by
    obtain ⟨s1, s2, s3⟩ := iS.re re
    have e1x := rf.1 1335 (by omega) (by omega) (by decide)
    have e2x := rf.1 1371 (by omega) (by omega) (by decide)
    have t1 := rf.2 90 (by omega) (by omega) (by decide)
    have t2 := rf.2 115 (by omega) (by omega) (by decide)
    have t3 := rf.2 116 (by omega) (by omega) (by decide)
    have t4 := rf.2 112 (by omega) (by omega) (by decide)
    have sg : ∀ q, aI τ 89 q < 0 ↔ aI σ1 89 q < 0 := fun q => by
      rw [at_]
      by_cases e : q = x
      · rw [if_pos e, e, (re.1 89 (by omega) (by omega)).2.2.1]
        omega
      · rw [if_neg e]
    unfold InS2
    rw [e1x, e2x, t1, t2, t3, t4]
    refine ⟨fun q q1 q2 q3 => s1 q q1 q2 ((sg q).mp q3), fun a i q1 q2 => ?_, fun a q1 q2 => ?_⟩
    · obtain ⟨k1, k2⟩ := s2 a i q1 q2
      refine ⟨k1, fun q3 => ?_⟩
      obtain ⟨k3, k4⟩ := k2 q3
      exact ⟨(sg _).mpr k3, k4⟩
    · have k := s3 a q1 q2
      have em : mTo τ a = mTo σ1 a := by
        unfold mTo
        rw [t1, e1x]
        exact hwM_cg (fun j _ => by rw [sg]) _
      rw [em]
      exact k
  have i_lT : lT τ := (iT.re re).rf rf (by decide) (by decide)
  have rel : Rel σ1 τ := ⟨C1, r_now, r_BX, r_LR, r_BG, r_AL, r_DKR, r_RDR, r_held, r_TG, r_LTT, r_TXT, r_LD⟩
  exact ⟨rel.ce (fun r q => hw r (by rw [← z.kd]; exact q)) ce, ⟨i_MT, i_RB, i_kF, i_upL, i_mC, i_WI, i_AB, i_HI, i_WG, i_InN, i_InS, i_lT⟩, S1.ce hb ce⟩
theorem fu_few0 {b n : Int} {σ σ1 τ : Hp}  (hF : Fu b n σ) (hb : b < 0) (hw : ∀ r, kd σ r = 21 → r < 0) (z : Fz fewF fewA noR σ σ1) (hT1 : TGr σ1) (e2 : τ = σ1) : Fu b n τ := by
  obtain ⟨⟨hC, hnw, hX, hL, hG, hA, hK, hR, hH, hT, hLT, hTX, hLD⟩, ⟨iM, iB, iF, iU, iC, iW, iA, iH, iG, iN, iS, iT⟩, hS⟩ := hF
  have re : RE σ σ1 := z.re (by decide) (fun r q => by first | exact absurd q id | (dsimp only at q; omega) | omega | (unfold tfA at q; omega) | (unfold tfL at q; omega) | (unfold fewA at q; omega)) (fun r q => by first | exact absurd q id | (dsimp only at q; omega) | omega | (unfold tfA at q; omega) | (unfold tfL at q; omega) | (unfold fewA at q; omega))
  have C1 : CLay σ1 := hC.fz z (by decide)
  have n1 : fI σ1 1210 1 = fI σ1 1301 61 := by
    rw [z.fI (f := 1210) (by decide), hnw]
    exact (re.2 1301 (by omega) (by omega)).1.symm
  have iM1 : MI σ1 := MI_RE re iM.1
  have mi : MI τ := by
    rw [e2]
    exact iM1
  have rf : Rf [] [] σ1 τ := by rw [e2]; exact Rf.rf _ _ _
  have ce : CE σ1 τ := by rw [e2]; exact CE.rf _
  have S1 : Scp σ1 b n := by
    unfold Scp at *
    rw [z.kd, z.ln, z.aI (r := b) (by first | exact id | omega | (intro q; dsimp only at q; omega) | (unfold tfA; omega) | (unfold tfL; omega) | (unfold fewA; omega))]
    exact hS
  have r_now : fI σ1 1210 1 = fI τ 1301 61 := n1.trans (rf.1 1301 (by omega) (by omega) (by decide)).symm
  have r_BX : BX σ1 τ := ((hX.re re).fz z (by decide) (by decide) (by decide) (by decide)).rf rf (by decide) (by decide)
  have r_LR : ∀ l, 0 ≤ l → l < 4 → LR l σ1 τ := fun l a b => ((((hL l a b).re re).fz hC ⟨a, b⟩ z (by decide) (by decide) (by decide) (by decide) (by decide) (fun r h1 h2 => by first | exact id | omega | (intro q; dsimp only at q; omega) | (unfold tfA; omega) | (unfold fewA; omega))).rf rf (by decide))
  have r_BG : BG σ1 τ := ((hG.re re).fz z (by decide) (by first | exact id | omega | (intro q; dsimp only at q; omega) | (unfold tfA; omega) | (unfold tfL; omega) | (unfold fewA; omega)) (by first | exact id | omega | (intro q; dsimp only at q; omega) | (unfold tfA; omega) | (unfold tfL; omega) | (unfold fewA; omega))).rf rf (by decide) (by decide)
  have r_AL : AL σ1 τ := ((hA.re re).fz z (by decide) (by decide) (by decide) (by decide) (by decide) (fun r q => by first | exact absurd q id | (dsimp only at q; omega) | omega | (unfold tfA at q; omega) | (unfold tfL at q; omega) | (unfold fewA at q; omega))).rf rf (by decide) (by decide)
  have r_DKR : DKR σ1 τ := ((hK.re re).fz z (by decide) (fun r q => by first | exact absurd q id | (dsimp only at q; omega) | omega | (unfold tfA at q; omega) | (unfold tfL at q; omega) | (unfold fewA at q; omega))).rf rf (by decide) (by decide)
  have r_RDR : RDR σ1 τ := ((hR.re re).fz z (by decide) (by first | exact id | omega | (intro q; dsimp only at q; omega) | (unfold tfA; omega) | (unfold tfL; omega) | (unfold fewA; omega))).rf rf (by decide) (by decide)
  have r_held : fI σ1 901 24 = fI τ 1343 61 ∧ aI σ1 25 = aI τ 92 := ⟨by rw [z.fI (f := 901) (by decide), hH.1]; exact ((rf.1 1343 (by omega) (by omega) (by decide)).trans (re.2 1343 (by omega) (by omega)).1).symm, by rw [z.aI (r := 25) (by first | exact id | omega | (intro q; dsimp only at q; omega) | (unfold tfA; omega) | (unfold tfL; omega) | (unfold fewA; omega)), hH.2]; exact ((rf.2 92 (by omega) (by omega) (by decide)).trans (re.1 92 (by omega) (by omega)).2.2.1).symm⟩
  have r_TG : TGr σ1 := hT1
  have r_LTT : LTT σ1 := (hLT.fz z (by decide) (by first | exact id | omega | (intro q; dsimp only at q; omega) | (unfold tfA; omega) | (unfold tfL; omega) | (unfold fewA; omega))).1
  have r_TXT : TXT σ1 := hTX.fz z (by decide) (fun r q e => by have q2 := hw r e; first | exact absurd q id | (dsimp only at q; omega) | omega | (unfold tfA at q; omega) | (unfold fewA at q; omega))
  have r_LD : LD σ1 := hLD.fz z (by decide)
  have i_MT : MT τ := (iM.re re).rf rf mi (by decide) (by decide)
  have i_RB : RB τ := (iB.re re).rf rf (by decide) (by decide)
  have i_kF : kFirst τ := (iF.re re).rf rf (by decide)
  have i_upL : upL τ := (iU.re re).rf rf (by decide)
  have i_mC : mCards τ := (iC.re re).rf rf (by decide) (by decide)
  have i_WI : WI τ := (iW.re re).rf rf (by decide) (by decide)
  have i_AB : AB τ := (iA.re re).rf rf (by decide) (by decide)
  have i_HI : HIs τ := (iH.re re).rf rf (by decide) (by decide)
  have i_WG : WG τ := (iG.re re).rf rf (by decide) (by decide)
  have i_InN : InN τ := (iN.re re).rf rf (by decide) (by decide)
  have i_InS : InS2 τ := (iS.re re).rf rf (by decide) (by decide)
  have i_lT : lT τ := (iT.re re).rf rf (by decide) (by decide)
  have rel : Rel σ1 τ := ⟨C1, r_now, r_BX, r_LR, r_BG, r_AL, r_DKR, r_RDR, r_held, r_TG, r_LTT, r_TXT, r_LD⟩
  exact ⟨rel.ce (fun r q => hw r (by rw [← z.kd]; exact q)) ce, ⟨i_MT, i_RB, i_kF, i_upL, i_mC, i_WI, i_AB, i_HI, i_WG, i_InN, i_InS, i_lT⟩, S1.ce hb ce⟩
theorem fu_few {b n : Int} {σ σ1 : Hp} (hF : Fu b n σ) (hb : b < 0) (hw : ∀ r, kd σ r = 21 → r < 0) (z : Fz fewF fewA noR σ σ1) (hT1 : TGr σ1) : Fu b n σ1 := fu_few0 hF hb hw z hT1 rfl
theorem mv_stay (σ : Hp) (A a B b p u : Int) : mv (pI (pI σ 602 p u) 1300 61 0) A a B b = pI (mv (pI σ 1300 61 0) A a B b) 602 p u := by
  unfold mv
  rw [pI_cm _ (show (602 : Nat) ≠ 1300 by decide), pI_cm _ (show (602 : Nat) ≠ 1384 by decide), pI_cm _ (show (602 : Nat) ≠ 1385 by decide), pI_cm _ (show (602 : Nat) ≠ 1386 by decide), pI_cm _ (show (602 : Nat) ≠ 1387 by decide)]
theorem pq_cm (X : Hp) (r j v : Int) (f : Nat) (k u : Int) : pI (qI X r j v) f k u = qI (pI X f k u) r j v := rfl
theorem lat_mv (σ : Hp) (f : Nat) (k v A a B b p i : Int) : lat (mv (pI σ f k v) A a B b) p i = lat σ p i := by
  unfold lat mv
  simp only [fR_pI, aR_pI]
theorem lat_q (σ : Hp) (r j v p i : Int) : lat (qI σ r j v) p i = lat σ p i := by
  unfold lat
  simp only [fR_qI, aR_qI]
theorem lat_p (σ : Hp) (f : Nat) (k v p i : Int) : lat (pI σ f k v) p i = lat σ p i := by
  unfold lat
  simp only [fR_pI, aR_pI]
theorem co_mvp (σ : Hp) (k v A a B b : Int) {g : Nat} (h : g = 1335 ∨ g = 1332) : fI (mv (pI σ 1300 k v) A a B b) g 61 = fI σ g 61 := by
  unfold mv
  rcases h with rfl | rfl <;> simp only [fI_pI, Nat.reduceEqDiff, false_and, if_false]
theorem at_mvp (σ : Hp) (f : Nat) (k v A a B b : Int) : aI (mv (pI σ f k v) A a B b) = aI σ := by
  unfold mv
  simp only [aI_pI]
theorem fu_done1 {b n : Int} {σ σ1 : Hp} {A a B c : Int} (hF : Fu b n σ) (hb : b < 0) (hw : ∀ r, kd σ r = 21 → r < 0) (z : Fz fewF fewA noR σ σ1) (hT1 : TGr σ1) (hm : mR A a B c) (h1 : (0 ≤ A ∧ A < fI σ 1335 61) ∧ 0 ≤ aI σ 89 A ∧ 0 ≤ a ∧ a < fI σ 1332 61) : Fu b n (qI (mv (pI (pI σ1 602 (lat σ1 18 A) a) 1300 61 0) A a B c) 89 A a) := by
  have re : RE σ σ1 := z.re (by decide) (fun r q => by unfold fewA at q; omega) (fun r q => absurd q id)
  have F0 := fu_moves hF hb hw z hT1 hm rfl
  have F1 := fu_stay (x := A) (u := a) F0 hb (fun r q => hw r (by rw [← z.kd]; exact q)) (by
    rw [co_mvp _ _ _ _ _ _ _ (Or.inl rfl), co_mvp _ _ _ _ _ _ _ (Or.inr rfl), at_mvp, (re.2 1335 (by omega) (by omega)).1, (re.2 1332 (by omega) (by omega)).1, (re.1 89 (by omega) (by omega)).2.2.1]
    exact h1)
  rw [lat_mv] at F1
  rw [mv_stay]
  exact F1
theorem fu_done2 {b n : Int} {σ σ1 : Hp} {A a B c : Int} (hF : Fu b n σ) (hb : b < 0) (hw : ∀ r, kd σ r = 21 → r < 0) (z : Fz fewF fewA noR σ σ1) (hT1 : TGr σ1) (hm : mR A a B c) (h1 : (0 ≤ A ∧ A < fI σ 1335 61) ∧ 0 ≤ aI σ 89 A ∧ 0 ≤ a ∧ a < fI σ 1332 61) (h2 : (0 ≤ B ∧ B < fI σ 1335 61) ∧ 0 ≤ aI σ 89 B ∧ 0 ≤ c ∧ c < fI σ 1332 61) (hne : ¬ B = A) : Fu b n (qI (qI (mv (pI (pI (pI σ1 602 (lat σ1 18 A) a) 602 (lat σ1 18 B) c) 1300 61 0) A a B c) 89 A a) 89 B c) := by
  have re : RE σ σ1 := z.re (by decide) (fun r q => by unfold fewA at q; omega) (fun r q => absurd q id)
  have F1 := fu_done1 hF hb hw z hT1 hm h1
  have F2 := fu_stay (x := B) (u := c) F1 hb (fun r q => hw r (by rw [← z.kd]; exact q)) (by
    rw [aI_qI, if_neg (fun q => hne q.2), at_mvp, aI_pI, fI_qI, co_mvp _ _ _ _ _ _ _ (Or.inl rfl), co_mvp _ _ _ _ _ _ _ (Or.inr rfl), fI_pI, if_neg (fun q => absurd q.1 (by decide)), fI_pI, if_neg (fun q => absurd q.1 (by decide)), (re.2 1335 (by omega) (by omega)).1, (re.2 1332 (by omega) (by omega)).1, (re.1 89 (by omega) (by omega)).2.2.1]
    exact h2)
  rw [lat_q, lat_mv, lat_p, pq_cm] at F2
  rw [mv_stay]
  exact F2
