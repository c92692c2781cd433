/-! all that holds between two steps holds behind a step: house, pace, pull, cut, word -/

theorem BG_pace {σ τ : Hp} {x y : Int} (g : BG σ τ) : BG (pI (pI σ 404 15 x) 405 15 y) (pI (pI (pI τ 1300 61 0) 1341 61 x) 1342 61 y) := by
  unfold BG CoE LOk lat at *
  simp only [nx_pI, kd_pI, ln_pI, fI_pI, fL_pI, fR_pI, aI_pI, aL_pI, aR_pI, nx_qI, kd_qI, ln_qI, fI_qI, fL_qI, fR_qI, aI_qI, aL_qI, aR_qI, Nat.reduceEqDiff, false_and, if_false, true_and, Int.reduceEq]
  obtain ⟨g1, g2, g3, g4, g5, g6, g7, g8⟩ := g
  exact ⟨g1, g2, g3, g4, g5, g6, by simp, by simp⟩
theorem fu_pace {b n : Int} {σ : Hp} {x y : Int} (hF : Fu b n σ) (hb : b < 0) (hw : ∀ r, kd σ r = 21 → r < 0) (c : (1 ≤ x ∧ x ≤ 9) ∧ 0 ≤ y ∧ y ≤ 198) : Fu b n (pI (pI (pI (pI (pI σ 404 15 x) 405 15 y) 1300 61 0) 1341 61 x) 1342 61 y) := by
  obtain ⟨⟨hC, hnw, hX, hL, hG, hA, hK, hR, hH, hT, hLT, hTX, hLD⟩, ⟨iM, iB, iF, iU, iC, iW, iA, iH, iG, iN, iS, iT⟩, hS⟩ := hF
  have z : Fz [404, 405] noR noR σ (pI (pI σ 404 15 x) 405 15 y) := (Fz_pI (fs := [404, 405]) _ _ _ (by decide)).tr (Fz_pI (fs := [404, 405]) _ _ _ (by decide))
  have re : RE σ (pI (pI σ 404 15 x) 405 15 y) := z.re (by decide) (fun r q => by first | exact absurd q id | (dsimp only at q; omega) | omega | (unfold tfA at q; omega) | (unfold tfL at q; omega)) (fun r q => by first | exact absurd q id | (dsimp only at q; omega) | omega | (unfold tfA at q; omega) | (unfold tfL at q; omega))
  have gG := BG_pace (x := x) (y := y) (hG.re re)
  obtain ⟨σ1, e1⟩ : ∃ ρ9 : Hp, ρ9 = pI (pI σ 404 15 x) 405 15 y := ⟨_, rfl⟩
  rw [← e1] at z re gG ⊢
  have C1 : CLay σ1 := hC.fz z (by decide)
  have n1 : fI σ1 1210 1 = fI σ1 1301 61 := by
    rw [z.fI (f := 1210) (by decide), hnw]
    exact (re.2 1301 (by omega) (by omega)).1.symm
  have iM1 : MI σ1 := MI_RE re iM.1
  obtain ⟨τ, e2⟩ : ∃ ρ9 : Hp, ρ9 = pI (pI (pI σ1 1300 61 0) 1341 61 x) 1342 61 y := ⟨_, rfl⟩
  rw [← e2] at gG ⊢
  have rf : Rf [1300, 1341, 1342] [] σ1 τ := by
    rw [e2]
    exact ((Rf_thr _ _ σ1 0 (by decide)).p (by decide)).p (by decide)
  have ce : CE σ1 τ := by
    rw [e2]
    exact ((CE_pI σ1 61 0 (by decide)).tr (CE_pI _ 61 x (by decide))).tr (CE_pI _ 61 y (by decide))
  have mi : MI τ := by
    rw [e2]
    exact MI_reach_p (MI_pace_p (MI_fre iM1 (by decide)) c.1) c.2
  have S1 : Scp σ1 b n := by
    unfold Scp at *
    rw [z.kd, z.ln, z.aI (r := b) (by first | exact id | omega | (intro q; dsimp only at q; omega) | (unfold tfA; omega))]
    exact hS
  have r_now : fI σ1 1210 1 = fI τ 1301 61 := n1.trans (rf.1 1301 (by omega) (by omega) (by decide)).symm
  have r_BX : BX σ1 τ := ((hX.re re).fz z (by decide) (by decide) (by decide) (by decide)).rf rf (by decide) (by decide)
  have r_LR : ∀ l, 0 ≤ l → l < 4 → LR l σ1 τ := fun l a b => ((((hL l a b).re re).fz hC ⟨a, b⟩ z (by decide) (by decide) (by decide) (by decide) (by decide) (fun r h1 h2 => by first | exact id | omega | (intro q; dsimp only at q; omega) | (unfold tfA; omega))).rf rf (by decide))
  have r_BG : BG σ1 τ := gG
  have r_AL : AL σ1 τ := ((hA.re re).fz z (by decide) (by decide) (by decide) (by decide) (by decide) (fun r q => by first | exact absurd q id | (dsimp only at q; omega) | omega | (unfold tfA at q; omega) | (unfold tfL at q; omega))).rf rf (by decide) (by decide)
  have r_DKR : DKR σ1 τ := ((hK.re re).fz z (by decide) (fun r q => by first | exact absurd q id | (dsimp only at q; omega) | omega | (unfold tfA at q; omega) | (unfold tfL at q; omega))).rf rf (by decide) (by decide)
  have r_RDR : RDR σ1 τ := ((hR.re re).fz z (by decide) (by first | exact id | omega | (intro q; dsimp only at q; omega) | (unfold tfA; omega) | (unfold tfL; omega))).rf rf (by decide) (by decide)
  have r_held : fI σ1 901 24 = fI τ 1343 61 ∧ aI σ1 25 = aI τ 92 := ⟨by rw [z.fI (f := 901) (by decide), hH.1]; exact ((rf.1 1343 (by omega) (by omega) (by decide)).trans (re.2 1343 (by omega) (by omega)).1).symm, by rw [z.aI (r := 25) (by first | exact id | omega | (intro q; dsimp only at q; omega) | (unfold tfA; omega) | (unfold tfL; omega)), hH.2]; exact ((rf.2 92 (by omega) (by omega) (by decide)).trans (re.1 92 (by omega) (by omega)).2.2.1).symm⟩
  have r_TG : TGr σ1 := hT.fz z (by first | exact id | omega | (intro q; dsimp only at q; omega) | (unfold tfA; omega) | (unfold tfL; omega)) (by first | exact id | omega | (intro q; dsimp only at q; omega) | (unfold tfA; omega) | (unfold tfL; omega))
  have r_LTT : LTT σ1 := (hLT.fz z (by decide) (by first | exact id | omega | (intro q; dsimp only at q; omega) | (unfold tfA; omega) | (unfold tfL; omega))).1
  have r_TXT : TXT σ1 := hTX.fz z (by decide) (fun r q e => by have q2 := hw r e; first | exact absurd q id | (dsimp only at q; omega) | omega | (unfold tfA at q; omega))
  have r_LD : LD σ1 := hLD.fz z (by decide)
  have i_MT : MT τ := (iM.re re).rf rf mi (by decide) (by decide)
  have i_RB : RB τ := (iB.re re).rf rf (by decide) (by decide)
  have i_kF : kFirst τ := (iF.re re).rf rf (by decide)
  have i_upL : upL τ := (iU.re re).rf rf (by decide)
  have i_mC : mCards τ := (iC.re re).rf rf (by decide) (by decide)
  have i_WI : WI τ := (iW.re re).rf rf (by decide) (by decide)
  have i_AB : AB τ := (iA.re re).rf rf (by decide) (by decide)
  have i_HI : HIs τ := (iH.re re).rf rf (by decide) (by decide)
  have i_WG : WG τ := (iG.re re).rf rf (by decide) (by decide)
  have i_InN : InN τ := (iN.re re).rf rf (by decide) (by decide)
  have i_InS : InS2 τ := (iS.re re).rf rf (by decide) (by decide)
  have i_lT : lT τ := (iT.re re).rf rf (by decide) (by decide)
  have rel : Rel σ1 τ := ⟨C1, r_now, r_BX, r_LR, r_BG, r_AL, r_DKR, r_RDR, r_held, r_TG, r_LTT, r_TXT, r_LD⟩
  exact ⟨rel.ce (fun r q => hw r (by rw [← z.kd]; exact q)) ce, ⟨i_MT, i_RB, i_kF, i_upL, i_mC, i_WI, i_AB, i_HI, i_WG, i_InN, i_InS, i_lT⟩, S1.ce hb ce⟩
theorem BG_house {σ τ : Hp} {x y h : Int} (g : BG σ τ) (hh : h = fI τ 1332 61) : BG (pI (qI (qI σ 16 h x) 17 h y) 403 15 (h + 1)) (pI (qI (qI (pI τ 1300 61 0) 85 (fI τ 1332 61) x) 86 (fI τ 1332 61) y) 1332 61 (fI τ 1332 61 + 1)) := by
  rw [← hh]
  unfold BG CoE LOk lat at *
  simp only [nx_pI, kd_pI, ln_pI, fI_pI, fL_pI, fR_pI, aI_pI, aL_pI, aR_pI, nx_qI, kd_qI, ln_qI, fI_qI, fL_qI, fR_qI, aI_qI, aL_qI, aR_qI, Nat.reduceEqDiff, false_and, if_false, true_and, Int.reduceEq]
  obtain ⟨g1, g2, g3, g4, g5, g6, g7, g8⟩ := g
  refine ⟨g1, g2, g3, g4, by simp, fun u => ?_, g7, g8⟩
  rw [(g6 u).1, (g6 u).2]
  exact ⟨rfl, rfl⟩
theorem fu_house {b n : Int} {σ : Hp} {x y h : Int} (hF : Fu b n σ) (hb : b < 0) (hw : ∀ r, kd σ r = 21 → r < 0) (hh : h = fI σ 403 15) (c : (0 ≤ x ∧ x ≤ 99) ∧ 0 ≤ y ∧ y ≤ 99) (c2 : h < 12) : Fu b n (pI (qI (qI (pI (pI (qI (qI σ 16 h x) 17 h y) 403 15 (h + 1)) 1300 61 0) 85 (fI (pI (qI (qI σ 16 h x) 17 h y) 403 15 (h + 1)) 1332 61) x) 86 (fI (pI (qI (qI σ 16 h x) 17 h y) 403 15 (h + 1)) 1332 61) y) 1332 61 (fI (pI (qI (qI σ 16 h x) 17 h y) 403 15 (h + 1)) 1332 61 + 1)) := by
  obtain ⟨⟨hC, hnw, hX, hL, hG, hA, hK, hR, hH, hT, hLT, hTX, hLD⟩, ⟨iM, iB, iF, iU, iC, iW, iA, iH, iG, iN, iS, iT⟩, hS⟩ := hF
  have z : Fz [403] (fun r => r = 16 ∨ r = 17) noR σ (pI (qI (qI σ 16 h x) 17 h y) 403 15 (h + 1)) := ((Fz_qI _ _ _ (Or.inl rfl)).tr (Fz_qI _ _ _ (Or.inr rfl))).tr (Fz_pI (fs := [403]) _ _ _ (by decide))
  have re : RE σ (pI (qI (qI σ 16 h x) 17 h y) 403 15 (h + 1)) := z.re (by decide) (fun r q => by first | exact absurd q id | (dsimp only at q; omega) | omega | (unfold tfA at q; omega) | (unfold tfL at q; omega)) (fun r q => by first | exact absurd q id | (dsimp only at q; omega) | omega | (unfold tfA at q; omega) | (unfold tfL at q; omega))
  have hhs : h = fI σ 1332 61 := by rw [hh]; exact hG.2.2.2.2.1
  have e9 : fI (pI (qI (qI σ 16 h x) 17 h y) 403 15 (h + 1)) 1332 61 = h := (re.2 1332 (by omega) (by omega)).1.trans hhs.symm
  have gG := BG_house (x := x) (y := y) (hG.re re) e9.symm
  obtain ⟨σ1, e1⟩ : ∃ ρ9 : Hp, ρ9 = pI (qI (qI σ 16 h x) 17 h y) 403 15 (h + 1) := ⟨_, rfl⟩
  rw [← e1] at z re gG e9 ⊢
  have C1 : CLay σ1 := hC.fz z (by decide)
  have n1 : fI σ1 1210 1 = fI σ1 1301 61 := by
    rw [z.fI (f := 1210) (by decide), hnw]
    exact (re.2 1301 (by omega) (by omega)).1.symm
  have iM1 : MI σ1 := MI_RE re iM.1
  obtain ⟨τ, e2⟩ : ∃ ρ9 : Hp, ρ9 = pI (qI (qI (pI σ1 1300 61 0) 85 (fI σ1 1332 61) x) 86 (fI σ1 1332 61) y) 1332 61 (fI σ1 1332 61 + 1) := ⟨_, rfl⟩
  rw [← e2] at gG ⊢
  have rf : Rf [1300, 1332] [85, 86] σ1 τ := by
    rw [e2]
    exact (((Rf_thr _ _ σ1 0 (by decide)).q (by decide)).q (by decide)).p (by decide)
  have ce : CE σ1 τ := by
    rw [e2]
    exact (((CE_pI σ1 61 0 (by decide)).tr (CE_qI _ _ _ (by decide))).tr (CE_qI _ _ _ (by decide))).tr (CE_pI _ 61 _ (by decide))
  have mi : MI τ := by
    rw [e2]
    exact MI_houses_p (MI_houseY_q (MI_houseX_q (MI_fre iM1 (by decide)) c.1) c.2) (by have := iM1.houses_s; rw [e9]; omega)
  have S1 : Scp σ1 b n := by
    unfold Scp at *
    rw [z.kd, z.ln, z.aI (r := b) (by first | exact id | omega | (intro q; dsimp only at q; omega) | (unfold tfA; omega))]
    exact hS
  have r_now : fI σ1 1210 1 = fI τ 1301 61 := n1.trans (rf.1 1301 (by omega) (by omega) (by decide)).symm
  have r_BX : BX σ1 τ := ((hX.re re).fz z (by decide) (by decide) (by decide) (by decide)).rf rf (by decide) (by decide)
  have r_LR : ∀ l, 0 ≤ l → l < 4 → LR l σ1 τ := fun l a b => ((((hL l a b).re re).fz hC ⟨a, b⟩ z (by decide) (by decide) (by decide) (by decide) (by decide) (fun r h1 h2 => by first | exact id | omega | (intro q; dsimp only at q; omega) | (unfold tfA; omega))).rf rf (by decide))
  have r_BG : BG σ1 τ := gG
  have r_AL : AL σ1 τ := ((hA.re re).fz z (by decide) (by decide) (by decide) (by decide) (by decide) (fun r q => by first | exact absurd q id | (dsimp only at q; omega) | omega | (unfold tfA at q; omega) | (unfold tfL at q; omega))).rf rf (by decide) (by decide)
  have r_DKR : DKR σ1 τ := ((hK.re re).fz z (by decide) (fun r q => by first | exact absurd q id | (dsimp only at q; omega) | omega | (unfold tfA at q; omega) | (unfold tfL at q; omega))).rf rf (by decide) (by decide)
  have r_RDR : RDR σ1 τ := ((hR.re re).fz z (by decide) (by first | exact id | omega | (intro q; dsimp only at q; omega) | (unfold tfA; omega) | (unfold tfL; omega))).rf rf (by decide) (by decide)
  have r_held : fI σ1 901 24 = fI τ 1343 61 ∧ aI σ1 25 = aI τ 92 := ⟨by rw [z.fI (f := 901) (by decide), hH.1]; exact ((rf.1 1343 (by omega) (by omega) (by decide)).trans (re.2 1343 (by omega) (by omega)).1).symm, by rw [z.aI (r := 25) (by first | exact id | omega | (intro q; dsimp only at q; omega) | (unfold tfA; omega) | (unfold tfL; omega)), hH.2]; exact ((rf.2 92 (by omega) (by omega) (by decide)).trans (re.1 92 (by omega) (by omega)).2.2.1).symm⟩
  have r_TG : TGr σ1 := hT.fz z (by first | exact id | omega | (intro q; dsimp only at q; omega) | (unfold tfA; omega) | (unfold tfL; omega)) (by first | exact id | omega | (intro q; dsimp only at q; omega) | (unfold tfA; omega) | (unfold tfL; omega))
  have r_LTT : LTT σ1 := (hLT.fz z (by decide) (by first | exact id | omega | (intro q; dsimp only at q; omega) | (unfold tfA; omega) | (unfold tfL; omega))).1
  have r_TXT : TXT σ1 := hTX.fz z (by decide) (fun r q e => by have q2 := hw r e; first | exact absurd q id | (dsimp only at q; omega) | omega | (unfold tfA at q; omega))
  have r_LD : LD σ1 := hLD.fz z (by decide)
  have i_MT : MT τ := (iM.re re).rf rf mi (by decide) (by decide)
  have i_RB : RB τ := (iB.re re).rf rf (by decide) (by decide)
  have i_kF : kFirst τ := (iF.re re).rf rf (by decide)
  have i_upL : upL τ := (iU.re re).rf rf (by decide)
  have i_mC : mCards τ := (iC.re re).rf rf (by decide) (by decide)
  have i_WI : WI τ := (iW.re re).rf rf (by decide) (by decide)
  have i_AB : AB τ := (iA.re re).rf rf (by decide) (by decide)
  have i_HI : HIs τ := by
    have h0 := iH.re re
    have f1 := rf.1 1335 (by omega) (by omega) (by decide)
    have a1 := rf.2 88 (by omega) (by omega) (by decide)
    have a2 := rf.2 89 (by omega) (by omega) (by decide)
    have e3 : fI τ 1332 61 = fI σ1 1332 61 + 1 := by
      rw [e2, fI_pI]
      exact if_pos ⟨rfl, rfl⟩
    intro c q1 q2
    rw [f1] at q2
    rw [a1, a2, e3]
    have := h0 c q1 q2
    omega
  have i_WG : WG τ := (iG.re re).rf rf (by decide) (by decide)
  have i_InN : InN τ := (iN.re re).rf rf (by decide) (by decide)
  have i_InS : InS2 τ := (iS.re re).rf rf (by decide) (by decide)
  have i_lT : lT τ := (iT.re re).rf rf (by decide) (by decide)
  have rel : Rel σ1 τ := ⟨C1, r_now, r_BX, r_LR, r_BG, r_AL, r_DKR, r_RDR, r_held, r_TG, r_LTT, r_TXT, r_LD⟩
  exact ⟨rel.ce (fun r q => hw r (by rw [← z.kd]; exact q)) ce, ⟨i_MT, i_RB, i_kF, i_upL, i_mC, i_WI, i_AB, i_HI, i_WG, i_InN, i_InS, i_lT⟩, S1.ce hb ce⟩
theorem AL_word {σ τ : Hp} {a v d : Int} (g : AL σ τ) (hd : d = fI τ 1301 61 / 86400) : AL (pI (qI (qI (qI σ 29 (fI τ 1380 61) a) 30 (fI τ 1380 61) d) 31 (fI τ 1380 61) v) 204 27 (fI τ 1380 61 + 1)) (pI (qI (qI (qI (pI τ 1300 61 0) 117 (fI τ 1380 61) a) 118 (fI τ 1380 61) v) 119 (fI τ 1380 61) (fI τ 1301 61 / 86400)) 1380 61 (fI τ 1380 61 + 1)) := by
  rw [← hd]
  have z : Fz [204] (fun r => r = 29 ∨ r = 30 ∨ r = 31) noR σ (pI (qI (qI (qI σ 29 (fI τ 1380 61) a) 30 (fI τ 1380 61) d) 31 (fI τ 1380 61) v) 204 27 (fI τ 1380 61 + 1)) := (((Fz_qI _ _ _ (Or.inl rfl)).tr (Fz_qI _ _ _ (Or.inr (Or.inl rfl)))).tr (Fz_qI _ _ _ (Or.inr (Or.inr rfl)))).tr (Fz_pI (fs := [204]) _ _ _ (by decide))
  obtain ⟨g1, g2, g3, g4, g5, g6⟩ := g
  have el := z.elt (by decide)
  refine ⟨g1.fz z (by decide) (by decide) (by decide), g2, fun b q1 q2 => ?_, by rw [el]; exact g4, fun w => ?_, ?_⟩
  · have g := g3 b q1 q2
    have hp := g.1
    rw [el]
    have ap := z.aI (r := lat σ 28 b + 1) (fun q => by first | omega | (dsimp only at q; omega))
    unfold AlE at *
    rw [el, z.kd, z.ln, ap, z.fR (f := 100) (by decide), z.fR (f := 102) (by decide), z.fI (f := 101) (by decide), z.fI (f := 103) (by decide), z.fI (f := 104) (by decide), z.fI (f := 105) (by decide), z.fI (f := 106) (by decide), z.fI (f := 107) (by decide)]
    exact g
  · obtain ⟨w1, w2, w3⟩ := g5 w
    simp only [nx_pI, kd_pI, ln_pI, fI_pI, fL_pI, fR_pI, aI_pI, aL_pI, aR_pI, nx_qI, kd_qI, ln_qI, fI_qI, fL_qI, fR_qI, aI_qI, aL_qI, aR_qI, Nat.reduceEqDiff, false_and, if_false, true_and, Int.reduceEq]
    rw [w1, w2, w3]
    exact ⟨rfl, rfl, rfl⟩
  · simp only [nx_pI, kd_pI, ln_pI, fI_pI, fL_pI, fR_pI, aI_pI, aL_pI, aR_pI, nx_qI, kd_qI, ln_qI, fI_qI, fL_qI, fR_qI, aI_qI, aL_qI, aR_qI, Nat.reduceEqDiff, false_and, if_false, true_and, Int.reduceEq]
    simp
theorem fu_word {b n : Int} {σ : Hp} {a v m d : Int} (hF : Fu b n σ) (hb : b < 0) (hw : ∀ r, kd σ r = 21 → r < 0) (hm : m = fI σ 1380 61) (hd : d = fI σ 1301 61 / 86400) (hv : v = 0 ∨ v = 1) (c : (0 ≤ a ∧ a < fI σ 1371 61) ∧ ¬ aI σ 112 a = 0 ∧ ¬ fI σ 1380 61 = 200) : Fu b n (pI (qI (qI (qI (pI (pI (qI (qI (qI σ 29 m a) 30 m d) 31 m v) 204 27 (m + 1)) 1300 61 0) 117 (fI (pI (qI (qI (qI σ 29 m a) 30 m d) 31 m v) 204 27 (m + 1)) 1380 61) a) 118 (fI (pI (qI (qI (qI σ 29 m a) 30 m d) 31 m v) 204 27 (m + 1)) 1380 61) v) 119 (fI (pI (qI (qI (qI σ 29 m a) 30 m d) 31 m v) 204 27 (m + 1)) 1380 61) (fI (pI (qI (qI (qI σ 29 m a) 30 m d) 31 m v) 204 27 (m + 1)) 1301 61 / 86400)) 1380 61 (fI (pI (qI (qI (qI σ 29 m a) 30 m d) 31 m v) 204 27 (m + 1)) 1380 61 + 1)) := by
  obtain ⟨⟨hC, hnw, hX, hL, hG, hA, hK, hR, hH, hT, hLT, hTX, hLD⟩, ⟨iM, iB, iF, iU, iC, iW, iA, iH, iG, iN, iS, iT⟩, hS⟩ := hF
  have z : Fz [204] (fun r => r = 29 ∨ r = 30 ∨ r = 31) noR σ (pI (qI (qI (qI σ 29 m a) 30 m d) 31 m v) 204 27 (m + 1)) := (((Fz_qI _ _ _ (Or.inl rfl)).tr (Fz_qI _ _ _ (Or.inr (Or.inl rfl)))).tr (Fz_qI _ _ _ (Or.inr (Or.inr rfl)))).tr (Fz_pI (fs := [204]) _ _ _ (by decide))
  have re : RE σ (pI (qI (qI (qI σ 29 m a) 30 m d) 31 m v) 204 27 (m + 1)) := z.re (by decide) (fun r q => by first | exact absurd q id | (dsimp only at q; omega) | omega | (unfold tfA at q; omega) | (unfold tfL at q; omega)) (fun r q => by first | exact absurd q id | (dsimp only at q; omega) | omega | (unfold tfA at q; omega) | (unfold tfL at q; omega))
  have f7 : fI (pI (qI (qI (qI σ 29 m a) 30 m d) 31 m v) 204 27 (m + 1)) 1380 61 = m := (re.2 1380 (by omega) (by omega)).1.trans hm.symm
  have f9 : fI (pI (qI (qI (qI σ 29 m a) 30 m d) 31 m v) 204 27 (m + 1)) 1301 61 = fI σ 1301 61 := (re.2 1301 (by omega) (by omega)).1
  have gA := AL_word (a := a) (v := v) (d := d) (hA.re re) (by rw [f9]; exact hd)
  obtain ⟨σ1, e1⟩ : ∃ ρ9 : Hp, ρ9 = pI (qI (qI (qI σ 29 m a) 30 m d) 31 m v) 204 27 (m + 1) := ⟨_, rfl⟩
  have f8 := f7.trans hm
  rw [← e1] at z re f8 ⊢
  have C1 : CLay σ1 := hC.fz z (by decide)
  have n1 : fI σ1 1210 1 = fI σ1 1301 61 := by
    rw [z.fI (f := 1210) (by decide), hnw]
    exact (re.2 1301 (by omega) (by omega)).1.symm
  have iM1 : MI σ1 := MI_RE re iM.1
  obtain ⟨τ, e2⟩ : ∃ ρ9 : Hp, ρ9 = pI (qI (qI (qI (pI σ1 1300 61 0) 117 (fI σ1 1380 61) a) 118 (fI σ1 1380 61) v) 119 (fI σ1 1380 61) (fI σ1 1301 61 / 86400)) 1380 61 (fI σ1 1380 61 + 1) := ⟨_, rfl⟩
  rw [← e2]
  have rf : Rf [1300, 1380] [117, 118, 119] σ1 τ := by
    rw [e2]
    exact ((((Rf_thr _ _ σ1 0 (by decide)).q (by decide)).q (by decide)).q (by decide)).p (by decide)
  have ce : CE σ1 τ := by
    rw [e2]
    exact ((((CE_pI σ1 61 0 (by decide)).tr (CE_qI _ _ _ (by decide))).tr (CE_qI _ _ _ (by decide))).tr (CE_qI _ _ _ (by decide))).tr (CE_pI _ 61 _ (by decide))
  have mi : MI τ := by
    rw [e2]
    exact MI_words_p (MI_wordDay_q (MI_wordTrue_q (MI_wordAlarm_q (MI_fre iM1 (by decide)) (by have := iM.1.alarms_s; omega)) (by omega)) (by have := iM1.now_s; omega)) (by have := iM.1.words_s; rw [f8]; omega)
  have S1 : Scp σ1 b n := by
    unfold Scp at *
    rw [z.kd, z.ln, z.aI (r := b) (by first | exact id | omega | (intro q; dsimp only at q; omega) | (unfold tfA; omega))]
    exact hS
  have r_now : fI σ1 1210 1 = fI τ 1301 61 := n1.trans (rf.1 1301 (by omega) (by omega) (by decide)).symm
  have r_BX : BX σ1 τ := ((hX.re re).fz z (by decide) (by decide) (by decide) (by decide)).rf rf (by decide) (by decide)
  have r_LR : ∀ l, 0 ≤ l → l < 4 → LR l σ1 τ := fun l a b => ((((hL l a b).re re).fz hC ⟨a, b⟩ z (by decide) (by decide) (by decide) (by decide) (by decide) (fun r h1 h2 => by first | exact id | omega | (intro q; dsimp only at q; omega) | (unfold tfA; omega))).rf rf (by decide))
  have r_BG : BG σ1 τ := ((hG.re re).fz z (by decide) (by first | exact id | omega | (intro q; dsimp only at q; omega) | (unfold tfA; omega) | (unfold tfL; omega)) (by first | exact id | omega | (intro q; dsimp only at q; omega) | (unfold tfA; omega) | (unfold tfL; omega))).rf rf (by decide) (by decide)
  have r_AL : AL σ1 τ := by
    have g := gA
    simp only [f7] at g
    rw [e2, e1]
    simp only [f7]
    exact g
  have r_DKR : DKR σ1 τ := ((hK.re re).fz z (by decide) (fun r q => by first | exact absurd q id | (dsimp only at q; omega) | omega | (unfold tfA at q; omega) | (unfold tfL at q; omega))).rf rf (by decide) (by decide)
  have r_RDR : RDR σ1 τ := ((hR.re re).fz z (by decide) (by first | exact id | omega | (intro q; dsimp only at q; omega) | (unfold tfA; omega) | (unfold tfL; omega))).rf rf (by decide) (by decide)
  have r_held : fI σ1 901 24 = fI τ 1343 61 ∧ aI σ1 25 = aI τ 92 := ⟨by rw [z.fI (f := 901) (by decide), hH.1]; exact ((rf.1 1343 (by omega) (by omega) (by decide)).trans (re.2 1343 (by omega) (by omega)).1).symm, by rw [z.aI (r := 25) (by first | exact id | omega | (intro q; dsimp only at q; omega) | (unfold tfA; omega) | (unfold tfL; omega)), hH.2]; exact ((rf.2 92 (by omega) (by omega) (by decide)).trans (re.1 92 (by omega) (by omega)).2.2.1).symm⟩
  have r_TG : TGr σ1 := hT.fz z (by first | exact id | omega | (intro q; dsimp only at q; omega) | (unfold tfA; omega) | (unfold tfL; omega)) (by first | exact id | omega | (intro q; dsimp only at q; omega) | (unfold tfA; omega) | (unfold tfL; omega))
  have r_LTT : LTT σ1 := (hLT.fz z (by decide) (by first | exact id | omega | (intro q; dsimp only at q; omega) | (unfold tfA; omega) | (unfold tfL; omega))).1
  have r_TXT : TXT σ1 := hTX.fz z (by decide) (fun r q e => by have q2 := hw r e; first | exact absurd q id | (dsimp only at q; omega) | omega | (unfold tfA at q; omega))
  have r_LD : LD σ1 := hLD.fz z (by decide)
  have i_MT : MT τ := (iM.re re).rf rf mi (by decide) (by decide)
  have i_RB : RB τ := (iB.re re).rf rf (by decide) (by decide)
  have i_kF : kFirst τ := (iF.re re).rf rf (by decide)
  have i_upL : upL τ := (iU.re re).rf rf (by decide)
  have i_mC : mCards τ := (iC.re re).rf rf (by decide) (by decide)
  have i_WI : WI τ := by
    have h0 := iW.re re
    have f1 := rf.1 1371 (by omega) (by omega) (by decide)
    have a1 := rf.2 112 (by omega) (by omega) (by decide)
    have a2 := rf.2 114 (by omega) (by omega) (by decide)
    have e3 : fI τ 1380 61 = fI σ1 1380 61 + 1 := by
      rw [e2, fI_pI]
      exact if_pos ⟨rfl, rfl⟩
    have e4 : ∀ w, aI τ 117 w = if w = fI σ1 1380 61 then a else aI σ1 117 w := fun w => by
      rw [e2]
      simp only [nx_pI, kd_pI, ln_pI, fI_pI, fL_pI, fR_pI, aI_pI, aL_pI, aR_pI, nx_qI, kd_qI, ln_qI, fI_qI, fL_qI, fR_qI, aI_qI, aL_qI, aR_qI, Nat.reduceEqDiff, false_and, if_false, true_and, Int.reduceEq]
    have e5 : ∀ w, aI τ 119 w = if w = fI σ1 1380 61 then fI σ1 1301 61 / 86400 else aI σ1 119 w := fun w => by
      rw [e2]
      simp only [nx_pI, kd_pI, ln_pI, fI_pI, fL_pI, fR_pI, aI_pI, aL_pI, aR_pI, nx_qI, kd_qI, ln_qI, fI_qI, fL_qI, fR_qI, aI_qI, aL_qI, aR_qI, Nat.reduceEqDiff, false_and, if_false, true_and, Int.reduceEq]
    have o1 := (iN.re re).2.2.2 a
    have b1 := (re.1 112 (by omega) (by omega)).2.2.1
    have b2 := (re.2 1371 (by omega) (by omega)).1
    intro w q1 q2
    rw [e3] at q2
    rw [a1, a2, f1, e4 w, e5 w]
    by_cases q : w = fI σ1 1380 61
    · rw [if_pos q, if_pos q, b1, b2]
      exact ⟨c.1, c.2.1, o1⟩
    · rw [if_neg q, if_neg q]
      exact h0 w q1 (by omega)
  have i_AB : AB τ := (iA.re re).rf rf (by decide) (by decide)
  have i_HI : HIs τ := (iH.re re).rf rf (by decide) (by decide)
  have i_WG : WG τ := (iG.re re).rf rf (by decide) (by decide)
  have i_InN : InN τ := (iN.re re).rf rf (by decide) (by decide)
  have i_InS : InS2 τ := (iS.re re).rf rf (by decide) (by decide)
  have i_lT : lT τ := (iT.re re).rf rf (by decide) (by decide)
  have rel : Rel σ1 τ := ⟨C1, r_now, r_BX, r_LR, r_BG, r_AL, r_DKR, r_RDR, r_held, r_TG, r_LTT, r_TXT, r_LD⟩
  exact ⟨rel.ce (fun r q => hw r (by rw [← z.kd]; exact q)) ce, ⟨i_MT, i_RB, i_kF, i_upL, i_mC, i_WI, i_AB, i_HI, i_WG, i_InN, i_InS, i_lT⟩, S1.ce hb ce⟩
