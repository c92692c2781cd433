/-! all that holds between two steps holds behind a step: cards -/

theorem line_ok {σ : Hp} {o b l : Int} {r : Rs} (hg : P4 0 r) (h3 : o ≤ aI σ 95 l) (h4 : aI σ 96 l = aI σ 95 l + r.2.2.1.length) (h5 : aI σ 96 l ≤ b) (h6 : Cs (aI σ 97) (aI σ 95 l) r.2.2.1) (ho : 0 ≤ o) (hb : b ≤ 2000) : mLok σ l := by
  have c97 : aI (mOpens σ 0) 97 = aI σ 97 := by funext j; simp only [aI_mOpens, Int.reduceEq, false_and, if_false]
  obtain ⟨ok, σ1, e, hr, hv⟩ := hg (mOpens σ 0) (Or.inl rfl) (by simp only [aI_mOpens, Int.reduceEq, false_and, if_false, and_self, if_true]) (by simp only [aI_mOpens, and_self, if_true]) (by simp only [aI_mOpens, Int.reduceEq, false_and, if_false, and_self, if_true]) (by simp only [aI_mOpens, Int.reduceEq, false_and, if_false, and_self, if_true])
  have rr := runs_rnC r.2.2.1 (mOpens σ 0) 0 (aI σ 95 l) (by rw [c97]; exact h6)
  have en : (aI σ 96 l - aI σ 95 l).toNat = r.2.2.1.length := by omega
  refine ⟨by omega, by omega, ?_⟩
  rw [en]
  exact rr.2 ok
theorem mCards_of {τ : Hp} {xs : List Ln} (h : LnA τ xs) : mCards τ := fun σ' a b c l hl => by
  obtain ⟨h1, h2, h3, o, bb, h4, h5, h6⟩ := h
  have hx : l < xs.length := by omega
  have g := h6 l xs[l] (List.getElem?_eq_getElem hx)
  rw [Int.zero_add] at g
  obtain ⟨-, -, g3, g4, g5, g6⟩ := g
  exact line_ok (r := xs[l].2.2.2) (h3 _ (List.getElem_mem hx)).1 (by rw [a]; exact g3) (by rw [a, b]; exact g4) (by rw [b]; exact g5) (by rw [a, c]; exact g6) h4 h5
/-- lines and codes in use are kept -/
theorem LnA.keep {τ τ' : Hp} {xs : List Ln} (h : LnA τ xs) (ht : lT0 τ) (hn : fI τ' 1352 61 = fI τ 1352 61) (hl : ∀ r l, isL r → l < 24 → aI τ' r l = aI τ r l) (hc : ∀ j, j < 1000 → aI τ' 97 j = aI τ 97 j) : LnA τ' xs := by
  obtain ⟨h1, h2, h3, o, b, h4, h5, h6⟩ := h
  refine ⟨hn.trans h1, h2, h3, o, 1000, h4, by omega, fun i x hx => ?_⟩
  have hi : i < xs.length := (List.getElem?_eq_some_iff.mp hx).1
  have g := h6 i x hx
  rw [Int.zero_add] at g ⊢
  have t := ht i (by omega) (by rw [h1]; omega)
  obtain ⟨g1, g2, g3, g4, g5, g6⟩ := g
  exact LnP.keep (b := 1000) ⟨g1, g2, g3, g4, t, g6⟩ (by omega) (fun r hr => hl r i hr (by omega)) hc
theorem DkL.keep {σ σ' : Hp} {D : Int} {css : List (List Int)} (h : DkL σ D css) (h1 : fI σ' 807 D = fI σ 807 D) (h3 : aI σ' (D + 3) = aI σ (D + 3)) (h4 : aI σ' (D + 4) = aI σ (D + 4)) : DkL σ' D css := by
  unfold DkL at *
  rw [h1, h3, h4]
  exact h
abbrev crF : List Nat := 501 :: 901 :: 1209 :: rlF
abbrev crA : Int → Prop := fun r => 34 ≤ r ∧ r ≤ 43
theorem RdF.cr {D : Int} {σ σ' : Hp} (h : RdF D σ σ') (hD : D = 33 ∨ D = 39) : Fz crF crA noR σ σ' := h.1.up (by decide) (fun r q => by unfold dkB at q; show 34 ≤ r ∧ r ≤ 43; omega) (fun r q => q)
theorem fu_cards1 {b n : Int} {σ σ1 τ : Hp} {D D2 : Int} {ρ : Hp}  (hF : Fu b n σ) (hb : b < 0) (hw : ∀ r, kd σ r = 21 → r < 0) (hD : (D = 33 ∧ D2 = 39) ∨ (D = 39 ∧ D2 = 33)) (d1 : fR σ 1209 1 = D) (d2 : fR σ 501 26 = D2) (y : RdF D2 σ ρ) (e1 : σ1 = pI ρ 901 24 0) (mi : MI τ) (hu : Ut fsC arC σ1 τ) (tl : fI τ 1343 61 = 0) (tu : upL τ) : Fu b n τ := by
  obtain ⟨⟨hC, hnw, hX, hL, hG, hA, hK, hR, hH, hT, hLT, hTX, hLD⟩, ⟨iM, iB, iF, iU, iC, iW, iA, iH, iG, iN, iS, iT⟩, hS⟩ := hF
  have hD2 : D2 = 33 ∨ D2 = 39 := by omega
  have z0 := y.cr hD2
  have z : Fz crF crA noR σ σ1 := by
    rw [e1]
    exact z0.tr (Fz_pI _ _ _ (by decide))
  have hs0 : fI σ1 901 24 = 0 := by
    rw [e1, fI_pI]
    exact if_pos ⟨rfl, rfl⟩
  have g1 : fR σ1 1209 1 = fR σ 1209 1 := by
    rw [e1, fR_pI, y.1.fR (by decide)]
  have g2 : fR σ1 501 26 = fR σ 501 26 := by
    rw [e1, fR_pI, y.1.fR (by decide)]
  have g3 : ∀ k, k ≠ D2 → fI σ1 807 k = fI σ 807 k := fun k hk => by
    rw [e1, fI_pI, if_neg (fun q => absurd q.1 (by decide)), y.2 k hk]
  have g4 : ∀ r, ¬ (D2 + 1 ≤ r ∧ r ≤ D2 + 4) → aI σ1 r = aI σ r := fun r hr => by
    rw [e1, aI_pI, y.1.aI (r := r) (by unfold dkB; exact hr)]
  have re : RE σ σ1 := z.re (by decide) (fun r q => by first | exact absurd q id | (dsimp only at q; omega) | omega | (unfold tfA at q; omega) | (unfold tfL at q; omega)) (fun r q => by first | exact absurd q id | (dsimp only at q; omega) | omega | (unfold tfA at q; omega) | (unfold tfL at q; omega))
  have C1 : CLay σ1 := hC.fz z (by decide)
  have n1 : fI σ1 1210 1 = fI σ1 1301 61 := by
    rw [z.fI (f := 1210) (by decide), hnw]
    exact (re.2 1301 (by omega) (by omega)).1.symm
  have iM1 : MI σ1 := MI_RE re iM.1

  have rf : Rf fsC [98, 99, 97, 95, 96, 93, 94] σ1 τ := hu.rf (fun r j q => by unfold arC arR isL at q; simp; omega)
  have ce : CE σ1 τ := hu.ce (by decide) (fun r j q => by unfold arC arR isL at q; omega)
  have S1 : Scp σ1 b n := by
    unfold Scp at *
    rw [z.kd, z.ln, z.aI (r := b) (by first | exact id | omega | (intro q; dsimp only at q; omega) | (unfold tfA; omega) | (unfold tfL; omega))]
    exact hS
  have r_now : fI σ1 1210 1 = fI τ 1301 61 := n1.trans (rf.1 1301 (by omega) (by omega) (by decide)).symm
  have r_BX : BX σ1 τ := ((hX.re re).fz z (by decide) (by decide) (by decide) (by decide)).rf rf (by decide) (by decide)
  have r_LR : ∀ l, 0 ≤ l → l < 4 → LR l σ1 τ := fun l a b => ((((hL l a b).re re).fz hC ⟨a, b⟩ z (by decide) (by decide) (by decide) (by decide) (by decide) (fun r h1 h2 => by first | exact id | omega | (intro q; dsimp only at q; omega) | (unfold tfA; omega))).rf rf (by decide))
  have r_BG : BG σ1 τ := ((hG.re re).fz z (by decide) (by first | exact id | omega | (intro q; dsimp only at q; omega) | (unfold tfA; omega) | (unfold tfL; omega)) (by first | exact id | omega | (intro q; dsimp only at q; omega) | (unfold tfA; omega) | (unfold tfL; omega))).rf rf (by decide) (by decide)
  have r_AL : AL σ1 τ := ((hA.re re).fz z (by decide) (by decide) (by decide) (by decide) (by decide) (fun r q => by first | exact absurd q id | (dsimp only at q; omega) | omega | (unfold tfA at q; omega) | (unfold tfL at q; omega))).rf rf (by decide) (by decide)
  have r_DKR : DKR σ1 τ := by
    obtain ⟨xs, xA, E, E2, xD, x1, x2, x3, x4⟩ := hK.re re
    have hE : E = D := x1.symm.trans d1
    have hE2 : E2 = D2 := x2.symm.trans d2
    rw [hE] at x1 x3 x4
    rw [hE2] at x2
    refine ⟨xs, xA.keep (iT.re re).1 (hu.2.2.2.2.2.2.1 1352 61 (by decide)) (fun r l hr hl => hu.2.2.2.2.2.2.2.2 r l (fun q => by unfold arC arR isL at q; unfold isL at hr; omega)) (fun j hj => hu.2.2.2.2.2.2.2.2 97 j (fun q => by unfold arC arR isL at q; omega)), D, D2, hD, ?_, ?_, ?_, ?_⟩
    · rw [g1]
      exact x1
    · rw [g2]
      exact x2
    · exact x3.keep (g3 D (by omega)) (g4 _ (by omega)) (g4 _ (by omega))
    · intro i x hx
      rw [g4 _ (by omega), g4 _ (by omega)]
      exact x4 i x hx
  have r_RDR : RDR σ1 τ := ((hR.re re).fz z (by decide) (by first | exact id | omega | (intro q; dsimp only at q; omega) | (unfold tfA; omega) | (unfold tfL; omega))).rf rf (by decide) (by decide)
  have r_held : fI σ1 901 24 = fI τ 1343 61 ∧ aI σ1 25 = aI τ 92 := by
    have l92 := rf.2 92 (by omega) (by omega) (by decide)
    refine ⟨hs0.trans tl.symm, ?_⟩
    rw [z.aI (r := 25) (by omega), hH.2]
    exact (l92.trans (re.1 92 (by omega) (by omega)).2.2.1).symm
  have r_TG : TGr σ1 := hT.fz z (by first | exact id | omega | (intro q; dsimp only at q; omega) | (unfold tfA; omega) | (unfold tfL; omega)) (by first | exact id | omega | (intro q; dsimp only at q; omega) | (unfold tfA; omega) | (unfold tfL; omega))
  have r_LTT : LTT σ1 := by
    refine ⟨by rw [hs0]; omega, ?_⟩
    rw [z.aI (r := 25) (by omega)]
    exact hLT.2
  have r_TXT : TXT σ1 := hTX.fz z (by decide) (fun r q e => by have q2 := hw r e; first | exact absurd q id | (dsimp only at q; omega) | omega | (unfold tfA at q; omega))
  have r_LD : LD σ1 := hLD.fz z (by decide)
  have i_MT : MT τ := (iM.re re).rf rf mi (by decide) (by decide)
  have i_RB : RB τ := (iB.re re).rf rf (by decide) (by decide)
  have i_kF : kFirst τ := (iF.re re).rf rf (by decide)
  have i_upL : upL τ := tu
  have i_mC : mCards τ := by
    obtain ⟨xs, xA, -⟩ := r_DKR
    exact mCards_of xA
  have i_WI : WI τ := (iW.re re).rf rf (by decide) (by decide)
  have i_AB : AB τ := (iA.re re).rf rf (by decide) (by decide)
  have i_HI : HIs τ := (iH.re re).rf rf (by decide) (by decide)
  have i_WG : WG τ := (iG.re re).rf rf (by decide) (by decide)
  have i_InN : InN τ := (iN.re re).rf rf (by decide) (by decide)
  have i_InS : InS2 τ := (iS.re re).rf rf (by decide) (by decide)
  have i_lT : lT τ := by
    refine ⟨?_, by rw [rf.1 1302 (by omega) (by omega) (by decide), rf.2 69 (by omega) (by omega) (by decide)]; exact (iT.re re).2⟩
    intro l p q
    have c1 : fI τ 1352 61 = fI σ1 1352 61 := hu.2.2.2.2.2.2.1 1352 61 (by decide)
    rw [c1] at q
    have cl := iM1.cardLines_s
    rw [hu.2.2.2.2.2.2.2.2 96 l (fun w => by unfold arC arR isL at w; omega)]
    exact (iT.re re).1 l p q
  have rel : Rel σ1 τ := ⟨C1, r_now, r_BX, r_LR, r_BG, r_AL, r_DKR, r_RDR, r_held, r_TG, r_LTT, r_TXT, r_LD⟩
  exact ⟨rel.ce (fun r q => hw r (by rw [← z.kd]; exact q)) ce, ⟨i_MT, i_RB, i_kF, i_upL, i_mC, i_WI, i_AB, i_HI, i_WG, i_InN, i_InS, i_lT⟩, S1.ce hb ce⟩
theorem fu_cards2 {b n : Int} {σ σ1 τ : Hp} {D D2 : Int} {ρ : Hp}  (hF : Fu b n σ) (hb : b < 0) (hw : ∀ r, kd σ r = 21 → r < 0) (hD : (D = 33 ∧ D2 = 39) ∨ (D = 39 ∧ D2 = 33)) (d1 : fR σ 1209 1 = D) (d2 : fR σ 501 26 = D2) (y : RdF D2 σ ρ) (e1 : σ1 = pR (pR (pI ρ 901 24 0) 501 26 D) 1209 1 D2) {xs : List Ln} (hk : DkS ρ D2 (xs.map fun x => x.2.2.2.2.2.2.1)) (he : ∀ (i : Nat) (x : Ln), xs[i]? = some x → aI ρ (D2 + 1) i = x.2.1 ∧ aI ρ (D2 + 2) i = x.2.2.1) (hg : (∀ x ∈ xs, LnG x) ∧ xs.length ≤ 24) (mi : MI τ) (hu : Ut fsD arD σ1 τ) (tl : fI τ 1343 61 = 0) (tu : upL τ) (tc : fI τ 1352 61 = xs.length) (ts : LnS τ 0 1000 0 xs) : Fu b n τ := by
  obtain ⟨⟨hC, hnw, hX, hL, hG, hA, hK, hR, hH, hT, hLT, hTX, hLD⟩, ⟨iM, iB, iF, iU, iC, iW, iA, iH, iG, iN, iS, iT⟩, hS⟩ := hF
  have hD2 : D2 = 33 ∨ D2 = 39 := by omega
  have z0 := y.cr hD2
  have z : Fz crF crA noR σ σ1 := by
    rw [e1]
    exact ((z0.tr (Fz_pI _ _ _ (by decide))).tr (Fz_pR _ _ _ (by decide))).tr (Fz_pR _ _ _ (by decide))
  have hs0 : fI σ1 901 24 = 0 := by
    rw [e1, fI_pR, fI_pR, fI_pI]
    exact if_pos ⟨rfl, rfl⟩
  have re : RE σ σ1 := z.re (by decide) (fun r q => by first | exact absurd q id | (dsimp only at q; omega) | omega | (unfold tfA at q; omega) | (unfold tfL at q; omega)) (fun r q => by first | exact absurd q id | (dsimp only at q; omega) | omega | (unfold tfA at q; omega) | (unfold tfL at q; omega))
  have C1 : CLay σ1 := hC.fz z (by decide)
  have n1 : fI σ1 1210 1 = fI σ1 1301 61 := by
    rw [z.fI (f := 1210) (by decide), hnw]
    exact (re.2 1301 (by omega) (by omega)).1.symm
  have iM1 : MI σ1 := MI_RE re iM.1

  have rf : Rf fsD [98, 99, 97, 95, 96, 93, 94] σ1 τ := hu.rf (fun r j q => by unfold arD isL at q; simp; omega)
  have ce : CE σ1 τ := hu.ce (by decide) (fun r j q => by unfold arD isL at q; omega)
  have S1 : Scp σ1 b n := by
    unfold Scp at *
    rw [z.kd, z.ln, z.aI (r := b) (by first | exact id | omega | (intro q; dsimp only at q; omega) | (unfold tfA; omega) | (unfold tfL; omega))]
    exact hS
  have r_now : fI σ1 1210 1 = fI τ 1301 61 := n1.trans (rf.1 1301 (by omega) (by omega) (by decide)).symm
  have r_BX : BX σ1 τ := ((hX.re re).fz z (by decide) (by decide) (by decide) (by decide)).rf rf (by decide) (by decide)
  have r_LR : ∀ l, 0 ≤ l → l < 4 → LR l σ1 τ := fun l a b => ((((hL l a b).re re).fz hC ⟨a, b⟩ z (by decide) (by decide) (by decide) (by decide) (by decide) (fun r h1 h2 => by first | exact id | omega | (intro q; dsimp only at q; omega) | (unfold tfA; omega))).rf rf (by decide))
  have r_BG : BG σ1 τ := ((hG.re re).fz z (by decide) (by first | exact id | omega | (intro q; dsimp only at q; omega) | (unfold tfA; omega) | (unfold tfL; omega)) (by first | exact id | omega | (intro q; dsimp only at q; omega) | (unfold tfA; omega) | (unfold tfL; omega))).rf rf (by decide) (by decide)
  have r_AL : AL σ1 τ := ((hA.re re).fz z (by decide) (by decide) (by decide) (by decide) (by decide) (fun r q => by first | exact absurd q id | (dsimp only at q; omega) | omega | (unfold tfA at q; omega) | (unfold tfL at q; omega))).rf rf (by decide) (by decide)
  have r_DKR : DKR σ1 τ := by
    refine ⟨xs, ⟨tc, hg.2, hg.1, 0, 1000, by omega, by omega, ts⟩, D2, D, by omega, ?_, ?_, ?_, ?_⟩
    · rw [e1, fR_pR]
      exact if_pos ⟨rfl, rfl⟩
    · rw [e1, fR_pR, if_neg (fun q => absurd q.1 (by decide)), fR_pR]
      exact if_pos ⟨rfl, rfl⟩
    · exact hk.1.keep (by rw [e1, fI_pR, fI_pR, fI_pI, if_neg (fun q => absurd q.1 (by decide))]) (by rw [e1, aI_pR, aI_pR, aI_pI]) (by rw [e1, aI_pR, aI_pR, aI_pI])
    · rw [e1, aI_pR, aI_pR, aI_pI]
      exact he
  have r_RDR : RDR σ1 τ := ((hR.re re).fz z (by decide) (by first | exact id | omega | (intro q; dsimp only at q; omega) | (unfold tfA; omega) | (unfold tfL; omega))).rf rf (by decide) (by decide)
  have r_held : fI σ1 901 24 = fI τ 1343 61 ∧ aI σ1 25 = aI τ 92 := by
    have l92 := rf.2 92 (by omega) (by omega) (by decide)
    refine ⟨hs0.trans tl.symm, ?_⟩
    rw [z.aI (r := 25) (by omega), hH.2]
    exact (l92.trans (re.1 92 (by omega) (by omega)).2.2.1).symm
  have r_TG : TGr σ1 := hT.fz z (by first | exact id | omega | (intro q; dsimp only at q; omega) | (unfold tfA; omega) | (unfold tfL; omega)) (by first | exact id | omega | (intro q; dsimp only at q; omega) | (unfold tfA; omega) | (unfold tfL; omega))
  have r_LTT : LTT σ1 := by
    refine ⟨by rw [hs0]; omega, ?_⟩
    rw [z.aI (r := 25) (by omega)]
    exact hLT.2
  have r_TXT : TXT σ1 := hTX.fz z (by decide) (fun r q e => by have q2 := hw r e; first | exact absurd q id | (dsimp only at q; omega) | omega | (unfold tfA at q; omega))
  have r_LD : LD σ1 := hLD.fz z (by decide)
  have i_MT : MT τ := (iM.re re).rf rf mi (by decide) (by decide)
  have i_RB : RB τ := (iB.re re).rf rf (by decide) (by decide)
  have i_kF : kFirst τ := (iF.re re).rf rf (by decide)
  have i_upL : upL τ := tu
  have i_mC : mCards τ := mCards_of (xs := xs) ⟨tc, hg.2, hg.1, 0, 1000, by omega, by omega, ts⟩
  have i_WI : WI τ := (iW.re re).rf rf (by decide) (by decide)
  have i_AB : AB τ := (iA.re re).rf rf (by decide) (by decide)
  have i_HI : HIs τ := (iH.re re).rf rf (by decide) (by decide)
  have i_WG : WG τ := (iG.re re).rf rf (by decide) (by decide)
  have i_InN : InN τ := (iN.re re).rf rf (by decide) (by decide)
  have i_InS : InS2 τ := (iS.re re).rf rf (by decide) (by decide)
  have i_lT : lT τ := by
    refine ⟨?_, by rw [rf.1 1302 (by omega) (by omega) (by decide), rf.2 69 (by omega) (by omega) (by decide)]; exact (iT.re re).2⟩
    intro l p q
    rw [tc] at q
    have hl : l.toNat < xs.length := by omega
    have g := ts l.toNat xs[l.toNat] (List.getElem?_eq_getElem hl)
    have e : (0 : Int) + (l.toNat : Int) = l := by omega
    rw [e] at g
    exact g.2.2.2.2.1
  have rel : Rel σ1 τ := ⟨C1, r_now, r_BX, r_LR, r_BG, r_AL, r_DKR, r_RDR, r_held, r_TG, r_LTT, r_TXT, r_LD⟩
  exact ⟨rel.ce (fun r q => hw r (by rw [← z.kd]; exact q)) ce, ⟨i_MT, i_RB, i_kF, i_upL, i_mC, i_WI, i_AB, i_HI, i_WG, i_InN, i_InS, i_lT⟩, S1.ce hb ce⟩
