/-! all that holds between two steps holds behind a step: reading, feed, moves, done -/

theorem RdR.inf {H : Int → Prop} {K : Int → Int → Prop} {nb sp res sz : Int} {xs : List (List Int)} (h : RdR H K nb sp res sz xs) : ∀ x ∈ xs, (x.length : Int) = sz ∧ (∀ p ∈ x, 0 ≤ p ∧ p / 300 < nb) ∧ x.Pairwise (fun p q => p / 300 < q / 300) := by
  have u : ∀ (m : Nat) (s : Int), s = m → Sg (Sm H K nb sp m) xs → ∀ x ∈ xs, (x.length : Int) = s ∧ (∀ p ∈ x, 0 ≤ p ∧ p / 300 < nb) ∧ x.Pairwise (fun p q => p / 300 < q / 300) := fun m s hs g x hx => by
    obtain ⟨⟨a1, a2, -⟩, a3⟩ := g.2.1 x hx
    exact ⟨by omega, fun p hp => ⟨(a1 p hp).1, (a1 p hp).2.1⟩, a2⟩
  rcases h with ⟨-, a2, -, a4⟩ | ⟨-, h⟩
  · intro x hx
    rw [a4, List.mem_singleton] at hx
    subst hx
    rw [a2]
    exact ⟨rfl, fun p hp => absurd hp (List.not_mem_nil), List.Pairwise.nil⟩
  · rcases h with ⟨-, b2, b3, -⟩ | ⟨-, h⟩
    · exact u 1 sz b2 b3
    · rcases h with ⟨-, b2, b3, -⟩ | ⟨-, b2, b3, -⟩
      · exact u 2 sz b2 b3
      · exact u 3 sz b2 b3
theorem fu_reading {b n : Int} {σ σ1 τ : Hp} {l f t res sz : Int} {xs : List (List Int)} (hF : Fu b n σ) (hb : b < 0) (hw : ∀ r, kd σ r = 21 → r < 0) (hl : 0 ≤ l ∧ l ≤ 3) (hr : RdR (fun u => mTaped σ l (f + u)) (fun p u => mK σ l (p / 300) (p % 300) u) (aI σ 74 l) (t - f + 1) res sz xs) (z : Fz tfF tfA tfL σ σ1) (q1 : fR σ1 1106 4 = 46 + 4 * l) (q2 : fI σ1 1107 4 = f) (q3 : fI σ1 1108 4 = (if xs = [] then 0 else sz)) (q4 : KM σ1 (xs.map keyL)) (mi : MI τ) (hv : Uv fsG arG prL σ1 τ) (t1 : fI τ 1321 61 = l) (t2 : fI τ 1331 61 = f) (t3 : fI τ 1323 61 = sz) (t4 : Told τ xs) : Fu b n τ := by
  obtain ⟨⟨hC, hnw, hX, hL, hG, hA, hK, hR, hH, hT, hLT, hTX, hLD⟩, ⟨iM, iB, iF, iU, iC, iW, iA, iH, iG, iN, iS, iT⟩, hS⟩ := hF
  have re : RE σ σ1 := z.re (by decide) (fun r q => by first | exact absurd q id | (dsimp only at q; omega) | omega | (unfold tfA at q; omega) | (unfold tfL at q; omega) | (unfold fewA at q; omega) | (unfold surA at q; omega)) (fun r q => by first | exact absurd q id | (dsimp only at q; omega) | omega | (unfold tfA at q; omega) | (unfold tfL at q; omega) | (unfold fewA at q; omega) | (unfold surA at q; omega))
  have C1 : CLay σ1 := hC.fz z (by decide)
  have n1 : fI σ1 1210 1 = fI σ1 1301 61 := by
    rw [z.fI (f := 1210) (by decide), hnw]
    exact (re.2 1301 (by omega) (by omega)).1.symm
  have iM1 : MI σ1 := MI_RE re iM.1

  have rf : Rf fsG [80, 81, 82] σ1 τ := hv.rf (fun r j q => by unfold arG at q; simp; omega)
  have ce : CE σ1 τ := hv.ce (by decide) (fun r j q => by unfold arG at q; omega) (fun r j q => by unfold prL at q; omega)
  have S1 : Scp σ1 b n := by
    unfold Scp at *
    rw [z.kd, z.ln, z.aI (r := b) (by first | exact id | omega | (intro q; dsimp only at q; omega) | (unfold tfA; omega) | (unfold tfL; omega) | (unfold fewA; omega) | (unfold surA; omega))]
    exact hS
  have r_now : fI σ1 1210 1 = fI τ 1301 61 := n1.trans (rf.1 1301 (by omega) (by omega) (by decide)).symm
  have r_BX : BX σ1 τ := ((hX.re re).fz z (by decide) (by decide) (by decide) (by decide)).rf rf (by decide) (by decide)
  have r_LR : ∀ l, 0 ≤ l → l < 4 → LR l σ1 τ := fun l a b => ((((hL l a b).re re).fz hC ⟨a, b⟩ z (by decide) (by decide) (by decide) (by decide) (by decide) (fun r h1 h2 => by first | exact id | omega | (intro q; dsimp only at q; omega) | (unfold tfA; omega) | (unfold fewA; omega) | (unfold surA; omega))).rf rf (by decide))
  have r_BG : BG σ1 τ := ((hG.re re).fz z (by decide) (by first | exact id | omega | (intro q; dsimp only at q; omega) | (unfold tfA; omega) | (unfold tfL; omega) | (unfold fewA; omega) | (unfold surA; omega)) (by first | exact id | omega | (intro q; dsimp only at q; omega) | (unfold tfA; omega) | (unfold tfL; omega) | (unfold fewA; omega) | (unfold surA; omega))).rf rf (by decide) (by decide)
  have r_AL : AL σ1 τ := ((hA.re re).fz z (by decide) (by decide) (by decide) (by decide) (by decide) (fun r q => by first | exact absurd q id | (dsimp only at q; omega) | omega | (unfold tfA at q; omega) | (unfold tfL at q; omega) | (unfold fewA at q; omega) | (unfold surA at q; omega))).rf rf (by decide) (by decide)
  have r_DKR : DKR σ1 τ := ((hK.re re).fz z (by decide) (fun r q => by first | exact absurd q id | (dsimp only at q; omega) | omega | (unfold tfA at q; omega) | (unfold tfL at q; omega) | (unfold fewA at q; omega) | (unfold surA at q; omega))).rf rf (by decide) (by decide)
  have r_RDR : RDR σ1 τ := ⟨xs, t4, q4, by rw [q3, t3], fun _ => ⟨by rw [t1]; exact hl, ⟨by rw [q1, t1], by rw [q2, t2]⟩, fun x hx => by
    rw [t1, t3, rf.2 74 (by omega) (by omega) (by decide), (re.1 74 (by omega) (by omega)).2.2.1]
    exact hr.inf x hx⟩⟩
  have r_held : fI σ1 901 24 = fI τ 1343 61 ∧ aI σ1 25 = aI τ 92 := ⟨by rw [z.fI (f := 901) (by decide), hH.1]; exact ((rf.1 1343 (by omega) (by omega) (by decide)).trans (re.2 1343 (by omega) (by omega)).1).symm, by rw [z.aI (r := 25) (by first | exact id | omega | (intro q; dsimp only at q; omega) | (unfold tfA; omega) | (unfold tfL; omega) | (unfold fewA; omega) | (unfold surA; omega)), hH.2]; exact ((rf.2 92 (by omega) (by omega) (by decide)).trans (re.1 92 (by omega) (by omega)).2.2.1).symm⟩
  have r_TG : TGr σ1 := hT.fz z (by first | exact id | omega | (intro q; dsimp only at q; omega) | (unfold tfA; omega) | (unfold tfL; omega) | (unfold fewA; omega) | (unfold surA; omega)) (by first | exact id | omega | (intro q; dsimp only at q; omega) | (unfold tfA; omega) | (unfold tfL; omega) | (unfold fewA; omega) | (unfold surA; omega))
  have r_LTT : LTT σ1 := (hLT.fz z (by decide) (by first | exact id | omega | (intro q; dsimp only at q; omega) | (unfold tfA; omega) | (unfold tfL; omega) | (unfold fewA; omega) | (unfold surA; omega))).1
  have r_TXT : TXT σ1 := hTX.fz z (by decide) (fun r q e => by have q2 := hw r e; first | exact absurd q id | (dsimp only at q; omega) | omega | (unfold tfA at q; omega) | (unfold fewA at q; omega) | (unfold surA at q; omega))
  have r_LD : LD σ1 := hLD.fz z (by decide)
  have i_MT : MT τ := (iM.re re).rf rf mi (by decide) (by decide)
  have i_RB : RB τ := (iB.re re).rf rf (by decide) (by decide)
  have i_kF : kFirst τ := (iF.re re).rf rf (by decide)
  have i_upL : upL τ := (iU.re re).rf rf (by decide)
  have i_mC : mCards τ := (iC.re re).rf rf (by decide) (by decide)
  have i_WI : WI τ := (iW.re re).rf rf (by decide) (by decide)
  have i_AB : AB τ := (iA.re re).rf rf (by decide) (by decide)
  have i_HI : HIs τ := (iH.re re).rf rf (by decide) (by decide)
  have i_WG : WG τ := (iG.re re).rf rf (by decide) (by decide)
  have i_InN : InN τ := by
    obtain ⟨n0, n2, n3, n4⟩ := iN.re re
    refine ⟨?_, ?_, fun _ => by rw [t1]; exact hl.1, ?_⟩
    · rw [rf.1 1302 (by omega) (by omega) (by decide), rf.2 72 (by omega) (by omega) (by decide), rf.2 73 (by omega) (by omega) (by decide), rf.2 70 (by omega) (by omega) (by decide)]
      exact n0
    · rw [rf.1 1371 (by omega) (by omega) (by decide), rf.2 112 (by omega) (by omega) (by decide), rf.2 113 (by omega) (by omega) (by decide), rf.2 114 (by omega) (by omega) (by decide), rf.2 115 (by omega) (by omega) (by decide)]
      exact n2
    · rw [rf.1 1301 (by omega) (by omega) (by decide), rf.2 114 (by omega) (by omega) (by decide)]
      exact n4
  have i_InS : InS2 τ := (iS.re re).rf rf (by decide) (by decide)
  have i_lT : lT τ := (iT.re re).rf rf (by decide) (by decide)
  have rel : Rel σ1 τ := ⟨C1, r_now, r_BX, r_LR, r_BG, r_AL, r_DKR, r_RDR, r_held, r_TG, r_LTT, r_TXT, r_LD⟩
  exact ⟨rel.ce (fun r q => hw r (by rw [← z.kd]; exact q)) ce, ⟨i_MT, i_RB, i_kF, i_upL, i_mC, i_WI, i_AB, i_HI, i_WG, i_InN, i_InS, i_lT⟩, S1.ce hb ce⟩
theorem fu_moves {b n : Int} {σ σ1 τ : Hp} {A a B c : Int} (hF : Fu b n σ) (hb : b < 0) (hw : ∀ r, kd σ r = 21 → r < 0) (z : Fz fewF fewA noR σ σ1) (hT1 : TGr σ1) (hm : mR A a B c) (e2 : τ = mv (pI σ1 1300 61 0) A a B c) : Fu b n τ := by
  obtain ⟨⟨hC, hnw, hX, hL, hG, hA, hK, hR, hH, hT, hLT, hTX, hLD⟩, ⟨iM, iB, iF, iU, iC, iW, iA, iH, iG, iN, iS, iT⟩, hS⟩ := hF
  have re : RE σ σ1 := z.re (by decide) (fun r q => by first | exact absurd q id | (dsimp only at q; omega) | omega | (unfold tfA at q; omega) | (unfold tfL at q; omega) | (unfold fewA at q; omega) | (unfold surA at q; omega)) (fun r q => by first | exact absurd q id | (dsimp only at q; omega) | omega | (unfold tfA at q; omega) | (unfold tfL at q; omega) | (unfold fewA at q; omega) | (unfold surA at q; omega))
  have C1 : CLay σ1 := hC.fz z (by decide)
  have n1 : fI σ1 1210 1 = fI σ1 1301 61 := by
    rw [z.fI (f := 1210) (by decide), hnw]
    exact (re.2 1301 (by omega) (by omega)).1.symm
  have iM1 : MI σ1 := MI_RE re iM.1
  have mi : MI τ := by
    rw [e2]
    exact MI_mv (MI_fre iM1 (by decide)) hm
  have rf : Rf [1300, 1384, 1385, 1386, 1387] [] σ1 τ := by rw [e2]; exact ((((Rf_thr _ _ σ1 0 (by decide)).p (by decide)).p (by decide)).p (by decide)).p (by decide)
  have ce : CE σ1 τ := by rw [e2]; exact ((((CE_pI σ1 61 0 (by decide)).tr (CE_pI _ 61 A (by decide))).tr (CE_pI _ 61 a (by decide))).tr (CE_pI _ 61 B (by decide))).tr (CE_pI _ 61 c (by decide))
  have S1 : Scp σ1 b n := by
    unfold Scp at *
    rw [z.kd, z.ln, z.aI (r := b) (by first | exact id | omega | (intro q; dsimp only at q; omega) | (unfold tfA; omega) | (unfold tfL; omega) | (unfold fewA; omega) | (unfold surA; omega))]
    exact hS
  have r_now : fI σ1 1210 1 = fI τ 1301 61 := n1.trans (rf.1 1301 (by omega) (by omega) (by decide)).symm
  have r_BX : BX σ1 τ := ((hX.re re).fz z (by decide) (by decide) (by decide) (by decide)).rf rf (by decide) (by decide)
  have r_LR : ∀ l, 0 ≤ l → l < 4 → LR l σ1 τ := fun l a b => ((((hL l a b).re re).fz hC ⟨a, b⟩ z (by decide) (by decide) (by decide) (by decide) (by decide) (fun r h1 h2 => by first | exact id | omega | (intro q; dsimp only at q; omega) | (unfold tfA; omega) | (unfold fewA; omega) | (unfold surA; omega))).rf rf (by decide))
  have r_BG : BG σ1 τ := ((hG.re re).fz z (by decide) (by first | exact id | omega | (intro q; dsimp only at q; omega) | (unfold tfA; omega) | (unfold tfL; omega) | (unfold fewA; omega) | (unfold surA; omega)) (by first | exact id | omega | (intro q; dsimp only at q; omega) | (unfold tfA; omega) | (unfold tfL; omega) | (unfold fewA; omega) | (unfold surA; omega))).rf rf (by decide) (by decide)
  have r_AL : AL σ1 τ := ((hA.re re).fz z (by decide) (by decide) (by decide) (by decide) (by decide) (fun r q => by first | exact absurd q id | (dsimp only at q; omega) | omega | (unfold tfA at q; omega) | (unfold tfL at q; omega) | (unfold fewA at q; omega) | (unfold surA at q; omega))).rf rf (by decide) (by decide)
  have r_DKR : DKR σ1 τ := ((hK.re re).fz z (by decide) (fun r q => by first | exact absurd q id | (dsimp only at q; omega) | omega | (unfold tfA at q; omega) | (unfold tfL at q; omega) | (unfold fewA at q; omega) | (unfold surA at q; omega))).rf rf (by decide) (by decide)
  have r_RDR : RDR σ1 τ := ((hR.re re).fz z (by decide) (by first | exact id | omega | (intro q; dsimp only at q; omega) | (unfold tfA; omega) | (unfold tfL; omega) | (unfold fewA; omega) | (unfold surA; omega))).rf rf (by decide) (by decide)
  have r_held : fI σ1 901 24 = fI τ 1343 61 ∧ aI σ1 25 = aI τ 92 := ⟨by rw [z.fI (f := 901) (by decide), hH.1]; exact ((rf.1 1343 (by omega) (by omega) (by decide)).trans (re.2 1343 (by omega) (by omega)).1).symm, by rw [z.aI (r := 25) (by first | exact id | omega | (intro q; dsimp only at q; omega) | (unfold tfA; omega) | (unfold tfL; omega) | (unfold fewA; omega) | (unfold surA; omega)), hH.2]; exact ((rf.2 92 (by omega) (by omega) (by decide)).trans (re.1 92 (by omega) (by omega)).2.2.1).symm⟩
  have r_TG : TGr σ1 := hT1
  have r_LTT : LTT σ1 := (hLT.fz z (by decide) (by first | exact id | omega | (intro q; dsimp only at q; omega) | (unfold tfA; omega) | (unfold tfL; omega) | (unfold fewA; omega) | (unfold surA; omega))).1
  have r_TXT : TXT σ1 := hTX.fz z (by decide) (fun r q e => by have q2 := hw r e; first | exact absurd q id | (dsimp only at q; omega) | omega | (unfold tfA at q; omega) | (unfold fewA at q; omega) | (unfold surA at q; omega))
  have r_LD : LD σ1 := hLD.fz z (by decide)
  have i_MT : MT τ := (iM.re re).rf rf mi (by decide) (by decide)
  have i_RB : RB τ := (iB.re re).rf rf (by decide) (by decide)
  have i_kF : kFirst τ := (iF.re re).rf rf (by decide)
  have i_upL : upL τ := (iU.re re).rf rf (by decide)
  have i_mC : mCards τ := (iC.re re).rf rf (by decide) (by decide)
  have i_WI : WI τ := (iW.re re).rf rf (by decide) (by decide)
  have i_AB : AB τ := (iA.re re).rf rf (by decide) (by decide)
  have i_HI : HIs τ := (iH.re re).rf rf (by decide) (by decide)
  have i_WG : WG τ := (iG.re re).rf rf (by decide) (by decide)
  have i_InN : InN τ := (iN.re re).rf rf (by decide) (by decide)
  have i_InS : InS2 τ := (iS.re re).rf rf (by decide) (by decide)
  have i_lT : lT τ := (iT.re re).rf rf (by decide) (by decide)
  have rel : Rel σ1 τ := ⟨C1, r_now, r_BX, r_LR, r_BG, r_AL, r_DKR, r_RDR, r_held, r_TG, r_LTT, r_TXT, r_LD⟩
  exact ⟨rel.ce (fun r q => hw r (by rw [← z.kd]; exact q)) ce, ⟨i_MT, i_RB, i_kF, i_upL, i_mC, i_WI, i_AB, i_HI, i_WG, i_InN, i_InS, i_lT⟩, S1.ce hb ce⟩
theorem fu_covered {b n : Int} {σ σ1 τ : Hp}  (hF : Fu b n σ) (hb : b < 0) (hw : ∀ r, kd σ r = 21 → r < 0) (z : Fz surF surA noR σ σ1) (e2 : τ = pI (pI (pI σ1 1300 61 0) 1384 61 (-1)) 1386 61 (-1)) : Fu b n τ := by
  obtain ⟨⟨hC, hnw, hX, hL, hG, hA, hK, hR, hH, hT, hLT, hTX, hLD⟩, ⟨iM, iB, iF, iU, iC, iW, iA, iH, iG, iN, iS, iT⟩, hS⟩ := hF
  have re : RE σ σ1 := z.re (by decide) (fun r q => by first | exact absurd q id | (dsimp only at q; omega) | omega | (unfold tfA at q; omega) | (unfold tfL at q; omega) | (unfold fewA at q; omega) | (unfold surA at q; omega)) (fun r q => by first | exact absurd q id | (dsimp only at q; omega) | omega | (unfold tfA at q; omega) | (unfold tfL at q; omega) | (unfold fewA at q; omega) | (unfold surA at q; omega))
  have C1 : CLay σ1 := hC.fz z (by decide)
  have n1 : fI σ1 1210 1 = fI σ1 1301 61 := by
    rw [z.fI (f := 1210) (by decide), hnw]
    exact (re.2 1301 (by omega) (by omega)).1.symm
  have iM1 : MI σ1 := MI_RE re iM.1
  have mi : MI τ := by
    rw [e2]
    exact MI_movedB_p (MI_movedA_p (MI_fre iM1 (by decide)) (by omega)) (by omega)
  have rf : Rf [1300, 1384, 1386] [] σ1 τ := by rw [e2]; exact (((Rf_thr _ _ σ1 0 (by decide)).p (by decide)).p (by decide))
  have ce : CE σ1 τ := by rw [e2]; exact ((CE_pI σ1 61 0 (by decide)).tr (CE_pI _ 61 _ (by decide))).tr (CE_pI _ 61 _ (by decide))
  have S1 : Scp σ1 b n := by
    unfold Scp at *
    rw [z.kd, z.ln, z.aI (r := b) (by first | exact id | omega | (intro q; dsimp only at q; omega) | (unfold tfA; omega) | (unfold tfL; omega) | (unfold fewA; omega) | (unfold surA; omega))]
    exact hS
  have r_now : fI σ1 1210 1 = fI τ 1301 61 := n1.trans (rf.1 1301 (by omega) (by omega) (by decide)).symm
  have r_BX : BX σ1 τ := ((hX.re re).fz z (by decide) (by decide) (by decide) (by decide)).rf rf (by decide) (by decide)
  have r_LR : ∀ l, 0 ≤ l → l < 4 → LR l σ1 τ := fun l a b => ((((hL l a b).re re).fz hC ⟨a, b⟩ z (by decide) (by decide) (by decide) (by decide) (by decide) (fun r h1 h2 => by first | exact id | omega | (intro q; dsimp only at q; omega) | (unfold tfA; omega) | (unfold fewA; omega) | (unfold surA; omega))).rf rf (by decide))
  have r_BG : BG σ1 τ := ((hG.re re).fz z (by decide) (by first | exact id | omega | (intro q; dsimp only at q; omega) | (unfold tfA; omega) | (unfold tfL; omega) | (unfold fewA; omega) | (unfold surA; omega)) (by first | exact id | omega | (intro q; dsimp only at q; omega) | (unfold tfA; omega) | (unfold tfL; omega) | (unfold fewA; omega) | (unfold surA; omega))).rf rf (by decide) (by decide)
  have r_AL : AL σ1 τ := ((hA.re re).fz z (by decide) (by decide) (by decide) (by decide) (by decide) (fun r q => by first | exact absurd q id | (dsimp only at q; omega) | omega | (unfold tfA at q; omega) | (unfold tfL at q; omega) | (unfold fewA at q; omega) | (unfold surA at q; omega))).rf rf (by decide) (by decide)
  have r_DKR : DKR σ1 τ := ((hK.re re).fz z (by decide) (fun r q => by first | exact absurd q id | (dsimp only at q; omega) | omega | (unfold tfA at q; omega) | (unfold tfL at q; omega) | (unfold fewA at q; omega) | (unfold surA at q; omega))).rf rf (by decide) (by decide)
  have r_RDR : RDR σ1 τ := ((hR.re re).fz z (by decide) (by first | exact id | omega | (intro q; dsimp only at q; omega) | (unfold tfA; omega) | (unfold tfL; omega) | (unfold fewA; omega) | (unfold surA; omega))).rf rf (by decide) (by decide)
  have r_held : fI σ1 901 24 = fI τ 1343 61 ∧ aI σ1 25 = aI τ 92 := ⟨by rw [z.fI (f := 901) (by decide), hH.1]; exact ((rf.1 1343 (by omega) (by omega) (by decide)).trans (re.2 1343 (by omega) (by omega)).1).symm, by rw [z.aI (r := 25) (by first | exact id | omega | (intro q; dsimp only at q; omega) | (unfold tfA; omega) | (unfold tfL; omega) | (unfold fewA; omega) | (unfold surA; omega)), hH.2]; exact ((rf.2 92 (by omega) (by omega) (by decide)).trans (re.1 92 (by omega) (by omega)).2.2.1).symm⟩
  have r_TG : TGr σ1 := hT.fz z (by first | exact id | omega | (intro q; dsimp only at q; omega) | (unfold tfA; omega) | (unfold tfL; omega) | (unfold fewA; omega) | (unfold surA; omega)) (by first | exact id | omega | (intro q; dsimp only at q; omega) | (unfold tfA; omega) | (unfold tfL; omega) | (unfold fewA; omega) | (unfold surA; omega))
  have r_LTT : LTT σ1 := (hLT.fz z (by decide) (by first | exact id | omega | (intro q; dsimp only at q; omega) | (unfold tfA; omega) | (unfold tfL; omega) | (unfold fewA; omega) | (unfold surA; omega))).1
  have r_TXT : TXT σ1 := hTX.fz z (by decide) (fun r q e => by have q2 := hw r e; first | exact absurd q id | (dsimp only at q; omega) | omega | (unfold tfA at q; omega) | (unfold fewA at q; omega) | (unfold surA at q; omega))
  have r_LD : LD σ1 := hLD.fz z (by decide)
  have i_MT : MT τ := (iM.re re).rf rf mi (by decide) (by decide)
  have i_RB : RB τ := (iB.re re).rf rf (by decide) (by decide)
  have i_kF : kFirst τ := (iF.re re).rf rf (by decide)
  have i_upL : upL τ := (iU.re re).rf rf (by decide)
  have i_mC : mCards τ := (iC.re re).rf rf (by decide) (by decide)
  have i_WI : WI τ := (iW.re re).rf rf (by decide) (by decide)
  have i_AB : AB τ := (iA.re re).rf rf (by decide) (by decide)
  have i_HI : HIs τ := (iH.re re).rf rf (by decide) (by decide)
  have i_WG : WG τ := (iG.re re).rf rf (by decide) (by decide)
  have i_InN : InN τ := (iN.re re).rf rf (by decide) (by decide)
  have i_InS : InS2 τ := (iS.re re).rf rf (by decide) (by decide)
  have i_lT : lT τ := (iT.re re).rf rf (by decide) (by decide)
  have rel : Rel σ1 τ := ⟨C1, r_now, r_BX, r_LR, r_BG, r_AL, r_DKR, r_RDR, r_held, r_TG, r_LTT, r_TXT, r_LD⟩
  exact ⟨rel.ce (fun r q => hw r (by rw [← z.kd]; exact q)) ce, ⟨i_MT, i_RB, i_kF, i_upL, i_mC, i_WI, i_AB, i_HI, i_WG, i_InN, i_InS, i_lT⟩, S1.ce hb ce⟩
