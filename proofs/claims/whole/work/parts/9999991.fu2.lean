/-! all that holds between two steps holds behind a step: pull, cut -/

theorem LR.up {gs : List Nat} {rs : List Int} {fs : List Nat} {ars als : Int → Prop} {σ σ' τ τ' : Hp} {l : Int} (h : LR l σ τ) (hC : CLay σ) (hl : 0 ≤ l ∧ l < 4) (z : Fz fs ars als σ σ') (h1 : 1401 ∉ fs) (h2 : 1402 ∉ fs) (h3 : 3000 ∉ fs) (hf : ∀ f ∈ lpF, f ∉ fs) (ha : ∀ r, 47 ≤ r → r ≤ 60 → ¬ ars r) (y : Rf gs rs τ τ') (hr : ∀ r ∈ ([74, 75, 76, 77, 78, 79] : List Int), r ∉ rs)
    (hb : ∀ k, 0 ≤ k → k < aI τ 74 l → BxE σ' τ' (aI τ 75 (12 * l + k)) (lat σ 3 (aI τ 75 (12 * l + k)))) : LR l σ' τ' := by
  have y0 := y.2 74 (by omega) (by omega) (hr _ (by simp))
  have y1 := y.2 75 (by omega) (by omega) (hr _ (by simp))
  have y2 := y.2 76 (by omega) (by omega) (hr _ (by simp))
  have y3 := y.2 77 (by omega) (by omega) (hr _ (by simp))
  have y4 := y.2 78 (by omega) (by omega) (hr _ (by simp))
  have y5 := y.2 79 (by omega) (by omega) (hr _ (by simp))
  simp only [lpF, List.forall_mem_cons, List.not_mem_nil, false_implies, implies_true, and_true] at hf
  obtain ⟨f1, f2, f3, f4, f5, f6⟩ := hf
  obtain ⟨⟨⟨g1, g2, g3, g4, g5, g6, g7, g8, g9, g10, g11, g12, g13⟩, g⟩, gb⟩ := h
  have hq := (LoP.k hC hl).2.2.2.1
  have a7 : aI σ' (47 + 4 * l) = aI σ (47 + 4 * l) := z.aI (ha _ (by omega) (by omega))
  have a8 : aI σ' (48 + 4 * l) = aI σ (48 + 4 * l) := z.aI (ha _ (by omega) (by omega))
  unfold LR LoP
  rw [y0, y1, y2, y3, y4, y5, z.elt h1]
  refine ⟨⟨⟨g1.fz z h1 h2 h3, by rw [z.fI h2]; exact g2, g3, by rw [a7]; exact g4, by rw [a7]; exact g5, g6, ?_, by rw [a8]; exact g8, by rw [a8]; exact g9, by rw [z.fI f3]; exact g10, by rw [z.fI f4]; exact g11, by rw [z.fI f5]; exact g12, g13⟩, by rw [z.fI f5]; exact g⟩, hb⟩
  unfold CutE at *
  rw [z.fI f1, z.fI f2, z.fR f6]
  rw [hq] at g7 ⊢
  rw [a7]
  exact g7
theorem BxE_beg {σ τ : Hp} {i p x q v : Int} (h : BxE σ τ i p) (e : i = x ↔ p = q) : BxE (pI σ 313 q v) (qI (pI τ 1300 61 0) 69 x v) i p := by
  have hw : ∀ y o, whl (pI σ 313 q v) y o = whl σ y o := fun _ _ => rfl
  have u : (if p = q then v else fI σ 313 p) = if i = x then v else aI τ 69 i := by
    unfold BxE at h
    by_cases c : i = x
    · rw [if_pos c, if_pos (e.mp c)]
    · rw [if_neg c, if_neg (fun q => c (e.mpr q))]
      exact h.2.2.2.2.2.2.2.2.2.2.2.2.1
  unfold BxE at *
  simp only [hw, nx_pI, kd_pI, ln_pI, fI_pI, fL_pI, fR_pI, aI_pI, aL_pI, aR_pI, nx_qI, kd_qI, ln_qI, fI_qI, fL_qI, fR_qI, aI_qI, aL_qI, aR_qI, Nat.reduceEqDiff, false_and, if_false, true_and, Int.reduceEq]
  obtain ⟨g0, g1, g2, g3, g4, g5, g6, g7, g8, g9, g10, g11, g12, g13⟩ := h
  exact ⟨g0, g1, g2, g3, g4, g5, g6, g7, g8, g9, g10, g11, u, g13⟩
theorem BX_beg {σ τ : Hp} {x v : Int} (h : BX σ τ) (hx : 0 ≤ x ∧ x < fI τ 1302 61) : BX (pI σ 313 (lat σ 3 x) v) (qI (pI τ 1300 61 0) 69 x v) := by
  have z : Fz [313] noR noR σ (pI σ 313 (lat σ 3 x) v) := Fz_pI (fs := [313]) _ _ _ (by decide)
  refine ⟨h.1.fz z (by decide) (by decide) (by decide), by rw [z.fI (f := 1402) (by decide)]; exact h.2.1, fun i a b => ?_⟩
  have b : i < fI τ 1302 61 := b
  rw [z.elt (by decide)]
  exact BxE_beg (h.2.2 i a b) ⟨fun e => by rw [e], fun e => h.inj ⟨a, b⟩ hx e⟩
theorem LR_beg {σ τ : Hp} {l x v : Int} (h : LR l σ τ) (hX : BX σ τ) (hB : RB τ) (hC : CLay σ) (hl : 0 ≤ l ∧ l < 4) (hx : 0 ≤ x ∧ x < fI τ 1302 61) (hI : MI τ) : LR l (pI σ 313 (lat σ 3 x) v) (qI (pI τ 1300 61 0) 69 x v) := by
  have z : Fz [313] noR noR σ (pI σ 313 (lat σ 3 x) v) := Fz_pI (fs := [313]) _ _ _ (by decide)
  have y : Rf [1300] [69] τ (qI (pI τ 1300 61 0) 69 x v) := (Rf_thr _ _ τ 0 (by decide)).q (by decide)
  refine h.up hC hl z (by decide) (by decide) (by decide) (by decide) (fun r _ _ => id) y (by decide) fun k a b => ?_
  have q1 := (hB.1 l k hl.1 hl.2 a b).1
  have q2 := hI.boxAt_ (12 * l + k)
  exact BxE_beg (h.2 k a b) ⟨fun e => by rw [e], fun e => hX.inj ⟨q2.1, q1⟩ hx e⟩
theorem BxE_wat {σ τ : Hp} {i p x q v : Int} (h : BxE σ τ i p) (e : i = x ↔ p = q) : BxE (pI σ 312 q v) (qI (pI τ 1300 61 0) 70 x v) i p := by
  have hw : ∀ y o, whl (pI σ 312 q v) y o = whl σ y o := fun _ _ => rfl
  have u : (if p = q then v else fI σ 312 p) = if i = x then v else aI τ 70 i := by
    unfold BxE at h
    by_cases c : i = x
    · rw [if_pos c, if_pos (e.mp c)]
    · rw [if_neg c, if_neg (fun q => c (e.mpr q))]
      exact h.2.2.2.2.2.2.2.2.2.2.2.1
  unfold BxE at *
  simp only [hw, nx_pI, kd_pI, ln_pI, fI_pI, fL_pI, fR_pI, aI_pI, aL_pI, aR_pI, nx_qI, kd_qI, ln_qI, fI_qI, fL_qI, fR_qI, aI_qI, aL_qI, aR_qI, Nat.reduceEqDiff, false_and, if_false, true_and, Int.reduceEq]
  obtain ⟨g0, g1, g2, g3, g4, g5, g6, g7, g8, g9, g10, g11, g12, g13⟩ := h
  exact ⟨g0, g1, g2, g3, g4, g5, g6, g7, g8, g9, g10, u, g12, g13⟩
theorem BX_wat {σ τ : Hp} {x v : Int} (h : BX σ τ) (hx : 0 ≤ x ∧ x < fI τ 1302 61) : BX (pI σ 312 (lat σ 3 x) v) (qI (pI τ 1300 61 0) 70 x v) := by
  have z : Fz [312] noR noR σ (pI σ 312 (lat σ 3 x) v) := Fz_pI (fs := [312]) _ _ _ (by decide)
  refine ⟨h.1.fz z (by decide) (by decide) (by decide), by rw [z.fI (f := 1402) (by decide)]; exact h.2.1, fun i a b => ?_⟩
  have b : i < fI τ 1302 61 := b
  rw [z.elt (by decide)]
  exact BxE_wat (h.2.2 i a b) ⟨fun e => by rw [e], fun e => h.inj ⟨a, b⟩ hx e⟩
theorem LR_wat {σ τ : Hp} {l x v : Int} (h : LR l σ τ) (hX : BX σ τ) (hB : RB τ) (hC : CLay σ) (hl : 0 ≤ l ∧ l < 4) (hx : 0 ≤ x ∧ x < fI τ 1302 61) (hI : MI τ) : LR l (pI σ 312 (lat σ 3 x) v) (qI (pI τ 1300 61 0) 70 x v) := by
  have z : Fz [312] noR noR σ (pI σ 312 (lat σ 3 x) v) := Fz_pI (fs := [312]) _ _ _ (by decide)
  have y : Rf [1300] [70] τ (qI (pI τ 1300 61 0) 70 x v) := (Rf_thr _ _ τ 0 (by decide)).q (by decide)
  refine h.up hC hl z (by decide) (by decide) (by decide) (by decide) (fun r _ _ => id) y (by decide) fun k a b => ?_
  have q1 := (hB.1 l k hl.1 hl.2 a b).1
  have q2 := hI.boxAt_ (12 * l + k)
  exact BxE_wat (h.2 k a b) ⟨fun e => by rw [e], fun e => hX.inj ⟨q2.1, q1⟩ hx e⟩
theorem fu_pull1 {b n : Int} {σ : Hp} {x t : Int} (hF : Fu b n σ) (hb : b < 0) (hw : ∀ r, kd σ r = 21 → r < 0) (ht : t = fI σ 1301 61 + 1) (c : 0 ≤ x ∧ x < fI σ 1302 61) (c2 : aI σ 70 x = 0) : Fu b n (qI (pI (pI σ 313 (lat σ 3 x) t) 1300 61 0) 69 x (fI (pI σ 313 (lat σ 3 x) t) 1301 61 + 1)) := by
  obtain ⟨⟨hC, hnw, hX, hL, hG, hA, hK, hR, hH, hT, hLT, hTX, hLD⟩, ⟨iM, iB, iF, iU, iC, iW, iA, iH, iG, iN, iS, iT⟩, hS⟩ := hF
  have z : Fz [313] noR noR σ (pI σ 313 (lat σ 3 x) t) := Fz_pI (fs := [313]) _ _ _ (by decide)
  have re : RE σ (pI σ 313 (lat σ 3 x) t) := z.re (by decide) (fun r q => by first | exact absurd q id | (dsimp only at q; omega) | omega | (unfold tfA at q; omega) | (unfold tfL at q; omega)) (fun r q => by first | exact absurd q id | (dsimp only at q; omega) | omega | (unfold tfA at q; omega) | (unfold tfL at q; omega))
  have re0 := re
  have e8 : fI (pI σ 313 (lat σ 3 x) t) 1301 61 + 1 = t := (congrArg (fun z : Int => z + 1) (re.2 1301 (by omega) (by omega)).1).trans ht.symm
  have bx : fI (pI σ 313 (lat σ 3 x) t) 1302 61 = fI σ 1302 61 := (re.2 1302 (by omega) (by omega)).1
  have rB := iB.re re
  obtain ⟨σ1, e1⟩ : ∃ ρ9 : Hp, ρ9 = pI σ 313 (lat σ 3 x) t := ⟨_, rfl⟩
  have e8' := e8
  have bx' := bx
  rw [← e1] at z re e8 ⊢
  have C1 : CLay σ1 := hC.fz z (by decide)
  have n1 : fI σ1 1210 1 = fI σ1 1301 61 := by
    rw [z.fI (f := 1210) (by decide), hnw]
    exact (re.2 1301 (by omega) (by omega)).1.symm
  have iM1 : MI σ1 := MI_RE re iM.1
  obtain ⟨τ, e2⟩ : ∃ ρ9 : Hp, ρ9 = qI (pI σ1 1300 61 0) 69 x (fI σ1 1301 61 + 1) := ⟨_, rfl⟩
  rw [← e2] 
  have rf : Rf [1300] [69] σ1 τ := by
    rw [e2]
    exact (Rf_thr _ _ σ1 0 (by decide)).q (by decide)
  have ce : CE σ1 τ := by
    rw [e2]
    exact (CE_pI σ1 61 0 (by decide)).tr (CE_qI _ _ _ (by decide))
  have mi : MI τ := by
    rw [e2]
    exact MI_began_q (MI_fre iM1 (by decide)) (by have := iM1.now_s; omega)
  have S1 : Scp σ1 b n := by
    unfold Scp at *
    rw [z.kd, z.ln, z.aI (r := b) (by first | exact id | omega | (intro q; dsimp only at q; omega) | (unfold tfA; omega))]
    exact hS
  have r_now : fI σ1 1210 1 = fI τ 1301 61 := n1.trans (rf.1 1301 (by omega) (by omega) (by decide)).symm
  have r_BX : BX σ1 τ := by rw [e2, e8, e1]; exact BX_beg (hX.re re0) (by rw [bx]; exact c)
  have r_LR : ∀ l, 0 ≤ l → l < 4 → LR l σ1 τ := fun l a b => by rw [e2, e8, e1]; exact LR_beg ((hL l a b).re re0) (hX.re re0) rB hC ⟨a, b⟩ (by rw [bx]; exact c) (MI_RE re0 iM.1)
  have r_BG : BG σ1 τ := ((hG.re re).fz z (by decide) (by first | exact id | omega | (intro q; dsimp only at q; omega) | (unfold tfA; omega) | (unfold tfL; omega)) (by first | exact id | omega | (intro q; dsimp only at q; omega) | (unfold tfA; omega) | (unfold tfL; omega))).rf rf (by decide) (by decide)
  have r_AL : AL σ1 τ := ((hA.re re).fz z (by decide) (by decide) (by decide) (by decide) (by decide) (fun r q => by first | exact absurd q id | (dsimp only at q; omega) | omega | (unfold tfA at q; omega) | (unfold tfL at q; omega))).rf rf (by decide) (by decide)
  have r_DKR : DKR σ1 τ := ((hK.re re).fz z (by decide) (fun r q => by first | exact absurd q id | (dsimp only at q; omega) | omega | (unfold tfA at q; omega) | (unfold tfL at q; omega))).rf rf (by decide) (by decide)
  have r_RDR : RDR σ1 τ := ((hR.re re).fz z (by decide) (by first | exact id | omega | (intro q; dsimp only at q; omega) | (unfold tfA; omega) | (unfold tfL; omega))).rf rf (by decide) (by decide)
  have r_held : fI σ1 901 24 = fI τ 1343 61 ∧ aI σ1 25 = aI τ 92 := ⟨by rw [z.fI (f := 901) (by decide), hH.1]; exact ((rf.1 1343 (by omega) (by omega) (by decide)).trans (re.2 1343 (by omega) (by omega)).1).symm, by rw [z.aI (r := 25) (by first | exact id | omega | (intro q; dsimp only at q; omega) | (unfold tfA; omega) | (unfold tfL; omega)), hH.2]; exact ((rf.2 92 (by omega) (by omega) (by decide)).trans (re.1 92 (by omega) (by omega)).2.2.1).symm⟩
  have r_TG : TGr σ1 := hT.fz z (by first | exact id | omega | (intro q; dsimp only at q; omega) | (unfold tfA; omega) | (unfold tfL; omega)) (by first | exact id | omega | (intro q; dsimp only at q; omega) | (unfold tfA; omega) | (unfold tfL; omega))
  have r_LTT : LTT σ1 := (hLT.fz z (by decide) (by first | exact id | omega | (intro q; dsimp only at q; omega) | (unfold tfA; omega) | (unfold tfL; omega))).1
  have r_TXT : TXT σ1 := hTX.fz z (by decide) (fun r q e => by have q2 := hw r e; first | exact absurd q id | (dsimp only at q; omega) | omega | (unfold tfA at q; omega))
  have r_LD : LD σ1 := hLD.fz z (by decide)
  have i_MT : MT τ := by
    have h0 := iM.re re
    have f1 := rf.1 1301 (by omega) (by omega) (by decide)
    have a1 := rf.2 78 (by omega) (by omega) (by decide)
    refine ⟨mi, ?_, fun j => ?_⟩
    · rw [f1, a1]
      exact h0.2.1
    · rw [f1, e2, aI_qI]
      split
      · omega
      · exact h0.2.2 j
  have i_RB : RB τ := (iB.re re).rf rf (by decide) (by decide)
  have i_kF : kFirst τ := (iF.re re).rf rf (by decide)
  have i_upL : upL τ := (iU.re re).rf rf (by decide)
  have i_mC : mCards τ := (iC.re re).rf rf (by decide) (by decide)
  have i_WI : WI τ := (iW.re re).rf rf (by decide) (by decide)
  have i_AB : AB τ := (iA.re re).rf rf (by decide) (by decide)
  have i_HI : HIs τ := (iH.re re).rf rf (by decide) (by decide)
  have i_WG : WG τ := by
    have h0 := iG.re re
    have f1 := rf.1 1301 (by omega) (by omega) (by decide)
    have f2 := rf.1 1302 (by omega) (by omega) (by decide)
    have a1 := rf.2 70 (by omega) (by omega) (by decide)
    have a2 := rf.2 73 (by omega) (by omega) (by decide)
    have w0 := (re.1 70 (by omega) (by omega)).2.2.1
    intro j q1 q2 q3
    rw [f2] at q2
    rw [a1] at q3
    have hj : ¬ j = x := fun q => q3 (by rw [q, w0]; exact c2)
    have hb := h0 j q1 q2 q3
    have e3 : aI τ 69 j = aI σ1 69 j := by
      rw [e2, aI_qI, if_neg (fun q => hj q.2)]
      rfl
    unfold mGoing mGo at *
    rw [f1, a2, e3]
    exact hb
  have i_InN : InN τ := (iN.re re).rf rf (by decide) (by decide)
  have i_InS : InS2 τ := (iS.re re).rf rf (by decide) (by decide)
  have i_lT : lT τ := by
    obtain ⟨t1, t2⟩ := iT.re re
    have b3 := (re.2 1302 (by omega) (by omega)).1
    refine ⟨?_, fun j q q32 => ?_⟩
    · unfold lT0
      rw [rf.1 1352 (by omega) (by omega) (by decide), rf.2 96 (by omega) (by omega) (by decide)]
      exact t1
    · rw [rf.1 1302 (by omega) (by omega) (by decide)] at q
      rw [e2, aI_qI, if_neg (fun u => by omega)]
      exact t2 j q q32
  have rel : Rel σ1 τ := ⟨C1, r_now, r_BX, r_LR, r_BG, r_AL, r_DKR, r_RDR, r_held, r_TG, r_LTT, r_TXT, r_LD⟩
  exact ⟨rel.ce (fun r q => hw r (by rw [← z.kd]; exact q)) ce, ⟨i_MT, i_RB, i_kF, i_upL, i_mC, i_WI, i_AB, i_HI, i_WG, i_InN, i_InS, i_lT⟩, S1.ce hb ce⟩
theorem fu_pull2 {b n : Int} {σ : Hp} {x : Int} (hF : Fu b n σ) (hb : b < 0) (hw : ∀ r, kd σ r = 21 → r < 0) (c : 0 ≤ x ∧ x < fI σ 1302 61) (c2 : ¬ mGo σ x (fI σ 1301 61) ∧ ¬ aI σ 69 x = fI σ 1301 61 + 1) : Fu b n (qI (pI (pI σ 312 (lat σ 3 x) 1) 1300 61 0) 70 x 1) := by
  obtain ⟨⟨hC, hnw, hX, hL, hG, hA, hK, hR, hH, hT, hLT, hTX, hLD⟩, ⟨iM, iB, iF, iU, iC, iW, iA, iH, iG, iN, iS, iT⟩, hS⟩ := hF
  have z : Fz [312] noR noR σ (pI σ 312 (lat σ 3 x) 1) := Fz_pI (fs := [312]) _ _ _ (by decide)
  have re : RE σ (pI σ 312 (lat σ 3 x) 1) := z.re (by decide) (fun r q => by first | exact absurd q id | (dsimp only at q; omega) | omega | (unfold tfA at q; omega) | (unfold tfL at q; omega)) (fun r q => by first | exact absurd q id | (dsimp only at q; omega) | omega | (unfold tfA at q; omega) | (unfold tfL at q; omega))
  have re0 := re
  have bx : fI (pI σ 312 (lat σ 3 x) 1) 1302 61 = fI σ 1302 61 := (re.2 1302 (by omega) (by omega)).1
  have rB := iB.re re
  obtain ⟨σ1, e1⟩ : ∃ ρ9 : Hp, ρ9 = pI σ 312 (lat σ 3 x) 1 := ⟨_, rfl⟩
  rw [← e1] at z re  ⊢
  have C1 : CLay σ1 := hC.fz z (by decide)
  have n1 : fI σ1 1210 1 = fI σ1 1301 61 := by
    rw [z.fI (f := 1210) (by decide), hnw]
    exact (re.2 1301 (by omega) (by omega)).1.symm
  have iM1 : MI σ1 := MI_RE re iM.1
  obtain ⟨τ, e2⟩ : ∃ ρ9 : Hp, ρ9 = qI (pI σ1 1300 61 0) 70 x 1 := ⟨_, rfl⟩
  rw [← e2] 
  have rf : Rf [1300] [70] σ1 τ := by
    rw [e2]
    exact (Rf_thr _ _ σ1 0 (by decide)).q (by decide)
  have ce : CE σ1 τ := by
    rw [e2]
    exact (CE_pI σ1 61 0 (by decide)).tr (CE_qI _ _ _ (by decide))
  have mi : MI τ := by
    rw [e2]
    exact MI_waits_q (MI_fre iM1 (by decide)) (by omega)
  have S1 : Scp σ1 b n := by
    unfold Scp at *
    rw [z.kd, z.ln, z.aI (r := b) (by first | exact id | omega | (intro q; dsimp only at q; omega) | (unfold tfA; omega))]
    exact hS
  have r_now : fI σ1 1210 1 = fI τ 1301 61 := n1.trans (rf.1 1301 (by omega) (by omega) (by decide)).symm
  have r_BX : BX σ1 τ := by rw [e2, e1]; exact BX_wat (hX.re re0) (by rw [bx]; exact c)
  have r_LR : ∀ l, 0 ≤ l → l < 4 → LR l σ1 τ := fun l a b => by rw [e2, e1]; exact LR_wat ((hL l a b).re re0) (hX.re re0) rB hC ⟨a, b⟩ (by rw [bx]; exact c) (MI_RE re0 iM.1)
  have r_BG : BG σ1 τ := ((hG.re re).fz z (by decide) (by first | exact id | omega | (intro q; dsimp only at q; omega) | (unfold tfA; omega) | (unfold tfL; omega)) (by first | exact id | omega | (intro q; dsimp only at q; omega) | (unfold tfA; omega) | (unfold tfL; omega))).rf rf (by decide) (by decide)
  have r_AL : AL σ1 τ := ((hA.re re).fz z (by decide) (by decide) (by decide) (by decide) (by decide) (fun r q => by first | exact absurd q id | (dsimp only at q; omega) | omega | (unfold tfA at q; omega) | (unfold tfL at q; omega))).rf rf (by decide) (by decide)
  have r_DKR : DKR σ1 τ := ((hK.re re).fz z (by decide) (fun r q => by first | exact absurd q id | (dsimp only at q; omega) | omega | (unfold tfA at q; omega) | (unfold tfL at q; omega))).rf rf (by decide) (by decide)
  have r_RDR : RDR σ1 τ := ((hR.re re).fz z (by decide) (by first | exact id | omega | (intro q; dsimp only at q; omega) | (unfold tfA; omega) | (unfold tfL; omega))).rf rf (by decide) (by decide)
  have r_held : fI σ1 901 24 = fI τ 1343 61 ∧ aI σ1 25 = aI τ 92 := ⟨by rw [z.fI (f := 901) (by decide), hH.1]; exact ((rf.1 1343 (by omega) (by omega) (by decide)).trans (re.2 1343 (by omega) (by omega)).1).symm, by rw [z.aI (r := 25) (by first | exact id | omega | (intro q; dsimp only at q; omega) | (unfold tfA; omega) | (unfold tfL; omega)), hH.2]; exact ((rf.2 92 (by omega) (by omega) (by decide)).trans (re.1 92 (by omega) (by omega)).2.2.1).symm⟩
  have r_TG : TGr σ1 := hT.fz z (by first | exact id | omega | (intro q; dsimp only at q; omega) | (unfold tfA; omega) | (unfold tfL; omega)) (by first | exact id | omega | (intro q; dsimp only at q; omega) | (unfold tfA; omega) | (unfold tfL; omega))
  have r_LTT : LTT σ1 := (hLT.fz z (by decide) (by first | exact id | omega | (intro q; dsimp only at q; omega) | (unfold tfA; omega) | (unfold tfL; omega))).1
  have r_TXT : TXT σ1 := hTX.fz z (by decide) (fun r q e => by have q2 := hw r e; first | exact absurd q id | (dsimp only at q; omega) | omega | (unfold tfA at q; omega))
  have r_LD : LD σ1 := hLD.fz z (by decide)
  have i_MT : MT τ := (iM.re re).rf rf mi (by decide) (by decide)
  have i_RB : RB τ := (iB.re re).rf rf (by decide) (by decide)
  have i_kF : kFirst τ := (iF.re re).rf rf (by decide)
  have i_upL : upL τ := (iU.re re).rf rf (by decide)
  have i_mC : mCards τ := (iC.re re).rf rf (by decide) (by decide)
  have i_WI : WI τ := (iW.re re).rf rf (by decide) (by decide)
  have i_AB : AB τ := (iA.re re).rf rf (by decide) (by decide)
  have i_HI : HIs τ := (iH.re re).rf rf (by decide) (by decide)
  have i_WG : WG τ := by
    have h0 := iG.re re
    have f1 := rf.1 1301 (by omega) (by omega) (by decide)
    have f2 := rf.1 1302 (by omega) (by omega) (by decide)
    have a1 := rf.2 69 (by omega) (by omega) (by decide)
    have a2 := rf.2 73 (by omega) (by omega) (by decide)
    have b1 := (re.1 69 (by omega) (by omega)).2.2.1
    have b2 := (re.1 73 (by omega) (by omega)).2.2.1
    have b3 := (re.2 1301 (by omega) (by omega)).1
    intro j q1 q2 q3
    rw [f2] at q2
    by_cases e : j = x
    · rw [e]
      unfold mGoing mGo at *
      rw [f1, a1, a2, b1, b2, b3]
      exact fun q => q.elim c2.1 c2.2
    · have e3 : aI τ 70 j = aI σ1 70 j := by
        rw [e2, aI_qI, if_neg (fun q => e q.2)]
        rfl
      rw [e3] at q3
      have hb := h0 j q1 q2 q3
      unfold mGoing mGo at *
      rw [f1, a1, a2]
      exact hb
  have i_InN : InN τ := by
    obtain ⟨n0, n2, n3, n4⟩ := iN.re re
    have f0 := rf.1 1301 (by omega) (by omega) (by decide)
    have f1 := rf.1 1371 (by omega) (by omega) (by decide)
    have f2 := rf.1 1302 (by omega) (by omega) (by decide)
    have f3 := rf.1 1322 (by omega) (by omega) (by decide)
    have f4 := rf.1 1321 (by omega) (by omega) (by decide)
    have a1 := rf.2 72 (by omega) (by omega) (by decide)
    have a2 := rf.2 73 (by omega) (by omega) (by decide)
    have a3 := rf.2 112 (by omega) (by omega) (by decide)
    have a4 := rf.2 113 (by omega) (by omega) (by decide)
    have a5 := rf.2 114 (by omega) (by omega) (by decide)
    have a6 := rf.2 115 (by omega) (by omega) (by decide)
    have b3 := (re.2 1302 (by omega) (by omega)).1
    refine ⟨fun j q => ?_, ?_, ?_, ?_⟩
    · rw [f2] at q
      have e3 : aI τ 70 j = aI σ1 70 j := by
        rw [e2, aI_qI, if_neg (fun q => by omega)]
        rfl
      rw [e3, a1, a2]
      exact n0 j q
    · rw [f1, a3, a4, a5, a6]
      exact n2
    · rw [f3, f4]
      exact n3
    · rw [f0, a5]
      exact n4
  have i_InS : InS2 τ := (iS.re re).rf rf (by decide) (by decide)
  have i_lT : lT τ := (iT.re re).rf rf (by decide) (by decide)
  have rel : Rel σ1 τ := ⟨C1, r_now, r_BX, r_LR, r_BG, r_AL, r_DKR, r_RDR, r_held, r_TG, r_LTT, r_TXT, r_LD⟩
  exact ⟨rel.ce (fun r q => hw r (by rw [← z.kd]; exact q)) ce, ⟨i_MT, i_RB, i_kF, i_upL, i_mC, i_WI, i_AB, i_HI, i_WG, i_InN, i_InS, i_lT⟩, S1.ce hb ce⟩
theorem BxE.rf {gs : List Nat} {rs : List Int} {σ τ τ' : Hp} {i p : Int} (h : BxE σ τ i p) (z : Rf gs rs τ τ') (ha : ∀ r ∈ ([62, 63, 64, 65, 66, 67, 68, 69, 70, 71, 72, 73] : List Int), r ∉ rs) : BxE σ τ' i p := by
  have g0 := z.2 62 (by omega) (by omega) (ha _ (by simp))
  have g1 := z.2 63 (by omega) (by omega) (ha _ (by simp))
  have g2 := z.2 64 (by omega) (by omega) (ha _ (by simp))
  have g3 := z.2 65 (by omega) (by omega) (ha _ (by simp))
  have g4 := z.2 66 (by omega) (by omega) (ha _ (by simp))
  have g5 := z.2 67 (by omega) (by omega) (ha _ (by simp))
  have g6 := z.2 68 (by omega) (by omega) (ha _ (by simp))
  have g7 := z.2 69 (by omega) (by omega) (ha _ (by simp))
  have g8 := z.2 70 (by omega) (by omega) (ha _ (by simp))
  have g9 := z.2 71 (by omega) (by omega) (ha _ (by simp))
  have g10 := z.2 72 (by omega) (by omega) (ha _ (by simp))
  have g11 := z.2 73 (by omega) (by omega) (ha _ (by simp))
  unfold BxE at *
  simp only [g0, g1, g2, g3, g4, g5, g6, g7, g8, g9, g10, g11]
  exact h
theorem LR_cut {σ τ : Hp} {l k w y f e : Int} (h : LR k σ τ) (hC : CLay σ) (hl : 0 ≤ l ∧ l < 4) (hk : 0 ≤ k ∧ k < 4) (hw : 0 ≤ w ∧ w ≤ aI τ 74 l) (hm : aI τ 74 l ≤ 12) (hy : y = 0 ∨ y = 1) (hc : CutE (qI σ (47 + 4 * l) w y) (45 + 4 * l) 13 f e) : LR k (E2 (qI σ (47 + 4 * l) w y) (45 + 4 * l) f e) (qI (pI τ 1300 61 0) 76 (13 * l + w) y) := by
  have z : Fz [1006, 1007] (fun r => r = 47 + 4 * l) noR σ (E2 (qI σ (47 + 4 * l) w y) (45 + 4 * l) f e) := ((Fz_qI (ars := fun r => r = 47 + 4 * l) (r := 47 + 4 * l) _ _ _ rfl).tr (Fz_pI (fs := [1006, 1007]) (f := 1006) _ _ _ (by decide))).tr (Fz_pI (fs := [1006, 1007]) (f := 1007) _ _ _ (by decide))
  have y0 : Rf [1300] [76] τ (qI (pI τ 1300 61 0) 76 (13 * l + w) y) := (Rf_thr _ _ τ 0 (by decide)).q (by decide)
  obtain ⟨⟨⟨g1, g2, g3, g4, g5, g6, g7, g8, g9, g10, g11, g12, g13⟩, g⟩, gb⟩ := h
  have hq := (LoP.k hC hk).2.2.2.1
  have hql := (LoP.k hC hl).2.2.2.1
  have a8 : aI (E2 (qI σ (47 + 4 * l) w y) (45 + 4 * l) f e) (48 + 4 * k) = aI σ (48 + 4 * k) := z.aI (fun q => by first | omega | (dsimp only at q; omega))
  have a7 : ∀ v, aI (E2 (qI σ (47 + 4 * l) w y) (45 + 4 * l) f e) (47 + 4 * k) v = if k = l ∧ v = w then y else aI σ (47 + 4 * k) v := fun v => by
    unfold E2
    rw [aI_pI, aI_pI, aI_qI]
    by_cases q : k = l
    · rw [q]
      simp
    · rw [if_neg (by omega), if_neg (by omega)]
  have i7 : ∀ v, 0 ≤ v → v ≤ 12 → aI (qI (pI τ 1300 61 0) 76 (13 * l + w) y) 76 (13 * k + v) = if k = l ∧ v = w then y else aI τ 76 (13 * k + v) := fun v v1 v2 => by
    rw [aI_qI]
    by_cases q : k = l ∧ v = w
    · rw [if_pos q, if_pos ⟨rfl, by rw [q.1, q.2]⟩]
    · rw [if_neg q, if_neg (fun u => q (by have := u.2; omega))]
      rfl
  have b0 := y0.2 74 (by omega) (by omega) (by decide)
  have b1 := y0.2 75 (by omega) (by omega) (by decide)
  have b3 := y0.2 77 (by omega) (by omega) (by decide)
  have b4 := y0.2 78 (by omega) (by omega) (by decide)
  have b5 := y0.2 79 (by omega) (by omega) (by decide)
  unfold LR LoP
  rw [b0, b1, b3, b4, b5, z.elt (by decide)]
  refine ⟨⟨⟨g1.fz z (by decide) (by decide) (by decide), by rw [z.fI (f := 1402) (by decide)]; exact g2, g3, fun v => ?_, fun v v1 v2 => ?_, fun v v1 v2 => ?_, ?_, by rw [a8]; exact g8, by rw [a8]; exact g9, by rw [z.fI (f := 1003) (by decide)]; exact g10, by rw [z.fI (f := 1004) (by decide)]; exact g11, by rw [z.fI (f := 1005) (by decide)]; exact g12, g13⟩, by rw [z.fI (f := 1005) (by decide)]; exact g⟩, fun j q1 q2 => ((gb j q1 q2).fz z (by decide)).rf y0 (by decide)⟩
  · rw [a7]
    split
    · omega
    · exact g4 v
  · rw [a7, i7 v v1 v2]
    split
    · rfl
    · exact g5 v v1 v2
  · have v3 : 0 ≤ v := by
      by_cases q : k = l
      · rw [q] at v1
        omega
      · by_cases q2 : 0 ≤ v
        · exact q2
        · have := (LoP.k hC hk).1
          exfalso
          have m0 : 0 ≤ aI τ 74 k := by rw [← g2]; exact g1.2.2.1.1
          omega
    rw [i7 v v3 v2, if_neg (fun q => by rw [q.1] at v1; omega)]
    exact g6 v v1 v2
  · by_cases q : k = l
    · rw [q]
      unfold E2
      unfold CutE at hc ⊢
      simp only [nx_pI, kd_pI, ln_pI, fI_pI, fL_pI, fR_pI, aI_pI, aL_pI, aR_pI, nx_qI, kd_qI, ln_qI, fI_qI, fL_qI, fR_qI, aI_qI, aL_qI, aR_qI, Nat.reduceEqDiff, false_and, if_false, true_and, Int.reduceEq] at hc ⊢
      simp only [if_true]
      exact hc
    · have c1 : fI (E2 (qI σ (47 + 4 * l) w y) (45 + 4 * l) f e) 1006 (45 + 4 * k) = fI σ 1006 ((45 + 4 * k)) := by
        unfold E2
        simp only [nx_pI, kd_pI, ln_pI, fI_pI, fL_pI, fR_pI, aI_pI, aL_pI, aR_pI, nx_qI, kd_qI, ln_qI, fI_qI, fL_qI, fR_qI, aI_qI, aL_qI, aR_qI, Nat.reduceEqDiff, false_and, if_false, true_and, Int.reduceEq]
        rw [if_neg (by omega)]
      have c2 : fI (E2 (qI σ (47 + 4 * l) w y) (45 + 4 * l) f e) 1007 (45 + 4 * k) = fI σ 1007 ((45 + 4 * k)) := by
        unfold E2
        simp only [nx_pI, kd_pI, ln_pI, fI_pI, fL_pI, fR_pI, aI_pI, aL_pI, aR_pI, nx_qI, kd_qI, ln_qI, fI_qI, fL_qI, fR_qI, aI_qI, aL_qI, aR_qI, Nat.reduceEqDiff, false_and, if_false, true_and, Int.reduceEq]
        rw [if_neg (by omega)]
      have c3 : aI (E2 (qI σ (47 + 4 * l) w y) (45 + 4 * l) f e) (47 + 4 * k) = aI σ (47 + 4 * k) := z.aI (fun u => by first | omega | (dsimp only at u; omega))
      unfold CutE at g7 ⊢
      rw [c1, c2, z.fR (f := 1001) (by decide)]
      rw [hq] at g7 ⊢
      rw [c3]
      exact g7
theorem fu_cut {b n : Int} {σ : Hp} {l w y f e : Int} (hF : Fu b n σ) (hb : b < 0) (hw : ∀ r, kd σ r = 21 → r < 0) (hl : 0 ≤ l ∧ l < 4) (hy : y = 0 ∨ y = 1) (c : 0 ≤ w ∧ w ≤ aI σ 74 l) (hc : CutE (qI σ (47 + 4 * l) w y) (45 + 4 * l) 13 f e) : Fu b n (qI (pI (E2 (qI σ (47 + 4 * l) w y) (45 + 4 * l) f e) 1300 61 0) 76 (13 * l + w) y) := by
  obtain ⟨⟨hC, hnw, hX, hL, hG, hA, hK, hR, hH, hT, hLT, hTX, hLD⟩, ⟨iM, iB, iF, iU, iC, iW, iA, iH, iG, iN, iS, iT⟩, hS⟩ := hF
  have z : Fz [1006, 1007] (fun r => r = 47 + 4 * l) noR σ (E2 (qI σ (47 + 4 * l) w y) (45 + 4 * l) f e) := ((Fz_qI (ars := fun r => r = 47 + 4 * l) (r := 47 + 4 * l) _ _ _ rfl).tr (Fz_pI (fs := [1006, 1007]) (f := 1006) _ _ _ (by decide))).tr (Fz_pI (fs := [1006, 1007]) (f := 1007) _ _ _ (by decide))
  have re : RE σ (E2 (qI σ (47 + 4 * l) w y) (45 + 4 * l) f e) := z.re (by decide) (fun r q => by first | exact absurd q id | (dsimp only at q; omega) | omega | (unfold tfA at q; omega) | (unfold tfL at q; omega)) (fun r q => by first | exact absurd q id | (dsimp only at q; omega) | omega | (unfold tfA at q; omega) | (unfold tfL at q; omega))
  have re0 := re
  have mn : aI (E2 (qI σ (47 + 4 * l) w y) (45 + 4 * l) f e) 74 l = aI σ 74 l := congrFun (re.1 74 (by omega) (by omega)).2.2.1 l
  obtain ⟨σ1, e1⟩ : ∃ ρ9 : Hp, ρ9 = E2 (qI σ (47 + 4 * l) w y) (45 + 4 * l) f e := ⟨_, rfl⟩
  rw [← e1] at z re  ⊢
  have C1 : CLay σ1 := hC.fz z (by decide)
  have n1 : fI σ1 1210 1 = fI σ1 1301 61 := by
    rw [z.fI (f := 1210) (by decide), hnw]
    exact (re.2 1301 (by omega) (by omega)).1.symm
  have iM1 : MI σ1 := MI_RE re iM.1
  obtain ⟨τ, e2⟩ : ∃ ρ9 : Hp, ρ9 = qI (pI σ1 1300 61 0) 76 (13 * l + w) y := ⟨_, rfl⟩
  rw [← e2] 
  have rf : Rf [1300] [76] σ1 τ := by
    rw [e2]
    exact (Rf_thr _ _ σ1 0 (by decide)).q (by decide)
  have ce : CE σ1 τ := by
    rw [e2]
    exact (CE_pI σ1 61 0 (by decide)).tr (CE_qI _ _ _ (by decide))
  have mi : MI τ := by
    rw [e2]
    exact MI_isCut_q (MI_fre iM1 (by decide)) (by omega)
  have S1 : Scp σ1 b n := by
    unfold Scp at *
    rw [z.kd, z.ln, z.aI (r := b) (by first | exact id | omega | (intro q; dsimp only at q; omega) | (unfold tfA; omega))]
    exact hS
  have r_now : fI σ1 1210 1 = fI τ 1301 61 := n1.trans (rf.1 1301 (by omega) (by omega) (by decide)).symm
  have r_BX : BX σ1 τ := ((hX.re re).fz z (by decide) (by decide) (by decide) (by decide)).rf rf (by decide) (by decide)
  have r_LR : ∀ l, 0 ≤ l → l < 4 → LR l σ1 τ := fun k a b => by rw [e2, e1]; exact LR_cut ((hL k a b).re re0) hC hl ⟨a, b⟩ (by rw [mn]; exact c) (by rw [mn]; exact (iM.1.many_ l).2) hy hc
  have r_BG : BG σ1 τ := ((hG.re re).fz z (by decide) (by first | exact id | omega | (intro q; dsimp only at q; omega) | (unfold tfA; omega) | (unfold tfL; omega)) (by first | exact id | omega | (intro q; dsimp only at q; omega) | (unfold tfA; omega) | (unfold tfL; omega))).rf rf (by decide) (by decide)
  have r_AL : AL σ1 τ := ((hA.re re).fz z (by decide) (by decide) (by decide) (by decide) (by decide) (fun r q => by first | exact absurd q id | (dsimp only at q; omega) | omega | (unfold tfA at q; omega) | (unfold tfL at q; omega))).rf rf (by decide) (by decide)
  have r_DKR : DKR σ1 τ := ((hK.re re).fz z (by decide) (fun r q => by first | exact absurd q id | (dsimp only at q; omega) | omega | (unfold tfA at q; omega) | (unfold tfL at q; omega))).rf rf (by decide) (by decide)
  have r_RDR : RDR σ1 τ := ((hR.re re).fz z (by decide) (by first | exact id | omega | (intro q; dsimp only at q; omega) | (unfold tfA; omega) | (unfold tfL; omega))).rf rf (by decide) (by decide)
  have r_held : fI σ1 901 24 = fI τ 1343 61 ∧ aI σ1 25 = aI τ 92 := ⟨by rw [z.fI (f := 901) (by decide), hH.1]; exact ((rf.1 1343 (by omega) (by omega) (by decide)).trans (re.2 1343 (by omega) (by omega)).1).symm, by rw [z.aI (r := 25) (by first | exact id | omega | (intro q; dsimp only at q; omega) | (unfold tfA; omega) | (unfold tfL; omega)), hH.2]; exact ((rf.2 92 (by omega) (by omega) (by decide)).trans (re.1 92 (by omega) (by omega)).2.2.1).symm⟩
  have r_TG : TGr σ1 := hT.fz z (by first | exact id | omega | (intro q; dsimp only at q; omega) | (unfold tfA; omega) | (unfold tfL; omega)) (by first | exact id | omega | (intro q; dsimp only at q; omega) | (unfold tfA; omega) | (unfold tfL; omega))
  have r_LTT : LTT σ1 := (hLT.fz z (by decide) (by first | exact id | omega | (intro q; dsimp only at q; omega) | (unfold tfA; omega) | (unfold tfL; omega))).1
  have r_TXT : TXT σ1 := hTX.fz z (by decide) (fun r q e => by have q2 := hw r e; first | exact absurd q id | (dsimp only at q; omega) | omega | (unfold tfA at q; omega))
  have r_LD : LD σ1 := hLD.fz z (by decide)
  have i_MT : MT τ := (iM.re re).rf rf mi (by decide) (by decide)
  have i_RB : RB τ := (iB.re re).rf rf (by decide) (by decide)
  have i_kF : kFirst τ := (iF.re re).rf rf (by decide)
  have i_upL : upL τ := (iU.re re).rf rf (by decide)
  have i_mC : mCards τ := (iC.re re).rf rf (by decide) (by decide)
  have i_WI : WI τ := (iW.re re).rf rf (by decide) (by decide)
  have i_AB : AB τ := (iA.re re).rf rf (by decide) (by decide)
  have i_HI : HIs τ := (iH.re re).rf rf (by decide) (by decide)
  have i_WG : WG τ := (iG.re re).rf rf (by decide) (by decide)
  have i_InN : InN τ := (iN.re re).rf rf (by decide) (by decide)
  have i_InS : InS2 τ := (iS.re re).rf rf (by decide) (by decide)
  have i_lT : lT τ := (iT.re re).rf rf (by decide) (by decide)
  have rel : Rel σ1 τ := ⟨C1, r_now, r_BX, r_LR, r_BG, r_AL, r_DKR, r_RDR, r_held, r_TG, r_LTT, r_TXT, r_LD⟩
  exact ⟨rel.ce (fun r q => hw r (by rw [← z.kd]; exact q)) ce, ⟨i_MT, i_RB, i_kF, i_upL, i_mC, i_WI, i_AB, i_HI, i_WG, i_InN, i_InS, i_lT⟩, S1.ce hb ce⟩
