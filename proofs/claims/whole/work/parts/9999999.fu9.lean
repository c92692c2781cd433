/-! all that holds between two steps holds behind a step: again -/

section AGN
variable {σ σ' τ : Hp}
theorem RE.sy (h : RE σ σ') : RE σ' σ := ⟨fun k a b => ⟨(h.1 k a b).1.symm, (h.1 k a b).2.1.symm, (h.1 k a b).2.2.1.symm, (h.1 k a b).2.2.2.symm⟩, fun f a b => ⟨(h.2 f a b).1.symm, (h.2 f a b).2.1.symm, (h.2 f a b).2.2.symm⟩⟩
/-- the memory, with each alarm's number of companies once more where nobody writes -/
def w9 (σ : Hp) : Hp := (nx σ, kd σ, ln σ, fun f k => if f = 9999 then fI σ 103 k else fI σ f k, fL σ, fR σ, aI σ, aL σ, aR σ)
theorem w9_f (σ : Hp) (f : Nat) (k : Int) : fI (w9 σ) f k = if f = 9999 then fI σ 103 k else fI σ f k := Eq.trans rfl rfl
theorem RE_w9 (σ : Hp) : RE σ (w9 σ) := ⟨fun _ _ _ => ⟨rfl, rfl, rfl, rfl⟩, fun f a b => ⟨by rw [w9_f, if_neg (by omega)], rfl, rfl⟩⟩
/-- the other alarms' rows stay -/
def Oth (a : Int) (τ τ' : Hp) : Prop := ∀ x, ¬ x = a → aI τ' 115 x = aI τ 115 x ∧ ∀ i, 0 ≤ i → i < 20 → aI τ' 116 (20 * x + i) = aI τ 116 (20 * x + i)
theorem Oth.tr {a : Int} {ρ : Hp} (h : Oth a τ σ) (g : Oth a σ ρ) : Oth a τ ρ := fun x hx => ⟨(g x hx).1.trans (h x hx).1, fun i p q => ((g x hx).2 i p q).trans ((h x hx).2 i p q)⟩
theorem Oth_snd {a c : Int} (h : Snt τ a) (hc : 0 ≤ c ∧ c < fI τ 1335 61) (hx : 0 ≤ aI τ 89 c) : Oth a τ (mSnd τ a c) := fun x hne => by
  have t3 := h.2.1.2.2 a h.2.2.2.1 h.2.2.2.2
  have tt := mTo_snd (a := a) h.1 hc hx
  have cs := h.1.companies_s
  have s0 := h.1.sentMany_ a
  have v3 : ∀ q, aI (mSnd τ a c) 115 q = if q = a then aI τ 115 a + 1 else aI τ 115 q := fun q => by simp [mSnd, aI_qI]
  have v4 : ∀ q, aI (mSnd τ a c) 116 q = if q = 20 * a + aI τ 115 a then c else aI τ 116 q := fun q => by simp [mSnd, aI_qI]
  exact ⟨by rw [v3, if_neg hne], fun i p q => by rw [v4, if_neg (fun u => hne (by omega))]⟩
theorem Oth_sends {a : Int} (kn : Int) : ∀ (n : Nat) {τ : Hp} (_ : Snt τ a), Oth a τ (mSends τ a kn n)
  | 0, τ, h => fun x _ => ⟨rfl, fun _ _ _ => rfl⟩
  | n + 1, τ, h => by
    have hs := h.1.companies_s
    have hb := mBest_in τ kn (aI τ 109 a) (fI τ 1335 61).toNat
    unfold mSends
    split
    · exact fun x _ => ⟨rfl, fun _ _ _ => rfl⟩
    · have h2 := hb.2.2 (by omega)
      exact (Oth_snd h (by omega) h2.2).tr (Oth_sends kn n (Snt_snd h (by omega) h2.2))
theorem Oth_scr {a : Int} {ρ : Hp} (z : Scr τ ρ) : Oth a τ ρ := fun x _ => ⟨by rw [z.a (r := 115) (by decide)], fun i _ _ => by rw [z.a (r := 116) (by decide)]⟩
theorem Oth_lines {a : Int} : ∀ (n l : Nat) {τ : Hp} (_ : Snt τ a), Oth a τ (mLines τ a n l)
  | 0, _, τ, h => fun x _ => ⟨rfl, fun _ _ _ => rfl⟩
  | n + 1, l, τ, h => by
    have g := Snt_scr h (Scr_mWorth τ l) (MI_mWorth h.1 l)
    have w : Oth a τ (mWorth τ l) := Oth_scr (Scr_mWorth τ l)
    unfold mLines
    split
    · exact w.tr (Oth_lines n (l + 1) g)
    · exact (w.tr (Oth_sends 0 _ g)).tr (Oth_sends 1 _ (Snt_sends 0 _ g))
theorem Oth_ans {a : Int} (h : Snt τ a) : Oth a τ (mAns τ a) := (Oth_scr (Scr_mFacts τ a)).tr (Oth_lines _ 0 (Snt_scr h (Scr_mFacts τ a) (MI_mFacts h.1 a)))
theorem AlS.row {a p : Int} {ρ : Hp} (h : AlS σ ρ a p) (z : RE ρ τ) : fI σ 103 p = aI τ 115 a ∧ ∀ i, 0 ≤ i → i < aI τ 115 a → aI σ (p + 1) i = aI τ 116 (20 * a + i) := by
  obtain ⟨-, -, -, -, -, h6, h7, -⟩ := h
  rw [(z.1 115 (by omega) (by omega)).2.2.1, (z.1 116 (by omega) (by omega)).2.2.1]
  exact ⟨h6, h7⟩
end AGN
abbrev agF : List Nat := 104 :: ansF
abbrev agA : Int → Prop := fun r => r = 32 ∨ r = 38 ∨ r = 44 ∨ 120 < r
theorem fu_again {b n : Int} {σ σ1 τ : Hp} {a v : Int} (hF : Fu b n σ) (hb : b < 0) (hw : ∀ r, kd σ r = 21 → r < 0) (c : (0 ≤ a ∧ a < fI σ 1371 61) ∧ aI σ 112 a = 0 ∧ ¬ aI σ 111 a = 3) (hv : v = aI σ 111 a + 1) (g1 : BG σ1 (mAns (mCall (w9 σ) a) a)) (g2 : AlS σ1 (mAns (mCall (w9 σ) a) a) a (lat σ 28 a)) (y : Fz ansF (ansA (lat σ 28 a)) noR (pI σ 104 (lat σ 28 a) v) σ1) (e2 : τ = mAns (mCall σ1 a) a) : Fu b n τ := by
  obtain ⟨⟨hC, hnw, hX, hL, hG, hA, hK, hR, hH, hT, hLT, hTX, hLD⟩, ⟨iM, iB, iF, iU, iC, iW, iA, iH, iG, iN, iS, iT⟩, hS⟩ := hF
  have gp := (hA.2.2.1 a c.1.1 c.1.2).1
  have z : Fz agF agA noR σ σ1 := (Fz_pI (fs := agF) (f := 104) _ _ _ (by decide)).tr (y.up (by decide) (fun r q => by unfold ansA at q; show r = 32 ∨ r = 38 ∨ r = 44 ∨ 120 < r; omega) (fun r q => q))
  have re : RE σ σ1 := z.re (by decide) (fun r q => by first | exact absurd q id | (dsimp only at q; omega) | omega | (unfold tfA at q; omega) | (unfold tfL at q; omega)) (fun r q => by first | exact absurd q id | (dsimp only at q; omega) | omega | (unfold tfA at q; omega) | (unfold tfL at q; omega))
  have C1 : CLay σ1 := hC.fz z (by decide)
  have n1 : fI σ1 1210 1 = fI σ1 1301 61 := by
    rw [z.fI (f := 1210) (by decide), hnw]
    exact (re.2 1301 (by omega) (by omega)).1.symm
  have iM1 : MI σ1 := MI_RE re iM.1
  have ha : 0 ≤ a ∧ a < 100 := by have := iM.1.alarms_s; omega
  have r0 : RE (mAns (mCall (w9 σ) a) a) τ := by
    rw [e2]
    exact RE_ans (RE_call ((RE_w9 σ).sy.tr re) a) a
  have rc : Rf [1300] [111] σ1 (mCall σ1 a) := (Rf_thr _ _ σ1 0 (by decide)).q (by decide)
  have cl := iM1.calls_ a
  have mc : MI (mCall σ1 a) := MI_calls_q (MI_fre iM1 (by decide)) (by
    have q := (re.1 111 (by omega) (by omega)).2.2.1
    rw [q] at cl ⊢
    omega)
  have Snt0 : Snt (mCall σ1 a) a := ⟨mc, (iS.re re).rf rc (by decide) (by decide), (iH.re re).rf rc (by decide) (by decide), by
    rw [rc.1 1371 (by omega) (by omega) (by decide), (re.2 1371 (by omega) (by omega)).1]
    exact c.1, by
    rw [rc.2 112 (by omega) (by omega) (by decide), (re.1 112 (by omega) (by omega)).2.2.1]
    exact c.2.1⟩
  have SntT : Snt τ a := by
    rw [e2]
    exact Snt_ans Snt0
  have mi : MI τ := SntT.1
  have rf : Rf [1300] [111, 91, 89, 90, 116, 115, 100, 101, 102, 103, 104, 105, 106, 107, 108] σ1 τ := by
    rw [e2]
    exact (rc.up (by decide) (by decide)).tr ((Rf_mAns ha Snt0.1 (Snt0.2.1.2.2 a Snt0.2.2.2.1 Snt0.2.2.2.2)).up (by decide) (by decide))
  have ce : CE σ1 τ := by
    rw [e2]
    exact ((CE_pI σ1 61 0 (by decide)).tr (CE_qI _ _ _ (by decide))).tr (CE_mAns _ a)
  have S1 : Scp σ1 b n := by
    unfold Scp at *
    rw [z.kd, z.ln, z.aI (r := b) (by first | exact id | omega | (intro q; dsimp only at q; omega) | (unfold tfA; omega) | (unfold tfL; omega))]
    exact hS
  have r_now : fI σ1 1210 1 = fI τ 1301 61 := n1.trans (rf.1 1301 (by omega) (by omega) (by decide)).symm
  have r_BX : BX σ1 τ := ((hX.re re).fz z (by decide) (by decide) (by decide) (by decide)).rf rf (by decide) (by decide)
  have r_LR : ∀ l, 0 ≤ l → l < 4 → LR l σ1 τ := fun l a b => ((((hL l a b).re re).fz hC ⟨a, b⟩ z (by decide) (by decide) (by decide) (by decide) (by decide) (fun r h1 h2 => by first | exact id | omega | (intro q; dsimp only at q; omega) | (unfold tfA; omega))).rf rf (by decide))
  have r_BG : BG σ1 τ := g1.re r0
  have r_AL : AL σ1 τ := by
    have z1 : Fz [104] noR noR σ (pI σ 104 (lat σ 28 a) v) := Fz_pI (fs := [104]) _ _ _ (by decide)
    have el := z.elt (by decide)
    have hne : ∀ x, 0 ≤ x → x < fI σ 1371 61 → ¬ x = a → ¬ lat σ 28 x = lat σ 28 a := fun x q1 q2 e => by
      rcases Int.lt_or_gt_of_ne e with u | u
      · exact hA.2.2.2.1 x a q1 u c.1.2
      · exact fun w => hA.2.2.2.1 a x c.1.1 u q2 w.symm
    have rw0 := g2.row r0
    have al1 := rf.1 1371 (by omega) (by omega) (by decide)
    have al2 := (re.2 1371 (by omega) (by omega)).1
    have ar : ∀ r, 109 ≤ r → r ≤ 119 → ¬ r = 111 → ¬ r = 115 → ¬ r = 116 → aI τ r = aI σ r := fun r p1 p2 p3 p4 p5 => (rf.2 r (by omega) (by omega) (by simp only [List.mem_cons, List.not_mem_nil, or_false, not_or]; omega)).trans (re.1 r (by omega) (by omega)).2.2.1
    have cv : ∀ x, aI τ 111 x = if x = a then v else aI σ 111 x := fun x => by
      rw [e2, mAns_a (mCall σ1 a) a (r := 111) (by decide) (by decide)]
      unfold mCall
      rw [aI_qI, aI_pI, (re.1 111 (by omega) (by omega)).2.2.1, ← hv]
      simp only [true_and]
    have oth := Oth_ans Snt0
    rw [← e2] at oth
    have oth2 : ∀ x, ¬ x = a → aI τ 115 x = aI σ 115 x ∧ ∀ i, 0 ≤ i → i < 20 → aI τ 116 (20 * x + i) = aI σ 116 (20 * x + i) := fun x hx => by
      have q := oth x hx
      rw [rc.2 115 (by omega) (by omega) (by decide), rc.2 116 (by omega) (by omega) (by decide), (re.1 115 (by omega) (by omega)).2.2.1, (re.1 116 (by omega) (by omega)).2.2.1] at q
      exact q
    have c9 : ∀ k, ¬ k = lat σ 28 a → fI σ1 103 k = fI σ 103 k := fun k hk => by
      rw [g2.2.2.2.2.2.2.2 k hk]
      have q1 : fI (mAns (mCall (w9 σ) a) a) 9999 = fI (mCall (w9 σ) a) 9999 := (CE_mAns (mCall (w9 σ) a) a).f 9999 (by omega)
      have q2 : fI (mCall (w9 σ) a) 9999 = fI (w9 σ) 9999 := ((CE_pI (w9 σ) 61 0 (by decide)).tr (CE_qI (r := 111) _ a _ (by decide))).f 9999 (by omega)
      rw [q1, q2, w9_f, if_pos rfl]
    refine ⟨hA.1.fz z (by decide) (by decide) (by decide), by rw [z.fI (f := 1402) (by decide), al1, al2]; exact hA.2.1, fun x q1 q2 => ?_, fun x w q1 q2 q3 => by rw [el]; rw [al1, al2] at q3; exact hA.2.2.2.1 x w q1 q2 q3, fun w => ?_, ?_⟩
    · rw [al1, al2] at q2
      have g := hA.2.2.1 x q1 q2
      rw [el]
      have c104 : fI σ1 104 (lat σ 28 x) = if x = a then v else fI σ 104 ((lat σ 28 x)) := by
        rw [y.fI (f := 104) (by decide), fI_pI]
        by_cases e : x = a
        · rw [e, if_pos ⟨rfl, rfl⟩, if_pos rfl]
        · rw [if_neg (fun q => hne x q1 q2 e q.2), if_neg e]
      have hp := g.1
      unfold AlE at g ⊢
      rw [el, z.kd, z.ln, z.fR (f := 100) (by decide), z.fR (f := 102) (by decide), z.fI (f := 101) (by decide), z.fI (f := 105) (by decide), z.fI (f := 106) (by decide), z.fI (f := 107) (by decide), c104, cv x, ar 109 (by omega) (by omega) (by omega) (by omega) (by omega), ar 110 (by omega) (by omega) (by omega) (by omega) (by omega), ar 112 (by omega) (by omega) (by omega) (by omega) (by omega), ar 113 (by omega) (by omega) (by omega) (by omega) (by omega), ar 114 (by omega) (by omega) (by omega) (by omega) (by omega)]
      obtain ⟨k0, k1, k2, k3, k4, k5, k6, k7, k8, k9, k10, k11⟩ := g
      by_cases e : x = a
      · rw [if_pos e, if_pos e]
        rw [e] at k0 k1 k2 k3 k4 k5 k9 k10 k11 ⊢
        exact ⟨k0, k1, k2, k3, k4, k5, rw0.1, rw0.2, rfl, k9, k10, k11⟩
      · have hn := hne x q1 q2 e
        have o2 := oth2 x e
        have rowx : aI σ1 (lat σ 28 x + 1) = aI σ (lat σ 28 x + 1) := by
          rw [y.aI (r := lat σ 28 x + 1) (by unfold ansA; omega), aI_pI]
        have sm := iM.1.sentMany_ x
        rw [if_neg e, if_neg e, c9 _ hn, o2.1, rowx]
        exact ⟨k0, k1, k2, k3, k4, k5, k6, fun i i1 i2 => by rw [o2.2 i i1 (by omega)]; exact k7 i i1 i2, k8, k9, k10, k11⟩
    · rw [z.aI (r := 29) (by omega), z.aI (r := 30) (by omega), z.aI (r := 31) (by omega), ar 117 (by omega) (by omega) (by omega) (by omega) (by omega), ar 118 (by omega) (by omega) (by omega) (by omega) (by omega), ar 119 (by omega) (by omega) (by omega) (by omega) (by omega)]
      exact hA.2.2.2.2.1 w
    · rw [z.fI (f := 204) (by decide), rf.1 1380 (by omega) (by omega) (by decide), (re.2 1380 (by omega) (by omega)).1]
      exact hA.2.2.2.2.2
  have r_DKR : DKR σ1 τ := ((hK.re re).fz z (by decide) (fun r q => by first | exact absurd q id | (dsimp only at q; omega) | omega | (unfold tfA at q; omega) | (unfold tfL at q; omega))).rf rf (by decide) (by decide)
  have r_RDR : RDR σ1 τ := ((hR.re re).fz z (by decide) (by first | exact id | omega | (intro q; dsimp only at q; omega) | (unfold tfA; omega) | (unfold tfL; omega))).rf rf (by decide) (by decide)
  have r_held : fI σ1 901 24 = fI τ 1343 61 ∧ aI σ1 25 = aI τ 92 := ⟨by rw [z.fI (f := 901) (by decide), hH.1]; exact ((rf.1 1343 (by omega) (by omega) (by decide)).trans (re.2 1343 (by omega) (by omega)).1).symm, by rw [z.aI (r := 25) (by first | exact id | omega | (intro q; dsimp only at q; omega) | (unfold tfA; omega) | (unfold tfL; omega)), hH.2]; exact ((rf.2 92 (by omega) (by omega) (by decide)).trans (re.1 92 (by omega) (by omega)).2.2.1).symm⟩
  have r_TG : TGr σ1 := hT.fz z (by first | exact id | omega | (intro q; dsimp only at q; omega) | (unfold tfA; omega) | (unfold tfL; omega)) (by first | exact id | omega | (intro q; dsimp only at q; omega) | (unfold tfA; omega) | (unfold tfL; omega))
  have r_LTT : LTT σ1 := (hLT.fz z (by decide) (by first | exact id | omega | (intro q; dsimp only at q; omega) | (unfold tfA; omega) | (unfold tfL; omega))).1
  have r_TXT : TXT σ1 := hTX.fz z (by decide) (fun r q e => by have q2 := hw r e; first | exact absurd q id | (dsimp only at q; omega) | omega | (unfold tfA at q; omega))
  have r_LD : LD σ1 := hLD.fz z (by decide)
  have i_MT : MT τ := (iM.re re).rf rf mi (by decide) (by decide)
  have i_RB : RB τ := (iB.re re).rf rf (by decide) (by decide)
  have i_kF : kFirst τ := (iF.re re).rf rf (by decide)
  have i_upL : upL τ := (iU.re re).rf rf (by decide)
  have i_mC : mCards τ := (iC.re re).rf rf (by decide) (by decide)
  have i_WI : WI τ := (iW.re re).rf rf (by decide) (by decide)
  have i_AB : AB τ := (iA.re re).rf rf (by decide) (by decide)
  have i_HI : HIs τ := SntT.2.2.1
  have i_WG : WG τ := (iG.re re).rf rf (by decide) (by decide)
  have i_InN : InN τ := by
    obtain ⟨n0, n2, n3, n4⟩ := iN.re re
    have al2 := (re.2 1371 (by omega) (by omega)).1
    have oth := Oth_ans Snt0
    rw [← e2] at oth
    refine ⟨?_, fun x hx => ?_, ?_, ?_⟩
    · rw [rf.1 1302 (by omega) (by omega) (by decide), rf.2 72 (by omega) (by omega) (by decide), rf.2 73 (by omega) (by omega) (by decide), rf.2 70 (by omega) (by omega) (by decide)]
      exact n0
    · rw [rf.1 1371 (by omega) (by omega) (by decide)] at hx
      have q := (oth x (by omega)).1
      rw [rc.2 115 (by omega) (by omega) (by decide)] at q
      rw [q, rf.2 112 (by omega) (by omega) (by decide), rf.2 113 (by omega) (by omega) (by decide), rf.2 114 (by omega) (by omega) (by decide)]
      exact n2 x hx
    · rw [rf.1 1322 (by omega) (by omega) (by decide), rf.1 1321 (by omega) (by omega) (by decide)]
      exact n3
    · rw [rf.1 1301 (by omega) (by omega) (by decide), rf.2 114 (by omega) (by omega) (by decide)]
      exact n4
  have i_InS : InS2 τ := SntT.2.1
  have i_lT : lT τ := (iT.re re).rf rf (by decide) (by decide)
  have rel : Rel σ1 τ := ⟨C1, r_now, r_BX, r_LR, r_BG, r_AL, r_DKR, r_RDR, r_held, r_TG, r_LTT, r_TXT, r_LD⟩
  exact ⟨rel.ce (fun r q => hw r (by rw [← z.kd]; exact q)) ce, ⟨i_MT, i_RB, i_kF, i_upL, i_mC, i_WI, i_AB, i_HI, i_WG, i_InN, i_InS, i_lT⟩, S1.ce hb ce⟩
