/-! all that holds between two steps holds behind a step: ticks -/

section TCK
variable {σ τ : Hp}
theorem lat_cTk (σ : Hp) (t : Int) (n : Nat) : ∀ i, lat (cTk σ t n i) = lat σ
  | 0 => rfl
  | i + 1 => by
    have e : lat (cTk σ t n (i + 1)) = lat (cTk σ t n i) := by
      obtain ⟨-, -, a3, a4, -⟩ := cPass_s (cTk σ t n i) (45 + 4 * (i : Int)) t n
      show lat (cPass (cTk σ t n i) (45 + 4 * (i : Int)) t n) = _
      unfold lat
      rw [a3, a4]
    rw [e, lat_cTk σ t n i]
abbrev tckF : List Nat := [312, 313, 1003, 1004, 1005, 1210]
abbrev tckA : Int → Prop := fun r => r = 48 ∨ r = 52 ∨ r = 56 ∨ r = 60
theorem Fz_cTk (hC : CLay σ) (t : Int) (n : Nat) : ∀ i, i ≤ 4 → Fz tckF tckA noR σ (cTk σ t n i)
  | 0, _ => Fz.rf σ
  | i + 1, hi => by
    have ih := Fz_cTk hC t n i (by omega)
    refine ih.tr ?_
    have hC2 := CLay_cTk hC t n i
    have k5 := (LoP.k hC2 (l := (i : Int)) (by omega)).2.2.2.2.1
    obtain ⟨a1, a2, a3, a4, a5, a6, a7, a8, a9, -⟩ := cPass_s (cTk σ t n i) (45 + 4 * (i : Int)) t n
    refine ⟨a7, a1, a2, a3, fun f hf => a9 f ?_, fun f _ => by
      show fL (cPass _ _ _ _) f = _
      rw [a5], fun f _ => by
      show fR (cPass _ _ _ _) f = _
      rw [a4], fun r hr => a8 r (fun q => hr ?_), fun r _ => by
      show aL (cPass _ _ _ _) r = _
      rw [a6]⟩
    · simp only [tckF, List.mem_cons, List.not_mem_nil, or_false, not_or] at hf
      simp [hf]
    · rw [k5] at q
      have : (i : Int) = 0 ∨ (i : Int) = 1 ∨ (i : Int) = 2 ∨ (i : Int) = 3 := by omega
      show r = 48 ∨ r = 52 ∨ r = 56 ∨ r = 60
      omega
theorem LR_cTk (hC : CLay σ) (hT : MT τ) (hB : RB τ) (hX : BX σ τ) (hL : ∀ l, 0 ≤ l → l < 4 → LR l σ τ) (n : Nat) (hn : fI τ 1301 61 + n ≤ 999999) : ∀ i : Nat, i ≤ 4 → ∀ l : Int, 0 ≤ l → l < 4 → (l < i → LR l (cTk σ (fI τ 1301 61) n i) (mTs τ n)) ∧ ((i : Int) ≤ l → LR l (cTk σ (fI τ 1301 61) n i) τ)
  | 0, _, l, a, b => ⟨fun q => by omega, fun _ => hL l a b⟩
  | i + 1, hi, l, a, b => by
    have ih := LR_cTk hC hT hB hX hL n hn i (by omega)
    have hC2 := CLay_cTk hC (fI τ 1301 61) n i
    have hinj : ∀ j k, (0 ≤ j ∧ j < fI τ 1302 61) → (0 ≤ k ∧ k < fI τ 1302 61) → lat (cTk σ (fI τ 1301 61) n i) 3 j = lat (cTk σ (fI τ 1301 61) n i) 3 k → j = k := fun j k p q e => by
      rw [lat_cTk] at e
      exact hX.inj p q e
    have hLi := (ih i (by omega) (by omega)).2 (by omega)
    have T1 := MT_mTs hT n hn
    have B1 : RB (mTs τ n) := hB.cg (fun r hr => mTs_a τ hr n) (by rw [mTs_f τ (f := 1302) (by decide) n])
    have f2 : fI (mTs τ n) 1302 61 = fI τ 1302 61 := by rw [mTs_f τ (by decide) n]
    refine ⟨fun q => ?_, fun q => ?_⟩
    · by_cases c : l = i
      · subst c
        exact (pass_sim hLi hC2 hT hB ⟨a, b⟩ hinj n hn).1
      · have h0 := (ih l a b).1 (by omega)
        refine LR.cp (l' := (i : Int)) h0 hC2 T1.1 B1 ⟨a, b⟩ (by omega) (by omega) (Or.inr ⟨?_, fun k p1 p2 => ?_⟩) (by rw [f2]; exact hinj)
        · rw [mTs_a τ (by decide) n]
          exact hLi.n hC2 (by omega)
        · rw [mTs_a τ (by decide) n] at p2 ⊢
          exact hLi.p hC2 (by omega) p1 p2
    · have h0 := (ih l a b).2 (by omega)
      exact LR.cp (l' := (i : Int)) h0 hC2 hT.1 hB ⟨a, b⟩ (by omega) (by omega) (Or.inl hLi) hinj
/-- a box's entry, out of its loop's -/
theorem BX_LR (hX : BX σ τ) (hB : RB τ) (hI : MI τ) {σ' τ' : Hp} (h1 : LOk σ' 3 2) (h2 : fI σ' 1402 3 = fI τ 1302 61) (hL : ∀ l, 0 ≤ l → l < 4 → LR l σ' τ') (e1 : fI τ' 1302 61 = fI τ 1302 61) (e2 : aI τ' 74 = aI τ 74) (e3 : aI τ' 75 = aI τ 75) : BX σ' τ' := by
  refine ⟨h1, h2.trans e1.symm, fun i a b => ?_⟩
  rw [e1] at b
  obtain ⟨q1, q2⟩ := hB.2.1 i a b
  have l0 := hI.loop_ i
  have a0 := hI.along_ i
  have g := (hL (aI τ 62 i) l0.1 (by omega)).2 (aI τ 68 i) a0.1 (by rw [e2]; exact q1)
  rw [e3, q2] at g
  exact g
/-! the reference's ticks -/
theorem CE_mStep (τ : Hp) (l t : Int) : CE τ (mStep τ l t) := by
  have h1 : CE τ (mSt1 τ l t) := by
    unfold mSt1
    split
    · exact (CE_qI _ _ _ (by decide)).tr (CE_qI _ _ _ (by decide))
    · exact CE.rf τ
  unfold mStep mSt2
  split
  · exact ((h1.tr (CE_qI _ _ _ (by decide))).tr (CE_qI _ _ _ (by decide))).tr (CE_qI _ _ _ (by decide))
  · exact h1
theorem CE_mTk (τ : Hp) (t : Int) : ∀ n : Nat, CE τ (mTk τ t n)
  | 0 => CE.rf τ
  | n + 1 => (CE_mTk τ t n).tr (CE_mStep _ _ _)
theorem CE_mTs (τ : Hp) : ∀ n : Nat, CE τ (mTs τ n)
  | 0 => CE.rf τ
  | n + 1 => ((CE_mTs τ n).tr (CE_pI _ 61 _ (by decide))).tr (CE_mTk _ _ 4)
theorem wt_mStep (τ : Hp) (l t j : Int) : (aI (mStep τ l t) 70 j = aI τ 70 j ∧ aI (mStep τ l t) 69 j = aI τ 69 j) ∨ aI (mStep τ l t) 70 j = 0 := by
  have h2 : aI (mStep τ l t) 70 = aI (mSt1 τ l t) 70 ∧ aI (mStep τ l t) 69 = aI (mSt1 τ l t) 69 := by
    unfold mStep mSt2
    split
    · constructor <;> funext k <;> simp only [aI_qI, Int.reduceEq, false_and, if_false]
    · exact ⟨rfl, rfl⟩
  rw [h2.1, h2.2]
  unfold mSt1
  split
  · simp only [aI_qI, Int.reduceEq, false_and, if_false, true_and]
    by_cases c : j = mWhich τ l (aI τ 74 l).toNat
    · right
      rw [if_pos c]
    · left
      rw [if_neg c, if_neg c]
      exact ⟨rfl, rfl⟩
  · exact Or.inl ⟨rfl, rfl⟩
theorem WG_mStep (h : WG τ) (l t : Int) : WG (mStep τ l t) := by
  have e1 := (mStep_s τ l t).1
  have e2 : aI (mStep τ l t) 73 = aI τ 73 := mStep_a τ l t (by decide)
  intro j q1 q2 q3
  rw [e1] at q2
  rcases wt_mStep τ l t j with ⟨w1, w2⟩ | w
  · rw [w1] at q3
    have h0 := h j q1 q2 q3
    unfold mGoing mGo at *
    rw [e1, e2, w2]
    exact h0
  · exact absurd w q3
theorem WG_mTk (h : WG τ) (t : Int) : ∀ n : Nat, WG (mTk τ t n)
  | 0 => h
  | n + 1 => WG_mStep (WG_mTk h t n) _ _
theorem WG_mTs (h : WG τ) (hT : MT τ) : ∀ n : Nat, fI τ 1301 61 + n ≤ 999999 → WG (mTs τ n)
  | 0, _ => h
  | n + 1, hn => by
    have ih := WG_mTs h hT n (by omega)
    have T1 := MT_mTs hT n (by omega)
    have e1 := now_mTs τ n
    refine WG_mTk (τ := pI (mTs τ n) 1301 61 (fI τ 1301 61 + n + 1)) ?_ _ 4
    intro j q1 q2 q3
    have b1 := T1.2.2 j
    have g := ih j q1 q2 q3
    rw [e1] at b1
    unfold mGoing mGo at *
    rw [e1] at g
    have z1 : fI (pI (mTs τ n) 1301 61 (fI τ 1301 61 + n + 1)) 1301 61 = fI τ 1301 61 + n + 1 := by rw [fI_pI]; exact if_pos ⟨rfl, rfl⟩
    have z2 : aI (pI (mTs τ n) 1301 61 (fI τ 1301 61 + n + 1)) = aI (mTs τ n) := aI_pI _ _ _ _
    rw [z1, z2]
    intro y
    apply g
    rcases y with ⟨y1, y2, y3⟩ | y
    · by_cases c : aI (mTs τ n) 69 j = fI τ 1301 61 + n + 1
      · exact Or.inr c
      · exact Or.inl ⟨y1, by omega, by omega⟩
    · exact Or.inr (by omega)
theorem wt_mTk (τ : Hp) (t j : Int) : ∀ n : Nat, aI (mTk τ t n) 70 j = aI τ 70 j ∨ aI (mTk τ t n) 70 j = 0
  | 0 => Or.inl rfl
  | n + 1 => by
    rcases wt_mStep (mTk τ t n) n t j with ⟨w1, -⟩ | w
    · rcases wt_mTk τ t j n with y | y
      · exact Or.inl (w1.trans y)
      · exact Or.inr (w1.trans y)
    · exact Or.inr w
theorem wt_mTs (τ : Hp) (j : Int) : ∀ n : Nat, aI (mTs τ n) 70 j = aI τ 70 j ∨ aI (mTs τ n) 70 j = 0
  | 0 => Or.inl rfl
  | n + 1 => by
    have e : aI (pI (mTs τ n) 1301 61 (fI τ 1301 61 + n + 1)) = aI (mTs τ n) := aI_pI _ _ _ _
    rcases wt_mTk (pI (mTs τ n) 1301 61 (fI τ 1301 61 + n + 1)) (fI τ 1301 61 + n + 1) j 4 with w | w
    · rw [e] at w
      rcases wt_mTs τ j n with y | y
      · exact Or.inl (w.trans y)
      · exact Or.inr (w.trans y)
    · exact Or.inr w
/-- a box that isn't there yet doesn't begin -/
theorem bg_mStep (hB : RB τ) {l t j : Int} (hl : 0 ≤ l ∧ l < 4) (hm : 0 ≤ aI τ 74 l) (hj : fI τ 1302 61 ≤ j) : aI (mStep τ l t) 69 j = aI τ 69 j := by
  have h2 : aI (mStep τ l t) 69 = aI (mSt1 τ l t) 69 := by
    unfold mStep mSt2
    split
    · funext k
      simp only [aI_qI, Int.reduceEq, false_and, if_false]
    · rfl
  rw [h2]
  unfold mSt1
  split
  · rename_i c
    rcases mWhich_at τ l (aI τ 74 l).toNat with k0 | ⟨k, k1, k3⟩
    · have := c.1
      omega
    · have r := (hB.1 l (k : Int) hl.1 hl.2 (by omega) (by omega)).1
      rw [aI_qI, if_neg (fun q => by omega), aI_qI, if_neg (fun q => absurd q.1 (by decide))]
  · rfl
theorem bg_mTk (hB : RB τ) (hI : MI τ) {t j : Int} (hj : fI τ 1302 61 ≤ j) : ∀ n : Nat, n ≤ 4 → aI (mTk τ t n) 69 j = aI τ 69 j
  | 0, _ => rfl
  | n + 1, hn => by
    have ih := bg_mTk hB hI (t := t) hj n (by omega)
    have B1 : RB (mTk τ t n) := hB.cg (fun r hr => mTk_a τ t hr n) (by rw [(mTk_s τ t n).1])
    have f1 : fI (mTk τ t n) = fI τ := (mTk_s τ t n).1
    have e := bg_mStep B1 (l := (n : Int)) (t := t) (j := j) (by omega) (by rw [mTk_a τ t (by decide) n]; exact (hI.many_ _).1) (by rw [f1]; exact hj)
    exact e.trans ih
theorem bg_mTs (hB : RB τ) (hI : MI τ) {j : Int} (hj : fI τ 1302 61 ≤ j) : ∀ n : Nat, (∀ m : Nat, m ≤ n → MI (mTs τ m)) → fI τ 1301 61 + n ≤ 999999 → aI (mTs τ n) 69 j = aI τ 69 j
  | 0, _, _ => rfl
  | n + 1, hM, hn => by
    have ih := bg_mTs hB hI hj n (fun m hm => hM m (by omega)) (by omega)
    have M1 := hM n (by omega)
    have ns := hI.now_s
    have M2 : MI (pI (mTs τ n) 1301 61 (fI τ 1301 61 + n + 1)) := MI_now_p M1 (by omega)
    have B2 : RB (pI (mTs τ n) 1301 61 (fI τ 1301 61 + n + 1)) := hB.cg (fun r hr => by rw [aI_pI]; exact mTs_a τ hr n) (by rw [fI_pI, if_neg (by omega), mTs_f τ (f := 1302) (by decide) n])
    have e := bg_mTk B2 M2 (t := fI τ 1301 61 + n + 1) (j := j) (by rw [fI_pI, if_neg (by omega), mTs_f τ (f := 1302) (by decide) n]; exact hj) 4 (by omega)
    have e3 : aI (pI (mTs τ n) 1301 61 (fI τ 1301 61 + n + 1)) = aI (mTs τ n) := aI_pI _ _ _ _
    rw [e3] at e
    exact e.trans ih
theorem Rf_mTs (τ : Hp) (n : Nat) : Rf [1301] [69, 70, 77, 78, 79] τ (mTs τ n) := ⟨fun f a b c => by rw [mTs_f τ (fun q => c (by rw [q]; exact List.mem_cons_self)) n], fun r a b c => mTs_a τ (by
  simp only [List.mem_cons, List.not_mem_nil, or_false, not_or] at c
  simp [c]) n⟩
end TCK
theorem fu_ticks {b n : Int} {σ : Hp} {t k : Int} {m : Nat} (hF : Fu b n σ) (hb : b < 0) (hw : ∀ r, kd σ r = 21 → r < 0) (ht : t = fI σ 1210 1) (hm : (m : Int) = k) (c : t + k ≤ 999999) : Fu b n (mTs (pI (pI (cTk σ t m 4) 1210 1 (t + k)) 1300 61 0) m) := by
  obtain ⟨⟨hC, hnw, hX, hL, hG, hA, hK, hR, hH, hT, hLT, hTX, hLD⟩, ⟨iM, iB, iF, iU, iC, iW, iA, iH, iG, iN, iS, iT⟩, hS⟩ := hF
  have z : Fz tckF tckA noR σ (pI (cTk σ t m 4) 1210 1 (t + k)) := (Fz_cTk hC t m 4 (by omega)).tr (Fz_pI (fs := tckF) _ _ _ (by decide))
  have re : RE σ (pI (cTk σ t m 4) 1210 1 (t + k)) := z.re (by decide) (fun r q => by first | exact absurd q id | (dsimp only at q; omega) | omega | (unfold tfA at q; omega) | (unfold tfL at q; omega)) (fun r q => by first | exact absurd q id | (dsimp only at q; omega) | omega | (unfold tfA at q; omega) | (unfold tfL at q; omega))
  have e9 : fI (pI (cTk σ t m 4) 1210 1 (t + k)) 1301 61 = t := ((re.2 1301 (by omega) (by omega)).1.trans hnw.symm).trans ht.symm
  obtain ⟨σ1, e1⟩ : ∃ ρ9 : Hp, ρ9 = pI (cTk σ t m 4) 1210 1 (t + k) := ⟨_, rfl⟩
  rw [← e1] at z re e9 ⊢
  have C1 : CLay σ1 := hC.fz z (by decide)
  have iM1 : MI σ1 := MI_RE re iM.1
  obtain ⟨τ, e2⟩ : ∃ ρ9 : Hp, ρ9 = mTs (pI σ1 1300 61 0) m := ⟨_, rfl⟩
  rw [← e2] 
  have rf : Rf [1300, 1301] [69, 70, 77, 78, 79] σ1 τ := by
    rw [e2]
    exact ((Rf_thr [1300, 1301] [69, 70, 77, 78, 79] σ1 0 (by decide)).tr ((Rf_mTs _ m).up (by decide) (by decide)))
  have ce : CE σ1 τ := by
    rw [e2]
    exact (CE_pI σ1 61 0 (by decide)).tr (CE_mTs _ m)
  have mi : MI τ := by
    rw [e2]
    exact (MT_mTs (iM.re re).th m (by rw [show fI (pI σ1 1300 61 0) 1301 61 = t from e9]; omega)).1
  have S1 : Scp σ1 b n := by
    unfold Scp at *
    rw [z.kd, z.ln, z.aI (r := b) (by first | exact id | omega | (intro q; dsimp only at q; omega) | (unfold tfA; omega))]
    exact hS
  have r_now : fI σ1 1210 1 = fI τ 1301 61 := by
    rw [e2, now_mTs]
    rw [show fI (pI σ1 1300 61 0) 1301 61 = t from e9, e1, fI_pI, if_pos ⟨rfl, rfl⟩, hm]
  have r_LR : ∀ l, 0 ≤ l → l < 4 → LR l σ1 τ := fun l a b => by
    have g := (LR_cTk hC (τ := pI σ1 1300 61 0) (iM.re re).th (iB.re re).th (hX.re re).th (fun l a b => ((hL l a b).re re).th) m (by rw [show fI (pI σ1 1300 61 0) 1301 61 = t from e9]; omega) 4 (by omega) l a b).1 (by omega)
    rw [show fI (pI σ1 1300 61 0) 1301 61 = t from e9] at g
    rw [e2]
    have z2 : Fz [1210] noR noR (cTk σ t m 4) σ1 := by
      rw [e1]
      exact Fz_pI (fs := [1210]) _ _ _ (by decide)
    exact g.fz (CLay_cTk hC t m 4) ⟨a, b⟩ z2 (by decide) (by decide) (by decide) (by decide) (by decide) (fun r _ _ => id)
  have r_BX : BX σ1 τ := BX_LR (hX.re re) (iB.re re) iM1 (hX.1.fz z (by decide) (by decide) (by decide)) (by rw [z.fI (f := 1402) (by decide)]; exact (hX.re re).2.1) r_LR (rf.1 1302 (by omega) (by omega) (by decide)) (rf.2 74 (by omega) (by omega) (by decide)) (rf.2 75 (by omega) (by omega) (by decide))
  have r_BG : BG σ1 τ := ((hG.re re).fz z (by decide) (by first | exact id | omega | (intro q; dsimp only at q; omega) | (unfold tfA; omega) | (unfold tfL; omega)) (by first | exact id | omega | (intro q; dsimp only at q; omega) | (unfold tfA; omega) | (unfold tfL; omega))).rf rf (by decide) (by decide)
  have r_AL : AL σ1 τ := ((hA.re re).fz z (by decide) (by decide) (by decide) (by decide) (by decide) (fun r q => by first | exact absurd q id | (dsimp only at q; omega) | omega | (unfold tfA at q; omega) | (unfold tfL at q; omega))).rf rf (by decide) (by decide)
  have r_DKR : DKR σ1 τ := ((hK.re re).fz z (by decide) (fun r q => by first | exact absurd q id | (dsimp only at q; omega) | omega | (unfold tfA at q; omega) | (unfold tfL at q; omega))).rf rf (by decide) (by decide)
  have r_RDR : RDR σ1 τ := ((hR.re re).fz z (by decide) (by first | exact id | omega | (intro q; dsimp only at q; omega) | (unfold tfA; omega) | (unfold tfL; omega))).rf rf (by decide) (by decide)
  have r_held : fI σ1 901 24 = fI τ 1343 61 ∧ aI σ1 25 = aI τ 92 := ⟨by rw [z.fI (f := 901) (by decide), hH.1]; exact ((rf.1 1343 (by omega) (by omega) (by decide)).trans (re.2 1343 (by omega) (by omega)).1).symm, by rw [z.aI (r := 25) (by first | exact id | omega | (intro q; dsimp only at q; omega) | (unfold tfA; omega) | (unfold tfL; omega)), hH.2]; exact ((rf.2 92 (by omega) (by omega) (by decide)).trans (re.1 92 (by omega) (by omega)).2.2.1).symm⟩
  have r_TG : TGr σ1 := hT.fz z (by first | exact id | omega | (intro q; dsimp only at q; omega) | (unfold tfA; omega) | (unfold tfL; omega)) (by first | exact id | omega | (intro q; dsimp only at q; omega) | (unfold tfA; omega) | (unfold tfL; omega))
  have r_LTT : LTT σ1 := (hLT.fz z (by decide) (by first | exact id | omega | (intro q; dsimp only at q; omega) | (unfold tfA; omega) | (unfold tfL; omega))).1
  have r_TXT : TXT σ1 := hTX.fz z (by decide) (fun r q e => by have q2 := hw r e; first | exact absurd q id | (dsimp only at q; omega) | omega | (unfold tfA at q; omega))
  have r_LD : LD σ1 := hLD.fz z (by decide)
  have i_MT : MT τ := by rw [e2]; exact MT_mTs (iM.re re).th m (by rw [show fI (pI σ1 1300 61 0) 1301 61 = t from e9]; omega)
  have i_RB : RB τ := (iB.re re).rf rf (by decide) (by decide)
  have i_kF : kFirst τ := (iF.re re).rf rf (by decide)
  have i_upL : upL τ := (iU.re re).rf rf (by decide)
  have i_mC : mCards τ := (iC.re re).rf rf (by decide) (by decide)
  have i_WI : WI τ := (iW.re re).rf rf (by decide) (by decide)
  have i_AB : AB τ := (iA.re re).rf rf (by decide) (by decide)
  have i_HI : HIs τ := (iH.re re).rf rf (by decide) (by decide)
  have i_WG : WG τ := by rw [e2]; exact WG_mTs (iG.re re).th (iM.re re).th m (by rw [show fI (pI σ1 1300 61 0) 1301 61 = t from e9]; omega)
  have i_InN : InN τ := by
    obtain ⟨n0, n2, n3, n4⟩ := iN.re re
    have f1 := rf.1 1371 (by omega) (by omega) (by decide)
    have f2 := rf.1 1302 (by omega) (by omega) (by decide)
    have f3 := rf.1 1322 (by omega) (by omega) (by decide)
    have f4 := rf.1 1321 (by omega) (by omega) (by decide)
    have a1 := rf.2 72 (by omega) (by omega) (by decide)
    have a2 := rf.2 73 (by omega) (by omega) (by decide)
    have a3 := rf.2 112 (by omega) (by omega) (by decide)
    have a4 := rf.2 113 (by omega) (by omega) (by decide)
    have a5 := rf.2 114 (by omega) (by omega) (by decide)
    have a6 := rf.2 115 (by omega) (by omega) (by decide)
    have nw : fI τ 1301 61 = t + m := by
      rw [e2, now_mTs]
      rw [show fI (pI σ1 1300 61 0) 1301 61 = t from e9]
    refine ⟨fun j q => ?_, ?_, ?_, fun a => ?_⟩
    · rw [f2] at q
      have w := wt_mTs (pI σ1 1300 61 0) j m
      rw [← e2] at w
      have n1 := n0 j q
      rw [a1, a2]
      refine ⟨n1.1, n1.2.1, ?_⟩
      rcases w with w | w
      · exact w.trans n1.2.2
      · exact w
    · rw [f1, a3, a4, a5, a6]
      exact n2
    · rw [f3, f4]
      exact n3
    · have q := n4 a
      rw [e9] at q
      rw [a5, nw]
      omega
  have i_InS : InS2 τ := (iS.re re).rf rf (by decide) (by decide)
  have i_lT : lT τ := by
    obtain ⟨t1, t2⟩ := iT.re re
    refine ⟨?_, fun j q q32 => ?_⟩
    · unfold lT0
      rw [rf.1 1352 (by omega) (by omega) (by decide), rf.2 96 (by omega) (by omega) (by decide)]
      exact t1
    · rw [rf.1 1302 (by omega) (by omega) (by decide)] at q
      have T0 := (iM.re re).th (v := 0)
      have nn : fI (pI σ1 1300 61 0) 1301 61 = t := e9
      rw [e2, bg_mTs (τ := pI σ1 1300 61 0) (iB.re re).th T0.1 (j := j) q m (fun i hi => (MT_mTs T0 i (by rw [nn]; omega)).1) (by rw [nn]; omega)]
      exact t2 j q q32
  have rel : Rel σ1 τ := ⟨C1, r_now, r_BX, r_LR, r_BG, r_AL, r_DKR, r_RDR, r_held, r_TG, r_LTT, r_TXT, r_LD⟩
  exact ⟨rel.ce (fun r q => hw r (by rw [← z.kd]; exact q)) ce, ⟨i_MT, i_RB, i_kF, i_upL, i_mC, i_WI, i_AB, i_HI, i_WG, i_InN, i_InS, i_lT⟩, S1.ce hb ce⟩
