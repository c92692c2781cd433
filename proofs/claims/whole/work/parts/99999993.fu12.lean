/-! all that holds between two steps holds behind a step: box -/

section BOX
variable {σ σ' τ τ' : Hp}
theorem mWh_r {b n r : Int} (h1 : ¬ r = 71) (h2 : ¬ r = 72) (h3 : ¬ r = 73) : aI (mWh τ b n) r = aI τ r := by
  unfold mWh mWh3 mWh2
  split
  · rw [mDg_r _ _ _ h1 h2 h3, mDg_r _ _ _ h1 h2 h3, mDg_r _ _ _ h1 h2 h3]
  · rw [mDg_r _ _ _ h1 h2 h3, mDg_r _ _ _ h1 h2 h3]
theorem mWh_j {b n j : Int} (h : ¬ j = b) : aI (mWh τ b n) 72 j = aI τ 72 j ∧ aI (mWh τ b n) 73 j = aI τ 73 j := by
  unfold mWh mWh3 mWh2
  split
  · exact ⟨((mDg_j _ _ _ h _).1.trans (mDg_j _ _ _ h _).1).trans (mDg_j _ _ _ h _).1, ((mDg_j _ _ _ h _).2.trans (mDg_j _ _ _ h _).2).trans (mDg_j _ _ _ h _).2⟩
  · exact ⟨(mDg_j _ _ _ h _).1.trans (mDg_j _ _ _ h _).1, (mDg_j _ _ _ h _).2.trans (mDg_j _ _ _ h _).2⟩
theorem mWh_k {b n j : Int} (hn : okNum n) (hk : aI τ 72 b = 0) (hj : ¬ (15 * b ≤ j ∧ j < 15 * b + 15)) : aI (mWh τ b n) 71 j = aI τ 71 j := by
  unfold mWh mWh3 mWh2
  by_cases c : 99 < n
  · have h3 := okNum_3 hn c
    rw [if_pos c]
    generalize n / 100 % 10 = d1 at *
    generalize n / 10 % 10 = d2 at *
    generalize n % 10 = d3 at *
    have k1 := kn_mDg2 τ b 0 d1 (by omega)
    have y1 : aI (mDg τ b 0 d1.toNat) 71 j = aI τ 71 j := by rw [mDg_k, if_neg (by omega)]
    generalize mDg τ b 0 d1.toNat = τ1 at *
    have k2 := kn_mDg2 τ1 b (aI τ1 73 b + 4) d2 (by omega)
    have y2 : aI (mDg τ1 b (aI τ1 73 b + 4) d2.toNat) 71 j = aI τ1 71 j := by rw [mDg_k, if_neg (by omega)]
    generalize mDg τ1 b (aI τ1 73 b + 4) d2.toNat = τ2 at *
    rw [mDg_k, if_neg (by omega), y2, y1]
  · have h3 := okNum_2 hn c
    rw [if_neg c]
    generalize n / 10 % 10 = d1 at *
    generalize n % 10 = d2 at *
    have k1 := kn_mDg2 τ b 0 d1 (by omega)
    have y1 : aI (mDg τ b 0 d1.toNat) 71 j = aI τ 71 j := by rw [mDg_k, if_neg (by omega)]
    generalize mDg τ b 0 d1.toNat = τ1 at *
    rw [mDg_k, if_neg (by omega), y1]
theorem CE_mDg (τ : Hp) (b a : Int) : ∀ n : Nat, CE τ (mDg τ b a n)
  | 0 => CE.rf τ
  | n + 1 => (((CE_mDg τ b a n).tr (CE_qI _ _ _ (by decide))).tr (CE_qI _ _ _ (by decide))).tr (CE_qI _ _ _ (by decide))
theorem CE_mWh (τ : Hp) (b n : Int) : CE τ (mWh τ b n) := by
  unfold mWh mWh3 mWh2
  split
  · exact ((CE_mDg _ _ _ _).tr (CE_mDg _ _ _ _)).tr (CE_mDg _ _ _ _)
  · exact (CE_mDg _ _ _ _).tr (CE_mDg _ _ _ _)
theorem CE_mAdd (τ : Hp) (l n kn x y w : Int) : CE τ (mAdd τ l n kn x y w) :=
  (((((((((CE_pI τ 61 0 (by decide)).tr (CE_qI _ _ _ (by decide))).tr (CE_qI _ _ _ (by decide))).tr (CE_qI _ _ _ (by decide))).tr (CE_qI _ _ _ (by decide))).tr (CE_qI _ _ _ (by decide))).tr (CE_qI _ _ _ (by decide))).tr (CE_qI _ _ _ (by decide))).tr (CE_qI _ _ _ (by decide))).tr (CE_qI _ _ _ (by decide))
/-- a box may be hung here and there -/
theorem box_ok (hX : BX σ τ) (hL : ∀ l, 0 ≤ l → l < 4 → LR l σ τ) (hB : RB τ) (hI : MI τ) (l n kn x y w : Int) : cBoxOk σ l n kn x y w ↔ boxOk τ l n kn x y w := by
  have bs := hI.boxes_s
  have ms := hI.many_ l
  have b3 := hX.2.1
  unfold cBoxOk boxOk
  by_cases c : 0 ≤ l ∧ l < 4
  · have hl := (hL l c.1 c.2).1.1
    have d : (bE (fI σ 1402 (46 + 4 * l)) fun k => fI σ 300 (lat σ (46 + 4 * l) k) = n) ↔ bE (fI τ 1302 61) fun b => aI τ 62 b = l ∧ aI τ 63 b = n := by
      constructor
      · rintro ⟨k, k1, k2, k3⟩
        rw [hl.2.1] at k2
        obtain ⟨r1, r2, r3⟩ := hB.1 l k c.1 c.2 k1 k2
        have q0 := hI.boxAt_ (12 * l + k)
        refine ⟨aI τ 75 (12 * l + k), q0.1, r1, r2, ?_⟩
        rw [hl.2.2.1 k k1 k2] at k3
        rw [← (hX.2.2 _ q0.1 r1).2.1]
        exact k3
      · rintro ⟨b, b1, b2, b3, b4⟩
        obtain ⟨r1, r2⟩ := hB.2.1 b b1 b2
        rw [b3] at r1 r2
        have q0 := hI.along_ b
        refine ⟨aI τ 68 b, q0.1, by rw [hl.2.1]; exact r1, ?_⟩
        show fI σ 300 (lat σ (46 + 4 * l) (aI τ 68 b)) = n
        rw [hl.2.2.1 _ q0.1 r1, r2, (hX.2.2 b b1 b2).2.1]
        exact b4
    rw [b3, d, hl.2.1]
    constructor
    · rintro ⟨a1, a2, a3, a4, a5, a6, a7, a8⟩
      exact ⟨by omega, a5, a6, a4.1, a4.2, a3, by omega, by omega, a7⟩
    · rintro ⟨a1, a2, a3, a4, a5, a6, a7, a8, a9⟩
      exact ⟨c, by omega, a6, ⟨a4, a5⟩, a2, a3, a9, by omega⟩
  · constructor
    · rintro ⟨a1, -⟩
      exact absurd a1 c
    · rintro ⟨a1, -⟩
      exact absurd ⟨a1.1, by omega⟩ c
/-- entries, where the reference's rows agree -/
theorem BxE.at {i p : Int} (h : BxE σ τ i p) (ha : ∀ r, (62 ≤ r ∧ r ≤ 70) ∨ r = 72 ∨ r = 73 → aI τ' r i = aI τ r i) (hk : ∀ j, 0 ≤ j → j < aI τ 72 i → aI τ' 71 (15 * i + j) = aI τ 71 (15 * i + j)) : BxE σ τ' i p := by
  obtain ⟨g0, g1, g2, g3, g4, g5, g6, g7, g8, g9, g10, g11, g12, g13⟩ := h
  unfold BxE
  rw [ha 62 (by omega), ha 63 (by omega), ha 64 (by omega), ha 65 (by omega), ha 66 (by omega), ha 67 (by omega), ha 68 (by omega), ha 69 (by omega), ha 70 (by omega), ha 72 (by omega), ha 73 (by omega)]
  refine ⟨g0, g1, g2, g3, g4, g5, g6, g7, g8, g9, g10, g11, g12, fun o o1 o2 => ?_⟩
  rw [g13 o o1 o2]
  constructor
  · rintro ⟨r, j, r1, j1, e⟩
    exact ⟨r, j, r1, j1, by rw [hk j j1.1 j1.2]; exact e⟩
  · rintro ⟨r, j, r1, j1, e⟩
    exact ⟨r, j, r1, j1, by rw [← hk j j1.1 j1.2]; exact e⟩
/-- a loop that gets no box -/
theorem LR.at {l : Int} (h : LR l σ τ) (e74 : aI τ' 74 l = aI τ 74 l) (e75 : ∀ k, 0 ≤ k → k < aI τ 74 l → aI τ' 75 (12 * l + k) = aI τ 75 (12 * l + k)) (e76 : aI τ' 76 = aI τ 76) (e77 : aI τ' 77 = aI τ 77) (e78 : aI τ' 78 = aI τ 78) (e79 : aI τ' 79 = aI τ 79) (hb : ∀ k, 0 ≤ k → k < aI τ 74 l → BxE σ τ (aI τ 75 (12 * l + k)) (lat σ 3 (aI τ 75 (12 * l + k))) → BxE σ τ' (aI τ 75 (12 * l + k)) (lat σ 3 (aI τ 75 (12 * l + k)))) : LR l σ τ' := by
  obtain ⟨⟨⟨g1, g2, g3, g4, g5, g6, g7, g8, g9, g10, g11, g12, g13⟩, g⟩, gb⟩ := h
  unfold LR LoP
  rw [e74, e76, e77, e78, e79]
  exact ⟨⟨⟨g1, g2, fun k a b => by rw [e75 k a b]; exact g3 k a b, g4, g5, g6, g7, g8, g9, g10, g11, g12, g13⟩, g⟩, fun k a b => by rw [e75 k a b]; exact hb k a b (gb k a b)⟩
/-- what a new box holds -/
theorem cBox1_v (hw : Wf σ) {l n kn x y w L : Int} (he : (cRo n).2 = L + 4) : (fI (cBox1 σ l n kn x y w) 300 (nx σ) = n ∧ fI (cBox1 σ l n kn x y w) 301 (nx σ) = kn ∧ fI (cBox1 σ l n kn x y w) 302 (nx σ) = fI σ 1402 3 ∧ fI (cBox1 σ l n kn x y w) 303 (nx σ) = l ∧ fI (cBox1 σ l n kn x y w) 304 (nx σ) = fI σ 1402 (46 + 4 * l) ∧ fI (cBox1 σ l n kn x y w) 305 (nx σ) = x ∧ fI (cBox1 σ l n kn x y w) 306 (nx σ) = y ∧ fI (cBox1 σ l n kn x y w) 307 (nx σ) = w) ∧ (fI (cBox1 σ l n kn x y w) 308 (nx σ) = n / 100 % 10 + n / 10 % 10 + n % 10 ∧ fI (cBox1 σ l n kn x y w) 309 (nx σ) = 3 * L + 15 ∧ fI (cBox1 σ l n kn x y w) 312 (nx σ) = 0 ∧ fI (cBox1 σ l n kn x y w) 313 (nx σ) = -1) ∧ fI (cBox1 σ l n kn x y w) 3001 0 = fI σ 3001 0 := by
  obtain ⟨z1, -⟩ := hw.2.2.2 (nx σ) (Int.le_refl _)
  have n0 : ¬ (0 : Int) = nx σ := by have := hw.1; omega
  obtain ⟨-, -, -, -, -, -, -, -, a9⟩ := cWhl_s (pI (pI (pI (mk σ 3 0) 313 (nx σ) (-1)) 300 (nx σ) n) 301 (nx σ) kn) (nx σ) n
  have w8 : fI (cWhl (pI (pI (pI (mk σ 3 0) 313 (nx σ) (-1)) 300 (nx σ) n) 301 (nx σ) kn) (nx σ) n) 308 (nx σ) = n / 100 % 10 + n / 10 % 10 + n % 10 := by
    unfold cWhl
    rw [fI_pI, if_neg (fun q => absurd q.1 (by decide)), (cRnd_s _ _ _ _).2.2.2.1, (cRnd_s _ _ _ _).2.2.2.1, (cRnd_s _ _ _ _).2.2.2.1]
    unfold cK3 cKn
    simp only [fI_pI, fI_mk, Nat.reduceEqDiff, false_and, if_false, true_and, and_self, if_true]
    rw [z1]
    omega
  have w9' : fI (cWhl (pI (pI (pI (mk σ 3 0) 313 (nx σ) (-1)) 300 (nx σ) n) 301 (nx σ) kn) (nx σ) n) 309 (nx σ) = 3 * L + 15 := by
    unfold cWhl
    rw [fI_pI, if_pos ⟨rfl, rfl⟩, he]
    omega
  unfold cBox1
  refine ⟨⟨?_, ?_, ?_, ?_, ?_, ?_, ?_, ?_⟩, ⟨?_, ?_, ?_, ?_⟩, ?_⟩
  · simp only [fI_pI, Nat.reduceEqDiff, false_and, if_false]
    rw [a9 _ _ (by omega)]
    simp only [fI_pI, Nat.reduceEqDiff, false_and, if_false, and_self, if_true]
  · simp only [fI_pI, Nat.reduceEqDiff, false_and, if_false]
    rw [a9 _ _ (by omega)]
    simp only [fI_pI, Nat.reduceEqDiff, false_and, if_false, and_self, if_true]
  · simp only [fI_pI, Nat.reduceEqDiff, false_and, if_false, and_self, if_true]
  · simp only [fI_pI, Nat.reduceEqDiff, false_and, if_false, and_self, if_true]
  · simp only [fI_pI, Nat.reduceEqDiff, false_and, if_false, and_self, if_true]
  · simp only [fI_pI, Nat.reduceEqDiff, false_and, if_false, and_self, if_true]
  · simp only [fI_pI, Nat.reduceEqDiff, false_and, if_false, and_self, if_true]
  · simp only [fI_pI, Nat.reduceEqDiff, false_and, if_false, and_self, if_true]
  · simp only [fI_pI, Nat.reduceEqDiff, false_and, if_false]
    exact w8
  · simp only [fI_pI, Nat.reduceEqDiff, false_and, if_false]
    exact w9'
  · simp only [fI_pI, Nat.reduceEqDiff, false_and, if_false]
    rw [a9 _ _ (by omega)]
    simp only [fI_pI, fI_mk, Nat.reduceEqDiff, false_and, if_false]
    exact z1 _
  · simp only [fI_pI, Nat.reduceEqDiff, false_and, if_false]
    rw [a9 _ _ (by omega)]
    simp only [fI_pI, Nat.reduceEqDiff, false_and, if_false, and_self, if_true]
  · simp only [fI_pI, Nat.reduceEqDiff, false_and, if_false]
    rw [a9 _ _ (by omega)]
    simp only [fI_pI, fI_mk, Nat.reduceEqDiff, false_and, if_false]
theorem cBox1_w (hw : Wf σ) {l n kn x y w L o : Int} (he : (cRo n).2 = L + 4) (hL : 0 ≤ L ∧ L ≤ 32) (ho : 0 ≤ o ∧ o < 128) : whl (cBox1 σ l n kn x y w) (nx σ) o = true ↔ ∃ r, (0 ≤ r ∧ r < 3) ∧ (0 ≤ o - r * (L + 7) ∧ o - r * (L + 7) < 64) ∧ (cRo n).1.getLsbD (o - r * (L + 7)).toNat = true := by
  obtain ⟨-, z2, -⟩ := hw.2.2.2 (nx σ) (Int.le_refl _)
  have e : whl (cBox1 σ l n kn x y w) (nx σ) o = whl (cWhl (pI (pI (pI (mk σ 3 0) 313 (nx σ) (-1)) 300 (nx σ) n) 301 (nx σ) kn) (nx σ) n) (nx σ) o := by
    unfold whl cBox1
    simp only [fL_pI]
  rw [e]
  exact whl_cut he hL ⟨z2 _, z2 _⟩ ho
theorem cBox1_kp (hw : Wf σ) (l n kn x y w : Int) : Kp (fun _ => False) (fun _ => False) σ (cBox1 σ l n kn x y w) := by
  obtain ⟨-, b2, -, b4, b5, b6, b7, b8, b9⟩ := cBox1_s σ l n kn x y w
  refine ⟨fun k hk => ?_, by rw [b4]⟩
  have hn : ¬ k = nx σ := by have := hw.bel k hk; omega
  exact ⟨(b2 k hn).1, (b2 k hn).2, by rw [b5], by rw [b6], fun f _ => ⟨b9 f k hn, by rw [b4]⟩, fun f => b8 f k hn, fun _ => by rw [b7]⟩
end BOX
theorem fu_box {b n l m kn x y w : Int} {σ σ2 σ3 τ : Hp} (hF : Fu b n σ) (hb : b < 0) (hw : Wf σ) (hwb : Wf (cBox1 σ l m kn x y w)) (hw2 : Wf σ2) (hw3 : Wf σ3) (c : cBoxOk σ l m kn x y w) (hA2 : Added (cBox1 σ l m kn x y w) (46 + 4 * l) (nx σ) σ2) (hL2 : LOk σ2 (46 + 4 * l) 2) (hA3 : Added σ2 3 (nx σ) σ3) (hL3 : LOk σ3 3 2) (e2 : τ = pI (mWh (mAdd σ3 l m kn x y w) (fI σ3 1302 61) m) 1302 61 (fI σ3 1302 61 + 1)) : Fu b n τ := by
  obtain ⟨⟨hC, hnw, hX, hL, hG, hA, hK, hR, hH, hT, hLT, hTX, hLD⟩, ⟨iM, iB, iF, iU, iC, iW, iA, iH, iG, iN, iS, iT⟩, hS⟩ := hF
  have bx32 : fI σ 1302 61 < 32 := by
    have h1 := c.2.1
    rw [hX.2.1] at h1
    exact h1
  have okr := (box_ok hX hL iB iM.1 l m kn x y w).mp c
  have hl : 0 ≤ l ∧ l < 4 := c.1
  have okn : okNum m := okr.2.1
  have ls0 := lists_ok hX hG hA hL
  have hnx := hw.1
  have s0b := cBox1_s σ l m kn x y w
  have z0 := cBox1_kp hw l m kn x y w
  have h121 : 120 < nx σ := hw.bel 120 (by rw [hS.1.2.1]; decide)
  obtain ⟨p, ep⟩ : ∃ q : Int, q = nx σ := ⟨_, rfl⟩
  have vb := fun (L : Int) (he : (cRo m).2 = L + 4) => cBox1_v hw (l := l) (kn := kn) (x := x) (y := y) (w := w) he
  have vw := fun (L : Int) (he : (cRo m).2 = L + 4) (hL : 0 ≤ L ∧ L ≤ 32) (o : Int) (ho : 0 ≤ o ∧ o < 128) => cBox1_w hw (l := l) (kn := kn) (x := x) (y := y) (w := w) he hL ho
  rw [← ep] at s0b hA2 hA3 h121 vb vw
  obtain ⟨σa, ea⟩ : ∃ ρ9 : Hp, ρ9 = cBox1 σ l m kn x y w := ⟨_, rfl⟩
  rw [← ea] at s0b z0 hA2 hwb vb vw
  clear ea
  obtain ⟨v1, v2, v3, -⟩ := s0b
  have C0 : CLay σa := hC.kp z0 (fun q => q) (fun q => q)
  have L0 : ∀ q ci, LOk σ q ci → LOk σa q ci ∧ fI σa 1402 q = fI σ 1402 q ∧ ∀ i, lat σa q i = lat σ q i := fun q ci h => h.kp z0 (fun q => q) (fun q => q)
  have hLl := (hL l hl.1 hl.2).1.1
  have L46 := L0 _ _ hLl.1
  have zA : Kp (fun k => k = 46 + 4 * l) (fun k => k = fR σa 1401 (46 + 4 * l)) σa σ2 := hA2.kp hwb
  have zB : Kp (fun k => k = 3) (fun k => k = fR σ2 1401 3) σ2 σ3 := hA3.kp hw2
  have C2 : CLay σ2 := C0.kp zA (fun e => by have := L46.1.2.1; rw [← e] at this; simp only [C0.eqs] at this; exact absurd this (by decide)) (fun e => by have := L46.1.2.1; rw [← e] at this; simp only [C0.eqs] at this; exact absurd this (by decide))
  have isl : isLs (46 + 4 * l) := by unfold isLs; omega
  have LD1 : LD σa := hLD.kp z0 (fun _ _ q => q) (fun q h => by obtain ⟨ci, g⟩ := ls0 q h; rw [g.1]; decide) (fun q h => by obtain ⟨ci, g⟩ := ls0 q h; rw [g.2.1]; decide)
  have LD2 : LD σ2 := LD1.add hwb.bel hA2 (fun q h => by obtain ⟨ci, g⟩ := ls0 q h; rw [(L0 q ci g).1.2.1]; decide)
  have LA : ∀ q ci, isLs q → ¬ q = 46 + 4 * l → LOk σ q ci → LOk σ2 q ci ∧ fI σ2 1402 q = fI σa 1402 q ∧ ∀ i, 0 ≤ i → i < fI σa 1402 q → lat σ2 q i = lat σa q i := fun q ci hq1 hq2 h => LOk.added hwb hA2 (L0 q ci h).1 hq2 (fun e => LD1 q (46 + 4 * l) hq1 isl hq2 e)
  have L3a := LA 3 2 (Or.inl rfl) (by omega) hX.1
  have C3 : CLay σ3 := C2.kp zB (fun e => by have := L3a.1.2.1; rw [← e] at this; simp only [C2.eqs] at this; exact absurd this (by decide)) (fun e => by have := L3a.1.2.1; rw [← e] at this; simp only [C2.eqs] at this; exact absurd this (by decide))
  have ls2 : ∀ q, isLs q → ∃ ci, LOk σ2 q ci := fun q h => by
    obtain ⟨ci, g⟩ := ls0 q h
    by_cases e : q = 46 + 4 * l
    · rw [e]
      exact ⟨_, hL2⟩
    · exact ⟨ci, (LA q ci h e g).1⟩
  have LD3 : LD σ3 := LD2.add hw2.bel hA3 (fun q h => by obtain ⟨ci, g⟩ := ls2 q h; rw [g.2.1]; decide)
  have LB : ∀ q ci, isLs q → ¬ q = 3 → LOk σ2 q ci → LOk σ3 q ci ∧ fI σ3 1402 q = fI σ2 1402 q ∧ ∀ i, 0 ≤ i → i < fI σ2 1402 q → lat σ3 q i = lat σ2 q i := fun q ci hq1 hq2 h => LOk.added hw2 hA3 h hq2 (fun e => LD2 q 3 hq1 (Or.inl rfl) hq2 e)
  have re0 : RE σ σa := z0.re iM.1.lay (fun _ _ _ q => q)
  have I1 : MI σa := MI_RE re0 iM.1
  have re2 : RE σa σ2 := zA.re I1.lay (fun k q1 q2 q3 => by omega)
  have I2 : MI σ2 := MI_RE re2 I1
  have re3 : RE σ2 σ3 := zB.re I2.lay (fun k q1 q2 q3 => by omega)
  have re : RE σ σ3 := (re0.tr re2).tr re3
  have I3 : MI σ3 := MI_RE re iM.1
  have bs := iM.1.boxes_s
  have ms := iM.1.many_ l
  have b32 : fI σ 1302 61 < 32 := by have := c.2.1; rw [hX.2.1] at this; exact this
  have m12 : aI σ 74 l < 12 := by have := c.2.2.2.2.2.2.2; rw [hLl.2.1] at this; exact this
  have bo3 : fI σ3 1302 61 = fI σ 1302 61 := (re.2 1302 (by omega) (by omega)).1
  have mn3 : aI σ3 74 = aI σ 74 := (re.1 74 (by omega) (by omega)).2.2.1
  obtain ⟨B, eB⟩ : ∃ q : Int, q = fI σ 1302 61 := ⟨_, rfl⟩
  obtain ⟨M, eM⟩ : ∃ q : Int, q = aI σ 74 l := ⟨_, rfl⟩
  rw [bo3, ← eB] at e2
  obtain ⟨ρ, er⟩ : ∃ ρ9 : Hp, ρ9 = mAdd σ3 l m kn x y w := ⟨_, rfl⟩
  have okr3 : boxOk σ3 l m kn x y w := by
    unfold boxOk at okr ⊢
    rw [bo3, mn3, (re.1 62 (by omega) (by omega)).2.2.1, (re.1 63 (by omega) (by omega)).2.2.1]
    exact okr
  have N0 := iN.1 B (by omega)
  have aρ : ∀ r j, aI ρ r j = if r = 62 ∧ j = B then l else if r = 63 ∧ j = B then m else if r = 64 ∧ j = B then kn else if r = 65 ∧ j = B then x else if r = 66 ∧ j = B then y else if r = 67 ∧ j = B then w else if r = 68 ∧ j = B then M else if r = 75 ∧ j = 12 * l + M then B else if r = 74 ∧ j = l then M + 1 else aI σ3 r j := fun r j => by
    rw [er]
    unfold mAdd
    rw [bo3, mn3, ← eB, ← eM]
    simp only [aI_qI, aI_pI]
    by_cases h74 : r = 74 ∧ j = l
    · rw [if_pos h74, if_neg (by omega), if_neg (by omega), if_neg (by omega), if_neg (by omega), if_neg (by omega), if_neg (by omega), if_neg (by omega), if_neg (by omega), if_pos h74]
    · rw [if_neg h74]
      by_cases h75 : r = 75 ∧ j = 12 * l + M
      · rw [if_pos h75, if_neg (by omega), if_neg (by omega), if_neg (by omega), if_neg (by omega), if_neg (by omega), if_neg (by omega), if_neg (by omega), if_pos h75]
      · rw [if_neg h75]
        by_cases h68 : r = 68 ∧ j = B
        · rw [if_pos h68, if_neg (by omega), if_neg (by omega), if_neg (by omega), if_neg (by omega), if_neg (by omega), if_neg (by omega), if_pos h68]
        · rw [if_neg h68]
          by_cases h67 : r = 67 ∧ j = B
          · rw [if_pos h67, if_neg (by omega), if_neg (by omega), if_neg (by omega), if_neg (by omega), if_neg (by omega), if_pos h67]
          · rw [if_neg h67]
            by_cases h66 : r = 66 ∧ j = B
            · rw [if_pos h66, if_neg (by omega), if_neg (by omega), if_neg (by omega), if_neg (by omega), if_pos h66]
            · rw [if_neg h66]
              by_cases h65 : r = 65 ∧ j = B
              · rw [if_pos h65, if_neg (by omega), if_neg (by omega), if_neg (by omega), if_pos h65]
              · rw [if_neg h65]
                by_cases h64 : r = 64 ∧ j = B
                · rw [if_pos h64, if_neg (by omega), if_neg (by omega), if_pos h64]
                · rw [if_neg h64]
                  by_cases h63 : r = 63 ∧ j = B
                  · rw [if_pos h63, if_neg (by omega), if_pos h63]
                  · rw [if_neg h63]
                    by_cases h62 : r = 62 ∧ j = B
                    · rw [if_pos h62, if_pos h62]
                    · rw [if_neg h62, if_neg h62, if_neg h63, if_neg h64, if_neg h65, if_neg h66, if_neg h67, if_neg h68, if_neg h75, if_neg h74]
  have kρ : aI ρ 72 B = 0 := by
    rw [aρ, if_neg (by omega), if_neg (by omega), if_neg (by omega), if_neg (by omega), if_neg (by omega), if_neg (by omega), if_neg (by omega), if_neg (by omega), if_neg (by omega), (re.1 72 (by omega) (by omega)).2.2.1]
    exact N0.1
  have wi := wh_is (τ := ρ) (b := B) okn kρ
  have Mρ : MI ρ := by
    rw [er]
    exact MI_mAdd I3 okr3
  have fτ : ∀ f, 1300 ≤ f → f < 1400 → ¬ f = 1302 → ¬ f = 1300 → fI τ f 61 = fI σ f 61 := fun f p1 p2 p3 p4 => by
    rw [e2, fI_pI, if_neg (fun q => p3 q.1), fI_mWh]
    unfold mAdd
    simp only [fI_qI]
    rw [fI_pI, if_neg (fun q => p4 q.1)]
    exact (re.2 f p1 p2).1
  have bT : fI τ 1302 61 = B + 1 := by
    rw [e2, fI_pI]
    exact if_pos ⟨rfl, rfl⟩
  rw [← er] at e2
  have aT : ∀ r, aI τ r = aI (mWh ρ B m) r := fun r => by rw [e2, aI_pI]
  have ce : CE σ3 τ := by
    rw [e2, er]
    exact ((CE_mAdd _ _ _ _ _ _ _).tr (CE_mWh _ _ _)).tr (CE_pI _ 61 _ (by decide))
  have mi : MI τ := by
    rw [e2]
    exact MI_boxes_p (MI_mWh Mρ okn kρ) (by omega)
  have ar : ∀ r, 62 ≤ r → r ≤ 119 → r ∉ ([62, 63, 64, 65, 66, 67, 68, 71, 72, 73, 74, 75] : List Int) → aI τ r = aI σ r := fun r p1 p2 p3 => by
    simp only [List.mem_cons, List.not_mem_nil, or_false, not_or] at p3
    obtain ⟨q1, q2, q3, q4, q5, q6, q7, q8, q9, q10, q11, q12⟩ := p3
    rw [aT, mWh_r q8 q9 q10]
    funext j
    rw [aρ, if_neg (by omega), if_neg (by omega), if_neg (by omega), if_neg (by omega), if_neg (by omega), if_neg (by omega), if_neg (by omega), if_neg (by omega), if_neg (by omega), (re.1 r (by omega) p2).2.2.1]
  have aj : ∀ r j, 62 ≤ r → r ≤ 68 → ¬ j = B → aI τ r j = aI σ r j := fun r j p1 p2 p3 => by
    rw [aT, mWh_r (by omega) (by omega) (by omega), aρ, if_neg (by omega), if_neg (by omega), if_neg (by omega), if_neg (by omega), if_neg (by omega), if_neg (by omega), if_neg (by omega), if_neg (by omega), if_neg (by omega), (re.1 r (by omega) (by omega)).2.2.1]
  have ak : ∀ r j, r = 72 ∨ r = 73 → ¬ j = B → aI τ r j = aI σ r j := fun r j p1 p3 => by
    have e : aI τ r j = aI ρ r j := by
      rw [aT]
      rcases p1 with rfl | rfl
      · exact (mWh_j p3).1
      · exact (mWh_j p3).2
    rw [e, aρ, if_neg (by omega), if_neg (by omega), if_neg (by omega), if_neg (by omega), if_neg (by omega), if_neg (by omega), if_neg (by omega), if_neg (by omega), if_neg (by omega), (re.1 r (by omega) (by omega)).2.2.1]
  have akn : ∀ j, ¬ (15 * B ≤ j ∧ j < 15 * B + 15) → aI τ 71 j = aI σ 71 j := fun j p3 => by
    rw [aT, mWh_k okn kρ p3, aρ, if_neg (by omega), if_neg (by omega), if_neg (by omega), if_neg (by omega), if_neg (by omega), if_neg (by omega), if_neg (by omega), if_neg (by omega), if_neg (by omega), (re.1 71 (by omega) (by omega)).2.2.1]
  have aat : ∀ j, ¬ j = 12 * l + M → aI τ 75 j = aI σ 75 j := fun j p3 => by
    rw [aT, mWh_r (by omega) (by omega) (by omega), aρ, if_neg (by omega), if_neg (by omega), if_neg (by omega), if_neg (by omega), if_neg (by omega), if_neg (by omega), if_neg (by omega), if_neg (by omega), if_neg (by omega), (re.1 75 (by omega) (by omega)).2.2.1]
  have aatB : aI τ 75 (12 * l + M) = B := by
    rw [aT, mWh_r (by omega) (by omega) (by omega), aρ, if_neg (by omega), if_neg (by omega), if_neg (by omega), if_neg (by omega), if_neg (by omega), if_neg (by omega), if_neg (by omega), if_pos ⟨rfl, rfl⟩]
  have amn : ∀ j, ¬ j = l → aI τ 74 j = aI σ 74 j := fun j p3 => by
    rw [aT, mWh_r (by omega) (by omega) (by omega), aρ, if_neg (by omega), if_neg (by omega), if_neg (by omega), if_neg (by omega), if_neg (by omega), if_neg (by omega), if_neg (by omega), if_neg (by omega), if_neg (by omega), (re.1 74 (by omega) (by omega)).2.2.1]
  have amnl : aI τ 74 l = M + 1 := by
    rw [aT, mWh_r (by omega) (by omega) (by omega), aρ, if_neg (by omega), if_neg (by omega), if_neg (by omega), if_neg (by omega), if_neg (by omega), if_neg (by omega), if_neg (by omega), if_neg (by omega), if_pos ⟨rfl, rfl⟩]
  have vB : aI τ 62 B = l ∧ aI τ 63 B = m ∧ aI τ 64 B = kn ∧ aI τ 65 B = x ∧ aI τ 66 B = y ∧ aI τ 67 B = w ∧ aI τ 68 B = M := by
    refine ⟨?_, ?_, ?_, ?_, ?_, ?_, ?_⟩
    · rw [aT, mWh_r (by omega) (by omega) (by omega), aρ, if_pos ⟨rfl, rfl⟩]
    · rw [aT, mWh_r (by omega) (by omega) (by omega), aρ, if_neg (by omega), if_pos ⟨rfl, rfl⟩]
    · rw [aT, mWh_r (by omega) (by omega) (by omega), aρ, if_neg (by omega), if_neg (by omega), if_pos ⟨rfl, rfl⟩]
    · rw [aT, mWh_r (by omega) (by omega) (by omega), aρ, if_neg (by omega), if_neg (by omega), if_neg (by omega), if_pos ⟨rfl, rfl⟩]
    · rw [aT, mWh_r (by omega) (by omega) (by omega), aρ, if_neg (by omega), if_neg (by omega), if_neg (by omega), if_neg (by omega), if_pos ⟨rfl, rfl⟩]
    · rw [aT, mWh_r (by omega) (by omega) (by omega), aρ, if_neg (by omega), if_neg (by omega), if_neg (by omega), if_neg (by omega), if_neg (by omega), if_pos ⟨rfl, rfl⟩]
    · rw [aT, mWh_r (by omega) (by omega) (by omega), aρ, if_neg (by omega), if_neg (by omega), if_neg (by omega), if_neg (by omega), if_neg (by omega), if_neg (by omega), if_pos ⟨rfl, rfl⟩]
  obtain ⟨w1, w2, w3, w4, w5, w6, w7⟩ := wi
  rw [← aT] at w2 w3 w4 w5 w6 w7
  simp only [← aT] at w7
  have w1' : WHb τ B (cRo m).1 := by
    unfold WHb at w1 ⊢
    rw [aT, aT]
    exact w1
  clear w1
  obtain ⟨⟨b1, b2, b3, b4, b5, b6, b7, b8⟩, ⟨b9, b10, b11, b12⟩, b13⟩ := vb _ w2
  have vw := vw _ w2 w3
  clear vb
  -- the lists
  have b3a : fI σa 1402 3 = B := (L0 3 2 hX.1).2.1.trans (hX.2.1.trans eB.symm)
  have b32' : fI σ2 1402 3 = B := L3a.2.1.trans b3a
  have l46a : fI σa 1402 (46 + 4 * l) = M := L46.2.1.trans (hLl.2.1.trans eM.symm)
  obtain ⟨t1, t2, t3, t4, t5, t6, t7, t8, t9, t10, t11, t12, t13⟩ := hA2
  obtain ⟨u1, u2, u3, u4, u5, u6, u7, u8, u9, u10, u11, u12, u13⟩ := hA3
  have lB : ∀ i, 0 ≤ i → i < B → lat σ3 3 i = lat σ 3 i := fun i p1 p2 => (u12 i p1 (by rw [b32']; exact p2)).trans ((L3a.2.2 i p1 (by rw [b3a]; exact p2)).trans ((L0 3 2 hX.1).2.2 i))
  have lB2 : ∀ i, 0 ≤ i → i < B → lat σ2 3 i = lat σa 3 i := fun i p1 p2 => L3a.2.2 i p1 (by rw [b3a]; exact p2)
  have lB3 : ∀ i, 0 ≤ i → i < B → lat σ3 3 i = lat σ2 3 i := fun i p1 p2 => u12 i p1 (by rw [b32']; exact p2)
  have lBB : lat σ3 3 B = p := by rw [← b32']; exact u13
  have kp1 : kd σa p ≠ 0 := by rw [v3]; decide
  have kp2 : kd σ2 p ≠ 0 := by rw [zA.k kp1]; exact kp1
  have fp : ∀ f, f < 1400 → fI σ3 f p = fI σa f p := fun f hf => by rw [zB.i kp2 hf, zA.i kp1 hf]
  have k1a : ∀ k, kd σ k ≠ 0 → kd σa k ≠ 0 := fun k hk => by rw [z0.k hk]; exact hk
  have k12 : ∀ k, kd σ k ≠ 0 → kd σ2 k ≠ 0 := fun k hk => by rw [zA.k (k1a k hk)]; exact k1a k hk
  have fo : ∀ f k, kd σ k ≠ 0 → f < 1400 → fI σ3 f k = fI σ f k := fun f k hk hf => by rw [zB.i (k12 k hk) hf, zA.i (k1a k hk) hf, z0.i hk hf]
  have aio : ∀ k, kd σ k ≠ 0 → aI σ3 k = aI σ k := fun k hk => by rw [zB.ai (k12 k hk), zA.ai (k1a k hk), z0.ai hk]
  have EX3 : ∀ i q, BxE σ σ i q → kd σ q ≠ 0 → BxE σ3 σ i q := fun i q h hk => ((h.kp z0 hk).kp zA (k1a q hk)).kp zB (k12 q hk)
  have old : ∀ i, 0 ≤ i → i < B → BxE σ3 τ i (lat σ 3 i) := fun i p1 p2 => by
    have kk : kd σ (lat σ 3 i) ≠ 0 := by rw [hX.k p1 (by omega)]; decide
    refine (EX3 i _ (hX.2.2 i p1 (by omega)) kk).at (fun r hr => ?_) (fun j j1 j2 => ?_)
    · by_cases q1 : r = 72 ∨ r = 73
      · exact ak r i q1 (by omega)
      · by_cases q2 : r = 69 ∨ r = 70
        · rcases q2 with rfl | rfl
          · rw [ar 69 (by omega) (by omega) (by decide)]
          · rw [ar 70 (by omega) (by omega) (by decide)]
        · exact aj r i (by omega) (by omega) (by omega)
    · have k15 := iM.1.knocks_ i
      exact akn _ (by omega)
  have new : BxE σ3 τ B p := by
    have ew : whl σ3 p = whl σa p := by
      funext o
      unfold whl
      rw [zB.j kp2, zB.j kp2, zA.j kp1, zA.j kp1]
    obtain ⟨y1, y2, y3, y4, y5, y6, y7⟩ := vB
    unfold BxE
    rw [fp 300 (by decide), fp 301 (by decide), fp 302 (by decide), fp 303 (by decide), fp 304 (by decide), fp 305 (by decide), fp 306 (by decide), fp 307 (by decide), fp 308 (by decide), fp 309 (by decide), fp 312 (by decide), fp 313 (by decide), b1, b2, b3, b4, b5, b6, b7, b8, b9, b10, b11, b12, y1, y2, y3, y4, y5, y6, y7, ar 69 (by omega) (by omega) (by decide), ar 70 (by omega) (by omega) (by decide), N0.2.2, iT.2 B (by omega) (by omega), hX.2.1, hLl.2.1, w4, ew]
    refine ⟨h121, rfl, rfl, eB.symm, rfl, eM.symm, rfl, rfl, rfl, rfl, rfl, rfl, rfl, fun o o1 o2 => ?_⟩
    rw [vw o ⟨o1, o2⟩, ← w4]
    constructor
    · rintro ⟨r, r1, r2, r3⟩
      obtain ⟨j, j1, j2⟩ := (w1' (o - r * (aI τ 73 B + 7)).toNat (by omega)).mp r3
      exact ⟨r, j, r1, j1, by rw [j2]; omega⟩
    · rintro ⟨r, j, r1, j1, e⟩
      have kk := mi.knock_ (15 * B + j)
      have eo : o - r * (aI τ 73 B + 7) = aI τ 71 (15 * B + j) := by omega
      refine ⟨r, r1, by rw [eo]; omega, (w1' (o - r * (aI τ 73 B + 7)).toNat (by rw [eo]; omega)).mpr ⟨j, j1, ?_⟩⟩
      rw [eo]
      omega
  have r_BX : BX σ3 τ := by
    refine ⟨hL3, by rw [u5, b32', bT], fun i p1 p2 => ?_⟩
    rw [bT] at p2
    by_cases e : i = B
    · rw [e, lBB]
      exact new
    · rw [lB i p1 (by omega)]
      exact old i p1 (by omega)
  have bAt : ∀ q k, 0 ≤ q → q < 4 → 0 ≤ k → k < aI σ 74 q → (0 ≤ aI σ 75 (12 * q + k) ∧ aI σ 75 (12 * q + k) < B) ∧ ¬ 12 * q + k = 12 * l + M := fun q k p1 p2 p3 p4 => by
    have a1 := iM.1.boxAt_ (12 * q + k)
    have a2 := (iB.1 q k p1 p2 p3 p4).1
    have a3 := iM.1.many_ q
    refine ⟨⟨a1.1, by omega⟩, fun e => ?_⟩
    have e1 : q = l := by omega
    rw [e1] at p4
    omega
  have L3c : ∀ q, 0 ≤ q → q < 4 → ¬ q = l → LR q σ3 σ := fun q p1 p2 p3 => by
    have g1 := (hL q p1 p2).kp hC ⟨p1, p2⟩ z0 (fun q => q) (fun q => q) (fun k _ _ => (hX.1.kp z0 (fun q => q) (fun q => q)).2.2 _)
    have la := LA (46 + 4 * q) 2 (by unfold isLs; omega) (by omega) (hL q p1 p2).1.1.1
    have g2 := g1.ad C0 ⟨p1, p2⟩ zA la (fun k q1 q2 => lB2 _ (bAt q k p1 p2 q1 q2).1.1 (bAt q k p1 p2 q1 q2).1.2)
    exact g2.ad C2 ⟨p1, p2⟩ zB (LB (46 + 4 * q) 2 (by unfold isLs; omega) (by omega) la.1) (fun k q1 q2 => lB3 _ (bAt q k p1 p2 q1 q2).1.1 (bAt q k p1 p2 q1 q2).1.2)
  have l46 : LOk σ3 (46 + 4 * l) 2 ∧ fI σ3 1402 (46 + 4 * l) = M + 1 ∧ (∀ i, 0 ≤ i → i < M → lat σ3 (46 + 4 * l) i = lat σ (46 + 4 * l) i) ∧ lat σ3 (46 + 4 * l) M = p := by
    have lb := LB (46 + 4 * l) 2 isl (by omega) hL2
    have s2 : fI σ2 1402 (46 + 4 * l) = M + 1 := by rw [t5, l46a]
    refine ⟨lb.1, lb.2.1.trans s2, fun i p1 p2 => ?_, ?_⟩
    · rw [lb.2.2 i p1 (by omega), t12 i p1 (by omega)]
      exact L46.2.2 i
    · rw [lb.2.2 M (by omega) (by omega), ← l46a]
      exact t13
  have r_LR : ∀ q, 0 ≤ q → q < 4 → LR q σ3 τ := fun q p1 p2 => by
    by_cases e : q = l
    · subst e
      obtain ⟨c1, c2, c3⟩ := lay_l hC hl
      have k1 : kd σ (45 + 4 * q) ≠ 0 := by rw [c1]; decide
      have k2 : kd σ (47 + 4 * q) ≠ 0 := by rw [c2]; decide
      have k3 : kd σ (48 + 4 * q) ≠ 0 := by rw [c3]; decide
      obtain ⟨⟨⟨g1, g2, g3, g4, g5, g6, g7, g8, g9, g10, g11, g12, g13⟩, g⟩, gb⟩ := hL q p1 p2
      have hq := (LoP.k hC hl).2.2.2.1
      have hq3 := (LoP.k C3 hl).2.2.2.1
      unfold LR LoP
      rw [amnl, ar 76 (by omega) (by omega) (by decide), ar 77 (by omega) (by omega) (by decide), ar 78 (by omega) (by omega) (by decide), ar 79 (by omega) (by omega) (by decide), aio _ k2, aio _ k3, fo _ _ k1 (by decide), fo _ _ k1 (by decide), fo _ _ k1 (by decide), fo _ _ k1 (by decide), fo _ _ k1 (by decide)]
      refine ⟨⟨⟨l46.1, l46.2.1, fun k a1 a2 => ?_, g4, g5, fun v a1 a2 => g6 v (by omega) a2, ?_, g8, g9, g10, g11, g12, g13⟩, g⟩, fun k a1 a2 => ?_⟩
      · by_cases e : k = M
        · rw [e, aatB, lBB]
          exact l46.2.2.2
        · have ba := bAt q k p1 p2 a1 (by omega)
          rw [aat _ ba.2, l46.2.2.1 k a1 (by omega), lB _ ba.1.1 ba.1.2]
          exact g3 k a1 (by omega)
      · unfold CutE at g7 ⊢
        rw [hq] at g7
        rw [hq3, aio _ k2]
        exact g7
      · by_cases e : k = M
        · rw [e, aatB, lBB]
          exact new
        · have ba := bAt q k p1 p2 a1 (by omega)
          rw [aat _ ba.2, lB _ ba.1.1 ba.1.2]
          exact old _ ba.1.1 ba.1.2
    · refine (L3c q p1 p2 e).at (amn q e) (fun k a1 a2 => aat _ (bAt q k p1 p2 a1 a2).2) (ar 76 (by omega) (by omega) (by decide)) (ar 77 (by omega) (by omega) (by decide)) (ar 78 (by omega) (by omega) (by decide)) (ar 79 (by omega) (by omega) (by decide)) (fun k a1 a2 _ => ?_)
      have ba := bAt q k p1 p2 a1 a2
      rw [lB _ ba.1.1 ba.1.2]
      exact old _ ba.1.1 ba.1.2
  have rf : Rf [1300, 1302] [62, 63, 64, 65, 66, 67, 68, 71, 72, 73, 74, 75] σ3 τ := ⟨fun f p1 p2 p3 => by
    simp only [List.mem_cons, List.not_mem_nil, or_false, not_or] at p3
    rw [fτ f p1 p2 p3.2 p3.1, (re.2 f p1 p2).1], fun r p1 p2 p3 => by rw [ar r p1 p2 p3, (re.1 r (by omega) p2).2.2.1]⟩
  have r_AL : AL σ3 τ := by
    have g1 := hA.kp hC z0 (fun q => q) (fun q => q) (fun a _ _ => (hX.1.kp z0 (fun q => q) (fun q => q)).2.2 _)
    have la := LA 28 0 (Or.inr (Or.inr (Or.inl rfl))) (by omega) hA.1
    have ab : ∀ a, 0 ≤ a → a < fI σ 1371 61 → 0 ≤ aI σ 109 a ∧ aI σ 109 a < B := fun a p1 p2 => ⟨(iM.1.alarmBox_ a).1, by have := iA a p1 p2; omega⟩
    have g2 := g1.ad C0 zA la (fun a p1 p2 => lB2 _ (ab a p1 p2).1 (ab a p1 p2).2)
    exact ((g2.ad C2 zB (LB 28 0 (Or.inr (Or.inr (Or.inl rfl))) (by omega) la.1) (fun a p1 p2 => lB3 _ (ab a p1 p2).1 (ab a p1 p2).2)).re re).rf rf (by decide) (by decide)
  have r_BG : BG σ3 τ := by
    have la := LA 18 5 (Or.inr (Or.inl rfl)) (by omega) hG.1
    exact (((((hG.kp hC z0 (fun q => q) (fun q => q)).ad C0 zA la)).ad C2 zB (LB 18 5 (Or.inr (Or.inl rfl)) (by omega) la.1)).re re).rf rf (by decide) (by decide)
  have r_DKR : DKR σ3 τ := ((((hK.kp hC z0).kp C0 zA).kp C2 zB).re re).rf rf (by decide) (by decide)
  have r_RDR : RDR σ3 τ := by
    have g := ((hR.kp hC z0).kp C0 zA).kp C2 zB
    obtain ⟨xs, ⟨h1, h2⟩, h3, h4, h5⟩ := g
    have f1 := fτ 1322 (by omega) (by omega) (by decide) (by decide)
    have f2 := fτ 1321 (by omega) (by omega) (by decide) (by decide)
    have f3 := fτ 1323 (by omega) (by omega) (by decide) (by decide)
    have f4 := fτ 1331 (by omega) (by omega) (by decide) (by decide)
    have a1 := ar 80 (by omega) (by omega) (by decide)
    have a2 := ar 81 (by omega) (by omega) (by decide)
    have ne : ∀ (i : Nat) (x : List Int), xs[i]? = some x → xs ≠ [] := fun i x h e => by rw [e] at h; cases h
    have mle : ∀ q, aI σ 74 q ≤ aI τ 74 q := fun q => by
      by_cases e : q = l
      · rw [e, amnl]
        omega
      · rw [amn q e]
        omega
    refine ⟨xs, ⟨by rw [f1]; exact h1, fun i x hx => ⟨(h2 i x hx).1, fun j p hp => ?_⟩⟩, h3, by rw [f3]; exact h4, fun q => ?_⟩
    · have g5 := h5 (ne i x hx)
      have g6 := (g5.2.2 x (List.mem_of_getElem? hx)).2.1 p (List.mem_of_getElem? hp)
      have ba := bAt (fI σ 1321 61) (p / 300) g5.1.1 (by have := g5.1.2; omega) (by omega) g6.2
      rw [a1, a2, f2, f4, aat _ ba.2]
      exact (h2 i x hx).2 j p hp
    · obtain ⟨q1, q2, q3⟩ := h5 q
      rw [f2, f3, f4]
      refine ⟨q1, q2, fun x hx => ?_⟩
      obtain ⟨y1, y2, y3⟩ := q3 x hx
      exact ⟨y1, fun p hp => ⟨(y2 p hp).1, by have := (y2 p hp).2; have := mle (fI σ 1321 61); omega⟩, y3⟩
  have r_TG : TGr σ3 := ((hT.kp hC z0).kp C0 zA).kp C2 zB
  have r_LTT : LTT σ3 := ((hLT.kp hC z0).kp C0 zA).kp C2 zB
  have s0 : S21 σa := hwb.s21
  have n2 := hw2.1
  have n1 := hwb.1
  have r_TXT : TXT σ3 := ((hTX.kp hw.s21 s0 z0 (fun _ _ q => q) (fun k hk => (v2 k (by omega)).1) b13).kp s0 hw2.s21 zA (fun k hk q => by omega) (fun k hk => (t2 k (by omega)).1) (t4 3001 0 (by omega))).kp hw2.s21 hw3.s21 zB (fun k hk q => by omega) (fun k hk => (u2 k (by omega)).1) (u4 3001 0 (by omega))
  have c1 : kd σ 1 ≠ 0 := by simp only [hC.eqs]; decide
  have c24 : kd σ 24 ≠ 0 := by simp only [hC.eqs]; decide
  have c25 : kd σ 25 ≠ 0 := by simp only [hC.eqs]; decide
  have r_now : fI σ3 1210 1 = fI τ 1301 61 := by
    rw [fo 1210 1 c1 (by decide), hnw]
    exact (fτ 1301 (by omega) (by omega) (by decide) (by decide)).symm
  have r_held : fI σ3 901 24 = fI τ 1343 61 ∧ aI σ3 25 = aI τ 92 := by
    rw [fo 901 24 c24 (by decide), aio 25 c25, ar 92 (by omega) (by omega) (by decide), fτ 1343 (by omega) (by omega) (by decide) (by decide)]
    exact hH
  have S3 : Scp σ3 b n := ((hS.kp z0).kp zA).kp zB
  have i_RB : RB τ := by
    refine ⟨fun q k p1 p2 p3 p4 => ?_, fun j p1 p2 => ?_, fun j p1 p2 => ?_⟩
    · by_cases e : q = l ∧ k = M
      · rw [e.1, e.2, aatB, bT]
        exact ⟨by omega, vB.1, vB.2.2.2.2.2.2⟩
      · have p5 : k < aI σ 74 q := by
          by_cases e1 : q = l
          · rw [e1, amnl] at p4
            rw [e1]
            have : ¬ k = M := fun u => e ⟨e1, u⟩
            omega
          · rw [amn q e1] at p4
            exact p4
        have ba := bAt q k p1 p2 p3 p5
        obtain ⟨r1, r2, r3⟩ := iB.1 q k p1 p2 p3 p5
        rw [aat _ ba.2, bT, aj 62 _ (by omega) (by omega) (by omega), aj 68 _ (by omega) (by omega) (by omega)]
        exact ⟨by omega, r2, r3⟩
    · rw [bT] at p2
      by_cases e : j = B
      · rw [e, vB.1, vB.2.2.2.2.2.2, amnl, aatB]
        exact ⟨by omega, rfl⟩
      · obtain ⟨r1, r2⟩ := iB.2.1 j p1 (by omega)
        have l0 := iM.1.loop_ j
        have a0 := iM.1.along_ j
        have ba := bAt _ _ l0.1 (by omega) a0.1 r1
        rw [aj 62 _ (by omega) (by omega) e, aj 68 _ (by omega) (by omega) e, aat _ ba.2]
        refine ⟨?_, r2⟩
        by_cases e1 : aI σ 62 j = l
        · rw [e1] at r1 ⊢
          rw [amnl]
          omega
        · rw [amn _ e1]
          exact r1
    · rw [bT] at p2
      by_cases e : j = B
      · rw [e]
        exact ⟨w3.2, w7⟩
      · obtain ⟨r1, r2⟩ := iB.2.2 j p1 (by omega)
        have k15 := iM.1.knocks_ j
        rw [ak 72 j (Or.inl rfl) e, ak 73 j (Or.inr rfl) e]
        exact ⟨r1, fun i i1 i2 => by rw [akn _ (by omega)]; exact r2 i i1 i2⟩
  have i_kF : kFirst τ := by
    intro q k p1 p2
    by_cases e : q = l ∧ k = M
    · rw [e.1, e.2, aatB]
      exact ⟨by omega, w6⟩
    · have p5 : k < aI σ 74 q := by
        by_cases e1 : q = l
        · rw [e1, amnl] at p2
          rw [e1]
          have : ¬ k = M := fun u => e ⟨e1, u⟩
          omega
        · rw [amn q e1] at p2
          exact p2.2
      have ba := bAt q k p1.1 p1.2 p2.1 p5
      obtain ⟨r1, r2⟩ := iF q k p1 ⟨p2.1, p5⟩
      rw [aat _ ba.2, ak 72 _ (Or.inl rfl) (by omega), akn _ (by omega)]
      exact ⟨r1, r2⟩
  have i_AB : AB τ := by
    intro a p1 p2
    rw [fτ 1371 (by omega) (by omega) (by decide) (by decide)] at p2
    rw [bT, ar 109 (by omega) (by omega) (by decide)]
    have := iA a p1 p2
    omega
  have i_WG : WG τ := by
    intro j p1 p2 p3
    rw [bT] at p2
    rw [ar 70 (by omega) (by omega) (by decide)] at p3
    have e : ¬ j = B := fun e => p3 (by rw [e]; exact N0.2.2)
    have g := iG j p1 (by omega) p3
    unfold mGoing mGo at *
    rw [fτ 1301 (by omega) (by omega) (by decide) (by decide), ar 69 (by omega) (by omega) (by decide), ak 73 j (Or.inr rfl) e]
    exact g
  have i_InN : InN τ := by
    obtain ⟨n0, n2, n3, n4⟩ := iN
    refine ⟨fun j q => ?_, ?_, ?_, ?_⟩
    · rw [bT] at q
      rw [ak 72 j (Or.inl rfl) (by omega), ak 73 j (Or.inr rfl) (by omega), ar 70 (by omega) (by omega) (by decide)]
      exact n0 j (by omega)
    · rw [fτ 1371 (by omega) (by omega) (by decide) (by decide), ar 112 (by omega) (by omega) (by decide), ar 113 (by omega) (by omega) (by decide), ar 114 (by omega) (by omega) (by decide), ar 115 (by omega) (by omega) (by decide)]
      exact n2
    · rw [fτ 1322 (by omega) (by omega) (by decide) (by decide), fτ 1321 (by omega) (by omega) (by decide) (by decide)]
      exact n3
    · rw [fτ 1301 (by omega) (by omega) (by decide) (by decide), ar 114 (by omega) (by omega) (by decide)]
      exact n4
  have i_lT : lT τ := by
    refine ⟨?_, fun j q q32 => ?_⟩
    · unfold lT0
      rw [fτ 1352 (by omega) (by omega) (by decide) (by decide), ar 96 (by omega) (by omega) (by decide)]
      exact iT.1
    · rw [bT] at q
      rw [ar 69 (by omega) (by omega) (by decide)]
      exact iT.2 j (by omega) q32
  have rel : Rel σ3 τ := ⟨C3, r_now, r_BX, r_LR, r_BG, r_AL, r_DKR, r_RDR, r_held, r_TG, r_LTT, r_TXT, LD3⟩
  exact ⟨rel.ce (fun r q => hw3.s21 r (Or.inr q)) ce, ⟨(iM.re re).rf rf mi (by decide) (by decide), i_RB, i_kF, (iU.re re).rf rf (by decide), (iC.re re).rf rf (by decide) (by decide), (iW.re re).rf rf (by decide) (by decide), i_AB, (iH.re re).rf rf (by decide) (by decide), i_WG, i_InN, (iS.re re).rf rf (by decide) (by decide), i_lT⟩, S3.ce hb ce⟩
