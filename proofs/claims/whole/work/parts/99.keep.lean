/-! what stays when new things are made, or a list grows -/

/-- everything that lay there stays, but for the heads P of lists and their rows A -/
def Kp (P A : Int → Prop) (σ σ' : Hp) : Prop :=
  (∀ k, kd σ k ≠ 0 → kd σ' k = kd σ k ∧ ln σ' k = ln σ k ∧ aI σ' k = aI σ k ∧ aL σ' k = aL σ k ∧ (∀ f, ¬ (P k ∧ 1400 ≤ f) → fI σ' f k = fI σ f k ∧ fR σ' f k = fR σ f k) ∧ (∀ f, fL σ' f k = fL σ f k) ∧ (¬ A k → aR σ' k = aR σ k)) ∧ fR σ' 3000 0 = fR σ 3000 0
theorem Kp.k {P A : Int → Prop} {σ σ' : Hp} (z : Kp P A σ σ') {k : Int} (hk : kd σ k ≠ 0) : kd σ' k = kd σ k := (z.1 k hk).1
theorem Kp.l {P A : Int → Prop} {σ σ' : Hp} (z : Kp P A σ σ') {k : Int} (hk : kd σ k ≠ 0) : ln σ' k = ln σ k := (z.1 k hk).2.1
theorem Kp.ai {P A : Int → Prop} {σ σ' : Hp} (z : Kp P A σ σ') {k : Int} (hk : kd σ k ≠ 0) : aI σ' k = aI σ k := (z.1 k hk).2.2.1
theorem Kp.al {P A : Int → Prop} {σ σ' : Hp} (z : Kp P A σ σ') {k : Int} (hk : kd σ k ≠ 0) : aL σ' k = aL σ k := (z.1 k hk).2.2.2.1
theorem Kp.i {P A : Int → Prop} {σ σ' : Hp} (z : Kp P A σ σ') {k : Int} {f : Nat} (hk : kd σ k ≠ 0) (hf : f < 1400) : fI σ' f k = fI σ f k := ((z.1 k hk).2.2.2.2.1 f (by omega)).1
theorem Kp.r {P A : Int → Prop} {σ σ' : Hp} (z : Kp P A σ σ') {k : Int} {f : Nat} (hk : kd σ k ≠ 0) (hf : f < 1400) : fR σ' f k = fR σ f k := ((z.1 k hk).2.2.2.2.1 f (by omega)).2
theorem Kp.j {P A : Int → Prop} {σ σ' : Hp} (z : Kp P A σ σ') {k : Int} {f : Nat} (hk : kd σ k ≠ 0) : fL σ' f k = fL σ f k := (z.1 k hk).2.2.2.2.2.1 f
theorem Kp.e {P A : Int → Prop} {σ σ' : Hp} (z : Kp P A σ σ') {k : Int} (hk : kd σ k ≠ 0) (hA : ¬ A k) : aR σ' k = aR σ k := (z.1 k hk).2.2.2.2.2.2 hA
theorem Kp.tr {P A : Int → Prop} {σ τ ρ : Hp} (z : Kp P A σ τ) (y : Kp P A τ ρ) : Kp P A σ ρ := ⟨fun k hk => by
    have hk2 : kd τ k ≠ 0 := by rw [z.k hk]; exact hk
    obtain ⟨a1, a2, a3, a4, a5, a6, a7⟩ := z.1 k hk
    obtain ⟨b1, b2, b3, b4, b5, b6, b7⟩ := y.1 k hk2
    exact ⟨b1.trans a1, b2.trans a2, b3.trans a3, b4.trans a4, fun f q => ⟨(b5 f q).1.trans (a5 f q).1, (b5 f q).2.trans (a5 f q).2⟩, fun f => (b6 f).trans (a6 f), fun q => (b7 q).trans (a7 q)⟩, y.2.trans z.2⟩
theorem Kp.up {P A P' A' : Int → Prop} {σ τ : Hp} (z : Kp P A σ τ) (hP : ∀ k, P k → P' k) (hA : ∀ k, A k → A' k) : Kp P' A' σ τ := ⟨fun k hk => by
    obtain ⟨a1, a2, a3, a4, a5, a6, a7⟩ := z.1 k hk
    exact ⟨a1, a2, a3, a4, fun f q => a5 f (fun y => q ⟨hP k y.1, y.2⟩), a6, fun q => a7 (fun y => q (hA k y))⟩, z.2⟩
theorem Added.kp {σ σ' : Hp} {p x : Int} (hw : Wf σ) (h : Added σ p x σ') : Kp (fun k => k = p) (fun k => k = fR σ 1401 p) σ σ' := by
  obtain ⟨-, a2, -, a4, -, a6, a7, a8, a9, a10, -⟩ := h
  refine ⟨fun k hk => ?_, a7 _ _ (by omega)⟩
  have hn := (hw.2.1 k hk).2.1
  exact ⟨(a2 k hn).1, (a2 k hn).2, by rw [a8], by rw [a9], fun f q => ⟨a4 f k (by omega), a7 f k (by omega)⟩, fun f => by rw [a6], fun q => funext fun j => a10 k j hn q⟩
theorem LOk.kp {P A : Int → Prop} {σ σ' : Hp} {p : Int} {ci : Nat} (h : LOk σ p ci) (z : Kp P A σ σ') (hP : ¬ P p) (hA : ¬ A (fR σ 1401 p)) : LOk σ' p ci ∧ fI σ' 1402 p = fI σ 1402 p ∧ ∀ i, lat σ' p i = lat σ p i := by
  obtain ⟨l1, l2, l3, l4, l5, l6⟩ := h
  have hk : kd σ p ≠ 0 := by rw [l1]; decide
  have hk2 : kd σ (fR σ 1401 p) ≠ 0 := by rw [l2]; decide
  have e1 := ((z.1 p hk).2.2.2.2.1 1401 (fun q => hP q.1)).2
  have e2 := ((z.1 p hk).2.2.2.2.1 1402 (fun q => hP q.1)).1
  refine ⟨?_, e2, fun i => ?_⟩
  · unfold LOk
    rw [e1, e2, z.2, z.k hk, z.k hk2, z.l hk2, z.e hk2 hA]
    exact ⟨l1, l2, l3, l4, l5, fun j a b => by
      rw [z.k (by rw [l6 j a b]; omega)]
      exact l6 j a b⟩
  · unfold lat
    rw [e1, z.e hk2 hA]
theorem CLay.kp {P A : Int → Prop} {σ σ' : Hp} (h : CLay σ) (z : Kp P A σ σ') (hA : ¬ A 2) (hA7 : ¬ A 7) : CLay σ' := by
  have k7 : kd σ 7 ≠ 0 := by simp only [h.eqs]; decide
  have e7 := z.e k7 hA7
  have k2 : kd σ 2 ≠ 0 := by simp only [h.eqs]; decide
  have e2 := z.e k2 hA
  unfold CLay
  simp (disch := first | decide | (simp only [h.eqs]; decide)) only [z.k, z.l, z.r, e2, e7, h.eqs, and_self, true_and]
theorem BX.kp {P A : Int → Prop} {σ σ' τ : Hp} (h : BX σ τ) (z : Kp P A σ σ') (hP : ¬ P 3) (hA : ¬ A (fR σ 1401 3)) : BX σ' τ := by
  have L := h.1.kp z hP hA
  refine ⟨L.1, L.2.1.trans h.2.1, fun i q1 q2 => ?_⟩
  rw [L.2.2]
  have kc : kd σ (lat σ 3 i) ≠ 0 := fun q => absurd ((h.1.2.2.2.2.2 i q1 (by rw [h.2.1]; exact q2)).symm.trans q) (by decide)
  have hb := h.2.2 i q1 q2
  generalize lat σ 3 i = p at *
  have e : ∀ f, f < 1400 → fI σ' f p = fI σ f p := fun f hf => z.i kc hf
  have ew : whl σ' p = whl σ p := by
    funext o
    unfold whl
    rw [z.j kc, z.j kc]
  unfold BxE at *
  simp only [ew, e 300 (by decide), e 301 (by decide), e 302 (by decide), e 303 (by decide), e 304 (by decide), e 305 (by decide), e 306 (by decide), e 307 (by decide), e 308 (by decide), e 309 (by decide), e 312 (by decide), e 313 (by decide)]
  exact hb
theorem BG.kp {P A : Int → Prop} {σ σ' τ : Hp} (h : BG σ τ) (hC : CLay σ) (z : Kp P A σ σ') (hP : ¬ P 18) (hA : ¬ A (fR σ 1401 18)) : BG σ' τ := by
  have L := h.1.kp z hP hA
  have k15 : kd σ 15 ≠ 0 := by simp only [hC.eqs]; decide
  have k16 : kd σ 16 ≠ 0 := by simp only [hC.eqs]; decide
  have k17 : kd σ 17 ≠ 0 := by simp only [hC.eqs]; decide
  obtain ⟨h1, h2, h3, h4, h5, h6, h7, h8⟩ := h
  refine ⟨L.1, L.2.1.trans h2, fun i q1 q2 => ?_, fun c d a b e => by rw [L.2.2, L.2.2]; exact h4 c d a b e, by rw [z.i k15 (by decide)]; exact h5, fun u => by rw [z.ai k16, z.ai k17]; exact h6 u, by rw [z.i k15 (by decide)]; exact h7, by rw [z.i k15 (by decide)]; exact h8⟩
  rw [L.2.2]
  have kc : kd σ (lat σ 18 i) ≠ 0 := fun q => absurd ((h1.2.2.2.2.2 i q1 (by rw [h2]; exact q2)).symm.trans q) (by decide)
  have hb := h3 i q1 q2
  generalize lat σ 18 i = p at *
  have e : ∀ f, f < 1400 → fI σ' f p = fI σ f p := fun f hf => z.i kc hf
  unfold CoE at *
  simp only [e 600 (by decide), e 601 (by decide), e 603 (by decide), e 604 (by decide), e 602 (by decide)]
  exact hb
theorem AL.kp {P A : Int → Prop} {σ σ' τ : Hp} (h : AL σ τ) (hC : CLay σ) (z : Kp P A σ σ') (hP : ¬ P 28) (hA : ¬ A (fR σ 1401 28)) (h3 : ∀ a, 0 ≤ a → a < fI τ 1371 61 → lat σ' 3 (aI τ 109 a) = lat σ 3 (aI τ 109 a)) : AL σ' τ := by
  have L := h.1.kp z hP hA
  have k27 : kd σ 27 ≠ 0 := by simp only [hC.eqs]; decide
  have k29 : kd σ 29 ≠ 0 := by simp only [hC.eqs]; decide
  have k30 : kd σ 30 ≠ 0 := by simp only [hC.eqs]; decide
  have k31 : kd σ 31 ≠ 0 := by simp only [hC.eqs]; decide
  obtain ⟨g1, g2, g3, g4, g5, g6⟩ := h
  refine ⟨L.1, L.2.1.trans g2, fun i q1 q2 => ?_, fun c d a b e => by rw [L.2.2, L.2.2]; exact g4 c d a b e, fun u => by rw [z.ai k29, z.ai k30, z.ai k31]; exact g5 u, by rw [z.i k27 (by decide)]; exact g6⟩
  rw [L.2.2]
  have kc : kd σ (lat σ 28 i) ≠ 0 := fun q => absurd ((g1.2.2.2.2.2 i q1 (by rw [g2]; exact q2)).symm.trans q) (by decide)
  have hb := g3 i q1 q2
  have h3 := h3 i q1 q2
  generalize lat σ 28 i = p at *
  have e : ∀ f, f < 1400 → fI σ' f p = fI σ f p := fun f hf => z.i kc hf
  have er : ∀ f, f < 1400 → fR σ' f p = fR σ f p := fun f hf => z.r kc hf
  have kp : kd σ (p + 1) ≠ 0 := by rw [hb.2.2.2.2.1]; decide
  unfold AlE at *
  simp only [h3, z.k kp, z.l kp, z.ai kp, er 100 (by decide), er 102 (by decide), e 101 (by decide), e 103 (by decide), e 104 (by decide), e 105 (by decide), e 106 (by decide), e 107 (by decide)]
  exact hb
theorem DKR.kp {P A : Int → Prop} {σ σ' τ : Hp} (h : DKR σ τ) (hC : CLay σ) (z : Kp P A σ σ') : DKR σ' τ := by
  have k1 : kd σ 1 ≠ 0 := by simp only [hC.eqs]; decide
  have k26 : kd σ 26 ≠ 0 := by simp only [hC.eqs]; decide
  obtain ⟨xs, hA, D, D2, hD, h1, h2, h3, h4⟩ := h
  have dk : DkO σ D := DkO.of hC (by omega)
  obtain ⟨d0, -, ⟨d1, -⟩, ⟨d2, -⟩, ⟨d3, -⟩, ⟨d4, -⟩, -⟩ := dk
  have j0 : kd σ D ≠ 0 := by rw [d0]; decide
  have j1 : kd σ (D + 1) ≠ 0 := by rw [d1]; decide
  have j2 : kd σ (D + 2) ≠ 0 := by rw [d2]; decide
  have j3 : kd σ (D + 3) ≠ 0 := by rw [d3]; decide
  have j4 : kd σ (D + 4) ≠ 0 := by rw [d4]; decide
  refine ⟨xs, hA, D, D2, hD, by rw [z.r k1 (by decide)]; exact h1, by rw [z.r k26 (by decide)]; exact h2, ?_, fun i x hx => ?_⟩
  · unfold DkL at *
    rw [z.i j0 (by decide), z.ai j3, z.ai j4]
    exact h3
  · rw [z.ai j1, z.ai j2]
    exact h4 i x hx
