/-! new objects: what they leave of each piece -/

section KPS
variable {P A : Int → Prop} {σ σ' τ : Hp}
theorem lay_k (h : MLay σ) : ∀ k, 61 ≤ k → k ≤ 119 → kd σ k ≠ 0 := by
  intro k a b
  have q : k = 61 ∨ k = 62 ∨ k = 63 ∨ k = 64 ∨ k = 65 ∨ k = 66 ∨ k = 67 ∨ k = 68 ∨ k = 69 ∨ k = 70 ∨ k = 71 ∨ k = 72 ∨ k = 73 ∨ k = 74 ∨ k = 75 ∨ k = 76 ∨ k = 77 ∨ k = 78 ∨ k = 79 ∨ k = 80 ∨ k = 81 ∨ k = 82 ∨ k = 83 ∨ k = 84 ∨ k = 85 ∨ k = 86 ∨ k = 87 ∨ k = 88 ∨ k = 89 ∨ k = 90 ∨ k = 91 ∨ k = 92 ∨ k = 93 ∨ k = 94 ∨ k = 95 ∨ k = 96 ∨ k = 97 ∨ k = 98 ∨ k = 99 ∨ k = 100 ∨ k = 101 ∨ k = 102 ∨ k = 103 ∨ k = 104 ∨ k = 105 ∨ k = 106 ∨ k = 107 ∨ k = 108 ∨ k = 109 ∨ k = 110 ∨ k = 111 ∨ k = 112 ∨ k = 113 ∨ k = 114 ∨ k = 115 ∨ k = 116 ∨ k = 117 ∨ k = 118 ∨ k = 119 := by omega
  rcases q with rfl | rfl | rfl | rfl | rfl | rfl | rfl | rfl | rfl | rfl | rfl | rfl | rfl | rfl | rfl | rfl | rfl | rfl | rfl | rfl | rfl | rfl | rfl | rfl | rfl | rfl | rfl | rfl | rfl | rfl | rfl | rfl | rfl | rfl | rfl | rfl | rfl | rfl | rfl | rfl | rfl | rfl | rfl | rfl | rfl | rfl | rfl | rfl | rfl | rfl | rfl | rfl | rfl | rfl | rfl | rfl | rfl | rfl | rfl <;> simp only [h.eqs] <;> decide
theorem Kp.re (z : Kp P A σ σ') (hI : MLay σ) (hP : ∀ k, 61 ≤ k → k ≤ 119 → ¬ P k) : RE σ σ' := by
  have e := lay_k hI
  refine ⟨fun k a b => ⟨z.k (e k a b), z.l (e k a b), z.ai (e k a b), z.al (e k a b)⟩, fun f a b => ?_⟩
  have k61 := e 61 (by omega) (by omega)
  exact ⟨z.i k61 (by omega), z.j k61, z.r k61 (by omega)⟩
theorem BxE.kp {i p : Int} (hb : BxE σ τ i p) (z : Kp P A σ σ') (kc : kd σ p ≠ 0) : BxE σ' τ i p := by
  have e : ∀ f, f < 1400 → fI σ' f p = fI σ f p := fun f hf => z.i kc hf
  have ew : whl σ' p = whl σ p := by
    funext o
    unfold whl
    rw [z.j kc, z.j kc]
  unfold BxE at *
  simp only [ew, e 300 (by decide), e 301 (by decide), e 302 (by decide), e 303 (by decide), e 304 (by decide), e 305 (by decide), e 306 (by decide), e 307 (by decide), e 308 (by decide), e 309 (by decide), e 312 (by decide), e 313 (by decide)]
  exact hb
theorem lay_l (hC : CLay σ) {l : Int} (hl : 0 ≤ l ∧ l < 4) : kd σ (45 + 4 * l) = 10 ∧ kd σ (47 + 4 * l) = 103 ∧ kd σ (48 + 4 * l) = 101 := by
  have q : l = 0 ∨ l = 1 ∨ l = 2 ∨ l = 3 := by omega
  rcases q with rfl | rfl | rfl | rfl
  · exact ⟨(by simp only [hC.eqs] : kd σ 45 = 10), (by simp only [hC.eqs] : kd σ 47 = 103), (by simp only [hC.eqs] : kd σ 48 = 101)⟩
  · exact ⟨(by simp only [hC.eqs] : kd σ 49 = 10), (by simp only [hC.eqs] : kd σ 51 = 103), (by simp only [hC.eqs] : kd σ 52 = 101)⟩
  · exact ⟨(by simp only [hC.eqs] : kd σ 53 = 10), (by simp only [hC.eqs] : kd σ 55 = 103), (by simp only [hC.eqs] : kd σ 56 = 101)⟩
  · exact ⟨(by simp only [hC.eqs] : kd σ 57 = 10), (by simp only [hC.eqs] : kd σ 59 = 103), (by simp only [hC.eqs] : kd σ 60 = 101)⟩
theorem LR.kp {l : Int} (h : LR l σ τ) (hC : CLay σ) (hl : 0 ≤ l ∧ l < 4) (z : Kp P A σ σ') (hP : ¬ P (46 + 4 * l)) (hA : ¬ A (fR σ 1401 (46 + 4 * l))) (h3 : ∀ k, 0 ≤ k → k < aI τ 74 l → lat σ' 3 (aI τ 75 (12 * l + k)) = lat σ 3 (aI τ 75 (12 * l + k))) : LR l σ' τ := by
  obtain ⟨c1, c2, c3⟩ := lay_l hC hl
  have k1 : kd σ (45 + 4 * l) ≠ 0 := by rw [c1]; decide
  have k2 : kd σ (47 + 4 * l) ≠ 0 := by rw [c2]; decide
  have k3 : kd σ (48 + 4 * l) ≠ 0 := by rw [c3]; decide
  obtain ⟨⟨⟨g1, g2, g3, g4, g5, g6, g7, g8, g9, g10, g11, g12, g13⟩, g⟩, gb⟩ := h
  have L := g1.kp z hP hA
  have hq := (LoP.k hC hl).2.2.2.1
  refine ⟨⟨⟨L.1, L.2.1.trans g2, fun k a b => by rw [L.2.2, h3 k a b]; exact g3 k a b, by rw [z.ai k2]; exact g4, by rw [z.ai k2]; exact g5, g6, ?_, by rw [z.ai k3]; exact g8, by rw [z.ai k3]; exact g9, by rw [z.i k1 (by decide)]; exact g10, by rw [z.i k1 (by decide)]; exact g11, by rw [z.i k1 (by decide)]; exact g12, g13⟩, by rw [z.i k1 (by decide)]; exact g⟩, fun k a b => ?_⟩
  · rw [z.i k1 (by decide), z.i k1 (by decide)]
    unfold CutE at *
    rw [z.r k1 (by decide)]
    rw [hq] at g7 ⊢
    rw [z.ai k2]
    exact g7
  · rw [h3 k a b]
    refine (gb k a b).kp z ?_
    have q := g3 k a b
    rw [← q]
    have := g1.2.2.2.2.2 k a (by rw [g2]; exact b)
    unfold lat
    rw [this]
    decide
theorem RDR.kp (h : RDR σ τ) (hC : CLay σ) (z : Kp P A σ σ') : RDR σ' τ := by
  have k4 : kd σ 4 ≠ 0 := by simp only [hC.eqs]; decide
  have k14 : kd σ 14 ≠ 0 := by simp only [hC.eqs]; decide
  obtain ⟨xs, h1, ⟨q1, q2, q3⟩, h3, h4⟩ := h
  refine ⟨xs, h1, ⟨by rw [z.i k4 (by decide)]; exact q1, q2, fun i k hi => by rw [z.al k14]; exact q3 i k hi⟩, by rw [z.i k4 (by decide)]; exact h3, fun q => ?_⟩
  rw [z.r k4 (by decide), z.i k4 (by decide)]
  exact h4 q
theorem LTT.kp (h : LTT σ) (hC : CLay σ) (z : Kp P A σ σ') : LTT σ' := by
  have k24 : kd σ 24 ≠ 0 := by simp only [hC.eqs]; decide
  have k25 : kd σ 25 ≠ 0 := by simp only [hC.eqs]; decide
  unfold LTT at *
  rw [z.i k24 (by decide), z.ai k25]
  exact h
theorem TGr.kp (h : TGr σ) (hC : CLay σ) (z : Kp P A σ σ') : TGr σ' := by
  have k22 : kd σ 22 ≠ 0 := by simp only [hC.eqs]; decide
  have k23 : kd σ 23 ≠ 0 := by simp only [hC.eqs]; decide
  unfold TGr at *
  rw [z.ai k22, z.ai k23]
  exact h
theorem Scp.kp {b n : Int} (h : Scp σ b n) (z : Kp P A σ σ') : Scp σ' b n := by
  have kb : kd σ b ≠ 0 := by rw [h.1.1]; decide
  have ko : kd σ 120 ≠ 0 := by rw [h.1.2.1]; decide
  unfold Scp at *
  rw [z.k kb, z.l kb, z.ai kb, z.k ko, z.l ko]
  exact h
/-- texts lie where nothing new lies -/
def S21 (σ : Hp) : Prop := ∀ k, kd σ k = 20 ∨ kd σ k = 21 → k < 0
theorem SK.kp (h : SK σ) (hw : S21 σ') (z : Kp P A σ σ') (hP : ∀ k, k < 0 → ¬ P k) (hn : ∀ k, k < 0 → kd σ' k = kd σ k) (h0 : fI σ' 3001 0 = fI σ 3001 0) : SK σ' := by
  obtain ⟨h1, h2, h3⟩ := h
  refine ⟨h0.trans h1, fun k hk => ?_, fun r hr => ?_⟩
  · have kn : k < 0 := hw k (Or.inl hk)
    have hk2 := hk
    rw [hn k kn] at hk2
    have kz : kd σ k ≠ 0 := by rw [hk2]; decide
    have y := (z.1 k kz).2.2.2.2.1
    obtain ⟨u1, u2⟩ := h2 k hk2
    rw [(y 2001 (fun q => hP k kn q.1)).1, (y 2000 (fun q => hP k kn q.1)).2]
    exact ⟨u1, by rw [z.k (by rw [u2]; decide)]; exact u2⟩
  · have kn : r < 0 := hw r (Or.inr hr)
    have hk2 := hr
    rw [hn r kn] at hk2
    have kz : kd σ r ≠ 0 := by rw [hk2]; decide
    rw [z.l kz, z.ai kz]
    exact h3 r hk2
theorem Wd.kp {r w : Int} (h : Wd σ r w) (hw : S21 σ) (hw' : S21 σ') (z : Kp P A σ σ') (hP : ∀ k, k < 0 → ¬ P k) (hn : ∀ k, k < 0 → kd σ' k = kd σ k) (h0 : fI σ' 3001 0 = fI σ 3001 0) : Wd σ' r w := by
  obtain ⟨a1, a2, a3⟩ := h
  have kz : kd σ r ≠ 0 := by rw [a2]; decide
  have kn : r < 0 := hw r (Or.inl a2)
  have e1 := ((z.1 r kz).2.2.2.2.1 2000 (fun q => hP r kn q.1)).2
  have k2 : kd σ (fR σ 2000 r) ≠ 0 := by rw [(a1.2.1 r a2).2]; decide
  refine ⟨a1.kp hw' z hP hn h0, by rw [z.k kz]; exact a2, ?_⟩
  rw [e1, z.l k2, z.ai k2]
  exact a3
theorem TXT.kp (h : TXT σ) (hw : S21 σ) (hw' : S21 σ') (z : Kp P A σ σ') (hP : ∀ k, k < 0 → ¬ P k) (hn : ∀ k, k < 0 → kd σ' k = kd σ k) (h0 : fI σ' 3001 0 = fI σ 3001 0) : TXT σ' := by
  obtain ⟨⟨a1, a2, a3⟩, b1, b2, b3, b4, b5, b6, b7, b8, b9, b10, b11, b12, b13, b14⟩ := h
  have kz : kd σ (-15) ≠ 0 := by rw [a2]; decide
  have e1 := ((z.1 (-15) kz).2.2.2.2.1 2000 (fun q => hP (-15) (by omega) q.1)).2
  have k2 : kd σ (fR σ 2000 (-15)) ≠ 0 := by rw [(a1.2.1 (-15) a2).2]; decide
  refine ⟨⟨a1.kp hw' z hP hn h0, by rw [z.k kz]; exact a2, ?_⟩, b1.kp hw hw' z hP hn h0, b2.kp hw hw' z hP hn h0, b3.kp hw hw' z hP hn h0, b4.kp hw hw' z hP hn h0, b5.kp hw hw' z hP hn h0, b6.kp hw hw' z hP hn h0, b7.kp hw hw' z hP hn h0, b8.kp hw hw' z hP hn h0, b9.kp hw hw' z hP hn h0, b10.kp hw hw' z hP hn h0, b11.kp hw hw' z hP hn h0, b12.kp hw hw' z hP hn h0, b13.kp hw hw' z hP hn h0, b14.kp hw hw' z hP hn h0⟩
  rw [e1, z.l k2, z.ai k2]
  exact a3
theorem Wf.s21 (hw : Wf σ) : S21 σ := fun k hk => (hw.2.1 k (by omega)).2.2.2.1 (by omega)
theorem S21.eq (h : S21 σ) (e : ∀ k, (kd σ' k = 20 ∨ kd σ' k = 21) → kd σ' k = kd σ k) : S21 σ' := fun k hk => h k (by rw [← e k hk]; exact hk)
abbrev Bel (σ : Hp) : Prop := ∀ k, kd σ k ≠ 0 → k < nx σ
theorem Wf.bel (hw : Wf σ) : Bel σ := fun k hk => (hw.2.1 k hk).2.1
/-- one more in a list: the lists' rows are distinct as before -/
theorem LD.add {p x : Int} (h : LD σ) (hw : Bel σ) (hA : Added σ p x σ') (hrow : ∀ q, isLs q → kd σ (fR σ 1401 q) ≠ 0) : LD σ' := by
  obtain ⟨⟨n1, n2⟩, a2, a3, -, -, -, a7, -, -, -, a11, -⟩ := hA
  have eR : ∀ q, ¬ q = p → fR σ' 1401 q = fR σ 1401 q := fun q hq => a7 1401 q (fun u => hq u.2)
  have lt : ∀ q, isLs q → fR σ 1401 q < nx σ := fun q hq => hw _ (hrow q hq)
  have eL : ∀ q, isLs q → ln σ' (fR σ 1401 q) = ln σ (fR σ 1401 q) := fun q hq => (a2 _ (lt q hq)).2
  have main : ∀ q, isLs q → isLs p → ¬ q = p → fR σ' 1401 q = fR σ' 1401 p → ln σ' (fR σ' 1401 q) = 0 := fun q lq lp hq e => by
    rw [eR q hq] at e ⊢
    rcases a11 with ⟨b1, b2⟩ | ⟨b1, b2⟩
    · have := lt q lq
      omega
    · rw [b1] at e
      have := h q p lq lp hq e
      rw [e] at this
      omega
  intro q r lq lr hne e
  by_cases c1 : q = p
  · have c2 : ¬ r = p := fun u => hne (c1.trans u.symm)
    rw [c1] at e lq ⊢
    rw [e]
    exact main r lr lq c2 e.symm
  · by_cases c2 : r = p
    · rw [c2] at e lr
      exact main q lq lr c1 e
    · rw [eR q c1, eR r c2] at e
      rw [eR q c1, eL q lq]
      exact h q r lq lr hne e
theorem Added.kp9 {p x : Int} (hw : Bel σ) (h : Added σ p x σ') : Kp (fun k => k = p) (fun k => k = fR σ 1401 p) σ σ' := by
  obtain ⟨-, a2, -, a4, -, a6, a7, a8, a9, a10, -⟩ := h
  refine ⟨fun k hk => ?_, a7 _ _ (by omega)⟩
  have hn := hw k hk
  exact ⟨(a2 k hn).1, (a2 k hn).2, by rw [a8], by rw [a9], fun f q => ⟨a4 f k (by omega), a7 f k (by omega)⟩, fun f => by rw [a6], fun q => funext fun j => a10 k j hn q⟩
theorem LOk.ad9 {p q x : Int} {ci : Nat} (hw : Bel σ) (hA : Added σ q x σ') (h : LOk σ p ci) (hne : ¬ p = q) (hd : fR σ 1401 p = fR σ 1401 q → ln σ (fR σ 1401 p) = 0) : LOk σ' p ci ∧ fI σ' 1402 p = fI σ 1402 p ∧ ∀ i, 0 ≤ i → i < fI σ 1402 p → lat σ' p i = lat σ p i := by
  obtain ⟨-, a2, -, a4, -, -, a7, -, -, a10, -⟩ := hA
  obtain ⟨l1, l2, l3, l4, l5, l6⟩ := h
  have hp := hw p (by omega)
  have he := hw (fR σ 1401 p) (by omega)
  have e1 : fR σ' 1401 p = fR σ 1401 p := a7 _ _ (by omega)
  have e0 : fR σ' 3000 0 = fR σ 3000 0 := a7 _ _ (by omega)
  have e2 : fI σ' 1402 p = fI σ 1402 p := a4 _ _ (by omega)
  have e3 : ∀ i, 0 ≤ i → i < fI σ 1402 p → aR σ' (fR σ 1401 p) i = aR σ (fR σ 1401 p) i := fun i a b => a10 _ _ he (fun z => by have := hd z; omega)
  refine ⟨?_, e2, fun i a b => ?_⟩
  · unfold LOk
    rw [e1, e2, e0, (a2 p hp).1, (a2 _ he).1, (a2 _ he).2]
    refine ⟨l1, l2, l3, l4, l5, fun j a b => ?_⟩
    rw [e3 j a b]
    have h6 := l6 j a b
    have := hw (aR σ (fR σ 1401 p) j) (by omega)
    rw [(a2 _ this).1]
    exact h6
  · unfold lat
    rw [e1]
    exact e3 i a b
theorem BX.ad (h : BX σ τ) (z : Kp P A σ σ') (L : LOk σ' 3 2 ∧ fI σ' 1402 3 = fI σ 1402 3 ∧ ∀ i, 0 ≤ i → i < fI σ 1402 3 → lat σ' 3 i = lat σ 3 i) : BX σ' τ := by
  refine ⟨L.1, L.2.1.trans h.2.1, fun i q1 q2 => ?_⟩
  rw [L.2.2 i q1 (by rw [h.2.1]; exact q2)]
  have kc : kd σ (lat σ 3 i) ≠ 0 := fun q => absurd ((h.1.2.2.2.2.2 i q1 (by rw [h.2.1]; exact q2)).symm.trans q) (by decide)
  exact (h.2.2 i q1 q2).kp z kc
theorem BG.ad (h : BG σ τ) (hC : CLay σ) (z : Kp P A σ σ') (L : LOk σ' 18 5 ∧ fI σ' 1402 18 = fI σ 1402 18 ∧ ∀ i, 0 ≤ i → i < fI σ 1402 18 → lat σ' 18 i = lat σ 18 i) : BG σ' τ := by
  have k15 : kd σ 15 ≠ 0 := by simp only [hC.eqs]; decide
  have k16 : kd σ 16 ≠ 0 := by simp only [hC.eqs]; decide
  have k17 : kd σ 17 ≠ 0 := by simp only [hC.eqs]; decide
  obtain ⟨h1, h2, h3, h4, h5, h6, h7, h8⟩ := h
  have l18 : ∀ i, 0 ≤ i → i < fI τ 1335 61 → lat σ' 18 i = lat σ 18 i := fun i a b => L.2.2 i a (by rw [h2]; exact b)
  refine ⟨L.1, L.2.1.trans h2, fun i q1 q2 => ?_, fun c d a b e => by rw [l18 c a (by omega), l18 d (by omega) e]; exact h4 c d a b e, by rw [z.i k15 (by decide)]; exact h5, fun u => by rw [z.ai k16, z.ai k17]; exact h6 u, by rw [z.i k15 (by decide)]; exact h7, by rw [z.i k15 (by decide)]; exact h8⟩
  rw [l18 i q1 q2]
  have kc : kd σ (lat σ 18 i) ≠ 0 := fun q => absurd ((h1.2.2.2.2.2 i q1 (by rw [h2]; exact q2)).symm.trans q) (by decide)
  have hb := h3 i q1 q2
  generalize lat σ 18 i = p at *
  have e : ∀ f, f < 1400 → fI σ' f p = fI σ f p := fun f hf => z.i kc hf
  unfold CoE at *
  simp only [e 600 (by decide), e 601 (by decide), e 603 (by decide), e 604 (by decide), e 602 (by decide)]
  exact hb
theorem AlE.kp {a p : Int} (hb : AlE σ τ a p) (z : Kp P A σ σ') (kc : kd σ p ≠ 0) (h3 : lat σ' 3 (aI τ 109 a) = lat σ 3 (aI τ 109 a)) : AlE σ' τ a p := by
  have e : ∀ f, f < 1400 → fI σ' f p = fI σ f p := fun f hf => z.i kc hf
  have er : ∀ f, f < 1400 → fR σ' f p = fR σ f p := fun f hf => z.r kc hf
  have kp : kd σ (p + 1) ≠ 0 := by rw [hb.2.2.2.2.1]; decide
  unfold AlE at *
  simp only [h3, z.k kp, z.l kp, z.ai kp, er 100 (by decide), er 102 (by decide), e 101 (by decide), e 103 (by decide), e 104 (by decide), e 105 (by decide), e 106 (by decide), e 107 (by decide)]
  exact hb
theorem AL.ad (h : AL σ τ) (hC : CLay σ) (z : Kp P A σ σ') (L : LOk σ' 28 0 ∧ fI σ' 1402 28 = fI σ 1402 28 ∧ ∀ i, 0 ≤ i → i < fI σ 1402 28 → lat σ' 28 i = lat σ 28 i) (h3 : ∀ a, 0 ≤ a → a < fI τ 1371 61 → lat σ' 3 (aI τ 109 a) = lat σ 3 (aI τ 109 a)) : AL σ' τ := by
  have k27 : kd σ 27 ≠ 0 := by simp only [hC.eqs]; decide
  have k29 : kd σ 29 ≠ 0 := by simp only [hC.eqs]; decide
  have k30 : kd σ 30 ≠ 0 := by simp only [hC.eqs]; decide
  have k31 : kd σ 31 ≠ 0 := by simp only [hC.eqs]; decide
  obtain ⟨g1, g2, g3, g4, g5, g6⟩ := h
  have l28 : ∀ i, 0 ≤ i → i < fI τ 1371 61 → lat σ' 28 i = lat σ 28 i := fun i a b => L.2.2 i a (by rw [g2]; exact b)
  refine ⟨L.1, L.2.1.trans g2, fun i q1 q2 => ?_, fun c d a b e => by rw [l28 c a (by omega), l28 d (by omega) e]; exact g4 c d a b e, fun u => by rw [z.ai k29, z.ai k30, z.ai k31]; exact g5 u, by rw [z.i k27 (by decide)]; exact g6⟩
  rw [l28 i q1 q2]
  have kc : kd σ (lat σ 28 i) ≠ 0 := fun q => absurd ((g1.2.2.2.2.2 i q1 (by rw [g2]; exact q2)).symm.trans q) (by decide)
  exact (g3 i q1 q2).kp z kc (h3 i q1 q2)
theorem LR.ad {l : Int} (h : LR l σ τ) (hC : CLay σ) (hl : 0 ≤ l ∧ l < 4) (z : Kp P A σ σ') (L : LOk σ' (46 + 4 * l) 2 ∧ fI σ' 1402 (46 + 4 * l) = fI σ 1402 (46 + 4 * l) ∧ ∀ i, 0 ≤ i → i < fI σ 1402 (46 + 4 * l) → lat σ' (46 + 4 * l) i = lat σ (46 + 4 * l) i) (h3 : ∀ k, 0 ≤ k → k < aI τ 74 l → lat σ' 3 (aI τ 75 (12 * l + k)) = lat σ 3 (aI τ 75 (12 * l + k))) : LR l σ' τ := by
  obtain ⟨c1, c2, c3⟩ := lay_l hC hl
  have k1 : kd σ (45 + 4 * l) ≠ 0 := by rw [c1]; decide
  have k2 : kd σ (47 + 4 * l) ≠ 0 := by rw [c2]; decide
  have k3 : kd σ (48 + 4 * l) ≠ 0 := by rw [c3]; decide
  obtain ⟨⟨⟨g1, g2, g3, g4, g5, g6, g7, g8, g9, g10, g11, g12, g13⟩, g⟩, gb⟩ := h
  have hq := (LoP.k hC hl).2.2.2.1
  refine ⟨⟨⟨L.1, L.2.1.trans g2, fun k a b => by rw [L.2.2 k a (by rw [g2]; exact b), h3 k a b]; exact g3 k a b, by rw [z.ai k2]; exact g4, by rw [z.ai k2]; exact g5, g6, ?_, by rw [z.ai k3]; exact g8, by rw [z.ai k3]; exact g9, by rw [z.i k1 (by decide)]; exact g10, by rw [z.i k1 (by decide)]; exact g11, by rw [z.i k1 (by decide)]; exact g12, g13⟩, by rw [z.i k1 (by decide)]; exact g⟩, fun k a b => ?_⟩
  · rw [z.i k1 (by decide), z.i k1 (by decide)]
    unfold CutE at *
    rw [z.r k1 (by decide)]
    rw [hq] at g7 ⊢
    rw [z.ai k2]
    exact g7
  · rw [h3 k a b]
    refine (gb k a b).kp z ?_
    have q := g3 k a b
    rw [← q]
    have := g1.2.2.2.2.2 k a (by rw [g2]; exact b)
    unfold lat
    rw [this]
    decide
theorem LD.kp (h : LD σ) (z : Kp P A σ σ') (hP : ∀ q, isLs q → ¬ P q) (hk : ∀ q, isLs q → kd σ q ≠ 0) (hrow : ∀ q, isLs q → kd σ (fR σ 1401 q) ≠ 0) : LD σ' := by
  have eR : ∀ q, isLs q → fR σ' 1401 q = fR σ 1401 q := fun q hq => ((z.1 q (hk q hq)).2.2.2.2.1 1401 (fun u => hP q hq u.1)).2
  intro q r lq lr hne e
  rw [eR q lq, eR r lr] at e
  rw [eR q lq, z.l (hrow q lq)]
  exact h q r lq lr hne e
end KPS
