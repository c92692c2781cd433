/-! what holds between two steps of the law -/

/-- the script -/
def Scp (σ : Hp) (b n : Int) : Prop := (kd σ b = 108 ∧ kd σ 120 = 102 ∧ ln σ 120 = 1) ∧ ln σ b = n ∧ ∀ j, inR (aI σ b j)
/-- the lists -/
def isLs (p : Int) : Prop := p = 3 ∨ p = 18 ∨ p = 28 ∨ p = 46 ∨ p = 50 ∨ p = 54 ∨ p = 58
def LD (σ : Hp) : Prop := ∀ p q, isLs p → isLs q → ¬ p = q → fR σ 1401 p = fR σ 1401 q → ln σ (fR σ 1401 p) = 0
/-- the class's picture of the reference -/
def Rel (σ τ : Hp) : Prop := CLay σ ∧ fI σ 1210 1 = fI τ 1301 61 ∧ BX σ τ ∧ (∀ l, 0 ≤ l → l < 4 → LR l σ τ) ∧ BG σ τ ∧ AL σ τ ∧ DKR σ τ ∧ RDR σ τ ∧ (fI σ 901 24 = fI τ 1343 61 ∧ aI σ 25 = aI τ 92) ∧ TGr σ ∧ LTT σ ∧ TXT σ ∧ LD σ
/-- from boxes, from alarms on nothing is written yet; who is on the way to whom -/
def InN (τ : Hp) : Prop := (∀ b, fI τ 1302 61 ≤ b → aI τ 72 b = 0 ∧ aI τ 73 b = 0 ∧ aI τ 70 b = 0) ∧ (∀ a, fI τ 1371 61 ≤ a → aI τ 112 a = 0 ∧ aI τ 113 a = 0 ∧ aI τ 114 a = 0 ∧ aI τ 115 a = 0) ∧ (2 ≤ fI τ 1322 61 → 0 ≤ fI τ 1321 61) ∧ ∀ a, aI τ 114 a ≤ fI τ 1301 61 / 86400
def InS2 (τ : Hp) : Prop := (∀ c, 0 ≤ c → c < fI τ 1335 61 → aI τ 89 c < 0 → (0 ≤ aI τ 90 c ∧ aI τ 90 c < fI τ 1371 61) ∧ aI τ 112 (aI τ 90 c) = 0 ∧ ∃ i, (0 ≤ i ∧ i < aI τ 115 (aI τ 90 c)) ∧ aI τ 116 (20 * aI τ 90 c + i) = c) ∧
  (∀ a i, (0 ≤ a ∧ a < fI τ 1371 61) → (0 ≤ i ∧ i < aI τ 115 a) → (0 ≤ aI τ 116 (20 * a + i) ∧ aI τ 116 (20 * a + i) < fI τ 1335 61) ∧ (aI τ 112 a = 0 → aI τ 89 (aI τ 116 (20 * a + i)) < 0 ∧ aI τ 90 (aI τ 116 (20 * a + i)) = a)) ∧
  ∀ a, (0 ≤ a ∧ a < fI τ 1371 61) → aI τ 112 a = 0 → aI τ 115 a ≤ mTo τ a
/-- the lines in use lie in the lower codes -/
def lT0 (τ : Hp) : Prop := ∀ l, 0 ≤ l → l < fI τ 1352 61 → aI τ 96 l ≤ 1000
def lT (τ : Hp) : Prop := lT0 τ ∧ ∀ b, fI τ 1302 61 ≤ b → b < 32 → aI τ 69 b = -1
def Inv (τ : Hp) : Prop := MT τ ∧ RB τ ∧ kFirst τ ∧ upL τ ∧ mCards τ ∧ WI τ ∧ AB τ ∧ HIs τ ∧ WG τ ∧ InN τ ∧ InS2 τ ∧ lT τ
section REL
variable {σ σ' τ τ' : Hp}
theorem LD.ce (h : LD σ) (z : CE σ σ') : LD σ' := by
  unfold LD at *
  rw [z.fR, z.ln]
  exact h
theorem Rel.ce (h : Rel σ τ) (hw : ∀ r, kd σ r = 21 → r < 0) (z : CE σ σ') : Rel σ' τ := by
  obtain ⟨h1, h2, h3, h4, h5, h6, h7, h8, h9, h10, h11, h12, h13⟩ := h
  refine ⟨h1.ce z, by rw [z.f 1210 (by decide)]; exact h2, h3.ce z, fun l a b => (h4 l a b).ce h1 ⟨a, b⟩ z, h5.ce z, h6.ce z, h7.ce z, h8.ce z, ?_, h10.ce z, h11.ce z, h12.ce hw z, h13.ce z⟩
  rw [z.f 901 (by decide), z.a 25 (by decide)]
  exact h9
theorem Rel.re (h : Rel σ τ) (z : RE τ τ') : Rel σ τ' := by
  obtain ⟨h1, h2, h3, h4, h5, h6, h7, h8, h9, h10, h11, h12, h13⟩ := h
  refine ⟨h1, ?_, h3.re z, fun l a b => (h4 l a b).re z, h5.re z, h6.re z, h7.re z, h8.re z, ?_, h10, h11, h12, h13⟩
  · simp only [z.eqs]
    exact h2
  · simp only [z.eqs]
    exact h9
theorem InN.re (h : InN τ) (z : RE τ τ') : InN τ' := by
  unfold InN at *
  simp only [z.eqs]
  exact h
theorem InS2.re (h : InS2 τ) (z : RE τ τ') : InS2 τ' := by
  unfold InS2 mTo at *
  simp only [z.eqs]
  exact h
theorem lT.re (h : lT τ) (z : RE τ τ') : lT τ' := by
  unfold lT lT0 at *
  simp only [z.eqs]
  exact h
theorem Inv.re (h : Inv τ) (z : RE τ τ') : Inv τ' := by
  obtain ⟨h1, h2, h3, h4, h5, h6, h7, h8, h9, h10, h11, h12⟩ := h
  exact ⟨h1.re z, h2.re z, h3.re z, h4.re z, h5.re z, h6.re z, h7.re z, h8.re z, h9.re z, h10.re z, h11.re z, h12.re z⟩
end REL
