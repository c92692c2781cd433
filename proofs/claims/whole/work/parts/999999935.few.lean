/-! the fewest moves: what the class finds is what the reference finds -/

theorem lex2 {P : Int → Int → Prop} {c u d g : Int} (h : P c u) (hm : ∀ x y, (x < c ∨ (x = c ∧ y < u)) → ¬ P x y) (k : P d g) (km : ∀ x y, (x < d ∨ (x = d ∧ y < g)) → ¬ P x y) : d = c ∧ g = u := by
  have h1 : ¬ (d < c ∨ (d = c ∧ g < u)) := fun q => hm d g q k
  have h2 : ¬ (c < d ∨ (c = d ∧ u < g)) := fun q => km c u q h
  clear hm km h k
  omega
theorem cov_cg {τ : Hp} {f f' : Int → Int} (h : ∀ c, 0 ≤ c → f' c = f c) : cov τ f' ↔ cov τ f := by
  unfold cov
  constructor
  · intro k i a b
    obtain ⟨c, h1, h2, h3⟩ := k i a b
    exact ⟨c, h1, h2, by rw [← h c h1.1]; exact h3⟩
  · intro k i a b
    obtain ⟨c, h1, h2, h3⟩ := k i a b
    exact ⟨c, h1, h2, by rw [h c h1.1]; exact h3⟩
def ho4 (ρ : Hp) (A a B b : Int) : Int → Int := fun x => if x = A then a else if x = B then b else aI ρ 89 x
theorem mHo_mv (ρ : Hp) (A a B b x : Int) : mHo (mv ρ A a B b) x = ho4 ρ A a B b x := by
  have e1 : fI (mv ρ A a B b) 1384 61 = A := by
    unfold mv
    simp only [fI_pI, Nat.reduceEqDiff, false_and, if_false, and_self, if_true]
  have e2 : fI (mv ρ A a B b) 1385 61 = a := by
    unfold mv
    simp only [fI_pI, Nat.reduceEqDiff, false_and, if_false, and_self, if_true]
  have e3 : fI (mv ρ A a B b) 1386 61 = B := by
    unfold mv
    simp only [fI_pI, Nat.reduceEqDiff, false_and, if_false, and_self, if_true]
  have e4 : fI (mv ρ A a B b) 1387 61 = b := by
    unfold mv
    simp only [fI_pI, Nat.reduceEqDiff, false_and, if_false, and_self, if_true]
  unfold mHo ho4
  rw [e1, e2, e3, e4, aI_mv]
theorem mNear_mv (ρ : Hp) (A a B b i : Int) : mNear (mv ρ A a B b) i ↔ ∃ c, (0 ≤ c ∧ c < fI ρ 1335 61) ∧ mEng ρ c ∧ mWay ρ (ho4 ρ A a B b c) i ≤ fI ρ 1342 61 := by
  unfold mNear bE
  constructor
  · rintro ⟨c, p, q, r, t⟩
    rw [mHo_mv] at t
    exact ⟨c, ⟨p, q⟩, r, t⟩
  · rintro ⟨c, ⟨p, q⟩, r, t⟩
    refine ⟨c, p, q, r, ?_⟩
    rw [mHo_mv]
    exact t
theorem mAll_is (ρ : Hp) (A a B b : Int) : mAll (mv ρ A a B b) ↔ cov ρ (ho4 ρ A a B b) := by
  unfold mAll cov
  constructor
  · intro h i p q
    refine Classical.byContradiction fun z => h ⟨i, p, q, fun y => z ?_⟩
    exact (mNear_mv ρ A a B b i).mp y
  · rintro h ⟨i, p, q, z⟩
    exact z ((mNear_mv ρ A a B b i).mpr (h i p q))
def Mv1 (τ : Hp) (c u : Int) : Prop := (0 ≤ c ∧ c < fI τ 1335 61) ∧ mEng τ c ∧ (0 ≤ u ∧ u < fI τ 1332 61) ∧ mWo0 τ u ∧ cov τ (fu (aI τ 89) c u)
def Mv2 (τ : Hp) (c u d g : Int) : Prop := (0 ≤ c ∧ c < d ∧ d < fI τ 1335 61) ∧ mEng τ c ∧ (0 ≤ u ∧ u < fI τ 1332 61) ∧ mWo0 τ u ∧ mEng τ d ∧ (0 ≤ g ∧ g < fI τ 1332 61) ∧ ¬ g = u ∧ mWo0 τ g ∧ cov τ (fu (fu (aI τ 89) c u) d g)
theorem ho4_0 {ρ : Hp} {x y : Int} : mAll (mv ρ (-1) x (-1) y) ↔ cov ρ (aI ρ 89) := (mAll_is ρ _ _ _ _).trans (cov_cg fun c hc => by
  unfold ho4
  rw [if_neg (by omega), if_neg (by omega)])
theorem mP1_is {ρ : Hp} {c u : Int} : mP1 ρ c u ↔ Mv1 ρ c u := by
  unfold mP1 Mv1
  have e : mAll (mv ρ c u (-1) (fI ρ 1387 61)) ↔ cov ρ (fu (aI ρ 89) c u) := (mAll_is ρ _ _ _ _).trans (cov_cg fun x hx => by
    unfold ho4 fu
    by_cases q : x = c
    · rw [if_pos q, if_pos q]
    · rw [if_neg q, if_neg q, if_neg (by omega)])
  rw [e]
theorem mP2_is {ρ : Hp} {c u d g : Int} : mP2 ρ c u d g ↔ Mv2 ρ c u d g := by
  unfold mP2 Mv2
  have e : c < d → (mAll (mv ρ c u d g) ↔ cov ρ (fu (fu (aI ρ 89) c u) d g)) := fun hcd => (mAll_is ρ _ _ _ _).trans (cov_cg fun x hx => by
    unfold ho4 fu
    by_cases q : x = c
    · rw [if_pos q, if_neg (by omega), if_pos q]
    · rw [if_neg q]
      by_cases r : x = d
      · rw [if_pos r, if_pos r]
      · rw [if_neg r, if_neg r, if_neg q])
  constructor
  · rintro ⟨a1, a2, a3, a4, a5, a6, a7, a8, a9⟩
    exact ⟨a1, a2, a3, a4, a5, a6, a7, a8, (e a1.2.1).mp a9⟩
  · rintro ⟨a1, a2, a3, a4, a5, a6, a7, a8, a9⟩
    exact ⟨a1, a2, a3, a4, a5, a6, a7, a8, (e a1.2.1).mpr a9⟩
theorem Kn0_is {τ : Hp} {c u : Int} : Kn τ 0 (aI τ 89) 0 (fun _ => False) c u ↔ Mv1 τ c u := by
  unfold Kn Mv1
  constructor
  · rintro ⟨-, a2, a3, a4, a5, -, a7⟩
    exact ⟨a2, a3, a4, a5, a7⟩
  · rintro ⟨a2, a3, a4, a5, a7⟩
    exact ⟨a2.1, a2, a3, a4, a5, fun z => z, a7⟩
theorem Wn1_is {τ : Hp} : Wn τ 1 (aI τ 89) 0 (fun _ => False) ↔ ∃ c u, Mv1 τ c u := by
  show (∃ c u, Kn τ 0 (aI τ 89) 0 (fun _ => False) c u) ↔ _
  constructor
  · rintro ⟨c, u, h⟩
    exact ⟨c, u, Kn0_is.mp h⟩
  · rintro ⟨c, u, h⟩
    exact ⟨c, u, Kn0_is.mpr h⟩
theorem Kn01_is {τ : Hp} {c u d g : Int} (h1 : (0 ≤ c ∧ c < fI τ 1335 61) ∧ mEng τ c ∧ (0 ≤ u ∧ u < fI τ 1332 61) ∧ mWo0 τ u) : Kn τ 0 (fu (aI τ 89) c u) (c + 1) (fun v => v = u) d g ↔ Mv2 τ c u d g := by
  unfold Kn Mv2
  constructor
  · rintro ⟨a1, a2, a3, a4, a5, a6, a7⟩
    exact ⟨⟨h1.1.1, by omega, a2.2⟩, h1.2.1, h1.2.2.1, h1.2.2.2, a3, a4, a6, a5, a7⟩
  · rintro ⟨a1, a2, a3, a4, a5, a6, a7, a8, a9⟩
    exact ⟨by omega, ⟨by omega, a1.2.2⟩, a5, a6, a8, a7, a9⟩
theorem Kn1_is {τ : Hp} {c u : Int} : Kn τ 1 (aI τ 89) 0 (fun _ => False) c u ↔ ∃ d g, Mv2 τ c u d g := by
  have e : Kn τ 1 (aI τ 89) 0 (fun _ => False) c u ↔ 0 ≤ c ∧ (0 ≤ c ∧ c < fI τ 1335 61) ∧ mEng τ c ∧ (0 ≤ u ∧ u < fI τ 1332 61) ∧ mWo0 τ u ∧ ¬ False ∧ ∃ d g, Kn τ 0 (fu (aI τ 89) c u) (c + 1) (fun v => v = u) d g := Iff.rfl
  rw [e]
  constructor
  · rintro ⟨-, a2, a3, a4, a5, -, d, g, h⟩
    exact ⟨d, g, (Kn01_is ⟨a2, a3, a4, a5⟩).mp h⟩
  · rintro ⟨d, g, h⟩
    obtain ⟨a1, a2, a3, a4, -⟩ := id h
    have h1 : (0 ≤ c ∧ c < fI τ 1335 61) ∧ mEng τ c ∧ (0 ≤ u ∧ u < fI τ 1332 61) ∧ mWo0 τ u := ⟨⟨a1.1, by omega⟩, a2, a3, a4⟩
    exact ⟨a1.1, h1.1, a2, a3, a4, fun z => z, d, g, (Kn01_is h1).mpr h⟩
theorem Wn2_is {τ : Hp} : Wn τ 2 (aI τ 89) 0 (fun _ => False) ↔ ∃ c u d g, Mv2 τ c u d g := by
  show (∃ c u, Kn τ 1 (aI τ 89) 0 (fun _ => False) c u) ↔ _
  constructor
  · rintro ⟨c, u, h⟩
    obtain ⟨d, g, k⟩ := Kn1_is.mp h
    exact ⟨c, u, d, g, k⟩
  · rintro ⟨c, u, d, g, k⟩
    exact ⟨c, u, Kn1_is.mpr ⟨d, g, k⟩⟩
theorem few_is {τ σ' : Hp} {n n' A a B b : Int} (hc : cFew τ σ' n) (hm : mFew τ n' A a B b) : n' = n ∧ (0 < n → A = aI σ' 22 0 ∧ a = aI σ' 23 0) ∧ (n = 2 → B = aI σ' 22 1 ∧ b = aI σ' 23 1) := by
  obtain ⟨-, hm⟩ := hm
  simp only [ho4_0, mP1_is, mP2_is] at hm
  rcases hc with ⟨q, c0⟩ | ⟨c0, hc⟩
  · rcases hm with ⟨p, -⟩ | ⟨m0, -⟩
    · exact ⟨by omega, fun z => by omega, fun z => by omega⟩
    · exact absurd c0 m0
  rcases hm with ⟨-, m0, -⟩ | ⟨-, hm⟩
  · exact absurd m0 c0
  rcases hc with ⟨q, r, -⟩ | ⟨c1, hc⟩
  · have r1 := Kn0_is.mp r.1
    rcases hm with ⟨p, m1, m2, -⟩ | ⟨m1, -⟩
    · have e := lex2 (P := Mv1 τ) r1 (fun x y z w => r.2 x y z (Kn0_is.mpr w)) m1 m2
      exact ⟨by omega, fun _ => e, fun z => by omega⟩
    · exact absurd r1 (m1 _ _)
  rw [Wn1_is] at c1
  rcases hm with ⟨p, m1, -⟩ | ⟨-, hm⟩
  · exact absurd ⟨_, _, m1⟩ c1
  rcases hc with ⟨q, r, r', -⟩ | ⟨q, r⟩
  · obtain ⟨d, g, k⟩ := Kn1_is.mp r.1
    rcases hm with ⟨p, m1, m2⟩ | ⟨-, m1⟩
    · have e := lex2 (P := fun x y => ∃ d g, Mv2 τ x y d g) ⟨d, g, k⟩ (fun x y z w => r.2 x y z (Kn1_is.mpr w)) ⟨_, _, m1⟩ (fun x y z => by
        rintro ⟨d', g', w⟩
        refine m2 x y d' g' ?_ w
        rcases z with z | z
        · exact Or.inl z
        · exact Or.inr ⟨z.1, Or.inl z.2⟩)
      obtain ⟨a1, a2, a3, a4, -⟩ := id k
      have h1 : (0 ≤ aI σ' 22 0 ∧ aI σ' 22 0 < fI τ 1335 61) ∧ mEng τ (aI σ' 22 0) ∧ (0 ≤ aI σ' 23 0 ∧ aI σ' 23 0 < fI τ 1332 61) ∧ mWo0 τ (aI σ' 23 0) := ⟨⟨a1.1, by omega⟩, a2, a3, a4⟩
      have k2 := (Kn01_is h1).mp r'.1
      have e2 := lex2 (P := Mv2 τ (aI σ' 22 0) (aI σ' 23 0)) k2 (fun x y z w => r'.2 x y z ((Kn01_is h1).mpr w)) (by rw [← e.1, ← e.2]; exact m1) (fun x y z w => by
        rw [← e.1, ← e.2] at w
        exact m2 A a x y (Or.inr ⟨rfl, Or.inr ⟨rfl, z⟩⟩) w)
      exact ⟨by omega, fun _ => e, fun _ => e2⟩
    · exact absurd k (m1 _ _ _ _)
  · rw [Wn2_is] at r
    rcases hm with ⟨p, m1, -⟩ | ⟨p, -⟩
    · exact absurd ⟨_, _, _, _, m1⟩ r
    · exact ⟨by omega, fun z => by omega, fun z => by omega⟩
/-! the same under a change that the reference doesn't see -/
section FEWC
variable {τ τ' : Hp}
theorem cov.re {f : Int → Int} (z : RE τ τ') (h : cov τ f) : cov τ' f := by
  unfold cov mEng mWay at *
  simp only [z.eqs]
  exact h
theorem mWo0.re {u : Int} (z : RE τ τ') (h : mWo0 τ u) : mWo0 τ' u := by
  unfold mWo0 bE mEng at *
  simp only [z.eqs]
  exact h
theorem Kn0.re {f : Int → Int} {lo c u : Int} {T : Int → Prop} (z : RE τ τ') (h : Kn τ 0 f lo T c u) : Kn τ' 0 f lo T c u := by
  obtain ⟨a1, a2, a3, a4, a5, a6, a7⟩ := h
  refine ⟨a1, ?_, ?_, ?_, a5.re z, a6, cov.re z a7⟩
  · rw [(z.2 1335 (by omega) (by omega)).1]
    exact a2
  · unfold mEng at *
    simp only [z.eqs]
    exact a3
  · rw [(z.2 1332 (by omega) (by omega)).1]
    exact a4
theorem Wn1.re {f : Int → Int} {lo : Int} {T : Int → Prop} (z : RE τ τ') (h : Wn τ 1 f lo T) : Wn τ' 1 f lo T := by
  obtain ⟨c, u, k⟩ := h
  have k' : Kn τ 0 f lo T c u := k
  exact ⟨c, u, Kn0.re z k'⟩
theorem Kn1.re {f : Int → Int} {lo c u : Int} {T : Int → Prop} (z : RE τ τ') (h : Kn τ 1 f lo T c u) : Kn τ' 1 f lo T c u := by
  obtain ⟨a1, a2, a3, a4, a5, a6, a7⟩ := h
  refine ⟨a1, ?_, ?_, ?_, a5.re z, a6, Wn1.re z a7⟩
  · rw [(z.2 1335 (by omega) (by omega)).1]
    exact a2
  · unfold mEng at *
    simp only [z.eqs]
    exact a3
  · rw [(z.2 1332 (by omega) (by omega)).1]
    exact a4
theorem Wn2.re {f : Int → Int} {lo : Int} {T : Int → Prop} (z : RE τ τ') (h : Wn τ 2 f lo T) : Wn τ' 2 f lo T := by
  obtain ⟨c, u, k⟩ := h
  have k' : Kn τ 1 f lo T c u := k
  exact ⟨c, u, Kn1.re z k'⟩
theorem cFew.re {σ' : Hp} {n : Int} (z : RE τ τ') (h : cFew τ σ' n) : cFew τ' σ' n := by
  have y := z.sy
  have e : aI τ' 89 = aI τ 89 := (z.1 89 (by omega) (by omega)).2.2.1
  unfold cFew at *
  rw [e]
  rcases h with ⟨q, c0⟩ | ⟨c0, h⟩
  · exact Or.inl ⟨q, cov.re z c0⟩
  refine Or.inr ⟨fun w => c0 (cov.re y w), ?_⟩
  rcases h with ⟨q, r, -⟩ | ⟨c1, h⟩
  · exact Or.inl ⟨q, ⟨Kn0.re z r.1, fun a b c w => r.2 a b c (Kn0.re y w)⟩, trivial⟩
  refine Or.inr ⟨fun w => c1 (Wn1.re y w), ?_⟩
  rcases h with ⟨q, r, r', -⟩ | ⟨q, r⟩
  · exact Or.inl ⟨q, ⟨Kn1.re z r.1, fun a b c w => r.2 a b c (Kn1.re y w)⟩, ⟨Kn0.re z r'.1, fun a b c w => r'.2 a b c (Kn0.re y w)⟩, trivial⟩
  · exact Or.inr ⟨q, fun w => r (Wn2.re y w)⟩
end FEWC
