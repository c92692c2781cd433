/-! the reference: stories told -/

def toL (a b c : Int) : List Int := (if a < 0 then [] else [a]) ++ ((if b < 0 then [] else [b]) ++ (if c < 0 then [] else [c]))
def Told (τ : Hp) (xs : List (List Int)) : Prop := fI τ 1322 61 = xs.length ∧ ∀ (i : Nat) (x : List Int), xs[i]? = some x → x.length ≤ 3 ∧ ∀ (j : Nat) (p : Int), x[j]? = some p → aI τ 80 (3 * i + j) = aI τ 75 (12 * fI τ 1321 61 + p / 300) ∧ aI τ 81 (3 * i + j) = fI τ 1331 61 + p % 300
def Wt (τ0 τ : Hp) : Prop := MI τ ∧ Uv [1322] (fun r _ => r = 80 ∨ r = 81) (fun _ _ => False) τ0 τ
theorem sb_mPut0 (τ : Hp) (n p i : Int) : aI (mPut0 τ n p) 80 i = if ¬ p < 0 ∧ i = n then aI τ 75 (12 * fI τ 1321 61 + p / 300) else aI τ 80 i := by
  unfold mPut0
  by_cases c : p < 0
  · rw [if_pos c, if_neg (fun q => q.1 c)]
  · rw [if_neg c]
    unfold mPuts
    rw [aI_qI, if_neg (fun q => absurd q.1 (by decide)), aI_qI]
    by_cases e : i = n <;> simp [e, c]
theorem st_mPut0 (τ : Hp) (n p i : Int) : aI (mPut0 τ n p) 81 i = if ¬ p < 0 ∧ i = n then fI τ 1331 61 + p % 300 else aI τ 81 i := by
  unfold mPut0
  by_cases c : p < 0
  · rw [if_pos c, if_neg (fun q => q.1 c)]
  · rw [if_neg c]
    unfold mPuts
    rw [aI_qI]
    by_cases e : i = n
    · simp [e, c]
    · rw [if_neg (fun q => e q.2), if_neg (fun q => e q.2), aI_qI, if_neg (fun q => absurd q.1 (by decide))]
theorem Wt.put {τ0 τ : Hp} (h : Wt τ0 τ) {n p : Int} (hp : 0 ≤ p → fI τ 1331 61 + p % 300 ≤ 1000000) : Wt τ0 (mPut0 τ n p) := by
  refine ⟨MI_mPut0 h.1 hp, ?_⟩
  unfold mPut0
  split
  · exact h.2
  · exact (h.2.qI _ (Or.inl rfl)).qI _ (Or.inr rfl)
theorem Wt.tells {τ0 τ : Hp} (h : Wt τ0 τ) {a b c : Int} (ha : 0 ≤ a → fI τ 1331 61 + a % 300 ≤ 1000000) (hb : 0 ≤ b → fI τ 1331 61 + b % 300 ≤ 1000000) (hc : 0 ≤ c → fI τ 1331 61 + c % 300 ≤ 1000000) : Wt τ0 (mTells τ a b c) := by
  have x := h.1.storyCount_s
  unfold mTells
  split
  · exact h
  · have g := ((h.put (n := 3 * fI τ 1322 61) ha).put (n := 3 * fI τ 1322 61 + 1) (p := b) (by rw [fI_mPut0]; exact hb)).put (n := 3 * fI τ 1322 61 + 2) (p := c) (by rw [fI_mPut0, fI_mPut0]; exact hc)
    exact ⟨MI_storyCount_p g.1 (by omega), g.2.pI _ (by decide)⟩
theorem told_tells {τ : Hp} {xs : List (List Int)} (h : Told τ xs) (hl : xs.length ≤ 200) {a b c : Int} (h1 : a < 0 → b < 0) (h2 : b < 0 → c < 0) : Told (mTells τ a b c) (addS xs (toL a b c)) := by
  unfold mTells addS
  by_cases e : fI τ 1322 61 = 200
  · rw [if_pos e, if_pos (by have := h.1; omega)]
    exact h
  · rw [if_neg e, if_neg (by have := h.1; omega)]
    have hc := h.1
    have eb : ∀ i, aI (mPut0 (mPut0 (mPut0 τ (3 * fI τ 1322 61) a) (3 * fI τ 1322 61 + 1) b) (3 * fI τ 1322 61 + 2) c) 75 i = aI τ 75 i := fun i => by
      rw [bA_mPut0 _ _ _ (by decide), bA_mPut0 _ _ _ (by decide), bA_mPut0 _ _ _ (by decide)]
    refine ⟨?_, fun i x hx => ?_⟩
    · show fI τ 1322 61 + 1 = _
      rw [List.length_append, List.length_singleton]; omega
    · have es : ∀ j, aI (pI (mPut0 (mPut0 (mPut0 τ (3 * fI τ 1322 61) a) (3 * fI τ 1322 61 + 1) b) (3 * fI τ 1322 61 + 2) c) 1322 61 (fI τ 1322 61 + 1)) 80 j = if ¬ c < 0 ∧ j = 3 * fI τ 1322 61 + 2 then aI τ 75 (12 * fI τ 1321 61 + c / 300) else if ¬ b < 0 ∧ j = 3 * fI τ 1322 61 + 1 then aI τ 75 (12 * fI τ 1321 61 + b / 300) else if ¬ a < 0 ∧ j = 3 * fI τ 1322 61 then aI τ 75 (12 * fI τ 1321 61 + a / 300) else aI τ 80 j := fun j => by
        rw [aI_pI, sb_mPut0, sb_mPut0, sb_mPut0, bA_mPut0 _ _ _ (by decide), bA_mPut0 _ _ _ (by decide), fI_mPut0, fI_mPut0]
      have et : ∀ j, aI (pI (mPut0 (mPut0 (mPut0 τ (3 * fI τ 1322 61) a) (3 * fI τ 1322 61 + 1) b) (3 * fI τ 1322 61 + 2) c) 1322 61 (fI τ 1322 61 + 1)) 81 j = if ¬ c < 0 ∧ j = 3 * fI τ 1322 61 + 2 then fI τ 1331 61 + c % 300 else if ¬ b < 0 ∧ j = 3 * fI τ 1322 61 + 1 then fI τ 1331 61 + b % 300 else if ¬ a < 0 ∧ j = 3 * fI τ 1322 61 then fI τ 1331 61 + a % 300 else aI τ 81 j := fun j => by
        rw [aI_pI, st_mPut0, st_mPut0, st_mPut0, fI_mPut0, fI_mPut0]
      have ebx : ∀ j, aI (pI (mPut0 (mPut0 (mPut0 τ (3 * fI τ 1322 61) a) (3 * fI τ 1322 61 + 1) b) (3 * fI τ 1322 61 + 2) c) 1322 61 (fI τ 1322 61 + 1)) 75 j = aI τ 75 j := fun j => by rw [aI_pI]; exact eb j
      have er : fI (pI (mPut0 (mPut0 (mPut0 τ (3 * fI τ 1322 61) a) (3 * fI τ 1322 61 + 1) b) (3 * fI τ 1322 61 + 2) c) 1322 61 (fI τ 1322 61 + 1)) 1321 61 = fI τ 1321 61 := by
        rw [fI_pI, if_neg (by decide), fI_mPut0, fI_mPut0, fI_mPut0]
      have ea : fI (pI (mPut0 (mPut0 (mPut0 τ (3 * fI τ 1322 61) a) (3 * fI τ 1322 61 + 1) b) (3 * fI τ 1322 61 + 2) c) 1322 61 (fI τ 1322 61 + 1)) 1331 61 = fI τ 1331 61 := by
        rw [fI_pI, if_neg (by decide), fI_mPut0, fI_mPut0, fI_mPut0]
      rw [er, ea]
      simp only [es, et, ebx]
      rw [List.getElem?_append] at hx
      by_cases c1 : i < xs.length
      · rw [if_pos c1] at hx
        obtain ⟨g1, g2⟩ := h.2 i x hx
        refine ⟨g1, fun j p hp => ?_⟩
        have hj : j < x.length := (List.getElem?_eq_some_iff.mp hp).1
        rw [if_neg (by omega), if_neg (by omega), if_neg (by omega), if_neg (by omega), if_neg (by omega), if_neg (by omega)]
        exact g2 j p hp
      · rw [if_neg c1] at hx
        have ei : i - xs.length = 0 := by
          by_cases e9 : i - xs.length = 0
          · exact e9
          · rw [List.getElem?_eq_none (by simp; omega)] at hx; cases hx
        rw [ei] at hx
        have hx : some (toL a b c) = some x := hx
        cases hx
        have hi : (i : Int) = fI τ 1322 61 := by omega
        rw [hi]
        unfold toL
        by_cases ca : a < 0
        · rw [if_pos ca, if_pos (h1 ca), if_pos (h2 (h1 ca))]
          exact ⟨by simp, fun j p hp => by simp at hp⟩
        · rw [if_neg ca]
          by_cases cb : b < 0
          · rw [if_pos cb, if_pos (h2 cb)]
            refine ⟨by simp, fun j p hp => ?_⟩
            match j, hp with
            | 0, hp =>
              have hp : some a = some p := hp
              cases hp
              exact ⟨by rw [if_neg (by omega), if_neg (by omega), if_pos (by omega)], by rw [if_neg (by omega), if_neg (by omega), if_pos (by omega)]⟩
            | j + 1, hp => simp at hp
          · rw [if_neg cb]
            by_cases cc : c < 0
            · rw [if_pos cc]
              refine ⟨by simp, fun j p hp => ?_⟩
              match j, hp with
              | 0, hp =>
                have hp : some a = some p := hp
                cases hp
                exact ⟨by rw [if_neg (by omega), if_neg (by omega), if_pos (by omega)], by rw [if_neg (by omega), if_neg (by omega), if_pos (by omega)]⟩
              | 1, hp =>
                have hp : some b = some p := hp
                cases hp
                exact ⟨by rw [if_neg (by omega), if_pos (by omega)], by rw [if_neg (by omega), if_pos (by omega)]⟩
              | j + 2, hp => simp at hp
            · rw [if_neg cc]
              refine ⟨by simp, fun j p hp => ?_⟩
              match j, hp with
              | 0, hp =>
                have hp : some a = some p := hp
                cases hp
                exact ⟨by rw [if_neg (by omega), if_neg (by omega), if_pos (by omega)], by rw [if_neg (by omega), if_neg (by omega), if_pos (by omega)]⟩
              | 1, hp =>
                have hp : some b = some p := hp
                cases hp
                exact ⟨by rw [if_neg (by omega), if_pos (by omega)], by rw [if_neg (by omega), if_pos (by omega)]⟩
              | 2, hp =>
                have hp : some c = some p := hp
                cases hp
                exact ⟨by rw [if_pos (by omega)], by rw [if_pos (by omega)]⟩
              | j + 3, hp => simp at hp
