/-! what the pure reader takes for a line can be reckoned on either side -/

theorem rdR_ok (L : Int → Int) {z p : Int} (h0 : 0 ≤ p) (hz : p ≤ z) (h : (rdR L z p).1 = 0) : P4 0 (rdR L z p) ∧ ∀ f, Pst f 19 (rdR L z p) := by
  have i1 := pp_inf L z (8 * (z - p).toNat + 4) 4 0 (a0 p) (by omega) hz h0
  have i2 := fun f => pp_post L z f (8 * (z - p).toNat + 4) 4 0 (a0 p) (by omega) hz h0
  unfold rdR at h ⊢
  generalize pp L z (8 * (z - p).toNat + 4) 4 0 (a0 p) = r at *
  unfold rdF at h ⊢
  by_cases c : r.1 ≠ 0
  · rw [if_pos c] at h
    exact absurd h c
  · rw [if_neg c] at h ⊢
    have c5 : r.1 = 0 := Decidable.not_not.mp c
    by_cases c2 : isS L z r.2.1 59
    · rw [if_pos c2]
      have j1 : P4 0 r := (i1 c5).2.2.2.1 rfl
      have j2 : ∀ f, Pst f (nP 0 + 3) r := fun f => (i2 f c5).2.2.2.1 rfl
      exact ⟨j1, fun f => (j2 f).le (by decide)⟩
    · rw [if_neg c2] at h
      have h : 1 + 16 * kB L z r.2.1 = 0 := h
      exfalso
      have i3 := pp_pos L z
      omega
