/-! small words -/
noncomputable def b2i (p : Prop) : Int := @ite _ p (Classical.propDecidable p) 1 0
theorem b2i_t {p : Prop} (h : p) : b2i p = 1 := if_pos h
theorem b2i_f {p : Prop} (h : ¬ p) : b2i p = 0 := if_neg h
theorem b2i_w (p : Prop) : wI (b2i p) = b2i p := by
  by_cases h : p
  · rw [b2i_t h]; rfl
  · rw [b2i_f h]; rfl
theorem b2i_eq0 (p : Prop) : (b2i p = 0) = ¬ p := by
  by_cases h : p
  · rw [b2i_t h]; simp [h]
  · rw [b2i_f h]; simp [h]
theorem b2i_eq1 (p : Prop) : (b2i p = 1) = p := by
  by_cases h : p
  · rw [b2i_t h]; simp [h]
  · rw [b2i_f h]; simp [h]
theorem b2i_bool (p : Prop) : (b2i p = 0 ∨ b2i p = 1) = True := by
  by_cases h : p
  · rw [b2i_t h]; simp
  · rw [b2i_f h]; simp
theorem wI_0 : wI 0 = 0 := by decide
theorem wI_1 : wI 1 = 1 := by decide
theorem wI_m1 : wI (-1) = -1 := by decide
/-- as an int may be -/
def inR (x : Int) : Prop := -2147483648 ≤ x ∧ x < 2147483648
