/-! small words -/
noncomputable def b2i (p : Prop) : Int := @ite _ p (Classical.propDecidable p) 1 0
theorem b2i_t {p : Prop} (h : p) : b2i p = 1 := if_pos h
theorem b2i_f {p : Prop} (h : ¬ p) : b2i p = 0 := if_neg h
theorem b2i_w (p : Prop) : wI (b2i p) = b2i p := by
  by_cases h : p
  · rw [b2i_t h]; rfl
  · rw [b2i_f h]; rfl
theorem b2i_eq0 (p : Prop) : (b2i p = 0) = ¬ p := by
  by_cases h : p
  · rw [b2i_t h]; simp [h]
  · rw [b2i_f h]; simp [h]
theorem b2i_eq1 (p : Prop) : (b2i p = 1) = p := by
  by_cases h : p
  · rw [b2i_t h]; simp [h]
  · rw [b2i_f h]; simp [h]
theorem b2i_bool (p : Prop) : (b2i p = 0 ∨ b2i p = 1) = True := by
  by_cases h : p
  · rw [b2i_t h]; simp
  · rw [b2i_f h]; simp
theorem wI_0 : wI 0 = 0 := by decide
theorem wI_1 : wI 1 = 1 := by decide
theorem wI_m1 : wI (-1) = -1 := by decide
/-- as an int may be -/
def inR (x : Int) : Prop := -2147483648 ≤ x ∧ x < 2147483648
theorem dv_nn {x y : Int} (h1 : 0 ≤ x) (h2 : x < 2147483648) (h3 : 0 < y) (h4 : y < 2147483648) : dvI x y = x / y := by
  unfold dvI
  rw [wI_id (by omega) h2, wI_id (by omega) h4, Int.tdiv_eq_ediv_of_nonneg h1]
theorem rm_nn {x y : Int} (h1 : 0 ≤ x) (h2 : x < 2147483648) (h3 : 0 < y) (h4 : y < 2147483648) : rmI x y = x % y := by
  unfold rmI
  rw [wI_id (by omega) h2, wI_id (by omega) h4, Int.tmod_eq_emod_of_nonneg h1]
theorem nor_self (p : Prop) : (¬ p ∨ p) = True := eq_true (Or.comm.mp (Classical.em p))
/-- below w -/
def bE (w : Int) (P : Int → Prop) : Prop := ∃ j, 0 ≤ j ∧ j < w ∧ P j
theorem bE_0 (P : Int → Prop) : ¬ bE 0 P := fun ⟨j, a, b, _⟩ => by omega
theorem bE_s {P : Int → Prop} {w : Int} (hw : 0 ≤ w) : bE (w + 1) P ↔ bE w P ∨ P w :=
  ⟨fun ⟨j, a, b, c⟩ => by
    by_cases e : j = w
    · subst e; exact Or.inr c
    · exact Or.inl ⟨j, a, by omega, c⟩, fun h => by
    rcases h with ⟨j, a, b, c⟩ | h
    · exact ⟨j, a, by omega, c⟩
    · exact ⟨w, hw, by omega, h⟩⟩
theorem bE_le {P : Int → Prop} {w v : Int} (h : w ≤ v) (hp : bE w P) : bE v P := by
  obtain ⟨j, a, b, c⟩ := hp
  exact ⟨j, a, by omega, c⟩
theorem b2i_congr {p q : Prop} (h : p ↔ q) : b2i p = b2i q := by rw [propext h]
theorem b2i_sF {P : Int → Prop} {w : Int} (hw : 0 ≤ w) (h : ¬ P w) : b2i (bE (w + 1) P) = b2i (bE w P) := b2i_congr ((bE_s hw).trans ⟨fun z => z.elim id (fun z => absurd z h), Or.inl⟩)
theorem b2i_sT {P : Int → Prop} {w : Int} (hw : 0 ≤ w) (h : P w) : b2i (bE (w + 1) P) = 1 := b2i_t ((bE_s hw).mpr (Or.inr h))
theorem b2i_E0 (P : Int → Prop) : b2i (bE 0 P) = 0 := b2i_f (bE_0 P)
