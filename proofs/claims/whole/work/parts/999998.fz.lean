/-! small changes of the class's own: what keeps each piece of the relation -/

section FZP
variable {fs : List Nat} {ars als : Int → Prop} {σ σ' τ : Hp}
theorem Fz.elt (z : Fz fs ars als σ σ') (h : 1401 ∉ fs) : lat σ' = lat σ := by
  funext p i
  unfold lat
  rw [z.fR h, z.aR]
abbrev bxF : List Nat := [300, 301, 302, 303, 304, 305, 306, 307, 308, 309, 312, 313, 310, 311]
theorem BxE.fz {i p : Int} (h : BxE σ τ i p) (z : Fz fs ars als σ σ') (hf : ∀ f ∈ bxF, f ∉ fs) : BxE σ' τ i p := by
  simp only [bxF, List.forall_mem_cons, List.not_mem_nil, false_implies, implies_true, and_true] at hf
  obtain ⟨f1, f2, f3, f4, f5, f6, f7, f8, f9, f10, f11, f12, f13, f14⟩ := hf
  unfold BxE whl at *
  rw [z.fI f1, z.fI f2, z.fI f3, z.fI f4, z.fI f5, z.fI f6, z.fI f7, z.fI f8, z.fI f9, z.fI f10, z.fI f11, z.fI f12, z.fL f13, z.fL f14]
  exact h
theorem BX.fz (h : BX σ τ) (z : Fz fs ars als σ σ') (h1 : 1401 ∉ fs) (h2 : 1402 ∉ fs) (h3 : 3000 ∉ fs) (hf : ∀ f ∈ bxF, f ∉ fs) : BX σ' τ := by
  obtain ⟨g1, g2, g3⟩ := h
  exact ⟨g1.fz z h1 h2 h3, by rw [z.fI h2]; exact g2, fun i a b => by rw [z.elt h1]; exact (g3 i a b).fz z hf⟩
abbrev lpF : List Nat := [1006, 1007, 1003, 1004, 1005, 1001]
theorem LR.fz {l : Int} (h : LR l σ τ) (hC : CLay σ) (hl : 0 ≤ l ∧ l < 4) (z : Fz fs ars als σ σ') (h1 : 1401 ∉ fs) (h2 : 1402 ∉ fs) (h3 : 3000 ∉ fs) (hb : ∀ f ∈ bxF, f ∉ fs) (hf : ∀ f ∈ lpF, f ∉ fs) (ha : ∀ r, 47 ≤ r → r ≤ 60 → ¬ ars r) : LR l σ' τ := by
  simp only [lpF, List.forall_mem_cons, List.not_mem_nil, false_implies, implies_true, and_true] at hf
  obtain ⟨f1, f2, f3, f4, f5, f6⟩ := hf
  obtain ⟨⟨⟨g1, g2, g3, g4, g5, g6, g7, g8, g9, g10, g11, g12, g13⟩, g⟩, gb⟩ := h
  have hq := (LoP.k hC hl).2.2.2.1
  have a7 : aI σ' (47 + 4 * l) = aI σ (47 + 4 * l) := z.aI (ha _ (by omega) (by omega))
  have a8 : aI σ' (48 + 4 * l) = aI σ (48 + 4 * l) := z.aI (ha _ (by omega) (by omega))
  refine ⟨⟨⟨g1.fz z h1 h2 h3, by rw [z.fI h2]; exact g2, fun k a b => by rw [z.elt h1]; exact g3 k a b, by rw [a7]; exact g4, by rw [a7]; exact g5, g6, ?_, by rw [a8]; exact g8, by rw [a8]; exact g9, by rw [z.fI f3]; exact g10, by rw [z.fI f4]; exact g11, by rw [z.fI f5]; exact g12, g13⟩, by rw [z.fI f5]; exact g⟩, fun k a b => by rw [z.elt h1]; exact (gb k a b).fz z hb⟩
  unfold CutE at *
  rw [z.fI f1, z.fI f2, z.fR f6]
  rw [hq] at g7 ⊢
  rw [a7]
  exact g7
abbrev alF : List Nat := [100, 101, 102, 103, 104, 105, 106, 107]
theorem AL.fz (h : AL σ τ) (z : Fz fs ars als σ σ') (h1 : 1401 ∉ fs) (h2 : 1402 ∉ fs) (h3 : 3000 ∉ fs) (h4 : 204 ∉ fs) (hf : ∀ f ∈ alF, f ∉ fs) (ha : ∀ r, ars r → r ≤ 28 ∨ (32 ≤ r ∧ r ≤ 120)) : AL σ' τ := by
  simp only [alF, List.forall_mem_cons, List.not_mem_nil, false_implies, implies_true, and_true] at hf
  obtain ⟨f1, f2, f3, f4, f5, f6, f7, f8⟩ := hf
  obtain ⟨g1, g2, g3, g4, g5, g6⟩ := h
  refine ⟨g1.fz z h1 h2 h3, by rw [z.fI h2]; exact g2, fun a q1 q2 => ?_, by rw [z.elt h1]; exact g4, ?_, by rw [z.fI h4]; exact g6⟩
  · have g := g3 a q1 q2
    rw [z.elt h1]
    have hp := g.1
    have ap : aI σ' (lat σ 28 a + 1) = aI σ (lat σ 28 a + 1) := z.aI (fun q => by have := ha _ q; omega)
    unfold AlE at *
    rw [z.elt h1, z.kd, z.ln, ap, z.fR f1, z.fR f3, z.fI f2, z.fI f4, z.fI f5, z.fI f6, z.fI f7, z.fI f8]
    exact g
  · rw [z.aI (r := 29) (fun q => by have := ha _ q; omega), z.aI (r := 30) (fun q => by have := ha _ q; omega), z.aI (r := 31) (fun q => by have := ha _ q; omega)]
    exact g5
theorem RDR.fz (h : RDR σ τ) (z : Fz fs ars als σ σ') (hf : ∀ f ∈ [1109, 1108, 1107, 1106], f ∉ fs) (ha : ¬ als 14) : RDR σ' τ := by
  simp only [List.forall_mem_cons, List.not_mem_nil, false_implies, implies_true, and_true] at hf
  obtain ⟨f1, f2, f3, f4⟩ := hf
  obtain ⟨xs, h1, ⟨k1, k2, k3⟩, h3, h4⟩ := h
  refine ⟨xs, h1, ⟨by rw [z.fI f1]; exact k1, k2, fun i k hi => by rw [z.aL ha]; exact k3 i k hi⟩, by rw [z.fI f2]; exact h3, fun q => ?_⟩
  rw [z.fR f4, z.fI f3]
  exact h4 q
theorem LD.fz (h : LD σ) (z : Fz fs ars als σ σ') (h1 : 1401 ∉ fs) : LD σ' := by
  unfold LD at *
  rw [z.fR h1, z.ln]
  exact h
theorem TGr.fz (h : TGr σ) (z : Fz fs ars als σ σ') (h1 : ¬ ars 22) (h2 : ¬ ars 23) : TGr σ' := by
  unfold TGr at *
  rw [z.aI h1, z.aI h2]
  exact h
end FZP
