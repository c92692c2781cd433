/-! the reference notes that it hasn't thrown: nothing else changes -/

section THR
variable {σ τ : Hp} {v : Int}
theorem BX.th (h : BX σ τ) : BX σ (pI τ 1300 61 v) := h
theorem LR.th {l : Int} (h : LR l σ τ) : LR l σ (pI τ 1300 61 v) := h
theorem BG.th (h : BG σ τ) : BG σ (pI τ 1300 61 v) := h
theorem AL.th (h : AL σ τ) : AL σ (pI τ 1300 61 v) := h
theorem DKR.th (h : DKR σ τ) : DKR σ (pI τ 1300 61 v) := h.cg rfl (fun r a b => rfl)
theorem RDR.th (h : RDR σ τ) : RDR σ (pI τ 1300 61 v) := h
theorem Rel.th (h : Rel σ τ) : Rel σ (pI τ 1300 61 v) := by
  obtain ⟨h1, h2, h3, h4, h5, h6, h7, h8, h9, h10, h11, h12, h13⟩ := h
  exact ⟨h1, h2, h3.th, fun l a b => (h4 l a b).th, h5.th, h6.th, h7.th, h8.th, h9, h10, h11, h12, h13⟩
theorem RB.th (h : RB τ) : RB (pI τ 1300 61 v) := h
theorem kFirst.th (h : kFirst τ) : kFirst (pI τ 1300 61 v) := h
theorem upL.th (h : upL τ) : upL (pI τ 1300 61 v) := h
theorem mCards.th (h : mCards τ) : mCards (pI τ 1300 61 v) := h.of rfl rfl rfl rfl
theorem WI.th (h : WI τ) : WI (pI τ 1300 61 v) := h
theorem AB.th (h : AB τ) : AB (pI τ 1300 61 v) := h
theorem HIs.th (h : HIs τ) : HIs (pI τ 1300 61 v) := h
theorem WG.th (h : WG τ) : WG (pI τ 1300 61 v) := h
theorem InN.th (h : InN τ) : InN (pI τ 1300 61 v) := h
theorem InS2.th (h : InS2 τ) : InS2 (pI τ 1300 61 v) := h
theorem MT.th (h : MT τ) : MT (pI τ 1300 61 v) := ⟨MI_fre h.1 (by decide), h.2.1, h.2.2⟩
theorem lT.th (h : lT τ) : lT (pI τ 1300 61 v) := h
theorem Inv.th (h : Inv τ) : Inv (pI τ 1300 61 v) := by
  obtain ⟨h1, h2, h3, h4, h5, h6, h7, h8, h9, h10, h11, h12⟩ := h
  exact ⟨h1.th, h2.th, h3.th, h4.th, h5.th, h6.th, h7.th, h8.th, h9.th, h10.th, h11.th, h12.th⟩
/-- all that holds of a memory between two steps -/
def Fu (b n : Int) (σ : Hp) : Prop := Rel σ σ ∧ Inv σ ∧ Scp σ b n
theorem Scp.ce {b n : Int} {σ' : Hp} (hb : b < 0) (h : Scp σ b n) (z : CE σ σ') : Scp σ' b n := by
  unfold Scp at *
  rw [z.kd, z.ln, z.a b (by omega)]
  exact h
theorem Fu.th {b n : Int} (hb : b < 0) (hw : ∀ r, kd σ r = 21 → r < 0) (h : Fu b n σ) : Fu b n (pI σ 1300 61 v) := by
  have z : CE σ (pI σ 1300 61 v) := CE_pI σ 61 v (by decide)
  exact ⟨(h.1.ce hw z).th, h.2.1.th, h.2.2.ce hb z⟩
end THR
