/-! what the reference does leaves the class's picture as it is; the picture tells of the reference's places alone -/

def CE (σ τ : Hp) : Prop := nx τ = nx σ ∧ kd τ = kd σ ∧ ln τ = ln σ ∧ fR τ = fR σ ∧ aR τ = aR σ ∧ (∀ f, ¬ (1300 ≤ f ∧ f < 1400) → fI τ f = fI σ f ∧ fL τ f = fL σ f) ∧ ∀ r, ¬ (62 ≤ r ∧ r ≤ 119) → aI τ r = aI σ r ∧ aL τ r = aL σ r
theorem CE.rf (σ : Hp) : CE σ σ := ⟨rfl, rfl, rfl, rfl, rfl, fun _ _ => ⟨rfl, rfl⟩, fun _ _ => ⟨rfl, rfl⟩⟩
theorem CE.tr {σ τ ρ : Hp} (h : CE σ τ) (g : CE τ ρ) : CE σ ρ := by
  obtain ⟨h1, h2, h3, h4, h5, h6, h7⟩ := h
  obtain ⟨g1, g2, g3, g4, g5, g6, g7⟩ := g
  exact ⟨g1.trans h1, g2.trans h2, g3.trans h3, g4.trans h4, g5.trans h5, fun f a => ⟨(g6 f a).1.trans (h6 f a).1, (g6 f a).2.trans (h6 f a).2⟩, fun r a => ⟨(g7 r a).1.trans (h7 r a).1, (g7 r a).2.trans (h7 r a).2⟩⟩
theorem CE_pI (σ : Hp) {f : Nat} (k v : Int) (hf : 1300 ≤ f ∧ f < 1400) : CE σ (pI σ f k v) := ⟨rfl, rfl, rfl, rfl, rfl, fun g a => ⟨by
  funext j
  rw [fI_pI, if_neg (fun z => a (by rw [z.1]; exact hf))], rfl⟩, fun _ _ => ⟨rfl, rfl⟩⟩
theorem CE_qI (σ : Hp) {r : Int} (j v : Int) (hr : 62 ≤ r ∧ r ≤ 119) : CE σ (qI σ r j v) := ⟨rfl, rfl, rfl, rfl, rfl, fun _ _ => ⟨rfl, rfl⟩, fun s a => ⟨by
  funext i
  rw [aI_qI, if_neg (fun z => a (by rw [z.1]; exact hr))], rfl⟩⟩
theorem CE_qL (σ : Hp) {r : Int} (j : Int) (v : BitVec 64) (hr : 62 ≤ r ∧ r ≤ 119) : CE σ (qL σ r j v) := ⟨rfl, rfl, rfl, rfl, rfl, fun _ _ => ⟨rfl, rfl⟩, fun s a => ⟨rfl, by
  funext i
  rw [aL_qL, if_neg (fun z => a (by rw [z.1]; exact hr))]⟩⟩
theorem Ut.ce {fs : List Nat} {ar : Int → Int → Prop} {σ τ : Hp} (h : Ut fs ar σ τ) (hf : ∀ f ∈ fs, 1300 ≤ f ∧ f < 1400) (ha : ∀ r j, ar r j → 62 ≤ r ∧ r ≤ 119) : CE σ τ := by
  obtain ⟨h1, h2, h3, h4, h5, h6, h7, h8, h9⟩ := h
  exact ⟨h1, h2, h3, h4, h6, fun f a => ⟨funext fun k => h7 f k (fun z => a (hf f z.2)), funext fun k => h8 f k (fun z => a (hf f z.2))⟩, fun r a => ⟨funext fun j => h9 r j (fun z => a (ha r j z)), by rw [h5]⟩⟩
theorem Uv.ce {fs : List Nat} {ar al : Int → Int → Prop} {σ τ : Hp} (h : Uv fs ar al σ τ) (hf : ∀ f ∈ fs, 1300 ≤ f ∧ f < 1400) (ha : ∀ r j, ar r j → 62 ≤ r ∧ r ≤ 119) (hl : ∀ r j, al r j → 62 ≤ r ∧ r ≤ 119) : CE σ τ := by
  obtain ⟨h1, h2, h3, h4, h5, h6, h7, h8, h9⟩ := h
  exact ⟨h1, h2, h3, h4, h5, fun f a => ⟨funext fun k => h7 f k (fun z => a (hf f z.2)), by rw [h6]⟩, fun r a => ⟨funext fun j => h8 r j (fun z => a (ha r j z)), funext fun j => h9 r j (fun z => a (hl r j z))⟩⟩
theorem Scr.ce {σ τ : Hp} (h : Scr σ τ) : CE σ τ := by
  obtain ⟨A, hA, rfl⟩ := h
  refine ⟨rfl, rfl, rfl, rfl, rfl, fun _ _ => ⟨rfl, rfl⟩, fun r a => ⟨hA r (fun q => a ?_), rfl⟩⟩
  have e : ∀ r ∈ scrA, 62 ≤ r ∧ r ≤ 119 := by decide
  exact e r q
section CEE
variable {σ σ' τ τ' : Hp}
theorem CE.nx (z : CE σ σ') : nx σ' = nx σ := z.1
theorem CE.kd (z : CE σ σ') : kd σ' = kd σ := z.2.1
theorem CE.ln (z : CE σ σ') : ln σ' = ln σ := z.2.2.1
theorem CE.fR (z : CE σ σ') : fR σ' = fR σ := z.2.2.2.1
theorem CE.aR (z : CE σ σ') : aR σ' = aR σ := z.2.2.2.2.1
theorem CE.f (z : CE σ σ') (f : Nat) (h : ¬ (1300 ≤ f ∧ f < 1400)) : fI σ' f = fI σ f := (z.2.2.2.2.2.1 f h).1
theorem CE.fl (z : CE σ σ') (f : Nat) (h : ¬ (1300 ≤ f ∧ f < 1400)) : fL σ' f = fL σ f := (z.2.2.2.2.2.1 f h).2
theorem CE.a (z : CE σ σ') (r : Int) (h : ¬ (62 ≤ r ∧ r ≤ 119)) : aI σ' r = aI σ r := (z.2.2.2.2.2.2 r h).1
theorem CE.al (z : CE σ σ') (r : Int) (h : ¬ (62 ≤ r ∧ r ≤ 119)) : aL σ' r = aL σ r := (z.2.2.2.2.2.2 r h).2
theorem CE.el (z : CE σ σ') : lat σ' = lat σ := by
  funext p i
  unfold lat
  rw [z.fR, z.aR]
theorem CE.ew (z : CE σ σ') : whl σ' = whl σ := by
  funext p o
  unfold whl
  rw [z.fl 310 (by decide), z.fl 311 (by decide)]
theorem CE.fz (z : CE σ σ') : Fz (List.range' 1300 100) (fun r => 62 ≤ r ∧ r ≤ 119) (fun r => 62 ≤ r ∧ r ≤ 119) σ σ' :=
  ⟨z.nx, z.kd, z.ln, z.aR, fun f hf => z.f f (fun q => hf (List.mem_range'_1.mpr ⟨q.1, by omega⟩)), fun f hf => z.fl f (fun q => hf (List.mem_range'_1.mpr ⟨q.1, by omega⟩)), fun f _ => by rw [z.fR], fun r h => z.a r h, fun r h => z.al r h⟩
theorem CLay.ce (h : CLay σ) (z : CE σ σ') : CLay σ' := by
  unfold CLay at *
  rw [z.kd, z.ln, z.fR, z.aR]
  exact h
theorem LOk.ce {p : Int} {ci : Nat} (h : LOk σ p ci) (z : CE σ σ') : LOk σ' p ci := by
  unfold LOk at *
  rw [z.kd, z.ln, z.fR, z.aR, z.f 1402 (by decide)]
  exact h
theorem BxE.ce {i p : Int} (h : BxE σ τ i p) (z : CE σ σ') : BxE σ' τ i p := by
  unfold BxE at *
  rw [z.ew, z.f 300 (by decide), z.f 301 (by decide), z.f 302 (by decide), z.f 303 (by decide), z.f 304 (by decide), z.f 305 (by decide), z.f 306 (by decide), z.f 307 (by decide), z.f 308 (by decide), z.f 309 (by decide), z.f 312 (by decide), z.f 313 (by decide)]
  exact h
theorem BX.ce (h : BX σ τ) (z : CE σ σ') : BX σ' τ := by
  obtain ⟨h1, h2, h3⟩ := h
  exact ⟨h1.ce z, by rw [z.f 1402 (by decide)]; exact h2, fun i a b => by rw [z.el]; exact (h3 i a b).ce z⟩
theorem CutE.ce {q n f l : Int} (h : CutE σ q n f l) (z : CE σ σ') (hq : ¬ (62 ≤ fR σ 1001 q ∧ fR σ 1001 q ≤ 119)) : CutE σ' q n f l := by
  unfold CutE at *
  rw [z.fR, z.a _ hq]
  exact h
theorem LR.ce {l : Int} (h : LR l σ τ) (hC : CLay σ) (hl : 0 ≤ l ∧ l < 4) (z : CE σ σ') : LR l σ' τ := by
  obtain ⟨⟨⟨g1, g2, g3, g4, g5, g6, g7, g8, g9, g10, g11, g12, g13⟩, g⟩, gb⟩ := h
  have hq := (LoP.k hC hl).2.2.2.1
  refine ⟨⟨⟨g1.ce z, by rw [z.f 1402 (by decide)]; exact g2, fun k a b => by rw [z.el]; exact g3 k a b, ?_, ?_, g6, ?_, ?_, ?_, ?_, ?_, ?_, g13⟩, ?_⟩, fun k a b => by rw [z.el]; exact (gb k a b).ce z⟩
  · rw [z.a (47 + 4 * l) (by omega)]; exact g4
  · rw [z.a (47 + 4 * l) (by omega)]; exact g5
  · rw [z.f 1006 (by decide), z.f 1007 (by decide)]
    exact g7.ce z (by rw [hq]; omega)
  · rw [z.a (48 + 4 * l) (by omega)]; exact g8
  · rw [z.a (48 + 4 * l) (by omega)]; exact g9
  · rw [z.f 1003 (by decide)]; exact g10
  · rw [z.f 1004 (by decide)]; exact g11
  · rw [z.f 1005 (by decide)]; exact g12
  · rw [z.f 1005 (by decide)]; exact g
theorem BG.ce (h : BG σ τ) (z : CE σ σ') : BG σ' τ := h.fz z.fz (by decide +kernel) (by decide) (by decide)
theorem AlE.ce {a p : Int} (h : AlE σ τ a p) (z : CE σ σ') : AlE σ' τ a p := by
  have hp := h.1
  unfold AlE at *
  rw [z.el, z.kd, z.ln, z.a (p + 1) (by omega), z.fR, z.f 101 (by decide), z.f 103 (by decide), z.f 104 (by decide), z.f 105 (by decide), z.f 106 (by decide), z.f 107 (by decide)]
  exact h
theorem AL.ce (h : AL σ τ) (z : CE σ σ') : AL σ' τ := by
  obtain ⟨h1, h2, h3, h4, h5, h6⟩ := h
  exact ⟨h1.ce z, by rw [z.f 1402 (by decide)]; exact h2, fun a q1 q2 => by rw [z.el]; exact (h3 a q1 q2).ce z, by rw [z.el]; exact h4, by rw [z.a 29 (by decide), z.a 30 (by decide), z.a 31 (by decide)]; exact h5, by rw [z.f 204 (by decide)]; exact h6⟩
theorem DKR.ce (h : DKR σ τ) (z : CE σ σ') : DKR σ' τ := h.fz z.fz (by decide +kernel) (fun r q => ⟨by omega, by omega⟩)
theorem KM.ce {ks : List Int} (h : KM σ ks) (z : CE σ σ') : KM σ' ks := by
  obtain ⟨k1, k2, k3⟩ := h
  exact ⟨by rw [z.f 1109 (by decide)]; exact k1, k2, fun i k hi => by rw [z.al 14 (by decide)]; exact k3 i k hi⟩
theorem RDR.ce (h : RDR σ τ) (z : CE σ σ') : RDR σ' τ := by
  obtain ⟨xs, h1, h2, h3, h4⟩ := h
  exact ⟨xs, h1, h2.ce z, by rw [z.f 1108 (by decide)]; exact h3, fun q => by rw [z.fR, z.f 1107 (by decide)]; exact h4 q⟩
theorem LTT.ce (h : LTT σ) (z : CE σ σ') : LTT σ' := (h.fz z.fz (by decide +kernel) (by decide)).1
theorem TGr.ce (h : TGr σ) (z : CE σ σ') : TGr σ' := by
  unfold TGr at *
  rw [z.a 22 (by decide), z.a 23 (by decide)]
  exact h
theorem TXT.ce (h : TXT σ) (hw : ∀ r, kd σ r = 21 → r < 0) (z : CE σ σ') : TXT σ' := h.fz z.fz (by decide +kernel) (fun r q e => by have := hw r e; omega)
/-! the other side -/
theorem BxE.re {i p : Int} (h : BxE σ τ i p) (z : RE τ τ') : BxE σ τ' i p := by
  unfold BxE at *
  simp only [z.eqs]
  exact h
theorem BX.re (h : BX σ τ) (z : RE τ τ') : BX σ τ' := by
  unfold BX BxE at *
  simp only [z.eqs]
  exact h
theorem LR.re {l : Int} (h : LR l σ τ) (z : RE τ τ') : LR l σ τ' := by
  unfold LR LoP BxE at *
  simp only [z.eqs]
  exact h
theorem BG.re (h : BG σ τ) (z : RE τ τ') : BG σ τ' := by
  unfold BG CoE at *
  simp only [z.eqs]
  exact h
theorem AL.re (h : AL σ τ) (z : RE τ τ') : AL σ τ' := by
  unfold AL AlE at *
  simp only [z.eqs]
  exact h
theorem DKR.re (h : DKR σ τ) (z : RE τ τ') : DKR σ τ' := h.cg (z.2 _ (by decide) (by decide)).1 (fun r a b => (z.1 r (by omega) (by omega)).2.2.1)
theorem RDR.re (h : RDR σ τ) (z : RE τ τ') : RDR σ τ' := by
  unfold RDR Told at *
  simp only [z.eqs]
  exact h
theorem RB.re (h : RB τ) (z : RE τ τ') : RB τ' := by
  unfold RB at *
  simp only [z.eqs]
  exact h
theorem WI.re (h : WI τ) (z : RE τ τ') : WI τ' := by
  unfold WI at *
  simp only [z.eqs]
  exact h
theorem AB.re (h : AB τ) (z : RE τ τ') : AB τ' := by
  unfold AB at *
  simp only [z.eqs]
  exact h
theorem HIs.re (h : HIs τ) (z : RE τ τ') : HIs τ' := by
  unfold HIs at *
  simp only [z.eqs]
  exact h
theorem WG.re (h : WG τ) (z : RE τ τ') : WG τ' := by
  unfold WG mGoing mGo at *
  simp only [z.eqs]
  exact h
theorem kFirst.re (h : kFirst τ) (z : RE τ τ') : kFirst τ' := by
  unfold kFirst at *
  simp only [z.eqs]
  exact h
theorem upL.re (h : upL τ) (z : RE τ τ') : upL τ' := by
  unfold upL at *
  simp only [z.eqs]
  exact h
theorem MT.re (h : MT τ) (z : RE τ τ') : MT τ' := by
  refine ⟨MI_RE z h.1, ?_, ?_⟩
  · simp only [z.eqs]
    exact h.2.1
  · simp only [z.eqs]
    exact h.2.2
theorem mCards.re (h : mCards τ) (z : RE τ τ') : mCards τ' := h.of (z.1 _ (by decide) (by decide)).2.2.1 (z.1 _ (by decide) (by decide)).2.2.1 (z.1 _ (by decide) (by decide)).2.2.1 (z.2 _ (by decide) (by decide)).1
end CEE
