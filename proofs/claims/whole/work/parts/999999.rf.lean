/-! the reference's small changes: what each piece reads -/

def Rf (fs : List Nat) (rs : List Int) (τ τ' : Hp) : Prop := (∀ f, 1300 ≤ f → f < 1400 → f ∉ fs → fI τ' f 61 = fI τ f 61) ∧ ∀ r, 62 ≤ r → r ≤ 119 → r ∉ rs → aI τ' r = aI τ r
theorem Rf.rf (fs : List Nat) (rs : List Int) (τ : Hp) : Rf fs rs τ τ := ⟨fun _ _ _ _ => rfl, fun _ _ _ _ => rfl⟩
section RFF
variable {fs : List Nat} {rs : List Int} {σ τ τ' : Hp}
theorem Rf.p (h : Rf fs rs τ τ') {f : Nat} {v : Int} (hf : f ∈ fs) : Rf fs rs τ (pI τ' f 61 v) := ⟨fun g a b c => by
  rw [fI_pI, if_neg (fun q => c (by rw [q.1]; exact hf))]
  exact h.1 g a b c, fun r a b c => h.2 r a b c⟩
theorem Rf.q (h : Rf fs rs τ τ') {r j v : Int} (hr : r ∈ rs) : Rf fs rs τ (qI τ' r j v) := ⟨fun g a b c => h.1 g a b c, fun s a b c => by
  have e : aI (qI τ' r j v) s = aI τ' s := by
    funext i
    rw [aI_qI, if_neg (fun q => c (by rw [q.1]; exact hr))]
  rw [e]
  exact h.2 s a b c⟩
theorem Rf.tr {ρ : Hp} (h : Rf fs rs τ τ') (g : Rf fs rs τ' ρ) : Rf fs rs τ ρ := ⟨fun f a b c => (g.1 f a b c).trans (h.1 f a b c), fun r a b c => (g.2 r a b c).trans (h.2 r a b c)⟩
theorem Rf.up {gs : List Nat} {ss : List Int} (h : Rf fs rs τ τ') (h1 : ∀ f ∈ fs, f ∈ gs) (h2 : ∀ r ∈ rs, r ∈ ss) : Rf gs ss τ τ' := ⟨fun f a b c => h.1 f a b (fun q => c (h1 f q)), fun r a b c => h.2 r a b (fun q => c (h2 r q))⟩
theorem Ut.rf {ar : Int → Int → Prop} (h : Ut fs ar τ τ') (ha : ∀ r j, ar r j → r ∈ rs) : Rf fs rs τ τ' := by
  obtain ⟨h1, h2, h3, h4, h5, h6, h7, h8, h9⟩ := h
  exact ⟨fun f a b c => h7 f 61 (fun z => c z.2), fun r a b c => funext fun j => h9 r j (fun z => c (ha r j z))⟩
theorem Uv.rf {ar al : Int → Int → Prop} (h : Uv fs ar al τ τ') (ha : ∀ r j, ar r j → r ∈ rs) : Rf fs rs τ τ' := by
  obtain ⟨h1, h2, h3, h4, h5, h6, h7, h8, h9⟩ := h
  exact ⟨fun f a b c => h7 f 61 (fun z => c z.2), fun r a b c => funext fun j => h8 r j (fun z => c (ha r j z))⟩
theorem Scr.rf (h : Scr τ τ') : Rf [] scrA τ τ' := by
  obtain ⟨A, hA, rfl⟩ := h
  exact ⟨fun f a b c => rfl, fun r a b c => hA r c⟩
theorem Rf_thr (fs : List Nat) (rs : List Int) (τ : Hp) (v : Int) (h : 1300 ∈ fs) : Rf fs rs τ (pI τ 1300 61 v) := (Rf.rf fs rs τ).p h
theorem BX.rf (h : BX σ τ) (z : Rf fs rs τ τ') (hf : ∀ f ∈ ([1302] : List Nat), f ∉ fs) (ha : ∀ r ∈ ([63, 64, 62, 68, 65, 66, 67, 72, 73, 70, 69, 71] : List Int), r ∉ rs) : BX σ τ' := by
  have e0 := z.1 1302 (by omega) (by omega) (hf 1302 (by simp))
  have g0 := z.2 63 (by omega) (by omega) (ha 63 (by simp))
  have g1 := z.2 64 (by omega) (by omega) (ha 64 (by simp))
  have g2 := z.2 62 (by omega) (by omega) (ha 62 (by simp))
  have g3 := z.2 68 (by omega) (by omega) (ha 68 (by simp))
  have g4 := z.2 65 (by omega) (by omega) (ha 65 (by simp))
  have g5 := z.2 66 (by omega) (by omega) (ha 66 (by simp))
  have g6 := z.2 67 (by omega) (by omega) (ha 67 (by simp))
  have g7 := z.2 72 (by omega) (by omega) (ha 72 (by simp))
  have g8 := z.2 73 (by omega) (by omega) (ha 73 (by simp))
  have g9 := z.2 70 (by omega) (by omega) (ha 70 (by simp))
  have g10 := z.2 69 (by omega) (by omega) (ha 69 (by simp))
  have g11 := z.2 71 (by omega) (by omega) (ha 71 (by simp))
  unfold BX BxE at *
  simp only [e0, g0, g1, g2, g3, g4, g5, g6, g7, g8, g9, g10, g11]
  exact h
theorem LR.rf {l : Int} (h : LR l σ τ) (z : Rf fs rs τ τ') (ha : ∀ r ∈ ([74, 75, 76, 79, 78, 77, 63, 64, 62, 68, 65, 66, 67, 72, 73, 70, 69, 71] : List Int), r ∉ rs) : LR l σ τ' := by
  have g0 := z.2 74 (by omega) (by omega) (ha 74 (by simp))
  have g1 := z.2 75 (by omega) (by omega) (ha 75 (by simp))
  have g2 := z.2 76 (by omega) (by omega) (ha 76 (by simp))
  have g3 := z.2 79 (by omega) (by omega) (ha 79 (by simp))
  have g4 := z.2 78 (by omega) (by omega) (ha 78 (by simp))
  have g5 := z.2 77 (by omega) (by omega) (ha 77 (by simp))
  have g6 := z.2 63 (by omega) (by omega) (ha 63 (by simp))
  have g7 := z.2 64 (by omega) (by omega) (ha 64 (by simp))
  have g8 := z.2 62 (by omega) (by omega) (ha 62 (by simp))
  have g9 := z.2 68 (by omega) (by omega) (ha 68 (by simp))
  have g10 := z.2 65 (by omega) (by omega) (ha 65 (by simp))
  have g11 := z.2 66 (by omega) (by omega) (ha 66 (by simp))
  have g12 := z.2 67 (by omega) (by omega) (ha 67 (by simp))
  have g13 := z.2 72 (by omega) (by omega) (ha 72 (by simp))
  have g14 := z.2 73 (by omega) (by omega) (ha 73 (by simp))
  have g15 := z.2 70 (by omega) (by omega) (ha 70 (by simp))
  have g16 := z.2 69 (by omega) (by omega) (ha 69 (by simp))
  have g17 := z.2 71 (by omega) (by omega) (ha 71 (by simp))
  unfold LR LoP BxE at *
  simp only [g0, g1, g2, g3, g4, g5, g6, g7, g8, g9, g10, g11, g12, g13, g14, g15, g16, g17]
  exact h
theorem BG.rf (h : BG σ τ) (z : Rf fs rs τ τ') (hf : ∀ f ∈ ([1335, 1332, 1341, 1342] : List Nat), f ∉ fs) (ha : ∀ r ∈ ([87, 88, 89, 91, 85, 86] : List Int), r ∉ rs) : BG σ τ' := by
  have e0 := z.1 1335 (by omega) (by omega) (hf 1335 (by simp))
  have e1 := z.1 1332 (by omega) (by omega) (hf 1332 (by simp))
  have e2 := z.1 1341 (by omega) (by omega) (hf 1341 (by simp))
  have e3 := z.1 1342 (by omega) (by omega) (hf 1342 (by simp))
  have g0 := z.2 87 (by omega) (by omega) (ha 87 (by simp))
  have g1 := z.2 88 (by omega) (by omega) (ha 88 (by simp))
  have g2 := z.2 89 (by omega) (by omega) (ha 89 (by simp))
  have g3 := z.2 91 (by omega) (by omega) (ha 91 (by simp))
  have g4 := z.2 85 (by omega) (by omega) (ha 85 (by simp))
  have g5 := z.2 86 (by omega) (by omega) (ha 86 (by simp))
  unfold BG CoE at *
  simp only [e0, e1, e2, e3, g0, g1, g2, g3, g4, g5]
  exact h
theorem AL.rf (h : AL σ τ) (z : Rf fs rs τ τ') (hf : ∀ f ∈ ([1371, 1380] : List Nat), f ∉ fs) (ha : ∀ r ∈ ([109, 110, 111, 112, 113, 114, 115, 116, 117, 118, 119] : List Int), r ∉ rs) : AL σ τ' := by
  have e0 := z.1 1371 (by omega) (by omega) (hf 1371 (by simp))
  have e1 := z.1 1380 (by omega) (by omega) (hf 1380 (by simp))
  have g0 := z.2 109 (by omega) (by omega) (ha 109 (by simp))
  have g1 := z.2 110 (by omega) (by omega) (ha 110 (by simp))
  have g2 := z.2 111 (by omega) (by omega) (ha 111 (by simp))
  have g3 := z.2 112 (by omega) (by omega) (ha 112 (by simp))
  have g4 := z.2 113 (by omega) (by omega) (ha 113 (by simp))
  have g5 := z.2 114 (by omega) (by omega) (ha 114 (by simp))
  have g6 := z.2 115 (by omega) (by omega) (ha 115 (by simp))
  have g7 := z.2 116 (by omega) (by omega) (ha 116 (by simp))
  have g8 := z.2 117 (by omega) (by omega) (ha 117 (by simp))
  have g9 := z.2 118 (by omega) (by omega) (ha 118 (by simp))
  have g10 := z.2 119 (by omega) (by omega) (ha 119 (by simp))
  unfold AL AlE at *
  simp only [e0, e1, g0, g1, g2, g3, g4, g5, g6, g7, g8, g9, g10]
  exact h
theorem RDR.rf (h : RDR σ τ) (z : Rf fs rs τ τ') (hf : ∀ f ∈ ([1321, 1322, 1323, 1331] : List Nat), f ∉ fs) (ha : ∀ r ∈ ([74, 75, 80, 81] : List Int), r ∉ rs) : RDR σ τ' := by
  have e0 := z.1 1321 (by omega) (by omega) (hf 1321 (by simp))
  have e1 := z.1 1322 (by omega) (by omega) (hf 1322 (by simp))
  have e2 := z.1 1323 (by omega) (by omega) (hf 1323 (by simp))
  have e3 := z.1 1331 (by omega) (by omega) (hf 1331 (by simp))
  have g0 := z.2 74 (by omega) (by omega) (ha 74 (by simp))
  have g1 := z.2 75 (by omega) (by omega) (ha 75 (by simp))
  have g2 := z.2 80 (by omega) (by omega) (ha 80 (by simp))
  have g3 := z.2 81 (by omega) (by omega) (ha 81 (by simp))
  unfold RDR Told at *
  simp only [e0, e1, e2, e3, g0, g1, g2, g3]
  exact h
theorem RB.rf (h : RB τ) (z : Rf fs rs τ τ') (hf : ∀ f ∈ ([1302] : List Nat), f ∉ fs) (ha : ∀ r ∈ ([62, 68, 71, 72, 73, 74, 75] : List Int), r ∉ rs) : RB τ' := by
  have e0 := z.1 1302 (by omega) (by omega) (hf 1302 (by simp))
  have g0 := z.2 62 (by omega) (by omega) (ha 62 (by simp))
  have g1 := z.2 68 (by omega) (by omega) (ha 68 (by simp))
  have g2 := z.2 71 (by omega) (by omega) (ha 71 (by simp))
  have g3 := z.2 72 (by omega) (by omega) (ha 72 (by simp))
  have g4 := z.2 73 (by omega) (by omega) (ha 73 (by simp))
  have g5 := z.2 74 (by omega) (by omega) (ha 74 (by simp))
  have g6 := z.2 75 (by omega) (by omega) (ha 75 (by simp))
  unfold RB at *
  simp only [e0, g0, g1, g2, g3, g4, g5, g6]
  exact h
theorem kFirst.rf (h : kFirst τ) (z : Rf fs rs τ τ') (ha : ∀ r ∈ ([74, 75, 71, 72] : List Int), r ∉ rs) : kFirst τ' := by
  have g0 := z.2 74 (by omega) (by omega) (ha 74 (by simp))
  have g1 := z.2 75 (by omega) (by omega) (ha 75 (by simp))
  have g2 := z.2 71 (by omega) (by omega) (ha 71 (by simp))
  have g3 := z.2 72 (by omega) (by omega) (ha 72 (by simp))
  unfold kFirst at *
  simp only [g0, g1, g2, g3]
  exact h
theorem upL.rf (h : upL τ) (z : Rf fs rs τ τ') (ha : ∀ r ∈ ([95, 96] : List Int), r ∉ rs) : upL τ' := by
  have g0 := z.2 95 (by omega) (by omega) (ha 95 (by simp))
  have g1 := z.2 96 (by omega) (by omega) (ha 96 (by simp))
  unfold upL at *
  simp only [g0, g1]
  exact h
theorem WI.rf (h : WI τ) (z : Rf fs rs τ τ') (hf : ∀ f ∈ ([1380, 1371] : List Nat), f ∉ fs) (ha : ∀ r ∈ ([117, 112, 114, 119] : List Int), r ∉ rs) : WI τ' := by
  have e0 := z.1 1380 (by omega) (by omega) (hf 1380 (by simp))
  have e1 := z.1 1371 (by omega) (by omega) (hf 1371 (by simp))
  have g0 := z.2 117 (by omega) (by omega) (ha 117 (by simp))
  have g1 := z.2 112 (by omega) (by omega) (ha 112 (by simp))
  have g2 := z.2 114 (by omega) (by omega) (ha 114 (by simp))
  have g3 := z.2 119 (by omega) (by omega) (ha 119 (by simp))
  unfold WI at *
  simp only [e0, e1, g0, g1, g2, g3]
  exact h
theorem AB.rf (h : AB τ) (z : Rf fs rs τ τ') (hf : ∀ f ∈ ([1371, 1302] : List Nat), f ∉ fs) (ha : ∀ r ∈ ([109] : List Int), r ∉ rs) : AB τ' := by
  have e0 := z.1 1371 (by omega) (by omega) (hf 1371 (by simp))
  have e1 := z.1 1302 (by omega) (by omega) (hf 1302 (by simp))
  have g0 := z.2 109 (by omega) (by omega) (ha 109 (by simp))
  unfold AB at *
  simp only [e0, e1, g0]
  exact h
theorem HIs.rf (h : HIs τ) (z : Rf fs rs τ τ') (hf : ∀ f ∈ ([1335, 1332] : List Nat), f ∉ fs) (ha : ∀ r ∈ ([89, 88] : List Int), r ∉ rs) : HIs τ' := by
  have e0 := z.1 1335 (by omega) (by omega) (hf 1335 (by simp))
  have e1 := z.1 1332 (by omega) (by omega) (hf 1332 (by simp))
  have g0 := z.2 89 (by omega) (by omega) (ha 89 (by simp))
  have g1 := z.2 88 (by omega) (by omega) (ha 88 (by simp))
  unfold HIs at *
  simp only [e0, e1, g0, g1]
  exact h
theorem WG.rf (h : WG τ) (z : Rf fs rs τ τ') (hf : ∀ f ∈ ([1302, 1301] : List Nat), f ∉ fs) (ha : ∀ r ∈ ([70, 69, 73] : List Int), r ∉ rs) : WG τ' := by
  have e0 := z.1 1302 (by omega) (by omega) (hf 1302 (by simp))
  have e1 := z.1 1301 (by omega) (by omega) (hf 1301 (by simp))
  have g0 := z.2 70 (by omega) (by omega) (ha 70 (by simp))
  have g1 := z.2 69 (by omega) (by omega) (ha 69 (by simp))
  have g2 := z.2 73 (by omega) (by omega) (ha 73 (by simp))
  unfold WG mGoing mGo at *
  simp only [e0, e1, g0, g1, g2]
  exact h
theorem InN.rf (h : InN τ) (z : Rf fs rs τ τ') (hf : ∀ f ∈ ([1302, 1371, 1322, 1321, 1301] : List Nat), f ∉ fs) (ha : ∀ r ∈ ([72, 73, 70, 112, 113, 114, 115] : List Int), r ∉ rs) : InN τ' := by
  have e0 := z.1 1302 (by omega) (by omega) (hf 1302 (by simp))
  have e1 := z.1 1371 (by omega) (by omega) (hf 1371 (by simp))
  have e2 := z.1 1322 (by omega) (by omega) (hf 1322 (by simp))
  have e3 := z.1 1321 (by omega) (by omega) (hf 1321 (by simp))
  have e4 := z.1 1301 (by omega) (by omega) (hf 1301 (by simp))
  have g0 := z.2 72 (by omega) (by omega) (ha 72 (by simp))
  have g1 := z.2 73 (by omega) (by omega) (ha 73 (by simp))
  have g2 := z.2 70 (by omega) (by omega) (ha 70 (by simp))
  have g3 := z.2 112 (by omega) (by omega) (ha 112 (by simp))
  have g4 := z.2 113 (by omega) (by omega) (ha 113 (by simp))
  have g5 := z.2 114 (by omega) (by omega) (ha 114 (by simp))
  have g6 := z.2 115 (by omega) (by omega) (ha 115 (by simp))
  unfold InN at *
  simp only [e0, e1, e2, e3, e4, g0, g1, g2, g3, g4, g5, g6]
  exact h
theorem lT.rf (h : lT τ) (z : Rf fs rs τ τ') (hf : ∀ f ∈ ([1352, 1302] : List Nat), f ∉ fs) (ha : ∀ r ∈ ([96, 69] : List Int), r ∉ rs) : lT τ' := by
  have e0 := z.1 1352 (by omega) (by omega) (hf 1352 (by simp))
  have e1 := z.1 1302 (by omega) (by omega) (hf 1302 (by simp))
  have g0 := z.2 96 (by omega) (by omega) (ha 96 (by simp))
  have g1 := z.2 69 (by omega) (by omega) (ha 69 (by simp))
  unfold lT lT0 at *
  simp only [e0, e1, g0, g1]
  exact h
theorem InS2.rf (h : InS2 τ) (z : Rf fs rs τ τ') (hf : ∀ f ∈ ([1335, 1371] : List Nat), f ∉ fs) (ha : ∀ r ∈ ([89, 90, 112, 115, 116] : List Int), r ∉ rs) : InS2 τ' := by
  have e0 := z.1 1335 (by omega) (by omega) (hf 1335 (by simp))
  have e1 := z.1 1371 (by omega) (by omega) (hf 1371 (by simp))
  have g0 := z.2 89 (by omega) (by omega) (ha 89 (by simp))
  have g1 := z.2 90 (by omega) (by omega) (ha 90 (by simp))
  have g2 := z.2 112 (by omega) (by omega) (ha 112 (by simp))
  have g3 := z.2 115 (by omega) (by omega) (ha 115 (by simp))
  have g4 := z.2 116 (by omega) (by omega) (ha 116 (by simp))
  unfold InS2 mTo at *
  simp only [e0, e1, g0, g1, g2, g3, g4]
  exact h
theorem DKR.rf (h : DKR σ τ) (z : Rf fs rs τ τ') (hf : 1352 ∉ fs) (ha : ∀ r ∈ ([93, 94, 95, 96, 97] : List Int), r ∉ rs) : DKR σ τ' := h.cg (z.1 _ (by omega) (by omega) hf) (fun r a b => z.2 r (by omega) (by omega) (ha r (by
  have q : r = 93 ∨ r = 94 ∨ r = 95 ∨ r = 96 ∨ r = 97 := by omega
  simp [q])))
theorem mCards.rf (h : mCards τ) (z : Rf fs rs τ τ') (hf : 1352 ∉ fs) (ha : ∀ r ∈ ([95, 96, 97] : List Int), r ∉ rs) : mCards τ' := h.of (z.2 95 (by omega) (by omega) (ha _ (by simp))) (z.2 96 (by omega) (by omega) (ha _ (by simp))) (z.2 97 (by omega) (by omega) (ha _ (by simp))) (z.1 _ (by omega) (by omega) hf)
theorem MT.rf (h : MT τ) (z : Rf fs rs τ τ') (hM : MI τ') (hf : 1301 ∉ fs) (ha : ∀ r ∈ ([69, 78] : List Int), r ∉ rs) : MT τ' := by
  have e0 := z.1 1301 (by omega) (by omega) hf
  have g0 := z.2 69 (by omega) (by omega) (ha _ (by simp))
  have g1 := z.2 78 (by omega) (by omega) (ha _ (by simp))
  refine ⟨hM, ?_, ?_⟩
  · simp only [e0, g1]
    exact h.2.1
  · simp only [e0, g0]
    exact h.2.2
end RFF
