/-! the class: ticks, and the relation behind them -/

/-- the reference: how boxes hang along loops -/
def RB (τ : Hp) : Prop := (∀ l k, 0 ≤ l → l < 4 → 0 ≤ k → k < aI τ 74 l → aI τ 75 (12 * l + k) < fI τ 1302 61 ∧ aI τ 62 (aI τ 75 (12 * l + k)) = l ∧ aI τ 68 (aI τ 75 (12 * l + k)) = k) ∧
  (∀ b, 0 ≤ b → b < fI τ 1302 61 → aI τ 68 b < aI τ 74 (aI τ 62 b) ∧ aI τ 75 (12 * aI τ 62 b + aI τ 68 b) = b) ∧
  (∀ b, 0 ≤ b → b < fI τ 1302 61 → aI τ 73 b ≤ 32 ∧ ∀ j, 0 ≤ j → j < aI τ 72 b → aI τ 71 (15 * b + j) ≤ aI τ 73 b)
/-- a loop with its boxes -/
def LR (l : Int) (σ τ : Hp) : Prop := (LoP σ τ l ∧ -7 ≤ fI σ 1005 ((45 + 4 * l))) ∧ ∀ k, 0 ≤ k → k < aI τ 74 l → BxE σ τ (aI τ 75 (12 * l + k)) (lat σ 3 (aI τ 75 (12 * l + k)))
theorem LR.cgm {l : Int} {σ τ τ' : Hp} (h : LR l σ τ) (ha : ∀ r, ([69, 70, 77, 78, 79] : List Int).contains r = false → aI τ' r = aI τ r)
    (hb : ∀ k, 0 ≤ k → k < aI τ 74 l → aI τ' 69 (aI τ 75 (12 * l + k)) = aI τ 69 (aI τ 75 (12 * l + k)) ∧ aI τ' 70 (aI τ 75 (12 * l + k)) = aI τ 70 (aI τ 75 (12 * l + k)))
    (h1 : aI τ' 77 l = aI τ 77 l) (h2 : aI τ' 78 l = aI τ 78 l) (h3 : ∀ k, 0 ≤ k → k < 500 → aI τ' 79 (500 * l + k) = aI τ 79 (500 * l + k)) : LR l σ τ' := by
  have e1 := ha 63 (by decide)
  have e2 := ha 64 (by decide)
  have e3 := ha 62 (by decide)
  have e4 := ha 68 (by decide)
  have e5 := ha 65 (by decide)
  have e6 := ha 66 (by decide)
  have e7 := ha 67 (by decide)
  have e8 := ha 72 (by decide)
  have e9 := ha 73 (by decide)
  have e10 := ha 71 (by decide)
  have e11 := ha 74 (by decide)
  have e12 := ha 75 (by decide)
  have e13 := ha 76 (by decide)
  unfold LR LoP BxE at *
  rw [e1, e2, e3, e4, e5, e6, e7, e8, e9, e10, e11, e12, e13, h1, h2]
  obtain ⟨⟨⟨g1, g2, g3, g4, g5, g6, g7, g8, g9, g10⟩, g11⟩, g⟩ := h
  refine ⟨⟨⟨g1, g2, g3, g4, g5, g6, g7, g8, fun k a b => ?_, g10⟩, g11⟩, fun k a b => ?_⟩
  · rw [h3 k a b]; exact g9 k a b
  · rw [(hb k a b).1, (hb k a b).2]; exact g k a b
theorem LR.cgc {l : Int} {σ σ' τ : Hp} (h : LR l σ τ) (hq : fR σ 1001 (45 + 4 * l) = 47 + 4 * l) (hkd : kd σ' = kd σ) (hln : ln σ' = ln σ) (haR : aR σ' = aR σ) (hfR : fR σ' = fR σ) (hfL : fL σ' = fL σ) (hf : ∀ f, ([312, 313, 1003, 1004, 1005] : List Nat).contains f = false → fI σ' f = fI σ f)
    (hb : ∀ k, 0 ≤ k → k < aI τ 74 l → fI σ' 313 (lat σ 3 (aI τ 75 (12 * l + k))) = fI σ 313 (lat σ 3 (aI τ 75 (12 * l + k))) ∧ fI σ' 312 (lat σ 3 (aI τ 75 (12 * l + k))) = fI σ 312 (lat σ 3 (aI τ 75 (12 * l + k))))
    (h1 : fI σ' 1003 ((45 + 4 * l)) = fI σ 1003 ((45 + 4 * l))) (h2 : fI σ' 1004 ((45 + 4 * l)) = fI σ 1004 ((45 + 4 * l))) (h3 : fI σ' 1005 ((45 + 4 * l)) = fI σ 1005 ((45 + 4 * l))) (a47 : aI σ' (47 + 4 * l) = aI σ (47 + 4 * l)) (a48 : aI σ' (48 + 4 * l) = aI σ (48 + 4 * l)) : LR l σ' τ := by
  have e1 := hf 300 (by decide)
  have e2 := hf 301 (by decide)
  have e3 := hf 302 (by decide)
  have e4 := hf 303 (by decide)
  have e5 := hf 304 (by decide)
  have e6 := hf 305 (by decide)
  have e7 := hf 306 (by decide)
  have e8 := hf 307 (by decide)
  have e9 := hf 308 (by decide)
  have e10 := hf 309 (by decide)
  have e11 := hf 1006 (by decide)
  have e12 := hf 1007 (by decide)
  have e13 := hf 1402 (by decide)
  have el : lat σ' = lat σ := by unfold lat; rw [haR, hfR]
  have ew : whl σ' = whl σ := by unfold whl; rw [hfL]
  unfold LR LoP BxE LOk CutE at *
  simp only [hq] at h
  simp only [hkd, hln, haR, hfR, el, ew, e1, e2, e3, e4, e5, e6, e7, e8, e9, e10, e11, e12, e13, h1, h2, h3, hq, a47, a48]
  refine ⟨h.1, fun k a b => ?_⟩
  rw [(hb k a b).1, (hb k a b).2]
  exact h.2 k a b
/-! one tick of another loop leaves a loop as it is -/
theorem mWhich_at (τ : Hp) (l : Int) : ∀ n : Nat, mWhich τ l n = -1 ∨ ∃ k : Nat, k < n ∧ mWhich τ l n = aI τ 75 (12 * l + k)
  | 0 => Or.inl rfl
  | n + 1 => by
    unfold mWhich
    rcases mWhich_at τ l n with h | ⟨k, a, b⟩
    · rw [if_neg (by omega)]
      split
      · exact Or.inl rfl
      · exact Or.inr ⟨n, by omega, rfl⟩
    · by_cases c : 0 ≤ mWhich τ l n
      · rw [if_pos c]; exact Or.inr ⟨k, by omega, b⟩
      · rw [if_neg c]
        split
        · exact Or.inl rfl
        · exact Or.inr ⟨n, by omega, rfl⟩
theorem mStep_a (τ : Hp) (l t : Int) {r : Int} (h : ([69, 70, 77, 78, 79] : List Int).contains r = false) : aI (mStep τ l t) r = aI τ r := by
  simp only [List.contains_cons, List.contains_nil, Bool.or_false, Bool.or_eq_false_iff, beq_eq_false_iff_ne, ne_eq] at h
  obtain ⟨n1, n2, n3, n4, n5⟩ := h
  unfold mStep mSt2
  split
  · unfold mSt1
    split
    · funext j; simp only [aI_qI, n1, n2, n3, n4, n5, false_and, if_false]
    · funext j; simp only [aI_qI, n1, n2, n3, n4, n5, false_and, if_false]
  · unfold mSt1
    split
    · funext j; simp only [aI_qI, n1, n2, n3, n4, n5, false_and, if_false]
    · rfl
theorem mStep_s (τ : Hp) (l t : Int) : fI (mStep τ l t) = fI τ ∧ fR (mStep τ l t) = fR τ ∧ kd (mStep τ l t) = kd τ ∧ ln (mStep τ l t) = ln τ := by
  unfold mStep mSt2
  split
  · unfold mSt1
    split <;> exact ⟨rfl, rfl, rfl, rfl⟩
  · unfold mSt1
    split <;> exact ⟨rfl, rfl, rfl, rfl⟩
theorem LR.mo {l l' t : Int} {σ τ : Hp} (h : LR l σ τ) (hI : MI τ) (hR : RB τ) (hl : 0 ≤ l ∧ l < 4) (hl' : 0 ≤ l' ∧ l' < 4) (hne : ¬ l' = l) : LR l σ (mStep τ l' t) := by
  have hmn := hI.many_ l'
  have hnw : ∀ k, 0 ≤ k → k < aI τ 74 l → 0 ≤ mWhich τ l' (aI τ 74 l').toNat → ¬ aI τ 75 (12 * l + k) = mWhich τ l' (aI τ 74 l').toNat := fun k a b c e => by
    rcases mWhich_at τ l' (aI τ 74 l').toNat with q | ⟨k', q1, q2⟩
    · omega
    · have g1 := (hR.1 l k hl.1 hl.2 a b).2.1
      have g2 := (hR.1 l' k' hl'.1 hl'.2 (by omega) (by omega)).2.1
      rw [e, q2] at g1
      omega
  have htp := hI.taped_ l'
  have hne2 : ¬ l = l' := fun z => hne z.symm
  have one : LR l σ (mSt1 τ l' t) := by
    unfold mSt1
    by_cases c : 0 ≤ mWhich τ l' (aI τ 74 l').toNat ∧ b2i (mBusy τ l' t (aI τ 74 l')) = 0 ∧ 7 < t - aI τ 77 l'
    · rw [if_pos c]
      refine h.cgm (fun r hr => ?_) (fun k a b => ?_) ?_ ?_ (fun k a b => ?_)
      · simp only [List.contains_cons, List.contains_nil, Bool.or_false, Bool.or_eq_false_iff, beq_eq_false_iff_ne, ne_eq] at hr
        obtain ⟨n1, n2, n3, n4, n5⟩ := hr
        funext j
        simp only [aI_qI, n1, n2, false_and, if_false]
      · have hn := hnw k a b c.1
        simp only [aI_qI, Int.reduceEq, false_and, if_false, hn, and_false, and_self]
      · simp only [aI_qI, Int.reduceEq, false_and, if_false]
      · simp only [aI_qI, Int.reduceEq, false_and, if_false]
      · simp only [aI_qI, Int.reduceEq, false_and, if_false]
    · rw [if_neg c]; exact h
  have tp1 : 0 ≤ aI (mSt1 τ l' t) 78 l' := by rw [taped_mSt1]; exact htp.1
  unfold mStep
  generalize mSt1 τ l' t = ρ at *
  unfold mSt2
  by_cases c : b2i (mHear ρ l' t (aI ρ 74 l')) = 1
  · rw [if_pos c]
    refine one.cgm (fun r hr => ?_) (fun k a b => ?_) ?_ ?_ (fun k a b => ?_)
    · simp only [List.contains_cons, List.contains_nil, Bool.or_false, Bool.or_eq_false_iff, beq_eq_false_iff_ne, ne_eq] at hr
      obtain ⟨n1, n2, n3, n4, n5⟩ := hr
      funext j
      simp only [aI_qI, n3, n4, n5, false_and, if_false]
    · simp only [aI_qI, Int.reduceEq, false_and, if_false, and_self]
    · simp only [aI_qI, Int.reduceEq, false_and, if_false, hne2, and_false]
    · simp only [aI_qI, Int.reduceEq, false_and, if_false, hne2, and_false]
    · have hx : ¬ 500 * l + k = 500 * l' + aI ρ 78 l' % 500 := by omega
      simp only [aI_qI, Int.reduceEq, false_and, if_false, hx, and_false]
  · rw [if_neg c]; exact one
theorem RB.cg {τ τ' : Hp} (h : RB τ) (ha : ∀ r, ([69, 70, 77, 78, 79] : List Int).contains r = false → aI τ' r = aI τ r) (hf : fI τ' 1302 61 = fI τ 1302 61) : RB τ' := by
  unfold RB at *
  rw [ha 75 (by decide), ha 74 (by decide), ha 62 (by decide), ha 68 (by decide), ha 72 (by decide), ha 71 (by decide), ha 73 (by decide), hf]
  exact h
/-! the class: the same -/
theorem cSt1_s (σ : Hp) (q t : Int) : kd (cSt1 σ q t) = kd σ ∧ ln (cSt1 σ q t) = ln σ ∧ aR (cSt1 σ q t) = aR σ ∧ fR (cSt1 σ q t) = fR σ ∧ fL (cSt1 σ q t) = fL σ ∧ aI (cSt1 σ q t) = aI σ ∧ aL (cSt1 σ q t) = aL σ ∧ nx (cSt1 σ q t) = nx σ := by
  unfold cSt1
  split <;> exact ⟨rfl, rfl, rfl, rfl, rfl, rfl, rfl, rfl⟩
theorem cTp_s (σ : Hp) (q t : Int) : kd (cTp σ q t) = kd σ ∧ ln (cTp σ q t) = ln σ ∧ aR (cTp σ q t) = aR σ ∧ fR (cTp σ q t) = fR σ ∧ fL (cTp σ q t) = fL σ ∧ aL (cTp σ q t) = aL σ ∧ nx (cTp σ q t) = nx σ ∧ ∀ r, ¬ r = fR σ 1002 q → aI (cTp σ q t) r = aI σ r := by
  refine ⟨rfl, rfl, rfl, rfl, rfl, rfl, rfl, fun r hr => ?_⟩
  unfold cTp
  funext j
  simp only [aI_pI, aI_qI, fR_pI, hr, false_and, if_false]
theorem cStep_s (σ : Hp) (q t : Int) : kd (cStep σ q t) = kd σ ∧ ln (cStep σ q t) = ln σ ∧ aR (cStep σ q t) = aR σ ∧ fR (cStep σ q t) = fR σ ∧ fL (cStep σ q t) = fL σ ∧ aL (cStep σ q t) = aL σ ∧ nx (cStep σ q t) = nx σ ∧ ∀ r, ¬ r = fR σ 1002 q → aI (cStep σ q t) r = aI σ r := by
  unfold cStep cSt2
  obtain ⟨a1, a2, a3, a4, a5, a6, a7, a8⟩ := cSt1_s σ q t
  split
  · obtain ⟨b1, b2, b3, b4, b5, b6, b7, b8⟩ := cTp_s (cSt1 σ q t) q t
    rw [b1, b2, b3, b4, b5, b6, b7]
    refine ⟨a1, a2, a3, a4, a5, a7, a8, fun r hr => ?_⟩
    rw [b8 r (by rw [a4]; exact hr), a6]
  · exact ⟨a1, a2, a3, a4, a5, a7, a8, fun r _ => by rw [a6]⟩
theorem cStep_f (σ : Hp) (q t : Int) {f : Nat} (h : ([312, 313, 1003, 1004, 1005] : List Nat).contains f = false) : fI (cStep σ q t) f = fI σ f := by
  simp only [List.contains_cons, List.contains_nil, Bool.or_false, Bool.or_eq_false_iff, beq_eq_false_iff_ne, ne_eq] at h
  obtain ⟨n1, n2, n3, n4, n5⟩ := h
  unfold cStep cSt2
  split
  · unfold cTp cSt1
    split
    · funext j; simp only [fI_pI, fI_qI, n1, n2, n3, n4, n5, false_and, if_false]
    · funext j; simp only [fI_pI, fI_qI, n1, n2, n3, n4, n5, false_and, if_false]
  · unfold cSt1
    split
    · funext j; simp only [fI_pI, fI_qI, n1, n2, n3, n4, n5, false_and, if_false]
    · rfl
theorem cStep_w {σ : Hp} {q t p : Int} (h : ∀ k : Nat, (k : Int) < (fI σ 1402 (fR σ 1000 q)) → ¬ p = (lat σ (fR σ 1000 q) k)) : fI (cStep σ q t) 313 p = fI σ 313 p ∧ fI (cStep σ q t) 312 p = fI σ 312 p := by
  have h1 : fI (cSt1 σ q t) 313 p = fI σ 313 p ∧ fI (cSt1 σ q t) 312 p = fI σ 312 p := by
    unfold cSt1
    split
    · rename_i c
      rcases cFw_in σ q ((fI σ 1402 (fR σ 1000 q))).toNat with z | ⟨k, a, b⟩
      · exact absurd z c.1
      · have := h k (by omega)
        rw [← b] at this
        simp only [fI_pI, Nat.reduceEqDiff, false_and, if_false, this, and_false, and_self]
    · exact ⟨rfl, rfl⟩
  unfold cStep cSt2
  split
  · unfold cTp
    simp only [fI_pI, fI_qI, Nat.reduceEqDiff, false_and, if_false]
    exact h1
  · exact h1
theorem cStep_o {σ : Hp} {q t p : Int} (h : ¬ p = q) : fI (cStep σ q t) 1003 p = fI σ 1003 p ∧ fI (cStep σ q t) 1004 p = fI σ 1004 p ∧ fI (cStep σ q t) 1005 p = fI σ 1005 p := by
  unfold cStep cSt2
  split
  · unfold cTp cSt1
    split <;> simp only [fI_pI, fI_qI, Nat.reduceEqDiff, false_and, if_false, h, and_false, and_self]
  · unfold cSt1
    split <;> simp only [fI_pI, fI_qI, Nat.reduceEqDiff, false_and, if_false, h, and_false, and_self]
