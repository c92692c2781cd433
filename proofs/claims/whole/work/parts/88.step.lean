/-! the class: a loop's tick is the reference's -/

theorem whl_is {σ τ : Hp} {b p o : Int} (hI : MI τ) (hR : RB τ) (h : BxE σ τ b p) (hb : 0 ≤ b ∧ b < fI τ 1302 61) (ho : 0 ≤ o ∧ o ≤ 3 * aI τ 73 b + 14) : whl σ p o = true ↔ bE (aI τ 72 b) fun i => aI τ 71 (15 * b + i) = o % (aI τ 73 b + 7) := by
  have hk := hR.2.2 b hb.1 hb.2
  have hl := hI.lastOf_ b
  have h := h.2.2.2.2.2.2.2.2.2.2.2.2.2 o ho.1 (by omega)
  rw [h]
  generalize aI τ 73 b = L at *
  constructor
  · rintro ⟨r, j, hr, hj, e⟩
    have hkn := hk.2 j hj.1 hj.2
    have hkn0 := (hI.knock_ (15 * b + j)).1
    refine ⟨j, hj.1, hj.2, ?_⟩
    rw [e, Int.add_comm, Int.add_mul_emod_self_right, Int.emod_eq_of_lt hkn0 (by omega)]
  · rintro ⟨j, h1, h2, e⟩
    refine ⟨o / (L + 7), j, ⟨Int.ediv_nonneg ho.1 (by omega), Int.ediv_lt_of_lt_mul (by omega) (by omega)⟩, ⟨h1, h2⟩, ?_⟩
    rw [e, Int.mul_comm]
    exact (Int.mul_ediv_add_emod o (L + 7)).symm
theorem cGo_is {σ τ : Hp} {b p t : Int} (hI : MI τ) (h : BxE σ τ b p) (ht : aI τ 69 b ≤ t) : cGo σ p t ↔ mGo τ b t := by
  obtain ⟨-, -, -, -, -, -, -, -, -, -, h10, -, h12, -⟩ := h
  have := hI.began_ b
  unfold cGo mGo
  rw [h10, h12]
  constructor <;> intro q <;> omega
theorem knk_is {σ τ : Hp} {b p t : Int} (hI : MI τ) (hR : RB τ) (h : BxE σ τ b p) (hb : 0 ≤ b ∧ b < fI τ 1302 61) (ht : aI τ 69 b ≤ t) : (cGo σ p t ∧ whl σ p (t - fI σ 313 p) = true) ↔ mKnk τ b t := by
  unfold mKnk
  rw [cGo_is hI h ht]
  have e : fI σ 313 p = aI τ 69 b := h.2.2.2.2.2.2.2.2.2.2.2.2.1
  rw [e]
  constructor
  · rintro ⟨q1, q2⟩
    have q := q1
    unfold mGo at q
    exact ⟨q1, (whl_is hI hR h hb (by omega)).mp q2⟩
  · rintro ⟨q1, q2⟩
    have q := q1
    unfold mGo at q
    exact ⟨q1, (whl_is hI hR h hb (by omega)).mpr q2⟩
section
variable {σ τ : Hp} {l : Int}
theorem LR.n (h : LR l σ τ) (hC : CLay σ) (hl : 0 ≤ l ∧ l < 4) : (fI σ 1402 (fR σ 1000 (45 + 4 * l))) = aI τ 74 l := by
  rw [(LoP.k hC hl).2.2.1]; exact h.1.1.2.1
theorem LR.p (h : LR l σ τ) (hC : CLay σ) (hl : 0 ≤ l ∧ l < 4) {k : Int} (a : 0 ≤ k) (b : k < aI τ 74 l) : (lat σ (fR σ 1000 (45 + 4 * l)) k) = lat σ 3 (aI τ 75 (12 * l + k)) := by
  rw [(LoP.k hC hl).2.2.1]; exact h.1.1.2.2.1 k a b
theorem sil_is (h : LR l σ τ) (hC : CLay σ) (hI : MI τ) (hR : RB τ) (hl : 0 ≤ l ∧ l < 4) {k : Int} (a : 0 ≤ k) (b : k < aI τ 74 l) : cSil σ (45 + 4 * l) k ↔ mDumb τ (aI τ 75 (12 * l + k)) := by
  obtain ⟨r1, r2, r3⟩ := hR.1 l k hl.1 hl.2 a b
  have hm := hI.many_ l
  obtain ⟨-, -, -, -, h5, h6, h7, -⟩ := h.1.1
  unfold mDumb cSil
  rw [r2, r3]
  unfold CutE at h7
  rw [(LoP.k hC hl).2.2.2.1] at h7
  generalize fI σ 1006 ((45 + 4 * l)) = f at *
  generalize fI σ 1007 ((45 + 4 * l)) = e at *
  have hz : ∀ w, 0 ≤ w → w ≤ 12 → ¬ aI σ (47 + 4 * l) w = 0 → w ≤ aI τ 74 l := fun w q1 q2 q3 => by
    by_cases c : w ≤ aI τ 74 l
    · exact c
    · have := h6 w (by omega) q2
      rw [← h5 w q1 q2] at this
      exact absurd this q3
  constructor
  · rintro ⟨q1, q2, q3⟩
    rcases h7 with ⟨z, -⟩ | ⟨z1, z2, z3, z4, z5⟩
    · exact absurd z q1
    · have w1 := hz f (by omega) (by omega) z2
      have w2 := hz e (by omega) (by omega) z3
      exact ⟨⟨f, by omega, by omega, by rw [← h5 f (by omega) (by omega)]; exact z2, q2⟩, ⟨e, by omega, by omega, by rw [← h5 e (by omega) (by omega)]; exact z3, by omega⟩⟩
  · rintro ⟨⟨w1, p1, p2, p3, p4⟩, ⟨w2, s1, s2, s3, s4⟩⟩
    rw [← h5 w1 p1 (by omega)] at p3
    rw [← h5 w2 s1 (by omega)] at s3
    rcases h7 with ⟨-, -, z⟩ | ⟨z1, z2, z3, z4, z5⟩
    · exact absurd (z w1 p1 (by omega)) p3
    · refine ⟨by omega, ?_, ?_⟩
      · by_cases c : f ≤ w1
        · omega
        · exact absurd (z4 w1 p1 (by omega)) p3
      · by_cases c : w2 ≤ e
        · omega
        · exact absurd (z5 w2 (by omega) (by omega)) s3
theorem fw_is (h : LR l σ τ) (hC : CLay σ) (hI : MI τ) (hl : 0 ≤ l ∧ l < 4) : ∀ n : Nat, (n : Int) ≤ aI τ 74 l → (mWhich τ l n = -1 ∧ cFw σ (45 + 4 * l) n = 0) ∨ ∃ k : Nat, k < n ∧ mWhich τ l n = aI τ 75 (12 * l + k) ∧ cFw σ (45 + 4 * l) n = lat σ 3 (aI τ 75 (12 * l + k))
  | 0, _ => Or.inl ⟨rfl, rfl⟩
  | n + 1, hn => by
    have ep := h.p hC hl (k := n) (by omega) (by omega)
    have hb := h.2 n (by omega) (by omega)
    have hw : fI σ 312 (lat σ 3 (aI τ 75 (12 * l + n))) = aI τ 70 (aI τ 75 (12 * l + n)) := hb.2.2.2.2.2.2.2.2.2.2.2.1
    have hp := hb.1
    have hba := (hI.boxAt_ (12 * l + n)).1
    unfold cFw mWhich
    rw [ep, hw]
    rcases fw_is h hC hI hl n (by omega) with ⟨q1, q2⟩ | ⟨k, q1, q2, q3⟩
    · rw [q1, q2, if_pos rfl, if_neg (by omega)]
      by_cases c : aI τ 70 (aI τ 75 (12 * l + n)) = 0
      · rw [if_pos c, if_pos c]; exact Or.inl ⟨rfl, rfl⟩
      · rw [if_neg c, if_neg c]; exact Or.inr ⟨n, by omega, rfl, rfl⟩
    · have hk := h.2 k (by omega) (by omega)
      have hk0 := (hI.boxAt_ (12 * l + k)).1
      have hk1 := hk.1
      rw [q2, q3, if_pos hk0, if_neg (by omega)]
      exact Or.inr ⟨k, by omega, rfl, rfl⟩
theorem busy_is (h : LR l σ τ) (hC : CLay σ) (hI : MI τ) (hl : 0 ≤ l ∧ l < 4) {t : Int} (hb : ∀ k, 0 ≤ k → k < aI τ 74 l → aI τ 69 (aI τ 75 (12 * l + k)) ≤ t) : cBusy σ (45 + 4 * l) t ↔ mBusy τ l t (aI τ 74 l) := by
  unfold cBusy mBusy
  rw [h.n hC hl]
  constructor
  · rintro ⟨k, a, b, c⟩
    rw [h.p hC hl a b] at c
    exact ⟨k, a, b, (cGo_is hI (h.2 k a b) (hb k a b)).mp c⟩
  · rintro ⟨k, a, b, c⟩
    refine ⟨k, a, b, ?_⟩
    show cGo σ ((lat σ (fR σ 1000 (45 + 4 * l)) k)) t
    rw [h.p hC hl a b]
    exact (cGo_is hI (h.2 k a b) (hb k a b)).mpr c
theorem hear_is (h : LR l σ τ) (hC : CLay σ) (hI : MI τ) (hR : RB τ) (hl : 0 ≤ l ∧ l < 4) {t : Int} (hb : ∀ k, 0 ≤ k → k < aI τ 74 l → aI τ 69 (aI τ 75 (12 * l + k)) ≤ t) : cHear σ (45 + 4 * l) t ↔ mHear τ l t (aI τ 74 l) := by
  unfold cHear mHear
  rw [h.n hC hl]
  constructor
  · rintro ⟨k, a, b, c1, c2, c3⟩
    rw [h.p hC hl a b] at c1 c2
    have r1 := (hR.1 l k hl.1 hl.2 a b).1
    exact ⟨k, a, b, (knk_is hI hR (h.2 k a b) ⟨(hI.boxAt_ _).1, r1⟩ (hb k a b)).mp ⟨c1, c2⟩, fun z => c3 ((sil_is h hC hI hR hl a b).mpr z)⟩
  · rintro ⟨k, a, b, c1, c2⟩
    have r1 := (hR.1 l k hl.1 hl.2 a b).1
    have q := (knk_is hI hR (h.2 k a b) ⟨(hI.boxAt_ _).1, r1⟩ (hb k a b)).mpr c1
    refine ⟨k, a, b, ?_⟩
    show cGo σ ((lat σ (fR σ 1000 (45 + 4 * l)) k)) t ∧ whl σ ((lat σ (fR σ 1000 (45 + 4 * l)) k)) (t - fI σ 313 ((lat σ (fR σ 1000 (45 + 4 * l)) k))) = true ∧ ¬ cSil σ (45 + 4 * l) k
    rw [h.p hC hl a b]
    exact ⟨q.1, q.2, fun z => c2 ((sil_is h hC hI hR hl a b).mp z)⟩
/-- a waiting box begins -/
theorem LR.beg (h : LR l σ τ) (hC : CLay σ) (hR : RB τ) (hI : MI τ) (hl : 0 ≤ l ∧ l < 4) (hinj : ∀ i j, (0 ≤ i ∧ i < fI τ 1302 61) → (0 ≤ j ∧ j < fI τ 1302 61) → lat σ 3 i = lat σ 3 j → i = j) {k t : Int} (a : 0 ≤ k) (b : k < aI τ 74 l) : LR l (pI (pI σ 312 (lat σ 3 (aI τ 75 (12 * l + k))) 0) 313 (lat σ 3 (aI τ 75 (12 * l + k))) t) (qI (qI τ 70 (aI τ 75 (12 * l + k)) 0) 69 (aI τ 75 (12 * l + k)) t) := by
  obtain ⟨⟨h1, h11⟩, h2⟩ := h
  refine ⟨⟨?_, ?_⟩, fun j c d => ?_⟩
  · unfold LoP LOk lat CutE at *
    simp only [nx_pI, kd_pI, ln_pI, fI_pI, fL_pI, fR_pI, aI_pI, aL_pI, aR_pI, aI_qI, Nat.reduceEqDiff, Int.reduceEq, false_and, if_false]
    exact h1
  · simp only [fI_pI, Nat.reduceEqDiff, false_and, if_false]
    exact h11
  · simp only [aI_qI, Int.reduceEq, false_and, if_false] at d
    have hj := h2 j c d
    have hk := h2 k a b
    simp only [aI_qI, Int.reduceEq, false_and, if_false]
    have el : ∀ p i, lat (pI (pI σ 312 p 0) 313 p t) 3 i = lat σ 3 i := fun p i => rfl
    rw [el]
    have rj := (hR.1 l j hl.1 hl.2 c d)
    have rk := (hR.1 l k hl.1 hl.2 a b)
    have hwh : ∀ p q, whl (pI (pI σ 312 p 0) 313 p t) q = whl σ q := fun p q => rfl
    unfold BxE at hj ⊢
    rw [hwh]
    simp only [fI_pI, aI_qI, Nat.reduceEqDiff, Int.reduceEq, false_and, if_false, true_and]
    by_cases e : aI τ 75 (12 * l + j) = aI τ 75 (12 * l + k)
    · rw [e] at hj ⊢
      obtain ⟨g0, g1, g2, g3, g4, g5, g6, g7, g8, g9, g10, g11, g12, g13⟩ := hj
      simp only [if_true]
      exact ⟨g0, g1, g2, g3, g4, g5, g6, g7, g8, g9, g10, trivial, trivial, g13⟩
    · have e2 : ¬ lat σ 3 (aI τ 75 (12 * l + j)) = lat σ 3 (aI τ 75 (12 * l + k)) := fun z => e (hinj _ _ ⟨(hI.boxAt_ _).1, rj.1⟩ ⟨(hI.boxAt_ _).1, rk.1⟩ z)
      simp only [e, e2, if_false]
      exact hj
/-- a tick on the tape -/
theorem LR.tap (h : LR l σ τ) (hC : CLay σ) (hI : MI τ) (hl : 0 ≤ l ∧ l < 4) {t : Int} (ht : 0 ≤ t ∧ t ≤ 999999) : LR l (cTp σ (45 + 4 * l) t) (qI (qI (qI τ 77 l t) 79 (500 * l + aI τ 78 l % 500) t) 78 l (aI τ 78 l + 1)) := by
  obtain ⟨-, -, k3, k4, k5, -⟩ := LoP.k hC hl
  have htp := hI.taped_ l
  obtain ⟨⟨⟨h1, h2, h3, h4, h5, h6, h7, h8, h9, h10, h11, h12, h13⟩, -⟩, g⟩ := h
  have el : lat (cTp σ (45 + 4 * l) t) = lat σ := rfl
  have ew : whl (cTp σ (45 + 4 * l) t) = whl σ := rfl
  have m3 : fI (cTp σ (45 + 4 * l) t) 1005 ((45 + 4 * l)) = t := by
    unfold cTp
    simp only [fI_pI, fI_qI, Nat.reduceEqDiff, false_and, if_false, true_and, if_true, and_self]
  refine ⟨⟨?_, by rw [m3]; omega⟩, fun j c d => ?_⟩
  · unfold LoP
    rw [el]
    have n47 : ¬ (47 + 4 * l) = (48 + 4 * l) := by omega
    have hf : ∀ f, (f = 1006 ∨ f = 1007 ∨ f = 1402) → fI (cTp σ (45 + 4 * l) t) f = fI σ f := fun f hf => by
      unfold cTp
      funext j
      rcases hf with rfl | rfl | rfl <;> simp only [fI_pI, fI_qI, Nat.reduceEqDiff, false_and, if_false]
    have a47 : aI (cTp σ (45 + 4 * l) t) (47 + 4 * l) = aI σ (47 + 4 * l) := by
      unfold cTp
      funext j
      simp only [aI_pI, aI_qI, fR_pI, k5, n47, false_and, if_false]
    have a48 : ∀ j, aI (cTp σ (45 + 4 * l) t) (48 + 4 * l) j = if j = aI τ 78 l % 500 then t else aI σ (48 + 4 * l) j := fun j => by
      unfold cTp
      simp only [aI_pI, aI_qI, fR_pI, fI_pI, Nat.reduceEqDiff, false_and, if_false, k5, true_and, h11]
    have c3 : CutE (cTp σ (45 + 4 * l) t) (45 + 4 * l) 13 (fI σ 1006 ((45 + 4 * l))) (fI σ 1007 ((45 + 4 * l))) := by
      unfold CutE at h7 ⊢
      have : fR (cTp σ (45 + 4 * l) t) = fR σ := rfl
      rw [this, k4, a47, ← k4]
      exact h7
    have e1 : LOk (cTp σ (45 + 4 * l) t) (46 + 4 * l) 2 := by
      unfold LOk at h1 ⊢
      rw [hf 1402 (Or.inr (Or.inr rfl))]
      exact h1
    rw [hf 1402 (Or.inr (Or.inr rfl)), hf _ (Or.inl rfl), hf _ (Or.inr (Or.inl rfl)), a47]
    simp only [a48]
    have m1 : fI (cTp σ (45 + 4 * l) t) 1003 ((45 + 4 * l)) = min (aI τ 78 l + 1) 500 := by
      unfold cTp
      simp only [fI_pI, fI_qI, Nat.reduceEqDiff, false_and, if_false, true_and, if_true, and_self]
      rw [h10]
      split <;> omega
    have m2 : fI (cTp σ (45 + 4 * l) t) 1004 ((45 + 4 * l)) = (aI τ 78 l + 1) % 500 := by
      unfold cTp
      simp only [fI_pI, fI_qI, Nat.reduceEqDiff, false_and, if_false, true_and, if_true, and_self]
      rw [h11]
      split <;> omega
    rw [m1, m2, m3]
    simp only [aI_qI, Int.reduceEq, false_and, if_false, true_and, if_true]
    refine ⟨e1, h2, h3, h4, h5, h6, c3, fun j => ?_, fun j c d => ?_, Or.inl trivial, Or.inl ht.1⟩
    · split
      · exact ht
      · exact h8 j
    · by_cases e : j = aI τ 78 l % 500
      · rw [if_pos e, if_pos (by omega)]
      · rw [if_neg e, if_neg (by omega)]
        exact h9 j c d
  · simp only [aI_qI, Int.reduceEq, false_and, if_false] at d
    have hj := g j c d
    simp only [aI_qI, Int.reduceEq, false_and, if_false]
    unfold BxE at hj ⊢
    have hf : ∀ f, ([1003, 1004, 1005] : List Nat).contains f = false → fI (cTp σ (45 + 4 * l) t) f = fI σ f := fun f hf => by
      simp only [List.contains_cons, List.contains_nil, Bool.or_false, Bool.or_eq_false_iff, beq_eq_false_iff_ne, ne_eq] at hf
      obtain ⟨n1, n2, n3⟩ := hf
      unfold cTp
      funext j
      simp only [fI_pI, fI_qI, n1, n2, n3, false_and, if_false]
    rw [el, ew, hf 300 (by decide), hf 301 (by decide), hf 302 (by decide), hf 303 (by decide), hf 304 (by decide), hf 305 (by decide), hf 306 (by decide), hf 307 (by decide), hf 308 (by decide), hf 309 (by decide), hf 312 (by decide), hf 313 (by decide)]
    simp only [aI_qI, Int.reduceEq, false_and, if_false]
    exact hj
theorem step_sim (h : LR l σ τ) (hC : CLay σ) (hI : MI τ) (hR : RB τ) (hl : 0 ≤ l ∧ l < 4) (hinj : ∀ i j, (0 ≤ i ∧ i < fI τ 1302 61) → (0 ≤ j ∧ j < fI τ 1302 61) → lat σ 3 i = lat σ 3 j → i = j) {t : Int} (ht : 1 ≤ t ∧ t ≤ 999999) (hb : ∀ k, 0 ≤ k → k < aI τ 74 l → aI τ 69 (aI τ 75 (12 * l + k)) ≤ t) : LR l (cStep σ (45 + 4 * l) t) (mStep τ l t) := by
  have hm := hI.many_ l
  have hn := h.n hC hl
  have hbz := busy_is h hC hI hl hb
  have hlk : (7 < t - fI σ 1005 ((45 + 4 * l))) ↔ (7 < t - aI τ 77 l) := by
    rcases h.1.1.2.2.2.2.2.2.2.2.2.2.2.1 with q | q
    · rw [q]
    · omega
  have one : LR l (cSt1 σ (45 + 4 * l) t) (mSt1 τ l t) ∧ CLay (cSt1 σ (45 + 4 * l) t) ∧ MI (mSt1 τ l t) ∧ RB (mSt1 τ l t) ∧ ∀ k, 0 ≤ k → k < aI (mSt1 τ l t) 74 l → aI (mSt1 τ l t) 69 (aI (mSt1 τ l t) 75 (12 * l + k)) ≤ t := by
    have hMI := MI_mSt1 hI (l := l) (t := t) (by omega)
    unfold cSt1 mSt1 at *
    rw [hn]
    rcases fw_is h hC hI hl (aI τ 74 l).toNat (by omega) with ⟨q1, q2⟩ | ⟨k, q1, q2, q3⟩
    · rw [if_neg (fun z => z.1 q2), if_neg (fun z => by have := z.1; omega)]
      exact ⟨h, hC, hI, hR, hb⟩
    · have hk := h.2 k (by omega) (by omega)
      have hk0 := (hI.boxAt_ (12 * l + k)).1
      have hk1 := hk.1
      by_cases c : ¬ mBusy τ l t (aI τ 74 l) ∧ 7 < t - aI τ 77 l
      · have c1 : 0 ≤ mWhich τ l (aI τ 74 l).toNat ∧ b2i (mBusy τ l t (aI τ 74 l)) = 0 ∧ 7 < t - aI τ 77 l := ⟨by omega, b2i_f c.1, c.2⟩
        rw [if_pos ⟨by omega, b2i_f (fun z => c.1 (hbz.mp z)), hlk.mpr c.2⟩, if_pos c1, q2, q3]
        rw [if_pos c1, q2] at hMI
        refine ⟨h.beg hC hR hI hl hinj (by omega) (by omega), hC, hMI, hR.cg (fun r hr => ?_) rfl, fun j a b => ?_⟩
        · simp only [List.contains_cons, List.contains_nil, Bool.or_false, Bool.or_eq_false_iff, beq_eq_false_iff_ne, ne_eq] at hr
          obtain ⟨n1, n2, n3, n4, n5⟩ := hr
          funext j
          simp only [aI_qI, n1, n2, false_and, if_false]
        · simp only [aI_qI, Int.reduceEq, false_and, if_false, true_and] at b ⊢
          split
          · omega
          · exact hb j a b
      · rw [if_neg (fun z => c ⟨fun y => by
            have := z.2.1
            rw [b2i_t (hbz.mpr y)] at this
            omega, hlk.mp z.2.2⟩), if_neg (fun z => c ⟨fun y => by
            have := z.2.1
            rw [b2i_t y] at this
            omega, z.2.2⟩)]
        exact ⟨h, hC, hI, hR, hb⟩
  obtain ⟨h1, hC1, hI1, hR1, hb1⟩ := one
  have hh := hear_is h1 hC1 hI1 hR1 hl hb1
  unfold cStep mStep
  generalize cSt1 σ (45 + 4 * l) t = σ1 at *
  generalize mSt1 τ l t = τ1 at *
  unfold cSt2 mSt2
  by_cases c : mHear τ1 l t (aI τ1 74 l)
  · rw [b2i_t (hh.mpr c), b2i_t c, if_pos rfl, if_pos rfl]
    exact h1.tap hC1 hI1 hl (by omega)
  · rw [b2i_f (fun z => c (hh.mp z)), b2i_f c, if_neg (by decide), if_neg (by decide)]
    exact h1
end
/-! many ticks -/
theorem mTk_a (τ : Hp) (t : Int) {r : Int} (h : ([69, 70, 77, 78, 79] : List Int).contains r = false) : ∀ n : Nat, aI (mTk τ t n) r = aI τ r
  | 0 => rfl
  | n + 1 => by
    show aI (mStep (mTk τ t n) n t) r = _
    rw [mStep_a _ _ _ h, mTk_a τ t h n]
theorem mTk_s (τ : Hp) (t : Int) : ∀ n : Nat, fI (mTk τ t n) = fI τ ∧ fR (mTk τ t n) = fR τ ∧ kd (mTk τ t n) = kd τ ∧ ln (mTk τ t n) = ln τ
  | 0 => ⟨rfl, rfl, rfl, rfl⟩
  | n + 1 => by
    obtain ⟨a1, a2, a3, a4⟩ := mStep_s (mTk τ t n) n t
    obtain ⟨b1, b2, b3, b4⟩ := mTk_s τ t n
    exact ⟨a1.trans b1, a2.trans b2, a3.trans b3, a4.trans b4⟩
theorem mTs_a (τ : Hp) {r : Int} (h : ([69, 70, 77, 78, 79] : List Int).contains r = false) : ∀ n : Nat, aI (mTs τ n) r = aI τ r
  | 0 => rfl
  | n + 1 => by
    show aI (mTk _ _ 4) r = _
    rw [mTk_a _ _ h, aI_pI, mTs_a τ h n]
theorem mTs_f (τ : Hp) {f : Nat} (h : ¬ f = 1301) : ∀ n : Nat, fI (mTs τ n) f = fI τ f
  | 0 => rfl
  | n + 1 => by
    show fI (mTk _ _ 4) f = _
    rw [(mTk_s _ _ 4).1]
    funext j
    rw [fI_pI, if_neg (fun z => h z.1), mTs_f τ h n]
theorem mTk_beg (τ : Hp) (t : Int) (j : Int) (n : Nat) (h : aI τ 69 j ≤ t) : aI (mTk τ t n) 69 j ≤ t := by
  have := began_mTk τ t j n
  omega
section
variable {σ τ : Hp} {l : Int}
theorem LR.tk (h : LR l σ τ) (hI : MI τ) (hR : RB τ) (hl : 0 ≤ l ∧ l < 4) {t : Int} (ht : 1 ≤ t ∧ t ≤ 999999) (htp : ∀ j, aI τ 78 j < 1000000) : ∀ n : Nat, (n : Int) ≤ l → LR l σ (mTk τ t n)
  | 0, _ => h
  | n + 1, hn => by
    have ih := LR.tk h hI hR hl ht htp n (by omega)
    exact ih.mo (MI_mTk hI (by omega) htp n) (hR.cg (fun r hr => mTk_a τ t hr n) (by rw [(mTk_s τ t n).1])) hl ⟨by omega, by omega⟩ (by omega)
theorem LR.tk4 (h : LR l σ τ) (hC : CLay σ) (hI : MI τ) (hR : RB τ) (hl : 0 ≤ l ∧ l < 4) (hinj : ∀ i j, (0 ≤ i ∧ i < fI τ 1302 61) → (0 ≤ j ∧ j < fI τ 1302 61) → lat σ 3 i = lat σ 3 j → i = j) {t : Int} (ht : 1 ≤ t ∧ t ≤ 999999) (htp : ∀ j, aI τ 78 j < 1000000) (hb : ∀ j, aI τ 69 j ≤ t) : LR l (cStep σ (45 + 4 * l) t) (mTk τ t 4) := by
  have hl1 : ((l.toNat : Nat) : Int) = l := by omega
  have a0 := h.tk hI hR hl ht htp l.toNat (by omega)
  have I0 := MI_mTk hI (t := t) (by omega) htp l.toNat
  have R0 := hR.cg (fun r hr => mTk_a τ t hr l.toNat) (by rw [(mTk_s τ t l.toNat).1])
  have f0 : fI (mTk τ t l.toNat) 1302 61 = fI τ 1302 61 := by rw [(mTk_s τ t l.toNat).1]
  have a1 := step_sim a0 hC I0 R0 hl (by rw [f0]; exact hinj) ht (fun k a b => mTk_beg τ t _ _ (hb _))
  have e1 : mStep (mTk τ t l.toNat) l t = mTk τ t (l.toNat + 1) := by
    show _ = mStep (mTk τ t l.toNat) ((l.toNat : Nat) : Int) t
    rw [hl1]
  rw [e1] at a1
  have up : ∀ m : Nat, l.toNat + 1 + m ≤ 4 → LR l (cStep σ (45 + 4 * l) t) (mTk τ t (l.toNat + 1 + m)) := by
    intro m
    induction m with
    | zero => intro _; exact a1
    | succ m ih =>
      intro hm
      have ih := ih (by omega)
      have := ih.mo (l' := ((l.toNat + 1 + m : Nat) : Int)) (t := t) (MI_mTk hI (by omega) htp _) (hR.cg (fun r hr => mTk_a τ t hr _) (by rw [(mTk_s τ t _).1])) hl ⟨by omega, by omega⟩ (by omega)
      exact this
  have := up (3 - l.toNat) (by omega)
  rw [show l.toNat + 1 + (3 - l.toNat) = 4 by omega] at this
  exact this
end
theorem CLay_cStep {σ : Hp} (h : CLay σ) (q t : Int) : CLay (cStep σ q t) := by
  obtain ⟨a1, a2, a3, a4, -⟩ := cStep_s σ q t
  unfold CLay at *
  rw [a1, a2, a3, a4]
  exact h
theorem lat_cStep (σ : Hp) (q t : Int) : lat (cStep σ q t) = lat σ := by
  obtain ⟨a1, a2, a3, a4, -⟩ := cStep_s σ q t
  unfold lat
  rw [a3, a4]
theorem now_LR {l : Int} {σ τ : Hp} (h : LR l σ τ) (v : Int) : LR l σ (pI τ 1301 61 v) := h
/-- a loop's n ticks -/
theorem pass_sim {l : Int} {σ τ : Hp} (h : LR l σ τ) (hC : CLay σ) (hT : MT τ) (hR : RB τ) (hl : 0 ≤ l ∧ l < 4) (hinj : ∀ i j, (0 ≤ i ∧ i < fI τ 1302 61) → (0 ≤ j ∧ j < fI τ 1302 61) → lat σ 3 i = lat σ 3 j → i = j) : ∀ n : Nat, fI τ 1301 61 + n ≤ 999999 → LR l (cPass σ (45 + 4 * l) (fI τ 1301 61) n) (mTs τ n) ∧ CLay (cPass σ (45 + 4 * l) (fI τ 1301 61) n) ∧ lat (cPass σ (45 + 4 * l) (fI τ 1301 61) n) = lat σ
  | 0, _ => ⟨h, hC, rfl⟩
  | n + 1, hn => by
    obtain ⟨a1, a2, a3⟩ := pass_sim h hC hT hR hl hinj n (by omega)
    have T1 := MT_mTs hT n (by omega)
    have e1 := now_mTs τ n
    have hs := hT.1.now_s
    have I2 : MI (pI (mTs τ n) 1301 61 (fI τ 1301 61 + n + 1)) := MI_now_p T1.1 (by omega)
    have R2 : RB (pI (mTs τ n) 1301 61 (fI τ 1301 61 + n + 1)) := hR.cg (fun r hr => by rw [aI_pI]; exact mTs_a τ hr n) (by rw [fI_pI, if_neg (by omega), mTs_f τ (by decide) n])
    have f2 : fI (pI (mTs τ n) 1301 61 (fI τ 1301 61 + n + 1)) 1302 61 = fI τ 1302 61 := by rw [fI_pI, if_neg (by omega), mTs_f τ (by decide) n]
    have := (now_LR a1 (fI τ 1301 61 + n + 1)).tk4 a2 I2 R2 hl (by rw [f2, a3]; exact hinj) (t := fI τ 1301 61 + n + 1) (by omega) (fun j => by rw [aI_pI]; have := T1.2.1 j; omega) (fun j => by rw [aI_pI]; have := T1.2.2 j; omega)
    exact ⟨this, CLay_cStep a2 _ _, by rw [← a3]; exact lat_cStep _ _ _⟩
