/-! a new box's wheel, cut by the class and by the reference -/

section WHL
variable {σ τ : Hp}
theorem cDg_bits {r : BitVec 64} {o : Int} (ho : 0 ≤ o) : ∀ d : Nat, o + 2 * d ≤ 64 → ∀ u : Nat, u < 64 → ((cDg r o d).getLsbD u = true ↔ r.getLsbD u = true ∨ ∃ k : Nat, k < d ∧ (u : Int) = o + 2 * k)
  | 0, _, u, _ => ⟨fun h => Or.inl h, fun h => h.elim id (fun ⟨k, h, _⟩ => absurd h (Nat.not_lt_zero k))⟩
  | d + 1, hd, u, hu => by
    have ih := cDg_bits (r := r) ho d (by omega) u hu
    show (cDg r o d ||| 1#64 <<< (o + 2 * (d : Int)).toNat).getLsbD u = true ↔ _
    rw [BitVec.getLsbD_or, Bool.or_eq_true, one_shl (by omega) hu, decide_eq_true_eq, ih]
    constructor
    · rintro ((h | ⟨k, h1, h2⟩) | h)
      · exact Or.inl h
      · exact Or.inr ⟨k, by omega, h2⟩
      · exact Or.inr ⟨d, by omega, by omega⟩
    · rintro (h | ⟨k, h1, h2⟩)
      · exact Or.inl (Or.inl h)
      · by_cases c : k = d
        · exact Or.inr (by omega)
        · exact Or.inl (Or.inr ⟨k, by omega, h2⟩)
theorem mDg_k (σ : Hp) (b a : Int) (j : Int) : ∀ n : Nat, aI (mDg σ b a n) 71 j = if 15 * b + aI σ 72 b ≤ j ∧ j < 15 * b + aI σ 72 b + n then a + 2 * (j - (15 * b + aI σ 72 b)) else aI σ 71 j
  | 0 => by
    rw [if_neg (by omega)]
    rfl
  | n + 1 => by
    have ih := mDg_k σ b a j n
    have kn := kn_mDg σ b a n
    unfold mDg
    rw [aI_qI, if_neg (fun q => absurd q.1 (by decide)), aI_qI, if_neg (fun q => absurd q.1 (by decide)), aI_qI, kn, ih]
    by_cases c : j = 15 * b + (aI σ 72 b + n)
    · rw [if_pos ⟨rfl, c⟩, if_pos (by omega)]
      omega
    · rw [if_neg (fun q => c q.2)]
      by_cases c2 : 15 * b + aI σ 72 b ≤ j ∧ j < 15 * b + aI σ 72 b + n
      · rw [if_pos c2, if_pos (by omega)]
      · rw [if_neg c2, if_neg (by omega)]
theorem mDg_r (σ : Hp) (b a : Int) {r : Int} (h1 : ¬ r = 71) (h2 : ¬ r = 72) (h3 : ¬ r = 73) : ∀ n : Nat, aI (mDg σ b a n) r = aI σ r
  | 0 => rfl
  | n + 1 => by
    have e : aI (mDg σ b a (n + 1)) r = aI (mDg σ b a n) r := by
      funext j
      show aI (qI (qI (qI (mDg σ b a n) 71 (15 * b + aI (mDg σ b a n) 72 b) (a + 2 * n)) 72 b (aI (mDg σ b a n) 72 b + 1)) 73 b (a + 2 * n)) r j = _
      rw [aI_qI, if_neg (fun q => h3 q.1), aI_qI, if_neg (fun q => h2 q.1), aI_qI, if_neg (fun q => h1 q.1)]
    exact e.trans (mDg_r σ b a h1 h2 h3 n)
theorem mDg_j (σ : Hp) (b a : Int) {j : Int} (h : ¬ j = b) : ∀ n : Nat, aI (mDg σ b a n) 72 j = aI σ 72 j ∧ aI (mDg σ b a n) 73 j = aI σ 73 j
  | 0 => ⟨rfl, rfl⟩
  | n + 1 => by
    have ih := mDg_j σ b a h n
    unfold mDg
    constructor
    · rw [aI_qI, if_neg (fun q => absurd q.1 (by decide)), aI_qI, if_neg (fun q => h q.2), aI_qI, if_neg (fun q => absurd q.1 (by decide))]
      exact ih.1
    · rw [aI_qI, if_neg (fun q => h q.2), aI_qI, if_neg (fun q => absurd q.1 (by decide)), aI_qI, if_neg (fun q => absurd q.1 (by decide))]
      exact ih.2
def WHb (τ : Hp) (b : Int) (r : BitVec 64) : Prop := ∀ u : Nat, u < 64 → (r.getLsbD u = true ↔ ∃ j, (0 ≤ j ∧ j < aI τ 72 b) ∧ aI τ 71 (15 * b + j) = u)
theorem WHb_dg {b a d : Int} {r : BitVec 64} (h : WHb τ b r) (hk : 0 ≤ aI τ 72 b) (ha : 0 ≤ a) (hd : 0 ≤ d) (had : a + 2 * d ≤ 64) : WHb (mDg τ b a d.toNat) b (cDg r a d.toNat) := by
  intro u hu
  have kn := kn_mDg τ b a d.toNat
  rw [cDg_bits ha d.toNat (by omega) u hu, h u hu, kn]
  constructor
  · rintro (⟨j, p, q⟩ | ⟨k, p, q⟩)
    · exact ⟨j, by omega, by rw [mDg_k, if_neg (by omega)]; exact q⟩
    · exact ⟨aI τ 72 b + k, by omega, by rw [mDg_k, if_pos (by omega)]; omega⟩
  · rintro ⟨j, p, q⟩
    rw [mDg_k] at q
    by_cases c : j < aI τ 72 b
    · rw [if_neg (by omega)] at q
      exact Or.inl ⟨j, ⟨p.1, c⟩, q⟩
    · rw [if_pos (by omega)] at q
      exact Or.inr ⟨(j - aI τ 72 b).toNat, by omega, by omega⟩
/-- the class's round and the reference's wheel -/
theorem wh_is {b n : Int} (hn : okNum n) (hk : aI τ 72 b = 0) : WHb (mWh τ b n) b (cRo n).1 ∧ (cRo n).2 = aI (mWh τ b n) 73 b + 4 ∧ (0 ≤ aI (mWh τ b n) 73 b ∧ aI (mWh τ b n) 73 b ≤ 32) ∧ aI (mWh τ b n) 72 b = n / 100 % 10 + n / 10 % 10 + n % 10 ∧ (1 ≤ aI (mWh τ b n) 72 b ∧ aI (mWh τ b n) 72 b ≤ 15) ∧ (aI (mWh τ b n) 71 (15 * b) = 0 ∧ ∀ j, 0 ≤ j → j < aI (mWh τ b n) 72 b → aI (mWh τ b n) 71 (15 * b + j) ≤ aI (mWh τ b n) 73 b) := by
  have W0 : WHb τ b 0#64 := fun u hu => by
    rw [BitVec.getLsbD_zero]
    constructor
    · intro h
      cases h
    · rintro ⟨j, p, q⟩
      omega
  unfold mWh mWh3 mWh2
  by_cases c : 99 < n
  · have h3 := okNum_3 hn c
    rw [if_pos c]
    have er : cRo n = cPt (cPt (cPt (0#64, 0) (n / 100 % 10)) (n / 10 % 10)) (n % 10) := rfl
    rw [er]
    clear er
    generalize n / 100 % 10 = d1 at *
    generalize n / 10 % 10 = d2 at *
    generalize n % 10 = d3 at *
    have l1 := lo_mDg2 τ b 0 d1 h3.2.2.2.1
    have k1 := kn_mDg2 τ b 0 d1 (by omega)
    have W1 := WHb_dg W0 (by omega) (Int.le_refl 0) (d := d1) (by omega) (by omega)
    have z1 : aI (mDg τ b 0 d1.toNat) 71 (15 * b) = 0 := by rw [mDg_k, if_pos (by omega)]; omega
    have y1 : ∀ j, 0 ≤ j → j < d1 → aI (mDg τ b 0 d1.toNat) 71 (15 * b + j) = 2 * j := fun j p q => by rw [mDg_k, if_pos (by omega)]; omega
    rw [l1]
    have e1 : (0 + 2 * d1 + if 0 < d1 then 2 else 0) = 0 + 2 * (d1 - 1) + 4 := by rw [if_pos (by omega)]; omega
    have e2 : (0 + 2 * (d1 - 1) + 4 + 2 * d2 + if 0 < d2 then 2 else 0) = 0 + 2 * (d1 - 1) + 4 + 2 * (d2 - 1) + 4 := by rw [if_pos (by omega)]; omega
    unfold cPt
    dsimp only
    rw [e1, e2]
    generalize mDg τ b 0 d1.toNat = τ1 at *
    generalize cDg (0#64) 0 d1.toNat = r1 at *
    have l2 := lo_mDg2 τ1 b (0 + 2 * (d1 - 1) + 4) d2 h3.2.2.1.1
    have k2 := kn_mDg2 τ1 b (0 + 2 * (d1 - 1) + 4) d2 (by omega)
    have W2 := WHb_dg W1 (by omega) (show 0 ≤ 0 + 2 * (d1 - 1) + 4 by omega) (d := d2) (by omega) (by omega)
    have z2 : aI (mDg τ1 b (0 + 2 * (d1 - 1) + 4) d2.toNat) 71 (15 * b) = 0 := by rw [mDg_k, if_neg (by omega)]; exact z1
    have y2 : ∀ j, 0 ≤ j → j < d1 + d2 → aI (mDg τ1 b (0 + 2 * (d1 - 1) + 4) d2.toNat) 71 (15 * b + j) ≤ 2 * (d1 - 1) + 4 + 2 * (d2 - 1) := fun j p q => by
      rw [mDg_k]
      by_cases u : j < d1
      · rw [if_neg (by omega), y1 j p u]
        omega
      · rw [if_pos (by omega)]
        omega
    rw [l2]
    generalize mDg τ1 b (0 + 2 * (d1 - 1) + 4) d2.toNat = τ2 at *
    generalize cDg r1 (0 + 2 * (d1 - 1) + 4) d2.toNat = r2 at *
    have l3 := lo_mDg2 τ2 b (0 + 2 * (d1 - 1) + 4 + 2 * (d2 - 1) + 4) d3 h3.2.1.1
    have k3 := kn_mDg2 τ2 b (0 + 2 * (d1 - 1) + 4 + 2 * (d2 - 1) + 4) d3 (by omega)
    have W3 := WHb_dg W2 (by omega) (show 0 ≤ 0 + 2 * (d1 - 1) + 4 + 2 * (d2 - 1) + 4 by omega) (d := d3) (by omega) (by omega)
    have z3 : aI (mDg τ2 b (0 + 2 * (d1 - 1) + 4 + 2 * (d2 - 1) + 4) d3.toNat) 71 (15 * b) = 0 := by rw [mDg_k, if_neg (by omega)]; exact z2
    refine ⟨W3, ?_, by omega, by omega, by omega, z3, fun j p q => ?_⟩
    · rw [l3, if_pos (by omega)]
      omega
    · rw [k3, k2, k1] at q
      rw [l3, mDg_k]
      by_cases u : j < d1 + d2
      · rw [if_neg (by omega)]
        have := y2 j p u
        omega
      · rw [if_pos (by omega)]
        omega
  · have h3 := okNum_2 hn c
    rw [if_neg c]
    have hz : n / 100 % 10 = 0 := by omega
    have er : cRo n = cPt (cPt (cPt (0#64, 0) (n / 100 % 10)) (n / 10 % 10)) (n % 10) := rfl
    rw [er, hz]
    clear er hz
    generalize n / 10 % 10 = d1 at *
    generalize n % 10 = d2 at *
    have e0 : cPt (0#64, 0) 0 = (0#64, 0) := rfl
    rw [e0]
    have l1 := lo_mDg2 τ b 0 d1 h3.2.2.1
    have k1 := kn_mDg2 τ b 0 d1 (by omega)
    have W1 := WHb_dg W0 (by omega) (Int.le_refl 0) (d := d1) (by omega) (by omega)
    have z1 : aI (mDg τ b 0 d1.toNat) 71 (15 * b) = 0 := by rw [mDg_k, if_pos (by omega)]; omega
    have y1 : ∀ j, 0 ≤ j → j < d1 → aI (mDg τ b 0 d1.toNat) 71 (15 * b + j) = 2 * j := fun j p q => by rw [mDg_k, if_pos (by omega)]; omega
    rw [l1]
    have e1 : (0 + 2 * d1 + if 0 < d1 then 2 else 0) = 0 + 2 * (d1 - 1) + 4 := by rw [if_pos (by omega)]; omega
    unfold cPt
    dsimp only
    rw [e1]
    generalize mDg τ b 0 d1.toNat = τ1 at *
    generalize cDg (0#64) 0 d1.toNat = r1 at *
    have l2 := lo_mDg2 τ1 b (0 + 2 * (d1 - 1) + 4) d2 h3.2.1.1
    have k2 := kn_mDg2 τ1 b (0 + 2 * (d1 - 1) + 4) d2 (by omega)
    have W2 := WHb_dg W1 (by omega) (show 0 ≤ 0 + 2 * (d1 - 1) + 4 by omega) (d := d2) (by omega) (by omega)
    have z2 : aI (mDg τ1 b (0 + 2 * (d1 - 1) + 4) d2.toNat) 71 (15 * b) = 0 := by rw [mDg_k, if_neg (by omega)]; exact z1
    refine ⟨W2, ?_, by omega, by omega, by omega, z2, fun j p q => ?_⟩
    · rw [l2, if_pos (by omega)]
      omega
    · rw [k2, k1] at q
      rw [l2, mDg_k]
      by_cases u : j < d1
      · rw [if_neg (by omega), y1 j p u]
        omega
      · rw [if_pos (by omega)]
        omega
theorem whl_rnd {p s o : Int} {r : BitVec 64} (hs : 0 ≤ s ∧ s < 128) (ho : 0 ≤ o ∧ o < 128) : whl (cRnd σ p r s) p o = true ↔ whl σ p o = true ∨ ((0 ≤ o - s ∧ o - s < 64) ∧ r.getLsbD (o - s).toNat = true) := by
  have hw9 : ∀ ρ : Hp, whl ρ p o = if o < 64 then (fL ρ 310 p).getLsbD o.toNat else (fL ρ 311 p).getLsbD (o.toNat - 64) := fun ρ => by
    unfold whl
    rw [if_neg (by omega)]
  rw [hw9, hw9]
  have ge : ∀ k : Nat, 64 ≤ k → r.getLsbD k = false := fun k hk => BitVec.getLsbD_of_ge _ _ hk
  unfold cRnd
  by_cases c0 : s = 0
  · rw [if_pos c0]
    by_cases c : o < 64
    · rw [if_pos c, if_pos c, fL_pL, if_pos ⟨rfl, rfl⟩, BitVec.getLsbD_or, Bool.or_eq_true, show (o - s).toNat = o.toNat by omega]
      exact ⟨fun h => h.imp id (fun q => ⟨by omega, q⟩), fun h => h.imp id (fun q => q.2)⟩
    · rw [if_neg c, if_neg c, fL_pL, if_neg (fun q => absurd q.1 (by decide))]
      exact ⟨Or.inl, fun h => h.elim id (fun q => by omega)⟩
  · rw [if_neg c0]
    by_cases c1 : s < 64
    · rw [if_pos c1]
      by_cases c : o < 64
      · rw [if_pos c, if_pos c, fL_pL, if_neg (fun q => absurd q.1 (by decide)), fL_pL, if_pos ⟨rfl, rfl⟩, BitVec.getLsbD_or, Bool.or_eq_true, BitVec.getLsbD_shiftLeft]
        by_cases d : o.toNat < s.toNat
        · simp only [d, decide_true, Bool.not_true, Bool.and_false, Bool.false_and, Bool.false_eq_true, or_false]
          exact ⟨Or.inl, fun h => h.elim id (fun q => by omega)⟩
        · have e : (o - s).toNat = o.toNat - s.toNat := by omega
          rw [e]
          simp only [d, decide_false, Bool.not_false, Bool.and_true, Bool.and_eq_true, decide_eq_true_eq]
          exact ⟨fun h => h.imp id (fun q => ⟨by omega, q.2⟩), fun h => h.imp id (fun q => ⟨by omega, q.2⟩)⟩
      · rw [if_neg c, if_neg c, fL_pL, if_pos ⟨rfl, rfl⟩, BitVec.getLsbD_or, Bool.or_eq_true, BitVec.getLsbD_ushiftRight]
        have e : (64 - s).toNat + (o.toNat - 64) = (o - s).toNat := by omega
        rw [e]
        refine ⟨fun h => h.imp id (fun q => ⟨⟨by omega, ?_⟩, q⟩), fun h => h.imp id (fun q => q.2)⟩
        by_cases d : o - s < 64
        · exact d
        · rw [ge _ (by omega)] at q
          cases q
    · rw [if_neg c1]
      by_cases c : o < 64
      · rw [if_pos c, if_pos c, fL_pL, if_neg (fun q => absurd q.1 (by decide))]
        exact ⟨Or.inl, fun h => h.elim id (fun q => by omega)⟩
      · rw [if_neg c, if_neg c, fL_pL, if_pos ⟨rfl, rfl⟩, BitVec.getLsbD_or, Bool.or_eq_true, BitVec.getLsbD_shiftLeft]
        by_cases d : o.toNat - 64 < (s - 64).toNat
        · simp only [d, decide_true, Bool.not_true, Bool.and_false, Bool.false_and, Bool.false_eq_true, or_false]
          exact ⟨Or.inl, fun h => h.elim id (fun q => by omega)⟩
        · have e : (o - s).toNat = o.toNat - 64 - (s - 64).toNat := by omega
          rw [e]
          simp only [d, decide_false, Bool.not_false, Bool.and_true, Bool.and_eq_true, decide_eq_true_eq]
          exact ⟨fun h => h.imp id (fun q => ⟨by omega, q.2⟩), fun h => h.imp id (fun q => ⟨by omega, q.2⟩)⟩
/-- the class's wheel: its round three times -/
theorem whl_cut {p n L o : Int} (he : (cRo n).2 = L + 4) (hL : 0 ≤ L ∧ L ≤ 32) (h0 : fL σ 310 p = 0#64 ∧ fL σ 311 p = 0#64) (ho : 0 ≤ o ∧ o < 128) : whl (cWhl σ p n) p o = true ↔ ∃ r, (0 ≤ r ∧ r < 3) ∧ (0 ≤ o - r * (L + 7) ∧ o - r * (L + 7) < 64) ∧ (cRo n).1.getLsbD (o - r * (L + 7)).toNat = true := by
  have e1 : (cRo n).2 - 3 + 6 = L + 7 := by omega
  have ew : whl (cWhl σ p n) p o = whl (cRnd (cRnd (cRnd (cK3 σ p n) p (cRo n).1 0) p (cRo n).1 ((cRo n).2 - 3 + 6)) p (cRo n).1 (2 * ((cRo n).2 - 3 + 6))) p o := rfl
  have ez : whl (cK3 σ p n) p o = false := by
    have e : whl (cK3 σ p n) p o = whl σ p o := rfl
    rw [e]
    unfold whl
    rw [if_neg (by omega), h0.1, h0.2]
    split <;> exact BitVec.getLsbD_zero
  rw [ew, e1, whl_rnd (by omega) ho, whl_rnd (by omega) ho, whl_rnd (by omega) ho, ez]
  constructor
  · rintro (((h | ⟨h1, h2⟩) | ⟨h1, h2⟩) | ⟨h1, h2⟩)
    · cases h
    · exact ⟨0, by omega, by omega, by rw [show o - 0 * (L + 7) = o - 0 by omega]; exact h2⟩
    · exact ⟨1, by omega, by omega, by rw [show o - 1 * (L + 7) = o - (L + 7) by omega]; exact h2⟩
    · exact ⟨2, by omega, by omega, h2⟩
  · rintro ⟨r, h0, h1, h2⟩
    have q : r = 0 ∨ r = 1 ∨ r = 2 := by omega
    rcases q with rfl | rfl | rfl
    · exact Or.inl (Or.inl (Or.inr ⟨by omega, by rw [show o - 0 = o - 0 * (L + 7) by omega]; exact h2⟩))
    · exact Or.inl (Or.inr ⟨by omega, by rw [show o - (L + 7) = o - 1 * (L + 7) by omega]; exact h2⟩)
    · exact Or.inr ⟨h1, h2⟩
end WHL
