/-! no more steps than places: the reader -/

theorem pp_len (L : Int → Int) (z : Int) : ∀ (n m : Nat) (d : Int) (a : Rs), (0 ≤ d ∧ d ≤ 5) → a.2.1 ≤ z → (0 ≤ a.2.1) → (pp L z n m d a).1 = 0 →
    (m = 0 → lnSt (pp L z n m d a) ≤ (pp L z n m d a).2.1 - a.2.1) ∧ (m = 1 → lnSt (pp L z n m d a) ≤ (pp L z n m d a).2.1 - a.2.1) ∧ (m = 3 → lnSt (pp L z n m d a) ≤ (pp L z n m d a).2.1 - a.2.1) ∧ (m = 4 → lnSt (pp L z n m d a) ≤ (pp L z n m d a).2.1 - a.2.1) ∧ (m = 2 → ∀ s, lnSt a ≤ a.2.1 - s → lnSt (pp L z n m d a) ≤ (pp L z n m d a).2.1 - s) ∧ (5 ≤ m → ∀ s, lnSt a ≤ a.2.1 - s → lnSt (pp L z n m d a) ≤ (pp L z n m d a).2.1 - s)
  | 0, m, d, a, _, _, _, h => by cases h
  | n + 1, m, d, a, hd, ha, ha0, h => by
    have ht := tok_in L ha
    have hf := fc_in L z a.2.1
    have ea : (a0 (tE L z a.2.1)).2.1 = tE L z a.2.1 := rfl
    match m with
    | 0 =>
      refine ⟨fun _ => ?_, fun q => absurd q (by decide), fun q => absurd q (by decide), fun q => absurd q (by decide), fun q => absurd q (by decide), fun q => absurd q (by decide)⟩
      rw [pp_0] at h ⊢
      unfold fPart at h ⊢
      by_cases c1 : fc L z a.2.1 = 0 ∧ ¬ isW L z a.2.1 10631 ∧ ¬ isS L z a.2.1 40 ∧ ¬ tK L z a.2.1 = 2
      · rw [if_pos c1] at h
        have h : 1 + 16 * kB L z a.2.1 = 0 := h
        omega
      rw [if_neg c1] at h ⊢
      by_cases c2 : d = 5
      · rw [if_pos c2] at h
        have h : 5 + 16 * kB L z a.2.1 = 0 := h
        omega
      rw [if_neg c2] at h ⊢
      have i1 := pp_len L z n 4 (d + 1) (a0 (tE L z a.2.1)) (by omega) ht.2.2.2.1 (show 0 ≤ tE L z a.2.1 by omega)
      have i2 := pp_len L z n 0 (d + 1) (a0 (tE L z a.2.1)) (by omega) ht.2.2.2.1 (show 0 ≤ tE L z a.2.1 by omega)
      have p1 := pp_pos L z n 4 (d + 1) (a0 (tE L z a.2.1)) (show 0 ≤ tE L z a.2.1 by omega) ht.2.2.2.1
      rw [ea] at i1 i2 p1
      generalize pp L z n 4 (d + 1) (a0 (tE L z a.2.1)) = r at *
      generalize pp L z n 0 (d + 1) (a0 (tE L z a.2.1)) = q at *
      by_cases c3 : isS L z a.2.1 40
      · rw [if_pos c3] at h ⊢
        by_cases c4 : r.1 ≠ 0
        · rw [if_pos c4] at h
          exact absurd h c4
        · rw [if_neg c4] at h ⊢
          by_cases c5 : isS L z r.2.1 41
          · rw [if_pos c5] at h ⊢
            have j1 := (i1 (by omega)).2.2.2.1 rfl
            have p1 := p1 (by omega)
            have h5 := tok_in L p1.2.1
            show lnSt r ≤ tE L z r.2.1 - a.2.1
            omega
          · rw [if_neg c5] at h ⊢
            exfalso
            have h : 1 + 16 * kB L z r.2.1 = 0 := h
            omega
      rw [if_neg c3] at h ⊢
      by_cases c4 : isW L z a.2.1 10631
      · rw [if_pos c4] at h ⊢
        by_cases c5 : q.1 ≠ 0
        · rw [if_pos c5] at h
          exact absurd h c5
        · rw [if_neg c5] at h ⊢
          have j2 := (i2 (by omega)).1 rfl
          have ht2 := ht.2.2.2.2 (by rw [c4.1]; decide)
          show (((q.2.2.2.1 ++ [-1]).length : Nat) : Int) ≤ q.2.1 - a.2.1
          rw [List.length_append, List.length_singleton]
          have e : lnSt q = (q.2.2.2.1.length : Nat) := rfl
          omega
      · rw [if_neg c4] at h ⊢
        have ht2 := ht.2.2.2.2 (by
          intro e
          refine c1 ⟨?_, fun q => ?_, c3, by omega⟩
          · by_cases e2 : fc L z a.2.1 = 0
            · exact e2
            · have := hf.2.2 e2; omega
          · have := q.1; omega)
        show ((1 : Nat) : Int) ≤ tE L z a.2.1 - a.2.1
        omega
    | 1 =>
      have i1 := pp_len L z n 0 d a hd ha ha0
      have p1 := pp_pos L z n 0 d a ha0 ha
      have i2 := fun (z0 : (pp L z n 0 d a).2.1 ≤ z) (z1 : 0 ≤ (pp L z n 0 d a).2.1) => pp_len L z n 2 d (pp L z n 0 d a) hd z0 z1
      rw [pp_1] at h ⊢
      generalize pp L z n 0 d a = r at *
      refine ⟨fun q => absurd q (by decide), fun _ => ?_, fun q => absurd q (by decide), fun q => absurd q (by decide), fun q => absurd q (by decide), fun q => absurd q (by decide)⟩
      by_cases c4 : r.1 ≠ 0
      · rw [if_pos c4] at h
        exact absurd h c4
      · rw [if_neg c4] at h ⊢
        have c5 : r.1 = 0 := Decidable.not_not.mp c4
        have p1 := p1 c5
        exact (i2 p1.2.1 (by omega) h).2.2.2.2.1 rfl a.2.1 ((i1 c5).1 rfl)
    | 2 =>
      have i1 := pp_len L z n 0 d (a0 (tE L z a.2.1)) hd ht.2.2.2.1 (show 0 ≤ tE L z a.2.1 by omega)
      have p1 := pp_pos L z n 0 d (a0 (tE L z a.2.1)) (show 0 ≤ tE L z a.2.1 by omega) ht.2.2.2.1
      have i2 := fun b => pp_len L z n 2 d b hd
      rw [pp_2] at h ⊢
      generalize pp L z n 0 d (a0 (tE L z a.2.1)) = r at *
      refine ⟨fun q => absurd q (by decide), fun q => absurd q (by decide), fun q => absurd q (by decide), fun q => absurd q (by decide), fun _ s pa => ?_, fun q => absurd q (by decide)⟩
      by_cases c3 : isS L z a.2.1 43 ∨ isS L z a.2.1 45
      · rw [if_pos c3] at h ⊢
        by_cases c4 : r.1 ≠ 0
        · rw [if_pos c4] at h
          exact absurd h c4
        · rw [if_neg c4] at h ⊢
          have c5 : r.1 = 0 := Decidable.not_not.mp c4
          have p1 := p1 c5
          have q1 : r.2.1 ≤ z := p1.2.1
          have q2 : 0 ≤ r.2.1 := by have : tE L z a.2.1 ≤ r.2.1 := p1.1; omega
          have j1 := (i1 c5).1 rfl
          have ht2 := ht.2.2.2.2 (by rcases c3 with e | e <;> (rw [e.1]; decide))
          have ea : (a0 (tE L z a.2.1)).2.1 = tE L z a.2.1 := rfl
          refine (i2 (fSum L z a r) q1 q2 h).2.2.2.2.1 rfl s ?_
          rw [ln_sum]
          show lnSt a + lnSt r + 1 ≤ r.2.1 - s
          rw [ea] at j1
          omega
      · rw [if_neg c3] at h ⊢
        exact pa
    | 3 =>
      have i1 := pp_len L z n 1 d a hd ha ha0
      have p1 := pp_pos L z n 1 d a ha0 ha
      have i2 := fun (z1 : tE L z (pp L z n 1 d a).2.1 ≤ z) (z0 : 0 ≤ tE L z (pp L z n 1 d a).2.1) => pp_len L z n 1 d (a0 (tE L z (pp L z n 1 d a).2.1)) hd z1 z0
      rw [pp_3] at h ⊢
      generalize pp L z n 1 d a = r at *
      generalize pp L z n 1 d (a0 (tE L z r.2.1)) = q at *
      refine ⟨fun q => absurd q (by decide), fun q => absurd q (by decide), fun _ => ?_, fun q => absurd q (by decide), fun q => absurd q (by decide), fun q => absurd q (by decide)⟩
      by_cases c4 : r.1 ≠ 0
      · rw [if_pos c4] at h
        exact absurd h c4
      · rw [if_neg c4] at h ⊢
        have c5 : r.1 = 0 := Decidable.not_not.mp c4
        have p1 := p1 c5
        have h5 := tok_in L p1.2.1
        have pr := (i1 c5).2.1 rfl
        by_cases c3 : isS L z r.2.1 60 ∨ isS L z r.2.1 61
        · rw [if_pos c3] at h ⊢
          by_cases c6 : q.1 ≠ 0
          · rw [if_pos c6] at h
            exact absurd h c6
          · rw [if_neg c6] at h ⊢
            have c7 : q.1 = 0 := Decidable.not_not.mp c6
            have i2 := i2 (by omega) (by omega) c7
            have j2 := i2.2.1 rfl
            have ht2 := h5.2.2.2.2 (by rcases c3 with e | e <;> (rw [e.1]; decide))
            have eb : (a0 (tE L z r.2.1)).2.1 = tE L z r.2.1 := rfl
            rw [ln_test]
            show lnSt r + lnSt q + 1 ≤ q.2.1 - a.2.1
            rw [eb] at j2
            omega
        · rw [if_neg c3] at h ⊢
          exact pr
    | 4 =>
      have i1 := pp_len L z n 3 d a hd ha ha0
      have p1 := pp_pos L z n 3 d a ha0 ha
      have i2 := fun (z0 : (pp L z n 3 d a).2.1 ≤ z) (z1 : 0 ≤ (pp L z n 3 d a).2.1) => pp_len L z n 5 d (pp L z n 3 d a) hd z0 z1
      rw [pp_4] at h ⊢
      generalize pp L z n 3 d a = r at *
      refine ⟨fun q => absurd q (by decide), fun q => absurd q (by decide), fun q => absurd q (by decide), fun _ => ?_, fun q => absurd q (by decide), fun q => absurd q (by decide)⟩
      by_cases c4 : r.1 ≠ 0
      · rw [if_pos c4] at h
        exact absurd h c4
      · rw [if_neg c4] at h ⊢
        have c5 : r.1 = 0 := Decidable.not_not.mp c4
        have p1 := p1 c5
        exact (i2 p1.2.1 (by omega) h).2.2.2.2.2 (by decide) a.2.1 ((i1 c5).2.2.1 rfl)
    | k + 5 =>
      have i1 := pp_len L z n 3 d (a0 (tE L z a.2.1)) hd ht.2.2.2.1 (show 0 ≤ tE L z a.2.1 by omega)
      have p1 := pp_pos L z n 3 d (a0 (tE L z a.2.1)) (show 0 ≤ tE L z a.2.1 by omega) ht.2.2.2.1
      have i2 := fun b => pp_len L z n 5 d b hd
      rw [pp_5] at h ⊢
      generalize pp L z n 3 d (a0 (tE L z a.2.1)) = r at *
      refine ⟨fun q => absurd q (by omega), fun q => absurd q (by omega), fun q => absurd q (by omega), fun q => absurd q (by omega), fun q => absurd q (by omega), fun _ s pa => ?_⟩
      by_cases c3 : isW L z a.2.1 1111 ∨ isW L z a.2.1 423
      · rw [if_pos c3] at h ⊢
        by_cases c4 : r.1 ≠ 0
        · rw [if_pos c4] at h
          exact absurd h c4
        · rw [if_neg c4] at h ⊢
          have c5 : r.1 = 0 := Decidable.not_not.mp c4
          have p1 := p1 c5
          have q1 : r.2.1 ≤ z := p1.2.1
          have q2 : 0 ≤ r.2.1 := by have : tE L z a.2.1 ≤ r.2.1 := p1.1; omega
          have j1 := (i1 c5).2.2.1 rfl
          have ht2 := ht.2.2.2.2 (by rcases c3 with e | e <;> (rw [e.1]; decide))
          have ea : (a0 (tE L z a.2.1)).2.1 = tE L z a.2.1 := rfl
          refine (i2 (fWhole L z a r) q1 q2 h).2.2.2.2.2 (by decide) s ?_
          rw [ln_whole]
          show lnSt a + lnSt r + 1 ≤ r.2.1 - s
          rw [ea] at j1
          omega
      · rw [if_neg c3] at h ⊢
        exact pa
