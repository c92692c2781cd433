/-! all lines read can be reckoned -/

theorem rdR_pos (L : Int → Int) {z p : Int} (h0 : 0 ≤ p) (hz : p ≤ z) (h : (rdR L z p).1 = 0) : 0 ≤ (rdR L z p).2.1 ∧ (rdR L z p).2.1 ≤ z := by
  have i1 := pp_pos L z (8 * (z - p).toNat + 4) 4 0 (a0 p) h0 hz
  unfold rdR at h ⊢
  generalize pp L z (8 * (z - p).toNat + 4) 4 0 (a0 p) = r at *
  have ep : (a0 p).2.1 = p := rfl
  rw [ep] at i1
  unfold rdF at h ⊢
  by_cases c : r.1 ≠ 0
  · rw [if_pos c] at h
    exact absurd h c
  · rw [if_neg c] at h ⊢
    have c5 : r.1 = 0 := Decidable.not_not.mp c
    have i1 := i1 c5
    have ht := tok_in L i1.2.1
    by_cases c2 : isS L z r.2.1 59
    · rw [if_pos c2]
      show 0 ≤ tE L z r.2.1 ∧ tE L z r.2.1 ≤ z
      omega
    · rw [if_neg c2] at h
      have h : 1 + 16 * kB L z r.2.1 = 0 := h
      omega
theorem lnR_good (L : Int → Int) {z nl p : Int} (h0 : 0 ≤ p) (hz : p ≤ z) (h : (lnR L z nl p).1 = 0) : LnG (lnR L z nl p) ∧ ¬ nl = 24 ∧ 0 ≤ (lnR L z nl p).2.2.2.2.1 ∧ (lnR L z nl p).2.2.2.2.1 ≤ z := by
  have bd : ∀ f q, (f = 1 ∨ f = 4 ∨ f = 5) → ¬ (bad L z f q).1 = 0 := fun f q hf e => by
    have e : f + 16 * kB L z q = 0 := e
    omega
  have t0 := tok_in L hz
  have t1 := tok_in L t0.2.2.2.1
  have t2 := tok_in L t1.2.2.2.1
  have t3 := tok_in L t2.2.2.2.1
  have t4 := tok_in L t3.2.2.2.1
  have t5 := tok_in L t4.2.2.2.1
  have t6 := tok_in L t5.2.2.2.1
  have n1 := tT_in L z (tE L z p) t0.2.2.2.1
  have n3 := tT_in L z (tE L z (tE L z (tE L z p))) t2.2.2.2.1
  unfold lnR at h ⊢
  by_cases c0 : ¬ isW L z p 378004
  · rw [if_pos c0] at h
    exact absurd h (bd _ _ (by omega))
  rw [if_neg c0] at h ⊢
  by_cases c1 : nl = 24
  · rw [if_pos c1] at h
    exact absurd h (bd _ _ (by omega))
  rw [if_neg c1] at h ⊢
  by_cases c2 : ¬ tK L z (tE L z p) = 2
  · rw [if_pos c2] at h
    exact absurd h (bd _ _ (by omega))
  rw [if_neg c2] at h ⊢
  by_cases c3 : 9 < tT L z (tE L z p)
  · rw [if_pos c3] at h
    exact absurd h (bd _ _ (by omega))
  rw [if_neg c3] at h ⊢
  by_cases c4 : ¬ isW L z (tE L z (tE L z p)) 2141894737
  · rw [if_pos c4] at h
    exact absurd h (bd _ _ (by omega))
  rw [if_neg c4] at h ⊢
  by_cases c5 : ¬ tK L z (tE L z (tE L z (tE L z p))) = 2
  · rw [if_pos c5] at h
    exact absurd h (bd _ _ (by omega))
  rw [if_neg c5] at h ⊢
  by_cases c6 : 9 < tT L z (tE L z (tE L z (tE L z p)))
  · rw [if_pos c6] at h
    exact absurd h (bd _ _ (by omega))
  rw [if_neg c6] at h ⊢
  by_cases c7 : ¬ isW L z (tE L z (tE L z (tE L z (tE L z p)))) 4665603421
  · rw [if_pos c7] at h
    exact absurd h (bd _ _ (by omega))
  rw [if_neg c7] at h ⊢
  by_cases c8 : ¬ isW L z (tE L z (tE L z (tE L z (tE L z (tE L z p))))) 458690
  · rw [if_pos c8] at h
    exact absurd h (bd _ _ (by omega))
  rw [if_neg c8] at h ⊢
  have h : (rdR L z (kB L z (tE L z (tE L z (tE L z (tE L z (tE L z (tE L z p)))))))).1 = 0 := h
  have g0 : 0 ≤ kB L z (tE L z (tE L z (tE L z (tE L z (tE L z (tE L z p)))))) := by omega
  have g1 : kB L z (tE L z (tE L z (tE L z (tE L z (tE L z (tE L z p)))))) ≤ z := by omega
  have r1 := rdR_ok L g0 g1 h
  have r2 := rdR_pos L g0 g1 h
  exact ⟨⟨r1.1, r1.2, ⟨n1.1, by show tT L z (tE L z p) ≤ 9; omega⟩, ⟨n3.1, by show tT L z (tE L z (tE L z (tE L z p))) ≤ 9; omega⟩⟩, c1, r2⟩
theorem cdR_good (L : Int → Int) {z : Int} : ∀ (n : Nat) (nl p : Int), 0 ≤ p → p ≤ z → nl ≤ 24 → (cdR L z n nl p).1 = 0 → (∀ x ∈ (cdR L z n nl p).2, LnG x) ∧ nl + (cdR L z n nl p).2.length ≤ 24
  | 0, _, _, _, _, _, h => by cases h
  | n + 1, nl, p, h0, hz, hn, h => by
    unfold cdR at h ⊢
    by_cases c : tK L z p = 0
    · rw [if_pos c]
      exact ⟨fun x hx => (by cases hx), by show nl + ((0 : Nat) : Int) ≤ 24; omega⟩
    · rw [if_neg c] at h ⊢
      by_cases c2 : (lnR L z nl p).1 ≠ 0
      · rw [if_pos c2] at h
        exact absurd h c2
      · rw [if_neg c2] at h ⊢
        have g := lnR_good L h0 hz (Decidable.not_not.mp c2)
        have t := tok_in L g.2.2.2
        have ih := cdR_good L n (nl + 1) (kB L z (lnR L z nl p).2.2.2.2.1) (by omega) (by omega) (by omega) h
        refine ⟨fun x hx => ?_, ?_⟩
        · rcases List.mem_cons.mp hx with e | e
          · rw [e]; exact g.1
          · exact ih.1 x e
        · show nl + (((cdR L z n (nl + 1) (kB L z (lnR L z nl p).2.2.2.2.1)).2.length + 1 : Nat) : Int) ≤ 24
          omega
