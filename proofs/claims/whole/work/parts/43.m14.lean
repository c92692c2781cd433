/-! what cards mean: a pure reader. A result: fault, place, codes of the reference, steps of the class, value -/

abbrev Rs : Type := Int × Int × List Int × List Int × ((Int → Int) → Int)
abbrev isW (L : Int → Int) (z p : Int) (c : BitVec 64) : Prop := tK L z p = 1 ∧ tW L z p = c
abbrev isS (L : Int → Int) (z p c : Int) : Prop := tK L z p = 3 ∧ L (kB L z p) = c
def fc (L : Int → Int) (z p : Int) : Int := if tK L z p = 1 then fctW (tW L z p) else 0
def a0 (p : Int) : Rs := (0, p, [], [], fun _ => 0)
/-- a part, out of what stands in ( ) and behind not -/
def fPart (L : Int → Int) (z d p : Int) (r q : Rs) : Rs :=
  if fc L z p = 0 ∧ ¬ isW L z p 10631 ∧ ¬ isS L z p 40 ∧ ¬ tK L z p = 2 then (1 + 16 * kB L z p, a0 p |>.2)
  else if d = 5 then (5 + 16 * kB L z p, a0 p |>.2)
  else if isS L z p 40 then (if r.1 ≠ 0 then r else if isS L z r.2.1 41 then (0, tE L z r.2.1, 28 :: (r.2.2.1 ++ [29]), r.2.2.2.1, r.2.2.2.2) else (1 + 16 * kB L z r.2.1, r.2))
  else if isW L z p 10631 then (if q.1 ≠ 0 then q else (0, q.2.1, 30 :: q.2.2.1, q.2.2.2.1 ++ [-1], fun f => if wI (q.2.2.2.2 f) = 0 then 1 else 0))
  else (0, tE L z p, [if 0 < fc L z p then fc L z p else 100 + tT L z p], [if 0 < fc L z p then -9 - fc L z p else tT L z p], fun f => if 0 < fc L z p then f (fc L z p) else tT L z p)
def fSum (L : Int → Int) (z : Int) (a r : Rs) : Rs := (0, r.2.1, a.2.2.1 ++ (if isS L z a.2.1 43 then 20 else 21) :: r.2.2.1, a.2.2.2.1 ++ (r.2.2.2.1 ++ [if isS L z a.2.1 43 then -6 else -7]), fun f => if isS L z a.2.1 43 then a.2.2.2.2 f + r.2.2.2.2 f else a.2.2.2.2 f - r.2.2.2.2 f)
def fTest (L : Int → Int) (z : Int) (r q : Rs) : Rs := (0, q.2.1, r.2.2.1 ++ (if isS L z r.2.1 60 then 24 else 25) :: q.2.2.1, r.2.2.2.1 ++ (q.2.2.2.1 ++ [if isS L z r.2.1 60 then -4 else -5]), fun f => if isS L z r.2.1 60 then (if wI (r.2.2.2.2 f) < wI (q.2.2.2.2 f) then 1 else 0) else (if wI (r.2.2.2.2 f) = wI (q.2.2.2.2 f) then 1 else 0))
def fWhole (L : Int → Int) (z : Int) (a r : Rs) : Rs := (0, r.2.1, a.2.2.1 ++ (if isW L z a.2.1 1111 then 26 else 27) :: r.2.2.1, a.2.2.2.1 ++ (r.2.2.2.1 ++ [if isW L z a.2.1 1111 then -2 else -3]), fun f => if isW L z a.2.1 1111 then (if wI (a.2.2.2.2 f) = 0 then 0 else if wI (r.2.2.2.2 f) = 0 then 0 else 1) else (if wI (a.2.2.2.2 f) = 0 then (if wI (r.2.2.2.2 f) = 0 then 0 else 1) else 1))
/-- modes: 0 part, 1 sum, 2 what follows in a sum, 3 test, 4 whole, 5 what follows in a whole -/
def pp (L : Int → Int) (z : Int) : Nat → Nat → Int → Rs → Rs
  | 0, _, _, a => (1, a.2)
  | n + 1, 0, d, a => fPart L z d a.2.1 (pp L z n 4 (d + 1) (a0 (tE L z a.2.1))) (pp L z n 0 (d + 1) (a0 (tE L z a.2.1)))
  | n + 1, 1, d, a => if (pp L z n 0 d a).1 ≠ 0 then pp L z n 0 d a else pp L z n 2 d (pp L z n 0 d a)
  | n + 1, 2, d, a => if isS L z a.2.1 43 ∨ isS L z a.2.1 45 then (if (pp L z n 0 d (a0 (tE L z a.2.1))).1 ≠ 0 then pp L z n 0 d (a0 (tE L z a.2.1)) else pp L z n 2 d (fSum L z a (pp L z n 0 d (a0 (tE L z a.2.1))))) else a
  | n + 1, 3, d, a => if (pp L z n 1 d a).1 ≠ 0 then pp L z n 1 d a else if isS L z (pp L z n 1 d a).2.1 60 ∨ isS L z (pp L z n 1 d a).2.1 61 then (if (pp L z n 1 d (a0 (tE L z (pp L z n 1 d a).2.1))).1 ≠ 0 then pp L z n 1 d (a0 (tE L z (pp L z n 1 d a).2.1)) else fTest L z (pp L z n 1 d a) (pp L z n 1 d (a0 (tE L z (pp L z n 1 d a).2.1)))) else pp L z n 1 d a
  | n + 1, 4, d, a => if (pp L z n 3 d a).1 ≠ 0 then pp L z n 3 d a else pp L z n 5 d (pp L z n 3 d a)
  | n + 1, _ + 5, d, a => if isW L z a.2.1 1111 ∨ isW L z a.2.1 423 then (if (pp L z n 3 d (a0 (tE L z a.2.1))).1 ≠ 0 then pp L z n 3 d (a0 (tE L z a.2.1)) else pp L z n 5 d (fWhole L z a (pp L z n 3 d (a0 (tE L z a.2.1))))) else a
theorem pp_0 (L : Int → Int) (z : Int) (n : Nat) (d : Int) (a : Rs) : pp L z (n + 1) 0 d a = fPart L z d a.2.1 (pp L z n 4 (d + 1) (a0 (tE L z a.2.1))) (pp L z n 0 (d + 1) (a0 (tE L z a.2.1))) := rfl
theorem pp_1 (L : Int → Int) (z : Int) (n : Nat) (d : Int) (a : Rs) : pp L z (n + 1) 1 d a = if (pp L z n 0 d a).1 ≠ 0 then pp L z n 0 d a else pp L z n 2 d (pp L z n 0 d a) := rfl
theorem pp_2 (L : Int → Int) (z : Int) (n : Nat) (d : Int) (a : Rs) : pp L z (n + 1) 2 d a = if isS L z a.2.1 43 ∨ isS L z a.2.1 45 then (if (pp L z n 0 d (a0 (tE L z a.2.1))).1 ≠ 0 then pp L z n 0 d (a0 (tE L z a.2.1)) else pp L z n 2 d (fSum L z a (pp L z n 0 d (a0 (tE L z a.2.1))))) else a := rfl
theorem pp_3 (L : Int → Int) (z : Int) (n : Nat) (d : Int) (a : Rs) : pp L z (n + 1) 3 d a = if (pp L z n 1 d a).1 ≠ 0 then pp L z n 1 d a else if isS L z (pp L z n 1 d a).2.1 60 ∨ isS L z (pp L z n 1 d a).2.1 61 then (if (pp L z n 1 d (a0 (tE L z (pp L z n 1 d a).2.1))).1 ≠ 0 then pp L z n 1 d (a0 (tE L z (pp L z n 1 d a).2.1)) else fTest L z (pp L z n 1 d a) (pp L z n 1 d (a0 (tE L z (pp L z n 1 d a).2.1)))) else pp L z n 1 d a := rfl
theorem pp_4 (L : Int → Int) (z : Int) (n : Nat) (d : Int) (a : Rs) : pp L z (n + 1) 4 d a = if (pp L z n 3 d a).1 ≠ 0 then pp L z n 3 d a else pp L z n 5 d (pp L z n 3 d a) := rfl
theorem pp_5 (L : Int → Int) (z : Int) (n k : Nat) (d : Int) (a : Rs) : pp L z (n + 1) (k + 5) d a = if isW L z a.2.1 1111 ∨ isW L z a.2.1 423 then (if (pp L z n 3 d (a0 (tE L z a.2.1))).1 ≠ 0 then pp L z n 3 d (a0 (tE L z a.2.1)) else pp L z n 5 d (fWhole L z a (pp L z n 3 d (a0 (tE L z a.2.1))))) else a := rfl
theorem tok_in (L : Int → Int) {z p : Int} (h : p ≤ z) : p ≤ kB L z p ∧ kB L z p ≤ z ∧ p ≤ tE L z p ∧ tE L z p ≤ z ∧ (tK L z p ≠ 0 → p < z ∧ kB L z p < z ∧ p < tE L z p) := by
  have h1 := kB_in L h
  have h2 := tEb_in L h1.2
  have h3 := tKb_0 L (z := z) (b := kB L z p)
  unfold tE tK
  refine ⟨h1.1, h1.2, ?_, h2.2.2, fun q => ?_⟩
  · by_cases e : kB L z p = z
    · rw [h2.1 e]; exact h
    · have := h2.2.1 (by omega); omega
  · have e : ¬ kB L z p = z := fun e => q (h3.mpr e)
    have := h2.2.1 (by omega); omega
theorem fc_in (L : Int → Int) (z p : Int) : 0 ≤ fc L z p ∧ fc L z p ≤ 7 ∧ (fc L z p ≠ 0 → tK L z p = 1) := by
  unfold fc fctW
  repeat' split
  all_goals omega
theorem fc_not (L : Int → Int) (z p : Int) (h : isW L z p 10631) : fc L z p = 0 := by
  unfold fc fctW
  rw [if_pos h.1, h.2]
  decide
theorem tT_in (L : Int → Int) (z p : Int) (hp : p ≤ z) : 0 ≤ tT L z p ∧ tT L z p ≤ 9999 := by
  have hrn : ∀ (n : Nat) (p : Int), ∀ j, p ≤ j → j < rn L z 48 57 n p → 48 ≤ L j ∧ L j ≤ 57 := by
    intro n
    induction n with
    | zero => intro p j a b; unfold rn at b; omega
    | succ n ih =>
      intro p j a b
      unfold rn at b
      split at b
      · by_cases e : j = p
        · subst e; rename_i q; exact q.2
        · exact ih (p + 1) j (by omega) b
      · omega
  unfold tT tTb
  split
  · omega
  · split
    · omega
    · split
      · rename_i q1 q2 q3
        have hb := kB_in L hp
        have e : tEb L z (kB L z p) = rn L z 48 57 (z - kB L z p).toNat (kB L z p) := by unfold tEb; rw [if_neg q1, if_neg q2, if_pos q3]
        have h3 := p10 (min (tEb L z (kB L z p) - kB L z p) 4).toNat (by omega)
        have := nv_in (L := L) (b := kB L z p) (min (tEb L z (kB L z p) - kB L z p) 4).toNat (by omega) (fun j a c => hrn _ _ j a (by rw [← e]; omega))
        omega
      · omega
/-- where a result lies -/
theorem pp_pos (L : Int → Int) (z : Int) : ∀ (n m : Nat) (d : Int) (a : Rs), 0 ≤ a.2.1 → a.2.1 ≤ z → (pp L z n m d a).1 = 0 → a.2.1 ≤ (pp L z n m d a).2.1 ∧ (pp L z n m d a).2.1 ≤ z ∧ ((m = 0 ∨ m = 1 ∨ m = 3 ∨ m = 4) → a.2.1 < (pp L z n m d a).2.1)
  | 0, m, d, a, _, _, h => by cases h
  | n + 1, m, d, a, ha0, ha, h => by
    have ht := tok_in L ha
    have hf := fc_in L z a.2.1
    have ea : (a0 (tE L z a.2.1)).2.1 = tE L z a.2.1 := rfl
    match m with
    | 0 =>
      have i1 := pp_pos L z n 4 (d + 1) (a0 (tE L z a.2.1)) (show 0 ≤ tE L z a.2.1 by omega) ht.2.2.2.1
      have i2 := pp_pos L z n 0 (d + 1) (a0 (tE L z a.2.1)) (show 0 ≤ tE L z a.2.1 by omega) ht.2.2.2.1
      rw [ea] at i1 i2
      rw [pp_0] at h ⊢
      unfold fPart at h ⊢
      generalize pp L z n 4 (d + 1) (a0 (tE L z a.2.1)) = r at *
      generalize pp L z n 0 (d + 1) (a0 (tE L z a.2.1)) = q at *
      by_cases c1 : fc L z a.2.1 = 0 ∧ ¬ isW L z a.2.1 10631 ∧ ¬ isS L z a.2.1 40 ∧ ¬ tK L z a.2.1 = 2
      · rw [if_pos c1] at h
        have h : 1 + 16 * kB L z a.2.1 = 0 := h
        omega
      rw [if_neg c1] at h ⊢
      by_cases c2 : d = 5
      · rw [if_pos c2] at h
        have h : 5 + 16 * kB L z a.2.1 = 0 := h
        omega
      rw [if_neg c2] at h ⊢
      by_cases c3 : isS L z a.2.1 40
      · rw [if_pos c3] at h ⊢
        have ht2 := ht.2.2.2.2 (by rw [c3.1]; decide)
        by_cases c4 : r.1 ≠ 0
        · rw [if_pos c4] at h
          exact absurd h c4
        · rw [if_neg c4] at h ⊢
          have i1 := i1 (by omega)
          have h5 := tok_in L i1.2.1
          by_cases c5 : isS L z r.2.1 41
          · rw [if_pos c5] at h ⊢
            show a.2.1 ≤ _ ∧ _ ∧ _
            simp only
            omega
          · rw [if_neg c5] at h ⊢
            have h : 1 + 16 * kB L z r.2.1 = 0 := h
            omega
      rw [if_neg c3] at h ⊢
      have ht2 := ht.2.2.2.2 (by
        intro e
        refine c1 ⟨?_, fun q => ?_, c3, by omega⟩
        · by_cases e2 : fc L z a.2.1 = 0
          · exact e2
          · have := hf.2.2 e2; omega
        · have := q.1; omega)
      by_cases c4 : isW L z a.2.1 10631
      · rw [if_pos c4] at h ⊢
        by_cases c5 : q.1 ≠ 0
        · rw [if_pos c5] at h
          exact absurd h c5
        · rw [if_neg c5] at h ⊢
          have i2 := i2 (by omega)
          show a.2.1 ≤ _ ∧ _ ∧ _
          simp only
          omega
      · rw [if_neg c4] at h ⊢
        show a.2.1 ≤ _ ∧ _ ∧ _
        simp only
        omega
    | 1 =>
      have i1 := pp_pos L z n 0 d a ha0 ha
      have i2 := fun (z0 : 0 ≤ (pp L z n 0 d a).2.1) (z1 : (pp L z n 0 d a).2.1 ≤ z) => pp_pos L z n 2 d (pp L z n 0 d a) z0 z1
      rw [pp_1] at h ⊢
      generalize pp L z n 0 d a = r at *
      by_cases c4 : r.1 ≠ 0
      · rw [if_pos c4] at h
        exact absurd h c4
      · rw [if_neg c4] at h ⊢
        have i1 := i1 (by omega)
        have i2 := i2 (by omega) (by omega) h
        omega
    | 2 =>
      have i1 := pp_pos L z n 0 d (a0 (tE L z a.2.1)) (show 0 ≤ tE L z a.2.1 by omega) ht.2.2.2.1
      rw [ea] at i1
      have i2 := fun b => pp_pos L z n 2 d b
      rw [pp_2] at h ⊢
      generalize pp L z n 0 d (a0 (tE L z a.2.1)) = r at *
      by_cases c3 : isS L z a.2.1 43 ∨ isS L z a.2.1 45
      · rw [if_pos c3] at h ⊢
        by_cases c4 : r.1 ≠ 0
        · rw [if_pos c4] at h
          exact absurd h c4
        · rw [if_neg c4] at h ⊢
          have i1 := i1 (by omega)
          have i2 := i2 (fSum L z a r) (show 0 ≤ r.2.1 by omega) (show r.2.1 ≤ z by omega) h
          simp only [show (fSum L z a r).2.1 = r.2.1 from rfl] at i2
          omega
      · rw [if_neg c3] at h ⊢
        omega
    | 3 =>
      have i1 := pp_pos L z n 1 d a ha0 ha
      have i2 := fun (z0 : 0 ≤ tE L z (pp L z n 1 d a).2.1) (z1 : tE L z (pp L z n 1 d a).2.1 ≤ z) => pp_pos L z n 1 d (a0 (tE L z (pp L z n 1 d a).2.1)) z0 z1
      rw [pp_3] at h ⊢
      generalize pp L z n 1 d a = r at *
      have eb : (a0 (tE L z r.2.1)).2.1 = tE L z r.2.1 := rfl
      rw [eb] at i2
      generalize pp L z n 1 d (a0 (tE L z r.2.1)) = q at *
      by_cases c4 : r.1 ≠ 0
      · rw [if_pos c4] at h
        exact absurd h c4
      · rw [if_neg c4] at h ⊢
        have i1 := i1 (by omega)
        have h5 := tok_in L i1.2.1
        by_cases c3 : isS L z r.2.1 60 ∨ isS L z r.2.1 61
        · rw [if_pos c3] at h ⊢
          by_cases c5 : q.1 ≠ 0
          · rw [if_pos c5] at h
            exact absurd h c5
          · rw [if_neg c5] at h ⊢
            have i2 := i2 (by omega) (by omega) (by omega)
            show a.2.1 ≤ _ ∧ _ ∧ _
            simp only [fTest]
            omega
        · rw [if_neg c3] at h ⊢
          omega
    | 4 =>
      have i1 := pp_pos L z n 3 d a ha0 ha
      have i2 := fun (z0 : 0 ≤ (pp L z n 3 d a).2.1) (z1 : (pp L z n 3 d a).2.1 ≤ z) => pp_pos L z n 5 d (pp L z n 3 d a) z0 z1
      rw [pp_4] at h ⊢
      generalize pp L z n 3 d a = r at *
      by_cases c4 : r.1 ≠ 0
      · rw [if_pos c4] at h
        exact absurd h c4
      · rw [if_neg c4] at h ⊢
        have i1 := i1 (by omega)
        have i2 := i2 (by omega) (by omega) h
        omega
    | k + 5 =>
      have i1 := pp_pos L z n 3 d (a0 (tE L z a.2.1)) (show 0 ≤ tE L z a.2.1 by omega) ht.2.2.2.1
      rw [ea] at i1
      have i2 := fun b => pp_pos L z n 5 d b
      rw [pp_5] at h ⊢
      generalize pp L z n 3 d (a0 (tE L z a.2.1)) = r at *
      by_cases c3 : isW L z a.2.1 1111 ∨ isW L z a.2.1 423
      · rw [if_pos c3] at h ⊢
        by_cases c4 : r.1 ≠ 0
        · rw [if_pos c4] at h
          exact absurd h c4
        · rw [if_neg c4] at h ⊢
          have i1 := i1 (by omega)
          have i2 := i2 (fWhole L z a r) (show 0 ≤ r.2.1 by omega) (show r.2.1 ≤ z by omega) h
          simp only [show (fWhole L z a r).2.1 = r.2.1 from rfl] at i2
          omega
      · rw [if_neg c3] at h ⊢
        omega
