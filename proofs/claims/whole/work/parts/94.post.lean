/-! what a line's steps give on the stack -/

/-- the steps of r lay its value on the stack, wherever n places are left -/
def Pst (f : Int → Int) (n : Nat) (r : Rs) : Prop := ∀ s : List Int, s.length + n ≤ 40 → okS f s r.2.2.2.1 ∧ rnS f s r.2.2.2.1 = r.2.2.2.2 (fun i => f (i - 1)) :: s
theorem Pst.le {f : Int → Int} {n m : Nat} {r : Rs} (h : Pst f n r) (hm : n ≤ m) : Pst f m r := fun s hs => h s (by omega)
theorem Pst_join {f : Int → Int} {n : Nat} (hn : 1 ≤ n) {a r : Rs} (ha : Pst f (n + 1) a) (hr : Pst f n r) (c : Int) (hc : -7 ≤ c ∧ c ≤ -2) (g : (Int → Int) → Int) (hg : ∀ F, g F = jn c (a.2.2.2.2 F) (r.2.2.2.2 F)) (x : Int) (p : Int) (cs : List Int) : Pst f (n + 1) (x, p, cs, a.2.2.2.1 ++ (r.2.2.2.1 ++ [c]), g) := fun s hs => by
  obtain ⟨a1, a2⟩ := ha s hs
  obtain ⟨b1, b2⟩ := hr (a.2.2.2.2 (fun i => f (i - 1)) :: s) (by rw [List.length_cons]; omega)
  have e : st1 f (r.2.2.2.2 (fun i => f (i - 1)) :: a.2.2.2.2 (fun i => f (i - 1)) :: s) c = jn c (a.2.2.2.2 (fun i => f (i - 1))) (r.2.2.2.2 (fun i => f (i - 1))) :: s := by
    unfold st1
    rw [if_neg (by omega), if_neg (by omega), if_neg (by omega)]
  refine ⟨(okS_app f _ _ _).mpr ⟨a1, ?_⟩, ?_⟩
  · rw [a2]
    refine (okS_app f _ _ _).mpr ⟨b1, ?_⟩
    rw [b2]
    refine ⟨⟨by omega, by omega, by omega, fun z => by omega, fun z => by omega, fun z => by omega, fun _ => ?_, ?_⟩, trivial⟩
    · rw [List.length_cons, List.length_cons]; omega
    · rw [List.length_cons, List.length_cons]; omega
  · show rnS f s (a.2.2.2.1 ++ (r.2.2.2.1 ++ [c])) = g (fun i => f (i - 1)) :: s
    rw [rnS_app, a2, rnS_app, b2, hg]
    exact e
def nP (d : Int) : Nat := (3 * (5 - d) + 1).toNat
theorem nP_1 {d : Int} (h : 0 ≤ d ∧ d ≤ 5) : 1 ≤ nP d := by unfold nP; omega
theorem pp_post (L : Int → Int) (z : Int) (f : Int → Int) : ∀ (n m : Nat) (d : Int) (a : Rs), (0 ≤ d ∧ d ≤ 5) → a.2.1 ≤ z → (0 ≤ a.2.1) → (pp L z n m d a).1 = 0 →
    (m = 0 → Pst f (nP d) (pp L z n m d a)) ∧ (m = 1 → Pst f (nP d + 1) (pp L z n m d a)) ∧ (m = 3 → Pst f (nP d + 2) (pp L z n m d a)) ∧ (m = 4 → Pst f (nP d + 3) (pp L z n m d a)) ∧ (m = 2 → Pst f (nP d + 1) a → Pst f (nP d + 1) (pp L z n m d a)) ∧ (5 ≤ m → Pst f (nP d + 3) a → Pst f (nP d + 3) (pp L z n m d a))
  | 0, m, d, a, _, _, _, h => by cases h
  | n + 1, m, d, a, hd, ha, ha0, h => by
    have ht := tok_in L ha
    have hf := fc_in L z a.2.1
    have hT := tT_in L z a.2.1 ha
    match m with
    | 0 =>
      refine ⟨fun _ => ?_, fun q => absurd q (by decide), fun q => absurd q (by decide), fun q => absurd q (by decide), fun q => absurd q (by decide), fun q => absurd q (by decide)⟩
      rw [pp_0] at h ⊢
      unfold fPart at h ⊢
      by_cases c1 : fc L z a.2.1 = 0 ∧ ¬ isW L z a.2.1 10631 ∧ ¬ isS L z a.2.1 40 ∧ ¬ tK L z a.2.1 = 2
      · rw [if_pos c1] at h
        have h : 1 + 16 * kB L z a.2.1 = 0 := h
        omega
      rw [if_neg c1] at h ⊢
      by_cases c2 : d = 5
      · rw [if_pos c2] at h
        have h : 5 + 16 * kB L z a.2.1 = 0 := h
        omega
      rw [if_neg c2] at h ⊢
      have i1 := pp_post L z f n 4 (d + 1) (a0 (tE L z a.2.1)) (by omega) ht.2.2.2.1 (show 0 ≤ tE L z a.2.1 by omega)
      have i2 := pp_post L z f n 0 (d + 1) (a0 (tE L z a.2.1)) (by omega) ht.2.2.2.1 (show 0 ≤ tE L z a.2.1 by omega)
      generalize pp L z n 4 (d + 1) (a0 (tE L z a.2.1)) = r at *
      generalize pp L z n 0 (d + 1) (a0 (tE L z a.2.1)) = q at *
      by_cases c3 : isS L z a.2.1 40
      · rw [if_pos c3] at h ⊢
        by_cases c4 : r.1 ≠ 0
        · rw [if_pos c4] at h
          exact absurd h c4
        · rw [if_neg c4] at h ⊢
          by_cases c5 : isS L z r.2.1 41
          · rw [if_pos c5] at h ⊢
            have := (i1 (by omega)).2.2.2.1 rfl
            have := this.le (m := nP d) (by unfold nP; omega)
            exact this
          · rw [if_neg c5] at h ⊢
            exfalso
            have h : 1 + 16 * kB L z r.2.1 = 0 := h
            omega
      rw [if_neg c3] at h ⊢
      by_cases c4 : isW L z a.2.1 10631
      · rw [if_pos c4] at h ⊢
        by_cases c5 : q.1 ≠ 0
        · rw [if_pos c5] at h
          exact absurd h c5
        · rw [if_neg c5] at h ⊢
          have i2 := (i2 (by omega)).1 rfl
          intro s hs
          obtain ⟨b1, b2⟩ := i2 s (by unfold nP at *; omega)
          have hs2 : s.length + 1 ≤ 40 := by unfold nP at hs; omega
          refine ⟨(okS_app f _ _ _).mpr ⟨b1, ?_⟩, ?_⟩
          · rw [b2]
            refine ⟨⟨by omega, by omega, by omega, fun z => by omega, fun z => by omega, fun z => ?_, fun z => by omega, ?_⟩, trivial⟩
            · rw [List.length_cons]; omega
            · rw [List.length_cons]; omega
          · show rnS f s (q.2.2.2.1 ++ [-1]) = _
            rw [rnS_app, b2]
            rfl
      · rw [if_neg c4] at h ⊢
        have hf1 : fc L z a.2.1 ≤ 7 := hf.2.1
        generalize fc L z a.2.1 = y at *
        generalize tT L z a.2.1 = x at *
        intro s hs
        have hs2 : s.length + 1 ≤ 40 := by unfold nP at hs; omega
        clear i1 i2 h ht hf hs
        by_cases c6 : 0 < y
        · simp only [c6, if_true]
          refine ⟨⟨⟨by omega, by omega, by omega, fun z => by omega, fun z => by omega, fun z => by omega, fun z => by omega, by omega⟩, trivial⟩, ?_⟩
          show st1 f s (-9 - y) = _
          unfold st1
          rw [if_neg (by omega), if_pos (by omega), show -10 - (-9 - y) = y - 1 by omega]
        · simp only [c6, if_false]
          refine ⟨⟨⟨by omega, by omega, by omega, fun z => by omega, fun z => by omega, fun z => by omega, fun z => by omega, by omega⟩, trivial⟩, ?_⟩
          show st1 f s x = _
          unfold st1
          rw [if_pos hT.1]
    | 1 =>
      have i1 := pp_post L z f n 0 d a hd ha ha0
      have p1 := pp_pos L z n 0 d a ha0 ha
      have i2 := fun (z0 : (pp L z n 0 d a).2.1 ≤ z) (z1 : 0 ≤ (pp L z n 0 d a).2.1) => pp_post L z f n 2 d (pp L z n 0 d a) hd z0 z1
      rw [pp_1] at h ⊢
      generalize pp L z n 0 d a = r at *
      refine ⟨fun q => absurd q (by decide), fun _ => ?_, fun q => absurd q (by decide), fun q => absurd q (by decide), fun q => absurd q (by decide), fun q => absurd q (by decide)⟩
      by_cases c4 : r.1 ≠ 0
      · rw [if_pos c4] at h
        exact absurd h c4
      · rw [if_neg c4] at h ⊢
        have c5 : r.1 = 0 := Decidable.not_not.mp c4
        have p1 := p1 c5
        exact (i2 p1.2.1 (by omega) h).2.2.2.2.1 rfl (((i1 c5).1 rfl).le (by omega))
    | 2 =>
      have i1 := pp_post L z f n 0 d (a0 (tE L z a.2.1)) hd ht.2.2.2.1 (show 0 ≤ tE L z a.2.1 by omega)
      have p1 := pp_pos L z n 0 d (a0 (tE L z a.2.1)) (show 0 ≤ tE L z a.2.1 by omega) ht.2.2.2.1
      have i2 := fun b => pp_post L z f n 2 d b hd
      rw [pp_2] at h ⊢
      generalize pp L z n 0 d (a0 (tE L z a.2.1)) = r at *
      refine ⟨fun q => absurd q (by decide), fun q => absurd q (by decide), fun q => absurd q (by decide), fun q => absurd q (by decide), fun _ pa => ?_, fun q => absurd q (by decide)⟩
      by_cases c3 : isS L z a.2.1 43 ∨ isS L z a.2.1 45
      · rw [if_pos c3] at h ⊢
        by_cases c4 : r.1 ≠ 0
        · rw [if_pos c4] at h
          exact absurd h c4
        · rw [if_neg c4] at h ⊢
          have c5 : r.1 = 0 := Decidable.not_not.mp c4
          have p1 := p1 c5
          have q1 : r.2.1 ≤ z := p1.2.1
          have q2 : 0 ≤ r.2.1 := by have : tE L z a.2.1 ≤ r.2.1 := p1.1; omega
          refine (i2 (fSum L z a r) q1 q2 h).2.2.2.2.1 rfl ?_
          refine Pst_join (nP_1 hd) pa ((i1 c5).1 rfl) (if isS L z a.2.1 43 then -6 else -7) (by split <;> omega) _ ?_ 0 _ _
          intro F
          unfold jn
          by_cases e : isS L z a.2.1 43
          · simp only [if_pos e]
            rfl
          · simp only [if_neg e]
            rfl
      · rw [if_neg c3] at h ⊢
        exact pa
    | 3 =>
      have i1 := pp_post L z f n 1 d a hd ha ha0
      have p1 := pp_pos L z n 1 d a ha0 ha
      have i2 := fun (z1 : tE L z (pp L z n 1 d a).2.1 ≤ z) (z0 : 0 ≤ tE L z (pp L z n 1 d a).2.1) => pp_post L z f n 1 d (a0 (tE L z (pp L z n 1 d a).2.1)) hd z1 z0
      rw [pp_3] at h ⊢
      generalize pp L z n 1 d a = r at *
      generalize pp L z n 1 d (a0 (tE L z r.2.1)) = q at *
      refine ⟨fun q => absurd q (by decide), fun q => absurd q (by decide), fun _ => ?_, fun q => absurd q (by decide), fun q => absurd q (by decide), fun q => absurd q (by decide)⟩
      by_cases c4 : r.1 ≠ 0
      · rw [if_pos c4] at h
        exact absurd h c4
      · rw [if_neg c4] at h ⊢
        have c5 : r.1 = 0 := Decidable.not_not.mp c4
        have p1 := p1 c5
        have h5 := tok_in L p1.2.1
        have pr := ((i1 c5).2.1 rfl).le (m := nP d + 1 + 1) (by omega)
        by_cases c3 : isS L z r.2.1 60 ∨ isS L z r.2.1 61
        · rw [if_pos c3] at h ⊢
          by_cases c6 : q.1 ≠ 0
          · rw [if_pos c6] at h
            exact absurd h c6
          · rw [if_neg c6] at h ⊢
            have c7 : q.1 = 0 := Decidable.not_not.mp c6
            have i2 := i2 (by omega) (by omega) c7
            refine Pst_join (Nat.le_add_left 1 _) pr (i2.2.1 rfl) (if isS L z r.2.1 60 then -4 else -5) (by split <;> omega) _ ?_ 0 _ _
            intro F
            unfold jn
            by_cases e : isS L z r.2.1 60
            · simp only [if_pos e]
              rfl
            · simp only [if_neg e]
              rfl
        · rw [if_neg c3] at h ⊢
          exact pr
    | 4 =>
      have i1 := pp_post L z f n 3 d a hd ha ha0
      have p1 := pp_pos L z n 3 d a ha0 ha
      have i2 := fun (z0 : (pp L z n 3 d a).2.1 ≤ z) (z1 : 0 ≤ (pp L z n 3 d a).2.1) => pp_post L z f n 5 d (pp L z n 3 d a) hd z0 z1
      rw [pp_4] at h ⊢
      generalize pp L z n 3 d a = r at *
      refine ⟨fun q => absurd q (by decide), fun q => absurd q (by decide), fun q => absurd q (by decide), fun _ => ?_, fun q => absurd q (by decide), fun q => absurd q (by decide)⟩
      by_cases c4 : r.1 ≠ 0
      · rw [if_pos c4] at h
        exact absurd h c4
      · rw [if_neg c4] at h ⊢
        have c5 : r.1 = 0 := Decidable.not_not.mp c4
        have p1 := p1 c5
        exact (i2 p1.2.1 (by omega) h).2.2.2.2.2 (by decide) (((i1 c5).2.2.1 rfl).le (by omega))
    | k + 5 =>
      have i1 := pp_post L z f n 3 d (a0 (tE L z a.2.1)) hd ht.2.2.2.1 (show 0 ≤ tE L z a.2.1 by omega)
      have p1 := pp_pos L z n 3 d (a0 (tE L z a.2.1)) (show 0 ≤ tE L z a.2.1 by omega) ht.2.2.2.1
      have i2 := fun b => pp_post L z f n 5 d b hd
      rw [pp_5] at h ⊢
      generalize pp L z n 3 d (a0 (tE L z a.2.1)) = r at *
      refine ⟨fun q => absurd q (by omega), fun q => absurd q (by omega), fun q => absurd q (by omega), fun q => absurd q (by omega), fun q => absurd q (by omega), fun _ pa => ?_⟩
      by_cases c3 : isW L z a.2.1 1111 ∨ isW L z a.2.1 423
      · rw [if_pos c3] at h ⊢
        by_cases c4 : r.1 ≠ 0
        · rw [if_pos c4] at h
          exact absurd h c4
        · rw [if_neg c4] at h ⊢
          have c5 : r.1 = 0 := Decidable.not_not.mp c4
          have p1 := p1 c5
          have q1 : r.2.1 ≤ z := p1.2.1
          have q2 : 0 ≤ r.2.1 := by have : tE L z a.2.1 ≤ r.2.1 := p1.1; omega
          refine (i2 (fWhole L z a r) q1 q2 h).2.2.2.2.2 (by decide) ?_
          refine Pst_join (Nat.le_add_left 1 _) pa ((i1 c5).2.2.1 rfl) (if isW L z a.2.1 1111 then -2 else -3) (by split <;> omega) _ ?_ 0 _ _
          intro F
          unfold jn
          by_cases e : isW L z a.2.1 1111
          · simp only [if_pos e]
            rfl
          · simp only [if_neg e]
            rfl
      · rw [if_neg c3] at h ⊢
        exact pa
