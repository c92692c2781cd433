/-! the card reader: all lines -/

theorem rdR_len (L : Int → Int) {z p : Int} (h0 : 0 ≤ p) (hz : p ≤ z) (h : (rdR L z p).1 = 0) : ((rdR L z p).2.2.2.1.length : Int) ≤ (rdR L z p).2.1 - p := by
  have i1 := pp_pos L z (8 * (z - p).toNat + 4) 4 0 (a0 p) h0 hz
  have i2 := pp_len L z (8 * (z - p).toNat + 4) 4 0 (a0 p) (by omega) hz h0
  have ea : (a0 p).2.1 = p := rfl
  rw [ea] at i1 i2
  unfold rdR at h ⊢
  generalize pp L z (8 * (z - p).toNat + 4) 4 0 (a0 p) = r at *
  unfold rdF at h ⊢
  by_cases c : r.1 ≠ 0
  · rw [if_pos c] at h
    exact absurd h c
  · rw [if_neg c] at h ⊢
    have c5 : r.1 = 0 := Decidable.not_not.mp c
    have j := (i2 c5).2.2.2.1 rfl
    have i1 := i1 c5
    have ht := tok_in L i1.2.1
    by_cases c2 : isS L z r.2.1 59
    · rw [if_pos c2]
      show (r.2.2.2.1.length : Int) ≤ tE L z r.2.1 - p
      unfold lnSt at j
      omega
    · rw [if_neg c2] at h
      have h : 1 + 16 * kB L z r.2.1 = 0 := h
      omega
theorem lnR_ok (L : Int → Int) {z nl p : Int} (h0 : 0 ≤ p) (hz : p ≤ z) (h : (lnR L z nl p).1 = 0) : (lnR L z nl p).2.2.2 = rdR L z (kB L z (tE L z (tE L z (tE L z (tE L z (tE L z (tE L z p))))))) ∧ (rdR L z (kB L z (tE L z (tE L z (tE L z (tE L z (tE L z (tE L z p)))))))).1 = 0 := by
  have bd : ∀ f q, q ≤ z → 0 ≤ q → (f = 1 ∨ f = 4 ∨ f = 5) → ¬ (bad L z f q).1 = 0 := fun f q q1 q2 hf e => by
    have := kB_in L q1
    have e : f + 16 * kB L z q = 0 := e
    omega
  have t0 := tok_in L hz
  have t1 := tok_in L t0.2.2.2.1
  have t2 := tok_in L t1.2.2.2.1
  have t3 := tok_in L t2.2.2.2.1
  have t4 := tok_in L t3.2.2.2.1
  have t5 := tok_in L t4.2.2.2.1
  unfold lnR at h ⊢
  by_cases c0 : ¬ isW L z p 378004
  · rw [if_pos c0] at h; exact absurd h (bd _ _ (by omega) (by omega) (by omega))
  rw [if_neg c0] at h ⊢
  by_cases c1 : nl = 24
  · rw [if_pos c1] at h; exact absurd h (bd _ _ (by omega) (by omega) (by omega))
  rw [if_neg c1] at h ⊢
  by_cases c2 : ¬ tK L z (tE L z p) = 2
  · rw [if_pos c2] at h; exact absurd h (bd _ _ (by omega) (by omega) (by omega))
  rw [if_neg c2] at h ⊢
  by_cases c3 : 9 < tT L z (tE L z p)
  · rw [if_pos c3] at h; exact absurd h (bd _ _ (by omega) (by omega) (by omega))
  rw [if_neg c3] at h ⊢
  by_cases c4 : ¬ isW L z (tE L z (tE L z p)) 2141894737
  · rw [if_pos c4] at h; exact absurd h (bd _ _ (by omega) (by omega) (by omega))
  rw [if_neg c4] at h ⊢
  by_cases c5 : ¬ tK L z (tE L z (tE L z (tE L z p))) = 2
  · rw [if_pos c5] at h; exact absurd h (bd _ _ (by omega) (by omega) (by omega))
  rw [if_neg c5] at h ⊢
  by_cases c6 : 9 < tT L z (tE L z (tE L z (tE L z p)))
  · rw [if_pos c6] at h; exact absurd h (bd _ _ (by omega) (by omega) (by omega))
  rw [if_neg c6] at h ⊢
  by_cases c7 : ¬ isW L z (tE L z (tE L z (tE L z (tE L z p)))) 4665603421
  · rw [if_pos c7] at h; exact absurd h (bd _ _ (by omega) (by omega) (by omega))
  rw [if_neg c7] at h ⊢
  by_cases c8 : ¬ isW L z (tE L z (tE L z (tE L z (tE L z (tE L z p))))) 458690
  · rw [if_pos c8] at h; exact absurd h (bd _ _ (by omega) (by omega) (by omega))
  rw [if_neg c8] at h ⊢
  exact ⟨rfl, h⟩
theorem ppf_in (L : Int → Int) {z : Int} (hz : z ≤ 1000) : ∀ (n m : Nat) (d : Int) (a : Rs), 0 ≤ a.2.1 → a.2.1 ≤ z → (0 ≤ a.1 ∧ a.1 ≤ 17000) → 0 ≤ (pp L z n m d a).1 ∧ (pp L z n m d a).1 ≤ 17000
  | 0, m, d, a, _, _, _ => by show (0 : Int) ≤ 1 ∧ (1 : Int) ≤ 17000; omega
  | n + 1, m, d, a, h0, h1, hf => by
    have ht := tok_in L h1
    have i0 := fun m' d' => ppf_in L hz n m' d' (a0 (tE L z a.2.1)) (show 0 ≤ tE L z a.2.1 by omega) ht.2.2.2.1 (show (0 : Int) ≤ 0 ∧ (0 : Int) ≤ 17000 by omega)
    have ia := fun m' d' => ppf_in L hz n m' d' a h0 h1 hf
    match m with
    | 0 =>
      rw [pp_0]
      have i1 := i0 4 (d + 1)
      have i2 := i0 0 (d + 1)
      have p1 := pp_pos L z n 4 (d + 1) (a0 (tE L z a.2.1)) (show 0 ≤ tE L z a.2.1 by omega) ht.2.2.2.1
      generalize pp L z n 4 (d + 1) (a0 (tE L z a.2.1)) = r at *
      generalize pp L z n 0 (d + 1) (a0 (tE L z a.2.1)) = q at *
      unfold fPart
      split
      · show 0 ≤ 1 + 16 * kB L z a.2.1 ∧ 1 + 16 * kB L z a.2.1 ≤ 17000; omega
      split
      · show 0 ≤ 5 + 16 * kB L z a.2.1 ∧ 5 + 16 * kB L z a.2.1 ≤ 17000; omega
      split
      · split
        · exact i1
        · rename_i c
          have p1 := p1 (Decidable.not_not.mp c)
          have k1 := kB_in L p1.2.1
          have e : (a0 (tE L z a.2.1)).2.1 = tE L z a.2.1 := rfl
          split
          · show (0 : Int) ≤ 0 ∧ (0 : Int) ≤ 17000; omega
          · show 0 ≤ 1 + 16 * kB L z r.2.1 ∧ 1 + 16 * kB L z r.2.1 ≤ 17000; omega
      split
      · split
        · exact i2
        · show (0 : Int) ≤ 0 ∧ (0 : Int) ≤ 17000; omega
      · show (0 : Int) ≤ 0 ∧ (0 : Int) ≤ 17000; omega
    | 1 =>
      rw [pp_1]
      have p1 := pp_pos L z n 0 d a h0 h1
      have i1 := ia 0 d
      split
      · exact i1
      · rename_i c
        have p1 := p1 (Decidable.not_not.mp c)
        exact ppf_in L hz n 2 d _ (by omega) p1.2.1 i1
    | 2 =>
      rw [pp_2]
      have p1 := pp_pos L z n 0 d (a0 (tE L z a.2.1)) (show 0 ≤ tE L z a.2.1 by omega) ht.2.2.2.1
      have i1 := i0 0 d
      have e : (a0 (tE L z a.2.1)).2.1 = tE L z a.2.1 := rfl
      split
      · split
        · exact i1
        · rename_i c
          have p1 := p1 (Decidable.not_not.mp c)
          exact ppf_in L hz n 2 d (fSum L z a _) (show 0 ≤ _ by show 0 ≤ (pp L z n 0 d (a0 (tE L z a.2.1))).2.1; omega) p1.2.1 (show (0 : Int) ≤ 0 ∧ (0 : Int) ≤ 17000 by omega)
      · exact hf
    | 3 =>
      rw [pp_3]
      have p1 := pp_pos L z n 1 d a h0 h1
      have i1 := ia 1 d
      split
      · exact i1
      · rename_i c
        have p1 := p1 (Decidable.not_not.mp c)
        have h5 := tok_in L p1.2.1
        split
        · have i2 := ppf_in L hz n 1 d (a0 (tE L z (pp L z n 1 d a).2.1)) (show 0 ≤ tE L z (pp L z n 1 d a).2.1 by omega) h5.2.2.2.1 (show (0 : Int) ≤ 0 ∧ (0 : Int) ≤ 17000 by omega)
          split
          · exact i2
          · show (0 : Int) ≤ 0 ∧ (0 : Int) ≤ 17000; omega
        · exact i1
    | 4 =>
      rw [pp_4]
      have p1 := pp_pos L z n 3 d a h0 h1
      have i1 := ia 3 d
      split
      · exact i1
      · rename_i c
        have p1 := p1 (Decidable.not_not.mp c)
        exact ppf_in L hz n 5 d _ (by omega) p1.2.1 i1
    | k + 5 =>
      rw [pp_5]
      have p1 := pp_pos L z n 3 d (a0 (tE L z a.2.1)) (show 0 ≤ tE L z a.2.1 by omega) ht.2.2.2.1
      have i1 := i0 3 d
      have e : (a0 (tE L z a.2.1)).2.1 = tE L z a.2.1 := rfl
      split
      · split
        · exact i1
        · rename_i c
          have p1 := p1 (Decidable.not_not.mp c)
          exact ppf_in L hz n 5 d (fWhole L z a _) (show 0 ≤ _ by show 0 ≤ (pp L z n 3 d (a0 (tE L z a.2.1))).2.1; omega) p1.2.1 (show (0 : Int) ≤ 0 ∧ (0 : Int) ≤ 17000 by omega)
      · exact hf
theorem rdF_in (L : Int → Int) {z p : Int} (hz : z ≤ 1000) (h0 : 0 ≤ p) (h1 : p ≤ z) : 0 ≤ (rdR L z p).1 ∧ (rdR L z p).1 ≤ 17000 := by
  have i1 := ppf_in L hz (8 * (z - p).toNat + 4) 4 0 (a0 p) h0 h1 (show (0 : Int) ≤ 0 ∧ (0 : Int) ≤ 17000 by omega)
  have p1 := pp_pos L z (8 * (z - p).toNat + 4) 4 0 (a0 p) h0 h1
  unfold rdR
  generalize pp L z (8 * (z - p).toNat + 4) 4 0 (a0 p) = r at *
  unfold rdF
  split
  · exact i1
  · rename_i c
    have p1 := p1 (Decidable.not_not.mp c)
    have k1 := kB_in L p1.2.1
    have e : (a0 p).2.1 = p := rfl
    split
    · show (0 : Int) ≤ 0 ∧ (0 : Int) ≤ 17000; omega
    · show 0 ≤ 1 + 16 * kB L z r.2.1 ∧ 1 + 16 * kB L z r.2.1 ≤ 17000; omega
theorem lnF_in (L : Int → Int) {z nl p : Int} (hz : z ≤ 1000) (h0 : 0 ≤ p) (h1 : p ≤ z) : 0 ≤ (lnR L z nl p).1 ∧ (lnR L z nl p).1 ≤ 17000 := by
  have bd : ∀ f q, q ≤ z → 0 ≤ q → (f = 1 ∨ f = 4 ∨ f = 5) → 0 ≤ (bad L z f q).1 ∧ (bad L z f q).1 ≤ 17000 := fun f q q1 q2 hf => by
    have := kB_in L q1
    show 0 ≤ f + 16 * kB L z q ∧ f + 16 * kB L z q ≤ 17000
    omega
  have t0 := tok_in L h1
  have t1 := tok_in L t0.2.2.2.1
  have t2 := tok_in L t1.2.2.2.1
  have t3 := tok_in L t2.2.2.2.1
  have t4 := tok_in L t3.2.2.2.1
  have t5 := tok_in L t4.2.2.2.1
  have t6 := kB_in L t5.2.2.2.1
  have hr := rdF_in L (p := kB L z (tE L z (tE L z (tE L z (tE L z (tE L z (tE L z p))))))) hz (by omega) t6.2
  unfold lnR
  split
  · exact bd _ _ (by omega) (by omega) (by omega)
  split
  · exact bd _ _ (by omega) (by omega) (by omega)
  split
  · exact bd _ _ (by omega) (by omega) (by omega)
  split
  · exact bd _ _ (by omega) (by omega) (by omega)
  split
  · exact bd _ _ (by omega) (by omega) (by omega)
  split
  · exact bd _ _ (by omega) (by omega) (by omega)
  split
  · exact bd _ _ (by omega) (by omega) (by omega)
  split
  · exact bd _ _ (by omega) (by omega) (by omega)
  split
  · exact bd _ _ (by omega) (by omega) (by omega)
  exact hr
theorem cdR_in (L : Int → Int) {z : Int} : ∀ (n : Nat) (nl p : Int), 0 ≤ p → p ≤ z → z ≤ 1000 → 0 ≤ (cdR L z n nl p).1 ∧ (cdR L z n nl p).1 ≤ 17000
  | 0, _, _, _, _, _ => by show (0 : Int) ≤ 1 ∧ (1 : Int) ≤ 17000; omega
  | n + 1, nl, p, h0, hz, hz2 => by
    have i1 := lnF_in L (nl := nl) hz2 h0 hz
    unfold cdR
    split
    · show (0 : Int) ≤ 0 ∧ (0 : Int) ≤ 17000; omega
    split
    · exact i1
    · rename_i c
      have g := lnR_good L h0 hz (Decidable.not_not.mp c)
      have t := tok_in L g.2.2.2
      exact cdR_in L n (nl + 1) _ (by omega) (by omega) hz2
theorem lnR_len (L : Int → Int) {z nl p : Int} (h0 : 0 ≤ p) (hz : p ≤ z) (h : (lnR L z nl p).1 = 0) : ((lnR L z nl p).2.2.2.2.2.2.1.length : Int) ≤ (lnR L z nl p).2.2.2.2.1 - p := by
  have g := lnR_ok L h0 hz h
  have t0 := tok_in L hz
  have t1 := tok_in L t0.2.2.2.1
  have t2 := tok_in L t1.2.2.2.1
  have t3 := tok_in L t2.2.2.2.1
  have t4 := tok_in L t3.2.2.2.1
  have t5 := tok_in L t4.2.2.2.1
  have t6 := kB_in L t5.2.2.2.1
  have r := rdR_len L (by omega) t6.2 g.2
  rw [g.1]
  omega

def sp_X4_readLines : Sp := fun av σ Q => oR av fun this av => av = [] ∧ kd σ this = 5 ∧ (this = 26 ∧ CLay σ ∧ TXT σ ∧ LTT σ ∧ ∃ D : Int, (D = 33 ∨ D = 39) ∧ fR σ 501 26 = D ∧ ((cdR (aI σ 25) (fI σ 901 24) 25 0 (kB (aI σ 25) (fI σ 901 24) 0)).1 ≠ 0 → ∀ σ', RdF D σ σ' → Q (some (vi (cdR (aI σ 25) (fI σ 901 24) 25 0 (kB (aI σ 25) (fI σ 901 24) 0)).1)) σ') ∧ ((cdR (aI σ 25) (fI σ 901 24) 25 0 (kB (aI σ 25) (fI σ 901 24) 0)).1 = 0 → ∀ σ', RdF D σ σ' → DkS σ' D ((cdR (aI σ 25) (fI σ 901 24) 25 0 (kB (aI σ 25) (fI σ 901 24) 0)).2.map fun x => x.2.2.2.2.2.2.1) → (∀ (i : Nat) (x : Ln), (cdR (aI σ 25) (fI σ 901 24) 25 0 (kB (aI σ 25) (fI σ 901 24) 0)).2[i]? = some x → aI σ' (D + 1) i = x.2.1 ∧ aI σ' (D + 2) i = x.2.2.1) → Q (some (vi 0)) σ'))
theorem us_X4_readLines (this : Int) (σ : Hp) (Q : Option AV → Hp → Prop) : sp_X4_readLines [vr this] σ Q = (kd σ this = 5 ∧ (this = 26 ∧ CLay σ ∧ TXT σ ∧ LTT σ ∧ ∃ D : Int, (D = 33 ∨ D = 39) ∧ fR σ 501 26 = D ∧ ((cdR (aI σ 25) (fI σ 901 24) 25 0 (kB (aI σ 25) (fI σ 901 24) 0)).1 ≠ 0 → ∀ σ', RdF D σ σ' → Q (some (vi (cdR (aI σ 25) (fI σ 901 24) 25 0 (kB (aI σ 25) (fI σ 901 24) 0)).1)) σ') ∧ ((cdR (aI σ 25) (fI σ 901 24) 25 0 (kB (aI σ 25) (fI σ 901 24) 0)).1 = 0 → ∀ σ', RdF D σ σ' → DkS σ' D ((cdR (aI σ 25) (fI σ 901 24) 25 0 (kB (aI σ 25) (fI σ 901 24) 0)).2.map fun x => x.2.2.2.2.2.2.1) → (∀ (i : Nat) (x : Ln), (cdR (aI σ 25) (fI σ 901 24) 25 0 (kB (aI σ 25) (fI σ 901 24) 0)).2[i]? = some x → aI σ' (D + 1) i = x.2.1 ∧ aI σ' (D + 2) i = x.2.2.1) → Q (some (vi 0)) σ'))) := propext ⟨fun h => h.2, fun h => ⟨rfl, h⟩⟩
theorem el_X4_readLines {av : List AV} {σ : Hp} {Q : Option AV → Hp → Prop} (h : sp_X4_readLines av σ Q) : ∃ (this : Int), av = [vr this] ∧ (kd σ this = 5 ∧ (this = 26 ∧ CLay σ ∧ TXT σ ∧ LTT σ ∧ ∃ D : Int, (D = 33 ∨ D = 39) ∧ fR σ 501 26 = D ∧ ((cdR (aI σ 25) (fI σ 901 24) 25 0 (kB (aI σ 25) (fI σ 901 24) 0)).1 ≠ 0 → ∀ σ', RdF D σ σ' → Q (some (vi (cdR (aI σ 25) (fI σ 901 24) 25 0 (kB (aI σ 25) (fI σ 901 24) 0)).1)) σ') ∧ ((cdR (aI σ 25) (fI σ 901 24) 25 0 (kB (aI σ 25) (fI σ 901 24) 0)).1 = 0 → ∀ σ', RdF D σ σ' → DkS σ' D ((cdR (aI σ 25) (fI σ 901 24) 25 0 (kB (aI σ 25) (fI σ 901 24) 0)).2.map fun x => x.2.2.2.2.2.2.1) → (∀ (i : Nat) (x : Ln), (cdR (aI σ 25) (fI σ 901 24) 25 0 (kB (aI σ 25) (fI σ 901 24) 0)).2[i]? = some x → aI σ' (D + 1) i = x.2.1 ∧ aI σ' (D + 2) i = x.2.2.1) → Q (some (vi 0)) σ'))) := by
  obtain ⟨this, a0, rfl, h0⟩ := oR_s h
  obtain ⟨rfl, hz⟩ := h0
  exact ⟨this, rfl, hz⟩
theorem rc_X4_readLines : ∀ (av : List AV) (σ : Hp) (Q : Option AV → Hp → Prop), sp_X4_readLines av σ Q → ∃ r tl, av = vr r :: tl ∧ kd σ r = 4 + 1 := fun av σ Q h => by
  obtain ⟨this, rfl, hz, -⟩ := el_X4_readLines h
  exact ⟨this, _, rfl, hz⟩

def tb_X4_readLines : Tab := [(0, .aload_n 0, 1, (0, 0, 0, 0)), (1, .getfield 21, 3, (5, 501, 2, 0)), (4, .invokevirtual 44, 3, (0, 0, 0, 0)), (7, .aload_n 0, 1, (0, 0, 0, 0)), (8, .iconst 0, 1, (0, 0, 0, 0)), (9, .putfield 32, 3, (5, 504, 0, 0)), (12, .aload_n 0, 1, (0, 0, 0, 0)), (13, .iconst 0, 1, (0, 0, 0, 0)), (14, .putfield 41, 3, (5, 507, 0, 0)), (17, .aload_n 0, 1, (0, 0, 0, 0)), (18, .invokevirtual 47, 3, (0, 0, 0, 0)), (21, .iconst 0, 1, (0, 0, 0, 0)), (22, .istore_n 1, 1, (0, 0, 0, 0)), (23, .iload_n 1, 1, (0, 0, 0, 0)), (24, .bipush 24, 2, (0, 0, 0, 0)), (26, .if_icmp .gt 29, 3, (0, 0, 0, 0)), (29, .aload_n 0, 1, (0, 0, 0, 0)), (30, .getfield 25, 3, (5, 502, 0, 0)), (33, .ifCond .eq 22, 3, (0, 0, 0, 0)), (36, .aload_n 0, 1, (0, 0, 0, 0)), (37, .getfield 41, 3, (5, 507, 0, 0)), (40, .ifCond .ne 15, 3, (0, 0, 0, 0)), (43, .aload_n 0, 1, (0, 0, 0, 0)), (44, .iload_n 1, 1, (0, 0, 0, 0)), (45, .invokevirtual 50, 3, (0, 0, 0, 0)), (48, .pop, 1, (0, 0, 0, 0)), (49, .iinc 1 1, 3, (0, 0, 0, 0)), (52, .goto (-29), 3, (0, 0, 0, 0)), (55, .aload_n 0, 1, (0, 0, 0, 0)), (56, .getfield 41, 3, (5, 507, 0, 0)), (59, .ireturn, 1, (0, 0, 0, 0))]
set_option maxRecDepth 100000 in
theorem tk_X4_readLines : TOK RX4 false cX4_readLines tb_X4_readLines := chkT_ok ft_X4 (by decide +kernel)
theorem rw_X4_352 : Row RX4 (.invokevirtual 44) 3 1 0 0 1 sp_X7_clearLines := row_V (n := 0) (ci := 7) c_X7_clearLines ⟨TBL_in 913 (by decide +kernel) rfl, TBL_in 916 (by decide +kernel) rfl, TBL_in 120 (by decide +kernel) rfl, by decide +kernel, by decide⟩ (by decide) rfl (TBL_in 914 (by decide +kernel) rfl) (TBL_in 915 (by decide +kernel) rfl) rc_X7_clearLines
theorem rw_X4_400 : Row RX4 (.invokevirtual 50) 3 2 0 0 40 sp_X4_readLine := row_V (n := 1) (ci := 4) c_X4_readLine ⟨TBL_in 1028 (by decide +kernel) rfl, TBL_in 1031 (by decide +kernel) rfl, TBL_in 118 (by decide +kernel) rfl, by decide +kernel, by decide⟩ (by decide) rfl (TBL_in 1030 (by decide +kernel) rfl) (TBL_in 31 (by decide +kernel) rfl) rc_X4_readLine
def mt_X4_readLines : List (Nat × Mt) := [(352, 1, 0, 0, 1, sp_X7_clearLines), (376, 1, 0, 0, 6, sp_X4_nextToken), (400, 2, 0, 0, 40, sp_X4_readLine)]
theorem em_X4_readLines : mt_X4_readLines.lookup 352 = some (1, 0, 0, 1, sp_X7_clearLines) ∧ mt_X4_readLines.lookup 376 = some (1, 0, 0, 6, sp_X4_nextToken) ∧ mt_X4_readLines.lookup 400 = some (2, 0, 0, 40, sp_X4_readLine) := ⟨rfl, rfl, rfl⟩
theorem mk_X4_readLines : MOK RX4 mt_X4_readLines := by
  intro q hq
  simp only [mt_X4_readLines, List.mem_cons, List.not_mem_nil, or_false] at hq
  rcases hq with rfl | rfl | rfl
  · exact rw_X4_352
  · exact rw_X4_376
  · exact rw_X4_400
noncomputable def xe_X4_readLines (ct : Nat → Bool) (K : Kt) (R : Option AV → Hp → Prop) (n : Nat) : Kt := exS 2 41 0 0 1 tb_X4_readLines mt_X4_readLines ct K R n
noncomputable def xk_X4_readLines (ct : Nat → Bool) (K : Kt) (R : Option AV → Hp → Prop) (n : Nat) : Kt := exkS 2 41 0 0 1 tb_X4_readLines mt_X4_readLines ct K R n
theorem xt_X4_readLines {ct : Nat → Bool} {K : Kt} {R : Option AV → Hp → Prop} {n pc : Nat} {ls : List (Option AV)} {st : List AV} {σ : Hp} {k : Nat × Nat} (h : ct pc = true) : xk_X4_readLines ct K R n pc ls st σ k = K pc ls st σ k := by unfold xk_X4_readLines exkS; rw [h]
theorem xf_X4_readLines {ct : Nat → Bool} {K : Kt} {R : Option AV → Hp → Prop} {n pc : Nat} {ls : List (Option AV)} {st : List AV} {σ : Hp} {k : Nat × Nat} (h : ct pc = false) : xk_X4_readLines ct K R n pc ls st σ k = xe_X4_readLines ct K R n pc ls st σ k := by unfold xk_X4_readLines exkS xe_X4_readLines; rw [h]
theorem ev_X4_readLines_0 {ct : Nat → Bool} {K : Kt} {R : Option AV → Hp → Prop} {n : Nat} {ls : List (Option AV)} {st : List AV} {σ : Hp} {k : Nat × Nat} : xe_X4_readLines ct K R (n + 1) 0 ls st σ k = (lR ls 0 fun x => xk_X4_readLines ct K R n 1 ls (vr x :: st) σ k) := exS_step.trans rfl
theorem ev_X4_readLines_1 {ct : Nat → Bool} {K : Kt} {R : Option AV → Hp → Prop} {n : Nat} {ls : List (Option AV)} {st : List AV} {σ : Hp} {k : Nat × Nat} : xe_X4_readLines ct K R (n + 1) 1 ls st σ k = (oR st fun x st => kd σ x = 5 ∧ xk_X4_readLines ct K R n 4 ls (vr (fR σ 501 x) :: st) σ k) := exS_step.trans rfl
theorem ev_X4_readLines_4 {ct : Nat → Bool} {K : Kt} {R : Option AV → Hp → Prop} {n : Nat} {ls : List (Option AV)} {st : List AV} {σ : Hp} {k : Nat × Nat} : xe_X4_readLines ct K R (n + 1) 4 ls st σ k = (popN 1 st [] fun av rest => (catS rest ≤ 8 ∧ 1 < 41 ∧ k.1 + 0 ≤ 0 ∧ k.2 + 0 ≤ 0) ∧ (sp_X7_clearLines) av σ fun v σ' => xk_X4_readLines ct K R n 7 ls (v.toList ++ rest) σ' (k.1 + 0, k.2 + 0)) := exS_step.trans rfl
theorem ev_X4_readLines_7 {ct : Nat → Bool} {K : Kt} {R : Option AV → Hp → Prop} {n : Nat} {ls : List (Option AV)} {st : List AV} {σ : Hp} {k : Nat × Nat} : xe_X4_readLines ct K R (n + 1) 7 ls st σ k = (lR ls 0 fun x => xk_X4_readLines ct K R n 8 ls (vr x :: st) σ k) := exS_step.trans rfl
theorem ev_X4_readLines_8 {ct : Nat → Bool} {K : Kt} {R : Option AV → Hp → Prop} {n : Nat} {ls : List (Option AV)} {st : List AV} {σ : Hp} {k : Nat × Nat} : xe_X4_readLines ct K R (n + 1) 8 ls st σ k = (xk_X4_readLines ct K R n 9 ls (vi (0) :: st) σ k) := exS_step.trans rfl
theorem ev_X4_readLines_9 {ct : Nat → Bool} {K : Kt} {R : Option AV → Hp → Prop} {n : Nat} {ls : List (Option AV)} {st : List AV} {σ : Hp} {k : Nat × Nat} : xe_X4_readLines ct K R (n + 1) 9 ls st σ k = (oI st fun v st => oR st fun x st => kd σ x = 5 ∧ xk_X4_readLines ct K R n 12 ls st (pI σ 504 x v) k) := exS_step.trans rfl
theorem ev_X4_readLines_12 {ct : Nat → Bool} {K : Kt} {R : Option AV → Hp → Prop} {n : Nat} {ls : List (Option AV)} {st : List AV} {σ : Hp} {k : Nat × Nat} : xe_X4_readLines ct K R (n + 1) 12 ls st σ k = (lR ls 0 fun x => xk_X4_readLines ct K R n 13 ls (vr x :: st) σ k) := exS_step.trans rfl
theorem ev_X4_readLines_13 {ct : Nat → Bool} {K : Kt} {R : Option AV → Hp → Prop} {n : Nat} {ls : List (Option AV)} {st : List AV} {σ : Hp} {k : Nat × Nat} : xe_X4_readLines ct K R (n + 1) 13 ls st σ k = (xk_X4_readLines ct K R n 14 ls (vi (0) :: st) σ k) := exS_step.trans rfl
theorem ev_X4_readLines_14 {ct : Nat → Bool} {K : Kt} {R : Option AV → Hp → Prop} {n : Nat} {ls : List (Option AV)} {st : List AV} {σ : Hp} {k : Nat × Nat} : xe_X4_readLines ct K R (n + 1) 14 ls st σ k = (oI st fun v st => oR st fun x st => kd σ x = 5 ∧ xk_X4_readLines ct K R n 17 ls st (pI σ 507 x v) k) := exS_step.trans rfl
theorem ev_X4_readLines_17 {ct : Nat → Bool} {K : Kt} {R : Option AV → Hp → Prop} {n : Nat} {ls : List (Option AV)} {st : List AV} {σ : Hp} {k : Nat × Nat} : xe_X4_readLines ct K R (n + 1) 17 ls st σ k = (lR ls 0 fun x => xk_X4_readLines ct K R n 18 ls (vr x :: st) σ k) := exS_step.trans rfl
theorem ev_X4_readLines_18 {ct : Nat → Bool} {K : Kt} {R : Option AV → Hp → Prop} {n : Nat} {ls : List (Option AV)} {st : List AV} {σ : Hp} {k : Nat × Nat} : xe_X4_readLines ct K R (n + 1) 18 ls st σ k = (popN 1 st [] fun av rest => (catS rest ≤ 8 ∧ 6 < 41 ∧ k.1 + 0 ≤ 0 ∧ k.2 + 0 ≤ 0) ∧ (sp_X4_nextToken) av σ fun v σ' => xk_X4_readLines ct K R n 21 ls (v.toList ++ rest) σ' (k.1 + 0, k.2 + 0)) := exS_step.trans rfl
theorem ev_X4_readLines_21 {ct : Nat → Bool} {K : Kt} {R : Option AV → Hp → Prop} {n : Nat} {ls : List (Option AV)} {st : List AV} {σ : Hp} {k : Nat × Nat} : xe_X4_readLines ct K R (n + 1) 21 ls st σ k = (xk_X4_readLines ct K R n 22 ls (vi (0) :: st) σ k) := exS_step.trans rfl
theorem ev_X4_readLines_22 {ct : Nat → Bool} {K : Kt} {R : Option AV → Hp → Prop} {n : Nat} {ls : List (Option AV)} {st : List AV} {σ : Hp} {k : Nat × Nat} : xe_X4_readLines ct K R (n + 1) 22 ls st σ k = (oI st fun x st => 1 < 2 ∧ xk_X4_readLines ct K R n 23 (stL ls 1 (vi x)) st σ k) := exS_step.trans rfl
theorem ev_X4_readLines_23 {ct : Nat → Bool} {K : Kt} {R : Option AV → Hp → Prop} {n : Nat} {ls : List (Option AV)} {st : List AV} {σ : Hp} {k : Nat × Nat} : xe_X4_readLines ct K R (n + 1) 23 ls st σ k = (lI ls 1 fun x => xk_X4_readLines ct K R n 24 ls (vi x :: st) σ k) := exS_step.trans rfl
theorem ev_X4_readLines_24 {ct : Nat → Bool} {K : Kt} {R : Option AV → Hp → Prop} {n : Nat} {ls : List (Option AV)} {st : List AV} {σ : Hp} {k : Nat × Nat} : xe_X4_readLines ct K R (n + 1) 24 ls st σ k = (xk_X4_readLines ct K R n 26 ls (vi (24) :: st) σ k) := exS_step.trans rfl
theorem ev_X4_readLines_26 {ct : Nat → Bool} {K : Kt} {R : Option AV → Hp → Prop} {n : Nat} {ls : List (Option AV)} {st : List AV} {σ : Hp} {k : Nat × Nat} : xe_X4_readLines ct K R (n + 1) 26 ls st σ k = (oI st fun y st => oI st fun x st => (wI y < wI x → xk_X4_readLines ct K R n 55 ls st σ k) ∧ (¬ (wI y < wI x) → xk_X4_readLines ct K R n 29 ls st σ k)) := exS_step.trans rfl
theorem ev_X4_readLines_29 {ct : Nat → Bool} {K : Kt} {R : Option AV → Hp → Prop} {n : Nat} {ls : List (Option AV)} {st : List AV} {σ : Hp} {k : Nat × Nat} : xe_X4_readLines ct K R (n + 1) 29 ls st σ k = (lR ls 0 fun x => xk_X4_readLines ct K R n 30 ls (vr x :: st) σ k) := exS_step.trans rfl
theorem ev_X4_readLines_30 {ct : Nat → Bool} {K : Kt} {R : Option AV → Hp → Prop} {n : Nat} {ls : List (Option AV)} {st : List AV} {σ : Hp} {k : Nat × Nat} : xe_X4_readLines ct K R (n + 1) 30 ls st σ k = (oR st fun x st => kd σ x = 5 ∧ xk_X4_readLines ct K R n 33 ls (vi (fI σ 502 x) :: st) σ k) := exS_step.trans rfl
theorem ev_X4_readLines_33 {ct : Nat → Bool} {K : Kt} {R : Option AV → Hp → Prop} {n : Nat} {ls : List (Option AV)} {st : List AV} {σ : Hp} {k : Nat × Nat} : xe_X4_readLines ct K R (n + 1) 33 ls st σ k = (oI st fun x st => (wI x = wI 0 → xk_X4_readLines ct K R n 55 ls st σ k) ∧ (¬ (wI x = wI 0) → xk_X4_readLines ct K R n 36 ls st σ k)) := exS_step.trans rfl
theorem ev_X4_readLines_36 {ct : Nat → Bool} {K : Kt} {R : Option AV → Hp → Prop} {n : Nat} {ls : List (Option AV)} {st : List AV} {σ : Hp} {k : Nat × Nat} : xe_X4_readLines ct K R (n + 1) 36 ls st σ k = (lR ls 0 fun x => xk_X4_readLines ct K R n 37 ls (vr x :: st) σ k) := exS_step.trans rfl
theorem ev_X4_readLines_37 {ct : Nat → Bool} {K : Kt} {R : Option AV → Hp → Prop} {n : Nat} {ls : List (Option AV)} {st : List AV} {σ : Hp} {k : Nat × Nat} : xe_X4_readLines ct K R (n + 1) 37 ls st σ k = (oR st fun x st => kd σ x = 5 ∧ xk_X4_readLines ct K R n 40 ls (vi (fI σ 507 x) :: st) σ k) := exS_step.trans rfl
theorem ev_X4_readLines_40 {ct : Nat → Bool} {K : Kt} {R : Option AV → Hp → Prop} {n : Nat} {ls : List (Option AV)} {st : List AV} {σ : Hp} {k : Nat × Nat} : xe_X4_readLines ct K R (n + 1) 40 ls st σ k = (oI st fun x st => (¬ wI x = wI 0 → xk_X4_readLines ct K R n 55 ls st σ k) ∧ (¬ (¬ wI x = wI 0) → xk_X4_readLines ct K R n 43 ls st σ k)) := exS_step.trans rfl
theorem ev_X4_readLines_43 {ct : Nat → Bool} {K : Kt} {R : Option AV → Hp → Prop} {n : Nat} {ls : List (Option AV)} {st : List AV} {σ : Hp} {k : Nat × Nat} : xe_X4_readLines ct K R (n + 1) 43 ls st σ k = (lR ls 0 fun x => xk_X4_readLines ct K R n 44 ls (vr x :: st) σ k) := exS_step.trans rfl
theorem ev_X4_readLines_44 {ct : Nat → Bool} {K : Kt} {R : Option AV → Hp → Prop} {n : Nat} {ls : List (Option AV)} {st : List AV} {σ : Hp} {k : Nat × Nat} : xe_X4_readLines ct K R (n + 1) 44 ls st σ k = (lI ls 1 fun x => xk_X4_readLines ct K R n 45 ls (vi x :: st) σ k) := exS_step.trans rfl
theorem ev_X4_readLines_45 {ct : Nat → Bool} {K : Kt} {R : Option AV → Hp → Prop} {n : Nat} {ls : List (Option AV)} {st : List AV} {σ : Hp} {k : Nat × Nat} : xe_X4_readLines ct K R (n + 1) 45 ls st σ k = (popN 2 st [] fun av rest => (catS rest ≤ 8 ∧ 40 < 41 ∧ k.1 + 0 ≤ 0 ∧ k.2 + 0 ≤ 0) ∧ (sp_X4_readLine) av σ fun v σ' => xk_X4_readLines ct K R n 48 ls (v.toList ++ rest) σ' (k.1 + 0, k.2 + 0)) := exS_step.trans rfl
theorem ev_X4_readLines_48 {ct : Nat → Bool} {K : Kt} {R : Option AV → Hp → Prop} {n : Nat} {ls : List (Option AV)} {st : List AV} {σ : Hp} {k : Nat × Nat} : xe_X4_readLines ct K R (n + 1) 48 ls st σ k = (o1 st fun _ st => xk_X4_readLines ct K R n 49 ls st σ k) := exS_step.trans rfl
theorem ev_X4_readLines_49 {ct : Nat → Bool} {K : Kt} {R : Option AV → Hp → Prop} {n : Nat} {ls : List (Option AV)} {st : List AV} {σ : Hp} {k : Nat × Nat} : xe_X4_readLines ct K R (n + 1) 49 ls st σ k = (lI ls 1 fun x => 1 < 2 ∧ xk_X4_readLines ct K R n 52 (stL ls 1 (vi (x + (1)))) st σ k) := exS_step.trans rfl
theorem ev_X4_readLines_52 {ct : Nat → Bool} {K : Kt} {R : Option AV → Hp → Prop} {n : Nat} {ls : List (Option AV)} {st : List AV} {σ : Hp} {k : Nat × Nat} : xe_X4_readLines ct K R (n + 1) 52 ls st σ k = (xk_X4_readLines ct K R n 23 ls st σ k) := exS_step.trans rfl
theorem ev_X4_readLines_55 {ct : Nat → Bool} {K : Kt} {R : Option AV → Hp → Prop} {n : Nat} {ls : List (Option AV)} {st : List AV} {σ : Hp} {k : Nat × Nat} : xe_X4_readLines ct K R (n + 1) 55 ls st σ k = (lR ls 0 fun x => xk_X4_readLines ct K R n 56 ls (vr x :: st) σ k) := exS_step.trans rfl
theorem ev_X4_readLines_56 {ct : Nat → Bool} {K : Kt} {R : Option AV → Hp → Prop} {n : Nat} {ls : List (Option AV)} {st : List AV} {σ : Hp} {k : Nat × Nat} : xe_X4_readLines ct K R (n + 1) 56 ls st σ k = (oR st fun x st => kd σ x = 5 ∧ xk_X4_readLines ct K R n 59 ls (vi (fI σ 507 x) :: st) σ k) := exS_step.trans rfl
theorem ev_X4_readLines_59 {ct : Nat → Bool} {K : Kt} {R : Option AV → Hp → Prop} {n : Nat} {ls : List (Option AV)} {st : List AV} {σ : Hp} {k : Nat × Nat} : xe_X4_readLines ct K R (n + 1) 59 ls st σ k = (oI st fun x st => st = [] ∧ True ∧ R (some (vi x)) σ) := exS_step.trans rfl
def M_X4_readLines : Md := (yX4_readLines, cX4_readLines, 2, (some FieldType.int), 41, 0, 0, 1, false, tb_X4_readLines, mt_X4_readLines)
theorem mm_X4_readLines : MMOK M_X4_readLines := ⟨by decide +kernel, tk_X4_readLines, mk_X4_readLines, rfl, fun h => by cases h⟩
theorem go_X4_readLines {Q : Option AV → Hp → Prop} {ct : Nat → Bool} {pc : Nat} {ls : List (Option AV)} {st : List AV} {σ : Hp} {k : Nat × Nat} (n : Nat) (h : xe_X4_readLines ct (Go M_X4_readLines Q) Q n pc ls st σ k) : Go M_X4_readLines Q pc ls st σ k := Go.exS mm_X4_readLines h

set_option maxRecDepth 20000 in
theorem rls_55 {Q : Option AV → Hp → Prop} {f l : Int} {σ : Hp} (hk : kd σ 26 = 5) (e : fI σ 507 26 = f) (h : Q (some (vi f)) σ) : Go M_X4_readLines Q 55 [some (vr 26), some (vi l)] [] σ (0, 0) := by
  refine go_X4_readLines (ct := fun p => p == 99) 10 ?_
  simp only [oI, oL, oR, o1, lI, lL, lR, popN, catS, gv, stL, stL2, swt, cnd, spObj, List.getElem?_cons_zero, List.getElem?_cons_succ, List.getD_cons_zero, List.getD_cons_succ, List.set_cons_zero, List.set_cons_succ, List.nil_append, List.cons_append, Option.toList, Bool.or_false, Bool.false_or, Bool.or_true, Bool.true_or, Nat.reduceBEq, Nat.reduceAdd, Nat.reduceLT, Nat.reduceLeDiff, Int.reduceAdd, Int.reduceToNat, true_and, and_true, Fin.isValue, Fin.val_zero, Fin.val_one, Fin.val_two, Fin.reduceFinMk, eq_self, Int.reduceNeg, imp_self, Nat.reduceMul, Nat.le_refl, not_true_eq_false, not_false_eq_true, List.getElem?_nil, reduceCtorEq, true_or, or_true, Classical.not_not, implies_true, or_self, wI_0, wI_1, wI_m1, b2i_w, b2i_eq0, b2i_eq1, b2i_bool, nor_self, nx_pI, kd_pI, ln_pI, fI_pI, fL_pI, fR_pI, aI_pI, aL_pI, aR_pI, nx_pL, kd_pL, ln_pL, fI_pL, fL_pL, fR_pL, aI_pL, aL_pL, aR_pL, nx_pR, kd_pR, ln_pR, fI_pR, fL_pR, fR_pR, aI_pR, aL_pR, aR_pR, nx_qI, kd_qI, ln_qI, fI_qI, fL_qI, fR_qI, aI_qI, aL_qI, aR_qI, nx_qL, kd_qL, ln_qL, fI_qL, fL_qL, fR_qL, aI_qL, aL_qL, aR_qL, nx_qR, kd_qR, ln_qR, fI_qR, fL_qR, fR_qR, aI_qR, aL_qR, aR_qR, nx_mk, kd_mk, ln_mk, fI_mk, fL_mk, fR_mk, aI_mk, aL_mk, aR_mk, false_and, and_false, if_false, if_true, and_self, Int.reduceEq, Nat.reduceEqDiff, ite_self, MLay_pI, MLay_pL, MLay_qI, MLay_qL, ev_X4_readLines_55, ev_X4_readLines_56, ev_X4_readLines_59, xt_X4_readLines, xf_X4_readLines, us_X7_clearLines, us_X4_nextToken, us_X4_readLine, hk, e]
  repeat' (first | intro z | apply And.intro)
  all_goals try omega
  all_goals try contradiction
  all_goals exact h

set_option maxRecDepth 20000 in
theorem rls_no {Q : Option AV → Hp → Prop} {f l : Int} {σ : Hp} (hk : kd σ 26 = 5) (e : fI σ 507 26 = f) (hf : 0 < f ∧ f ≤ 17000) (h : Q (some (vi f)) σ) : Go M_X4_readLines Q 23 [some (vr 26), some (vi l)] [] σ (0, 0) := by
  have w := rls_55 (l := l) hk e h
  have e2 : 0 < fI σ 507 26 ∧ fI σ 507 26 ≤ 17000 := by rw [e]; exact hf
  clear e hf h
  refine go_X4_readLines (ct := fun p => p == 55 || p == 43) 20 ?_
  simp only [oI, oL, oR, o1, lI, lL, lR, popN, catS, gv, stL, stL2, swt, cnd, spObj, List.getElem?_cons_zero, List.getElem?_cons_succ, List.getD_cons_zero, List.getD_cons_succ, List.set_cons_zero, List.set_cons_succ, List.nil_append, List.cons_append, Option.toList, Bool.or_false, Bool.false_or, Bool.or_true, Bool.true_or, Nat.reduceBEq, Nat.reduceAdd, Nat.reduceLT, Nat.reduceLeDiff, Int.reduceAdd, Int.reduceToNat, true_and, and_true, Fin.isValue, Fin.val_zero, Fin.val_one, Fin.val_two, Fin.reduceFinMk, eq_self, Int.reduceNeg, imp_self, Nat.reduceMul, Nat.le_refl, not_true_eq_false, not_false_eq_true, List.getElem?_nil, reduceCtorEq, true_or, or_true, Classical.not_not, implies_true, or_self, wI_0, wI_1, wI_m1, b2i_w, b2i_eq0, b2i_eq1, b2i_bool, nor_self, nx_pI, kd_pI, ln_pI, fI_pI, fL_pI, fR_pI, aI_pI, aL_pI, aR_pI, nx_pL, kd_pL, ln_pL, fI_pL, fL_pL, fR_pL, aI_pL, aL_pL, aR_pL, nx_pR, kd_pR, ln_pR, fI_pR, fL_pR, fR_pR, aI_pR, aL_pR, aR_pR, nx_qI, kd_qI, ln_qI, fI_qI, fL_qI, fR_qI, aI_qI, aL_qI, aR_qI, nx_qL, kd_qL, ln_qL, fI_qL, fL_qL, fR_qL, aI_qL, aL_qL, aR_qL, nx_qR, kd_qR, ln_qR, fI_qR, fL_qR, fR_qR, aI_qR, aL_qR, aR_qR, nx_mk, kd_mk, ln_mk, fI_mk, fL_mk, fR_mk, aI_mk, aL_mk, aR_mk, false_and, and_false, if_false, if_true, and_self, Int.reduceEq, Nat.reduceEqDiff, ite_self, MLay_pI, MLay_pL, MLay_qI, MLay_qL, ev_X4_readLines_23, ev_X4_readLines_24, ev_X4_readLines_26, ev_X4_readLines_29, ev_X4_readLines_30, ev_X4_readLines_33, ev_X4_readLines_36, ev_X4_readLines_37, ev_X4_readLines_40, xt_X4_readLines, xf_X4_readLines, us_X7_clearLines, us_X4_nextToken, us_X4_readLine, hk]
  try simp (disch := omega) only [wI_id, dv_nn, rm_nn]
  repeat' (first | intro z | apply And.intro)
  all_goals try omega
  all_goals try contradiction
  all_goals exact w

set_option maxRecDepth 20000 in
theorem rls_23 {Q : Option AV → Hp → Prop} {z D : Int} {L : Int → Int} : ∀ (n : Nat) (pre : List Ln) (p : Int) (σ : Hp), pre.length + n = 25 → RdL L z D (pre.map fun x => x.2.2.2.2.2.2.1) σ → RD σ p → ((pre.map fun x => x.2.2.2.2.2.2.1).flatten.length : Int) ≤ p → (∀ (i : Nat) (x : Ln), pre[i]? = some x → aI σ (D + 1) i = x.2.1 ∧ aI σ (D + 2) i = x.2.2.1) → ((cdR L z n pre.length p).1 ≠ 0 → ∀ σ', RdF D σ σ' → Q (some (vi (cdR L z n pre.length p).1)) σ') → ((cdR L z n pre.length p).1 = 0 → ∀ σ', RdF D σ σ' → RdL L z D ((pre ++ (cdR L z n pre.length p).2).map fun x => x.2.2.2.2.2.2.1) σ' → (∀ (i : Nat) (x : Ln), (pre ++ (cdR L z n pre.length p).2)[i]? = some x → aI σ' (D + 1) i = x.2.1 ∧ aI σ' (D + 2) i = x.2.2.1) → Q (some (vi 0)) σ') → 1 ≤ n → Go M_X4_readLines Q 23 [some (vr 26), some (vi pre.length)] [] σ (0, 0)
  | 0, pre, p, σ, hn, hL, hR, hf, he, h0, h1, hn1 => by omega
  | n + 1, pre, p, σ, hn, hL, hR, hf, he, h0, h1, hn1 => by
    obtain ⟨hk, hC, hX, hG, hT, eL, ez, hD, hO, hkD, hp, hz, r1, r2, r3⟩ := hL.fx hR
    have hf0 : fI σ 507 26 = 0 := hL.2.2.2.2.2.2.2.2
    have htk := km_in L z p
    have hl24 : (0 : Int) ≤ pre.length ∧ (pre.length : Int) ≤ 24 := by omega
    unfold cdR at h0 h1
    have yr : RdF D σ σ := ⟨Fz.rf σ, fun _ _ => rfl⟩
    by_cases c : tK L z p = 0
    · rw [if_pos c] at h1
      have h := h1 rfl σ yr (by rw [List.append_nil]; exact hL) (by rw [List.append_nil]; exact he)
      have k0 : fI σ 502 26 = 0 := by rw [r3, c]; rfl
      have w55 := rls_55 (l := (pre.length : Int)) hk hf0 h
      clear h0 h1 hL hR hX hT hG hC he h
      refine go_X4_readLines (ct := fun p => p == 55 || p == 36) 20 ?_
      simp only [oI, oL, oR, o1, lI, lL, lR, popN, catS, gv, stL, stL2, swt, cnd, spObj, List.getElem?_cons_zero, List.getElem?_cons_succ, List.getD_cons_zero, List.getD_cons_succ, List.set_cons_zero, List.set_cons_succ, List.nil_append, List.cons_append, Option.toList, Bool.or_false, Bool.false_or, Bool.or_true, Bool.true_or, Nat.reduceBEq, Nat.reduceAdd, Nat.reduceLT, Nat.reduceLeDiff, Int.reduceAdd, Int.reduceToNat, true_and, and_true, Fin.isValue, Fin.val_zero, Fin.val_one, Fin.val_two, Fin.reduceFinMk, eq_self, Int.reduceNeg, imp_self, Nat.reduceMul, Nat.le_refl, not_true_eq_false, not_false_eq_true, List.getElem?_nil, reduceCtorEq, true_or, or_true, Classical.not_not, implies_true, or_self, wI_0, wI_1, wI_m1, b2i_w, b2i_eq0, b2i_eq1, b2i_bool, nor_self, nx_pI, kd_pI, ln_pI, fI_pI, fL_pI, fR_pI, aI_pI, aL_pI, aR_pI, nx_pL, kd_pL, ln_pL, fI_pL, fL_pL, fR_pL, aI_pL, aL_pL, aR_pL, nx_pR, kd_pR, ln_pR, fI_pR, fL_pR, fR_pR, aI_pR, aL_pR, aR_pR, nx_qI, kd_qI, ln_qI, fI_qI, fL_qI, fR_qI, aI_qI, aL_qI, aR_qI, nx_qL, kd_qL, ln_qL, fI_qL, fL_qL, fR_qL, aI_qL, aL_qL, aR_qL, nx_qR, kd_qR, ln_qR, fI_qR, fL_qR, fR_qR, aI_qR, aL_qR, aR_qR, nx_mk, kd_mk, ln_mk, fI_mk, fL_mk, fR_mk, aI_mk, aL_mk, aR_mk, false_and, and_false, if_false, if_true, and_self, Int.reduceEq, Nat.reduceEqDiff, ite_self, MLay_pI, MLay_pL, MLay_qI, MLay_qL, ev_X4_readLines_23, ev_X4_readLines_24, ev_X4_readLines_26, ev_X4_readLines_29, ev_X4_readLines_30, ev_X4_readLines_33, xt_X4_readLines, xf_X4_readLines, us_X7_clearLines, us_X4_nextToken, us_X4_readLine, hk, k0]
      try simp (disch := omega) only [wI_id, dv_nn, rm_nn]
      repeat' (first | intro z | apply And.intro)
      all_goals try omega
      all_goals try contradiction
      all_goals exact w55
    · rw [if_neg c] at h0 h1
      have k0 : ¬ fI σ 502 26 = 0 ∧ 0 ≤ fI σ 502 26 ∧ fI σ 502 26 ≤ 4 := by rw [r3]; omega
      have w48a : (lnR L z pre.length p).1 ≠ 0 → ∀ σ', RdF D σ σ' → fI σ' 507 26 = (lnR L z pre.length p).1 → Go M_X4_readLines Q 48 [some (vr 26), some (vi pre.length)] [vi 0] σ' (0, 0) := fun q σ' y1 y2 => by
        rw [if_pos q] at h0
        have hfl := lnF_in L (nl := (pre.length : Int)) hz.2 hp.1 hp.2
        have w := rls_no (l := (pre.length : Int) + 1) (by rw [y1.1.kd]; exact hk) y2 (by omega) (h0 q σ' y1)
        clear h0 h1 hL hR hX hT hG hC he
        refine go_X4_readLines (ct := fun p => p == 23) 20 ?_
        simp only [oI, oL, oR, o1, lI, lL, lR, popN, catS, gv, stL, stL2, swt, cnd, spObj, List.getElem?_cons_zero, List.getElem?_cons_succ, List.getD_cons_zero, List.getD_cons_succ, List.set_cons_zero, List.set_cons_succ, List.nil_append, List.cons_append, Option.toList, Bool.or_false, Bool.false_or, Bool.or_true, Bool.true_or, Nat.reduceBEq, Nat.reduceAdd, Nat.reduceLT, Nat.reduceLeDiff, Int.reduceAdd, Int.reduceToNat, true_and, and_true, Fin.isValue, Fin.val_zero, Fin.val_one, Fin.val_two, Fin.reduceFinMk, eq_self, Int.reduceNeg, imp_self, Nat.reduceMul, Nat.le_refl, not_true_eq_false, not_false_eq_true, List.getElem?_nil, reduceCtorEq, true_or, or_true, Classical.not_not, implies_true, or_self, wI_0, wI_1, wI_m1, b2i_w, b2i_eq0, b2i_eq1, b2i_bool, nor_self, nx_pI, kd_pI, ln_pI, fI_pI, fL_pI, fR_pI, aI_pI, aL_pI, aR_pI, nx_pL, kd_pL, ln_pL, fI_pL, fL_pL, fR_pL, aI_pL, aL_pL, aR_pL, nx_pR, kd_pR, ln_pR, fI_pR, fL_pR, fR_pR, aI_pR, aL_pR, aR_pR, nx_qI, kd_qI, ln_qI, fI_qI, fL_qI, fR_qI, aI_qI, aL_qI, aR_qI, nx_qL, kd_qL, ln_qL, fI_qL, fL_qL, fR_qL, aI_qL, aL_qL, aR_qL, nx_qR, kd_qR, ln_qR, fI_qR, fL_qR, fR_qR, aI_qR, aL_qR, aR_qR, nx_mk, kd_mk, ln_mk, fI_mk, fL_mk, fR_mk, aI_mk, aL_mk, aR_mk, false_and, and_false, if_false, if_true, and_self, Int.reduceEq, Nat.reduceEqDiff, ite_self, MLay_pI, MLay_pL, MLay_qI, MLay_qL, ev_X4_readLines_48, ev_X4_readLines_49, ev_X4_readLines_52, xt_X4_readLines, xf_X4_readLines, us_X7_clearLines, us_X4_nextToken, us_X4_readLine]
        repeat' (first | intro z | apply And.intro)
        all_goals try omega
        all_goals try contradiction
        all_goals exact w
      have w48b : (lnR L z pre.length p).1 = 0 → ∀ σ', RdF D σ σ' → RdL L z D ((pre.map fun x => x.2.2.2.2.2.2.1) ++ [(lnR L z pre.length p).2.2.2.2.2.2.1]) σ' → RD σ' (lnR L z pre.length p).2.2.2.2.1 → (∀ j, aI σ' (D + 1) j = if j = pre.length then (lnR L z pre.length p).2.1 else aI σ (D + 1) j) → (∀ j, aI σ' (D + 2) j = if j = pre.length then (lnR L z pre.length p).2.2.1 else aI σ (D + 2) j) → Go M_X4_readLines Q 48 [some (vr 26), some (vi pre.length)] [vi 1] σ' (0, 0) := fun q σ' y1 L2 R2 e1 e2 => by
        rw [if_neg (fun z => z q)] at h0 h1
        have gd := lnR_good L hp.1 hp.2 q
        have n24 : ¬ pre.length = 24 := fun e24 => by
          unfold lnR at q
          by_cases c1 : ¬ isW L z p 378004
          · rw [if_pos c1] at q
            have q : 1 + 16 * kB L z p = 0 := q
            have := kB_in L hp.2
            omega
          · rw [if_neg c1, if_pos (by omega)] at q
            have q : 5 + 16 * kB L z p = 0 := q
            have := kB_in L hp.2
            omega
        have f2 := L2.2.2.2.1
        have g2 := L2.2.2.2.2.1
        have R3 := R2.b
        rw [f2, g2] at R3
        have hlen : (pre ++ [lnR L z pre.length p]).length = pre.length + 1 := by rw [List.length_append, List.length_singleton]
        have elen : (((pre ++ [lnR L z pre.length p]).length : Nat) : Int) = (pre.length : Int) + 1 := by rw [hlen]; omega
        have emap : (pre ++ [lnR L z pre.length p]).map (fun x => x.2.2.2.2.2.2.1) = (pre.map fun x => x.2.2.2.2.2.2.1) ++ [(lnR L z pre.length p).2.2.2.2.2.2.1] := by rw [List.map_append]; rfl
        have w := rls_23 (Q := Q) n (pre ++ [lnR L z pre.length p]) (kB L z (lnR L z pre.length p).2.2.2.2.1) σ' (by omega) (by rw [emap]; exact L2) R3 (by
            rw [emap]
            have a1 := lnR_len L hp.1 hp.2 q
            have a2 := kB_in L gd.2.2.2
            rw [List.flatten_append, List.length_append, List.flatten_singleton]
            omega) (fun i x hx => by
            rw [e1, e2]
            by_cases ei : i = pre.length
            · rw [ei, List.getElem?_append_right (Nat.le_refl _), Nat.sub_self] at hx
              have hx : some (lnR L z pre.length p) = some x := hx
              cases hx
              rw [if_pos (by omega), if_pos (by omega)]
              exact ⟨rfl, rfl⟩
            · have hi := (List.getElem?_eq_some_iff.mp hx).1
              rw [hlen] at hi
              rw [List.getElem?_append_left (by omega)] at hx
              rw [if_neg (by omega), if_neg (by omega)]
              exact he i x hx) (by
            rw [elen]
            exact fun q2 σ2 y2 => h0 q2 σ2 (y1.tr y2)) (by
            rw [elen, List.append_assoc]
            exact fun q2 σ2 y2 y3 y4 => h1 q2 σ2 (y1.tr y2) y3 y4) (by omega)
        rw [elen] at w
        clear h0 h1 hL hR hX hT hG hC he L2 R2 R3 gd w48a
        refine go_X4_readLines (ct := fun p => p == 23) 20 ?_
        simp only [oI, oL, oR, o1, lI, lL, lR, popN, catS, gv, stL, stL2, swt, cnd, spObj, List.getElem?_cons_zero, List.getElem?_cons_succ, List.getD_cons_zero, List.getD_cons_succ, List.set_cons_zero, List.set_cons_succ, List.nil_append, List.cons_append, Option.toList, Bool.or_false, Bool.false_or, Bool.or_true, Bool.true_or, Nat.reduceBEq, Nat.reduceAdd, Nat.reduceLT, Nat.reduceLeDiff, Int.reduceAdd, Int.reduceToNat, true_and, and_true, Fin.isValue, Fin.val_zero, Fin.val_one, Fin.val_two, Fin.reduceFinMk, eq_self, Int.reduceNeg, imp_self, Nat.reduceMul, Nat.le_refl, not_true_eq_false, not_false_eq_true, List.getElem?_nil, reduceCtorEq, true_or, or_true, Classical.not_not, implies_true, or_self, wI_0, wI_1, wI_m1, b2i_w, b2i_eq0, b2i_eq1, b2i_bool, nor_self, nx_pI, kd_pI, ln_pI, fI_pI, fL_pI, fR_pI, aI_pI, aL_pI, aR_pI, nx_pL, kd_pL, ln_pL, fI_pL, fL_pL, fR_pL, aI_pL, aL_pL, aR_pL, nx_pR, kd_pR, ln_pR, fI_pR, fL_pR, fR_pR, aI_pR, aL_pR, aR_pR, nx_qI, kd_qI, ln_qI, fI_qI, fL_qI, fR_qI, aI_qI, aL_qI, aR_qI, nx_qL, kd_qL, ln_qL, fI_qL, fL_qL, fR_qL, aI_qL, aL_qL, aR_qL, nx_qR, kd_qR, ln_qR, fI_qR, fL_qR, fR_qR, aI_qR, aL_qR, aR_qR, nx_mk, kd_mk, ln_mk, fI_mk, fL_mk, fR_mk, aI_mk, aL_mk, aR_mk, false_and, and_false, if_false, if_true, and_self, Int.reduceEq, Nat.reduceEqDiff, ite_self, MLay_pI, MLay_pL, MLay_qI, MLay_qL, ev_X4_readLines_48, ev_X4_readLines_49, ev_X4_readLines_52, xt_X4_readLines, xf_X4_readLines, us_X7_clearLines, us_X4_nextToken, us_X4_readLine]
        repeat' (first | intro z | apply And.intro)
        all_goals try omega
        all_goals try contradiction
        all_goals exact w
      have hln : ((pre.map fun x => x.2.2.2.2.2.2.1).length : Int) = pre.length := by rw [List.length_map]
      have hln2 : (pre.map fun x => x.2.2.2.2.2.2.1).length ≤ 24 := by rw [List.length_map]; omega
      have w43 : Go M_X4_readLines Q 43 [some (vr 26), some (vi pre.length)] [] σ (0, 0) := by
        rw [← hln] at w48a w48b
        clear h0 h1 hX hT hG hC he
        refine go_X4_readLines (ct := fun p => p == 48) 20 ?_
        simp only [oI, oL, oR, o1, lI, lL, lR, popN, catS, gv, stL, stL2, swt, cnd, spObj, List.getElem?_cons_zero, List.getElem?_cons_succ, List.getD_cons_zero, List.getD_cons_succ, List.set_cons_zero, List.set_cons_succ, List.nil_append, List.cons_append, Option.toList, Bool.or_false, Bool.false_or, Bool.or_true, Bool.true_or, Nat.reduceBEq, Nat.reduceAdd, Nat.reduceLT, Nat.reduceLeDiff, Int.reduceAdd, Int.reduceToNat, true_and, and_true, Fin.isValue, Fin.val_zero, Fin.val_one, Fin.val_two, Fin.reduceFinMk, eq_self, Int.reduceNeg, imp_self, Nat.reduceMul, Nat.le_refl, not_true_eq_false, not_false_eq_true, List.getElem?_nil, reduceCtorEq, true_or, or_true, Classical.not_not, implies_true, or_self, wI_0, wI_1, wI_m1, b2i_w, b2i_eq0, b2i_eq1, b2i_bool, nor_self, nx_pI, kd_pI, ln_pI, fI_pI, fL_pI, fR_pI, aI_pI, aL_pI, aR_pI, nx_pL, kd_pL, ln_pL, fI_pL, fL_pL, fR_pL, aI_pL, aL_pL, aR_pL, nx_pR, kd_pR, ln_pR, fI_pR, fL_pR, fR_pR, aI_pR, aL_pR, aR_pR, nx_qI, kd_qI, ln_qI, fI_qI, fL_qI, fR_qI, aI_qI, aL_qI, aR_qI, nx_qL, kd_qL, ln_qL, fI_qL, fL_qL, fR_qL, aI_qL, aL_qL, aR_qL, nx_qR, kd_qR, ln_qR, fI_qR, fL_qR, fR_qR, aI_qR, aL_qR, aR_qR, nx_mk, kd_mk, ln_mk, fI_mk, fL_mk, fR_mk, aI_mk, aL_mk, aR_mk, false_and, and_false, if_false, if_true, and_self, Int.reduceEq, Nat.reduceEqDiff, ite_self, MLay_pI, MLay_pL, MLay_qI, MLay_qL, ev_X4_readLines_43, ev_X4_readLines_44, ev_X4_readLines_45, xt_X4_readLines, xf_X4_readLines, us_X7_clearLines, us_X4_nextToken, us_X4_readLine, hk]
        repeat' (first | intro z | apply And.intro)
        all_goals try omega
        all_goals try contradiction
        all_goals exact ⟨_, _, _, _, _, hL, hR, hln.symm, hln2, hf, by rw [hln] at w48a ⊢; exact w48a, by rw [hln] at w48b ⊢; exact w48b⟩
      clear h0 h1 hL hR hX hT hG hC he w48a w48b
      refine go_X4_readLines (ct := fun p => p == 55 || p == 43) 20 ?_
      simp only [oI, oL, oR, o1, lI, lL, lR, popN, catS, gv, stL, stL2, swt, cnd, spObj, List.getElem?_cons_zero, List.getElem?_cons_succ, List.getD_cons_zero, List.getD_cons_succ, List.set_cons_zero, List.set_cons_succ, List.nil_append, List.cons_append, Option.toList, Bool.or_false, Bool.false_or, Bool.or_true, Bool.true_or, Nat.reduceBEq, Nat.reduceAdd, Nat.reduceLT, Nat.reduceLeDiff, Int.reduceAdd, Int.reduceToNat, true_and, and_true, Fin.isValue, Fin.val_zero, Fin.val_one, Fin.val_two, Fin.reduceFinMk, eq_self, Int.reduceNeg, imp_self, Nat.reduceMul, Nat.le_refl, not_true_eq_false, not_false_eq_true, List.getElem?_nil, reduceCtorEq, true_or, or_true, Classical.not_not, implies_true, or_self, wI_0, wI_1, wI_m1, b2i_w, b2i_eq0, b2i_eq1, b2i_bool, nor_self, nx_pI, kd_pI, ln_pI, fI_pI, fL_pI, fR_pI, aI_pI, aL_pI, aR_pI, nx_pL, kd_pL, ln_pL, fI_pL, fL_pL, fR_pL, aI_pL, aL_pL, aR_pL, nx_pR, kd_pR, ln_pR, fI_pR, fL_pR, fR_pR, aI_pR, aL_pR, aR_pR, nx_qI, kd_qI, ln_qI, fI_qI, fL_qI, fR_qI, aI_qI, aL_qI, aR_qI, nx_qL, kd_qL, ln_qL, fI_qL, fL_qL, fR_qL, aI_qL, aL_qL, aR_qL, nx_qR, kd_qR, ln_qR, fI_qR, fL_qR, fR_qR, aI_qR, aL_qR, aR_qR, nx_mk, kd_mk, ln_mk, fI_mk, fL_mk, fR_mk, aI_mk, aL_mk, aR_mk, false_and, and_false, if_false, if_true, and_self, Int.reduceEq, Nat.reduceEqDiff, ite_self, MLay_pI, MLay_pL, MLay_qI, MLay_qL, ev_X4_readLines_23, ev_X4_readLines_24, ev_X4_readLines_26, ev_X4_readLines_29, ev_X4_readLines_30, ev_X4_readLines_33, ev_X4_readLines_36, ev_X4_readLines_37, ev_X4_readLines_40, xt_X4_readLines, xf_X4_readLines, us_X7_clearLines, us_X4_nextToken, us_X4_readLine, hk, hf0]
      try simp (disch := omega) only [wI_id, dv_nn, rm_nn]
      repeat' (first | intro z | apply And.intro)
      all_goals try omega
      all_goals try contradiction
      all_goals exact w43

set_option maxRecDepth 20000 in
theorem c_X4_readLines : Ct yX4_readLines cX4_readLines 2 ((some FieldType.int)) 41 0 0 sp_X4_readLines := by
  refine Ct.go (M := M_X4_readLines) mm_X4_readLines fun av σ Q h0 => ?_
  obtain ⟨this, rfl, hk, h⟩ := el_X4_readLines h0
  clear h0
  refine ⟨Nat.le_of_ble_eq_true rfl, ?_⟩
  show Go M_X4_readLines Q 0 [some (vr this), none] [] σ (0, 0)
  obtain ⟨rfl, hC, hX, hT, D, hD, hd, h0, h1⟩ := h
  have hz := hT.1
  have kD : kd σ D = 8 := (DkO.of hC hD).1
  generalize eL : aI σ 25 = L at *
  generalize ez : fI σ 901 24 = z at *
  have y1 : RdF D σ (pI (pI (cClr σ D) 504 26 0) 507 26 0) := by
    unfold cClr
    refine ⟨(((Fz_pI (fs := rlF) (ars := dkB D) (als := noR) _ _ _ (by decide)).tr (Fz_pI _ _ _ (by decide))).tr (Fz_pI _ _ _ (by decide))).tr (Fz_pI _ _ _ (by decide)), fun k q => ?_⟩
    rw [fI_pI, if_neg (fun y => absurd y.1 (by decide)), fI_pI, if_neg (fun y => absurd y.1 (by decide)), fI_pI, if_neg (fun y => absurd y.1 (by decide)), fI_pI, if_neg (fun y => q y.2)]
  have hcl : DkS (pI (pI (cClr σ D) 504 26 0) 507 26 0) D [] := (DkS.clr σ D).fz ((Fz_pI (fs := [504, 507]) (ars := noR) (als := noR) _ _ _ (by decide)).tr (Fz_pI _ _ _ (by decide))) (by decide) (by decide) (fun q => q) (fun q => q)
  have n25 : ¬ dkB D 25 := by unfold dkB; omega
  have C1 : CLay (pI (pI (cClr σ D) 504 26 0) 507 26 0) := hC.fz y1.1 (by decide)
  have X1 := hX.fz y1.1 (by decide) (dkB.k hC hD)
  obtain ⟨T1, t1, t2⟩ := hT.fz y1.1 (by decide) n25
  have b1 : fI (pI (pI (cClr σ D) 504 26 0) 507 26 0) 504 26 = 0 := by rw [fI_pI, if_neg (fun y => absurd y.1 (by decide)), fI_pI, if_pos ⟨rfl, rfl⟩]
  have f1 : fI (pI (pI (cClr σ D) 504 26 0) 507 26 0) 507 26 = 0 := by rw [fI_pI, if_pos ⟨rfl, rfl⟩]
  have d1 : fR (pI (pI (cClr σ D) 504 26 0) 507 26 0) 501 26 = D := by rw [y1.1.fR (by decide)]; exact hd
  have k1 : kd (pI (pI (cClr σ D) 504 26 0) 507 26 0) 26 = 5 := hk
  have w17 : Go M_X4_readLines Q 17 [some (vr 26), none] [] (pI (pI (cClr σ D) 504 26 0) 507 26 0) (0, 0) := by
    generalize pI (pI (cClr σ D) 504 26 0) 507 26 0 = ρ1 at *
    have L1 : RdL L z D [] ρ1 := ⟨C1, X1, T1, t2.trans eL, t1.trans ez, d1, hD, hcl, f1⟩
    have w21 : ∀ σ', Fz tkF noR noR ρ1 σ' → RD σ' 0 → Go M_X4_readLines Q 21 [some (vr 26), none] [] σ' (0, 0) := fun σ' u1 u2 => by
      have L2 := RdL.rd L1 u1
      have R2 := u2.b
      rw [L2.2.2.2.1, L2.2.2.2.2.1] at R2
      have hp := (L2.fx R2).2.2.2.2.2.2.2.2.2.2.1
      have w := rls_23 (Q := Q) 25 [] (kB L z 0) σ' rfl L2 R2 hp.1 (fun i x hx => by cases hx) (fun q σ2 y2 => h0 q σ2 ((y1.tr (u1.rl (by decide))).tr y2)) (fun q σ2 y2 y3 y4 => h1 q σ2 ((y1.tr (u1.rl (by decide))).tr y2) y3.2.2.2.2.2.2.2.1 y4) (by omega)
      clear h0 h1 hX hT hC
      refine go_X4_readLines (ct := fun p => p == 23) 10 ?_
      simp only [oI, oL, oR, o1, lI, lL, lR, popN, catS, gv, stL, stL2, swt, cnd, spObj, List.getElem?_cons_zero, List.getElem?_cons_succ, List.getD_cons_zero, List.getD_cons_succ, List.set_cons_zero, List.set_cons_succ, List.nil_append, List.cons_append, Option.toList, Bool.or_false, Bool.false_or, Bool.or_true, Bool.true_or, Nat.reduceBEq, Nat.reduceAdd, Nat.reduceLT, Nat.reduceLeDiff, Int.reduceAdd, Int.reduceToNat, true_and, and_true, Fin.isValue, Fin.val_zero, Fin.val_one, Fin.val_two, Fin.reduceFinMk, eq_self, Int.reduceNeg, imp_self, Nat.reduceMul, Nat.le_refl, not_true_eq_false, not_false_eq_true, List.getElem?_nil, reduceCtorEq, true_or, or_true, Classical.not_not, implies_true, or_self, wI_0, wI_1, wI_m1, b2i_w, b2i_eq0, b2i_eq1, b2i_bool, nor_self, nx_pI, kd_pI, ln_pI, fI_pI, fL_pI, fR_pI, aI_pI, aL_pI, aR_pI, nx_pL, kd_pL, ln_pL, fI_pL, fL_pL, fR_pL, aI_pL, aL_pL, aR_pL, nx_pR, kd_pR, ln_pR, fI_pR, fL_pR, fR_pR, aI_pR, aL_pR, aR_pR, nx_qI, kd_qI, ln_qI, fI_qI, fL_qI, fR_qI, aI_qI, aL_qI, aR_qI, nx_qL, kd_qL, ln_qL, fI_qL, fL_qL, fR_qL, aI_qL, aL_qL, aR_qL, nx_qR, kd_qR, ln_qR, fI_qR, fL_qR, fR_qR, aI_qR, aL_qR, aR_qR, nx_mk, kd_mk, ln_mk, fI_mk, fL_mk, fR_mk, aI_mk, aL_mk, aR_mk, false_and, and_false, if_false, if_true, and_self, Int.reduceEq, Nat.reduceEqDiff, ite_self, MLay_pI, MLay_pL, MLay_qI, MLay_qL, ev_X4_readLines_21, ev_X4_readLines_22, xt_X4_readLines, xf_X4_readLines, us_X7_clearLines, us_X4_nextToken, us_X4_readLine]
      exact w
    have G1 := X1.1
    have hz1 : 0 ≤ fI ρ1 901 24 := by rw [t1, ez]; omega
    clear h0 h1 hX hT hC L1 X1
    refine go_X4_readLines (ct := fun p => p == 21) 10 ?_
    simp only [oI, oL, oR, o1, lI, lL, lR, popN, catS, gv, stL, stL2, swt, cnd, spObj, List.getElem?_cons_zero, List.getElem?_cons_succ, List.getD_cons_zero, List.getD_cons_succ, List.set_cons_zero, List.set_cons_succ, List.nil_append, List.cons_append, Option.toList, Bool.or_false, Bool.false_or, Bool.or_true, Bool.true_or, Nat.reduceBEq, Nat.reduceAdd, Nat.reduceLT, Nat.reduceLeDiff, Int.reduceAdd, Int.reduceToNat, true_and, and_true, Fin.isValue, Fin.val_zero, Fin.val_one, Fin.val_two, Fin.reduceFinMk, eq_self, Int.reduceNeg, imp_self, Nat.reduceMul, Nat.le_refl, not_true_eq_false, not_false_eq_true, List.getElem?_nil, reduceCtorEq, true_or, or_true, Classical.not_not, implies_true, or_self, wI_0, wI_1, wI_m1, b2i_w, b2i_eq0, b2i_eq1, b2i_bool, nor_self, nx_pI, kd_pI, ln_pI, fI_pI, fL_pI, fR_pI, aI_pI, aL_pI, aR_pI, nx_pL, kd_pL, ln_pL, fI_pL, fL_pL, fR_pL, aI_pL, aL_pL, aR_pL, nx_pR, kd_pR, ln_pR, fI_pR, fL_pR, fR_pR, aI_pR, aL_pR, aR_pR, nx_qI, kd_qI, ln_qI, fI_qI, fL_qI, fR_qI, aI_qI, aL_qI, aR_qI, nx_qL, kd_qL, ln_qL, fI_qL, fL_qL, fR_qL, aI_qL, aL_qL, aR_qL, nx_qR, kd_qR, ln_qR, fI_qR, fL_qR, fR_qR, aI_qR, aL_qR, aR_qR, nx_mk, kd_mk, ln_mk, fI_mk, fL_mk, fR_mk, aI_mk, aL_mk, aR_mk, false_and, and_false, if_false, if_true, and_self, Int.reduceEq, Nat.reduceEqDiff, ite_self, MLay_pI, MLay_pL, MLay_qI, MLay_qL, ev_X4_readLines_17, ev_X4_readLines_18, xt_X4_readLines, xf_X4_readLines, us_X7_clearLines, us_X4_nextToken, us_X4_readLine, k1, C1, T1, G1, b1, hz1]
    repeat' (first | intro z | apply And.intro)
    all_goals try omega
    all_goals try contradiction
    all_goals exact w21 _ ‹_› ‹_›
  clear h0 h1 hX hT X1 T1 C1 hcl y1 b1 f1 d1 k1
  refine go_X4_readLines (ct := fun p => p == 17) 20 ?_
  simp only [oI, oL, oR, o1, lI, lL, lR, popN, catS, gv, stL, stL2, swt, cnd, spObj, List.getElem?_cons_zero, List.getElem?_cons_succ, List.getD_cons_zero, List.getD_cons_succ, List.set_cons_zero, List.set_cons_succ, List.nil_append, List.cons_append, Option.toList, Bool.or_false, Bool.false_or, Bool.or_true, Bool.true_or, Nat.reduceBEq, Nat.reduceAdd, Nat.reduceLT, Nat.reduceLeDiff, Int.reduceAdd, Int.reduceToNat, true_and, and_true, Fin.isValue, Fin.val_zero, Fin.val_one, Fin.val_two, Fin.reduceFinMk, eq_self, Int.reduceNeg, imp_self, Nat.reduceMul, Nat.le_refl, not_true_eq_false, not_false_eq_true, List.getElem?_nil, reduceCtorEq, true_or, or_true, Classical.not_not, implies_true, or_self, wI_0, wI_1, wI_m1, b2i_w, b2i_eq0, b2i_eq1, b2i_bool, nor_self, nx_pI, kd_pI, ln_pI, fI_pI, fL_pI, fR_pI, aI_pI, aL_pI, aR_pI, nx_pL, kd_pL, ln_pL, fI_pL, fL_pL, fR_pL, aI_pL, aL_pL, aR_pL, nx_pR, kd_pR, ln_pR, fI_pR, fL_pR, fR_pR, aI_pR, aL_pR, aR_pR, nx_qI, kd_qI, ln_qI, fI_qI, fL_qI, fR_qI, aI_qI, aL_qI, aR_qI, nx_qL, kd_qL, ln_qL, fI_qL, fL_qL, fR_qL, aI_qL, aL_qL, aR_qL, nx_qR, kd_qR, ln_qR, fI_qR, fL_qR, fR_qR, aI_qR, aL_qR, aR_qR, nx_mk, kd_mk, ln_mk, fI_mk, fL_mk, fR_mk, aI_mk, aL_mk, aR_mk, false_and, and_false, if_false, if_true, and_self, Int.reduceEq, Nat.reduceEqDiff, ite_self, MLay_pI, MLay_pL, MLay_qI, MLay_qL, ev_X4_readLines_0, ev_X4_readLines_1, ev_X4_readLines_4, ev_X4_readLines_7, ev_X4_readLines_8, ev_X4_readLines_9, ev_X4_readLines_12, ev_X4_readLines_13, ev_X4_readLines_14, xt_X4_readLines, xf_X4_readLines, us_X7_clearLines, us_X4_nextToken, us_X4_readLine, hk, hd, kD, cClr, kd_pI, kd_qI]
  unfold cClr at w17
  repeat' (first | intro z | apply And.intro)
  all_goals try omega
  all_goals try contradiction
  all_goals exact w17

def sp_X4_changeFor : Sp := fun av σ Q => oR av fun this av => oR av fun d av => av = [] ∧ kd σ this = 5 ∧ (this = 26 ∧ Q (some (vr (fR σ 501 26))) (pR σ 501 26 d))
theorem us_X4_changeFor (this : Int) (d : Int) (σ : Hp) (Q : Option AV → Hp → Prop) : sp_X4_changeFor [vr this, vr d] σ Q = (kd σ this = 5 ∧ (this = 26 ∧ Q (some (vr (fR σ 501 26))) (pR σ 501 26 d))) := propext ⟨fun h => h.2, fun h => ⟨rfl, h⟩⟩
theorem el_X4_changeFor {av : List AV} {σ : Hp} {Q : Option AV → Hp → Prop} (h : sp_X4_changeFor av σ Q) : ∃ (this : Int) (d : Int), av = [vr this, vr d] ∧ (kd σ this = 5 ∧ (this = 26 ∧ Q (some (vr (fR σ 501 26))) (pR σ 501 26 d))) := by
  obtain ⟨this, a0, rfl, h0⟩ := oR_s h
  obtain ⟨d, a1, rfl, h1⟩ := oR_s h0
  obtain ⟨rfl, hz⟩ := h1
  exact ⟨this, d, rfl, hz⟩
theorem rc_X4_changeFor : ∀ (av : List AV) (σ : Hp) (Q : Option AV → Hp → Prop), sp_X4_changeFor av σ Q → ∃ r tl, av = vr r :: tl ∧ kd σ r = 4 + 1 := fun av σ Q h => by
  obtain ⟨this, d, rfl, hz, -⟩ := el_X4_changeFor h
  exact ⟨this, _, rfl, hz⟩

def tb_X4_changeFor : Tab := [(0, .aload_n 0, 1, (0, 0, 0, 0)), (1, .getfield 21, 3, (5, 501, 2, 0)), (4, .astore_n 2, 1, (0, 0, 0, 0)), (5, .aload_n 0, 1, (0, 0, 0, 0)), (6, .aload_n 1, 1, (0, 0, 0, 0)), (7, .putfield 21, 3, (5, 501, 2, 0)), (10, .aload_n 2, 1, (0, 0, 0, 0)), (11, .areturn, 1, (0, 0, 0, 0))]
set_option maxRecDepth 100000 in
theorem tk_X4_changeFor : TOK RX4 false cX4_changeFor tb_X4_changeFor := chkT_ok ft_X4 (by decide +kernel)
def mt_X4_changeFor : List (Nat × Mt) := []
theorem mk_X4_changeFor : MOK RX4 mt_X4_changeFor := fun q hq => by cases hq
noncomputable def xe_X4_changeFor (ct : Nat → Bool) (K : Kt) (R : Option AV → Hp → Prop) (n : Nat) : Kt := exS 3 1 0 0 5 tb_X4_changeFor mt_X4_changeFor ct K R n
noncomputable def xk_X4_changeFor (ct : Nat → Bool) (K : Kt) (R : Option AV → Hp → Prop) (n : Nat) : Kt := exkS 3 1 0 0 5 tb_X4_changeFor mt_X4_changeFor ct K R n
theorem xt_X4_changeFor {ct : Nat → Bool} {K : Kt} {R : Option AV → Hp → Prop} {n pc : Nat} {ls : List (Option AV)} {st : List AV} {σ : Hp} {k : Nat × Nat} (h : ct pc = true) : xk_X4_changeFor ct K R n pc ls st σ k = K pc ls st σ k := by unfold xk_X4_changeFor exkS; rw [h]
theorem xf_X4_changeFor {ct : Nat → Bool} {K : Kt} {R : Option AV → Hp → Prop} {n pc : Nat} {ls : List (Option AV)} {st : List AV} {σ : Hp} {k : Nat × Nat} (h : ct pc = false) : xk_X4_changeFor ct K R n pc ls st σ k = xe_X4_changeFor ct K R n pc ls st σ k := by unfold xk_X4_changeFor exkS xe_X4_changeFor; rw [h]
theorem ev_X4_changeFor_0 {ct : Nat → Bool} {K : Kt} {R : Option AV → Hp → Prop} {n : Nat} {ls : List (Option AV)} {st : List AV} {σ : Hp} {k : Nat × Nat} : xe_X4_changeFor ct K R (n + 1) 0 ls st σ k = (lR ls 0 fun x => xk_X4_changeFor ct K R n 1 ls (vr x :: st) σ k) := exS_step.trans rfl
theorem ev_X4_changeFor_1 {ct : Nat → Bool} {K : Kt} {R : Option AV → Hp → Prop} {n : Nat} {ls : List (Option AV)} {st : List AV} {σ : Hp} {k : Nat × Nat} : xe_X4_changeFor ct K R (n + 1) 1 ls st σ k = (oR st fun x st => kd σ x = 5 ∧ xk_X4_changeFor ct K R n 4 ls (vr (fR σ 501 x) :: st) σ k) := exS_step.trans rfl
theorem ev_X4_changeFor_4 {ct : Nat → Bool} {K : Kt} {R : Option AV → Hp → Prop} {n : Nat} {ls : List (Option AV)} {st : List AV} {σ : Hp} {k : Nat × Nat} : xe_X4_changeFor ct K R (n + 1) 4 ls st σ k = (oR st fun x st => 2 < 3 ∧ xk_X4_changeFor ct K R n 5 (stL ls 2 (vr x)) st σ k) := exS_step.trans rfl
theorem ev_X4_changeFor_5 {ct : Nat → Bool} {K : Kt} {R : Option AV → Hp → Prop} {n : Nat} {ls : List (Option AV)} {st : List AV} {σ : Hp} {k : Nat × Nat} : xe_X4_changeFor ct K R (n + 1) 5 ls st σ k = (lR ls 0 fun x => xk_X4_changeFor ct K R n 6 ls (vr x :: st) σ k) := exS_step.trans rfl
theorem ev_X4_changeFor_6 {ct : Nat → Bool} {K : Kt} {R : Option AV → Hp → Prop} {n : Nat} {ls : List (Option AV)} {st : List AV} {σ : Hp} {k : Nat × Nat} : xe_X4_changeFor ct K R (n + 1) 6 ls st σ k = (lR ls 1 fun x => xk_X4_changeFor ct K R n 7 ls (vr x :: st) σ k) := exS_step.trans rfl
theorem ev_X4_changeFor_7 {ct : Nat → Bool} {K : Kt} {R : Option AV → Hp → Prop} {n : Nat} {ls : List (Option AV)} {st : List AV} {σ : Hp} {k : Nat × Nat} : xe_X4_changeFor ct K R (n + 1) 7 ls st σ k = (oR st fun v st => oR st fun x st => kd σ x = 5 ∧ xk_X4_changeFor ct K R n 10 ls st (pR σ 501 x v) k) := exS_step.trans rfl
theorem ev_X4_changeFor_10 {ct : Nat → Bool} {K : Kt} {R : Option AV → Hp → Prop} {n : Nat} {ls : List (Option AV)} {st : List AV} {σ : Hp} {k : Nat × Nat} : xe_X4_changeFor ct K R (n + 1) 10 ls st σ k = (lR ls 2 fun x => xk_X4_changeFor ct K R n 11 ls (vr x :: st) σ k) := exS_step.trans rfl
theorem ev_X4_changeFor_11 {ct : Nat → Bool} {K : Kt} {R : Option AV → Hp → Prop} {n : Nat} {ls : List (Option AV)} {st : List AV} {σ : Hp} {k : Nat × Nat} : xe_X4_changeFor ct K R (n + 1) 11 ls st σ k = (oR st fun x st => st = [] ∧ 5 = 5 ∧ R (some (vr x)) σ) := exS_step.trans rfl
def M_X4_changeFor : Md := (yX4_changeFor, cX4_changeFor, 3, (some (FieldType.object "AlarmBoxes$Deck")), 1, 0, 0, 5, false, tb_X4_changeFor, mt_X4_changeFor)
theorem mm_X4_changeFor : MMOK M_X4_changeFor := ⟨by decide +kernel, tk_X4_changeFor, mk_X4_changeFor, Or.inl ⟨_, rfl⟩, fun h => by cases h⟩
theorem go_X4_changeFor {Q : Option AV → Hp → Prop} {ct : Nat → Bool} {pc : Nat} {ls : List (Option AV)} {st : List AV} {σ : Hp} {k : Nat × Nat} (n : Nat) (h : xe_X4_changeFor ct (Go M_X4_changeFor Q) Q n pc ls st σ k) : Go M_X4_changeFor Q pc ls st σ k := Go.exS mm_X4_changeFor h

set_option maxRecDepth 20000 in
theorem c_X4_changeFor : Ct yX4_changeFor cX4_changeFor 3 ((some (FieldType.object "AlarmBoxes$Deck"))) 1 0 0 sp_X4_changeFor := by
  refine Ct.go (M := M_X4_changeFor) mm_X4_changeFor fun av σ Q h0 => ?_
  obtain ⟨this, d, rfl, hk, h⟩ := el_X4_changeFor h0
  clear h0
  refine ⟨Nat.le_of_ble_eq_true rfl, ?_⟩
  show Go M_X4_changeFor Q 0 [some (vr this), some (vr d), none] [] σ (0, 0)
  obtain ⟨rfl, h⟩ := h
  refine go_X4_changeFor (ct := fun p => p == 99) 20 ?_
  simp only [oI, oL, oR, o1, lI, lL, lR, popN, catS, gv, stL, stL2, swt, cnd, spObj, List.getElem?_cons_zero, List.getElem?_cons_succ, List.getD_cons_zero, List.getD_cons_succ, List.set_cons_zero, List.set_cons_succ, List.nil_append, List.cons_append, Option.toList, Bool.or_false, Bool.false_or, Bool.or_true, Bool.true_or, Nat.reduceBEq, Nat.reduceAdd, Nat.reduceLT, Nat.reduceLeDiff, Int.reduceAdd, Int.reduceToNat, true_and, and_true, Fin.isValue, Fin.val_zero, Fin.val_one, Fin.val_two, Fin.reduceFinMk, eq_self, Int.reduceNeg, imp_self, Nat.reduceMul, Nat.le_refl, not_true_eq_false, not_false_eq_true, List.getElem?_nil, reduceCtorEq, true_or, or_true, Classical.not_not, implies_true, or_self, wI_0, wI_1, wI_m1, b2i_w, b2i_eq0, b2i_eq1, b2i_bool, nor_self, nx_pI, kd_pI, ln_pI, fI_pI, fL_pI, fR_pI, aI_pI, aL_pI, aR_pI, nx_pL, kd_pL, ln_pL, fI_pL, fL_pL, fR_pL, aI_pL, aL_pL, aR_pL, nx_pR, kd_pR, ln_pR, fI_pR, fL_pR, fR_pR, aI_pR, aL_pR, aR_pR, nx_qI, kd_qI, ln_qI, fI_qI, fL_qI, fR_qI, aI_qI, aL_qI, aR_qI, nx_qL, kd_qL, ln_qL, fI_qL, fL_qL, fR_qL, aI_qL, aL_qL, aR_qL, nx_qR, kd_qR, ln_qR, fI_qR, fL_qR, fR_qR, aI_qR, aL_qR, aR_qR, nx_mk, kd_mk, ln_mk, fI_mk, fL_mk, fR_mk, aI_mk, aL_mk, aR_mk, false_and, and_false, if_false, if_true, and_self, Int.reduceEq, Nat.reduceEqDiff, ite_self, MLay_pI, MLay_pL, MLay_qI, MLay_qL, ev_X4_changeFor_0, ev_X4_changeFor_1, ev_X4_changeFor_4, ev_X4_changeFor_5, ev_X4_changeFor_6, ev_X4_changeFor_7, ev_X4_changeFor_10, ev_X4_changeFor_11, xt_X4_changeFor, xf_X4_changeFor, hk]
  repeat' (first | intro z | apply And.intro)
  all_goals try omega
  all_goals try contradiction
  all_goals exact h
