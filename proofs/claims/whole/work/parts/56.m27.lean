/-! stories: lists in the order of their keys, the first 200 -/

def k13 (p : Int) : Int := p / 300 * 512 + p % 300
def keyL : List Int → Int := fun x => x.foldl (fun a p => a * 8192 + k13 p) 0
def ST (H : Int → Prop) (K : Int → Int → Prop) (n sp : Int) (x : List Int) : Prop := (∀ p ∈ x, 0 ≤ p ∧ p / 300 < n ∧ p % 300 < sp) ∧ x.Pairwise (fun p q => p / 300 < q / 300) ∧ ∀ u, 0 ≤ u → u < sp → (H u ↔ ∃ p ∈ x, K p u)
/-- the first 200 of a set, in order -/
def Sg (S : List Int → Prop) (xs : List (List Int)) : Prop := xs.Pairwise (fun x y => keyL x < keyL y) ∧ (∀ x ∈ xs, S x) ∧ xs.length ≤ 200 ∧ ∀ x, S x → x ∈ xs ∨ (xs.length = 200 ∧ ∀ y ∈ xs, keyL y < keyL x)
def SgB (S : List Int → Prop) (B : Int) (xs : List (List Int)) : Prop := Sg (fun x => S x ∧ keyL x < B) xs
def addS (xs : List (List Int)) (x : List Int) : List (List Int) := if xs.length = 200 then xs else xs ++ [x]
theorem SgB.skip {S : List Int → Prop} {B B' : Int} {xs : List (List Int)} (h : SgB S B xs) (hB : B ≤ B') (hn : ∀ x, S x → B ≤ keyL x → keyL x < B' → False) : SgB S B' xs := by
  obtain ⟨h1, h2, h3, h4⟩ := h
  refine ⟨h1, fun x hx => ⟨(h2 x hx).1, by have := (h2 x hx).2; omega⟩, h3, fun x hx => h4 x ⟨hx.1, ?_⟩⟩
  by_cases c : keyL x < B
  · exact c
  · exact (hn x hx.1 (by omega) hx.2).elim
theorem SgB.full {S : List Int → Prop} {B B' : Int} {xs : List (List Int)} (h : SgB S B xs) (hB : B ≤ B') (hl : xs.length = 200) : SgB S B' xs := by
  obtain ⟨h1, h2, h3, h4⟩ := h
  refine ⟨h1, fun x hx => ⟨(h2 x hx).1, by have := (h2 x hx).2; omega⟩, h3, fun x hx => ?_⟩
  by_cases c : keyL x < B
  · exact h4 x ⟨hx.1, c⟩
  · exact Or.inr ⟨hl, fun y hy => by have := (h2 y hy).2; omega⟩
theorem SgB.add {S : List Int → Prop} {B B' : Int} {xs : List (List Int)} (h : SgB S B xs) {x0 : List Int} (hx0 : S x0) (hk : B ≤ keyL x0) (hk2 : keyL x0 < B') (hn : ∀ x, S x → B ≤ keyL x → keyL x < B' → x = x0) : SgB S B' (addS xs x0) := by
  unfold addS
  by_cases hl : xs.length = 200
  · rw [if_pos hl]
    exact h.full (by omega) hl
  · rw [if_neg hl]
    obtain ⟨h1, h2, h3, h4⟩ := h
    refine ⟨?_, fun x hx => ?_, ?_, fun x hx => ?_⟩
    · rw [List.pairwise_append]
      refine ⟨h1, List.pairwise_singleton _ _, fun y hy z hz => ?_⟩
      rw [List.mem_singleton.mp hz]
      have := (h2 y hy).2
      omega
    · rcases List.mem_append.mp hx with hx | hx
      · exact ⟨(h2 x hx).1, by have := (h2 x hx).2; omega⟩
      · rw [List.mem_singleton.mp hx]; exact ⟨hx0, hk2⟩
    · rw [List.length_append, List.length_singleton]; omega
    · by_cases c : keyL x < B
      · rcases h4 x ⟨hx.1, c⟩ with q | q
        · exact Or.inl (List.mem_append_left _ q)
        · exact absurd q.1 hl
      · exact Or.inl (List.mem_append_right _ (List.mem_singleton.mpr (hn x hx.1 (by omega) hx.2)))
theorem SgB.nil (S : List Int → Prop) {B : Int} (h : ∀ x, S x → B ≤ keyL x) : SgB S B [] := by
  refine ⟨List.Pairwise.nil, ?_, Nat.zero_le _, ?_⟩
  · intro x hx
    exact absurd hx List.not_mem_nil
  · intro x hx
    have h1 := h x hx.1
    have h2 := hx.2
    omega
theorem SgB.all {S : List Int → Prop} {B : Int} {xs : List (List Int)} (h : SgB S B xs) (hB : ∀ x, S x → keyL x < B) : Sg S xs := by
  obtain ⟨h1, h2, h3, h4⟩ := h
  exact ⟨h1, fun x hx => (h2 x hx).1, h3, fun x hx => h4 x ⟨hx, hB x hx⟩⟩
theorem Sg.congr {S S' : List Int → Prop} {xs : List (List Int)} (h : Sg S xs) (hS : ∀ x, S x ↔ S' x) : Sg S' xs := ⟨h.1, fun x hx => (hS x).mp (h.2.1 x hx), h.2.2.1, fun x hx => h.2.2.2 x ((hS x).mpr hx)⟩
/-- the list is determined -/
theorem Sg.uniq {S : List Int → Prop} (hi : ∀ x y, S x → S y → keyL x = keyL y → x = y) : ∀ {xs ys : List (List Int)}, Sg S xs → Sg S ys → xs = ys := by
  have key : ∀ (n : Nat) (xs ys : List (List Int)), xs.length ≤ n → xs.Pairwise (fun x y => keyL x < keyL y) → ys.Pairwise (fun x y => keyL x < keyL y) → (∀ x ∈ xs, S x) → (∀ x ∈ ys, S x) →
      (∀ x ∈ xs, x ∈ ys ∨ ∀ y ∈ ys, keyL y < keyL x) → (∀ x ∈ ys, x ∈ xs ∨ ∀ y ∈ xs, keyL y < keyL x) → xs.length = ys.length → xs = ys := by
    intro n
    induction n with
    | zero =>
      intro xs ys hn _ _ _ _ _ _ hl
      have e1 : xs = [] := List.length_eq_zero_iff.mp (by omega)
      have e2 : ys = [] := List.length_eq_zero_iff.mp (by omega)
      rw [e1, e2]
    | succ n ih =>
      intro xs ys hn p1 p2 s1 s2 m1 m2 hl
      cases xs with
      | nil =>
        have e2 : ys = [] := List.length_eq_zero_iff.mp (by rw [← hl]; rfl)
        rw [e2]
      | cons x xs =>
        cases ys with
        | nil => cases hl
        | cons y ys =>
          rw [List.pairwise_cons] at p1 p2
          have hxy : x = y := by
            have a := m1 x List.mem_cons_self
            have b := m2 y List.mem_cons_self
            have g : ∀ z ∈ y :: ys, keyL y ≤ keyL z := fun z hz => by
              rcases List.mem_cons.mp hz with q | q
              · rw [q]; exact Int.le_refl _
              · have := p2.1 z q; omega
            have g2 : ∀ z ∈ x :: xs, keyL x ≤ keyL z := fun z hz => by
              rcases List.mem_cons.mp hz with q | q
              · rw [q]; exact Int.le_refl _
              · have := p1.1 z q; omega
            have le1 : keyL y ≤ keyL x := by
              rcases a with a | a
              · exact g x a
              · have := a y List.mem_cons_self; omega
            have le2 : keyL x ≤ keyL y := by
              rcases b with b | b
              · exact g2 y b
              · have := b x List.mem_cons_self; omega
            exact hi x y (s1 x List.mem_cons_self) (s2 y List.mem_cons_self) (by omega)
          subst hxy
          have : xs = ys := ih xs ys (by simp at hn; omega) p1.2 p2.2 (fun z hz => s1 z (List.mem_cons_of_mem _ hz)) (fun z hz => s2 z (List.mem_cons_of_mem _ hz))
            (fun z hz => by
              have lt := p1.1 z hz
              rcases m1 z (List.mem_cons_of_mem _ hz) with q | q
              · rcases List.mem_cons.mp q with q | q
                · rw [q] at lt; omega
                · exact Or.inl q
              · exact Or.inr fun w hw => q w (List.mem_cons_of_mem _ hw))
            (fun z hz => by
              have lt := p2.1 z hz
              rcases m2 z (List.mem_cons_of_mem _ hz) with q | q
              · rcases List.mem_cons.mp q with q | q
                · rw [q] at lt; omega
                · exact Or.inl q
              · exact Or.inr fun w hw => q w (List.mem_cons_of_mem _ hw)) (by simp at hl; exact hl)
          rw [this]
  intro xs ys h g
  have hle : ∀ {xs ys : List (List Int)}, Sg S xs → Sg S ys → xs.length ≤ ys.length := by
    intro xs ys h g
    by_cases c : ys.length = 200
    · rw [c]; exact h.2.2.1
    · have hsub : ∀ x ∈ xs, x ∈ ys := fun x hx => (g.2.2.2 x (h.2.1 x hx)).elim id (fun q => absurd q.1 c)
      have hnd : xs.Nodup := h.1.imp (fun q e => by rw [e] at q; omega)
      exact hnd.length_le_of_subset hsub
  exact key xs.length xs ys (Nat.le_refl _) h.1 g.1 h.2.1 g.2.1 (fun x hx => (g.2.2.2 x (h.2.1 x hx)).imp id (fun q => q.2)) (fun x hx => (h.2.2.2 x (g.2.1 x hx)).imp id (fun q => q.2)) (Nat.le_antisymm (hle h g) (hle g h))
theorem k13_in {p n : Int} (h : 0 ≤ p ∧ p / 300 < n ∧ p % 300 < 300) (hn : n ≤ 12) : 0 ≤ k13 p ∧ k13 p < 8192 := by unfold k13; omega
theorem k13_mono {p q : Int} (h : p < q) : k13 p < k13 q := by unfold k13; omega
theorem k13_inj {p q : Int} (h : k13 p = k13 q) : p = q := by
  by_cases c : p < q
  · have := k13_mono c; omega
  · by_cases d : q < p
    · have := k13_mono d; omega
    · omega
theorem keyL_1 (p : Int) : keyL [p] = k13 p := by simp [keyL]
theorem keyL_2 (p q : Int) : keyL [p, q] = k13 p * 8192 + k13 q := by simp [keyL]
theorem keyL_3 (p q r : Int) : keyL [p, q, r] = (k13 p * 8192 + k13 q) * 8192 + k13 r := by simp [keyL]
theorem len1 {x : List Int} (h : x.length = 1) : ∃ p, x = [p] := List.length_eq_one_iff.mp h
theorem len2 {x : List Int} (h : x.length = 2) : ∃ p q, x = [p, q] := by
  match x, h with
  | [p, q], _ => exact ⟨p, q, rfl⟩
theorem len3 {x : List Int} (h : x.length = 3) : ∃ p q r, x = [p, q, r] := by
  match x, h with
  | [p, q, r], _ => exact ⟨p, q, r, rfl⟩
/-- stories of m beginnings -/
def Sm (H : Int → Prop) (K : Int → Int → Prop) (n sp : Int) (m : Nat) (x : List Int) : Prop := ST H K n sp x ∧ x.length = m
theorem ST1 {H : Int → Prop} {K : Int → Int → Prop} {n sp p : Int} : ST H K n sp [p] ↔ (0 ≤ p ∧ p / 300 < n ∧ p % 300 < sp) ∧ ∀ u, 0 ≤ u → u < sp → (H u ↔ K p u) := by
  unfold ST; simp
theorem ST2 {H : Int → Prop} {K : Int → Int → Prop} {n sp p q : Int} : ST H K n sp [p, q] ↔ ((0 ≤ p ∧ p / 300 < n ∧ p % 300 < sp) ∧ (0 ≤ q ∧ q / 300 < n ∧ q % 300 < sp)) ∧ p / 300 < q / 300 ∧ ∀ u, 0 ≤ u → u < sp → (H u ↔ K p u ∨ K q u) := by
  unfold ST; simp
theorem ST3 {H : Int → Prop} {K : Int → Int → Prop} {n sp p q r : Int} : ST H K n sp [p, q, r] ↔ ((0 ≤ p ∧ p / 300 < n ∧ p % 300 < sp) ∧ (0 ≤ q ∧ q / 300 < n ∧ q % 300 < sp) ∧ (0 ≤ r ∧ r / 300 < n ∧ r % 300 < sp)) ∧ (p / 300 < q / 300 ∧ p / 300 < r / 300) ∧ q / 300 < r / 300 ∧ ∀ u, 0 ≤ u → u < sp → (H u ↔ K p u ∨ K q u ∨ K r u) := by
  unfold ST; simp [and_assoc]
