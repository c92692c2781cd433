/-! the search for stories, in itself -/

/-- keys in order, the first 200 -/
def SgK (S : Int → Prop) (ks : List Int) : Prop := ks.Pairwise (fun x y => x < y) ∧ (∀ k ∈ ks, S k) ∧ ks.length ≤ 200 ∧ ∀ k, S k → k ∈ ks ∨ (ks.length = 200 ∧ ∀ y ∈ ks, y < k)
theorem SgK.congr {S T : Int → Prop} {ks : List Int} (h : SgK S ks) (e : ∀ k, S k ↔ T k) : SgK T ks := ⟨h.1, fun k q => (e k).mp (h.2.1 k q), h.2.2.1, fun k q => h.2.2.2 k ((e k).mpr q)⟩
/-- lists that are in strict order by f, with the same members -/
theorem ord_eq {f : Int → Int} : ∀ (xs ys : List Int), xs.Pairwise (fun x y => f x < f y) → ys.Pairwise (fun x y => f x < f y) → (∀ x, x ∈ xs ↔ x ∈ ys) → xs = ys
  | [], [], _, _, _ => rfl
  | [], y :: ys, _, _, h => absurd ((h y).mpr List.mem_cons_self) List.not_mem_nil
  | x :: xs, [], _, _, h => absurd ((h x).mp List.mem_cons_self) List.not_mem_nil
  | x :: xs, y :: ys, p1, p2, h => by
    rw [List.pairwise_cons] at p1 p2
    have exy : x = y := by
      have a := (h x).mp List.mem_cons_self
      have b := (h y).mpr List.mem_cons_self
      rcases List.mem_cons.mp a with a | a
      · exact a
      · rcases List.mem_cons.mp b with b | b
        · exact b.symm
        · have := p1.1 y b
          have := p2.1 x a
          omega
    subst exy
    have ih := ord_eq xs ys p1.2 p2.2 (fun z => by
      constructor
      · intro q
        rcases List.mem_cons.mp ((h z).mp (List.mem_cons_of_mem _ q)) with e | e
        · have := p1.1 z q; rw [e] at this; omega
        · exact e
      · intro q
        rcases List.mem_cons.mp ((h z).mpr (List.mem_cons_of_mem _ q)) with e | e
        · have := p2.1 z q; rw [e] at this; omega
        · exact e)
    rw [ih]
theorem ord_inj {f : Int → Int} : ∀ (xs : List Int), xs.Pairwise (fun x y => f x < f y) → ∀ p ∈ xs, ∀ q ∈ xs, f p = f q → p = q
  | [], _, p, hp, _, _, _ => absurd hp List.not_mem_nil
  | x :: xs, h, p, hp, q, hq, e => by
    rw [List.pairwise_cons] at h
    rcases List.mem_cons.mp hp with a | a
    · rcases List.mem_cons.mp hq with b | b
      · rw [a, b]
      · have := h.1 q b; rw [a] at e; omega
    · rcases List.mem_cons.mp hq with b | b
      · have := h.1 p a; rw [b] at e; omega
      · exact ord_inj xs h.2 p a q b e
theorem SgK.nd {S : Int → Prop} {ks : List Int} (h : SgK S ks) : ks.Nodup := h.1.imp (fun q e => by rw [e] at q; omega)
theorem SgK.uniq {S : Int → Prop} {ks ls : List Int} (h : SgK S ks) (g : SgK S ls) : ks = ls := by
  have hle : ∀ {ks ls : List Int}, SgK S ks → SgK S ls → ks.length ≤ ls.length := by
    intro ks ls h g
    by_cases c : ls.length = 200
    · rw [c]; exact h.2.2.1
    · have hsub : ∀ x ∈ ks, x ∈ ls := fun x hx => (g.2.2.2 x (h.2.1 x hx)).elim id (fun q => absurd q.1 c)
      exact h.nd.length_le_of_subset hsub
  have hl : ks.length = ls.length := Nat.le_antisymm (hle h g) (hle g h)
  -- one that is not in the other lies above all of it
  have hsub : ∀ {ks ls : List Int}, SgK S ks → SgK S ls → ks.length = ls.length → ∀ x ∈ ks, x ∈ ls := by
    intro ks ls h g hl x hx
    rcases g.2.2.2 x (h.2.1 x hx) with q | ⟨-, q⟩
    · exact q
    · exfalso
      -- all of ls lies below x; ls has a member that is not in ks, or all of ls is in ks and x besides
      have hall : ∀ y ∈ ls, y ∈ ks := fun y hy => by
        rcases h.2.2.2 y (g.2.1 y hy) with z | ⟨-, z⟩
        · exact z
        · have := z x hx
          have := q y hy
          omega
      have hnx : x ∉ ls := fun z => by have := q x z; omega
      have : (x :: ls).length ≤ ks.length := (List.nodup_cons.mpr ⟨hnx, g.nd⟩).length_le_of_subset (fun y hy => by
        rcases List.mem_cons.mp hy with e | e
        · rw [e]; exact hx
        · exact hall y e)
      rw [List.length_cons] at this
      omega
  exact ord_eq (f := fun x => x) ks ls h.1 g.1 (fun x => ⟨hsub h g hl x, hsub g h hl.symm x⟩)
theorem SgK.nil : SgK (fun _ => False) [] := ⟨List.Pairwise.nil, fun _ q => absurd q List.not_mem_nil, Nat.zero_le _, fun _ q => q.elim⟩
/-- a key is put among them, at its place -/
theorem SgK.ins {S : Int → Prop} {as bs : List Int} {k : Int} (h : SgK S (as ++ bs)) (ha : ∀ y ∈ as, y < k) (hb : ∀ y ∈ bs, k < y) (hl : as.length < 200) : SgK (fun j => S j ∨ j = k) (as ++ k :: bs.take (199 - as.length)) := by
  obtain ⟨h1, h2, h3, h4⟩ := h
  have p := List.pairwise_append.mp h1
  have hsub : ∀ y ∈ bs.take (199 - as.length), y ∈ bs := fun y q => List.mem_of_mem_take q
  have hlen : (as ++ k :: bs.take (199 - as.length)).length = as.length + 1 + min (199 - as.length) bs.length := by
    rw [List.length_append, List.length_cons, List.length_take]; omega
  refine ⟨?_, ?_, by rw [hlen]; omega, ?_⟩
  · rw [List.pairwise_append]
    refine ⟨p.1, List.pairwise_cons.mpr ⟨fun y q => hb y (hsub y q), p.2.1.sublist (List.take_sublist _ _)⟩, fun x hx y hy => ?_⟩
    rcases List.mem_cons.mp hy with e | e
    · rw [e]; exact ha x hx
    · exact p.2.2 x hx y (hsub y e)
  · intro y hy
    rcases List.mem_append.mp hy with q | q
    · exact Or.inl (h2 y (List.mem_append_left _ q))
    · rcases List.mem_cons.mp q with e | e
      · exact Or.inr e
      · exact Or.inl (h2 y (List.mem_append_right _ (hsub y e)))
  · intro j hj
    have split : ∀ y ∈ bs, y ∈ bs.take (199 - as.length) ∨ (199 - as.length < bs.length ∧ ∀ z ∈ bs.take (199 - as.length), z < y) := fun y hy => by
      have e : bs = bs.take (199 - as.length) ++ bs.drop (199 - as.length) := (List.take_append_drop _ _).symm
      rw [e] at hy
      rcases List.mem_append.mp hy with q | q
      · exact Or.inl q
      · refine Or.inr ⟨?_, fun z hz => ?_⟩
        · have := List.length_pos_of_mem q
          rw [List.length_drop] at this
          omega
        · have p2 := p.2.1
          rw [e] at p2
          exact (List.pairwise_append.mp p2).2.2 z hz y q
    rcases hj with hj | hj
    · rcases h4 j hj with q | ⟨q1, q2⟩
      · rcases List.mem_append.mp q with q | q
        · exact Or.inl (List.mem_append_left _ q)
        · rcases split j q with z | ⟨z1, z2⟩
          · exact Or.inl (List.mem_append_right _ (List.mem_cons_of_mem _ z))
          · refine Or.inr ⟨by rw [hlen]; omega, fun y hy => ?_⟩
            rcases List.mem_append.mp hy with u | u
            · exact p.2.2 y u j q
            · rcases List.mem_cons.mp u with e | e
              · rw [e]; exact hb j q
              · exact z2 y e
      · have q3 : as.length + bs.length = 200 := by rw [← q1, List.length_append]
        refine Or.inr ⟨by rw [hlen]; omega, fun y hy => ?_⟩
        rcases List.mem_append.mp hy with u | u
        · exact q2 y (List.mem_append_left _ u)
        · rcases List.mem_cons.mp u with e | e
          · rw [e]
            have : 0 < bs.length := by omega
            obtain ⟨b, hbm⟩ := List.exists_mem_of_length_pos this
            have h5 := hb b hbm
            have h6 := q2 b (List.mem_append_right _ hbm)
            omega
          · exact q2 y (List.mem_append_right _ (hsub y e))
    · rw [hj]
      exact Or.inl (List.mem_append_right _ List.mem_cons_self)
/-- a key that is there, or lies behind 200 -/
theorem SgK.has {S : Int → Prop} {ks : List Int} {k : Int} (h : SgK S ks) (hk : k ∈ ks ∨ (ks.length = 200 ∧ ∀ y ∈ ks, y < k)) : SgK (fun j => S j ∨ j = k) ks :=
  ⟨h.1, fun j q => Or.inl (h.2.1 j q), h.2.2.1, fun j q => by
    rcases q with q | q
    · exact h.2.2.2 j q
    · rw [q]; exact hk⟩
/-- beginnings in the order of their boxes -/
def srt (pk : List Int) : List Int := (List.range 12).flatMap (fun a : Nat => pk.filter (fun p => decide (p / 300 = (a : Int))))
theorem mem_srt {pk : List Int} (hp : ∀ p ∈ pk, 0 ≤ p ∧ p / 300 < 12) (p : Int) : p ∈ srt pk ↔ p ∈ pk := by
  unfold srt
  rw [List.mem_flatMap]
  constructor
  · rintro ⟨a, -, h⟩
    exact (List.mem_filter.mp h).1
  · intro h
    have := hp p h
    refine ⟨(p / 300).toNat, List.mem_range.mpr (by omega), List.mem_filter.mpr ⟨h, ?_⟩⟩
    rw [decide_eq_true_eq]
    omega
theorem flt_ord {pk : List Int} (hd : pk.Pairwise (fun p q => p / 300 ≠ q / 300)) (a : Nat) : (pk.filter (fun p => decide (p / 300 = (a : Int)))).Pairwise (fun p q => p / 300 < q / 300) := by
  have h := (List.Pairwise.filter (fun p => decide (p / 300 = (a : Int))) hd)
  refine List.Pairwise.imp_of_mem (fun {p q} hp hq z => ?_) h
  have e1 := (List.mem_filter.mp hp).2
  have e2 := (List.mem_filter.mp hq).2
  rw [decide_eq_true_eq] at e1 e2
  exact absurd (e1.trans e2.symm) z
theorem srt_ord {pk : List Int} (hd : pk.Pairwise (fun p q => p / 300 ≠ q / 300)) : (srt pk).Pairwise (fun p q => p / 300 < q / 300) := by
  unfold srt
  rw [List.pairwise_flatMap]
  refine ⟨fun a _ => flt_ord hd a, ?_⟩
  refine List.Pairwise.imp (fun {a b} z p hp q hq => ?_) List.pairwise_lt_range
  have e1 := (List.mem_filter.mp hp).2
  have e2 := (List.mem_filter.mp hq).2
  rw [decide_eq_true_eq] at e1 e2
  omega
theorem srt_len {pk : List Int} (hp : ∀ p ∈ pk, 0 ≤ p ∧ p / 300 < 12) (hd : pk.Pairwise (fun p q => p / 300 ≠ q / 300)) : (srt pk).length = pk.length := by
  have n1 : (srt pk).Nodup := (srt_ord hd).imp (fun q e => by rw [e] at q; omega)
  have n2 : pk.Nodup := hd.imp (fun q e => q (by rw [e]))
  exact Nat.le_antisymm (n1.length_le_of_subset (fun x q => (mem_srt hp x).mp q)) (n2.length_le_of_subset (fun x q => (mem_srt hp x).mpr q))
section FD
variable (H : Int → Prop) (K : Int → Int → Prop) (nb sp : Int)
/-- what is not explained yet -/
def Opn (pk : List Int) (u : Int) : Prop := H u ∧ ∀ a ∈ pk, ¬ K a u
/-- the first such -/
def Fst (pk : List Int) (f : Int) : Prop := (0 ≤ f ∧ f < sp) ∧ Opn H K pk f ∧ ∀ u, 0 ≤ u → u < f → ¬ Opn H K pk u
/-- what may be picked next -/
def Cnd (pk : List Int) (f p : Int) : Prop := (0 ≤ p ∧ p / 300 < nb ∧ p % 300 ≤ f) ∧ (∀ a ∈ pk, a / 300 ≠ p / 300) ∧ K p f ∧ ∀ u, 0 ≤ u → u < sp → K p u → H u
/-- keys that the search finds behind the beginnings pk -/
def FdS : Nat → List Int → Int → Prop
  | 0, pk, k => (∀ u, 0 ≤ u → u < sp → ¬ Opn H K pk u) ∧ k = keyL (srt pk)
  | d + 1, pk, k => ∃ f, Fst H K sp pk f ∧ ∃ p, Cnd H K nb sp pk f p ∧ FdS d (pk ++ [p]) k
/-- a beginning's place, its box, and that it fits -/
def Pks (pk : List Int) : Prop := (∀ p ∈ pk, (0 ≤ p ∧ p / 300 < nb ∧ p % 300 < sp) ∧ ∀ u, 0 ≤ u → u < sp → K p u → H u) ∧ pk.Pairwise (fun p q => p / 300 ≠ q / 300)
end FD
section FD2
variable {H : Int → Prop} {K : Int → Int → Prop} {nb sp : Int}
theorem Pks.nil : Pks H K nb sp [] := ⟨fun _ q => absurd q List.not_mem_nil, List.Pairwise.nil⟩
theorem Pks.snoc {pk : List Int} {f p : Int} (h : Pks H K nb sp pk) (hf : f < sp) (hc : Cnd H K nb sp pk f p) : Pks H K nb sp (pk ++ [p]) := by
  refine ⟨fun q hq => ?_, ?_⟩
  · rcases List.mem_append.mp hq with z | z
    · exact h.1 q z
    · rw [List.mem_singleton.mp z]
      exact ⟨⟨hc.1.1, hc.1.2.1, by have := hc.1.2.2; omega⟩, hc.2.2.2⟩
  · rw [List.pairwise_append]
    exact ⟨h.2, List.pairwise_singleton _ _, fun a ha b hb => by rw [List.mem_singleton.mp hb]; exact hc.2.1 a ha⟩
theorem Pks.st {pk : List Int} (hn : nb ≤ 12) (h : Pks H K nb sp pk) (ho : ∀ u, 0 ≤ u → u < sp → ¬ Opn H K pk u) : Sm H K nb sp pk.length (srt pk) := by
  have hp : ∀ p ∈ pk, 0 ≤ p ∧ p / 300 < 12 := fun p q => by have := (h.1 p q).1; omega
  refine ⟨⟨fun p q => (h.1 p ((mem_srt hp p).mp q)).1, srt_ord h.2, fun u u0 us => ⟨fun hu => ?_, fun ⟨p, q, ku⟩ => (h.1 p ((mem_srt hp p).mp q)).2 u u0 us ku⟩⟩, srt_len hp h.2⟩
  have := ho u u0 us
  unfold Opn at this
  apply Classical.byContradiction
  intro z
  exact this ⟨hu, fun a ha ka => z ⟨a, (mem_srt hp a).mpr ha, ka⟩⟩
theorem Fd_st (hn : nb ≤ 12) : ∀ (d : Nat) (pk : List Int) (k : Int), Pks H K nb sp pk → FdS H K nb sp d pk k → ∃ x, Sm H K nb sp (pk.length + d) x ∧ k = keyL x
  | 0, pk, k, hp, ⟨ho, hk⟩ => ⟨srt pk, hp.st hn ho, hk⟩
  | d + 1, pk, k, hp, ⟨f, hf, p, hc, hk⟩ => by
    obtain ⟨x, hx, e⟩ := Fd_st hn d (pk ++ [p]) k (hp.snoc hf.1.2 hc) hk
    rw [List.length_append, List.length_singleton] at hx
    exact ⟨x, by rw [show pk.length + (d + 1) = pk.length + 1 + d by omega]; exact hx, e⟩
theorem fst_ex {P : Int → Prop} : ∀ (n : Nat), (∃ u, 0 ≤ u ∧ u < (n : Int) ∧ P u) → ∃ f, (0 ≤ f ∧ f < (n : Int)) ∧ P f ∧ ∀ u, 0 ≤ u → u < f → ¬ P u
  | 0, ⟨u, a, b, _⟩ => by omega
  | n + 1, ⟨u, a, b, c⟩ => by
    by_cases q : ∃ u, 0 ≤ u ∧ u < (n : Int) ∧ P u
    · obtain ⟨f, h1, h2, h3⟩ := fst_ex n q
      exact ⟨f, by omega, h2, h3⟩
    · refine ⟨u, ⟨a, b⟩, c, fun v v0 vu hv => q ⟨v, v0, by omega, hv⟩⟩
theorem st_Fd {n : Nat} (hn : nb ≤ 12) (hsp : 0 ≤ sp) (hK : ∀ p u, 0 ≤ p → K p u → p % 300 ≤ u) (hmin : ∀ m, m < n → ∀ x, ¬ Sm H K nb sp m x) {x : List Int} (hx : Sm H K nb sp n x) : ∀ (d : Nat) (pk : List Int), pk.length + d = n → (∀ p ∈ pk, p ∈ x) → pk.Pairwise (fun p q => p / 300 ≠ q / 300) → FdS H K nb sp d pk (keyL x)
  | d, pk, hl, hs, hd => by
    obtain ⟨⟨x1, x2, x3⟩, x4⟩ := hx
    have hxd := ord_inj (f := fun p => p / 300) x x2
    have hfit : ∀ p ∈ x, ∀ u, 0 ≤ u → u < sp → K p u → H u := fun p hp u a b c => (x3 u a b).mpr ⟨p, hp, c⟩
    have hpk : Pks H K nb sp pk := ⟨fun p q => ⟨x1 p (hs p q), hfit p (hs p q)⟩, hd⟩
    have hp12 : ∀ p ∈ pk, 0 ≤ p ∧ p / 300 < 12 := fun p q => by have := x1 p (hs p q); omega
    match d, hl with
    | 0, hl =>
      have nd : pk.Nodup := hd.imp (fun q e => q (by rw [e]))
      have nx : x.Nodup := x2.imp (fun q e => by rw [e] at q; omega)
      have hsub : ∀ p ∈ x, p ∈ pk := fun p hp => by
        apply Classical.byContradiction
        intro z
        have : (p :: pk).length ≤ x.length := (List.nodup_cons.mpr ⟨z, nd⟩).length_le_of_subset (fun y hy => by
          rcases List.mem_cons.mp hy with e | e
          · rw [e]; exact hp
          · exact hs y e)
        rw [List.length_cons] at this
        omega
      have e : x = srt pk := ord_eq (f := fun p => p / 300) x (srt pk) x2 (srt_ord hd) (fun p => ⟨fun q => (mem_srt hp12 p).mpr (hsub p q), fun q => hs p ((mem_srt hp12 p).mp q)⟩)
      refine ⟨fun u u0 us ⟨hu, hno⟩ => ?_, by rw [← e]⟩
      obtain ⟨p, hp, ku⟩ := (x3 u u0 us).mp hu
      exact hno p (hsub p hp) ku
    | d + 1, hl =>
      have hex : ∃ u, 0 ≤ u ∧ u < ((sp.toNat : Nat) : Int) ∧ Opn H K pk u := by
        apply Classical.byContradiction
        intro z
        exact hmin pk.length (by omega) _ (hpk.st hn (fun u u0 us ho => z ⟨u, u0, by omega, ho⟩))
      obtain ⟨f, hf1, hf2, hf3⟩ := fst_ex sp.toNat hex
      obtain ⟨p, hp, kf⟩ := (x3 f hf1.1 (by omega)).mp hf2.1
      have hnp : p ∉ pk := fun z => hf2.2 p z kf
      have hcd : ∀ a ∈ pk, a / 300 ≠ p / 300 := fun a ha e => hnp (by rw [← hxd a (hs a ha) p hp e]; exact ha)
      have hxp := x1 p hp
      refine ⟨f, ⟨⟨hf1.1, by omega⟩, hf2, hf3⟩, p, ⟨⟨hxp.1, hxp.2.1, hK p f hxp.1 kf⟩, hcd, kf, hfit p hp⟩, ?_⟩
      refine st_Fd hn hsp hK hmin ⟨⟨x1, x2, x3⟩, x4⟩ d (pk ++ [p]) (by rw [List.length_append, List.length_singleton]; omega) (fun q hq => ?_) ?_
      · rcases List.mem_append.mp hq with z | z
        · exact hs q z
        · rw [List.mem_singleton.mp z]; exact hp
      · rw [List.pairwise_append]
        exact ⟨hd, List.pairwise_singleton _ _, fun a ha b hb => by rw [List.mem_singleton.mp hb]; exact hcd a ha⟩
/-- the search finds the stories, and nothing else -/
theorem Fd_iff {n : Nat} (hn : nb ≤ 12) (hsp : 0 ≤ sp) (hK : ∀ p u, 0 ≤ p → K p u → p % 300 ≤ u) (hmin : ∀ m, m < n → ∀ x, ¬ Sm H K nb sp m x) (k : Int) : FdS H K nb sp n [] k ↔ ∃ x, Sm H K nb sp n x ∧ k = keyL x := by
  constructor
  · intro h
    obtain ⟨x, hx, e⟩ := Fd_st hn n [] k Pks.nil h
    rw [List.length_nil, Nat.zero_add] at hx
    exact ⟨x, hx, e⟩
  · rintro ⟨x, hx, e⟩
    rw [e]
    exact st_Fd hn hsp hK hmin hx n [] (by rw [List.length_nil]; omega) (fun _ q => absurd q List.not_mem_nil) List.Pairwise.nil
end FD2
