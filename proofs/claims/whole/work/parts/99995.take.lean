/-! the class: a reading is taken -/

theorem cCp_B {σ : Hp} {q r f t : Int} {P : Int → Prop} (hB : B64 (aL σ r) P) : ∀ n : Nat, B64 (aL (cCp σ q r f t n) r) (fun u => P u ∨ ∃ j : Int, 0 ≤ j ∧ j < n ∧ aI σ (fR σ 1002 q) j = f + u ∧ f + u ≤ t)
  | 0 => hB.congr (fun u _ _ => ⟨Or.inl, fun y => y.elim id (fun ⟨j, a, b, _⟩ => by omega)⟩)
  | n + 1 => by
    have ih := cCp_B hB (q := q) (f := f) (t := t) n
    have ext : ∀ u, (∃ j : Int, 0 ≤ j ∧ j < ((n + 1 : Nat) : Int) ∧ aI σ (fR σ 1002 q) j = f + u ∧ f + u ≤ t) ↔ ((∃ j : Int, 0 ≤ j ∧ j < (n : Int) ∧ aI σ (fR σ 1002 q) j = f + u ∧ f + u ≤ t) ∨ (aI σ (fR σ 1002 q) n = f + u ∧ f + u ≤ t)) := fun u => by
      constructor
      · rintro ⟨j, a, b, c⟩
        by_cases e : j = n
        · rw [e] at c; exact Or.inr c
        · exact Or.inl ⟨j, a, by omega, c⟩
      · rintro (⟨j, a, b, c⟩ | c)
        · exact ⟨j, a, by omega, c⟩
        · exact ⟨n, by omega, by omega, c⟩
    unfold cCp
    generalize aI σ (fR σ 1002 q) n = a at *
    by_cases c : a ≤ t ∧ 0 ≤ (a - f) / 64 ∧ (a - f) / 64 < 5
    · rw [if_pos c]
      intro w w0 w5 j hj
      rw [aL_qL]
      have ihw := ih w w0 w5 j hj
      by_cases e : w = (a - f) / 64
      · rw [if_pos ⟨rfl, e⟩, BitVec.getLsbD_or, Bool.or_eq_true, ← e, ihw]
        dsimp only
        rw [ext, one_shl (by omega) hj, decide_eq_true_eq]
        constructor
        · rintro ((u | u) | u)
          · exact Or.inl u
          · exact Or.inr (Or.inl u)
          · exact Or.inr (Or.inr (by omega))
        · rintro (u | u | u)
          · exact Or.inl (Or.inl u)
          · exact Or.inl (Or.inr u)
          · exact Or.inr (by omega)
      · rw [if_neg (fun z => e z.2), ihw]
        dsimp only
        rw [ext]
        constructor
        · rintro (u | u)
          · exact Or.inl u
          · exact Or.inr (Or.inl u)
        · rintro (u | u | u)
          · exact Or.inl u
          · exact Or.inr u
          · exfalso; omega
    · rw [if_neg c]
      refine ih.congr (fun u u0 u1 => ?_)
      rw [ext]
      constructor
      · rintro (v | v)
        · exact Or.inl v
        · exact Or.inr (Or.inl v)
      · rintro (v | v | v)
        · exact Or.inl v
        · exact Or.inr v
        · exfalso; omega
theorem cCp_fz5 (σ : Hp) (q r f t : Int) : ∀ n : Nat, Fz [] noR (fun x => x = r) σ (cCp σ q r f t n)
  | 0 => Fz.rf σ
  | n + 1 => by
    have ih := cCp_fz5 σ q r f t n
    unfold cCp
    split
    · exact ih.tr (Fz_qL _ _ _ rfl)
    · exact ih
/-- the loop's boxes and their wheels, as a search wants them -/
theorem RB.wheel {σ τ : Hp} {l k p : Int} (hB : RB τ) (hI : MI τ) (hl : 0 ≤ l ∧ l < 4) (hk : 0 ≤ k ∧ k < aI τ 74 l) (h : BxE σ τ (aI τ 75 (12 * l + k)) p) : (0 ≤ fI σ 309 p ∧ fI σ 309 p ≤ 150) ∧ (∀ t u, 0 ≤ t → t < 300 → (whl σ p (u - t) = true ↔ mK τ l k t u)) ∧ ∀ o, whl σ p o = true → o < fI σ 309 p := by
  obtain ⟨-, -, -, -, -, -, -, -, -, -, hln, -, -, hw⟩ := h
  have hb := hB.1 l k hl.1 hl.2 hk.1 hk.2
  have hb0 := hI.boxAt_ (12 * l + k)
  have hlo := (hB.2.2 _ hb0.1 hb.1).1
  have hkn := (hB.2.2 _ hb0.1 hb.1).2
  have hl0 := hI.lastOf_ (aI τ 75 (12 * l + k))
  have hkk := fun j => hI.knock_ (15 * aI τ 75 (12 * l + k) + j)
  have big : ∀ o, 128 ≤ o → whl σ p o = false := fun o ho => by
    unfold whl
    rw [if_neg (by omega), if_neg (by omega)]
    exact BitVec.getLsbD_of_ge _ _ (by omega)
  have rng : ∀ r j, (0 ≤ r ∧ r < 3) → (0 ≤ j ∧ j < aI τ 72 (aI τ 75 (12 * l + k))) → 0 ≤ r * (aI τ 73 (aI τ 75 (12 * l + k)) + 7) + aI τ 71 (15 * aI τ 75 (12 * l + k) + j) ∧ r * (aI τ 73 (aI τ 75 (12 * l + k)) + 7) + aI τ 71 (15 * aI τ 75 (12 * l + k) + j) ≤ 3 * aI τ 73 (aI τ 75 (12 * l + k)) + 14 := fun r j hr hj => by
    have h1 := hkn j hj.1 hj.2
    have h2 := hkk j
    generalize aI τ 73 (aI τ 75 (12 * l + k)) = y at *
    generalize aI τ 71 (15 * aI τ 75 (12 * l + k) + j) = x at *
    have : r = 0 ∨ r = 1 ∨ r = 2 := by omega
    rcases this with rfl | rfl | rfl <;> omega
  refine ⟨by omega, fun t u t0 t3 => ?_, fun o ho => ?_⟩
  · unfold mK
    constructor
    · intro e
      by_cases c1 : u - t < 0
      · rw [whl_neg c1] at e; cases e
      · by_cases c2 : 128 ≤ u - t
        · rw [big _ c2] at e; cases e
        · obtain ⟨r, j, hr, hj, e2⟩ := (hw (u - t) (by omega) (by omega)).mp e
          exact ⟨r, j, hr, hj, by omega⟩
    · rintro ⟨r, j, hr, hj, e⟩
      have := rng r j hr hj
      exact (hw (u - t) (by omega) (by omega)).mpr ⟨r, j, hr, hj, by omega⟩
  · by_cases c1 : o < 0
    · rw [whl_neg c1] at ho; cases ho
    · by_cases c2 : 128 ≤ o
      · rw [big _ c2] at ho; cases ho
      · obtain ⟨r, j, hr, hj, e2⟩ := (hw o (by omega) (by omega)).mp ho
        have := rng r j hr hj
        omega
theorem mK_ge {τ : Hp} (hI : MI τ) (l : Int) : ∀ p u, 0 ≤ p → mK τ l (p / 300) (p % 300) u → p % 300 ≤ u := fun p u _ h => by
  obtain ⟨r, j, hr, -, e⟩ := h
  have h1 := hI.lastOf_ (aI τ 75 (12 * l + p / 300))
  have h2 := hI.knock_ (15 * aI τ 75 (12 * l + p / 300) + j)
  generalize aI τ 73 (aI τ 75 (12 * l + p / 300)) = y at *
  generalize aI τ 71 (15 * aI τ 75 (12 * l + p / 300) + j) = x at *
  have : r = 0 ∨ r = 1 ∨ r = 2 := by omega
  rcases this with rfl | rfl | rfl <;> omega
theorem keyL_inj {H : Int → Prop} {K : Int → Int → Prop} {nb sp : Int} (hn : nb ≤ 12) (hsp : sp ≤ 300) {n : Nat} (h3 : n ≤ 3) : ∀ x y, Sm H K nb sp n x → Sm H K nb sp n y → keyL x = keyL y → x = y := fun x y hx hy e => by
  have bx : ∀ p ∈ x, 0 ≤ k13 p ∧ k13 p < 8192 := fun p q => k13_in (n := nb) (by have := hx.1.1 p q; omega) hn
  have b9 : ∀ p ∈ y, 0 ≤ k13 p ∧ k13 p < 8192 := fun p q => k13_in (n := nb) (by have := hy.1.1 p q; omega) hn
  match n, h3, hx.2, hy.2 with
  | 0, _, a, b => rw [List.length_eq_zero_iff.mp a, List.length_eq_zero_iff.mp b]
  | 1, _, a, b =>
    obtain ⟨p, rfl⟩ := len1 a
    obtain ⟨p', rfl⟩ := len1 b
    rw [keyL_1, keyL_1] at e
    rw [k13_inj e]
  | 2, _, a, b =>
    obtain ⟨p, q, rfl⟩ := len2 a
    obtain ⟨p', q', rfl⟩ := len2 b
    rw [keyL_2, keyL_2] at e
    simp only [List.mem_cons, List.not_mem_nil, or_false, forall_eq_or_imp, forall_eq] at bx b9
    have e1 : k13 p = k13 p' := by omega
    have e2 : k13 q = k13 q' := by omega
    rw [k13_inj e1, k13_inj e2]
  | 3, _, a, b =>
    obtain ⟨p, q, r, rfl⟩ := len3 a
    obtain ⟨p', q', r', rfl⟩ := len3 b
    rw [keyL_3, keyL_3] at e
    simp only [List.mem_cons, List.not_mem_nil, or_false, forall_eq_or_imp, forall_eq] at bx b9
    have e1 : k13 p = k13 p' := by omega
    have e2 : k13 q = k13 q' := by omega
    have e3 : k13 r = k13 r' := by omega
    rw [k13_inj e1, k13_inj e2, k13_inj e3]
  | n + 4, h3, _, _ => omega
/-- keys of stories are stories -/
theorem SgK.sg {M : List Int → Prop} (hi : ∀ x y, M x → M y → keyL x = keyL y → x = y) {ks : List Int} (h : SgK (fun k => ∃ x, M x ∧ k = keyL x) ks) : ∃ xs : List (List Int), xs.map keyL = ks ∧ Sg M xs := by
  have hex : ∀ ks : List Int, (∀ k ∈ ks, ∃ x, M x ∧ k = keyL x) → ∃ xs : List (List Int), xs.map keyL = ks ∧ ∀ x ∈ xs, M x := by
    intro ks
    induction ks with
    | nil => intro _; exact ⟨[], rfl, fun x q => absurd q List.not_mem_nil⟩
    | cons k ks ih =>
      intro hk
      obtain ⟨xs, e, hm⟩ := ih (fun j q => hk j (List.mem_cons_of_mem _ q))
      obtain ⟨x, hx, e2⟩ := hk k List.mem_cons_self
      refine ⟨x :: xs, by rw [List.map_cons, e, e2], fun y q => ?_⟩
      rcases List.mem_cons.mp q with z | z
      · rw [z]; exact hx
      · exact hm y z
  obtain ⟨xs, e, hm⟩ := hex ks h.2.1
  refine ⟨xs, e, ?_, hm, ?_, fun x hx => ?_⟩
  · have := h.1
    rw [← e, List.pairwise_map] at this
    exact this
  · have := h.2.2.1
    rw [← e, List.length_map] at this
    exact this
  · rcases h.2.2.2 (keyL x) ⟨x, hx, rfl⟩ with q | ⟨q1, q2⟩
    · rw [← e] at q
      obtain ⟨y, hy, e3⟩ := List.mem_map.mp q
      exact Or.inl (by rw [← hi y x (hm y hy) hx e3]; exact hy)
    · refine Or.inr ⟨by rw [← q1, ← e, List.length_map], fun y hy => ?_⟩
      exact q2 (keyL y) (by rw [← e]; exact List.mem_map_of_mem hy)
theorem RdR.uniq {H : Int → Prop} {K : Int → Int → Prop} {nb sp r1 s1 r2 s2 : Int} {xs ys : List (List Int)} (hn : nb ≤ 12) (hsp : sp ≤ 300) (h : RdR H K nb sp r1 s1 xs) (g : RdR H K nb sp r2 s2 ys) : r1 = r2 ∧ s1 = s2 ∧ xs = ys := by
  have ne : ∀ {n : Nat} {zs : List (List Int)}, Sg (Sm H K nb sp n) zs → zs ≠ [] → ∃ x, Sm H K nb sp n x := fun {n zs} a b => by
    cases zs with
    | nil => exact absurd rfl b
    | cons z zs => exact ⟨z, a.2.1 z List.mem_cons_self⟩
  have u1 := fun {n : Nat} (h3 : n ≤ 3) {xs ys : List (List Int)} (a : Sg (Sm H K nb sp n) xs) (b : Sg (Sm H K nb sp n) ys) => Sg.uniq (keyL_inj hn hsp h3) a b
  rcases h with ⟨a1, a2, a3, a4⟩ | ⟨⟨u, v1, v2, v3⟩, h⟩
  · rcases g with ⟨b1, b2, b3, b4⟩ | ⟨⟨u, v1, v2, v3⟩, g⟩
    · exact ⟨by omega, by omega, by rw [a4, b4]⟩
    · exact absurd v3 (a3 u v1 v2)
  · rcases g with ⟨b1, b2, b3, b4⟩ | ⟨-, g⟩
    · exact absurd v3 (b3 u v1 v2)
    · rcases h with ⟨a1, a2, a3, a4⟩ | ⟨n1, h⟩
      · rcases g with ⟨b1, b2, b3, b4⟩ | ⟨m1, g⟩
        · exact ⟨by omega, by omega, u1 (by decide) a3 b3⟩
        · obtain ⟨x, hx⟩ := ne a3 a4
          exact absurd hx (m1 x)
      · rcases g with ⟨b1, b2, b3, b4⟩ | ⟨m1, g⟩
        · obtain ⟨x, hx⟩ := ne b3 b4
          exact absurd hx (n1 x)
        · rcases h with ⟨a1, a2, a3, a4⟩ | ⟨n2, a2, a3, h⟩
          · rcases g with ⟨b1, b2, b3, b4⟩ | ⟨m2, b2, b3, g⟩
            · exact ⟨by omega, by omega, u1 (by decide) a3 b3⟩
            · obtain ⟨x, hx⟩ := ne a3 a4
              exact absurd hx (m2 x)
          · rcases g with ⟨b1, b2, b3, b4⟩ | ⟨m2, b2, b3, g⟩
            · obtain ⟨x, hx⟩ := ne b3 b4
              exact absurd hx (n2 x)
            · have e := u1 (by decide) a3 b3
              refine ⟨?_, by omega, e⟩
              rw [e] at h
              rcases h with ⟨q1, q2⟩ | ⟨q1, q2⟩
              · rcases g with ⟨p1, p2⟩ | ⟨p1, p2⟩
                · omega
                · exact absurd q1 p1
              · rcases g with ⟨p1, p2⟩ | ⟨p1, p2⟩
                · exact absurd p1 q1
                · omega
/-- what a reading may change -/
abbrev tfF : List Nat := [1106, 1107, 1108, 1109]
abbrev tfA (r : Int) : Prop := r = 12 ∨ r = 13
abbrev tfL (r : Int) : Prop := r = 5 ∨ r = 6 ∨ r = 14 ∨ (8 ≤ r ∧ r ≤ 11)
def spEf : Sp := fun av σ Q => ∃ d, d ≤ 3 ∧ sp_X10_explainFrom d av σ Q
theorem row_ef : Row RX10 (.invokevirtual 73) 3 2 0 0 20 spEf := by
  intro g p l e s m args below meth cd nL lv mc ms Q cc ret pc ls av rest σ k Qf C hn hr hlv ha hb hd hsp hQf
  obtain ⟨d, hd2, hs⟩ := hsp
  exact rr_X10_584 (c_X10_explainFrom d) g p l e s m args below meth cd nL lv mc ms Q cc ret pc ls av rest σ k Qf C hn hr (by omega) ha hb hd hs hQf
theorem ef_call {H : Int → Prop} {K : Int → Int → Prop} {nb sp l : Int} {ρ : Hp} {n : Nat} (hn : 1 ≤ n ∧ n ≤ 3) (hE : RGe H K nb sp l n ρ) (hB : B64 (aL ρ 8) (fun u => u < sp ∧ H u)) (hKM : KM ρ []) (Q' : Option AV → Hp → Prop) (h : ∀ σ' ks', FzD 0 ρ σ' → KM σ' ks' → SgK (FdS H K nb sp n []) ks' → Q' none σ') : spEf [vr 4, vi 0] ρ Q' := by
  refine ⟨n, hn.2, ?_⟩
  rw [us_X10_explainFrom]
  have hk : kd ρ 4 = 11 := by simp only [hE.1.eqs]
  refine ⟨hk, rfl, H, K, nb, sp, l, [], [], fun _ => False, ⟨by rw [Int.zero_add]; exact hE, rfl, fun i p hi => (by cases hi), ⟨fun p q => absurd q List.not_mem_nil, List.Pairwise.nil⟩, hB.congr (fun u _ _ => ⟨fun y => ⟨y.1, y.2, fun a q => absurd q List.not_mem_nil⟩, fun y => ⟨y.1, y.2.1⟩⟩), hKM, SgK.nil⟩, by omega, fun σ' ks' y1 y2 y3 => h σ' ks' y1 y2 (y3.congr (fun k => ⟨fun y => y.elim (fun z => z.elim) id, Or.inr⟩))⟩
theorem Sm0_no {H : Int → Prop} {K : Int → Int → Prop} {nb sp : Int} (hex : ∃ u, 0 ≤ u ∧ u < sp ∧ H u) : ∀ x, ¬ Sm H K nb sp 0 x := fun x hx => by
  obtain ⟨u, a, b, c⟩ := hex
  have e := List.length_eq_zero_iff.mp hx.2
  obtain ⟨p, hp, -⟩ := (hx.1.2.2 u a b).mp c
  rw [e] at hp
  exact absurd hp List.not_mem_nil
theorem Sg_nil {M : List Int → Prop} (h : ∀ x, ¬ M x) : Sg M [] := ⟨List.Pairwise.nil, fun x q => absurd q List.not_mem_nil, Nat.zero_le _, fun x hx => absurd hx (h x)⟩

def sp_X10_takeFrom : Sp := fun av σ Q => oR av fun this av => oR av fun r av => oI av fun f av => oI av fun t av => av = [] ∧ kd σ this = 11 ∧ (this = 4 ∧ CLay σ ∧ ∃ (τ : Hp) (l : Int), (0 ≤ l ∧ l < 4) ∧ r = 45 + 4 * l ∧ LR l σ τ ∧ MI τ ∧ RB τ ∧ (1 ≤ f ∧ f ≤ t ∧ t ≤ 999999 ∧ t - f ≤ 299) ∧ ∀ σ' res sz xs, RdR (fun u => mTaped τ l (f + u)) (fun p u => mK τ l (p / 300) (p % 300) u) (aI τ 74 l) (t - f + 1) res sz xs → Fz tfF tfA tfL σ σ' → fR σ' 1106 4 = r + 1 → fI σ' 1107 4 = f → fI σ' 1108 4 = (if xs = [] then 0 else sz) → KM σ' (xs.map keyL) → Q (some (vi res)) σ')
theorem us_X10_takeFrom (this : Int) (r : Int) (f : Int) (t : Int) (σ : Hp) (Q : Option AV → Hp → Prop) : sp_X10_takeFrom [vr this, vr r, vi f, vi t] σ Q = (kd σ this = 11 ∧ (this = 4 ∧ CLay σ ∧ ∃ (τ : Hp) (l : Int), (0 ≤ l ∧ l < 4) ∧ r = 45 + 4 * l ∧ LR l σ τ ∧ MI τ ∧ RB τ ∧ (1 ≤ f ∧ f ≤ t ∧ t ≤ 999999 ∧ t - f ≤ 299) ∧ ∀ σ' res sz xs, RdR (fun u => mTaped τ l (f + u)) (fun p u => mK τ l (p / 300) (p % 300) u) (aI τ 74 l) (t - f + 1) res sz xs → Fz tfF tfA tfL σ σ' → fR σ' 1106 4 = r + 1 → fI σ' 1107 4 = f → fI σ' 1108 4 = (if xs = [] then 0 else sz) → KM σ' (xs.map keyL) → Q (some (vi res)) σ')) := propext ⟨fun h => h.2, fun h => ⟨rfl, h⟩⟩
theorem el_X10_takeFrom {av : List AV} {σ : Hp} {Q : Option AV → Hp → Prop} (h : sp_X10_takeFrom av σ Q) : ∃ (this : Int) (r : Int) (f : Int) (t : Int), av = [vr this, vr r, vi f, vi t] ∧ (kd σ this = 11 ∧ (this = 4 ∧ CLay σ ∧ ∃ (τ : Hp) (l : Int), (0 ≤ l ∧ l < 4) ∧ r = 45 + 4 * l ∧ LR l σ τ ∧ MI τ ∧ RB τ ∧ (1 ≤ f ∧ f ≤ t ∧ t ≤ 999999 ∧ t - f ≤ 299) ∧ ∀ σ' res sz xs, RdR (fun u => mTaped τ l (f + u)) (fun p u => mK τ l (p / 300) (p % 300) u) (aI τ 74 l) (t - f + 1) res sz xs → Fz tfF tfA tfL σ σ' → fR σ' 1106 4 = r + 1 → fI σ' 1107 4 = f → fI σ' 1108 4 = (if xs = [] then 0 else sz) → KM σ' (xs.map keyL) → Q (some (vi res)) σ')) := by
  obtain ⟨this, a0, rfl, h0⟩ := oR_s h
  obtain ⟨r, a1, rfl, h1⟩ := oR_s h0
  obtain ⟨f, a2, rfl, h2⟩ := oI_s h1
  obtain ⟨t, a3, rfl, h3⟩ := oI_s h2
  obtain ⟨rfl, hz⟩ := h3
  exact ⟨this, r, f, t, rfl, hz⟩
theorem rc_X10_takeFrom : ∀ (av : List AV) (σ : Hp) (Q : Option AV → Hp → Prop), sp_X10_takeFrom av σ Q → ∃ r tl, av = vr r :: tl ∧ kd σ r = 10 + 1 := fun av σ Q h => by
  obtain ⟨this, r, f, t, rfl, hz, -⟩ := el_X10_takeFrom h
  exact ⟨this, _, rfl, hz⟩

def tb_X10_takeFrom : Tab := [(0, .aload_n 0, 1, (0, 0, 0, 0)), (1, .aload_n 1, 1, (0, 0, 0, 0)), (2, .getfield 50, 3, (10, 1000, 2, 0)), (5, .putfield 36, 3, (11, 1106, 2, 0)), (8, .aload_n 0, 1, (0, 0, 0, 0)), (9, .iload_n 2, 1, (0, 0, 0, 0)), (10, .putfield 40, 3, (11, 1107, 0, 0)), (13, .aload_n 0, 1, (0, 0, 0, 0)), (14, .iload_n 3, 1, (0, 0, 0, 0)), (15, .iload_n 2, 1, (0, 0, 0, 0)), (16, .isub, 1, (0, 0, 0, 0)), (17, .iconst 1, 1, (0, 0, 0, 0)), (18, .iadd, 1, (0, 0, 0, 0)), (19, .invokevirtual 53, 3, (0, 0, 0, 0)), (22, .aload_n 1, 1, (0, 0, 0, 0)), (23, .iload_n 2, 1, (0, 0, 0, 0)), (24, .iload_n 3, 1, (0, 0, 0, 0)), (25, .aload_n 0, 1, (0, 0, 0, 0)), (26, .getfield 9, 3, (11, 1100, 2, 0)), (29, .invokevirtual 57, 3, (0, 0, 0, 0)), (32, .aload_n 0, 1, (0, 0, 0, 0)), (33, .aload_n 0, 1, (0, 0, 0, 0)), (34, .getfield 9, 3, (11, 1100, 2, 0)), (37, .iconst 0, 1, (0, 0, 0, 0)), (38, .invokevirtual 61, 3, (0, 0, 0, 0)), (41, .aload_n 0, 1, (0, 0, 0, 0)), (42, .iconst 0, 1, (0, 0, 0, 0)), (43, .putfield 47, 3, (11, 1109, 0, 0)), (46, .aload_n 0, 1, (0, 0, 0, 0)), (47, .iconst 0, 1, (0, 0, 0, 0)), (48, .putfield 44, 3, (11, 1108, 0, 0)), (51, .aload_n 0, 1, (0, 0, 0, 0)), (52, .iconst 0, 1, (0, 0, 0, 0)), (53, .invokevirtual 65, 3, (0, 0, 0, 0)), (56, .ifCond .eq 10, 3, (0, 0, 0, 0)), (59, .aload_n 0, 1, (0, 0, 0, 0)), (60, .lconst 0, 1, (0, 0, 0, 0)), (61, .invokevirtual 69, 3, (0, 0, 0, 0)), (64, .iconst 0, 1, (0, 0, 0, 0)), (65, .ireturn, 1, (0, 0, 0, 0)), (66, .iconst 1, 1, (0, 0, 0, 0)), (67, .istore 4, 2, (0, 0, 0, 0)), (69, .iload 4, 2, (0, 0, 0, 0)), (71, .iconst 3, 1, (0, 0, 0, 0)), (72, .if_icmp .gt 27, 3, (0, 0, 0, 0)), (75, .aload_n 0, 1, (0, 0, 0, 0)), (76, .getfield 47, 3, (11, 1109, 0, 0)), (79, .ifCond .ne 20, 3, (0, 0, 0, 0)), (82, .aload_n 0, 1, (0, 0, 0, 0)), (83, .iload 4, 2, (0, 0, 0, 0)), (85, .putfield 44, 3, (11, 1108, 0, 0)), (88, .aload_n 0, 1, (0, 0, 0, 0)), (89, .iconst 0, 1, (0, 0, 0, 0)), (90, .invokevirtual 73, 3, (0, 0, 0, 0)), (93, .iinc 4 1, 3, (0, 0, 0, 0)), (96, .goto (-27), 3, (0, 0, 0, 0)), (99, .aload_n 0, 1, (0, 0, 0, 0)), (100, .aload_n 0, 1, (0, 0, 0, 0)), (101, .getfield 47, 3, (11, 1109, 0, 0)), (104, .ifCond .ne 7, 3, (0, 0, 0, 0)), (107, .iconst 0, 1, (0, 0, 0, 0)), (108, .goto 7, 3, (0, 0, 0, 0)), (111, .aload_n 0, 1, (0, 0, 0, 0)), (112, .getfield 44, 3, (11, 1108, 0, 0)), (115, .putfield 44, 3, (11, 1108, 0, 0)), (118, .aload_n 0, 1, (0, 0, 0, 0)), (119, .getfield 47, 3, (11, 1109, 0, 0)), (122, .ifCond .ne 7, 3, (0, 0, 0, 0)), (125, .iconst (-1), 1, (0, 0, 0, 0)), (126, .goto 7, 3, (0, 0, 0, 0)), (129, .aload_n 0, 1, (0, 0, 0, 0)), (130, .getfield 44, 3, (11, 1108, 0, 0)), (133, .ireturn, 1, (0, 0, 0, 0))]
set_option maxRecDepth 100000 in
theorem tk_X10_takeFrom : TOK RX10 false cX10_takeFrom tb_X10_takeFrom := chkT_ok ft_X10 (by decide +kernel)
theorem rw_X10_424 : Row RX10 (.invokevirtual 53) 3 2 0 0 1 sp_X10_openRange := row_V (n := 1) (ci := 10) c_X10_openRange ⟨TBL_in 731 (by decide +kernel) rfl, TBL_in 734 (by decide +kernel) rfl, TBL_in 112 (by decide +kernel) rfl, by decide +kernel, by decide⟩ (by decide) rfl (TBL_in 733 (by decide +kernel) rfl) (TBL_in 12 (by decide +kernel) rfl) rc_X10_openRange
theorem rw_X10_456 : Row RX10 (.invokevirtual 57) 3 4 0 0 1 sp_X9_copyTape := row_V (n := 3) (ci := 9) c_X9_copyTape ⟨TBL_in 736 (by decide +kernel) rfl, TBL_in 739 (by decide +kernel) rfl, TBL_in 122 (by decide +kernel) rfl, by decide +kernel, by decide⟩ (by decide) rfl (TBL_in 737 (by decide +kernel) rfl) (TBL_in 738 (by decide +kernel) rfl) rc_X9_copyTape
theorem rw_X10_488 : Row RX10 (.invokevirtual 61) 3 3 0 0 1 sp_X10_copyWords := row_V (n := 2) (ci := 10) c_X10_copyWords ⟨TBL_in 740 (by decide +kernel) rfl, TBL_in 743 (by decide +kernel) rfl, TBL_in 112 (by decide +kernel) rfl, by decide +kernel, by decide⟩ (by decide) rfl (TBL_in 742 (by decide +kernel) rfl) (TBL_in 13 (by decide +kernel) rfl) rc_X10_copyWords
def mt_X10_takeFrom : List (Nat × Mt) := [(424, 2, 0, 0, 1, sp_X10_openRange), (456, 4, 0, 0, 1, sp_X9_copyTape), (488, 3, 0, 0, 1, sp_X10_copyWords), (520, 2, 0, 0, 3, sp_X10_isExplained), (552, 2, 0, 0, 1, sp_X10_keepKey), (584, 2, 0, 0, 20, spEf)]
theorem em_X10_takeFrom : mt_X10_takeFrom.lookup 424 = some (2, 0, 0, 1, sp_X10_openRange) ∧ mt_X10_takeFrom.lookup 456 = some (4, 0, 0, 1, sp_X9_copyTape) ∧ mt_X10_takeFrom.lookup 488 = some (3, 0, 0, 1, sp_X10_copyWords) ∧ mt_X10_takeFrom.lookup 520 = some (2, 0, 0, 3, sp_X10_isExplained) ∧ mt_X10_takeFrom.lookup 552 = some (2, 0, 0, 1, sp_X10_keepKey) ∧ mt_X10_takeFrom.lookup 584 = some (2, 0, 0, 20, spEf) := ⟨rfl, rfl, rfl, rfl, rfl, rfl⟩
theorem mk_X10_takeFrom : MOK RX10 mt_X10_takeFrom := by
  intro q hq
  simp only [mt_X10_takeFrom, List.mem_cons, List.not_mem_nil, or_false] at hq
  rcases hq with rfl | rfl | rfl | rfl | rfl | rfl
  · exact rw_X10_424
  · exact rw_X10_456
  · exact rw_X10_488
  · exact rw_X10_520
  · exact rw_X10_552
  · exact row_ef
noncomputable def xe_X10_takeFrom (ct : Nat → Bool) (K : Kt) (R : Option AV → Hp → Prop) (n : Nat) : Kt := exS 5 22 0 0 1 tb_X10_takeFrom mt_X10_takeFrom ct K R n
noncomputable def xk_X10_takeFrom (ct : Nat → Bool) (K : Kt) (R : Option AV → Hp → Prop) (n : Nat) : Kt := exkS 5 22 0 0 1 tb_X10_takeFrom mt_X10_takeFrom ct K R n
theorem xt_X10_takeFrom {ct : Nat → Bool} {K : Kt} {R : Option AV → Hp → Prop} {n pc : Nat} {ls : List (Option AV)} {st : List AV} {σ : Hp} {k : Nat × Nat} (h : ct pc = true) : xk_X10_takeFrom ct K R n pc ls st σ k = K pc ls st σ k := by unfold xk_X10_takeFrom exkS; rw [h]
theorem xf_X10_takeFrom {ct : Nat → Bool} {K : Kt} {R : Option AV → Hp → Prop} {n pc : Nat} {ls : List (Option AV)} {st : List AV} {σ : Hp} {k : Nat × Nat} (h : ct pc = false) : xk_X10_takeFrom ct K R n pc ls st σ k = xe_X10_takeFrom ct K R n pc ls st σ k := by unfold xk_X10_takeFrom exkS xe_X10_takeFrom; rw [h]
theorem ev_X10_takeFrom_0 {ct : Nat → Bool} {K : Kt} {R : Option AV → Hp → Prop} {n : Nat} {ls : List (Option AV)} {st : List AV} {σ : Hp} {k : Nat × Nat} : xe_X10_takeFrom ct K R (n + 1) 0 ls st σ k = (lR ls 0 fun x => xk_X10_takeFrom ct K R n 1 ls (vr x :: st) σ k) := exS_step.trans rfl
theorem ev_X10_takeFrom_1 {ct : Nat → Bool} {K : Kt} {R : Option AV → Hp → Prop} {n : Nat} {ls : List (Option AV)} {st : List AV} {σ : Hp} {k : Nat × Nat} : xe_X10_takeFrom ct K R (n + 1) 1 ls st σ k = (lR ls 1 fun x => xk_X10_takeFrom ct K R n 2 ls (vr x :: st) σ k) := exS_step.trans rfl
theorem ev_X10_takeFrom_2 {ct : Nat → Bool} {K : Kt} {R : Option AV → Hp → Prop} {n : Nat} {ls : List (Option AV)} {st : List AV} {σ : Hp} {k : Nat × Nat} : xe_X10_takeFrom ct K R (n + 1) 2 ls st σ k = (oR st fun x st => kd σ x = 10 ∧ xk_X10_takeFrom ct K R n 5 ls (vr (fR σ 1000 x) :: st) σ k) := exS_step.trans rfl
theorem ev_X10_takeFrom_5 {ct : Nat → Bool} {K : Kt} {R : Option AV → Hp → Prop} {n : Nat} {ls : List (Option AV)} {st : List AV} {σ : Hp} {k : Nat × Nat} : xe_X10_takeFrom ct K R (n + 1) 5 ls st σ k = (oR st fun v st => oR st fun x st => kd σ x = 11 ∧ xk_X10_takeFrom ct K R n 8 ls st (pR σ 1106 x v) k) := exS_step.trans rfl
theorem ev_X10_takeFrom_8 {ct : Nat → Bool} {K : Kt} {R : Option AV → Hp → Prop} {n : Nat} {ls : List (Option AV)} {st : List AV} {σ : Hp} {k : Nat × Nat} : xe_X10_takeFrom ct K R (n + 1) 8 ls st σ k = (lR ls 0 fun x => xk_X10_takeFrom ct K R n 9 ls (vr x :: st) σ k) := exS_step.trans rfl
theorem ev_X10_takeFrom_9 {ct : Nat → Bool} {K : Kt} {R : Option AV → Hp → Prop} {n : Nat} {ls : List (Option AV)} {st : List AV} {σ : Hp} {k : Nat × Nat} : xe_X10_takeFrom ct K R (n + 1) 9 ls st σ k = (lI ls 2 fun x => xk_X10_takeFrom ct K R n 10 ls (vi x :: st) σ k) := exS_step.trans rfl
theorem ev_X10_takeFrom_10 {ct : Nat → Bool} {K : Kt} {R : Option AV → Hp → Prop} {n : Nat} {ls : List (Option AV)} {st : List AV} {σ : Hp} {k : Nat × Nat} : xe_X10_takeFrom ct K R (n + 1) 10 ls st σ k = (oI st fun v st => oR st fun x st => kd σ x = 11 ∧ xk_X10_takeFrom ct K R n 13 ls st (pI σ 1107 x v) k) := exS_step.trans rfl
theorem ev_X10_takeFrom_13 {ct : Nat → Bool} {K : Kt} {R : Option AV → Hp → Prop} {n : Nat} {ls : List (Option AV)} {st : List AV} {σ : Hp} {k : Nat × Nat} : xe_X10_takeFrom ct K R (n + 1) 13 ls st σ k = (lR ls 0 fun x => xk_X10_takeFrom ct K R n 14 ls (vr x :: st) σ k) := exS_step.trans rfl
theorem ev_X10_takeFrom_14 {ct : Nat → Bool} {K : Kt} {R : Option AV → Hp → Prop} {n : Nat} {ls : List (Option AV)} {st : List AV} {σ : Hp} {k : Nat × Nat} : xe_X10_takeFrom ct K R (n + 1) 14 ls st σ k = (lI ls 3 fun x => xk_X10_takeFrom ct K R n 15 ls (vi x :: st) σ k) := exS_step.trans rfl
theorem ev_X10_takeFrom_15 {ct : Nat → Bool} {K : Kt} {R : Option AV → Hp → Prop} {n : Nat} {ls : List (Option AV)} {st : List AV} {σ : Hp} {k : Nat × Nat} : xe_X10_takeFrom ct K R (n + 1) 15 ls st σ k = (lI ls 2 fun x => xk_X10_takeFrom ct K R n 16 ls (vi x :: st) σ k) := exS_step.trans rfl
theorem ev_X10_takeFrom_16 {ct : Nat → Bool} {K : Kt} {R : Option AV → Hp → Prop} {n : Nat} {ls : List (Option AV)} {st : List AV} {σ : Hp} {k : Nat × Nat} : xe_X10_takeFrom ct K R (n + 1) 16 ls st σ k = (oI st fun y st => oI st fun x st => xk_X10_takeFrom ct K R n 17 ls (vi (x - y) :: st) σ k) := exS_step.trans rfl
theorem ev_X10_takeFrom_17 {ct : Nat → Bool} {K : Kt} {R : Option AV → Hp → Prop} {n : Nat} {ls : List (Option AV)} {st : List AV} {σ : Hp} {k : Nat × Nat} : xe_X10_takeFrom ct K R (n + 1) 17 ls st σ k = (xk_X10_takeFrom ct K R n 18 ls (vi (1) :: st) σ k) := exS_step.trans rfl
theorem ev_X10_takeFrom_18 {ct : Nat → Bool} {K : Kt} {R : Option AV → Hp → Prop} {n : Nat} {ls : List (Option AV)} {st : List AV} {σ : Hp} {k : Nat × Nat} : xe_X10_takeFrom ct K R (n + 1) 18 ls st σ k = (oI st fun y st => oI st fun x st => xk_X10_takeFrom ct K R n 19 ls (vi (x + y) :: st) σ k) := exS_step.trans rfl
theorem ev_X10_takeFrom_19 {ct : Nat → Bool} {K : Kt} {R : Option AV → Hp → Prop} {n : Nat} {ls : List (Option AV)} {st : List AV} {σ : Hp} {k : Nat × Nat} : xe_X10_takeFrom ct K R (n + 1) 19 ls st σ k = (popN 2 st [] fun av rest => (catS rest ≤ 8 ∧ 1 < 22 ∧ k.1 + 0 ≤ 0 ∧ k.2 + 0 ≤ 0) ∧ (sp_X10_openRange) av σ fun v σ' => xk_X10_takeFrom ct K R n 22 ls (v.toList ++ rest) σ' (k.1 + 0, k.2 + 0)) := exS_step.trans rfl
theorem ev_X10_takeFrom_22 {ct : Nat → Bool} {K : Kt} {R : Option AV → Hp → Prop} {n : Nat} {ls : List (Option AV)} {st : List AV} {σ : Hp} {k : Nat × Nat} : xe_X10_takeFrom ct K R (n + 1) 22 ls st σ k = (lR ls 1 fun x => xk_X10_takeFrom ct K R n 23 ls (vr x :: st) σ k) := exS_step.trans rfl
theorem ev_X10_takeFrom_23 {ct : Nat → Bool} {K : Kt} {R : Option AV → Hp → Prop} {n : Nat} {ls : List (Option AV)} {st : List AV} {σ : Hp} {k : Nat × Nat} : xe_X10_takeFrom ct K R (n + 1) 23 ls st σ k = (lI ls 2 fun x => xk_X10_takeFrom ct K R n 24 ls (vi x :: st) σ k) := exS_step.trans rfl
theorem ev_X10_takeFrom_24 {ct : Nat → Bool} {K : Kt} {R : Option AV → Hp → Prop} {n : Nat} {ls : List (Option AV)} {st : List AV} {σ : Hp} {k : Nat × Nat} : xe_X10_takeFrom ct K R (n + 1) 24 ls st σ k = (lI ls 3 fun x => xk_X10_takeFrom ct K R n 25 ls (vi x :: st) σ k) := exS_step.trans rfl
theorem ev_X10_takeFrom_25 {ct : Nat → Bool} {K : Kt} {R : Option AV → Hp → Prop} {n : Nat} {ls : List (Option AV)} {st : List AV} {σ : Hp} {k : Nat × Nat} : xe_X10_takeFrom ct K R (n + 1) 25 ls st σ k = (lR ls 0 fun x => xk_X10_takeFrom ct K R n 26 ls (vr x :: st) σ k) := exS_step.trans rfl
theorem ev_X10_takeFrom_26 {ct : Nat → Bool} {K : Kt} {R : Option AV → Hp → Prop} {n : Nat} {ls : List (Option AV)} {st : List AV} {σ : Hp} {k : Nat × Nat} : xe_X10_takeFrom ct K R (n + 1) 26 ls st σ k = (oR st fun x st => kd σ x = 11 ∧ xk_X10_takeFrom ct K R n 29 ls (vr (fR σ 1100 x) :: st) σ k) := exS_step.trans rfl
theorem ev_X10_takeFrom_29 {ct : Nat → Bool} {K : Kt} {R : Option AV → Hp → Prop} {n : Nat} {ls : List (Option AV)} {st : List AV} {σ : Hp} {k : Nat × Nat} : xe_X10_takeFrom ct K R (n + 1) 29 ls st σ k = (popN 4 st [] fun av rest => (catS rest ≤ 8 ∧ 1 < 22 ∧ k.1 + 0 ≤ 0 ∧ k.2 + 0 ≤ 0) ∧ (sp_X9_copyTape) av σ fun v σ' => xk_X10_takeFrom ct K R n 32 ls (v.toList ++ rest) σ' (k.1 + 0, k.2 + 0)) := exS_step.trans rfl
theorem ev_X10_takeFrom_32 {ct : Nat → Bool} {K : Kt} {R : Option AV → Hp → Prop} {n : Nat} {ls : List (Option AV)} {st : List AV} {σ : Hp} {k : Nat × Nat} : xe_X10_takeFrom ct K R (n + 1) 32 ls st σ k = (lR ls 0 fun x => xk_X10_takeFrom ct K R n 33 ls (vr x :: st) σ k) := exS_step.trans rfl
theorem ev_X10_takeFrom_33 {ct : Nat → Bool} {K : Kt} {R : Option AV → Hp → Prop} {n : Nat} {ls : List (Option AV)} {st : List AV} {σ : Hp} {k : Nat × Nat} : xe_X10_takeFrom ct K R (n + 1) 33 ls st σ k = (lR ls 0 fun x => xk_X10_takeFrom ct K R n 34 ls (vr x :: st) σ k) := exS_step.trans rfl
theorem ev_X10_takeFrom_34 {ct : Nat → Bool} {K : Kt} {R : Option AV → Hp → Prop} {n : Nat} {ls : List (Option AV)} {st : List AV} {σ : Hp} {k : Nat × Nat} : xe_X10_takeFrom ct K R (n + 1) 34 ls st σ k = (oR st fun x st => kd σ x = 11 ∧ xk_X10_takeFrom ct K R n 37 ls (vr (fR σ 1100 x) :: st) σ k) := exS_step.trans rfl
theorem ev_X10_takeFrom_37 {ct : Nat → Bool} {K : Kt} {R : Option AV → Hp → Prop} {n : Nat} {ls : List (Option AV)} {st : List AV} {σ : Hp} {k : Nat × Nat} : xe_X10_takeFrom ct K R (n + 1) 37 ls st σ k = (xk_X10_takeFrom ct K R n 38 ls (vi (0) :: st) σ k) := exS_step.trans rfl
theorem ev_X10_takeFrom_38 {ct : Nat → Bool} {K : Kt} {R : Option AV → Hp → Prop} {n : Nat} {ls : List (Option AV)} {st : List AV} {σ : Hp} {k : Nat × Nat} : xe_X10_takeFrom ct K R (n + 1) 38 ls st σ k = (popN 3 st [] fun av rest => (catS rest ≤ 8 ∧ 1 < 22 ∧ k.1 + 0 ≤ 0 ∧ k.2 + 0 ≤ 0) ∧ (sp_X10_copyWords) av σ fun v σ' => xk_X10_takeFrom ct K R n 41 ls (v.toList ++ rest) σ' (k.1 + 0, k.2 + 0)) := exS_step.trans rfl
theorem ev_X10_takeFrom_41 {ct : Nat → Bool} {K : Kt} {R : Option AV → Hp → Prop} {n : Nat} {ls : List (Option AV)} {st : List AV} {σ : Hp} {k : Nat × Nat} : xe_X10_takeFrom ct K R (n + 1) 41 ls st σ k = (lR ls 0 fun x => xk_X10_takeFrom ct K R n 42 ls (vr x :: st) σ k) := exS_step.trans rfl
theorem ev_X10_takeFrom_42 {ct : Nat → Bool} {K : Kt} {R : Option AV → Hp → Prop} {n : Nat} {ls : List (Option AV)} {st : List AV} {σ : Hp} {k : Nat × Nat} : xe_X10_takeFrom ct K R (n + 1) 42 ls st σ k = (xk_X10_takeFrom ct K R n 43 ls (vi (0) :: st) σ k) := exS_step.trans rfl
theorem ev_X10_takeFrom_43 {ct : Nat → Bool} {K : Kt} {R : Option AV → Hp → Prop} {n : Nat} {ls : List (Option AV)} {st : List AV} {σ : Hp} {k : Nat × Nat} : xe_X10_takeFrom ct K R (n + 1) 43 ls st σ k = (oI st fun v st => oR st fun x st => kd σ x = 11 ∧ xk_X10_takeFrom ct K R n 46 ls st (pI σ 1109 x v) k) := exS_step.trans rfl
theorem ev_X10_takeFrom_46 {ct : Nat → Bool} {K : Kt} {R : Option AV → Hp → Prop} {n : Nat} {ls : List (Option AV)} {st : List AV} {σ : Hp} {k : Nat × Nat} : xe_X10_takeFrom ct K R (n + 1) 46 ls st σ k = (lR ls 0 fun x => xk_X10_takeFrom ct K R n 47 ls (vr x :: st) σ k) := exS_step.trans rfl
theorem ev_X10_takeFrom_47 {ct : Nat → Bool} {K : Kt} {R : Option AV → Hp → Prop} {n : Nat} {ls : List (Option AV)} {st : List AV} {σ : Hp} {k : Nat × Nat} : xe_X10_takeFrom ct K R (n + 1) 47 ls st σ k = (xk_X10_takeFrom ct K R n 48 ls (vi (0) :: st) σ k) := exS_step.trans rfl
theorem ev_X10_takeFrom_48 {ct : Nat → Bool} {K : Kt} {R : Option AV → Hp → Prop} {n : Nat} {ls : List (Option AV)} {st : List AV} {σ : Hp} {k : Nat × Nat} : xe_X10_takeFrom ct K R (n + 1) 48 ls st σ k = (oI st fun v st => oR st fun x st => kd σ x = 11 ∧ xk_X10_takeFrom ct K R n 51 ls st (pI σ 1108 x v) k) := exS_step.trans rfl
theorem ev_X10_takeFrom_51 {ct : Nat → Bool} {K : Kt} {R : Option AV → Hp → Prop} {n : Nat} {ls : List (Option AV)} {st : List AV} {σ : Hp} {k : Nat × Nat} : xe_X10_takeFrom ct K R (n + 1) 51 ls st σ k = (lR ls 0 fun x => xk_X10_takeFrom ct K R n 52 ls (vr x :: st) σ k) := exS_step.trans rfl
theorem ev_X10_takeFrom_52 {ct : Nat → Bool} {K : Kt} {R : Option AV → Hp → Prop} {n : Nat} {ls : List (Option AV)} {st : List AV} {σ : Hp} {k : Nat × Nat} : xe_X10_takeFrom ct K R (n + 1) 52 ls st σ k = (xk_X10_takeFrom ct K R n 53 ls (vi (0) :: st) σ k) := exS_step.trans rfl
theorem ev_X10_takeFrom_53 {ct : Nat → Bool} {K : Kt} {R : Option AV → Hp → Prop} {n : Nat} {ls : List (Option AV)} {st : List AV} {σ : Hp} {k : Nat × Nat} : xe_X10_takeFrom ct K R (n + 1) 53 ls st σ k = (popN 2 st [] fun av rest => (catS rest ≤ 8 ∧ 3 < 22 ∧ k.1 + 0 ≤ 0 ∧ k.2 + 0 ≤ 0) ∧ (sp_X10_isExplained) av σ fun v σ' => xk_X10_takeFrom ct K R n 56 ls (v.toList ++ rest) σ' (k.1 + 0, k.2 + 0)) := exS_step.trans rfl
theorem ev_X10_takeFrom_56 {ct : Nat → Bool} {K : Kt} {R : Option AV → Hp → Prop} {n : Nat} {ls : List (Option AV)} {st : List AV} {σ : Hp} {k : Nat × Nat} : xe_X10_takeFrom ct K R (n + 1) 56 ls st σ k = (oI st fun x st => (wI x = wI 0 → xk_X10_takeFrom ct K R n 66 ls st σ k) ∧ (¬ (wI x = wI 0) → xk_X10_takeFrom ct K R n 59 ls st σ k)) := exS_step.trans rfl
theorem ev_X10_takeFrom_59 {ct : Nat → Bool} {K : Kt} {R : Option AV → Hp → Prop} {n : Nat} {ls : List (Option AV)} {st : List AV} {σ : Hp} {k : Nat × Nat} : xe_X10_takeFrom ct K R (n + 1) 59 ls st σ k = (lR ls 0 fun x => xk_X10_takeFrom ct K R n 60 ls (vr x :: st) σ k) := exS_step.trans rfl
theorem ev_X10_takeFrom_60 {ct : Nat → Bool} {K : Kt} {R : Option AV → Hp → Prop} {n : Nat} {ls : List (Option AV)} {st : List AV} {σ : Hp} {k : Nat × Nat} : xe_X10_takeFrom ct K R (n + 1) 60 ls st σ k = (xk_X10_takeFrom ct K R n 61 ls (vl (BitVec.ofNat 64 0) :: st) σ k) := exS_step.trans rfl
theorem ev_X10_takeFrom_61 {ct : Nat → Bool} {K : Kt} {R : Option AV → Hp → Prop} {n : Nat} {ls : List (Option AV)} {st : List AV} {σ : Hp} {k : Nat × Nat} : xe_X10_takeFrom ct K R (n + 1) 61 ls st σ k = (popN 2 st [] fun av rest => (catS rest ≤ 8 ∧ 1 < 22 ∧ k.1 + 0 ≤ 0 ∧ k.2 + 0 ≤ 0) ∧ (sp_X10_keepKey) av σ fun v σ' => xk_X10_takeFrom ct K R n 64 ls (v.toList ++ rest) σ' (k.1 + 0, k.2 + 0)) := exS_step.trans rfl
theorem ev_X10_takeFrom_64 {ct : Nat → Bool} {K : Kt} {R : Option AV → Hp → Prop} {n : Nat} {ls : List (Option AV)} {st : List AV} {σ : Hp} {k : Nat × Nat} : xe_X10_takeFrom ct K R (n + 1) 64 ls st σ k = (xk_X10_takeFrom ct K R n 65 ls (vi (0) :: st) σ k) := exS_step.trans rfl
theorem ev_X10_takeFrom_65 {ct : Nat → Bool} {K : Kt} {R : Option AV → Hp → Prop} {n : Nat} {ls : List (Option AV)} {st : List AV} {σ : Hp} {k : Nat × Nat} : xe_X10_takeFrom ct K R (n + 1) 65 ls st σ k = (oI st fun x st => st = [] ∧ True ∧ R (some (vi x)) σ) := exS_step.trans rfl
theorem ev_X10_takeFrom_66 {ct : Nat → Bool} {K : Kt} {R : Option AV → Hp → Prop} {n : Nat} {ls : List (Option AV)} {st : List AV} {σ : Hp} {k : Nat × Nat} : xe_X10_takeFrom ct K R (n + 1) 66 ls st σ k = (xk_X10_takeFrom ct K R n 67 ls (vi (1) :: st) σ k) := exS_step.trans rfl
theorem ev_X10_takeFrom_67 {ct : Nat → Bool} {K : Kt} {R : Option AV → Hp → Prop} {n : Nat} {ls : List (Option AV)} {st : List AV} {σ : Hp} {k : Nat × Nat} : xe_X10_takeFrom ct K R (n + 1) 67 ls st σ k = (oI st fun x st => 4 < 5 ∧ xk_X10_takeFrom ct K R n 69 (stL ls 4 (vi x)) st σ k) := exS_step.trans rfl
theorem ev_X10_takeFrom_69 {ct : Nat → Bool} {K : Kt} {R : Option AV → Hp → Prop} {n : Nat} {ls : List (Option AV)} {st : List AV} {σ : Hp} {k : Nat × Nat} : xe_X10_takeFrom ct K R (n + 1) 69 ls st σ k = (lI ls 4 fun x => xk_X10_takeFrom ct K R n 71 ls (vi x :: st) σ k) := exS_step.trans rfl
theorem ev_X10_takeFrom_71 {ct : Nat → Bool} {K : Kt} {R : Option AV → Hp → Prop} {n : Nat} {ls : List (Option AV)} {st : List AV} {σ : Hp} {k : Nat × Nat} : xe_X10_takeFrom ct K R (n + 1) 71 ls st σ k = (xk_X10_takeFrom ct K R n 72 ls (vi (3) :: st) σ k) := exS_step.trans rfl
theorem ev_X10_takeFrom_72 {ct : Nat → Bool} {K : Kt} {R : Option AV → Hp → Prop} {n : Nat} {ls : List (Option AV)} {st : List AV} {σ : Hp} {k : Nat × Nat} : xe_X10_takeFrom ct K R (n + 1) 72 ls st σ k = (oI st fun y st => oI st fun x st => (wI y < wI x → xk_X10_takeFrom ct K R n 99 ls st σ k) ∧ (¬ (wI y < wI x) → xk_X10_takeFrom ct K R n 75 ls st σ k)) := exS_step.trans rfl
theorem ev_X10_takeFrom_75 {ct : Nat → Bool} {K : Kt} {R : Option AV → Hp → Prop} {n : Nat} {ls : List (Option AV)} {st : List AV} {σ : Hp} {k : Nat × Nat} : xe_X10_takeFrom ct K R (n + 1) 75 ls st σ k = (lR ls 0 fun x => xk_X10_takeFrom ct K R n 76 ls (vr x :: st) σ k) := exS_step.trans rfl
theorem ev_X10_takeFrom_76 {ct : Nat → Bool} {K : Kt} {R : Option AV → Hp → Prop} {n : Nat} {ls : List (Option AV)} {st : List AV} {σ : Hp} {k : Nat × Nat} : xe_X10_takeFrom ct K R (n + 1) 76 ls st σ k = (oR st fun x st => kd σ x = 11 ∧ xk_X10_takeFrom ct K R n 79 ls (vi (fI σ 1109 x) :: st) σ k) := exS_step.trans rfl
theorem ev_X10_takeFrom_79 {ct : Nat → Bool} {K : Kt} {R : Option AV → Hp → Prop} {n : Nat} {ls : List (Option AV)} {st : List AV} {σ : Hp} {k : Nat × Nat} : xe_X10_takeFrom ct K R (n + 1) 79 ls st σ k = (oI st fun x st => (¬ wI x = wI 0 → xk_X10_takeFrom ct K R n 99 ls st σ k) ∧ (¬ (¬ wI x = wI 0) → xk_X10_takeFrom ct K R n 82 ls st σ k)) := exS_step.trans rfl
theorem ev_X10_takeFrom_82 {ct : Nat → Bool} {K : Kt} {R : Option AV → Hp → Prop} {n : Nat} {ls : List (Option AV)} {st : List AV} {σ : Hp} {k : Nat × Nat} : xe_X10_takeFrom ct K R (n + 1) 82 ls st σ k = (lR ls 0 fun x => xk_X10_takeFrom ct K R n 83 ls (vr x :: st) σ k) := exS_step.trans rfl
theorem ev_X10_takeFrom_83 {ct : Nat → Bool} {K : Kt} {R : Option AV → Hp → Prop} {n : Nat} {ls : List (Option AV)} {st : List AV} {σ : Hp} {k : Nat × Nat} : xe_X10_takeFrom ct K R (n + 1) 83 ls st σ k = (lI ls 4 fun x => xk_X10_takeFrom ct K R n 85 ls (vi x :: st) σ k) := exS_step.trans rfl
theorem ev_X10_takeFrom_85 {ct : Nat → Bool} {K : Kt} {R : Option AV → Hp → Prop} {n : Nat} {ls : List (Option AV)} {st : List AV} {σ : Hp} {k : Nat × Nat} : xe_X10_takeFrom ct K R (n + 1) 85 ls st σ k = (oI st fun v st => oR st fun x st => kd σ x = 11 ∧ xk_X10_takeFrom ct K R n 88 ls st (pI σ 1108 x v) k) := exS_step.trans rfl
theorem ev_X10_takeFrom_88 {ct : Nat → Bool} {K : Kt} {R : Option AV → Hp → Prop} {n : Nat} {ls : List (Option AV)} {st : List AV} {σ : Hp} {k : Nat × Nat} : xe_X10_takeFrom ct K R (n + 1) 88 ls st σ k = (lR ls 0 fun x => xk_X10_takeFrom ct K R n 89 ls (vr x :: st) σ k) := exS_step.trans rfl
theorem ev_X10_takeFrom_89 {ct : Nat → Bool} {K : Kt} {R : Option AV → Hp → Prop} {n : Nat} {ls : List (Option AV)} {st : List AV} {σ : Hp} {k : Nat × Nat} : xe_X10_takeFrom ct K R (n + 1) 89 ls st σ k = (xk_X10_takeFrom ct K R n 90 ls (vi (0) :: st) σ k) := exS_step.trans rfl
theorem ev_X10_takeFrom_90 {ct : Nat → Bool} {K : Kt} {R : Option AV → Hp → Prop} {n : Nat} {ls : List (Option AV)} {st : List AV} {σ : Hp} {k : Nat × Nat} : xe_X10_takeFrom ct K R (n + 1) 90 ls st σ k = (popN 2 st [] fun av rest => (catS rest ≤ 8 ∧ 20 < 22 ∧ k.1 + 0 ≤ 0 ∧ k.2 + 0 ≤ 0) ∧ (spEf) av σ fun v σ' => xk_X10_takeFrom ct K R n 93 ls (v.toList ++ rest) σ' (k.1 + 0, k.2 + 0)) := exS_step.trans rfl
theorem ev_X10_takeFrom_93 {ct : Nat → Bool} {K : Kt} {R : Option AV → Hp → Prop} {n : Nat} {ls : List (Option AV)} {st : List AV} {σ : Hp} {k : Nat × Nat} : xe_X10_takeFrom ct K R (n + 1) 93 ls st σ k = (lI ls 4 fun x => 4 < 5 ∧ xk_X10_takeFrom ct K R n 96 (stL ls 4 (vi (x + (1)))) st σ k) := exS_step.trans rfl
theorem ev_X10_takeFrom_96 {ct : Nat → Bool} {K : Kt} {R : Option AV → Hp → Prop} {n : Nat} {ls : List (Option AV)} {st : List AV} {σ : Hp} {k : Nat × Nat} : xe_X10_takeFrom ct K R (n + 1) 96 ls st σ k = (xk_X10_takeFrom ct K R n 69 ls st σ k) := exS_step.trans rfl
theorem ev_X10_takeFrom_99 {ct : Nat → Bool} {K : Kt} {R : Option AV → Hp → Prop} {n : Nat} {ls : List (Option AV)} {st : List AV} {σ : Hp} {k : Nat × Nat} : xe_X10_takeFrom ct K R (n + 1) 99 ls st σ k = (lR ls 0 fun x => xk_X10_takeFrom ct K R n 100 ls (vr x :: st) σ k) := exS_step.trans rfl
theorem ev_X10_takeFrom_100 {ct : Nat → Bool} {K : Kt} {R : Option AV → Hp → Prop} {n : Nat} {ls : List (Option AV)} {st : List AV} {σ : Hp} {k : Nat × Nat} : xe_X10_takeFrom ct K R (n + 1) 100 ls st σ k = (lR ls 0 fun x => xk_X10_takeFrom ct K R n 101 ls (vr x :: st) σ k) := exS_step.trans rfl
theorem ev_X10_takeFrom_101 {ct : Nat → Bool} {K : Kt} {R : Option AV → Hp → Prop} {n : Nat} {ls : List (Option AV)} {st : List AV} {σ : Hp} {k : Nat × Nat} : xe_X10_takeFrom ct K R (n + 1) 101 ls st σ k = (oR st fun x st => kd σ x = 11 ∧ xk_X10_takeFrom ct K R n 104 ls (vi (fI σ 1109 x) :: st) σ k) := exS_step.trans rfl
theorem ev_X10_takeFrom_104 {ct : Nat → Bool} {K : Kt} {R : Option AV → Hp → Prop} {n : Nat} {ls : List (Option AV)} {st : List AV} {σ : Hp} {k : Nat × Nat} : xe_X10_takeFrom ct K R (n + 1) 104 ls st σ k = (oI st fun x st => (¬ wI x = wI 0 → xk_X10_takeFrom ct K R n 111 ls st σ k) ∧ (¬ (¬ wI x = wI 0) → xk_X10_takeFrom ct K R n 107 ls st σ k)) := exS_step.trans rfl
theorem ev_X10_takeFrom_107 {ct : Nat → Bool} {K : Kt} {R : Option AV → Hp → Prop} {n : Nat} {ls : List (Option AV)} {st : List AV} {σ : Hp} {k : Nat × Nat} : xe_X10_takeFrom ct K R (n + 1) 107 ls st σ k = (xk_X10_takeFrom ct K R n 108 ls (vi (0) :: st) σ k) := exS_step.trans rfl
theorem ev_X10_takeFrom_108 {ct : Nat → Bool} {K : Kt} {R : Option AV → Hp → Prop} {n : Nat} {ls : List (Option AV)} {st : List AV} {σ : Hp} {k : Nat × Nat} : xe_X10_takeFrom ct K R (n + 1) 108 ls st σ k = (xk_X10_takeFrom ct K R n 115 ls st σ k) := exS_step.trans rfl
theorem ev_X10_takeFrom_111 {ct : Nat → Bool} {K : Kt} {R : Option AV → Hp → Prop} {n : Nat} {ls : List (Option AV)} {st : List AV} {σ : Hp} {k : Nat × Nat} : xe_X10_takeFrom ct K R (n + 1) 111 ls st σ k = (lR ls 0 fun x => xk_X10_takeFrom ct K R n 112 ls (vr x :: st) σ k) := exS_step.trans rfl
theorem ev_X10_takeFrom_112 {ct : Nat → Bool} {K : Kt} {R : Option AV → Hp → Prop} {n : Nat} {ls : List (Option AV)} {st : List AV} {σ : Hp} {k : Nat × Nat} : xe_X10_takeFrom ct K R (n + 1) 112 ls st σ k = (oR st fun x st => kd σ x = 11 ∧ xk_X10_takeFrom ct K R n 115 ls (vi (fI σ 1108 x) :: st) σ k) := exS_step.trans rfl
theorem ev_X10_takeFrom_115 {ct : Nat → Bool} {K : Kt} {R : Option AV → Hp → Prop} {n : Nat} {ls : List (Option AV)} {st : List AV} {σ : Hp} {k : Nat × Nat} : xe_X10_takeFrom ct K R (n + 1) 115 ls st σ k = (oI st fun v st => oR st fun x st => kd σ x = 11 ∧ xk_X10_takeFrom ct K R n 118 ls st (pI σ 1108 x v) k) := exS_step.trans rfl
theorem ev_X10_takeFrom_118 {ct : Nat → Bool} {K : Kt} {R : Option AV → Hp → Prop} {n : Nat} {ls : List (Option AV)} {st : List AV} {σ : Hp} {k : Nat × Nat} : xe_X10_takeFrom ct K R (n + 1) 118 ls st σ k = (lR ls 0 fun x => xk_X10_takeFrom ct K R n 119 ls (vr x :: st) σ k) := exS_step.trans rfl
theorem ev_X10_takeFrom_119 {ct : Nat → Bool} {K : Kt} {R : Option AV → Hp → Prop} {n : Nat} {ls : List (Option AV)} {st : List AV} {σ : Hp} {k : Nat × Nat} : xe_X10_takeFrom ct K R (n + 1) 119 ls st σ k = (oR st fun x st => kd σ x = 11 ∧ xk_X10_takeFrom ct K R n 122 ls (vi (fI σ 1109 x) :: st) σ k) := exS_step.trans rfl
theorem ev_X10_takeFrom_122 {ct : Nat → Bool} {K : Kt} {R : Option AV → Hp → Prop} {n : Nat} {ls : List (Option AV)} {st : List AV} {σ : Hp} {k : Nat × Nat} : xe_X10_takeFrom ct K R (n + 1) 122 ls st σ k = (oI st fun x st => (¬ wI x = wI 0 → xk_X10_takeFrom ct K R n 129 ls st σ k) ∧ (¬ (¬ wI x = wI 0) → xk_X10_takeFrom ct K R n 125 ls st σ k)) := exS_step.trans rfl
theorem ev_X10_takeFrom_125 {ct : Nat → Bool} {K : Kt} {R : Option AV → Hp → Prop} {n : Nat} {ls : List (Option AV)} {st : List AV} {σ : Hp} {k : Nat × Nat} : xe_X10_takeFrom ct K R (n + 1) 125 ls st σ k = (xk_X10_takeFrom ct K R n 126 ls (vi (-1) :: st) σ k) := exS_step.trans rfl
theorem ev_X10_takeFrom_126 {ct : Nat → Bool} {K : Kt} {R : Option AV → Hp → Prop} {n : Nat} {ls : List (Option AV)} {st : List AV} {σ : Hp} {k : Nat × Nat} : xe_X10_takeFrom ct K R (n + 1) 126 ls st σ k = (xk_X10_takeFrom ct K R n 133 ls st σ k) := exS_step.trans rfl
theorem ev_X10_takeFrom_129 {ct : Nat → Bool} {K : Kt} {R : Option AV → Hp → Prop} {n : Nat} {ls : List (Option AV)} {st : List AV} {σ : Hp} {k : Nat × Nat} : xe_X10_takeFrom ct K R (n + 1) 129 ls st σ k = (lR ls 0 fun x => xk_X10_takeFrom ct K R n 130 ls (vr x :: st) σ k) := exS_step.trans rfl
theorem ev_X10_takeFrom_130 {ct : Nat → Bool} {K : Kt} {R : Option AV → Hp → Prop} {n : Nat} {ls : List (Option AV)} {st : List AV} {σ : Hp} {k : Nat × Nat} : xe_X10_takeFrom ct K R (n + 1) 130 ls st σ k = (oR st fun x st => kd σ x = 11 ∧ xk_X10_takeFrom ct K R n 133 ls (vi (fI σ 1108 x) :: st) σ k) := exS_step.trans rfl
theorem ev_X10_takeFrom_133 {ct : Nat → Bool} {K : Kt} {R : Option AV → Hp → Prop} {n : Nat} {ls : List (Option AV)} {st : List AV} {σ : Hp} {k : Nat × Nat} : xe_X10_takeFrom ct K R (n + 1) 133 ls st σ k = (oI st fun x st => st = [] ∧ True ∧ R (some (vi x)) σ) := exS_step.trans rfl
def M_X10_takeFrom : Md := (yX10_takeFrom, cX10_takeFrom, 5, (some FieldType.int), 22, 0, 0, 1, false, tb_X10_takeFrom, mt_X10_takeFrom)
theorem mm_X10_takeFrom : MMOK M_X10_takeFrom := ⟨by decide +kernel, tk_X10_takeFrom, mk_X10_takeFrom, rfl, fun h => by cases h⟩
theorem go_X10_takeFrom {Q : Option AV → Hp → Prop} {ct : Nat → Bool} {pc : Nat} {ls : List (Option AV)} {st : List AV} {σ : Hp} {k : Nat × Nat} (n : Nat) (h : xe_X10_takeFrom ct (Go M_X10_takeFrom Q) Q n pc ls st σ k) : Go M_X10_takeFrom Q pc ls st σ k := Go.exS mm_X10_takeFrom h

set_option maxRecDepth 20000 in
theorem tf_96 {Q : Option AV → Hp → Prop} {ρ : Hp} {r f t n v : Int} (hk : kd ρ 4 = 11) (hf : 0 < fI ρ 1109 4 ∧ fI ρ 1109 4 ≤ 200) (hs : fI ρ 1108 4 = n) (h : Q (some (vi n)) (pI ρ 1108 4 n)) : Go M_X10_takeFrom Q 99 [some (vr 4), some (vr r), some (vi f), some (vi t), some (vi v)] [] ρ (0, 0) := by
  refine go_X10_takeFrom (ct := fun p => p == 107 || p == 125) 30 ?_
  simp only [oI, oL, oR, o1, lI, lL, lR, popN, catS, gv, stL, stL2, swt, cnd, spObj, List.getElem?_cons_zero, List.getElem?_cons_succ, List.getD_cons_zero, List.getD_cons_succ, List.set_cons_zero, List.set_cons_succ, List.nil_append, List.cons_append, Option.toList, Bool.or_false, Bool.false_or, Bool.or_true, Bool.true_or, Nat.reduceBEq, Nat.reduceAdd, Nat.reduceLT, Nat.reduceLeDiff, Int.reduceAdd, Int.reduceToNat, true_and, and_true, Fin.isValue, Fin.val_zero, Fin.val_one, Fin.val_two, Fin.reduceFinMk, eq_self, Int.reduceNeg, imp_self, Nat.reduceMul, Nat.le_refl, not_true_eq_false, not_false_eq_true, List.getElem?_nil, reduceCtorEq, true_or, or_true, Classical.not_not, implies_true, or_self, wI_0, wI_1, wI_m1, b2i_w, b2i_eq0, b2i_eq1, b2i_bool, nor_self, nx_pI, kd_pI, ln_pI, fI_pI, fL_pI, fR_pI, aI_pI, aL_pI, aR_pI, nx_pL, kd_pL, ln_pL, fI_pL, fL_pL, fR_pL, aI_pL, aL_pL, aR_pL, nx_pR, kd_pR, ln_pR, fI_pR, fL_pR, fR_pR, aI_pR, aL_pR, aR_pR, nx_qI, kd_qI, ln_qI, fI_qI, fL_qI, fR_qI, aI_qI, aL_qI, aR_qI, nx_qL, kd_qL, ln_qL, fI_qL, fL_qL, fR_qL, aI_qL, aL_qL, aR_qL, nx_qR, kd_qR, ln_qR, fI_qR, fL_qR, fR_qR, aI_qR, aL_qR, aR_qR, nx_mk, kd_mk, ln_mk, fI_mk, fL_mk, fR_mk, aI_mk, aL_mk, aR_mk, false_and, and_false, if_false, if_true, and_self, Int.reduceEq, Nat.reduceEqDiff, ite_self, MLay_pI, MLay_pL, MLay_qI, MLay_qL, ev_X10_takeFrom_99, ev_X10_takeFrom_100, ev_X10_takeFrom_101, ev_X10_takeFrom_104, ev_X10_takeFrom_107, ev_X10_takeFrom_108, ev_X10_takeFrom_111, ev_X10_takeFrom_112, ev_X10_takeFrom_115, ev_X10_takeFrom_118, ev_X10_takeFrom_119, ev_X10_takeFrom_122, ev_X10_takeFrom_125, ev_X10_takeFrom_126, ev_X10_takeFrom_129, ev_X10_takeFrom_130, ev_X10_takeFrom_133, xt_X10_takeFrom, xf_X10_takeFrom, us_X10_openRange, us_X9_copyTape, us_X10_copyWords, us_X10_isExplained, us_X10_keepKey, hk, hs]
  try simp (disch := omega) only [wI_id, dv_nn, rm_nn]
  repeat' (first | intro z | apply And.intro)
  all_goals try omega
  all_goals try contradiction
  all_goals exact h

set_option maxRecDepth 20000 in
theorem tf_66 {Q : Option AV → Hp → Prop} {σ : Hp} {H : Int → Prop} {K : Int → Int → Prop} {nb sp l r f t : Int} (hex : ∃ u, 0 ≤ u ∧ u < sp ∧ H u) (hK : ∀ p u, 0 ≤ p → K p u → p % 300 ≤ u) (h : ∀ σ' res sz xs, RdR H K nb sp res sz xs → Fz tfF tfA tfL σ σ' → fR σ' 1106 4 = r + 1 → fI σ' 1107 4 = f → fI σ' 1108 4 = (if xs = [] then 0 else sz) → KM σ' (xs.map keyL) → Q (some (vi res)) σ') : ∀ (m : Nat) (n : Nat) (ρ : Hp), n + m = 4 → 1 ≤ n → Fz tfF tfA tfL σ ρ → RGe H K nb sp l (fI ρ 1108 4) ρ → r = 45 + 4 * l → B64 (aL ρ 8) (fun u => u < sp ∧ H u) → KM ρ [] → fI ρ 1107 4 = f → (∀ k, k < n → ∀ x, ¬ Sm H K nb sp k x) → Go M_X10_takeFrom Q 69 [some (vr 4), some (vr r), some (vi f), some (vi t), some (vi n)] [] ρ (0, 0) := by
  intro m
  induction m with
  | zero =>
    intro n ρ hm hn z hE hr hB hKM hfr hno
    have e : n = 4 := by omega
    subst e
    have hC := hE.1
    have k4 : kd ρ 4 = 11 := by simp only [hC.eqs]
    have f0 : fI ρ 1109 4 = 0 := hKM.1
    have hf := h (pI ρ 1108 4 0) (-1) 3 [] (Or.inr ⟨hex, Or.inr ⟨hno 1 (by decide), Or.inr ⟨hno 2 (by decide), rfl, Sg_nil (hno 3 (by decide)), Or.inl ⟨rfl, rfl⟩⟩⟩⟩) (z.tr (Fz_pI _ _ _ (by decide))) (by rw [fR_pI, hE.2.2.1, hr]; omega) (by rw [fI_pI, if_neg (by decide)]; exact hfr) (by rw [fI_pI, if_pos ⟨rfl, rfl⟩, if_pos rfl]) ⟨by rw [fI_pI, if_neg (by decide)]; exact hKM.1, Nat.zero_le _, fun i k q => (by cases q)⟩
    clear h hE hB hKM hno z
    refine go_X10_takeFrom (ct := fun p => p == 75 || p == 111 || p == 129) 30 ?_
    simp only [oI, oL, oR, o1, lI, lL, lR, popN, catS, gv, stL, stL2, swt, cnd, spObj, List.getElem?_cons_zero, List.getElem?_cons_succ, List.getD_cons_zero, List.getD_cons_succ, List.set_cons_zero, List.set_cons_succ, List.nil_append, List.cons_append, Option.toList, Bool.or_false, Bool.false_or, Bool.or_true, Bool.true_or, Nat.reduceBEq, Nat.reduceAdd, Nat.reduceLT, Nat.reduceLeDiff, Int.reduceAdd, Int.reduceToNat, true_and, and_true, Fin.isValue, Fin.val_zero, Fin.val_one, Fin.val_two, Fin.reduceFinMk, eq_self, Int.reduceNeg, imp_self, Nat.reduceMul, Nat.le_refl, not_true_eq_false, not_false_eq_true, List.getElem?_nil, reduceCtorEq, true_or, or_true, Classical.not_not, implies_true, or_self, wI_0, wI_1, wI_m1, b2i_w, b2i_eq0, b2i_eq1, b2i_bool, nor_self, nx_pI, kd_pI, ln_pI, fI_pI, fL_pI, fR_pI, aI_pI, aL_pI, aR_pI, nx_pL, kd_pL, ln_pL, fI_pL, fL_pL, fR_pL, aI_pL, aL_pL, aR_pL, nx_pR, kd_pR, ln_pR, fI_pR, fL_pR, fR_pR, aI_pR, aL_pR, aR_pR, nx_qI, kd_qI, ln_qI, fI_qI, fL_qI, fR_qI, aI_qI, aL_qI, aR_qI, nx_qL, kd_qL, ln_qL, fI_qL, fL_qL, fR_qL, aI_qL, aL_qL, aR_qL, nx_qR, kd_qR, ln_qR, fI_qR, fL_qR, fR_qR, aI_qR, aL_qR, aR_qR, nx_mk, kd_mk, ln_mk, fI_mk, fL_mk, fR_mk, aI_mk, aL_mk, aR_mk, false_and, and_false, if_false, if_true, and_self, Int.reduceEq, Nat.reduceEqDiff, ite_self, MLay_pI, MLay_pL, MLay_qI, MLay_qL, ev_X10_takeFrom_69, ev_X10_takeFrom_71, ev_X10_takeFrom_72, ev_X10_takeFrom_75, ev_X10_takeFrom_76, ev_X10_takeFrom_79, ev_X10_takeFrom_82, ev_X10_takeFrom_83, ev_X10_takeFrom_85, ev_X10_takeFrom_88, ev_X10_takeFrom_89, ev_X10_takeFrom_90, ev_X10_takeFrom_93, ev_X10_takeFrom_96, ev_X10_takeFrom_99, ev_X10_takeFrom_100, ev_X10_takeFrom_101, ev_X10_takeFrom_104, ev_X10_takeFrom_107, ev_X10_takeFrom_108, ev_X10_takeFrom_111, ev_X10_takeFrom_112, ev_X10_takeFrom_115, ev_X10_takeFrom_118, ev_X10_takeFrom_119, ev_X10_takeFrom_122, ev_X10_takeFrom_125, ev_X10_takeFrom_126, ev_X10_takeFrom_129, ev_X10_takeFrom_130, ev_X10_takeFrom_133, xt_X10_takeFrom, xf_X10_takeFrom, us_X10_openRange, us_X9_copyTape, us_X10_copyWords, us_X10_isExplained, us_X10_keepKey, k4, f0]
    try simp (disch := omega) only [wI_id, dv_nn, rm_nn]
    repeat' (first | intro z | apply And.intro)
    all_goals try omega
    all_goals try contradiction
    all_goals exact hf
  | succ m ih =>
    intro n ρ hm hn z hE hr hB hKM hfr hno
    have hC := hE.1
    have k4 : kd ρ 4 = 11 := by simp only [hC.eqs]
    have f0 : fI ρ 1109 4 = 0 := hKM.1
    have hn3 : 1 ≤ n ∧ n ≤ 3 := by omega
    have y1 : Fz tfF tfA tfL ρ (pI ρ 1108 4 n) := Fz_pI _ _ _ (by decide)
    have E1 : RGe H K nb sp l n (pI ρ 1108 4 n) := by
      obtain ⟨e1, e2, e3, e4, e5, e6, e7, e8, e9, e10, e11⟩ := hE
      refine ⟨e1, e2, e3, e4, by rw [fI_pI, if_neg (by omega)]; exact e5, e6, e7, by rw [fI_pI, if_pos ⟨rfl, rfl⟩], e9, e10, fun k a b => ?_⟩
      have g := e11 k a b
      have ew : ∀ p o, whl (pI ρ 1108 4 n) p o = whl ρ p o := fun _ _ => rfl
      have el : ∀ k, lat (pI ρ 1108 4 n) (46 + 4 * l) k = lat ρ (46 + 4 * l) k := fun _ => rfl
      simp only [ew, el]
      rw [fI_pI, if_neg (fun q => absurd q.1 (by decide))]
      exact g
    have KM1 : KM (pI ρ 1108 4 n) [] := ⟨by rw [fI_pI, if_neg (by decide)]; exact hKM.1, Nat.zero_le _, fun i k q => (by cases q)⟩
    have w90 : ∀ σ' ks', FzD 0 (pI ρ 1108 4 n) σ' → KM σ' ks' → SgK (FdS H K nb sp n []) ks' → Go M_X10_takeFrom Q 93 [some (vr 4), some (vr r), some (vi f), some (vi t), some (vi n)] [] σ' (0, 0) := fun σ' ks' y2 y3 y4 => by
      have hnb := hE.2.2.2.2.2.1
      have hsp := hE.2.2.2.2.2.2.1
      have y5 := y4.congr (fun k => Fd_iff (k := k) hnb.2 (by omega) hK hno)
      obtain ⟨xs, e1, hSg⟩ := y5.sg (keyL_inj hnb.2 hsp.2 hn3.2)
      have E2 := E1.fz y2.1
      have yy : Fz tfF tfA tfL σ σ' := (z.tr y1).tr (y2.1.up (by decide) (fun r q => q) (fun r q => by unfold tfL; unfold seL at q; omega))
      have k2 : kd σ' 4 = 11 := by rw [y2.1.kd]; exact k4
      have fr2 : fI σ' 1107 4 = f := by rw [y2.1.fI (by decide), fI_pI, if_neg (by decide)]; exact hfr
      have lp2 := E2.2.2.1
      have sz2 := E2.2.2.2.2.2.2.2.1
      by_cases c : xs = []
      · subst c
        have e0 : ks' = [] := e1.symm
        subst e0
        have w := ih (n + 1) σ' (by omega) (by omega) yy (by rw [sz2]; exact E2) hr (by rw [y2.2.2 8 (by omega) (by omega)]; exact hB) y3 fr2 (fun k hk x hx => by
          by_cases q : k = n
          · rw [q] at hx; exact Sg.no hSg x hx
          · exact hno k (by omega) x hx)
        rw [Int.natCast_add] at w
        clear ih h hE hB hKM hno z E1 KM1 E2 hSg y5 y4 y3 y2 yy y1
        refine go_X10_takeFrom (ct := fun p => p == 69) 10 ?_
        simp only [oI, oL, oR, o1, lI, lL, lR, popN, catS, gv, stL, stL2, swt, cnd, spObj, List.getElem?_cons_zero, List.getElem?_cons_succ, List.getD_cons_zero, List.getD_cons_succ, List.set_cons_zero, List.set_cons_succ, List.nil_append, List.cons_append, Option.toList, Bool.or_false, Bool.false_or, Bool.or_true, Bool.true_or, Nat.reduceBEq, Nat.reduceAdd, Nat.reduceLT, Nat.reduceLeDiff, Int.reduceAdd, Int.reduceToNat, true_and, and_true, Fin.isValue, Fin.val_zero, Fin.val_one, Fin.val_two, Fin.reduceFinMk, eq_self, Int.reduceNeg, imp_self, Nat.reduceMul, Nat.le_refl, not_true_eq_false, not_false_eq_true, List.getElem?_nil, reduceCtorEq, true_or, or_true, Classical.not_not, implies_true, or_self, wI_0, wI_1, wI_m1, b2i_w, b2i_eq0, b2i_eq1, b2i_bool, nor_self, nx_pI, kd_pI, ln_pI, fI_pI, fL_pI, fR_pI, aI_pI, aL_pI, aR_pI, nx_pL, kd_pL, ln_pL, fI_pL, fL_pL, fR_pL, aI_pL, aL_pL, aR_pL, nx_pR, kd_pR, ln_pR, fI_pR, fL_pR, fR_pR, aI_pR, aL_pR, aR_pR, nx_qI, kd_qI, ln_qI, fI_qI, fL_qI, fR_qI, aI_qI, aL_qI, aR_qI, nx_qL, kd_qL, ln_qL, fI_qL, fL_qL, fR_qL, aI_qL, aL_qL, aR_qL, nx_qR, kd_qR, ln_qR, fI_qR, fL_qR, fR_qR, aI_qR, aL_qR, aR_qR, nx_mk, kd_mk, ln_mk, fI_mk, fL_mk, fR_mk, aI_mk, aL_mk, aR_mk, false_and, and_false, if_false, if_true, and_self, Int.reduceEq, Nat.reduceEqDiff, ite_self, MLay_pI, MLay_pL, MLay_qI, MLay_qL, ev_X10_takeFrom_93, ev_X10_takeFrom_96, xt_X10_takeFrom, xf_X10_takeFrom, us_X10_openRange, us_X9_copyTape, us_X10_copyWords, us_X10_isExplained, us_X10_keepKey]
        exact w
      · have hlen : 0 < ks'.length := by
          rw [← e1, List.length_map]
          cases xs with
          | nil => exact absurd rfl c
          | cons _ _ => simp
        have hf2 : 0 < fI σ' 1109 4 ∧ fI σ' 1109 4 ≤ 200 := by
          have := y3.1
          have := y3.2.1
          omega
        have hz : RdR H K nb sp n n xs := by
          refine Or.inr ⟨hex, ?_⟩
          have : n = 1 ∨ n = 2 ∨ n = 3 := by omega
          rcases this with rfl | rfl | rfl
          · exact Or.inl ⟨rfl, rfl, hSg, c⟩
          · exact Or.inr ⟨hno 1 (by decide), Or.inl ⟨rfl, rfl, hSg, c⟩⟩
          · exact Or.inr ⟨hno 1 (by decide), Or.inr ⟨hno 2 (by decide), rfl, hSg, Or.inr ⟨c, rfl⟩⟩⟩
        have hfin := h (pI σ' 1108 4 n) n n xs hz (yy.tr (Fz_pI _ _ _ (by decide))) (by rw [fR_pI, lp2, hr]; omega) (by rw [fI_pI, if_neg (by decide)]; exact fr2) (by rw [fI_pI, if_pos ⟨rfl, rfl⟩, if_neg c]) ⟨by rw [fI_pI, if_neg (by decide), e1]; exact y3.1, by rw [e1]; exact y3.2.1, fun i k q => by rw [e1] at q; exact y3.2.2 i k q⟩
        have w96 := fun v => tf_96 (r := r) (f := f) (t := t) (v := v) k2 hf2 sz2 hfin
        clear ih h hE hB hKM hno z E1 KM1 E2 hSg y5 y4 y3 y2 yy y1 hfin hz
        refine go_X10_takeFrom (ct := fun p => p == 82 || p == 99) 20 ?_
        simp only [oI, oL, oR, o1, lI, lL, lR, popN, catS, gv, stL, stL2, swt, cnd, spObj, List.getElem?_cons_zero, List.getElem?_cons_succ, List.getD_cons_zero, List.getD_cons_succ, List.set_cons_zero, List.set_cons_succ, List.nil_append, List.cons_append, Option.toList, Bool.or_false, Bool.false_or, Bool.or_true, Bool.true_or, Nat.reduceBEq, Nat.reduceAdd, Nat.reduceLT, Nat.reduceLeDiff, Int.reduceAdd, Int.reduceToNat, true_and, and_true, Fin.isValue, Fin.val_zero, Fin.val_one, Fin.val_two, Fin.reduceFinMk, eq_self, Int.reduceNeg, imp_self, Nat.reduceMul, Nat.le_refl, not_true_eq_false, not_false_eq_true, List.getElem?_nil, reduceCtorEq, true_or, or_true, Classical.not_not, implies_true, or_self, wI_0, wI_1, wI_m1, b2i_w, b2i_eq0, b2i_eq1, b2i_bool, nor_self, nx_pI, kd_pI, ln_pI, fI_pI, fL_pI, fR_pI, aI_pI, aL_pI, aR_pI, nx_pL, kd_pL, ln_pL, fI_pL, fL_pL, fR_pL, aI_pL, aL_pL, aR_pL, nx_pR, kd_pR, ln_pR, fI_pR, fL_pR, fR_pR, aI_pR, aL_pR, aR_pR, nx_qI, kd_qI, ln_qI, fI_qI, fL_qI, fR_qI, aI_qI, aL_qI, aR_qI, nx_qL, kd_qL, ln_qL, fI_qL, fL_qL, fR_qL, aI_qL, aL_qL, aR_qL, nx_qR, kd_qR, ln_qR, fI_qR, fL_qR, fR_qR, aI_qR, aL_qR, aR_qR, nx_mk, kd_mk, ln_mk, fI_mk, fL_mk, fR_mk, aI_mk, aL_mk, aR_mk, false_and, and_false, if_false, if_true, and_self, Int.reduceEq, Nat.reduceEqDiff, ite_self, MLay_pI, MLay_pL, MLay_qI, MLay_qL, ev_X10_takeFrom_69, ev_X10_takeFrom_71, ev_X10_takeFrom_72, ev_X10_takeFrom_75, ev_X10_takeFrom_76, ev_X10_takeFrom_79, ev_X10_takeFrom_93, ev_X10_takeFrom_96, xt_X10_takeFrom, xf_X10_takeFrom, us_X10_openRange, us_X9_copyTape, us_X10_copyWords, us_X10_isExplained, us_X10_keepKey, k2]
        try simp (disch := omega) only [wI_id, dv_nn, rm_nn]
        repeat' (first | intro z | apply And.intro)
        all_goals try omega
        all_goals try contradiction
        all_goals first | exact w96 _ | omega
    have hcall := ef_call (Q' := fun v σ' => Go M_X10_takeFrom Q 93 [some (vr 4), some (vr r), some (vi f), some (vi t), some (vi n)] (v.toList ++ []) σ' (0, 0)) hn3 E1 hB KM1 w90
    clear ih h hE hB hKM hno z E1 KM1 w90 y1
    refine go_X10_takeFrom (ct := fun p => p == 93 || p == 99) 20 ?_
    simp only [oI, oL, oR, o1, lI, lL, lR, popN, catS, gv, stL, stL2, swt, cnd, spObj, List.getElem?_cons_zero, List.getElem?_cons_succ, List.getD_cons_zero, List.getD_cons_succ, List.set_cons_zero, List.set_cons_succ, List.nil_append, List.cons_append, Option.toList, Bool.or_false, Bool.false_or, Bool.or_true, Bool.true_or, Nat.reduceBEq, Nat.reduceAdd, Nat.reduceLT, Nat.reduceLeDiff, Int.reduceAdd, Int.reduceToNat, true_and, and_true, Fin.isValue, Fin.val_zero, Fin.val_one, Fin.val_two, Fin.reduceFinMk, eq_self, Int.reduceNeg, imp_self, Nat.reduceMul, Nat.le_refl, not_true_eq_false, not_false_eq_true, List.getElem?_nil, reduceCtorEq, true_or, or_true, Classical.not_not, implies_true, or_self, wI_0, wI_1, wI_m1, b2i_w, b2i_eq0, b2i_eq1, b2i_bool, nor_self, nx_pI, kd_pI, ln_pI, fI_pI, fL_pI, fR_pI, aI_pI, aL_pI, aR_pI, nx_pL, kd_pL, ln_pL, fI_pL, fL_pL, fR_pL, aI_pL, aL_pL, aR_pL, nx_pR, kd_pR, ln_pR, fI_pR, fL_pR, fR_pR, aI_pR, aL_pR, aR_pR, nx_qI, kd_qI, ln_qI, fI_qI, fL_qI, fR_qI, aI_qI, aL_qI, aR_qI, nx_qL, kd_qL, ln_qL, fI_qL, fL_qL, fR_qL, aI_qL, aL_qL, aR_qL, nx_qR, kd_qR, ln_qR, fI_qR, fL_qR, fR_qR, aI_qR, aL_qR, aR_qR, nx_mk, kd_mk, ln_mk, fI_mk, fL_mk, fR_mk, aI_mk, aL_mk, aR_mk, false_and, and_false, if_false, if_true, and_self, Int.reduceEq, Nat.reduceEqDiff, ite_self, MLay_pI, MLay_pL, MLay_qI, MLay_qL, ev_X10_takeFrom_69, ev_X10_takeFrom_71, ev_X10_takeFrom_72, ev_X10_takeFrom_75, ev_X10_takeFrom_76, ev_X10_takeFrom_79, ev_X10_takeFrom_82, ev_X10_takeFrom_83, ev_X10_takeFrom_85, ev_X10_takeFrom_88, ev_X10_takeFrom_89, ev_X10_takeFrom_90, xt_X10_takeFrom, xf_X10_takeFrom, us_X10_openRange, us_X9_copyTape, us_X10_copyWords, us_X10_isExplained, us_X10_keepKey, k4, f0]
    try simp (disch := omega) only [wI_id, dv_nn, rm_nn]
    repeat' (first | intro z | apply And.intro)
    all_goals try omega
    all_goals try contradiction
    all_goals first | exact hcall | omega

set_option maxRecDepth 20000 in
theorem c_X10_takeFrom : Ct yX10_takeFrom cX10_takeFrom 5 ((some FieldType.int)) 22 0 0 sp_X10_takeFrom := by
  refine Ct.go (M := M_X10_takeFrom) mm_X10_takeFrom fun av σ Q h0 => ?_
  obtain ⟨this, r, f, t, rfl, hk, h⟩ := el_X10_takeFrom h0
  clear h0
  refine ⟨Nat.le_of_ble_eq_true rfl, ?_⟩
  show Go M_X10_takeFrom Q 0 [some (vr this), some (vr r), some (vi f), some (vi t), none] [] σ (0, 0)
  obtain ⟨rfl, hC, τ, l, hl, rfl, hLR, hI, hB, hr, h⟩ := h
  obtain ⟨⟨g1, g2, g3, g4, g5, g6, -, g7, g8, g9, g10, g11⟩, -⟩ := hLR.1
  have hbx := hLR.2
  have hmany := hI.many_ l
  have hL5 : fR σ 1002 (45 + 4 * l) = 48 + 4 * l ∧ kd σ (48 + 4 * l) = 101 ∧ ln σ (48 + 4 * l) = 500 ∧ kd σ (45 + 4 * l) = 10 := by
    have : l = 0 ∨ l = 1 ∨ l = 2 ∨ l = 3 := by omega
    rcases this with rfl | rfl | rfl | rfl <;> simp only [hC.eqs, Int.reduceAdd, Int.reduceMul, and_self]
  have htp := hI.taped_ l
  generalize hH : (fun u => mTaped τ l (f + u)) = H at *
  generalize hKK : (fun p u => mK τ l (p / 300) (p % 300) u) = K at *
  have hspn : 1 ≤ t - f + 1 ∧ t - f + 1 ≤ 300 := by omega
  have zc : ∀ ρ, Fz tfF tfA tfL σ ρ → CLay ρ := fun ρ z => hC.fz z (by decide)
  -- the memory when the rows are laid
  have w48 : ∀ ρ, Fz tfF tfA tfL σ ρ → fR ρ 1106 4 = 46 + 4 * l → fI ρ 1107 4 = f → fI ρ 1108 4 = 0 → fI ρ 1109 4 = 0 → B64 (aL ρ 5) (fun u => u < t - f + 1 ∧ H u) → B64 (aL ρ 6) (fun u => u < t - f + 1) → B64 (aL ρ 8) (fun u => u < t - f + 1 ∧ H u) → Go M_X10_takeFrom Q 51 [some (vr 4), some (vr (45 + 4 * l)), some (vi f), some (vi t), none] [] ρ (0, 0) := fun ρ z e1 e2 e3 e4 b5 b6 b8 => by
    have C := zc ρ z
    have k4 : kd ρ 4 = 11 := by simp only [C.eqs]
    have KM0 : KM ρ [] := ⟨e4, Nat.zero_le _, fun i k q => (by cases q)⟩
    have E0 : RGe H K (aI τ 74 l) (t - f + 1) l (fI ρ 1108 4) ρ := by
      have f1 := z.fI (f := 1402) (by decide)
      have r1 := z.fR (f := 1401) (by decide)
      refine ⟨C, hl, e1, ?_, by rw [f1]; exact g2, by omega, hspn, rfl, b5, b6, fun k a b => ?_⟩
      · unfold LOk lat at *
        rw [f1, r1, z.fR (f := 3000) (by decide), z.kd, z.ln, z.aR]
        exact g1
      · rw [lat_fz z (by decide), z.fI (by decide)]
        have ew : ∀ p o, whl ρ p o = whl σ p o := fun p o => by unfold whl; rw [z.fL (by decide), z.fL (by decide)]
        simp only [ew]
        rw [g3 k a b]
        have g := hB.wheel hI hl ⟨a, b⟩ (hbx k a b)
        refine ⟨g.1, fun t u t0 t3 => ?_, g.2.2⟩
        rw [g.2.1 t u t0 t3, ← hKK]
        dsimp only
        rw [show (300 * k + t) / 300 = k by omega, show (300 * k + t) % 300 = t by omega]
    have w53a : (∀ u, 0 ≤ u → u < 320 → ¬ (u < t - f + 1 ∧ H u)) → Go M_X10_takeFrom Q 56 [some (vr 4), some (vr (45 + 4 * l)), some (vi f), some (vi t), none] [vi 1] ρ (0, 0) := fun q => by
      have w61 : ∀ σ' ks', Fz [1109] noR (fun r => r = 14) ρ σ' → KM σ' ks' → SgK (fun j => False ∨ j = 0) ks' → Go M_X10_takeFrom Q 64 [some (vr 4), some (vr (45 + 4 * l)), some (vi f), some (vi t), none] [] σ' (0, 0) := fun σ' ks' y1 y2 y3 => by
        have eks : ks' = [0] := SgK.uniq y3 ((SgK.nil.ins (as := []) (bs := []) (k := 0) (fun _ q => absurd q List.not_mem_nil) (fun _ q => absurd q List.not_mem_nil) (by decide)))
        subst eks
        have hf := h σ' 0 0 [[]] (Or.inl ⟨rfl, rfl, fun u a b c => q u a (by omega) ⟨b, c⟩, rfl⟩) (z.tr (y1.up (by decide) (fun r q => absurd q id) (fun r q => by unfold tfL; omega))) (by rw [y1.fR (by decide), e1]; omega) (by rw [y1.fI (by decide)]; exact e2) (by rw [y1.fI (by decide), e3, if_neg (by decide)]) y2
        clear h hLR hI hB g1 g3 g4 g5 g6 g7 g8 g9 hbx b5 b6 b8 E0 KM0 y1 y2 y3
        refine go_X10_takeFrom (ct := fun p => p == 102) 10 ?_
        simp only [oI, oL, oR, o1, lI, lL, lR, popN, catS, gv, stL, stL2, swt, cnd, spObj, List.getElem?_cons_zero, List.getElem?_cons_succ, List.getD_cons_zero, List.getD_cons_succ, List.set_cons_zero, List.set_cons_succ, List.nil_append, List.cons_append, Option.toList, Bool.or_false, Bool.false_or, Bool.or_true, Bool.true_or, Nat.reduceBEq, Nat.reduceAdd, Nat.reduceLT, Nat.reduceLeDiff, Int.reduceAdd, Int.reduceToNat, true_and, and_true, Fin.isValue, Fin.val_zero, Fin.val_one, Fin.val_two, Fin.reduceFinMk, eq_self, Int.reduceNeg, imp_self, Nat.reduceMul, Nat.le_refl, not_true_eq_false, not_false_eq_true, List.getElem?_nil, reduceCtorEq, true_or, or_true, Classical.not_not, implies_true, or_self, wI_0, wI_1, wI_m1, b2i_w, b2i_eq0, b2i_eq1, b2i_bool, nor_self, nx_pI, kd_pI, ln_pI, fI_pI, fL_pI, fR_pI, aI_pI, aL_pI, aR_pI, nx_pL, kd_pL, ln_pL, fI_pL, fL_pL, fR_pL, aI_pL, aL_pL, aR_pL, nx_pR, kd_pR, ln_pR, fI_pR, fL_pR, fR_pR, aI_pR, aL_pR, aR_pR, nx_qI, kd_qI, ln_qI, fI_qI, fL_qI, fR_qI, aI_qI, aL_qI, aR_qI, nx_qL, kd_qL, ln_qL, fI_qL, fL_qL, fR_qL, aI_qL, aL_qL, aR_qL, nx_qR, kd_qR, ln_qR, fI_qR, fL_qR, fR_qR, aI_qR, aL_qR, aR_qR, nx_mk, kd_mk, ln_mk, fI_mk, fL_mk, fR_mk, aI_mk, aL_mk, aR_mk, false_and, and_false, if_false, if_true, and_self, Int.reduceEq, Nat.reduceEqDiff, ite_self, MLay_pI, MLay_pL, MLay_qI, MLay_qL, ev_X10_takeFrom_64, ev_X10_takeFrom_65, xt_X10_takeFrom, xf_X10_takeFrom, us_X10_openRange, us_X9_copyTape, us_X10_copyWords, us_X10_isExplained, us_X10_keepKey]
        repeat' (first | intro z | apply And.intro)
        all_goals try omega
        all_goals try contradiction
        all_goals exact hf
      have e0 : BitVec.ofNat 64 0 = BitVec.ofInt 64 0 := by decide
      have hS0 := SgK.nil
      clear h hLR hI hB g1 g3 g4 g5 g6 g7 g8 g9 hbx b5 b6 b8 E0
      refine go_X10_takeFrom (ct := fun p => p == 64 || p == 66) 10 ?_
      simp only [oI, oL, oR, o1, lI, lL, lR, popN, catS, gv, stL, stL2, swt, cnd, spObj, List.getElem?_cons_zero, List.getElem?_cons_succ, List.getD_cons_zero, List.getD_cons_succ, List.set_cons_zero, List.set_cons_succ, List.nil_append, List.cons_append, Option.toList, Bool.or_false, Bool.false_or, Bool.or_true, Bool.true_or, Nat.reduceBEq, Nat.reduceAdd, Nat.reduceLT, Nat.reduceLeDiff, Int.reduceAdd, Int.reduceToNat, true_and, and_true, Fin.isValue, Fin.val_zero, Fin.val_one, Fin.val_two, Fin.reduceFinMk, eq_self, Int.reduceNeg, imp_self, Nat.reduceMul, Nat.le_refl, not_true_eq_false, not_false_eq_true, List.getElem?_nil, reduceCtorEq, true_or, or_true, Classical.not_not, implies_true, or_self, wI_0, wI_1, wI_m1, b2i_w, b2i_eq0, b2i_eq1, b2i_bool, nor_self, nx_pI, kd_pI, ln_pI, fI_pI, fL_pI, fR_pI, aI_pI, aL_pI, aR_pI, nx_pL, kd_pL, ln_pL, fI_pL, fL_pL, fR_pL, aI_pL, aL_pL, aR_pL, nx_pR, kd_pR, ln_pR, fI_pR, fL_pR, fR_pR, aI_pR, aL_pR, aR_pR, nx_qI, kd_qI, ln_qI, fI_qI, fL_qI, fR_qI, aI_qI, aL_qI, aR_qI, nx_qL, kd_qL, ln_qL, fI_qL, fL_qL, fR_qL, aI_qL, aL_qL, aR_qL, nx_qR, kd_qR, ln_qR, fI_qR, fL_qR, fR_qR, aI_qR, aL_qR, aR_qR, nx_mk, kd_mk, ln_mk, fI_mk, fL_mk, fR_mk, aI_mk, aL_mk, aR_mk, false_and, and_false, if_false, if_true, and_self, Int.reduceEq, Nat.reduceEqDiff, ite_self, MLay_pI, MLay_pL, MLay_qI, MLay_qL, ev_X10_takeFrom_56, ev_X10_takeFrom_59, ev_X10_takeFrom_60, ev_X10_takeFrom_61, xt_X10_takeFrom, xf_X10_takeFrom, us_X10_openRange, us_X9_copyTape, us_X10_copyWords, us_X10_isExplained, us_X10_keepKey, k4, C]
      repeat' (first | intro z | apply And.intro)
      all_goals try omega
      all_goals try contradiction
      all_goals exact ⟨[], fun _ => False, 0, KM0, hS0, by omega, e0, w61⟩
    have w53b : ¬ (∀ u, 0 ≤ u → u < 320 → ¬ (u < t - f + 1 ∧ H u)) → Go M_X10_takeFrom Q 56 [some (vr 4), some (vr (45 + 4 * l)), some (vi f), some (vi t), none] [vi 0] ρ (0, 0) := fun q => by
      have hex : ∃ u, 0 ≤ u ∧ u < t - f + 1 ∧ H u := by
        apply Classical.byContradiction
        intro y
        exact q (fun u a _ c => y ⟨u, a, c⟩)
      have w66 := tf_66 (Q := Q) (t := t) hex (by rw [← hKK]; exact mK_ge hI l) h 3 1 ρ rfl (by decide) z E0 rfl b8 KM0 e2 (fun k hk x hx => by
        have e : k = 0 := by omega
        rw [e] at hx
        exact Sm0_no hex x hx)
      clear h hLR hI hB g1 g3 g4 g5 g6 g7 g8 g9 hbx b5 b6 b8 E0 KM0 w53a
      refine go_X10_takeFrom (ct := fun p => p == 59 || p == 69) 10 ?_
      simp only [oI, oL, oR, o1, lI, lL, lR, popN, catS, gv, stL, stL2, swt, cnd, spObj, List.getElem?_cons_zero, List.getElem?_cons_succ, List.getD_cons_zero, List.getD_cons_succ, List.set_cons_zero, List.set_cons_succ, List.nil_append, List.cons_append, Option.toList, Bool.or_false, Bool.false_or, Bool.or_true, Bool.true_or, Nat.reduceBEq, Nat.reduceAdd, Nat.reduceLT, Nat.reduceLeDiff, Int.reduceAdd, Int.reduceToNat, true_and, and_true, Fin.isValue, Fin.val_zero, Fin.val_one, Fin.val_two, Fin.reduceFinMk, eq_self, Int.reduceNeg, imp_self, Nat.reduceMul, Nat.le_refl, not_true_eq_false, not_false_eq_true, List.getElem?_nil, reduceCtorEq, true_or, or_true, Classical.not_not, implies_true, or_self, wI_0, wI_1, wI_m1, b2i_w, b2i_eq0, b2i_eq1, b2i_bool, nor_self, nx_pI, kd_pI, ln_pI, fI_pI, fL_pI, fR_pI, aI_pI, aL_pI, aR_pI, nx_pL, kd_pL, ln_pL, fI_pL, fL_pL, fR_pL, aI_pL, aL_pL, aR_pL, nx_pR, kd_pR, ln_pR, fI_pR, fL_pR, fR_pR, aI_pR, aL_pR, aR_pR, nx_qI, kd_qI, ln_qI, fI_qI, fL_qI, fR_qI, aI_qI, aL_qI, aR_qI, nx_qL, kd_qL, ln_qL, fI_qL, fL_qL, fR_qL, aI_qL, aL_qL, aR_qL, nx_qR, kd_qR, ln_qR, fI_qR, fL_qR, fR_qR, aI_qR, aL_qR, aR_qR, nx_mk, kd_mk, ln_mk, fI_mk, fL_mk, fR_mk, aI_mk, aL_mk, aR_mk, false_and, and_false, if_false, if_true, and_self, Int.reduceEq, Nat.reduceEqDiff, ite_self, MLay_pI, MLay_pL, MLay_qI, MLay_qL, ev_X10_takeFrom_56, ev_X10_takeFrom_59, ev_X10_takeFrom_60, ev_X10_takeFrom_61, ev_X10_takeFrom_64, ev_X10_takeFrom_65, ev_X10_takeFrom_66, ev_X10_takeFrom_67, xt_X10_takeFrom, xf_X10_takeFrom, us_X10_openRange, us_X9_copyTape, us_X10_copyWords, us_X10_isExplained, us_X10_keepKey]
      repeat' (first | intro z | apply And.intro)
      all_goals try omega
      all_goals try contradiction
      all_goals exact w66
    have b8' : B64 (aL ρ (8 + 0)) (fun u => u < t - f + 1 ∧ H u) := b8
    clear h hLR hI hB g1 g3 g4 g5 g6 g7 g8 g9 hbx b5 b6 b8 E0 KM0
    refine go_X10_takeFrom (ct := fun p => p == 56) 10 ?_
    simp only [oI, oL, oR, o1, lI, lL, lR, popN, catS, gv, stL, stL2, swt, cnd, spObj, List.getElem?_cons_zero, List.getElem?_cons_succ, List.getD_cons_zero, List.getD_cons_succ, List.set_cons_zero, List.set_cons_succ, List.nil_append, List.cons_append, Option.toList, Bool.or_false, Bool.false_or, Bool.or_true, Bool.true_or, Nat.reduceBEq, Nat.reduceAdd, Nat.reduceLT, Nat.reduceLeDiff, Int.reduceAdd, Int.reduceToNat, true_and, and_true, Fin.isValue, Fin.val_zero, Fin.val_one, Fin.val_two, Fin.reduceFinMk, eq_self, Int.reduceNeg, imp_self, Nat.reduceMul, Nat.le_refl, not_true_eq_false, not_false_eq_true, List.getElem?_nil, reduceCtorEq, true_or, or_true, Classical.not_not, implies_true, or_self, wI_0, wI_1, wI_m1, b2i_w, b2i_eq0, b2i_eq1, b2i_bool, nor_self, nx_pI, kd_pI, ln_pI, fI_pI, fL_pI, fR_pI, aI_pI, aL_pI, aR_pI, nx_pL, kd_pL, ln_pL, fI_pL, fL_pL, fR_pL, aI_pL, aL_pL, aR_pL, nx_pR, kd_pR, ln_pR, fI_pR, fL_pR, fR_pR, aI_pR, aL_pR, aR_pR, nx_qI, kd_qI, ln_qI, fI_qI, fL_qI, fR_qI, aI_qI, aL_qI, aR_qI, nx_qL, kd_qL, ln_qL, fI_qL, fL_qL, fR_qL, aI_qL, aL_qL, aR_qL, nx_qR, kd_qR, ln_qR, fI_qR, fL_qR, fR_qR, aI_qR, aL_qR, aR_qR, nx_mk, kd_mk, ln_mk, fI_mk, fL_mk, fR_mk, aI_mk, aL_mk, aR_mk, false_and, and_false, if_false, if_true, and_self, Int.reduceEq, Nat.reduceEqDiff, ite_self, MLay_pI, MLay_pL, MLay_qI, MLay_qL, ev_X10_takeFrom_51, ev_X10_takeFrom_52, ev_X10_takeFrom_53, xt_X10_takeFrom, xf_X10_takeFrom, us_X10_openRange, us_X9_copyTape, us_X10_copyWords, us_X10_isExplained, us_X10_keepKey, k4, C]
    repeat' (first | intro z | apply And.intro)
    all_goals try omega
    all_goals try contradiction
    all_goals first | exact ⟨_, b8', w53a, w53b⟩ | omega
  -- the rows are laid
  have z1 : Fz tfF tfA tfL σ (pI (pR σ 1106 4 (46 + 4 * l)) 1107 4 f) := (Fz_pR (fs := tfF) (ars := tfA) (als := tfL) _ _ _ (by decide)).tr (Fz_pI _ _ _ (by decide))
  have k1 : kd (pI (pR σ 1106 4 (46 + 4 * l)) 1107 4 f) 4 = 11 := hk
  have l1 : fR (pI (pR σ 1106 4 (46 + 4 * l)) 1107 4 f) 1106 4 = 46 + 4 * l := by rw [fR_pI, fR_pR, if_pos ⟨rfl, rfl⟩]
  have r1 : fI (pI (pR σ 1106 4 (46 + 4 * l)) 1107 4 f) 1107 4 = f := by rw [fI_pI, if_pos ⟨rfl, rfl⟩]
  have w10 : Go M_X10_takeFrom Q 13 [some (vr 4), some (vr (45 + 4 * l)), some (vi f), some (vi t), none] [] (pI (pR σ 1106 4 (46 + 4 * l)) 1107 4 f) (0, 0) := by
    have C1 := zc _ z1
    generalize pI (pR σ 1106 4 (46 + 4 * l)) 1107 4 f = ρ1 at *
    have z2 := cRg_s ρ1 (t - f + 1) 5
    have bb := cRg_in (σ := ρ1) hspn
    have z2' : Fz tfF tfA tfL ρ1 (cRg ρ1 (t - f + 1) 5) := z2.up (by decide) (fun r q => absurd q id) (fun r q => by unfold tfL; omega)
    have w19 : Go M_X10_takeFrom Q 22 [some (vr 4), some (vr (45 + 4 * l)), some (vi f), some (vi t), none] [] (cRg ρ1 (t - f + 1) 5) (0, 0) := by
      have zz2 := z1.tr z2'
      have C2 := zc _ zz2
      have l2 : fR (cRg ρ1 (t - f + 1) 5) 1106 4 = 46 + 4 * l := by rw [z2.fR (by decide)]; exact l1
      have r2 : fI (cRg ρ1 (t - f + 1) 5) 1107 4 = f := by rw [z2.fI (by decide)]; exact r1
      generalize cRg ρ1 (t - f + 1) 5 = ρ2 at *
      have k2 : kd ρ2 4 = 11 := by rw [zz2.kd]; exact hk
      have t2 : fR ρ2 1002 (45 + 4 * l) = 48 + 4 * l := by rw [zz2.fR (by decide)]; exact hL5.1
      have t3 : kd ρ2 (48 + 4 * l) = 101 ∧ ln ρ2 (48 + 4 * l) = 500 := by rw [zz2.kd, zz2.ln]; exact ⟨hL5.2.1, hL5.2.2.1⟩
      have t4 : fI ρ2 1003 ((45 + 4 * l)) = min (aI τ 78 l) 500 := by rw [zz2.fI (by decide)]; exact g9
      have t5 : aI ρ2 (48 + 4 * l) = aI σ (48 + 4 * l) := zz2.aI (by show ¬ (_ ∨ _); omega)
      have t6 : kd ρ2 (45 + 4 * l) = 10 := by rw [zz2.kd]; exact hL5.2.2.2
      have cs := cCp_s ρ2 (45 + 4 * l) 5 f t (min (aI τ 78 l) 500).toNat
      have cB := cCp_B (σ := ρ2) (q := 45 + 4 * l) (r := 5) (f := f) (t := t) bb.1 (min (aI τ 78 l) 500).toNat
      have z3 : Fz tfF tfA tfL ρ2 (cCp ρ2 (45 + 4 * l) 5 f t (min (aI τ 78 l) 500).toNat) := (cCp_fz5 ρ2 _ _ _ _ _).up (by decide) (fun r q => absurd q id) (fun r q => Or.inl q)
      have w29 : Go M_X10_takeFrom Q 32 [some (vr 4), some (vr (45 + 4 * l)), some (vi f), some (vi t), none] [] (cCp ρ2 (45 + 4 * l) 5 f t (min (aI τ 78 l) 500).toNat) (0, 0) := by
        have z3a := cCp_fz5 ρ2 (45 + 4 * l) 5 f t (min (aI τ 78 l) 500).toNat
        have zz3 := zz2.tr z3
        have C3 := zc _ zz3
        have l3 : fR (cCp ρ2 (45 + 4 * l) 5 f t (min (aI τ 78 l) 500).toNat) 1106 4 = 46 + 4 * l := by rw [z3a.fR (by decide)]; exact l2
        have r3 : fI (cCp ρ2 (45 + 4 * l) 5 f t (min (aI τ 78 l) 500).toNat) 1107 4 = f := by rw [z3a.fI (by decide)]; exact r2
        have b6 : B64 (aL (cCp ρ2 (45 + 4 * l) 5 f t (min (aI τ 78 l) 500).toNat) 6) (fun u => u < t - f + 1) := by rw [z3a.aL (by decide)]; exact bb.2
        have b5 : B64 (aL (cCp ρ2 (45 + 4 * l) 5 f t (min (aI τ 78 l) 500).toNat) 5) (fun u => u < t - f + 1 ∧ H u) := cB.congr (fun u u0 u3 => by
          rw [t2, t5, ← hH]
          unfold mTaped bE
          constructor
          · rintro (y | ⟨j, j0, j1, e, e2⟩)
            · exact y.elim
            · exact ⟨by omega, j, j0, by omega, by omega, by rw [← g8 j j0 (by omega)]; exact e⟩
          · rintro ⟨y, j, j0, j1, j2, e⟩
            exact Or.inr ⟨j, j0, by omega, by rw [g8 j j0 (by omega)]; exact e, by omega⟩)
        generalize cCp ρ2 (45 + 4 * l) 5 f t (min (aI τ 78 l) 500).toNat = ρ3 at *
        have z4 := cCw_s ρ3 5 0 5
        have e8 := cCw_at ρ3 (r := 5) (d := 0) (by omega) 5
        have k3 : kd ρ3 4 = 11 := by rw [zz3.kd]; exact hk
        have w38 : Go M_X10_takeFrom Q 41 [some (vr 4), some (vr (45 + 4 * l)), some (vi f), some (vi t), none] [] (cCw ρ3 5 0 5) (0, 0) := by
          have z4' : Fz tfF tfA tfL ρ3 (cCw ρ3 5 0 5) := z4.up (by decide) (fun r q => absurd q id) (fun r q => by unfold tfL; omega)
          have z5 : Fz tfF tfA tfL (cCw ρ3 5 0 5) (pI (pI (cCw ρ3 5 0 5) 1109 4 0) 1108 4 0) := (Fz_pI _ _ _ (by decide)).tr (Fz_pI _ _ _ (by decide))
          have w := w48 (pI (pI (cCw ρ3 5 0 5) 1109 4 0) 1108 4 0) ((zz3.tr z4').tr z5) (by rw [fR_pI, fR_pI, z4.fR (by decide)]; exact l3) (by rw [fI_pI, if_neg (by decide), fI_pI, if_neg (by decide), z4.fI (by decide)]; exact r3) (by rw [fI_pI, if_pos ⟨rfl, rfl⟩]) (by rw [fI_pI, if_neg (by decide), fI_pI, if_pos ⟨rfl, rfl⟩]) (by rw [aL_pI, aL_pI, z4.aL (by decide)]; exact b5) (by rw [aL_pI, aL_pI, z4.aL (by decide)]; exact b6) (by
            rw [aL_pI, aL_pI]
            intro w w0 w5 j hj
            have := e8 w w0 (by omega)
            rw [show (8 : Int) + 0 = 8 by omega] at this
            rw [this]
            exact b5 w w0 w5 j hj)
          have k9 : kd (cCw ρ3 5 0 5) 4 = 11 := by rw [z4.kd]; exact k3
          clear w48 h hLR hI hB g1 g3 g4 g5 g6 g7 g8 g9 hbx b5 b6 bb cB e8 z4 z4' z5
          generalize cCw ρ3 5 0 5 = ρ4 at *
          refine go_X10_takeFrom (ct := fun p => p == 51) 10 ?_
          simp only [oI, oL, oR, o1, lI, lL, lR, popN, catS, gv, stL, stL2, swt, cnd, spObj, List.getElem?_cons_zero, List.getElem?_cons_succ, List.getD_cons_zero, List.getD_cons_succ, List.set_cons_zero, List.set_cons_succ, List.nil_append, List.cons_append, Option.toList, Bool.or_false, Bool.false_or, Bool.or_true, Bool.true_or, Nat.reduceBEq, Nat.reduceAdd, Nat.reduceLT, Nat.reduceLeDiff, Int.reduceAdd, Int.reduceToNat, true_and, and_true, Fin.isValue, Fin.val_zero, Fin.val_one, Fin.val_two, Fin.reduceFinMk, eq_self, Int.reduceNeg, imp_self, Nat.reduceMul, Nat.le_refl, not_true_eq_false, not_false_eq_true, List.getElem?_nil, reduceCtorEq, true_or, or_true, Classical.not_not, implies_true, or_self, wI_0, wI_1, wI_m1, b2i_w, b2i_eq0, b2i_eq1, b2i_bool, nor_self, nx_pI, kd_pI, ln_pI, fI_pI, fL_pI, fR_pI, aI_pI, aL_pI, aR_pI, nx_pL, kd_pL, ln_pL, fI_pL, fL_pL, fR_pL, aI_pL, aL_pL, aR_pL, nx_pR, kd_pR, ln_pR, fI_pR, fL_pR, fR_pR, aI_pR, aL_pR, aR_pR, nx_qI, kd_qI, ln_qI, fI_qI, fL_qI, fR_qI, aI_qI, aL_qI, aR_qI, nx_qL, kd_qL, ln_qL, fI_qL, fL_qL, fR_qL, aI_qL, aL_qL, aR_qL, nx_qR, kd_qR, ln_qR, fI_qR, fL_qR, fR_qR, aI_qR, aL_qR, aR_qR, nx_mk, kd_mk, ln_mk, fI_mk, fL_mk, fR_mk, aI_mk, aL_mk, aR_mk, false_and, and_false, if_false, if_true, and_self, Int.reduceEq, Nat.reduceEqDiff, ite_self, MLay_pI, MLay_pL, MLay_qI, MLay_qL, ev_X10_takeFrom_41, ev_X10_takeFrom_42, ev_X10_takeFrom_43, ev_X10_takeFrom_46, ev_X10_takeFrom_47, ev_X10_takeFrom_48, xt_X10_takeFrom, xf_X10_takeFrom, us_X10_openRange, us_X9_copyTape, us_X10_copyWords, us_X10_isExplained, us_X10_keepKey, k9]
          repeat' (first | intro z | apply And.intro)
          all_goals try omega
          all_goals try contradiction
          all_goals exact w
        have k5 : kd ρ3 5 = 102 ∧ ln ρ3 5 = 5 := by simp only [C3.eqs, and_self]
        clear w48 h hLR hI hB g1 g3 g4 g5 g6 g7 g8 g9 hbx b5 b6 bb cB e8 z4
        refine go_X10_takeFrom (ct := fun p => p == 41) 10 ?_
        simp only [oI, oL, oR, o1, lI, lL, lR, popN, catS, gv, stL, stL2, swt, cnd, spObj, List.getElem?_cons_zero, List.getElem?_cons_succ, List.getD_cons_zero, List.getD_cons_succ, List.set_cons_zero, List.set_cons_succ, List.nil_append, List.cons_append, Option.toList, Bool.or_false, Bool.false_or, Bool.or_true, Bool.true_or, Nat.reduceBEq, Nat.reduceAdd, Nat.reduceLT, Nat.reduceLeDiff, Int.reduceAdd, Int.reduceToNat, true_and, and_true, Fin.isValue, Fin.val_zero, Fin.val_one, Fin.val_two, Fin.reduceFinMk, eq_self, Int.reduceNeg, imp_self, Nat.reduceMul, Nat.le_refl, not_true_eq_false, not_false_eq_true, List.getElem?_nil, reduceCtorEq, true_or, or_true, Classical.not_not, implies_true, or_self, wI_0, wI_1, wI_m1, b2i_w, b2i_eq0, b2i_eq1, b2i_bool, nor_self, nx_pI, kd_pI, ln_pI, fI_pI, fL_pI, fR_pI, aI_pI, aL_pI, aR_pI, nx_pL, kd_pL, ln_pL, fI_pL, fL_pL, fR_pL, aI_pL, aL_pL, aR_pL, nx_pR, kd_pR, ln_pR, fI_pR, fL_pR, fR_pR, aI_pR, aL_pR, aR_pR, nx_qI, kd_qI, ln_qI, fI_qI, fL_qI, fR_qI, aI_qI, aL_qI, aR_qI, nx_qL, kd_qL, ln_qL, fI_qL, fL_qL, fR_qL, aI_qL, aL_qL, aR_qL, nx_qR, kd_qR, ln_qR, fI_qR, fL_qR, fR_qR, aI_qR, aL_qR, aR_qR, nx_mk, kd_mk, ln_mk, fI_mk, fL_mk, fR_mk, aI_mk, aL_mk, aR_mk, false_and, and_false, if_false, if_true, and_self, Int.reduceEq, Nat.reduceEqDiff, ite_self, MLay_pI, MLay_pL, MLay_qI, MLay_qL, ev_X10_takeFrom_32, ev_X10_takeFrom_33, ev_X10_takeFrom_34, ev_X10_takeFrom_37, ev_X10_takeFrom_38, xt_X10_takeFrom, xf_X10_takeFrom, us_X10_openRange, us_X9_copyTape, us_X10_copyWords, us_X10_isExplained, us_X10_keepKey, k3, C3, C3.eqs, k5]
        repeat' (first | intro z | apply And.intro)
        all_goals try omega
        all_goals try contradiction
        all_goals first | exact w38 | omega
      have hh : 0 ≤ min (aI τ 78 l) 500 ∧ min (aI τ 78 l) 500 ≤ 500 := by omega
      have hf9 : 0 ≤ f ∧ f ≤ 999999 := by omega
      have ht9 : 0 ≤ t ∧ t ≤ 999999 := by omega
      have k5 : kd ρ2 5 = 102 ∧ ln ρ2 5 = 5 := by simp only [C2.eqs, and_self]
      clear w48 h hLR hI hB g1 g3 g4 g5 g6 g8 g9 hbx bb cB z3 cs
      refine go_X10_takeFrom (ct := fun p => p == 32) 10 ?_
      simp only [oI, oL, oR, o1, lI, lL, lR, popN, catS, gv, stL, stL2, swt, cnd, spObj, List.getElem?_cons_zero, List.getElem?_cons_succ, List.getD_cons_zero, List.getD_cons_succ, List.set_cons_zero, List.set_cons_succ, List.nil_append, List.cons_append, Option.toList, Bool.or_false, Bool.false_or, Bool.or_true, Bool.true_or, Nat.reduceBEq, Nat.reduceAdd, Nat.reduceLT, Nat.reduceLeDiff, Int.reduceAdd, Int.reduceToNat, true_and, and_true, Fin.isValue, Fin.val_zero, Fin.val_one, Fin.val_two, Fin.reduceFinMk, eq_self, Int.reduceNeg, imp_self, Nat.reduceMul, Nat.le_refl, not_true_eq_false, not_false_eq_true, List.getElem?_nil, reduceCtorEq, true_or, or_true, Classical.not_not, implies_true, or_self, wI_0, wI_1, wI_m1, b2i_w, b2i_eq0, b2i_eq1, b2i_bool, nor_self, nx_pI, kd_pI, ln_pI, fI_pI, fL_pI, fR_pI, aI_pI, aL_pI, aR_pI, nx_pL, kd_pL, ln_pL, fI_pL, fL_pL, fR_pL, aI_pL, aL_pL, aR_pL, nx_pR, kd_pR, ln_pR, fI_pR, fL_pR, fR_pR, aI_pR, aL_pR, aR_pR, nx_qI, kd_qI, ln_qI, fI_qI, fL_qI, fR_qI, aI_qI, aL_qI, aR_qI, nx_qL, kd_qL, ln_qL, fI_qL, fL_qL, fR_qL, aI_qL, aL_qL, aR_qL, nx_qR, kd_qR, ln_qR, fI_qR, fL_qR, fR_qR, aI_qR, aL_qR, aR_qR, nx_mk, kd_mk, ln_mk, fI_mk, fL_mk, fR_mk, aI_mk, aL_mk, aR_mk, false_and, and_false, if_false, if_true, and_self, Int.reduceEq, Nat.reduceEqDiff, ite_self, MLay_pI, MLay_pL, MLay_qI, MLay_qL, ev_X10_takeFrom_22, ev_X10_takeFrom_23, ev_X10_takeFrom_24, ev_X10_takeFrom_25, ev_X10_takeFrom_26, ev_X10_takeFrom_29, xt_X10_takeFrom, xf_X10_takeFrom, us_X10_openRange, us_X9_copyTape, us_X10_copyWords, us_X10_isExplained, us_X10_keepKey, k2, C2.eqs, t6, t2, t3, t4, t5, g7, hh, hf9, ht9, k5]
      repeat' (first | intro z | apply And.intro)
      all_goals try omega
      all_goals try contradiction
      all_goals first | exact w29 | exact (g7 _).1 | exact (g7 _).2
    clear w48 h hLR hI hB g1 g3 g4 g5 g6 g7 g8 g9 hbx bb z2 z2'
    refine go_X10_takeFrom (ct := fun p => p == 22) 10 ?_
    simp only [oI, oL, oR, o1, lI, lL, lR, popN, catS, gv, stL, stL2, swt, cnd, spObj, List.getElem?_cons_zero, List.getElem?_cons_succ, List.getD_cons_zero, List.getD_cons_succ, List.set_cons_zero, List.set_cons_succ, List.nil_append, List.cons_append, Option.toList, Bool.or_false, Bool.false_or, Bool.or_true, Bool.true_or, Nat.reduceBEq, Nat.reduceAdd, Nat.reduceLT, Nat.reduceLeDiff, Int.reduceAdd, Int.reduceToNat, true_and, and_true, Fin.isValue, Fin.val_zero, Fin.val_one, Fin.val_two, Fin.reduceFinMk, eq_self, Int.reduceNeg, imp_self, Nat.reduceMul, Nat.le_refl, not_true_eq_false, not_false_eq_true, List.getElem?_nil, reduceCtorEq, true_or, or_true, Classical.not_not, implies_true, or_self, wI_0, wI_1, wI_m1, b2i_w, b2i_eq0, b2i_eq1, b2i_bool, nor_self, nx_pI, kd_pI, ln_pI, fI_pI, fL_pI, fR_pI, aI_pI, aL_pI, aR_pI, nx_pL, kd_pL, ln_pL, fI_pL, fL_pL, fR_pL, aI_pL, aL_pL, aR_pL, nx_pR, kd_pR, ln_pR, fI_pR, fL_pR, fR_pR, aI_pR, aL_pR, aR_pR, nx_qI, kd_qI, ln_qI, fI_qI, fL_qI, fR_qI, aI_qI, aL_qI, aR_qI, nx_qL, kd_qL, ln_qL, fI_qL, fL_qL, fR_qL, aI_qL, aL_qL, aR_qL, nx_qR, kd_qR, ln_qR, fI_qR, fL_qR, fR_qR, aI_qR, aL_qR, aR_qR, nx_mk, kd_mk, ln_mk, fI_mk, fL_mk, fR_mk, aI_mk, aL_mk, aR_mk, false_and, and_false, if_false, if_true, and_self, Int.reduceEq, Nat.reduceEqDiff, ite_self, MLay_pI, MLay_pL, MLay_qI, MLay_qL, ev_X10_takeFrom_13, ev_X10_takeFrom_14, ev_X10_takeFrom_15, ev_X10_takeFrom_16, ev_X10_takeFrom_17, ev_X10_takeFrom_18, ev_X10_takeFrom_19, xt_X10_takeFrom, xf_X10_takeFrom, us_X10_openRange, us_X9_copyTape, us_X10_copyWords, us_X10_isExplained, us_X10_keepKey, k1, C1]
    try simp (disch := omega) only [wI_id, dv_nn, rm_nn]
    repeat' (first | intro z | apply And.intro)
    all_goals try omega
    all_goals try contradiction
    all_goals first | exact w19 | omega
  clear w48 h hLR hI hB g1 g3 g4 g5 g6 g7 g8 g9 hbx z1 k1 l1 r1
  refine go_X10_takeFrom (ct := fun p => p == 13) 10 ?_
  simp only [oI, oL, oR, o1, lI, lL, lR, popN, catS, gv, stL, stL2, swt, cnd, spObj, List.getElem?_cons_zero, List.getElem?_cons_succ, List.getD_cons_zero, List.getD_cons_succ, List.set_cons_zero, List.set_cons_succ, List.nil_append, List.cons_append, Option.toList, Bool.or_false, Bool.false_or, Bool.or_true, Bool.true_or, Nat.reduceBEq, Nat.reduceAdd, Nat.reduceLT, Nat.reduceLeDiff, Int.reduceAdd, Int.reduceToNat, true_and, and_true, Fin.isValue, Fin.val_zero, Fin.val_one, Fin.val_two, Fin.reduceFinMk, eq_self, Int.reduceNeg, imp_self, Nat.reduceMul, Nat.le_refl, not_true_eq_false, not_false_eq_true, List.getElem?_nil, reduceCtorEq, true_or, or_true, Classical.not_not, implies_true, or_self, wI_0, wI_1, wI_m1, b2i_w, b2i_eq0, b2i_eq1, b2i_bool, nor_self, nx_pI, kd_pI, ln_pI, fI_pI, fL_pI, fR_pI, aI_pI, aL_pI, aR_pI, nx_pL, kd_pL, ln_pL, fI_pL, fL_pL, fR_pL, aI_pL, aL_pL, aR_pL, nx_pR, kd_pR, ln_pR, fI_pR, fL_pR, fR_pR, aI_pR, aL_pR, aR_pR, nx_qI, kd_qI, ln_qI, fI_qI, fL_qI, fR_qI, aI_qI, aL_qI, aR_qI, nx_qL, kd_qL, ln_qL, fI_qL, fL_qL, fR_qL, aI_qL, aL_qL, aR_qL, nx_qR, kd_qR, ln_qR, fI_qR, fL_qR, fR_qR, aI_qR, aL_qR, aR_qR, nx_mk, kd_mk, ln_mk, fI_mk, fL_mk, fR_mk, aI_mk, aL_mk, aR_mk, false_and, and_false, if_false, if_true, and_self, Int.reduceEq, Nat.reduceEqDiff, ite_self, MLay_pI, MLay_pL, MLay_qI, MLay_qL, ev_X10_takeFrom_0, ev_X10_takeFrom_1, ev_X10_takeFrom_2, ev_X10_takeFrom_5, ev_X10_takeFrom_8, ev_X10_takeFrom_9, ev_X10_takeFrom_10, xt_X10_takeFrom, xf_X10_takeFrom, us_X10_openRange, us_X9_copyTape, us_X10_copyWords, us_X10_isExplained, us_X10_keepKey, hk, hL5.2.2.2, (lpx hC hl).2.1]
  repeat' (first | intro z | apply And.intro)
  all_goals try omega
  all_goals try contradiction
  all_goals exact w10
