/-! the class: cover, the fewest moves -/

def fu (f : Int → Int) (c u : Int) : Int → Int := fun x => if x = c then u else f x
theorem fu_self (f : Int → Int) (c u : Int) : fu f c u c = u := if_pos rfl
theorem fu_ne (f : Int → Int) {c u x : Int} (h : ¬ x = c) : fu f c u x = f x := if_neg h
theorem cnt_ps {n : Nat} {S : Int → Prop} {f : Int → Int} {u : Int} : 0 < cnt n S f u ↔ ∃ c : Int, (0 ≤ c ∧ c < (n : Int)) ∧ S c ∧ f c = u := by
  rw [cnt_pos]
  exact ⟨fun ⟨c, a, b⟩ => ⟨c, by omega, b⟩, fun ⟨c, a, b⟩ => ⟨c.toNat, by omega, by rw [show ((c.toNat : Nat) : Int) = c by omega]; exact b⟩⟩
/-- all boxes are covered where engines stand by f -/
def cov (τ : Hp) (f : Int → Int) : Prop := ∀ i, 0 ≤ i → i < fI τ 1302 61 → ∃ c, (0 ≤ c ∧ c < fI τ 1335 61) ∧ mEng τ c ∧ mWay τ (f c) i ≤ fI τ 1342 61
/-- d moves more can cover all -/
def Wn (τ : Hp) : Nat → (Int → Int) → Int → (Int → Prop) → Prop
  | 0, f, _, _ => cov τ f
  | d + 1, f, lo, T => ∃ c u, lo ≤ c ∧ (0 ≤ c ∧ c < fI τ 1335 61) ∧ mEng τ c ∧ (0 ≤ u ∧ u < fI τ 1332 61) ∧ mWo0 τ u ∧ ¬ T u ∧ Wn τ d (fu f c u) (c + 1) (fun v => v = u)
def Kn (τ : Hp) (d : Nat) (f : Int → Int) (lo : Int) (T : Int → Prop) (c u : Int) : Prop := lo ≤ c ∧ (0 ≤ c ∧ c < fI τ 1335 61) ∧ mEng τ c ∧ (0 ≤ u ∧ u < fI τ 1332 61) ∧ mWo0 τ u ∧ ¬ T u ∧ Wn τ d (fu f c u) (c + 1) (fun v => v = u)
def Kto (τ : Hp) (d : Nat) (f : Int → Int) (c : Int) (T : Int → Prop) (u : Int) : Prop := (0 ≤ u ∧ u < fI τ 1332 61) ∧ mWo0 τ u ∧ ¬ T u ∧ Wn τ d (fu f c u) (c + 1) (fun v => v = u)
def Fn (τ : Hp) (d : Nat) (f : Int → Int) (lo : Int) (T : Int → Prop) (c u : Int) : Prop := Kn τ d f lo T c u ∧ ∀ c' u', (c' < c ∨ (c' = c ∧ u' < u)) → ¬ Kn τ d f lo T c' u'
/-- the moves found stand in the rows, from the i-th on -/
def Rc (τ : Hp) : Nat → Hp → Int → (Int → Int) → Int → (Int → Prop) → Prop
  | 0, _, _, _, _, _ => True
  | d + 1, σ, i, f, lo, T => Fn τ d f lo T (aI σ 22 i) (aI σ 23 i) ∧ Rc τ d σ (i + 1) (fu f (aI σ 22 i) (aI σ 23 i)) (aI σ 22 i + 1) (fun v => v = aI σ 23 i)
theorem Rc_cg {τ σ σ' : Hp} (h2 : aI σ' 22 = aI σ 22) (h3 : aI σ' 23 = aI σ 23) : ∀ (d : Nat) (i : Int) (f : Int → Int) (lo : Int) (T : Int → Prop), Rc τ d σ i f lo T → Rc τ d σ' i f lo T
  | 0, _, _, _, _, _ => trivial
  | d + 1, i, f, lo, T, h => by
    unfold Rc at h ⊢
    rw [h2, h3]
    exact ⟨h.1, Rc_cg h2 h3 d _ _ _ _ h.2⟩
/-- the reference: companies stand in houses that are -/
def HIs (τ : Hp) : Prop := ∀ c, 0 ≤ c → c < fI τ 1335 61 → aI τ 89 c < fI τ 1332 61 ∧ aI τ 88 c < fI τ 1332 61
def TGr (σ : Hp) : Prop := ∀ j, (0 ≤ aI σ 22 j ∧ aI σ 22 j ≤ 19) ∧ (0 ≤ aI σ 23 j ∧ aI σ 23 j ≤ 11)
def CvS (τ σ : Hp) : Prop := CLay σ ∧ BG σ τ ∧ MI τ ∧ NR σ τ ∧ TKn σ τ ∧ TGr σ ∧ HIs τ
def FRn (τ : Hp) (f : Int → Int) : Prop := ∀ c, 0 ≤ c → c < fI τ 1335 61 → mEng τ c → 0 ≤ f c ∧ f c < fI τ 1332 61
def mBut (τ : Hp) (c : Int) : Int → Prop := fun j => mEng τ j ∧ ¬ j = c
theorem FRn_fu {τ : Hp} {f : Int → Int} (h : FRn τ f) {c u : Int} (hu : 0 ≤ u ∧ u < fI τ 1332 61) : FRn τ (fu f c u) := fun j a b e => by
  unfold fu
  split
  · exact hu
  · exact h j a b e
theorem cUn_is {τ σ : Hp} {f : Int → Int} (hI : MI τ) (hN : NR σ τ) (hV : CVS (fI τ 1335 61).toNat (mEng τ) f σ) (hF : FRn τ f) {i : Int} (a : 0 ≤ i) (b : i < fI τ 1302 61) : cUn σ i ↔ ¬ ∃ c, (0 ≤ c ∧ c < fI τ 1335 61) ∧ mEng τ c ∧ mWay τ (f c) i ≤ fI τ 1342 61 := by
  have hh := hI.houses_s
  have hs := hI.companies_s
  unfold cUn
  rw [bAnd_z]
  constructor
  · rintro h ⟨c, h1, h2, h3⟩
    have hf := hF c h1.1 h1.2 h2
    refine h (f c).toNat ⟨?_, ?_⟩
    · rw [hN.2 i a b, show (((f c).toNat : Nat) : Int) = f c by omega]
      exact ⟨hf.2, h3⟩
    · rw [hV.2, show (((f c).toNat : Nat) : Int) = f c by omega]
      exact ⟨by omega, cnt_ps.mpr ⟨c, by omega, h2, rfl⟩⟩
  · rintro h j ⟨h1, h2⟩
    rw [hN.2 i a b] at h1
    rw [hV.2] at h2
    obtain ⟨c, q1, q2, q3⟩ := cnt_ps.mp h2.2
    exact h ⟨c, by omega, q2, by rw [q3]; exact h1.2⟩
theorem cAll_is {τ σ : Hp} {f : Int → Int} (hI : MI τ) (hN : NR σ τ) (hV : CVS (fI τ 1335 61).toNat (mEng τ) f σ) (hF : FRn τ f) : cAll σ ↔ cov τ f := by
  unfold cAll cov
  rw [hN.1]
  constructor
  · intro h i a b
    by_cases e : ∃ c, (0 ≤ c ∧ c < fI τ 1335 61) ∧ mEng τ c ∧ mWay τ (f c) i ≤ fI τ 1342 61
    · exact e
    · exact absurd ⟨i, a, b, (cUn_is hI hN hV hF a b).mpr e⟩ h
  · rintro h ⟨i, a, b, c⟩
    exact (cUn_is hI hN hV hF a b).mp c (h i a b)
theorem free_is {τ σ : Hp} (hI : MI τ) (hT : TKn σ τ) {u : Int} (a : 0 ≤ u) (b : u < 12) : (btb (fI σ 708 19) u.toNat = false) ↔ mWo0 τ u := by
  have hs := hI.companies_s
  have h := hT u.toNat
  rw [show ((u.toNat : Nat) : Int) = u by omega] at h
  unfold mWo0
  constructor
  · rintro e ⟨c, q1, q2, q3, q4⟩
    rw [e] at h
    exact absurd (h.mpr ⟨by omega, cnt_ps.mpr ⟨c, by omega, q3, q4⟩⟩) (by decide)
  · intro e
    cases hb : btb (fI σ 708 19) u.toNat
    · rfl
    · obtain ⟨c, q1, q2, q3⟩ := cnt_ps.mp (h.mp hb).2
      exact absurd ⟨c, q1.1, by omega, q2, q3⟩ e
/-- frame: what stands ahead of the i-th move is as it was -/
abbrev movF : List Nat := [707]
abbrev movA : Int → Prop := fun r => r = 21 ∨ r = 22 ∨ r = 23
def MvZ (i : Int) (σ σ' : Hp) : Prop := Fz movF movA noR σ σ' ∧ (∀ j, j < i → aI σ' 22 j = aI σ 22 j ∧ aI σ' 23 j = aI σ 23 j) ∧ TGr σ'
theorem MvZ.tr {i : Int} {σ τ ρ : Hp} (h : MvZ i σ τ) (g : MvZ i τ ρ) : MvZ i σ ρ := ⟨h.1.tr g.1, fun j a => ⟨(g.2.1 j a).1.trans (h.2.1 j a).1, (g.2.1 j a).2.trans (h.2.1 j a).2⟩, g.2.2⟩
theorem MvZ.le {i k : Int} {σ τ : Hp} (h : MvZ k σ τ) (hi : i ≤ k) : MvZ i σ τ := ⟨h.1, fun j a => h.2.1 j (by omega), h.2.2⟩
theorem kd_cPut (σ : Hp) (u : Int) : kd (cPut σ u) = kd σ := Eq.trans rfl rfl
theorem kd_cLft (σ : Hp) (u : Int) : kd (cLft σ u) = kd σ := Eq.trans rfl rfl
theorem MvZ_put (i : Int) {σ : Hp} (u : Int) (hT : TGr σ) : MvZ i σ (cPut σ u) :=
  ⟨Fz.tr (Fz_qI (fs := movF) (ars := movA) _ _ _ (Or.inl rfl)) (Fz_pI (fs := movF) (f := 707) _ _ _ (by decide)), fun j _ => by unfold cPut; simp only [aI_pI, aI_qI, Int.reduceEq, false_and, if_false, and_self], fun j => by unfold cPut; simp only [aI_pI, aI_qI, Int.reduceEq, false_and, if_false]; exact hT j⟩
theorem MvZ_lft (i : Int) {σ : Hp} (u : Int) (hT : TGr σ) : MvZ i σ (cLft σ u) :=
  ⟨Fz.tr (Fz_qI (fs := movF) (ars := movA) _ _ _ (Or.inl rfl)) (Fz_pI (fs := movF) (f := 707) _ _ _ (by decide)), fun j _ => by unfold cLft; simp only [aI_pI, aI_qI, Int.reduceEq, false_and, if_false, and_self], fun j => by unfold cLft; simp only [aI_pI, aI_qI, Int.reduceEq, false_and, if_false]; exact hT j⟩
theorem MvZ_t {i : Int} {σ : Hp} {u : Int} (hu : 0 ≤ u ∧ u ≤ 11) (hT : TGr σ) : MvZ i σ (qI σ 23 i u) :=
  ⟨Fz_qI _ _ _ (Or.inr (Or.inr rfl)), fun j a => ⟨by rw [aI_qI, if_neg (by omega)], by rw [aI_qI, if_neg (by omega)]⟩, fun j => by
    simp only [aI_qI, Int.reduceEq, false_and, if_false, true_and]
    have := hT j
    refine ⟨this.1, ?_⟩
    split
    · exact hu
    · exact this.2⟩
theorem MvZ_m {i : Int} {σ : Hp} {c : Int} (hc : 0 ≤ c ∧ c ≤ 19) (hT : TGr σ) : MvZ i σ (qI σ 22 i c) :=
  ⟨Fz_qI _ _ _ (Or.inr (Or.inl rfl)), fun j a => ⟨by rw [aI_qI, if_neg (by omega)], by rw [aI_qI, if_neg (by omega)]⟩, fun j => by
    simp only [aI_qI, Int.reduceEq, false_and, if_false, true_and]
    have := hT j
    refine ⟨?_, this.2⟩
    split
    · exact hc
    · exact this.1⟩
theorem BG.fz {fs : List Nat} {ars als : Int → Prop} {σ σ' τ : Hp} (h : BG σ τ) (z : Fz fs ars als σ σ') (hf : ∀ f ∈ fs, f ∉ [1401, 1402, 3000, 600, 601, 603, 602, 604, 403, 404, 405]) (h16 : ¬ ars 16) (h17 : ¬ ars 17) : BG σ' τ := by
  have hn : ∀ f ∈ [1401, 1402, 3000, 600, 601, 603, 602, 604, 403, 404, 405], f ∉ fs := fun f h1 h2 => hf f h2 h1
  simp only [List.forall_mem_cons, List.not_mem_nil, false_implies, implies_true, and_true] at hn
  obtain ⟨n1, n2, n3, n4, n5, n6, n7, n8, n9, n10, n11⟩ := hn
  unfold BG CoE LOk lat at *
  simp only [z.kd, z.ln, z.aR, z.fR n1, z.fR n3, z.fI n2, z.fI n4, z.fI n5, z.fI n6, z.fI n7, z.fI n8, z.fI n9, z.fI n10, z.fI n11, z.aI h16, z.aI h17]
  exact h
theorem CvS.mv {τ σ σ' : Hp} {i : Int} (h : CvS τ σ) (z : MvZ i σ σ') : CvS τ σ' := by
  obtain ⟨h1, h2, h3, h4, h5, h6, h7⟩ := h
  refine ⟨h1.fz z.1 (by decide), h2.fz z.1 (by decide) (by omega) (by omega), h3, ?_, ?_, z.2.2, h7⟩
  · unfold NR at *
    rw [z.1.fI (by decide), z.1.aI (by omega)]
    exact h4
  · unfold TKn at *
    rw [z.1.fI (by decide)]
    exact h5
def Tx (σ : Hp) (i : Int) : Int → Prop := fun v => 0 < i ∧ aI σ 23 0 = v
def lox (σ : Hp) (i : Int) : Int := if 0 < i then aI σ 22 (i - 1) + 1 else 0

def sp_X6_moveTo (d : Nat) : Sp := fun av σ Q => oR av fun this av => oI av fun i av => oI av fun n av => av = [] ∧ kd σ this = 7 ∧ (this = 19 ∧ 0 < d ∧ (0 ≤ i ∧ n = i + d ∧ n ≤ 2) ∧ ∃ τ f c, CvS τ σ ∧ FRn τ f ∧ aI σ 22 i = c ∧ (0 ≤ c ∧ c < fI τ 1335 61) ∧ mEng τ c ∧ (∀ x, c < x → f x = aI τ 89 x) ∧ CVS (fI τ 1335 61).toNat (mBut τ c) f σ ∧   (∀ σ' u, MvZ i σ σ' → CVS (fI τ 1335 61).toNat (mBut τ c) f σ' → aI σ' 22 i = c → aI σ' 23 i = u → Kto τ (d - 1) f c (Tx σ i) u → (∀ u', u' < u → ¬ Kto τ (d - 1) f c (Tx σ i) u') → Rc τ (d - 1) σ' (i + 1) (fu f c u) (c + 1) (fun v => v = u) → Q (some (vi 1)) σ') ∧   (∀ σ', MvZ i σ σ' → CVS (fI τ 1335 61).toNat (mBut τ c) f σ' → (∀ u, ¬ Kto τ (d - 1) f c (Tx σ i) u) → Q (some (vi 0)) σ'))
theorem us_X6_moveTo (d : Nat) (this : Int) (i : Int) (n : Int) (σ : Hp) (Q : Option AV → Hp → Prop) : sp_X6_moveTo d [vr this, vi i, vi n] σ Q = (kd σ this = 7 ∧ (this = 19 ∧ 0 < d ∧ (0 ≤ i ∧ n = i + d ∧ n ≤ 2) ∧ ∃ τ f c, CvS τ σ ∧ FRn τ f ∧ aI σ 22 i = c ∧ (0 ≤ c ∧ c < fI τ 1335 61) ∧ mEng τ c ∧ (∀ x, c < x → f x = aI τ 89 x) ∧ CVS (fI τ 1335 61).toNat (mBut τ c) f σ ∧   (∀ σ' u, MvZ i σ σ' → CVS (fI τ 1335 61).toNat (mBut τ c) f σ' → aI σ' 22 i = c → aI σ' 23 i = u → Kto τ (d - 1) f c (Tx σ i) u → (∀ u', u' < u → ¬ Kto τ (d - 1) f c (Tx σ i) u') → Rc τ (d - 1) σ' (i + 1) (fu f c u) (c + 1) (fun v => v = u) → Q (some (vi 1)) σ') ∧   (∀ σ', MvZ i σ σ' → CVS (fI τ 1335 61).toNat (mBut τ c) f σ' → (∀ u, ¬ Kto τ (d - 1) f c (Tx σ i) u) → Q (some (vi 0)) σ'))) := propext ⟨fun h => h.2, fun h => ⟨rfl, h⟩⟩
theorem el_X6_moveTo (d : Nat) {av : List AV} {σ : Hp} {Q : Option AV → Hp → Prop} (h : sp_X6_moveTo d av σ Q) : ∃ (this : Int) (i : Int) (n : Int), av = [vr this, vi i, vi n] ∧ (kd σ this = 7 ∧ (this = 19 ∧ 0 < d ∧ (0 ≤ i ∧ n = i + d ∧ n ≤ 2) ∧ ∃ τ f c, CvS τ σ ∧ FRn τ f ∧ aI σ 22 i = c ∧ (0 ≤ c ∧ c < fI τ 1335 61) ∧ mEng τ c ∧ (∀ x, c < x → f x = aI τ 89 x) ∧ CVS (fI τ 1335 61).toNat (mBut τ c) f σ ∧   (∀ σ' u, MvZ i σ σ' → CVS (fI τ 1335 61).toNat (mBut τ c) f σ' → aI σ' 22 i = c → aI σ' 23 i = u → Kto τ (d - 1) f c (Tx σ i) u → (∀ u', u' < u → ¬ Kto τ (d - 1) f c (Tx σ i) u') → Rc τ (d - 1) σ' (i + 1) (fu f c u) (c + 1) (fun v => v = u) → Q (some (vi 1)) σ') ∧   (∀ σ', MvZ i σ σ' → CVS (fI τ 1335 61).toNat (mBut τ c) f σ' → (∀ u, ¬ Kto τ (d - 1) f c (Tx σ i) u) → Q (some (vi 0)) σ'))) := by
  obtain ⟨this, a0, rfl, h0⟩ := oR_s h
  obtain ⟨i, a1, rfl, h1⟩ := oI_s h0
  obtain ⟨n, a2, rfl, h2⟩ := oI_s h1
  obtain ⟨rfl, hz⟩ := h2
  exact ⟨this, i, n, rfl, hz⟩
theorem rc_X6_moveTo (d : Nat) : ∀ (av : List AV) (σ : Hp) (Q : Option AV → Hp → Prop), sp_X6_moveTo d av σ Q → ∃ r tl, av = vr r :: tl ∧ kd σ r = 6 + 1 := fun av σ Q h => by
  obtain ⟨this, i, n, rfl, hz, -⟩ := el_X6_moveTo d h
  exact ⟨this, _, rfl, hz⟩

def sp_X6_moveOn (d : Nat) : Sp := fun av σ Q => oR av fun this av => oI av fun i av => oI av fun n av => av = [] ∧ kd σ this = 7 ∧ (this = 19 ∧ 0 < d ∧ (0 ≤ i ∧ n = i + d ∧ n ≤ 2) ∧ ∃ τ f, CvS τ σ ∧ FRn τ f ∧ (0 ≤ lox σ i ∧ lox σ i ≤ fI τ 1335 61) ∧ (∀ x, lox σ i ≤ x → f x = aI τ 89 x) ∧ CVS (fI τ 1335 61).toNat (mEng τ) f σ ∧   (∀ σ', MvZ i σ σ' → CVS (fI τ 1335 61).toNat (mEng τ) f σ' → Wn τ d f (lox σ i) (Tx σ i) → Rc τ d σ' i f (lox σ i) (Tx σ i) → Q (some (vi 1)) σ') ∧   (∀ σ', MvZ i σ σ' → CVS (fI τ 1335 61).toNat (mEng τ) f σ' → ¬ Wn τ d f (lox σ i) (Tx σ i) → Q (some (vi 0)) σ'))
theorem us_X6_moveOn (d : Nat) (this : Int) (i : Int) (n : Int) (σ : Hp) (Q : Option AV → Hp → Prop) : sp_X6_moveOn d [vr this, vi i, vi n] σ Q = (kd σ this = 7 ∧ (this = 19 ∧ 0 < d ∧ (0 ≤ i ∧ n = i + d ∧ n ≤ 2) ∧ ∃ τ f, CvS τ σ ∧ FRn τ f ∧ (0 ≤ lox σ i ∧ lox σ i ≤ fI τ 1335 61) ∧ (∀ x, lox σ i ≤ x → f x = aI τ 89 x) ∧ CVS (fI τ 1335 61).toNat (mEng τ) f σ ∧   (∀ σ', MvZ i σ σ' → CVS (fI τ 1335 61).toNat (mEng τ) f σ' → Wn τ d f (lox σ i) (Tx σ i) → Rc τ d σ' i f (lox σ i) (Tx σ i) → Q (some (vi 1)) σ') ∧   (∀ σ', MvZ i σ σ' → CVS (fI τ 1335 61).toNat (mEng τ) f σ' → ¬ Wn τ d f (lox σ i) (Tx σ i) → Q (some (vi 0)) σ'))) := propext ⟨fun h => h.2, fun h => ⟨rfl, h⟩⟩
theorem el_X6_moveOn (d : Nat) {av : List AV} {σ : Hp} {Q : Option AV → Hp → Prop} (h : sp_X6_moveOn d av σ Q) : ∃ (this : Int) (i : Int) (n : Int), av = [vr this, vi i, vi n] ∧ (kd σ this = 7 ∧ (this = 19 ∧ 0 < d ∧ (0 ≤ i ∧ n = i + d ∧ n ≤ 2) ∧ ∃ τ f, CvS τ σ ∧ FRn τ f ∧ (0 ≤ lox σ i ∧ lox σ i ≤ fI τ 1335 61) ∧ (∀ x, lox σ i ≤ x → f x = aI τ 89 x) ∧ CVS (fI τ 1335 61).toNat (mEng τ) f σ ∧   (∀ σ', MvZ i σ σ' → CVS (fI τ 1335 61).toNat (mEng τ) f σ' → Wn τ d f (lox σ i) (Tx σ i) → Rc τ d σ' i f (lox σ i) (Tx σ i) → Q (some (vi 1)) σ') ∧   (∀ σ', MvZ i σ σ' → CVS (fI τ 1335 61).toNat (mEng τ) f σ' → ¬ Wn τ d f (lox σ i) (Tx σ i) → Q (some (vi 0)) σ'))) := by
  obtain ⟨this, a0, rfl, h0⟩ := oR_s h
  obtain ⟨i, a1, rfl, h1⟩ := oI_s h0
  obtain ⟨n, a2, rfl, h2⟩ := oI_s h1
  obtain ⟨rfl, hz⟩ := h2
  exact ⟨this, i, n, rfl, hz⟩
theorem rc_X6_moveOn (d : Nat) : ∀ (av : List AV) (σ : Hp) (Q : Option AV → Hp → Prop), sp_X6_moveOn d av σ Q → ∃ r tl, av = vr r :: tl ∧ kd σ r = 6 + 1 := fun av σ Q h => by
  obtain ⟨this, i, n, rfl, hz, -⟩ := el_X6_moveOn d h
  exact ⟨this, _, rfl, hz⟩

def tb_X6_moveTo : Tab := [(0, .iconst 0, 1, (0, 0, 0, 0)), (1, .istore_n 3, 1, (0, 0, 0, 0)), (2, .iload_n 3, 1, (0, 0, 0, 0)), (3, .aload_n 0, 1, (0, 0, 0, 0)), (4, .getfield 27, 3, (7, 704, 2, 0)), (7, .getfield 84, 3, (4, 403, 0, 0)), (10, .if_icmp .ge 79, 3, (0, 0, 0, 0)), (13, .iload_n 1, 1, (0, 0, 0, 0)), (14, .ifCond .lt 69, 3, (0, 0, 0, 0)), (17, .iload_n 1, 1, (0, 0, 0, 0)), (18, .aload_n 0, 1, (0, 0, 0, 0)), (19, .getfield 21, 3, (7, 703, 2, 0)), (22, .arraylength, 1, (0, 0, 0, 0)), (23, .if_icmp .ge 60, 3, (0, 0, 0, 0)), (26, .aload_n 0, 1, (0, 0, 0, 0)), (27, .iload_n 3, 1, (0, 0, 0, 0)), (28, .iload_n 1, 1, (0, 0, 0, 0)), (29, .invokevirtual 118, 3, (0, 0, 0, 0)), (32, .ifCond .eq 51, 3, (0, 0, 0, 0)), (35, .aload_n 0, 1, (0, 0, 0, 0)), (36, .getfield 21, 3, (7, 703, 2, 0)), (39, .iload_n 1, 1, (0, 0, 0, 0)), (40, .iload_n 3, 1, (0, 0, 0, 0)), (41, .iastore, 1, (0, 0, 0, 0)), (42, .aload_n 0, 1, (0, 0, 0, 0)), (43, .iload_n 3, 1, (0, 0, 0, 0)), (44, .invokevirtual 80, 3, (0, 0, 0, 0)), (47, .iload_n 1, 1, (0, 0, 0, 0)), (48, .iconst 1, 1, (0, 0, 0, 0)), (49, .iadd, 1, (0, 0, 0, 0)), (50, .iload_n 2, 1, (0, 0, 0, 0)), (51, .if_icmp .ge 14, 3, (0, 0, 0, 0)), (54, .aload_n 0, 1, (0, 0, 0, 0)), (55, .iload_n 1, 1, (0, 0, 0, 0)), (56, .iconst 1, 1, (0, 0, 0, 0)), (57, .iadd, 1, (0, 0, 0, 0)), (58, .iload_n 2, 1, (0, 0, 0, 0)), (59, .invokevirtual 104, 3, (0, 0, 0, 0)), (62, .goto 7, 3, (0, 0, 0, 0)), (65, .aload_n 0, 1, (0, 0, 0, 0)), (66, .invokevirtual 100, 3, (0, 0, 0, 0)), (69, .istore 4, 2, (0, 0, 0, 0)), (71, .aload_n 0, 1, (0, 0, 0, 0)), (72, .iload_n 3, 1, (0, 0, 0, 0)), (73, .invokevirtual 112, 3, (0, 0, 0, 0)), (76, .iload 4, 2, (0, 0, 0, 0)), (78, .ifCond .eq 5, 3, (0, 0, 0, 0)), (81, .iconst 1, 1, (0, 0, 0, 0)), (82, .ireturn, 1, (0, 0, 0, 0)), (83, .iinc 3 1, 3, (0, 0, 0, 0)), (86, .goto (-84), 3, (0, 0, 0, 0)), (89, .iconst 0, 1, (0, 0, 0, 0)), (90, .ireturn, 1, (0, 0, 0, 0))]
set_option maxRecDepth 100000 in
theorem tk_X6_moveTo : TOK RX6 false cX6_moveTo tb_X6_moveTo := chkT_ok ft_X6 (by decide +kernel)
abbrev HR_X6_moveTo (d : Nat) : Prop := Ct yX6_moveOn cX6_moveOn 6 ((some FieldType.boolean)) (2*(d - 1)+6) 0 0 (sp_X6_moveOn (d - 1))
theorem rw_X6_944 : Row RX6 (.invokevirtual 118) 3 3 0 0 2 sp_X6_isFree := row_V (n := 2) (ci := 6) c_X6_isFree ⟨TBL_in 1348 (by decide +kernel) rfl, TBL_in 1351 (by decide +kernel) rfl, TBL_in 116 (by decide +kernel) rfl, by decide +kernel, by decide⟩ (by decide) rfl (TBL_in 1350 (by decide +kernel) rfl) (TBL_in 58 (by decide +kernel) rfl) rc_X6_isFree
theorem rr_X6_832 {d lv9 : Nat} (hc : Ct yX6_moveOn cX6_moveOn 6 ((some FieldType.boolean)) lv9 0 0 (sp_X6_moveOn d)) : Row RX6 (.invokevirtual 104) 3 3 0 0 lv9 (sp_X6_moveOn d) := row_V (n := 2) (ci := 6) hc ⟨TBL_in 1335 (by decide +kernel) rfl, TBL_in 1338 (by decide +kernel) rfl, TBL_in 116 (by decide +kernel) rfl, by decide +kernel, by decide⟩ (by decide) rfl (TBL_in 1337 (by decide +kernel) rfl) (TBL_in 55 (by decide +kernel) rfl) (rc_X6_moveOn d)
theorem rw_X6_800 : Row RX6 (.invokevirtual 100) 3 1 0 0 1 sp_X6_coversAll := row_V (n := 0) (ci := 6) c_X6_coversAll ⟨TBL_in 1331 (by decide +kernel) rfl, TBL_in 1334 (by decide +kernel) rfl, TBL_in 116 (by decide +kernel) rfl, by decide +kernel, by decide⟩ (by decide) rfl (TBL_in 1333 (by decide +kernel) rfl) (TBL_in 54 (by decide +kernel) rfl) rc_X6_coversAll
theorem rw_X6_896 : Row RX6 (.invokevirtual 112) 3 2 0 0 1 sp_X6_liftEngine := row_V (n := 1) (ci := 6) c_X6_liftEngine ⟨TBL_in 1340 (by decide +kernel) rfl, TBL_in 1343 (by decide +kernel) rfl, TBL_in 116 (by decide +kernel) rfl, by decide +kernel, by decide⟩ (by decide) rfl (TBL_in 1342 (by decide +kernel) rfl) (TBL_in 56 (by decide +kernel) rfl) rc_X6_liftEngine
def mt_X6_moveTo (d : Nat) : List (Nat × Mt) := [(944, 3, 0, 0, 2, sp_X6_isFree), (640, 2, 0, 0, 1, sp_X6_putEngine), (832, 3, 0, 0, 2*(d - 1)+6, sp_X6_moveOn (d - 1)), (800, 1, 0, 0, 1, sp_X6_coversAll), (896, 2, 0, 0, 1, sp_X6_liftEngine)]
theorem mk_X6_moveTo {d : Nat} (hr : HR_X6_moveTo d) : MOK RX6 (mt_X6_moveTo d) := by
  intro q hq
  simp only [mt_X6_moveTo, List.mem_cons, List.not_mem_nil, or_false] at hq
  rcases hq with rfl | rfl | rfl | rfl | rfl
  · dsimp only
    exact rw_X6_944
  · dsimp only
    exact rw_X6_640
  · dsimp only
    exact rr_X6_832 hr
  · dsimp only
    exact rw_X6_800
  · dsimp only
    exact rw_X6_896
noncomputable def xe_X6_moveTo (d : Nat) (ct : Nat → Bool) (K : Kt) (R : Option AV → Hp → Prop) (n : Nat) : Kt := exS 5 (2*d+5) 0 0 2 tb_X6_moveTo (mt_X6_moveTo d) ct K R n
noncomputable def xk_X6_moveTo (d : Nat) (ct : Nat → Bool) (K : Kt) (R : Option AV → Hp → Prop) (n : Nat) : Kt := exkS 5 (2*d+5) 0 0 2 tb_X6_moveTo (mt_X6_moveTo d) ct K R n
theorem xt_X6_moveTo {d : Nat} {ct : Nat → Bool} {K : Kt} {R : Option AV → Hp → Prop} {n pc : Nat} {ls : List (Option AV)} {st : List AV} {σ : Hp} {k : Nat × Nat} (h : ct pc = true) : xk_X6_moveTo d ct K R n pc ls st σ k = K pc ls st σ k := by unfold xk_X6_moveTo exkS; rw [h]
theorem xf_X6_moveTo {d : Nat} {ct : Nat → Bool} {K : Kt} {R : Option AV → Hp → Prop} {n pc : Nat} {ls : List (Option AV)} {st : List AV} {σ : Hp} {k : Nat × Nat} (h : ct pc = false) : xk_X6_moveTo d ct K R n pc ls st σ k = xe_X6_moveTo d ct K R n pc ls st σ k := by unfold xk_X6_moveTo exkS xe_X6_moveTo; rw [h]
theorem ev_X6_moveTo_0 {d : Nat} {ct : Nat → Bool} {K : Kt} {R : Option AV → Hp → Prop} {n : Nat} {ls : List (Option AV)} {st : List AV} {σ : Hp} {k : Nat × Nat} : xe_X6_moveTo d ct K R (n + 1) 0 ls st σ k = (xk_X6_moveTo d ct K R n 1 ls (vi (0) :: st) σ k) := exS_step.trans rfl
theorem ev_X6_moveTo_1 {d : Nat} {ct : Nat → Bool} {K : Kt} {R : Option AV → Hp → Prop} {n : Nat} {ls : List (Option AV)} {st : List AV} {σ : Hp} {k : Nat × Nat} : xe_X6_moveTo d ct K R (n + 1) 1 ls st σ k = (oI st fun x st => 3 < 5 ∧ xk_X6_moveTo d ct K R n 2 (stL ls 3 (vi x)) st σ k) := exS_step.trans rfl
theorem ev_X6_moveTo_2 {d : Nat} {ct : Nat → Bool} {K : Kt} {R : Option AV → Hp → Prop} {n : Nat} {ls : List (Option AV)} {st : List AV} {σ : Hp} {k : Nat × Nat} : xe_X6_moveTo d ct K R (n + 1) 2 ls st σ k = (lI ls 3 fun x => xk_X6_moveTo d ct K R n 3 ls (vi x :: st) σ k) := exS_step.trans rfl
theorem ev_X6_moveTo_3 {d : Nat} {ct : Nat → Bool} {K : Kt} {R : Option AV → Hp → Prop} {n : Nat} {ls : List (Option AV)} {st : List AV} {σ : Hp} {k : Nat × Nat} : xe_X6_moveTo d ct K R (n + 1) 3 ls st σ k = (lR ls 0 fun x => xk_X6_moveTo d ct K R n 4 ls (vr x :: st) σ k) := exS_step.trans rfl
theorem ev_X6_moveTo_4 {d : Nat} {ct : Nat → Bool} {K : Kt} {R : Option AV → Hp → Prop} {n : Nat} {ls : List (Option AV)} {st : List AV} {σ : Hp} {k : Nat × Nat} : xe_X6_moveTo d ct K R (n + 1) 4 ls st σ k = (oR st fun x st => kd σ x = 7 ∧ xk_X6_moveTo d ct K R n 7 ls (vr (fR σ 704 x) :: st) σ k) := exS_step.trans rfl
theorem ev_X6_moveTo_7 {d : Nat} {ct : Nat → Bool} {K : Kt} {R : Option AV → Hp → Prop} {n : Nat} {ls : List (Option AV)} {st : List AV} {σ : Hp} {k : Nat × Nat} : xe_X6_moveTo d ct K R (n + 1) 7 ls st σ k = (oR st fun x st => kd σ x = 4 ∧ xk_X6_moveTo d ct K R n 10 ls (vi (fI σ 403 x) :: st) σ k) := exS_step.trans rfl
theorem ev_X6_moveTo_10 {d : Nat} {ct : Nat → Bool} {K : Kt} {R : Option AV → Hp → Prop} {n : Nat} {ls : List (Option AV)} {st : List AV} {σ : Hp} {k : Nat × Nat} : xe_X6_moveTo d ct K R (n + 1) 10 ls st σ k = (oI st fun y st => oI st fun x st => (wI y ≤ wI x → xk_X6_moveTo d ct K R n 89 ls st σ k) ∧ (¬ (wI y ≤ wI x) → xk_X6_moveTo d ct K R n 13 ls st σ k)) := exS_step.trans rfl
theorem ev_X6_moveTo_13 {d : Nat} {ct : Nat → Bool} {K : Kt} {R : Option AV → Hp → Prop} {n : Nat} {ls : List (Option AV)} {st : List AV} {σ : Hp} {k : Nat × Nat} : xe_X6_moveTo d ct K R (n + 1) 13 ls st σ k = (lI ls 1 fun x => xk_X6_moveTo d ct K R n 14 ls (vi x :: st) σ k) := exS_step.trans rfl
theorem ev_X6_moveTo_14 {d : Nat} {ct : Nat → Bool} {K : Kt} {R : Option AV → Hp → Prop} {n : Nat} {ls : List (Option AV)} {st : List AV} {σ : Hp} {k : Nat × Nat} : xe_X6_moveTo d ct K R (n + 1) 14 ls st σ k = (oI st fun x st => (wI x < wI 0 → xk_X6_moveTo d ct K R n 83 ls st σ k) ∧ (¬ (wI x < wI 0) → xk_X6_moveTo d ct K R n 17 ls st σ k)) := exS_step.trans rfl
theorem ev_X6_moveTo_17 {d : Nat} {ct : Nat → Bool} {K : Kt} {R : Option AV → Hp → Prop} {n : Nat} {ls : List (Option AV)} {st : List AV} {σ : Hp} {k : Nat × Nat} : xe_X6_moveTo d ct K R (n + 1) 17 ls st σ k = (lI ls 1 fun x => xk_X6_moveTo d ct K R n 18 ls (vi x :: st) σ k) := exS_step.trans rfl
theorem ev_X6_moveTo_18 {d : Nat} {ct : Nat → Bool} {K : Kt} {R : Option AV → Hp → Prop} {n : Nat} {ls : List (Option AV)} {st : List AV} {σ : Hp} {k : Nat × Nat} : xe_X6_moveTo d ct K R (n + 1) 18 ls st σ k = (lR ls 0 fun x => xk_X6_moveTo d ct K R n 19 ls (vr x :: st) σ k) := exS_step.trans rfl
theorem ev_X6_moveTo_19 {d : Nat} {ct : Nat → Bool} {K : Kt} {R : Option AV → Hp → Prop} {n : Nat} {ls : List (Option AV)} {st : List AV} {σ : Hp} {k : Nat × Nat} : xe_X6_moveTo d ct K R (n + 1) 19 ls st σ k = (oR st fun x st => kd σ x = 7 ∧ xk_X6_moveTo d ct K R n 22 ls (vr (fR σ 703 x) :: st) σ k) := exS_step.trans rfl
theorem ev_X6_moveTo_22 {d : Nat} {ct : Nat → Bool} {K : Kt} {R : Option AV → Hp → Prop} {n : Nat} {ls : List (Option AV)} {st : List AV} {σ : Hp} {k : Nat × Nat} : xe_X6_moveTo d ct K R (n + 1) 22 ls st σ k = (oR st fun x st => (101 ≤ kd σ x ∨ kd σ x = 21) ∧ xk_X6_moveTo d ct K R n 23 ls (vi (ln σ x) :: st) σ k) := exS_step.trans rfl
theorem ev_X6_moveTo_23 {d : Nat} {ct : Nat → Bool} {K : Kt} {R : Option AV → Hp → Prop} {n : Nat} {ls : List (Option AV)} {st : List AV} {σ : Hp} {k : Nat × Nat} : xe_X6_moveTo d ct K R (n + 1) 23 ls st σ k = (oI st fun y st => oI st fun x st => (wI y ≤ wI x → xk_X6_moveTo d ct K R n 83 ls st σ k) ∧ (¬ (wI y ≤ wI x) → xk_X6_moveTo d ct K R n 26 ls st σ k)) := exS_step.trans rfl
theorem ev_X6_moveTo_26 {d : Nat} {ct : Nat → Bool} {K : Kt} {R : Option AV → Hp → Prop} {n : Nat} {ls : List (Option AV)} {st : List AV} {σ : Hp} {k : Nat × Nat} : xe_X6_moveTo d ct K R (n + 1) 26 ls st σ k = (lR ls 0 fun x => xk_X6_moveTo d ct K R n 27 ls (vr x :: st) σ k) := exS_step.trans rfl
theorem ev_X6_moveTo_27 {d : Nat} {ct : Nat → Bool} {K : Kt} {R : Option AV → Hp → Prop} {n : Nat} {ls : List (Option AV)} {st : List AV} {σ : Hp} {k : Nat × Nat} : xe_X6_moveTo d ct K R (n + 1) 27 ls st σ k = (lI ls 3 fun x => xk_X6_moveTo d ct K R n 28 ls (vi x :: st) σ k) := exS_step.trans rfl
theorem ev_X6_moveTo_28 {d : Nat} {ct : Nat → Bool} {K : Kt} {R : Option AV → Hp → Prop} {n : Nat} {ls : List (Option AV)} {st : List AV} {σ : Hp} {k : Nat × Nat} : xe_X6_moveTo d ct K R (n + 1) 28 ls st σ k = (lI ls 1 fun x => xk_X6_moveTo d ct K R n 29 ls (vi x :: st) σ k) := exS_step.trans rfl
theorem ev_X6_moveTo_29 {d : Nat} {ct : Nat → Bool} {K : Kt} {R : Option AV → Hp → Prop} {n : Nat} {ls : List (Option AV)} {st : List AV} {σ : Hp} {k : Nat × Nat} : xe_X6_moveTo d ct K R (n + 1) 29 ls st σ k = (popN 3 st [] fun av rest => (catS rest ≤ 8 ∧ 2 < (2*d+5) ∧ k.1 + 0 ≤ 0 ∧ k.2 + 0 ≤ 0) ∧ (sp_X6_isFree) av σ fun v σ' => xk_X6_moveTo d ct K R n 32 ls (v.toList ++ rest) σ' (k.1 + 0, k.2 + 0)) := exS_step.trans rfl
theorem ev_X6_moveTo_32 {d : Nat} {ct : Nat → Bool} {K : Kt} {R : Option AV → Hp → Prop} {n : Nat} {ls : List (Option AV)} {st : List AV} {σ : Hp} {k : Nat × Nat} : xe_X6_moveTo d ct K R (n + 1) 32 ls st σ k = (oI st fun x st => (wI x = wI 0 → xk_X6_moveTo d ct K R n 83 ls st σ k) ∧ (¬ (wI x = wI 0) → xk_X6_moveTo d ct K R n 35 ls st σ k)) := exS_step.trans rfl
theorem ev_X6_moveTo_35 {d : Nat} {ct : Nat → Bool} {K : Kt} {R : Option AV → Hp → Prop} {n : Nat} {ls : List (Option AV)} {st : List AV} {σ : Hp} {k : Nat × Nat} : xe_X6_moveTo d ct K R (n + 1) 35 ls st σ k = (lR ls 0 fun x => xk_X6_moveTo d ct K R n 36 ls (vr x :: st) σ k) := exS_step.trans rfl
theorem ev_X6_moveTo_36 {d : Nat} {ct : Nat → Bool} {K : Kt} {R : Option AV → Hp → Prop} {n : Nat} {ls : List (Option AV)} {st : List AV} {σ : Hp} {k : Nat × Nat} : xe_X6_moveTo d ct K R (n + 1) 36 ls st σ k = (oR st fun x st => kd σ x = 7 ∧ xk_X6_moveTo d ct K R n 39 ls (vr (fR σ 703 x) :: st) σ k) := exS_step.trans rfl
theorem ev_X6_moveTo_39 {d : Nat} {ct : Nat → Bool} {K : Kt} {R : Option AV → Hp → Prop} {n : Nat} {ls : List (Option AV)} {st : List AV} {σ : Hp} {k : Nat × Nat} : xe_X6_moveTo d ct K R (n + 1) 39 ls st σ k = (lI ls 1 fun x => xk_X6_moveTo d ct K R n 40 ls (vi x :: st) σ k) := exS_step.trans rfl
theorem ev_X6_moveTo_40 {d : Nat} {ct : Nat → Bool} {K : Kt} {R : Option AV → Hp → Prop} {n : Nat} {ls : List (Option AV)} {st : List AV} {σ : Hp} {k : Nat × Nat} : xe_X6_moveTo d ct K R (n + 1) 40 ls st σ k = (lI ls 3 fun x => xk_X6_moveTo d ct K R n 41 ls (vi x :: st) σ k) := exS_step.trans rfl
theorem ev_X6_moveTo_41 {d : Nat} {ct : Nat → Bool} {K : Kt} {R : Option AV → Hp → Prop} {n : Nat} {ls : List (Option AV)} {st : List AV} {σ : Hp} {k : Nat × Nat} : xe_X6_moveTo d ct K R (n + 1) 41 ls st σ k = (oI st fun v st => oI st fun j st => oR st fun x st => kd σ x = 101 ∧ (0 ≤ j ∧ j < ln σ x) ∧ xk_X6_moveTo d ct K R n 42 ls st (qI σ x j v) k) := exS_step.trans rfl
theorem ev_X6_moveTo_42 {d : Nat} {ct : Nat → Bool} {K : Kt} {R : Option AV → Hp → Prop} {n : Nat} {ls : List (Option AV)} {st : List AV} {σ : Hp} {k : Nat × Nat} : xe_X6_moveTo d ct K R (n + 1) 42 ls st σ k = (lR ls 0 fun x => xk_X6_moveTo d ct K R n 43 ls (vr x :: st) σ k) := exS_step.trans rfl
theorem ev_X6_moveTo_43 {d : Nat} {ct : Nat → Bool} {K : Kt} {R : Option AV → Hp → Prop} {n : Nat} {ls : List (Option AV)} {st : List AV} {σ : Hp} {k : Nat × Nat} : xe_X6_moveTo d ct K R (n + 1) 43 ls st σ k = (lI ls 3 fun x => xk_X6_moveTo d ct K R n 44 ls (vi x :: st) σ k) := exS_step.trans rfl
theorem ev_X6_moveTo_44 {d : Nat} {ct : Nat → Bool} {K : Kt} {R : Option AV → Hp → Prop} {n : Nat} {ls : List (Option AV)} {st : List AV} {σ : Hp} {k : Nat × Nat} : xe_X6_moveTo d ct K R (n + 1) 44 ls st σ k = (popN 2 st [] fun av rest => (catS rest ≤ 8 ∧ 1 < (2*d+5) ∧ k.1 + 0 ≤ 0 ∧ k.2 + 0 ≤ 0) ∧ (sp_X6_putEngine) av σ fun v σ' => xk_X6_moveTo d ct K R n 47 ls (v.toList ++ rest) σ' (k.1 + 0, k.2 + 0)) := exS_step.trans rfl
theorem ev_X6_moveTo_47 {d : Nat} {ct : Nat → Bool} {K : Kt} {R : Option AV → Hp → Prop} {n : Nat} {ls : List (Option AV)} {st : List AV} {σ : Hp} {k : Nat × Nat} : xe_X6_moveTo d ct K R (n + 1) 47 ls st σ k = (lI ls 1 fun x => xk_X6_moveTo d ct K R n 48 ls (vi x :: st) σ k) := exS_step.trans rfl
theorem ev_X6_moveTo_48 {d : Nat} {ct : Nat → Bool} {K : Kt} {R : Option AV → Hp → Prop} {n : Nat} {ls : List (Option AV)} {st : List AV} {σ : Hp} {k : Nat × Nat} : xe_X6_moveTo d ct K R (n + 1) 48 ls st σ k = (xk_X6_moveTo d ct K R n 49 ls (vi (1) :: st) σ k) := exS_step.trans rfl
theorem ev_X6_moveTo_49 {d : Nat} {ct : Nat → Bool} {K : Kt} {R : Option AV → Hp → Prop} {n : Nat} {ls : List (Option AV)} {st : List AV} {σ : Hp} {k : Nat × Nat} : xe_X6_moveTo d ct K R (n + 1) 49 ls st σ k = (oI st fun y st => oI st fun x st => xk_X6_moveTo d ct K R n 50 ls (vi (x + y) :: st) σ k) := exS_step.trans rfl
theorem ev_X6_moveTo_50 {d : Nat} {ct : Nat → Bool} {K : Kt} {R : Option AV → Hp → Prop} {n : Nat} {ls : List (Option AV)} {st : List AV} {σ : Hp} {k : Nat × Nat} : xe_X6_moveTo d ct K R (n + 1) 50 ls st σ k = (lI ls 2 fun x => xk_X6_moveTo d ct K R n 51 ls (vi x :: st) σ k) := exS_step.trans rfl
theorem ev_X6_moveTo_51 {d : Nat} {ct : Nat → Bool} {K : Kt} {R : Option AV → Hp → Prop} {n : Nat} {ls : List (Option AV)} {st : List AV} {σ : Hp} {k : Nat × Nat} : xe_X6_moveTo d ct K R (n + 1) 51 ls st σ k = (oI st fun y st => oI st fun x st => (wI y ≤ wI x → xk_X6_moveTo d ct K R n 65 ls st σ k) ∧ (¬ (wI y ≤ wI x) → xk_X6_moveTo d ct K R n 54 ls st σ k)) := exS_step.trans rfl
theorem ev_X6_moveTo_54 {d : Nat} {ct : Nat → Bool} {K : Kt} {R : Option AV → Hp → Prop} {n : Nat} {ls : List (Option AV)} {st : List AV} {σ : Hp} {k : Nat × Nat} : xe_X6_moveTo d ct K R (n + 1) 54 ls st σ k = (lR ls 0 fun x => xk_X6_moveTo d ct K R n 55 ls (vr x :: st) σ k) := exS_step.trans rfl
theorem ev_X6_moveTo_55 {d : Nat} {ct : Nat → Bool} {K : Kt} {R : Option AV → Hp → Prop} {n : Nat} {ls : List (Option AV)} {st : List AV} {σ : Hp} {k : Nat × Nat} : xe_X6_moveTo d ct K R (n + 1) 55 ls st σ k = (lI ls 1 fun x => xk_X6_moveTo d ct K R n 56 ls (vi x :: st) σ k) := exS_step.trans rfl
theorem ev_X6_moveTo_56 {d : Nat} {ct : Nat → Bool} {K : Kt} {R : Option AV → Hp → Prop} {n : Nat} {ls : List (Option AV)} {st : List AV} {σ : Hp} {k : Nat × Nat} : xe_X6_moveTo d ct K R (n + 1) 56 ls st σ k = (xk_X6_moveTo d ct K R n 57 ls (vi (1) :: st) σ k) := exS_step.trans rfl
theorem ev_X6_moveTo_57 {d : Nat} {ct : Nat → Bool} {K : Kt} {R : Option AV → Hp → Prop} {n : Nat} {ls : List (Option AV)} {st : List AV} {σ : Hp} {k : Nat × Nat} : xe_X6_moveTo d ct K R (n + 1) 57 ls st σ k = (oI st fun y st => oI st fun x st => xk_X6_moveTo d ct K R n 58 ls (vi (x + y) :: st) σ k) := exS_step.trans rfl
theorem ev_X6_moveTo_58 {d : Nat} {ct : Nat → Bool} {K : Kt} {R : Option AV → Hp → Prop} {n : Nat} {ls : List (Option AV)} {st : List AV} {σ : Hp} {k : Nat × Nat} : xe_X6_moveTo d ct K R (n + 1) 58 ls st σ k = (lI ls 2 fun x => xk_X6_moveTo d ct K R n 59 ls (vi x :: st) σ k) := exS_step.trans rfl
theorem ev_X6_moveTo_59 {d : Nat} {ct : Nat → Bool} {K : Kt} {R : Option AV → Hp → Prop} {n : Nat} {ls : List (Option AV)} {st : List AV} {σ : Hp} {k : Nat × Nat} : xe_X6_moveTo d ct K R (n + 1) 59 ls st σ k = (popN 3 st [] fun av rest => (catS rest ≤ 8 ∧ 2*(d - 1)+6 < (2*d+5) ∧ k.1 + 0 ≤ 0 ∧ k.2 + 0 ≤ 0) ∧ (sp_X6_moveOn (d - 1)) av σ fun v σ' => xk_X6_moveTo d ct K R n 62 ls (v.toList ++ rest) σ' (k.1 + 0, k.2 + 0)) := exS_step.trans rfl
theorem ev_X6_moveTo_62 {d : Nat} {ct : Nat → Bool} {K : Kt} {R : Option AV → Hp → Prop} {n : Nat} {ls : List (Option AV)} {st : List AV} {σ : Hp} {k : Nat × Nat} : xe_X6_moveTo d ct K R (n + 1) 62 ls st σ k = (xk_X6_moveTo d ct K R n 69 ls st σ k) := exS_step.trans rfl
theorem ev_X6_moveTo_65 {d : Nat} {ct : Nat → Bool} {K : Kt} {R : Option AV → Hp → Prop} {n : Nat} {ls : List (Option AV)} {st : List AV} {σ : Hp} {k : Nat × Nat} : xe_X6_moveTo d ct K R (n + 1) 65 ls st σ k = (lR ls 0 fun x => xk_X6_moveTo d ct K R n 66 ls (vr x :: st) σ k) := exS_step.trans rfl
theorem ev_X6_moveTo_66 {d : Nat} {ct : Nat → Bool} {K : Kt} {R : Option AV → Hp → Prop} {n : Nat} {ls : List (Option AV)} {st : List AV} {σ : Hp} {k : Nat × Nat} : xe_X6_moveTo d ct K R (n + 1) 66 ls st σ k = (popN 1 st [] fun av rest => (catS rest ≤ 8 ∧ 1 < (2*d+5) ∧ k.1 + 0 ≤ 0 ∧ k.2 + 0 ≤ 0) ∧ (sp_X6_coversAll) av σ fun v σ' => xk_X6_moveTo d ct K R n 69 ls (v.toList ++ rest) σ' (k.1 + 0, k.2 + 0)) := exS_step.trans rfl
theorem ev_X6_moveTo_69 {d : Nat} {ct : Nat → Bool} {K : Kt} {R : Option AV → Hp → Prop} {n : Nat} {ls : List (Option AV)} {st : List AV} {σ : Hp} {k : Nat × Nat} : xe_X6_moveTo d ct K R (n + 1) 69 ls st σ k = (oI st fun x st => 4 < 5 ∧ xk_X6_moveTo d ct K R n 71 (stL ls 4 (vi x)) st σ k) := exS_step.trans rfl
theorem ev_X6_moveTo_71 {d : Nat} {ct : Nat → Bool} {K : Kt} {R : Option AV → Hp → Prop} {n : Nat} {ls : List (Option AV)} {st : List AV} {σ : Hp} {k : Nat × Nat} : xe_X6_moveTo d ct K R (n + 1) 71 ls st σ k = (lR ls 0 fun x => xk_X6_moveTo d ct K R n 72 ls (vr x :: st) σ k) := exS_step.trans rfl
theorem ev_X6_moveTo_72 {d : Nat} {ct : Nat → Bool} {K : Kt} {R : Option AV → Hp → Prop} {n : Nat} {ls : List (Option AV)} {st : List AV} {σ : Hp} {k : Nat × Nat} : xe_X6_moveTo d ct K R (n + 1) 72 ls st σ k = (lI ls 3 fun x => xk_X6_moveTo d ct K R n 73 ls (vi x :: st) σ k) := exS_step.trans rfl
theorem ev_X6_moveTo_73 {d : Nat} {ct : Nat → Bool} {K : Kt} {R : Option AV → Hp → Prop} {n : Nat} {ls : List (Option AV)} {st : List AV} {σ : Hp} {k : Nat × Nat} : xe_X6_moveTo d ct K R (n + 1) 73 ls st σ k = (popN 2 st [] fun av rest => (catS rest ≤ 8 ∧ 1 < (2*d+5) ∧ k.1 + 0 ≤ 0 ∧ k.2 + 0 ≤ 0) ∧ (sp_X6_liftEngine) av σ fun v σ' => xk_X6_moveTo d ct K R n 76 ls (v.toList ++ rest) σ' (k.1 + 0, k.2 + 0)) := exS_step.trans rfl
theorem ev_X6_moveTo_76 {d : Nat} {ct : Nat → Bool} {K : Kt} {R : Option AV → Hp → Prop} {n : Nat} {ls : List (Option AV)} {st : List AV} {σ : Hp} {k : Nat × Nat} : xe_X6_moveTo d ct K R (n + 1) 76 ls st σ k = (lI ls 4 fun x => xk_X6_moveTo d ct K R n 78 ls (vi x :: st) σ k) := exS_step.trans rfl
theorem ev_X6_moveTo_78 {d : Nat} {ct : Nat → Bool} {K : Kt} {R : Option AV → Hp → Prop} {n : Nat} {ls : List (Option AV)} {st : List AV} {σ : Hp} {k : Nat × Nat} : xe_X6_moveTo d ct K R (n + 1) 78 ls st σ k = (oI st fun x st => (wI x = wI 0 → xk_X6_moveTo d ct K R n 83 ls st σ k) ∧ (¬ (wI x = wI 0) → xk_X6_moveTo d ct K R n 81 ls st σ k)) := exS_step.trans rfl
theorem ev_X6_moveTo_81 {d : Nat} {ct : Nat → Bool} {K : Kt} {R : Option AV → Hp → Prop} {n : Nat} {ls : List (Option AV)} {st : List AV} {σ : Hp} {k : Nat × Nat} : xe_X6_moveTo d ct K R (n + 1) 81 ls st σ k = (xk_X6_moveTo d ct K R n 82 ls (vi (1) :: st) σ k) := exS_step.trans rfl
theorem ev_X6_moveTo_82 {d : Nat} {ct : Nat → Bool} {K : Kt} {R : Option AV → Hp → Prop} {n : Nat} {ls : List (Option AV)} {st : List AV} {σ : Hp} {k : Nat × Nat} : xe_X6_moveTo d ct K R (n + 1) 82 ls st σ k = (oI st fun x st => st = [] ∧ (x = 0 ∨ x = 1) ∧ R (some (vi x)) σ) := exS_step.trans rfl
theorem ev_X6_moveTo_83 {d : Nat} {ct : Nat → Bool} {K : Kt} {R : Option AV → Hp → Prop} {n : Nat} {ls : List (Option AV)} {st : List AV} {σ : Hp} {k : Nat × Nat} : xe_X6_moveTo d ct K R (n + 1) 83 ls st σ k = (lI ls 3 fun x => 3 < 5 ∧ xk_X6_moveTo d ct K R n 86 (stL ls 3 (vi (x + (1)))) st σ k) := exS_step.trans rfl
theorem ev_X6_moveTo_86 {d : Nat} {ct : Nat → Bool} {K : Kt} {R : Option AV → Hp → Prop} {n : Nat} {ls : List (Option AV)} {st : List AV} {σ : Hp} {k : Nat × Nat} : xe_X6_moveTo d ct K R (n + 1) 86 ls st σ k = (xk_X6_moveTo d ct K R n 2 ls st σ k) := exS_step.trans rfl
theorem ev_X6_moveTo_89 {d : Nat} {ct : Nat → Bool} {K : Kt} {R : Option AV → Hp → Prop} {n : Nat} {ls : List (Option AV)} {st : List AV} {σ : Hp} {k : Nat × Nat} : xe_X6_moveTo d ct K R (n + 1) 89 ls st σ k = (xk_X6_moveTo d ct K R n 90 ls (vi (0) :: st) σ k) := exS_step.trans rfl
theorem ev_X6_moveTo_90 {d : Nat} {ct : Nat → Bool} {K : Kt} {R : Option AV → Hp → Prop} {n : Nat} {ls : List (Option AV)} {st : List AV} {σ : Hp} {k : Nat × Nat} : xe_X6_moveTo d ct K R (n + 1) 90 ls st σ k = (oI st fun x st => st = [] ∧ (x = 0 ∨ x = 1) ∧ R (some (vi x)) σ) := exS_step.trans rfl
def M_X6_moveTo (d : Nat) : Md := (yX6_moveTo, cX6_moveTo, 5, (some FieldType.boolean), (2*d+5), 0, 0, 2, false, tb_X6_moveTo, mt_X6_moveTo d)
theorem mm_X6_moveTo {d : Nat} (hr : HR_X6_moveTo d) : MMOK (M_X6_moveTo d) := ⟨by show plainFor yX6_moveTo = true; decide +kernel, tk_X6_moveTo, mk_X6_moveTo hr, rfl, fun h => by cases h⟩
theorem go_X6_moveTo {d : Nat} (hr : HR_X6_moveTo d) {Q : Option AV → Hp → Prop} {ct : Nat → Bool} {pc : Nat} {ls : List (Option AV)} {st : List AV} {σ : Hp} {k : Nat × Nat} (n : Nat) (h : xe_X6_moveTo d ct (Go (M_X6_moveTo d) Q) Q n pc ls st σ k) : Go (M_X6_moveTo d) Q pc ls st σ k := Go.exS (mm_X6_moveTo hr) h

def tb_X6_moveOn : Tab := [(0, .iload_n 1, 1, (0, 0, 0, 0)), (1, .ifCond .lt 17, 3, (0, 0, 0, 0)), (4, .iload_n 1, 1, (0, 0, 0, 0)), (5, .iload_n 2, 1, (0, 0, 0, 0)), (6, .if_icmp .ge 12, 3, (0, 0, 0, 0)), (9, .iload_n 1, 1, (0, 0, 0, 0)), (10, .aload_n 0, 1, (0, 0, 0, 0)), (11, .getfield 18, 3, (7, 702, 2, 0)), (14, .arraylength, 1, (0, 0, 0, 0)), (15, .if_icmp .lt 5, 3, (0, 0, 0, 0)), (18, .iconst 0, 1, (0, 0, 0, 0)), (19, .ireturn, 1, (0, 0, 0, 0)), (20, .iload_n 1, 1, (0, 0, 0, 0)), (21, .ifCond .le 16, 3, (0, 0, 0, 0)), (24, .aload_n 0, 1, (0, 0, 0, 0)), (25, .getfield 18, 3, (7, 702, 2, 0)), (28, .iload_n 1, 1, (0, 0, 0, 0)), (29, .iconst 1, 1, (0, 0, 0, 0)), (30, .isub, 1, (0, 0, 0, 0)), (31, .iaload, 1, (0, 0, 0, 0)), (32, .iconst 1, 1, (0, 0, 0, 0)), (33, .iadd, 1, (0, 0, 0, 0)), (34, .goto 4, 3, (0, 0, 0, 0)), (37, .iconst 0, 1, (0, 0, 0, 0)), (38, .istore_n 3, 1, (0, 0, 0, 0)), (39, .iload_n 3, 1, (0, 0, 0, 0)), (40, .aload_n 0, 1, (0, 0, 0, 0)), (41, .getfield 27, 3, (7, 704, 2, 0)), (44, .getfield 68, 3, (4, 402, 2, 0)), (47, .invokevirtual 48, 3, (0, 0, 0, 0)), (50, .if_icmp .ge 73, 3, (0, 0, 0, 0)), (53, .aload_n 0, 1, (0, 0, 0, 0)), (54, .getfield 27, 3, (7, 704, 2, 0)), (57, .iload_n 3, 1, (0, 0, 0, 0)), (58, .invokevirtual 108, 3, (0, 0, 0, 0)), (61, .astore 4, 2, (0, 0, 0, 0)), (63, .aload 4, 2, (0, 0, 0, 0)), (65, .ifnull 52, 3, (0, 0, 0, 0)), (68, .aload 4, 2, (0, 0, 0, 0)), (70, .iconst 0, 1, (0, 0, 0, 0)), (71, .invokevirtual 73, 3, (0, 0, 0, 0)), (74, .ifCond .eq 43, 3, (0, 0, 0, 0)), (77, .aload_n 0, 1, (0, 0, 0, 0)), (78, .getfield 18, 3, (7, 702, 2, 0)), (81, .iload_n 1, 1, (0, 0, 0, 0)), (82, .iload_n 3, 1, (0, 0, 0, 0)), (83, .iastore, 1, (0, 0, 0, 0)), (84, .aload_n 0, 1, (0, 0, 0, 0)), (85, .aload 4, 2, (0, 0, 0, 0)), (87, .getfield 77, 3, (6, 602, 0, 0)), (90, .invokevirtual 112, 3, (0, 0, 0, 0)), (93, .aload_n 0, 1, (0, 0, 0, 0)), (94, .iload_n 1, 1, (0, 0, 0, 0)), (95, .iload_n 2, 1, (0, 0, 0, 0)), (96, .invokevirtual 115, 3, (0, 0, 0, 0)), (99, .istore 5, 2, (0, 0, 0, 0)), (101, .aload_n 0, 1, (0, 0, 0, 0)), (102, .aload 4, 2, (0, 0, 0, 0)), (104, .getfield 77, 3, (6, 602, 0, 0)), (107, .invokevirtual 80, 3, (0, 0, 0, 0)), (110, .iload 5, 2, (0, 0, 0, 0)), (112, .ifCond .eq 5, 3, (0, 0, 0, 0)), (115, .iconst 1, 1, (0, 0, 0, 0)), (116, .ireturn, 1, (0, 0, 0, 0)), (117, .iinc 3 1, 3, (0, 0, 0, 0)), (120, .goto (-81), 3, (0, 0, 0, 0)), (123, .iconst 0, 1, (0, 0, 0, 0)), (124, .ireturn, 1, (0, 0, 0, 0))]
set_option maxRecDepth 100000 in
theorem tk_X6_moveOn : TOK RX6 false cX6_moveOn tb_X6_moveOn := chkT_ok ft_X6 (by decide +kernel)
abbrev HR_X6_moveOn (d : Nat) : Prop := Ct yX6_moveTo cX6_moveTo 5 ((some FieldType.boolean)) (2*(d)+5) 0 0 (sp_X6_moveTo (d))
theorem rw_X6_864 : Row RX6 (.invokevirtual 108) 3 2 0 0 4 sp_X3_companyOf := row_V (n := 1) (ci := 3) c_X3_companyOf ⟨TBL_in 1339 (by decide +kernel) rfl, TBL_in 1251 (by decide +kernel) rfl, TBL_in 117 (by decide +kernel) rfl, by decide +kernel, by decide⟩ (by decide) rfl (TBL_in 1249 (by decide +kernel) rfl) (TBL_in 1250 (by decide +kernel) rfl) rc_X3_companyOf
theorem rr_X6_920 {d lv9 : Nat} (hc : Ct yX6_moveTo cX6_moveTo 5 ((some FieldType.boolean)) lv9 0 0 (sp_X6_moveTo d)) : Row RX6 (.invokevirtual 115) 3 3 0 0 lv9 (sp_X6_moveTo d) := row_V (n := 2) (ci := 6) hc ⟨TBL_in 1344 (by decide +kernel) rfl, TBL_in 1347 (by decide +kernel) rfl, TBL_in 116 (by decide +kernel) rfl, by decide +kernel, by decide⟩ (by decide) rfl (TBL_in 1346 (by decide +kernel) rfl) (TBL_in 57 (by decide +kernel) rfl) (rc_X6_moveTo d)
def mt_X6_moveOn (d : Nat) : List (Nat × Mt) := [(384, 1, 0, 0, 1, sp_Jx4a65c_size_8abf5), (864, 2, 0, 0, 4, sp_X3_companyOf), (584, 2, 0, 0, 1, sp_X5_isIn), (896, 2, 0, 0, 1, sp_X6_liftEngine), (920, 3, 0, 0, 2*(d)+5, sp_X6_moveTo (d)), (640, 2, 0, 0, 1, sp_X6_putEngine)]
theorem mk_X6_moveOn {d : Nat} (hr : HR_X6_moveOn d) : MOK RX6 (mt_X6_moveOn d) := by
  intro q hq
  simp only [mt_X6_moveOn, List.mem_cons, List.not_mem_nil, or_false] at hq
  rcases hq with rfl | rfl | rfl | rfl | rfl | rfl
  · dsimp only
    exact rw_X6_384
  · dsimp only
    exact rw_X6_864
  · dsimp only
    exact rw_X6_584
  · dsimp only
    exact rw_X6_896
  · dsimp only
    exact rr_X6_920 hr
  · dsimp only
    exact rw_X6_640
noncomputable def xe_X6_moveOn (d : Nat) (ct : Nat → Bool) (K : Kt) (R : Option AV → Hp → Prop) (n : Nat) : Kt := exS 6 (2*d+6) 0 0 2 tb_X6_moveOn (mt_X6_moveOn d) ct K R n
noncomputable def xk_X6_moveOn (d : Nat) (ct : Nat → Bool) (K : Kt) (R : Option AV → Hp → Prop) (n : Nat) : Kt := exkS 6 (2*d+6) 0 0 2 tb_X6_moveOn (mt_X6_moveOn d) ct K R n
theorem xt_X6_moveOn {d : Nat} {ct : Nat → Bool} {K : Kt} {R : Option AV → Hp → Prop} {n pc : Nat} {ls : List (Option AV)} {st : List AV} {σ : Hp} {k : Nat × Nat} (h : ct pc = true) : xk_X6_moveOn d ct K R n pc ls st σ k = K pc ls st σ k := by unfold xk_X6_moveOn exkS; rw [h]
theorem xf_X6_moveOn {d : Nat} {ct : Nat → Bool} {K : Kt} {R : Option AV → Hp → Prop} {n pc : Nat} {ls : List (Option AV)} {st : List AV} {σ : Hp} {k : Nat × Nat} (h : ct pc = false) : xk_X6_moveOn d ct K R n pc ls st σ k = xe_X6_moveOn d ct K R n pc ls st σ k := by unfold xk_X6_moveOn exkS xe_X6_moveOn; rw [h]
theorem ev_X6_moveOn_0 {d : Nat} {ct : Nat → Bool} {K : Kt} {R : Option AV → Hp → Prop} {n : Nat} {ls : List (Option AV)} {st : List AV} {σ : Hp} {k : Nat × Nat} : xe_X6_moveOn d ct K R (n + 1) 0 ls st σ k = (lI ls 1 fun x => xk_X6_moveOn d ct K R n 1 ls (vi x :: st) σ k) := exS_step.trans rfl
theorem ev_X6_moveOn_1 {d : Nat} {ct : Nat → Bool} {K : Kt} {R : Option AV → Hp → Prop} {n : Nat} {ls : List (Option AV)} {st : List AV} {σ : Hp} {k : Nat × Nat} : xe_X6_moveOn d ct K R (n + 1) 1 ls st σ k = (oI st fun x st => (wI x < wI 0 → xk_X6_moveOn d ct K R n 18 ls st σ k) ∧ (¬ (wI x < wI 0) → xk_X6_moveOn d ct K R n 4 ls st σ k)) := exS_step.trans rfl
theorem ev_X6_moveOn_4 {d : Nat} {ct : Nat → Bool} {K : Kt} {R : Option AV → Hp → Prop} {n : Nat} {ls : List (Option AV)} {st : List AV} {σ : Hp} {k : Nat × Nat} : xe_X6_moveOn d ct K R (n + 1) 4 ls st σ k = (lI ls 1 fun x => xk_X6_moveOn d ct K R n 5 ls (vi x :: st) σ k) := exS_step.trans rfl
theorem ev_X6_moveOn_5 {d : Nat} {ct : Nat → Bool} {K : Kt} {R : Option AV → Hp → Prop} {n : Nat} {ls : List (Option AV)} {st : List AV} {σ : Hp} {k : Nat × Nat} : xe_X6_moveOn d ct K R (n + 1) 5 ls st σ k = (lI ls 2 fun x => xk_X6_moveOn d ct K R n 6 ls (vi x :: st) σ k) := exS_step.trans rfl
theorem ev_X6_moveOn_6 {d : Nat} {ct : Nat → Bool} {K : Kt} {R : Option AV → Hp → Prop} {n : Nat} {ls : List (Option AV)} {st : List AV} {σ : Hp} {k : Nat × Nat} : xe_X6_moveOn d ct K R (n + 1) 6 ls st σ k = (oI st fun y st => oI st fun x st => (wI y ≤ wI x → xk_X6_moveOn d ct K R n 18 ls st σ k) ∧ (¬ (wI y ≤ wI x) → xk_X6_moveOn d ct K R n 9 ls st σ k)) := exS_step.trans rfl
theorem ev_X6_moveOn_9 {d : Nat} {ct : Nat → Bool} {K : Kt} {R : Option AV → Hp → Prop} {n : Nat} {ls : List (Option AV)} {st : List AV} {σ : Hp} {k : Nat × Nat} : xe_X6_moveOn d ct K R (n + 1) 9 ls st σ k = (lI ls 1 fun x => xk_X6_moveOn d ct K R n 10 ls (vi x :: st) σ k) := exS_step.trans rfl
theorem ev_X6_moveOn_10 {d : Nat} {ct : Nat → Bool} {K : Kt} {R : Option AV → Hp → Prop} {n : Nat} {ls : List (Option AV)} {st : List AV} {σ : Hp} {k : Nat × Nat} : xe_X6_moveOn d ct K R (n + 1) 10 ls st σ k = (lR ls 0 fun x => xk_X6_moveOn d ct K R n 11 ls (vr x :: st) σ k) := exS_step.trans rfl
theorem ev_X6_moveOn_11 {d : Nat} {ct : Nat → Bool} {K : Kt} {R : Option AV → Hp → Prop} {n : Nat} {ls : List (Option AV)} {st : List AV} {σ : Hp} {k : Nat × Nat} : xe_X6_moveOn d ct K R (n + 1) 11 ls st σ k = (oR st fun x st => kd σ x = 7 ∧ xk_X6_moveOn d ct K R n 14 ls (vr (fR σ 702 x) :: st) σ k) := exS_step.trans rfl
theorem ev_X6_moveOn_14 {d : Nat} {ct : Nat → Bool} {K : Kt} {R : Option AV → Hp → Prop} {n : Nat} {ls : List (Option AV)} {st : List AV} {σ : Hp} {k : Nat × Nat} : xe_X6_moveOn d ct K R (n + 1) 14 ls st σ k = (oR st fun x st => (101 ≤ kd σ x ∨ kd σ x = 21) ∧ xk_X6_moveOn d ct K R n 15 ls (vi (ln σ x) :: st) σ k) := exS_step.trans rfl
theorem ev_X6_moveOn_15 {d : Nat} {ct : Nat → Bool} {K : Kt} {R : Option AV → Hp → Prop} {n : Nat} {ls : List (Option AV)} {st : List AV} {σ : Hp} {k : Nat × Nat} : xe_X6_moveOn d ct K R (n + 1) 15 ls st σ k = (oI st fun y st => oI st fun x st => (wI x < wI y → xk_X6_moveOn d ct K R n 20 ls st σ k) ∧ (¬ (wI x < wI y) → xk_X6_moveOn d ct K R n 18 ls st σ k)) := exS_step.trans rfl
theorem ev_X6_moveOn_18 {d : Nat} {ct : Nat → Bool} {K : Kt} {R : Option AV → Hp → Prop} {n : Nat} {ls : List (Option AV)} {st : List AV} {σ : Hp} {k : Nat × Nat} : xe_X6_moveOn d ct K R (n + 1) 18 ls st σ k = (xk_X6_moveOn d ct K R n 19 ls (vi (0) :: st) σ k) := exS_step.trans rfl
theorem ev_X6_moveOn_19 {d : Nat} {ct : Nat → Bool} {K : Kt} {R : Option AV → Hp → Prop} {n : Nat} {ls : List (Option AV)} {st : List AV} {σ : Hp} {k : Nat × Nat} : xe_X6_moveOn d ct K R (n + 1) 19 ls st σ k = (oI st fun x st => st = [] ∧ (x = 0 ∨ x = 1) ∧ R (some (vi x)) σ) := exS_step.trans rfl
theorem ev_X6_moveOn_20 {d : Nat} {ct : Nat → Bool} {K : Kt} {R : Option AV → Hp → Prop} {n : Nat} {ls : List (Option AV)} {st : List AV} {σ : Hp} {k : Nat × Nat} : xe_X6_moveOn d ct K R (n + 1) 20 ls st σ k = (lI ls 1 fun x => xk_X6_moveOn d ct K R n 21 ls (vi x :: st) σ k) := exS_step.trans rfl
theorem ev_X6_moveOn_21 {d : Nat} {ct : Nat → Bool} {K : Kt} {R : Option AV → Hp → Prop} {n : Nat} {ls : List (Option AV)} {st : List AV} {σ : Hp} {k : Nat × Nat} : xe_X6_moveOn d ct K R (n + 1) 21 ls st σ k = (oI st fun x st => (wI x ≤ wI 0 → xk_X6_moveOn d ct K R n 37 ls st σ k) ∧ (¬ (wI x ≤ wI 0) → xk_X6_moveOn d ct K R n 24 ls st σ k)) := exS_step.trans rfl
theorem ev_X6_moveOn_24 {d : Nat} {ct : Nat → Bool} {K : Kt} {R : Option AV → Hp → Prop} {n : Nat} {ls : List (Option AV)} {st : List AV} {σ : Hp} {k : Nat × Nat} : xe_X6_moveOn d ct K R (n + 1) 24 ls st σ k = (lR ls 0 fun x => xk_X6_moveOn d ct K R n 25 ls (vr x :: st) σ k) := exS_step.trans rfl
theorem ev_X6_moveOn_25 {d : Nat} {ct : Nat → Bool} {K : Kt} {R : Option AV → Hp → Prop} {n : Nat} {ls : List (Option AV)} {st : List AV} {σ : Hp} {k : Nat × Nat} : xe_X6_moveOn d ct K R (n + 1) 25 ls st σ k = (oR st fun x st => kd σ x = 7 ∧ xk_X6_moveOn d ct K R n 28 ls (vr (fR σ 702 x) :: st) σ k) := exS_step.trans rfl
theorem ev_X6_moveOn_28 {d : Nat} {ct : Nat → Bool} {K : Kt} {R : Option AV → Hp → Prop} {n : Nat} {ls : List (Option AV)} {st : List AV} {σ : Hp} {k : Nat × Nat} : xe_X6_moveOn d ct K R (n + 1) 28 ls st σ k = (lI ls 1 fun x => xk_X6_moveOn d ct K R n 29 ls (vi x :: st) σ k) := exS_step.trans rfl
theorem ev_X6_moveOn_29 {d : Nat} {ct : Nat → Bool} {K : Kt} {R : Option AV → Hp → Prop} {n : Nat} {ls : List (Option AV)} {st : List AV} {σ : Hp} {k : Nat × Nat} : xe_X6_moveOn d ct K R (n + 1) 29 ls st σ k = (xk_X6_moveOn d ct K R n 30 ls (vi (1) :: st) σ k) := exS_step.trans rfl
theorem ev_X6_moveOn_30 {d : Nat} {ct : Nat → Bool} {K : Kt} {R : Option AV → Hp → Prop} {n : Nat} {ls : List (Option AV)} {st : List AV} {σ : Hp} {k : Nat × Nat} : xe_X6_moveOn d ct K R (n + 1) 30 ls st σ k = (oI st fun y st => oI st fun x st => xk_X6_moveOn d ct K R n 31 ls (vi (x - y) :: st) σ k) := exS_step.trans rfl
theorem ev_X6_moveOn_31 {d : Nat} {ct : Nat → Bool} {K : Kt} {R : Option AV → Hp → Prop} {n : Nat} {ls : List (Option AV)} {st : List AV} {σ : Hp} {k : Nat × Nat} : xe_X6_moveOn d ct K R (n + 1) 31 ls st σ k = (oI st fun j st => oR st fun x st => (kd σ x = 101 ∨ kd σ x = 108) ∧ (0 ≤ j ∧ j < ln σ x) ∧ xk_X6_moveOn d ct K R n 32 ls (vi (aI σ x j) :: st) σ k) := exS_step.trans rfl
theorem ev_X6_moveOn_32 {d : Nat} {ct : Nat → Bool} {K : Kt} {R : Option AV → Hp → Prop} {n : Nat} {ls : List (Option AV)} {st : List AV} {σ : Hp} {k : Nat × Nat} : xe_X6_moveOn d ct K R (n + 1) 32 ls st σ k = (xk_X6_moveOn d ct K R n 33 ls (vi (1) :: st) σ k) := exS_step.trans rfl
theorem ev_X6_moveOn_33 {d : Nat} {ct : Nat → Bool} {K : Kt} {R : Option AV → Hp → Prop} {n : Nat} {ls : List (Option AV)} {st : List AV} {σ : Hp} {k : Nat × Nat} : xe_X6_moveOn d ct K R (n + 1) 33 ls st σ k = (oI st fun y st => oI st fun x st => xk_X6_moveOn d ct K R n 34 ls (vi (x + y) :: st) σ k) := exS_step.trans rfl
theorem ev_X6_moveOn_34 {d : Nat} {ct : Nat → Bool} {K : Kt} {R : Option AV → Hp → Prop} {n : Nat} {ls : List (Option AV)} {st : List AV} {σ : Hp} {k : Nat × Nat} : xe_X6_moveOn d ct K R (n + 1) 34 ls st σ k = (xk_X6_moveOn d ct K R n 38 ls st σ k) := exS_step.trans rfl
theorem ev_X6_moveOn_37 {d : Nat} {ct : Nat → Bool} {K : Kt} {R : Option AV → Hp → Prop} {n : Nat} {ls : List (Option AV)} {st : List AV} {σ : Hp} {k : Nat × Nat} : xe_X6_moveOn d ct K R (n + 1) 37 ls st σ k = (xk_X6_moveOn d ct K R n 38 ls (vi (0) :: st) σ k) := exS_step.trans rfl
theorem ev_X6_moveOn_38 {d : Nat} {ct : Nat → Bool} {K : Kt} {R : Option AV → Hp → Prop} {n : Nat} {ls : List (Option AV)} {st : List AV} {σ : Hp} {k : Nat × Nat} : xe_X6_moveOn d ct K R (n + 1) 38 ls st σ k = (oI st fun x st => 3 < 6 ∧ xk_X6_moveOn d ct K R n 39 (stL ls 3 (vi x)) st σ k) := exS_step.trans rfl
theorem ev_X6_moveOn_39 {d : Nat} {ct : Nat → Bool} {K : Kt} {R : Option AV → Hp → Prop} {n : Nat} {ls : List (Option AV)} {st : List AV} {σ : Hp} {k : Nat × Nat} : xe_X6_moveOn d ct K R (n + 1) 39 ls st σ k = (lI ls 3 fun x => xk_X6_moveOn d ct K R n 40 ls (vi x :: st) σ k) := exS_step.trans rfl
theorem ev_X6_moveOn_40 {d : Nat} {ct : Nat → Bool} {K : Kt} {R : Option AV → Hp → Prop} {n : Nat} {ls : List (Option AV)} {st : List AV} {σ : Hp} {k : Nat × Nat} : xe_X6_moveOn d ct K R (n + 1) 40 ls st σ k = (lR ls 0 fun x => xk_X6_moveOn d ct K R n 41 ls (vr x :: st) σ k) := exS_step.trans rfl
theorem ev_X6_moveOn_41 {d : Nat} {ct : Nat → Bool} {K : Kt} {R : Option AV → Hp → Prop} {n : Nat} {ls : List (Option AV)} {st : List AV} {σ : Hp} {k : Nat × Nat} : xe_X6_moveOn d ct K R (n + 1) 41 ls st σ k = (oR st fun x st => kd σ x = 7 ∧ xk_X6_moveOn d ct K R n 44 ls (vr (fR σ 704 x) :: st) σ k) := exS_step.trans rfl
theorem ev_X6_moveOn_44 {d : Nat} {ct : Nat → Bool} {K : Kt} {R : Option AV → Hp → Prop} {n : Nat} {ls : List (Option AV)} {st : List AV} {σ : Hp} {k : Nat × Nat} : xe_X6_moveOn d ct K R (n + 1) 44 ls st σ k = (oR st fun x st => kd σ x = 4 ∧ xk_X6_moveOn d ct K R n 47 ls (vr (fR σ 402 x) :: st) σ k) := exS_step.trans rfl
theorem ev_X6_moveOn_47 {d : Nat} {ct : Nat → Bool} {K : Kt} {R : Option AV → Hp → Prop} {n : Nat} {ls : List (Option AV)} {st : List AV} {σ : Hp} {k : Nat × Nat} : xe_X6_moveOn d ct K R (n + 1) 47 ls st σ k = (popN 1 st [] fun av rest => (catS rest ≤ 8 ∧ 1 < (2*d+6) ∧ k.1 + 0 ≤ 0 ∧ k.2 + 0 ≤ 0) ∧ (sp_Jx4a65c_size_8abf5) av σ fun v σ' => xk_X6_moveOn d ct K R n 50 ls (v.toList ++ rest) σ' (k.1 + 0, k.2 + 0)) := exS_step.trans rfl
theorem ev_X6_moveOn_50 {d : Nat} {ct : Nat → Bool} {K : Kt} {R : Option AV → Hp → Prop} {n : Nat} {ls : List (Option AV)} {st : List AV} {σ : Hp} {k : Nat × Nat} : xe_X6_moveOn d ct K R (n + 1) 50 ls st σ k = (oI st fun y st => oI st fun x st => (wI y ≤ wI x → xk_X6_moveOn d ct K R n 123 ls st σ k) ∧ (¬ (wI y ≤ wI x) → xk_X6_moveOn d ct K R n 53 ls st σ k)) := exS_step.trans rfl
theorem ev_X6_moveOn_53 {d : Nat} {ct : Nat → Bool} {K : Kt} {R : Option AV → Hp → Prop} {n : Nat} {ls : List (Option AV)} {st : List AV} {σ : Hp} {k : Nat × Nat} : xe_X6_moveOn d ct K R (n + 1) 53 ls st σ k = (lR ls 0 fun x => xk_X6_moveOn d ct K R n 54 ls (vr x :: st) σ k) := exS_step.trans rfl
theorem ev_X6_moveOn_54 {d : Nat} {ct : Nat → Bool} {K : Kt} {R : Option AV → Hp → Prop} {n : Nat} {ls : List (Option AV)} {st : List AV} {σ : Hp} {k : Nat × Nat} : xe_X6_moveOn d ct K R (n + 1) 54 ls st σ k = (oR st fun x st => kd σ x = 7 ∧ xk_X6_moveOn d ct K R n 57 ls (vr (fR σ 704 x) :: st) σ k) := exS_step.trans rfl
theorem ev_X6_moveOn_57 {d : Nat} {ct : Nat → Bool} {K : Kt} {R : Option AV → Hp → Prop} {n : Nat} {ls : List (Option AV)} {st : List AV} {σ : Hp} {k : Nat × Nat} : xe_X6_moveOn d ct K R (n + 1) 57 ls st σ k = (lI ls 3 fun x => xk_X6_moveOn d ct K R n 58 ls (vi x :: st) σ k) := exS_step.trans rfl
theorem ev_X6_moveOn_58 {d : Nat} {ct : Nat → Bool} {K : Kt} {R : Option AV → Hp → Prop} {n : Nat} {ls : List (Option AV)} {st : List AV} {σ : Hp} {k : Nat × Nat} : xe_X6_moveOn d ct K R (n + 1) 58 ls st σ k = (popN 2 st [] fun av rest => (catS rest ≤ 8 ∧ 4 < (2*d+6) ∧ k.1 + 0 ≤ 0 ∧ k.2 + 0 ≤ 0) ∧ (sp_X3_companyOf) av σ fun v σ' => xk_X6_moveOn d ct K R n 61 ls (v.toList ++ rest) σ' (k.1 + 0, k.2 + 0)) := exS_step.trans rfl
theorem ev_X6_moveOn_61 {d : Nat} {ct : Nat → Bool} {K : Kt} {R : Option AV → Hp → Prop} {n : Nat} {ls : List (Option AV)} {st : List AV} {σ : Hp} {k : Nat × Nat} : xe_X6_moveOn d ct K R (n + 1) 61 ls st σ k = (oR st fun x st => 4 < 6 ∧ xk_X6_moveOn d ct K R n 63 (stL ls 4 (vr x)) st σ k) := exS_step.trans rfl
theorem ev_X6_moveOn_63 {d : Nat} {ct : Nat → Bool} {K : Kt} {R : Option AV → Hp → Prop} {n : Nat} {ls : List (Option AV)} {st : List AV} {σ : Hp} {k : Nat × Nat} : xe_X6_moveOn d ct K R (n + 1) 63 ls st σ k = (lR ls 4 fun x => xk_X6_moveOn d ct K R n 65 ls (vr x :: st) σ k) := exS_step.trans rfl
theorem ev_X6_moveOn_65 {d : Nat} {ct : Nat → Bool} {K : Kt} {R : Option AV → Hp → Prop} {n : Nat} {ls : List (Option AV)} {st : List AV} {σ : Hp} {k : Nat × Nat} : xe_X6_moveOn d ct K R (n + 1) 65 ls st σ k = (oR st fun x st => (x = 0 → xk_X6_moveOn d ct K R n 117 ls st σ k) ∧ (¬ x = 0 → xk_X6_moveOn d ct K R n 68 ls st σ k)) := exS_step.trans rfl
theorem ev_X6_moveOn_68 {d : Nat} {ct : Nat → Bool} {K : Kt} {R : Option AV → Hp → Prop} {n : Nat} {ls : List (Option AV)} {st : List AV} {σ : Hp} {k : Nat × Nat} : xe_X6_moveOn d ct K R (n + 1) 68 ls st σ k = (lR ls 4 fun x => xk_X6_moveOn d ct K R n 70 ls (vr x :: st) σ k) := exS_step.trans rfl
theorem ev_X6_moveOn_70 {d : Nat} {ct : Nat → Bool} {K : Kt} {R : Option AV → Hp → Prop} {n : Nat} {ls : List (Option AV)} {st : List AV} {σ : Hp} {k : Nat × Nat} : xe_X6_moveOn d ct K R (n + 1) 70 ls st σ k = (xk_X6_moveOn d ct K R n 71 ls (vi (0) :: st) σ k) := exS_step.trans rfl
theorem ev_X6_moveOn_71 {d : Nat} {ct : Nat → Bool} {K : Kt} {R : Option AV → Hp → Prop} {n : Nat} {ls : List (Option AV)} {st : List AV} {σ : Hp} {k : Nat × Nat} : xe_X6_moveOn d ct K R (n + 1) 71 ls st σ k = (popN 2 st [] fun av rest => (catS rest ≤ 8 ∧ 1 < (2*d+6) ∧ k.1 + 0 ≤ 0 ∧ k.2 + 0 ≤ 0) ∧ (sp_X5_isIn) av σ fun v σ' => xk_X6_moveOn d ct K R n 74 ls (v.toList ++ rest) σ' (k.1 + 0, k.2 + 0)) := exS_step.trans rfl
theorem ev_X6_moveOn_74 {d : Nat} {ct : Nat → Bool} {K : Kt} {R : Option AV → Hp → Prop} {n : Nat} {ls : List (Option AV)} {st : List AV} {σ : Hp} {k : Nat × Nat} : xe_X6_moveOn d ct K R (n + 1) 74 ls st σ k = (oI st fun x st => (wI x = wI 0 → xk_X6_moveOn d ct K R n 117 ls st σ k) ∧ (¬ (wI x = wI 0) → xk_X6_moveOn d ct K R n 77 ls st σ k)) := exS_step.trans rfl
theorem ev_X6_moveOn_77 {d : Nat} {ct : Nat → Bool} {K : Kt} {R : Option AV → Hp → Prop} {n : Nat} {ls : List (Option AV)} {st : List AV} {σ : Hp} {k : Nat × Nat} : xe_X6_moveOn d ct K R (n + 1) 77 ls st σ k = (lR ls 0 fun x => xk_X6_moveOn d ct K R n 78 ls (vr x :: st) σ k) := exS_step.trans rfl
theorem ev_X6_moveOn_78 {d : Nat} {ct : Nat → Bool} {K : Kt} {R : Option AV → Hp → Prop} {n : Nat} {ls : List (Option AV)} {st : List AV} {σ : Hp} {k : Nat × Nat} : xe_X6_moveOn d ct K R (n + 1) 78 ls st σ k = (oR st fun x st => kd σ x = 7 ∧ xk_X6_moveOn d ct K R n 81 ls (vr (fR σ 702 x) :: st) σ k) := exS_step.trans rfl
theorem ev_X6_moveOn_81 {d : Nat} {ct : Nat → Bool} {K : Kt} {R : Option AV → Hp → Prop} {n : Nat} {ls : List (Option AV)} {st : List AV} {σ : Hp} {k : Nat × Nat} : xe_X6_moveOn d ct K R (n + 1) 81 ls st σ k = (lI ls 1 fun x => xk_X6_moveOn d ct K R n 82 ls (vi x :: st) σ k) := exS_step.trans rfl
theorem ev_X6_moveOn_82 {d : Nat} {ct : Nat → Bool} {K : Kt} {R : Option AV → Hp → Prop} {n : Nat} {ls : List (Option AV)} {st : List AV} {σ : Hp} {k : Nat × Nat} : xe_X6_moveOn d ct K R (n + 1) 82 ls st σ k = (lI ls 3 fun x => xk_X6_moveOn d ct K R n 83 ls (vi x :: st) σ k) := exS_step.trans rfl
theorem ev_X6_moveOn_83 {d : Nat} {ct : Nat → Bool} {K : Kt} {R : Option AV → Hp → Prop} {n : Nat} {ls : List (Option AV)} {st : List AV} {σ : Hp} {k : Nat × Nat} : xe_X6_moveOn d ct K R (n + 1) 83 ls st σ k = (oI st fun v st => oI st fun j st => oR st fun x st => kd σ x = 101 ∧ (0 ≤ j ∧ j < ln σ x) ∧ xk_X6_moveOn d ct K R n 84 ls st (qI σ x j v) k) := exS_step.trans rfl
theorem ev_X6_moveOn_84 {d : Nat} {ct : Nat → Bool} {K : Kt} {R : Option AV → Hp → Prop} {n : Nat} {ls : List (Option AV)} {st : List AV} {σ : Hp} {k : Nat × Nat} : xe_X6_moveOn d ct K R (n + 1) 84 ls st σ k = (lR ls 0 fun x => xk_X6_moveOn d ct K R n 85 ls (vr x :: st) σ k) := exS_step.trans rfl
theorem ev_X6_moveOn_85 {d : Nat} {ct : Nat → Bool} {K : Kt} {R : Option AV → Hp → Prop} {n : Nat} {ls : List (Option AV)} {st : List AV} {σ : Hp} {k : Nat × Nat} : xe_X6_moveOn d ct K R (n + 1) 85 ls st σ k = (lR ls 4 fun x => xk_X6_moveOn d ct K R n 87 ls (vr x :: st) σ k) := exS_step.trans rfl
theorem ev_X6_moveOn_87 {d : Nat} {ct : Nat → Bool} {K : Kt} {R : Option AV → Hp → Prop} {n : Nat} {ls : List (Option AV)} {st : List AV} {σ : Hp} {k : Nat × Nat} : xe_X6_moveOn d ct K R (n + 1) 87 ls st σ k = (oR st fun x st => kd σ x = 6 ∧ xk_X6_moveOn d ct K R n 90 ls (vi (fI σ 602 x) :: st) σ k) := exS_step.trans rfl
theorem ev_X6_moveOn_90 {d : Nat} {ct : Nat → Bool} {K : Kt} {R : Option AV → Hp → Prop} {n : Nat} {ls : List (Option AV)} {st : List AV} {σ : Hp} {k : Nat × Nat} : xe_X6_moveOn d ct K R (n + 1) 90 ls st σ k = (popN 2 st [] fun av rest => (catS rest ≤ 8 ∧ 1 < (2*d+6) ∧ k.1 + 0 ≤ 0 ∧ k.2 + 0 ≤ 0) ∧ (sp_X6_liftEngine) av σ fun v σ' => xk_X6_moveOn d ct K R n 93 ls (v.toList ++ rest) σ' (k.1 + 0, k.2 + 0)) := exS_step.trans rfl
theorem ev_X6_moveOn_93 {d : Nat} {ct : Nat → Bool} {K : Kt} {R : Option AV → Hp → Prop} {n : Nat} {ls : List (Option AV)} {st : List AV} {σ : Hp} {k : Nat × Nat} : xe_X6_moveOn d ct K R (n + 1) 93 ls st σ k = (lR ls 0 fun x => xk_X6_moveOn d ct K R n 94 ls (vr x :: st) σ k) := exS_step.trans rfl
theorem ev_X6_moveOn_94 {d : Nat} {ct : Nat → Bool} {K : Kt} {R : Option AV → Hp → Prop} {n : Nat} {ls : List (Option AV)} {st : List AV} {σ : Hp} {k : Nat × Nat} : xe_X6_moveOn d ct K R (n + 1) 94 ls st σ k = (lI ls 1 fun x => xk_X6_moveOn d ct K R n 95 ls (vi x :: st) σ k) := exS_step.trans rfl
theorem ev_X6_moveOn_95 {d : Nat} {ct : Nat → Bool} {K : Kt} {R : Option AV → Hp → Prop} {n : Nat} {ls : List (Option AV)} {st : List AV} {σ : Hp} {k : Nat × Nat} : xe_X6_moveOn d ct K R (n + 1) 95 ls st σ k = (lI ls 2 fun x => xk_X6_moveOn d ct K R n 96 ls (vi x :: st) σ k) := exS_step.trans rfl
theorem ev_X6_moveOn_96 {d : Nat} {ct : Nat → Bool} {K : Kt} {R : Option AV → Hp → Prop} {n : Nat} {ls : List (Option AV)} {st : List AV} {σ : Hp} {k : Nat × Nat} : xe_X6_moveOn d ct K R (n + 1) 96 ls st σ k = (popN 3 st [] fun av rest => (catS rest ≤ 8 ∧ 2*(d)+5 < (2*d+6) ∧ k.1 + 0 ≤ 0 ∧ k.2 + 0 ≤ 0) ∧ (sp_X6_moveTo (d)) av σ fun v σ' => xk_X6_moveOn d ct K R n 99 ls (v.toList ++ rest) σ' (k.1 + 0, k.2 + 0)) := exS_step.trans rfl
theorem ev_X6_moveOn_99 {d : Nat} {ct : Nat → Bool} {K : Kt} {R : Option AV → Hp → Prop} {n : Nat} {ls : List (Option AV)} {st : List AV} {σ : Hp} {k : Nat × Nat} : xe_X6_moveOn d ct K R (n + 1) 99 ls st σ k = (oI st fun x st => 5 < 6 ∧ xk_X6_moveOn d ct K R n 101 (stL ls 5 (vi x)) st σ k) := exS_step.trans rfl
theorem ev_X6_moveOn_101 {d : Nat} {ct : Nat → Bool} {K : Kt} {R : Option AV → Hp → Prop} {n : Nat} {ls : List (Option AV)} {st : List AV} {σ : Hp} {k : Nat × Nat} : xe_X6_moveOn d ct K R (n + 1) 101 ls st σ k = (lR ls 0 fun x => xk_X6_moveOn d ct K R n 102 ls (vr x :: st) σ k) := exS_step.trans rfl
theorem ev_X6_moveOn_102 {d : Nat} {ct : Nat → Bool} {K : Kt} {R : Option AV → Hp → Prop} {n : Nat} {ls : List (Option AV)} {st : List AV} {σ : Hp} {k : Nat × Nat} : xe_X6_moveOn d ct K R (n + 1) 102 ls st σ k = (lR ls 4 fun x => xk_X6_moveOn d ct K R n 104 ls (vr x :: st) σ k) := exS_step.trans rfl
theorem ev_X6_moveOn_104 {d : Nat} {ct : Nat → Bool} {K : Kt} {R : Option AV → Hp → Prop} {n : Nat} {ls : List (Option AV)} {st : List AV} {σ : Hp} {k : Nat × Nat} : xe_X6_moveOn d ct K R (n + 1) 104 ls st σ k = (oR st fun x st => kd σ x = 6 ∧ xk_X6_moveOn d ct K R n 107 ls (vi (fI σ 602 x) :: st) σ k) := exS_step.trans rfl
theorem ev_X6_moveOn_107 {d : Nat} {ct : Nat → Bool} {K : Kt} {R : Option AV → Hp → Prop} {n : Nat} {ls : List (Option AV)} {st : List AV} {σ : Hp} {k : Nat × Nat} : xe_X6_moveOn d ct K R (n + 1) 107 ls st σ k = (popN 2 st [] fun av rest => (catS rest ≤ 8 ∧ 1 < (2*d+6) ∧ k.1 + 0 ≤ 0 ∧ k.2 + 0 ≤ 0) ∧ (sp_X6_putEngine) av σ fun v σ' => xk_X6_moveOn d ct K R n 110 ls (v.toList ++ rest) σ' (k.1 + 0, k.2 + 0)) := exS_step.trans rfl
theorem ev_X6_moveOn_110 {d : Nat} {ct : Nat → Bool} {K : Kt} {R : Option AV → Hp → Prop} {n : Nat} {ls : List (Option AV)} {st : List AV} {σ : Hp} {k : Nat × Nat} : xe_X6_moveOn d ct K R (n + 1) 110 ls st σ k = (lI ls 5 fun x => xk_X6_moveOn d ct K R n 112 ls (vi x :: st) σ k) := exS_step.trans rfl
theorem ev_X6_moveOn_112 {d : Nat} {ct : Nat → Bool} {K : Kt} {R : Option AV → Hp → Prop} {n : Nat} {ls : List (Option AV)} {st : List AV} {σ : Hp} {k : Nat × Nat} : xe_X6_moveOn d ct K R (n + 1) 112 ls st σ k = (oI st fun x st => (wI x = wI 0 → xk_X6_moveOn d ct K R n 117 ls st σ k) ∧ (¬ (wI x = wI 0) → xk_X6_moveOn d ct K R n 115 ls st σ k)) := exS_step.trans rfl
theorem ev_X6_moveOn_115 {d : Nat} {ct : Nat → Bool} {K : Kt} {R : Option AV → Hp → Prop} {n : Nat} {ls : List (Option AV)} {st : List AV} {σ : Hp} {k : Nat × Nat} : xe_X6_moveOn d ct K R (n + 1) 115 ls st σ k = (xk_X6_moveOn d ct K R n 116 ls (vi (1) :: st) σ k) := exS_step.trans rfl
theorem ev_X6_moveOn_116 {d : Nat} {ct : Nat → Bool} {K : Kt} {R : Option AV → Hp → Prop} {n : Nat} {ls : List (Option AV)} {st : List AV} {σ : Hp} {k : Nat × Nat} : xe_X6_moveOn d ct K R (n + 1) 116 ls st σ k = (oI st fun x st => st = [] ∧ (x = 0 ∨ x = 1) ∧ R (some (vi x)) σ) := exS_step.trans rfl
theorem ev_X6_moveOn_117 {d : Nat} {ct : Nat → Bool} {K : Kt} {R : Option AV → Hp → Prop} {n : Nat} {ls : List (Option AV)} {st : List AV} {σ : Hp} {k : Nat × Nat} : xe_X6_moveOn d ct K R (n + 1) 117 ls st σ k = (lI ls 3 fun x => 3 < 6 ∧ xk_X6_moveOn d ct K R n 120 (stL ls 3 (vi (x + (1)))) st σ k) := exS_step.trans rfl
theorem ev_X6_moveOn_120 {d : Nat} {ct : Nat → Bool} {K : Kt} {R : Option AV → Hp → Prop} {n : Nat} {ls : List (Option AV)} {st : List AV} {σ : Hp} {k : Nat × Nat} : xe_X6_moveOn d ct K R (n + 1) 120 ls st σ k = (xk_X6_moveOn d ct K R n 39 ls st σ k) := exS_step.trans rfl
theorem ev_X6_moveOn_123 {d : Nat} {ct : Nat → Bool} {K : Kt} {R : Option AV → Hp → Prop} {n : Nat} {ls : List (Option AV)} {st : List AV} {σ : Hp} {k : Nat × Nat} : xe_X6_moveOn d ct K R (n + 1) 123 ls st σ k = (xk_X6_moveOn d ct K R n 124 ls (vi (0) :: st) σ k) := exS_step.trans rfl
theorem ev_X6_moveOn_124 {d : Nat} {ct : Nat → Bool} {K : Kt} {R : Option AV → Hp → Prop} {n : Nat} {ls : List (Option AV)} {st : List AV} {σ : Hp} {k : Nat × Nat} : xe_X6_moveOn d ct K R (n + 1) 124 ls st σ k = (oI st fun x st => st = [] ∧ (x = 0 ∨ x = 1) ∧ R (some (vi x)) σ) := exS_step.trans rfl
def M_X6_moveOn (d : Nat) : Md := (yX6_moveOn, cX6_moveOn, 6, (some FieldType.boolean), (2*d+6), 0, 0, 2, false, tb_X6_moveOn, mt_X6_moveOn d)
theorem mm_X6_moveOn {d : Nat} (hr : HR_X6_moveOn d) : MMOK (M_X6_moveOn d) := ⟨by show plainFor yX6_moveOn = true; decide +kernel, tk_X6_moveOn, mk_X6_moveOn hr, rfl, fun h => by cases h⟩
theorem go_X6_moveOn {d : Nat} (hr : HR_X6_moveOn d) {Q : Option AV → Hp → Prop} {ct : Nat → Bool} {pc : Nat} {ls : List (Option AV)} {st : List AV} {σ : Hp} {k : Nat × Nat} (n : Nat) (h : xe_X6_moveOn d ct (Go (M_X6_moveOn d) Q) Q n pc ls st σ k) : Go (M_X6_moveOn d) Q pc ls st σ k := Go.exS (mm_X6_moveOn hr) h

set_option maxRecDepth 20000 in
theorem mt_83 {d : Nat} (hr : HR_X6_moveTo d) {Q : Option AV → Hp → Prop} {ρ : Hp} {i n u : Int} {a4 : Option AV} (h : ∀ a4, Go (M_X6_moveTo d) Q 2 [some (vr 19), some (vi i), some (vi n), some (vi (u + 1)), a4] [] ρ (0, 0)) : Go (M_X6_moveTo d) Q 83 [some (vr 19), some (vi i), some (vi n), some (vi u), a4] [] ρ (0, 0) := by
  have h := h a4
  refine go_X6_moveTo hr (ct := fun p => p == 2) 20 ?_
  simp only [oI, oL, oR, o1, lI, lL, lR, popN, catS, gv, stL, stL2, swt, cnd, spObj, List.getElem?_cons_zero, List.getElem?_cons_succ, List.getD_cons_zero, List.getD_cons_succ, List.set_cons_zero, List.set_cons_succ, List.nil_append, List.cons_append, Option.toList, Bool.or_false, Bool.false_or, Bool.or_true, Bool.true_or, Nat.reduceBEq, Nat.reduceAdd, Nat.reduceLT, Nat.reduceLeDiff, Int.reduceAdd, Int.reduceToNat, true_and, and_true, Fin.isValue, Fin.val_zero, Fin.val_one, Fin.val_two, Fin.reduceFinMk, eq_self, Int.reduceNeg, imp_self, Nat.reduceMul, Nat.le_refl, not_true_eq_false, not_false_eq_true, List.getElem?_nil, reduceCtorEq, true_or, or_true, Classical.not_not, implies_true, or_self, wI_0, wI_1, wI_m1, b2i_w, b2i_eq0, b2i_eq1, b2i_bool, nor_self, nx_pI, kd_pI, ln_pI, fI_pI, fL_pI, fR_pI, aI_pI, aL_pI, aR_pI, nx_pL, kd_pL, ln_pL, fI_pL, fL_pL, fR_pL, aI_pL, aL_pL, aR_pL, nx_pR, kd_pR, ln_pR, fI_pR, fL_pR, fR_pR, aI_pR, aL_pR, aR_pR, nx_qI, kd_qI, ln_qI, fI_qI, fL_qI, fR_qI, aI_qI, aL_qI, aR_qI, nx_qL, kd_qL, ln_qL, fI_qL, fL_qL, fR_qL, aI_qL, aL_qL, aR_qL, nx_qR, kd_qR, ln_qR, fI_qR, fL_qR, fR_qR, aI_qR, aL_qR, aR_qR, nx_mk, kd_mk, ln_mk, fI_mk, fL_mk, fR_mk, aI_mk, aL_mk, aR_mk, false_and, and_false, if_false, if_true, and_self, Int.reduceEq, Nat.reduceEqDiff, ite_self, MLay_pI, MLay_pL, MLay_qI, MLay_qL, ev_X6_moveTo_83, ev_X6_moveTo_86, xt_X6_moveTo, xf_X6_moveTo, us_X6_isFree, us_X6_putEngine, us_X6_coversAll, us_X6_liftEngine]
  exact h

set_option maxRecDepth 20000 in
theorem mt_69 {d : Nat} (hr : HR_X6_moveTo d) {Q : Option AV → Hp → Prop} {ρ : Hp} {i n u b : Int} {a4 : Option AV} (hC : CLay ρ) (hu : 0 ≤ u ∧ u ≤ 11) (hN : 0 ≤ aI ρ 21 u ∧ aI ρ 21 u ≤ 100) (hb : b = 0 ∨ b = 1) (h1 : b = 1 → Q (some (vi 1)) (cLft ρ u)) (h0 : b = 0 → ∀ a4, Go (M_X6_moveTo d) Q 2 [some (vr 19), some (vi i), some (vi n), some (vi (u + 1)), a4] [] (cLft ρ u) (0, 0)) : Go (M_X6_moveTo d) Q 69 [some (vr 19), some (vi i), some (vi n), some (vi u), a4] [vi b] ρ (0, 0) := by
  have hk : kd ρ 19 = 7 := by simp only [hC.eqs]
  rcases hb with rfl | rfl
  · have w := mt_83 hr (a4 := some (vi 0)) (h0 rfl)
    clear h1 h0
    refine go_X6_moveTo hr (ct := fun p => p == 83 || p == 81) 40 ?_
    simp only [oI, oL, oR, o1, lI, lL, lR, popN, catS, gv, stL, stL2, swt, cnd, spObj, List.getElem?_cons_zero, List.getElem?_cons_succ, List.getD_cons_zero, List.getD_cons_succ, List.set_cons_zero, List.set_cons_succ, List.nil_append, List.cons_append, Option.toList, Bool.or_false, Bool.false_or, Bool.or_true, Bool.true_or, Nat.reduceBEq, Nat.reduceAdd, Nat.reduceLT, Nat.reduceLeDiff, Int.reduceAdd, Int.reduceToNat, true_and, and_true, Fin.isValue, Fin.val_zero, Fin.val_one, Fin.val_two, Fin.reduceFinMk, eq_self, Int.reduceNeg, imp_self, Nat.reduceMul, Nat.le_refl, not_true_eq_false, not_false_eq_true, List.getElem?_nil, reduceCtorEq, true_or, or_true, Classical.not_not, implies_true, or_self, wI_0, wI_1, wI_m1, b2i_w, b2i_eq0, b2i_eq1, b2i_bool, nor_self, nx_pI, kd_pI, ln_pI, fI_pI, fL_pI, fR_pI, aI_pI, aL_pI, aR_pI, nx_pL, kd_pL, ln_pL, fI_pL, fL_pL, fR_pL, aI_pL, aL_pL, aR_pL, nx_pR, kd_pR, ln_pR, fI_pR, fL_pR, fR_pR, aI_pR, aL_pR, aR_pR, nx_qI, kd_qI, ln_qI, fI_qI, fL_qI, fR_qI, aI_qI, aL_qI, aR_qI, nx_qL, kd_qL, ln_qL, fI_qL, fL_qL, fR_qL, aI_qL, aL_qL, aR_qL, nx_qR, kd_qR, ln_qR, fI_qR, fL_qR, fR_qR, aI_qR, aL_qR, aR_qR, nx_mk, kd_mk, ln_mk, fI_mk, fL_mk, fR_mk, aI_mk, aL_mk, aR_mk, false_and, and_false, if_false, if_true, and_self, Int.reduceEq, Nat.reduceEqDiff, ite_self, MLay_pI, MLay_pL, MLay_qI, MLay_qL, ev_X6_moveTo_69, ev_X6_moveTo_71, ev_X6_moveTo_72, ev_X6_moveTo_73, ev_X6_moveTo_76, ev_X6_moveTo_78, xt_X6_moveTo, xf_X6_moveTo, us_X6_isFree, us_X6_putEngine, us_X6_coversAll, us_X6_liftEngine, hC, hk, hN]
    try simp (disch := omega) only [wI_id, dv_nn, rm_nn]
    repeat' (first | intro z | apply And.intro)
    all_goals try omega
    all_goals try contradiction
    all_goals exact w
  · have h1 := h1 rfl
    clear h0
    refine go_X6_moveTo hr (ct := fun p => p == 83) 40 ?_
    simp only [oI, oL, oR, o1, lI, lL, lR, popN, catS, gv, stL, stL2, swt, cnd, spObj, List.getElem?_cons_zero, List.getElem?_cons_succ, List.getD_cons_zero, List.getD_cons_succ, List.set_cons_zero, List.set_cons_succ, List.nil_append, List.cons_append, Option.toList, Bool.or_false, Bool.false_or, Bool.or_true, Bool.true_or, Nat.reduceBEq, Nat.reduceAdd, Nat.reduceLT, Nat.reduceLeDiff, Int.reduceAdd, Int.reduceToNat, true_and, and_true, Fin.isValue, Fin.val_zero, Fin.val_one, Fin.val_two, Fin.reduceFinMk, eq_self, Int.reduceNeg, imp_self, Nat.reduceMul, Nat.le_refl, not_true_eq_false, not_false_eq_true, List.getElem?_nil, reduceCtorEq, true_or, or_true, Classical.not_not, implies_true, or_self, wI_0, wI_1, wI_m1, b2i_w, b2i_eq0, b2i_eq1, b2i_bool, nor_self, nx_pI, kd_pI, ln_pI, fI_pI, fL_pI, fR_pI, aI_pI, aL_pI, aR_pI, nx_pL, kd_pL, ln_pL, fI_pL, fL_pL, fR_pL, aI_pL, aL_pL, aR_pL, nx_pR, kd_pR, ln_pR, fI_pR, fL_pR, fR_pR, aI_pR, aL_pR, aR_pR, nx_qI, kd_qI, ln_qI, fI_qI, fL_qI, fR_qI, aI_qI, aL_qI, aR_qI, nx_qL, kd_qL, ln_qL, fI_qL, fL_qL, fR_qL, aI_qL, aL_qL, aR_qL, nx_qR, kd_qR, ln_qR, fI_qR, fL_qR, fR_qR, aI_qR, aL_qR, aR_qR, nx_mk, kd_mk, ln_mk, fI_mk, fL_mk, fR_mk, aI_mk, aL_mk, aR_mk, false_and, and_false, if_false, if_true, and_self, Int.reduceEq, Nat.reduceEqDiff, ite_self, MLay_pI, MLay_pL, MLay_qI, MLay_qL, ev_X6_moveTo_69, ev_X6_moveTo_71, ev_X6_moveTo_72, ev_X6_moveTo_73, ev_X6_moveTo_76, ev_X6_moveTo_78, ev_X6_moveTo_81, ev_X6_moveTo_82, xt_X6_moveTo, xf_X6_moveTo, us_X6_isFree, us_X6_putEngine, us_X6_coversAll, us_X6_liftEngine, hC, hk, hN]
    try simp (disch := omega) only [wI_id, dv_nn, rm_nn]
    repeat' (first | intro z | apply And.intro)
    all_goals try omega
    all_goals try contradiction
    all_goals exact h1

theorem Kto_ge {τ : Hp} {d : Nat} {f : Int → Int} {c u : Int} {T : Int → Prop} (h : fI τ 1332 61 ≤ u) : ¬ Kto τ d f c T u := fun z => by have := z.1.2; omega
theorem CVS_on {τ σ : Hp} {f : Int → Int} {c u : Int} (hI : MI τ) (h : CVS (fI τ 1335 61).toNat (mBut τ c) f σ) (hc : 0 ≤ c ∧ c < fI τ 1335 61) (he : mEng τ c) (hu : 0 ≤ u ∧ u < 12) : CVS (fI τ 1335 61).toNat (mEng τ) (fu f c u) (cPut σ u) :=
  CVS_put' h hu (cnt_up (by omega) (fun z => z.2 rfl) ⟨he, fu_self f c u⟩ (fun j hj => ⟨⟨fun z => ⟨z, hj⟩, fun z => z.1⟩, fu_ne f hj⟩))
theorem CVS_off {τ σ : Hp} {f : Int → Int} {c u : Int} (hI : MI τ) (h : CVS (fI τ 1335 61).toNat (mEng τ) f σ) (hc : 0 ≤ c ∧ c < fI τ 1335 61) (he : mEng τ c) (hu : 0 ≤ u ∧ u < 12) (hf : f c = u) {g : Int → Int} (hg : ∀ j, ¬ j = c → g j = f j) : CVS (fI τ 1335 61).toNat (mBut τ c) g (cLft σ u) :=
  CVS_lft' h hu (cnt_up (by omega) (fun z => z.2 rfl) ⟨he, hf⟩ (fun j hj => ⟨⟨fun z => ⟨z, hj⟩, fun z => z.1⟩, (hg j hj).symm⟩))
theorem CVS_rw {n : Nat} {S : Int → Prop} {f : Int → Int} {σ σ' : Hp} (h : CVS n S f σ) (h1 : aI σ' 21 = aI σ 21) (h2 : fI σ' 707 19 = fI σ 707 19) : CVS n S f σ' := by
  unfold CVS at *
  rw [h1, h2]
  exact h

set_option maxRecDepth 20000 in
theorem mt_2 {d : Nat} (hr : HR_X6_moveTo d) {Q : Option AV → Hp → Prop} {σ τ : Hp} {f : Int → Int} {i n c : Int} (hd : 0 < d) (hi : 0 ≤ i ∧ n = i + d ∧ n ≤ 2) (hS : CvS τ σ) (hF : FRn τ f) (hm : aI σ 22 i = c) (hc : 0 ≤ c ∧ c < fI τ 1335 61) (he : mEng τ c) (hfx : ∀ x, c < x → f x = aI τ 89 x)
    (h1 : ∀ σ' u, MvZ i σ σ' → CVS (fI τ 1335 61).toNat (mBut τ c) f σ' → aI σ' 22 i = c → aI σ' 23 i = u → Kto τ (d - 1) f c (Tx σ i) u → (∀ u', u' < u → ¬ Kto τ (d - 1) f c (Tx σ i) u') → Rc τ (d - 1) σ' (i + 1) (fu f c u) (c + 1) (fun v => v = u) → Q (some (vi 1)) σ')
    (h0 : ∀ σ', MvZ i σ σ' → CVS (fI τ 1335 61).toNat (mBut τ c) f σ' → (∀ u, ¬ Kto τ (d - 1) f c (Tx σ i) u) → Q (some (vi 0)) σ') :
    ∀ (m k : Nat) (ρ : Hp) (a4 : Option AV), (k : Int) + m = fI τ 1332 61 → MvZ i σ ρ → CVS (fI τ 1335 61).toNat (mBut τ c) f ρ → aI ρ 22 i = c → (∀ u', u' < (k : Int) → ¬ Kto τ (d - 1) f c (Tx σ i) u') → Go (M_X6_moveTo d) Q 2 [some (vr 19), some (vi i), some (vi n), some (vi k), a4] [] ρ (0, 0) := by
  intro m
  induction m with
  | zero =>
    intro k ρ a4 hk2 hz hV hm2 hno
    have hSr := hS.mv hz
    have hC := hSr.1
    have hk : kd ρ 19 = 7 := by simp only [hC.eqs]
    have hh := hSr.2.1.2.2.2.2.1
    have h0 := h0 ρ hz hV (fun u => by
      by_cases e : u < k
      · exact hno u e
      · exact Kto_ge (by omega))
    have hhs := hS.2.2.1.houses_s
    clear hno h1 hV hz hSr
    refine go_X6_moveTo hr (ct := fun p => p == 13) 40 ?_
    simp only [oI, oL, oR, o1, lI, lL, lR, popN, catS, gv, stL, stL2, swt, cnd, spObj, List.getElem?_cons_zero, List.getElem?_cons_succ, List.getD_cons_zero, List.getD_cons_succ, List.set_cons_zero, List.set_cons_succ, List.nil_append, List.cons_append, Option.toList, Bool.or_false, Bool.false_or, Bool.or_true, Bool.true_or, Nat.reduceBEq, Nat.reduceAdd, Nat.reduceLT, Nat.reduceLeDiff, Int.reduceAdd, Int.reduceToNat, true_and, and_true, Fin.isValue, Fin.val_zero, Fin.val_one, Fin.val_two, Fin.reduceFinMk, eq_self, Int.reduceNeg, imp_self, Nat.reduceMul, Nat.le_refl, not_true_eq_false, not_false_eq_true, List.getElem?_nil, reduceCtorEq, true_or, or_true, Classical.not_not, implies_true, or_self, wI_0, wI_1, wI_m1, b2i_w, b2i_eq0, b2i_eq1, b2i_bool, nor_self, nx_pI, kd_pI, ln_pI, fI_pI, fL_pI, fR_pI, aI_pI, aL_pI, aR_pI, nx_pL, kd_pL, ln_pL, fI_pL, fL_pL, fR_pL, aI_pL, aL_pL, aR_pL, nx_pR, kd_pR, ln_pR, fI_pR, fL_pR, fR_pR, aI_pR, aL_pR, aR_pR, nx_qI, kd_qI, ln_qI, fI_qI, fL_qI, fR_qI, aI_qI, aL_qI, aR_qI, nx_qL, kd_qL, ln_qL, fI_qL, fL_qL, fR_qL, aI_qL, aL_qL, aR_qL, nx_qR, kd_qR, ln_qR, fI_qR, fL_qR, fR_qR, aI_qR, aL_qR, aR_qR, nx_mk, kd_mk, ln_mk, fI_mk, fL_mk, fR_mk, aI_mk, aL_mk, aR_mk, false_and, and_false, if_false, if_true, and_self, Int.reduceEq, Nat.reduceEqDiff, ite_self, MLay_pI, MLay_pL, MLay_qI, MLay_qL, ev_X6_moveTo_2, ev_X6_moveTo_3, ev_X6_moveTo_4, ev_X6_moveTo_7, ev_X6_moveTo_10, ev_X6_moveTo_89, ev_X6_moveTo_90, xt_X6_moveTo, xf_X6_moveTo, us_X6_isFree, us_X6_putEngine, us_X6_coversAll, us_X6_liftEngine, hC.eqs, hh]
    try simp (disch := omega) only [wI_id, dv_nn, rm_nn]
    repeat' (first | intro z | apply And.intro)
    all_goals try omega
    all_goals try contradiction
    all_goals exact h0
  | succ m ih =>
    intro k ρ a4 hk2 hz hV hm2 hno
    have hSr := hS.mv hz
    obtain ⟨hC, hG, hI, hNR, hTK, hTG, hHI⟩ := id hSr
    have hk : kd ρ 19 = 7 := by simp only [hC.eqs]
    have hh := hG.2.2.2.2.1
    have hhs := hI.houses_s
    have hbs := hI.boxes_s
    have hcs := hI.companies_s
    have hku : 0 ≤ (k : Int) ∧ (k : Int) ≤ 11 := by omega
    have hTx : Tx ρ i = Tx σ i := by
      unfold Tx
      funext v
      by_cases z : 0 < i
      · rw [(hz.2.1 0 z).2]
      · simp only [z, false_and]
    have hfree : (btb (fI ρ 708 19) (k : Int).toNat = false ∧ ¬ (0 < i ∧ aI ρ 23 0 = k)) ↔ (mWo0 τ k ∧ ¬ Tx σ i k) := by
      rw [free_is hI hTK (by omega) (by omega), ← hTx]
      exact Iff.rfl
    have t0 := (hTG 0).2
    have hn : i < 2 := by omega
    have nxt : ∀ (ρ' : Hp), MvZ i σ ρ' → CVS (fI τ 1335 61).toNat (mBut τ c) f ρ' → aI ρ' 22 i = c → ¬ Kto τ (d - 1) f c (Tx σ i) k → ∀ a4, Go (M_X6_moveTo d) Q 2 [some (vr 19), some (vi i), some (vi n), some (vi (k + 1)), a4] [] ρ' (0, 0) := fun ρ' q1 q2 q3 q4 a4 => ih (k + 1) ρ' a4 (by omega) q1 q2 q3 (fun u' hu => by
      by_cases e : u' = k
      · rw [e]; exact q4
      · exact hno u' (by omega))
    by_cases fr : mWo0 τ k ∧ ¬ Tx σ i k
    · have fr2 := hfree.mpr fr
      have z1 : MvZ i ρ (qI ρ 23 i k) := MvZ_t (by omega) hTG
      have z2 : MvZ i (qI ρ 23 i k) (cPut (qI ρ 23 i k) k) := MvZ_put i _ z1.2.2
      have z3 := hz.tr (z1.tr z2)
      have hS3 := hS.mv z3
      have V1 : CVS (fI τ 1335 61).toNat (mBut τ c) f (qI ρ 23 i k) := CVS_rw hV (by funext j; rw [aI_qI, if_neg (by omega)]) rfl
      have V2 := CVS_on hI V1 hc he (u := k) (by omega)
      have FR2 := FRn_fu hF (c := c) (u := k) (by omega)
      have m22 : aI (cPut (qI ρ 23 i k) k) 22 = aI ρ 22 := by funext j; unfold cPut; simp only [aI_pI, aI_qI, Int.reduceEq, false_and, if_false]
      have m23 : aI (cPut (qI ρ 23 i k) k) 23 i = k := by unfold cPut; simp only [aI_pI, aI_qI, Int.reduceEq, false_and, if_false, and_self, if_true]
      have C1 : CLay (qI ρ 23 i k) := hC.fz z1.1 (by decide)
      have wf1 : ∀ w a4, Wn τ (d - 1) (fu f c k) (c + 1) (fun v => v = k) → ∀ ρ2, MvZ (i + 1) (cPut (qI ρ 23 i k) k) ρ2 → CVS (fI τ 1335 61).toNat (mEng τ) (fu f c k) ρ2 → Rc τ (d - 1) ρ2 (i + 1) (fu f c k) (c + 1) (fun v => v = k) → w = (1 : Int) → Go (M_X6_moveTo d) Q 69 [some (vr 19), some (vi i), some (vi n), some (vi k), a4] [vi w] ρ2 (0, 0) := fun w a4 hw ρ2 y1 y2 y3 ew => by
        have y4 := hS3.mv y1
        have hcn := cnt_in (fI τ 1335 61).toNat (mEng τ) (fu f c k) k
        have hcr := y2.1 k (by omega) (by omega)
        refine mt_69 hr y4.1 hku (by omega) (Or.inr ew) (fun _ => ?_) (fun z => by omega)
        have z5 := MvZ_lft i (σ := ρ2) k y1.2.2
        have V3 : CVS (fI τ 1335 61).toNat (mBut τ c) f (cLft ρ2 k) := CVS_off hI y2 hc he (by omega) (fu_self f c k) (fun j hj => (fu_ne f hj).symm)
        have l22 : aI (cLft ρ2 k) 22 = aI ρ2 22 := by funext j; unfold cLft; simp only [aI_pI, aI_qI, Int.reduceEq, false_and, if_false]
        have l23 : aI (cLft ρ2 k) 23 = aI ρ2 23 := by funext j; unfold cLft; simp only [aI_pI, aI_qI, Int.reduceEq, false_and, if_false]
        refine h1 _ k (z3.tr ((y1.le (by omega)).tr z5)) V3 ?_ ?_ ⟨⟨by omega, by omega⟩, fr.1, fr.2, hw⟩ hno (Rc_cg l22 l23 _ _ _ _ _ y3)
        · rw [l22, (y1.2.1 i (by omega)).1, m22, hm2]
        · rw [l23, (y1.2.1 i (by omega)).2, m23]
      have wf0 : ∀ w a4, ¬ Wn τ (d - 1) (fu f c k) (c + 1) (fun v => v = k) → ∀ ρ2, MvZ (i + 1) (cPut (qI ρ 23 i k) k) ρ2 → CVS (fI τ 1335 61).toNat (mEng τ) (fu f c k) ρ2 → w = (0 : Int) → Go (M_X6_moveTo d) Q 69 [some (vr 19), some (vi i), some (vi n), some (vi k), a4] [vi w] ρ2 (0, 0) := fun w a4 hw ρ2 y1 y2 ew => by
        have y4 := hS3.mv y1
        have hcn := cnt_in (fI τ 1335 61).toNat (mEng τ) (fu f c k) k
        have hcr := y2.1 k (by omega) (by omega)
        refine mt_69 hr y4.1 hku (by omega) (Or.inl ew) (fun z => by omega) (fun _ => ?_)
        have z5 := MvZ_lft i (σ := ρ2) k y1.2.2
        have V3 : CVS (fI τ 1335 61).toNat (mBut τ c) f (cLft ρ2 k) := CVS_off hI y2 hc he (by omega) (fu_self f c k) (fun j hj => (fu_ne f hj).symm)
        have l22 : aI (cLft ρ2 k) 22 = aI ρ2 22 := by funext j; unfold cLft; simp only [aI_pI, aI_qI, Int.reduceEq, false_and, if_false]
        refine nxt _ (z3.tr ((y1.le (by omega)).tr z5)) V3 ?_ (fun z => hw z.2.2.2)
        rw [l22, (y1.2.1 i (by omega)).1, m22, hm2]
      have w47 : Go (M_X6_moveTo d) Q 47 [some (vr 19), some (vi i), some (vi n), some (vi k), a4] [] (cPut (qI ρ 23 i k) k) (0, 0) := by
        by_cases dd : i + 1 < n
        · have e1 : d - 1 + 1 = d := by omega
          have inner : ∀ Q', (∀ σ', MvZ (i + 1) (cPut (qI ρ 23 i k) k) σ' → CVS (fI τ 1335 61).toNat (mEng τ) (fu f c k) σ' → Wn τ (d - 1) (fu f c k) (c + 1) (fun v => v = k) → Rc τ (d - 1) σ' (i + 1) (fu f c k) (c + 1) (fun v => v = k) → Q' (some (vi 1)) σ') → (∀ σ', MvZ (i + 1) (cPut (qI ρ 23 i k) k) σ' → CVS (fI τ 1335 61).toNat (mEng τ) (fu f c k) σ' → ¬ Wn τ (d - 1) (fu f c k) (c + 1) (fun v => v = k) → Q' (some (vi 0)) σ') → sp_X6_moveOn (d - 1) [vr 19, vi (i + 1), vi n] (cPut (qI ρ 23 i k) k) Q' := fun Q' g1 g0 => by
            have hl : lox (cPut (qI ρ 23 i k) k) (i + 1) = c + 1 := by
              unfold lox
              rw [if_pos (by omega), show i + 1 - 1 = i by omega, m22, hm2]
            have ht : Tx (cPut (qI ρ 23 i k) k) (i + 1) = fun v : Int => v = (k : Int) := by
              unfold Tx
              have i0 : i = 0 := by omega
              subst i0
              funext v
              rw [m23]
              apply propext
              exact ⟨fun z => z.2.symm, fun z => ⟨by omega, z.symm⟩⟩
            rw [us_X6_moveOn]
            refine ⟨by rw [kd_cPut]; simp only [C1.eqs], rfl, by omega, by omega, τ, fu f c k, hS3, FR2, by rw [hl]; omega, fun x hx => ?_, V2, ?_, ?_⟩
            · rw [hl] at hx
              rw [fu_ne f (by omega)]
              exact hfx x (by omega)
            · rw [hl, ht]; exact g1
            · rw [hl, ht]; exact g0
          refine go_X6_moveTo hr (ct := fun p => p == 65 || p == 69) 40 ?_
          simp only [oI, oL, oR, o1, lI, lL, lR, popN, catS, gv, stL, stL2, swt, cnd, spObj, List.getElem?_cons_zero, List.getElem?_cons_succ, List.getD_cons_zero, List.getD_cons_succ, List.set_cons_zero, List.set_cons_succ, List.nil_append, List.cons_append, Option.toList, Bool.or_false, Bool.false_or, Bool.or_true, Bool.true_or, Nat.reduceBEq, Nat.reduceAdd, Nat.reduceLT, Nat.reduceLeDiff, Int.reduceAdd, Int.reduceToNat, true_and, and_true, Fin.isValue, Fin.val_zero, Fin.val_one, Fin.val_two, Fin.reduceFinMk, eq_self, Int.reduceNeg, imp_self, Nat.reduceMul, Nat.le_refl, not_true_eq_false, not_false_eq_true, List.getElem?_nil, reduceCtorEq, true_or, or_true, Classical.not_not, implies_true, or_self, wI_0, wI_1, wI_m1, b2i_w, b2i_eq0, b2i_eq1, b2i_bool, nor_self, nx_pI, kd_pI, ln_pI, fI_pI, fL_pI, fR_pI, aI_pI, aL_pI, aR_pI, nx_pL, kd_pL, ln_pL, fI_pL, fL_pL, fR_pL, aI_pL, aL_pL, aR_pL, nx_pR, kd_pR, ln_pR, fI_pR, fL_pR, fR_pR, aI_pR, aL_pR, aR_pR, nx_qI, kd_qI, ln_qI, fI_qI, fL_qI, fR_qI, aI_qI, aL_qI, aR_qI, nx_qL, kd_qL, ln_qL, fI_qL, fL_qL, fR_qL, aI_qL, aL_qL, aR_qL, nx_qR, kd_qR, ln_qR, fI_qR, fL_qR, fR_qR, aI_qR, aL_qR, aR_qR, nx_mk, kd_mk, ln_mk, fI_mk, fL_mk, fR_mk, aI_mk, aL_mk, aR_mk, false_and, and_false, if_false, if_true, and_self, Int.reduceEq, Nat.reduceEqDiff, ite_self, MLay_pI, MLay_pL, MLay_qI, MLay_qL, ev_X6_moveTo_47, ev_X6_moveTo_48, ev_X6_moveTo_49, ev_X6_moveTo_50, ev_X6_moveTo_51, ev_X6_moveTo_54, ev_X6_moveTo_55, ev_X6_moveTo_56, ev_X6_moveTo_57, ev_X6_moveTo_58, ev_X6_moveTo_59, ev_X6_moveTo_62, xt_X6_moveTo, xf_X6_moveTo, us_X6_isFree, us_X6_putEngine, us_X6_coversAll, us_X6_liftEngine]
          try simp (disch := omega) only [wI_id, dv_nn, rm_nn]
          refine ⟨fun z => absurd z (by omega), fun _ => ⟨by omega, inner _ (fun σ' a b e g => wf1 1 a4 e σ' a b g rfl) (fun σ' a b e => wf0 0 a4 e σ' a b rfl)⟩⟩
        · have d1 : d = 1 := by omega
          have e0 : d - 1 = 0 := by omega
          rw [e0] at wf1 wf0
          have cAl := cAll_is hI hS3.2.2.2.1 V2 FR2
          have hk4 : kd (cPut (qI ρ 23 i k) k) 19 = 7 := by rw [kd_cPut]; simp only [C1.eqs]
          have hC4 := hS3.1
          have hnd : 0 ≤ fI (cPut (qI ρ 23 i k) k) 706 19 ∧ fI (cPut (qI ρ 23 i k) k) 706 19 ≤ 32 := by rw [hS3.2.2.2.1.1]; omega
          have wA : Go (M_X6_moveTo d) Q 69 [some (vr 19), some (vi i), some (vi n), some (vi k), a4] [vi (b2i (cAll (cPut (qI ρ 23 i k) k)))] (cPut (qI ρ 23 i k) k) (0, 0) := by
            have zr : MvZ (i + 1) (cPut (qI ρ 23 i k) k) (cPut (qI ρ 23 i k) k) := ⟨Fz.rf _, fun _ _ => ⟨rfl, rfl⟩, z2.2.2⟩
            by_cases y : cAll (cPut (qI ρ 23 i k) k)
            · exact wf1 _ _ (cAl.mp y) _ zr V2 trivial (b2i_t y)
            · exact wf0 _ _ (fun z => y (cAl.mpr z)) _ zr V2 (b2i_f y)
          clear wf1 wf0 nxt ih h1 h0 hno V1 V2 hV cAl
          refine go_X6_moveTo hr (ct := fun p => p == 54 || p == 69) 40 ?_
          simp only [oI, oL, oR, o1, lI, lL, lR, popN, catS, gv, stL, stL2, swt, cnd, spObj, List.getElem?_cons_zero, List.getElem?_cons_succ, List.getD_cons_zero, List.getD_cons_succ, List.set_cons_zero, List.set_cons_succ, List.nil_append, List.cons_append, Option.toList, Bool.or_false, Bool.false_or, Bool.or_true, Bool.true_or, Nat.reduceBEq, Nat.reduceAdd, Nat.reduceLT, Nat.reduceLeDiff, Int.reduceAdd, Int.reduceToNat, true_and, and_true, Fin.isValue, Fin.val_zero, Fin.val_one, Fin.val_two, Fin.reduceFinMk, eq_self, Int.reduceNeg, imp_self, Nat.reduceMul, Nat.le_refl, not_true_eq_false, not_false_eq_true, List.getElem?_nil, reduceCtorEq, true_or, or_true, Classical.not_not, implies_true, or_self, wI_0, wI_1, wI_m1, b2i_w, b2i_eq0, b2i_eq1, b2i_bool, nor_self, nx_pI, kd_pI, ln_pI, fI_pI, fL_pI, fR_pI, aI_pI, aL_pI, aR_pI, nx_pL, kd_pL, ln_pL, fI_pL, fL_pL, fR_pL, aI_pL, aL_pL, aR_pL, nx_pR, kd_pR, ln_pR, fI_pR, fL_pR, fR_pR, aI_pR, aL_pR, aR_pR, nx_qI, kd_qI, ln_qI, fI_qI, fL_qI, fR_qI, aI_qI, aL_qI, aR_qI, nx_qL, kd_qL, ln_qL, fI_qL, fL_qL, fR_qL, aI_qL, aL_qL, aR_qL, nx_qR, kd_qR, ln_qR, fI_qR, fL_qR, fR_qR, aI_qR, aL_qR, aR_qR, nx_mk, kd_mk, ln_mk, fI_mk, fL_mk, fR_mk, aI_mk, aL_mk, aR_mk, false_and, and_false, if_false, if_true, and_self, Int.reduceEq, Nat.reduceEqDiff, ite_self, MLay_pI, MLay_pL, MLay_qI, MLay_qL, ev_X6_moveTo_47, ev_X6_moveTo_48, ev_X6_moveTo_49, ev_X6_moveTo_50, ev_X6_moveTo_51, ev_X6_moveTo_54, ev_X6_moveTo_55, ev_X6_moveTo_56, ev_X6_moveTo_57, ev_X6_moveTo_58, ev_X6_moveTo_59, ev_X6_moveTo_62, ev_X6_moveTo_65, ev_X6_moveTo_66, xt_X6_moveTo, xf_X6_moveTo, us_X6_isFree, us_X6_putEngine, us_X6_coversAll, us_X6_liftEngine, hk4, hC4, hnd]
          try simp (disch := omega) only [wI_id, dv_nn, rm_nn]
          repeat' (first | intro z | apply And.intro)
          all_goals try omega
          all_goals try contradiction
          all_goals exact wA
      clear wf1 wf0 nxt ih h1 h0 hno V1 V2 hV
      refine go_X6_moveTo hr (ct := fun p => p == 89 || p == 83 || p == 47) 60 ?_
      simp only [oI, oL, oR, o1, lI, lL, lR, popN, catS, gv, stL, stL2, swt, cnd, spObj, List.getElem?_cons_zero, List.getElem?_cons_succ, List.getD_cons_zero, List.getD_cons_succ, List.set_cons_zero, List.set_cons_succ, List.nil_append, List.cons_append, Option.toList, Bool.or_false, Bool.false_or, Bool.or_true, Bool.true_or, Nat.reduceBEq, Nat.reduceAdd, Nat.reduceLT, Nat.reduceLeDiff, Int.reduceAdd, Int.reduceToNat, true_and, and_true, Fin.isValue, Fin.val_zero, Fin.val_one, Fin.val_two, Fin.reduceFinMk, eq_self, Int.reduceNeg, imp_self, Nat.reduceMul, Nat.le_refl, not_true_eq_false, not_false_eq_true, List.getElem?_nil, reduceCtorEq, true_or, or_true, Classical.not_not, implies_true, or_self, wI_0, wI_1, wI_m1, b2i_w, b2i_eq0, b2i_eq1, b2i_bool, nor_self, nx_pI, kd_pI, ln_pI, fI_pI, fL_pI, fR_pI, aI_pI, aL_pI, aR_pI, nx_pL, kd_pL, ln_pL, fI_pL, fL_pL, fR_pL, aI_pL, aL_pL, aR_pL, nx_pR, kd_pR, ln_pR, fI_pR, fL_pR, fR_pR, aI_pR, aL_pR, aR_pR, nx_qI, kd_qI, ln_qI, fI_qI, fL_qI, fR_qI, aI_qI, aL_qI, aR_qI, nx_qL, kd_qL, ln_qL, fI_qL, fL_qL, fR_qL, aI_qL, aL_qL, aR_qL, nx_qR, kd_qR, ln_qR, fI_qR, fL_qR, fR_qR, aI_qR, aL_qR, aR_qR, nx_mk, kd_mk, ln_mk, fI_mk, fL_mk, fR_mk, aI_mk, aL_mk, aR_mk, false_and, and_false, if_false, if_true, and_self, Int.reduceEq, Nat.reduceEqDiff, ite_self, MLay_pI, MLay_pL, MLay_qI, MLay_qL, ev_X6_moveTo_2, ev_X6_moveTo_3, ev_X6_moveTo_4, ev_X6_moveTo_7, ev_X6_moveTo_10, ev_X6_moveTo_13, ev_X6_moveTo_14, ev_X6_moveTo_17, ev_X6_moveTo_18, ev_X6_moveTo_19, ev_X6_moveTo_22, ev_X6_moveTo_23, ev_X6_moveTo_26, ev_X6_moveTo_27, ev_X6_moveTo_28, ev_X6_moveTo_29, ev_X6_moveTo_32, ev_X6_moveTo_35, ev_X6_moveTo_36, ev_X6_moveTo_39, ev_X6_moveTo_40, ev_X6_moveTo_41, ev_X6_moveTo_42, ev_X6_moveTo_43, ev_X6_moveTo_44, xt_X6_moveTo, xf_X6_moveTo, us_X6_isFree, us_X6_putEngine, us_X6_coversAll, us_X6_liftEngine, hC.eqs, hC, hh, fr2, t0, C1, CLay_qI]
      try simp (disch := omega) only [wI_id, dv_nn, rm_nn]
      repeat' (first | intro z | apply And.intro)
      all_goals try omega
      all_goals try contradiction
      all_goals exact w47
    · have fr2 : ¬ (btb (fI ρ 708 19) (k : Int).toNat = false ∧ ¬ (0 < i ∧ aI ρ 23 0 = k)) := fun z => fr (hfree.mp z)
      have w := mt_83 hr (a4 := a4) (nxt ρ hz hV hm2 (fun z => fr ⟨z.2.1, z.2.2.1⟩))
      clear nxt ih h1 h0 hno hV
      refine go_X6_moveTo hr (ct := fun p => p == 89 || p == 83 || p == 35) 60 ?_
      simp only [oI, oL, oR, o1, lI, lL, lR, popN, catS, gv, stL, stL2, swt, cnd, spObj, List.getElem?_cons_zero, List.getElem?_cons_succ, List.getD_cons_zero, List.getD_cons_succ, List.set_cons_zero, List.set_cons_succ, List.nil_append, List.cons_append, Option.toList, Bool.or_false, Bool.false_or, Bool.or_true, Bool.true_or, Nat.reduceBEq, Nat.reduceAdd, Nat.reduceLT, Nat.reduceLeDiff, Int.reduceAdd, Int.reduceToNat, true_and, and_true, Fin.isValue, Fin.val_zero, Fin.val_one, Fin.val_two, Fin.reduceFinMk, eq_self, Int.reduceNeg, imp_self, Nat.reduceMul, Nat.le_refl, not_true_eq_false, not_false_eq_true, List.getElem?_nil, reduceCtorEq, true_or, or_true, Classical.not_not, implies_true, or_self, wI_0, wI_1, wI_m1, b2i_w, b2i_eq0, b2i_eq1, b2i_bool, nor_self, nx_pI, kd_pI, ln_pI, fI_pI, fL_pI, fR_pI, aI_pI, aL_pI, aR_pI, nx_pL, kd_pL, ln_pL, fI_pL, fL_pL, fR_pL, aI_pL, aL_pL, aR_pL, nx_pR, kd_pR, ln_pR, fI_pR, fL_pR, fR_pR, aI_pR, aL_pR, aR_pR, nx_qI, kd_qI, ln_qI, fI_qI, fL_qI, fR_qI, aI_qI, aL_qI, aR_qI, nx_qL, kd_qL, ln_qL, fI_qL, fL_qL, fR_qL, aI_qL, aL_qL, aR_qL, nx_qR, kd_qR, ln_qR, fI_qR, fL_qR, fR_qR, aI_qR, aL_qR, aR_qR, nx_mk, kd_mk, ln_mk, fI_mk, fL_mk, fR_mk, aI_mk, aL_mk, aR_mk, false_and, and_false, if_false, if_true, and_self, Int.reduceEq, Nat.reduceEqDiff, ite_self, MLay_pI, MLay_pL, MLay_qI, MLay_qL, ev_X6_moveTo_2, ev_X6_moveTo_3, ev_X6_moveTo_4, ev_X6_moveTo_7, ev_X6_moveTo_10, ev_X6_moveTo_13, ev_X6_moveTo_14, ev_X6_moveTo_17, ev_X6_moveTo_18, ev_X6_moveTo_19, ev_X6_moveTo_22, ev_X6_moveTo_23, ev_X6_moveTo_26, ev_X6_moveTo_27, ev_X6_moveTo_28, ev_X6_moveTo_29, ev_X6_moveTo_32, xt_X6_moveTo, xf_X6_moveTo, us_X6_isFree, us_X6_putEngine, us_X6_coversAll, us_X6_liftEngine, hC.eqs, hC, hh, fr2, t0]
      try simp (disch := omega) only [wI_id, dv_nn, rm_nn]
      repeat' (first | intro z | apply And.intro)
      all_goals try omega
      all_goals try contradiction
      all_goals exact w

set_option maxRecDepth 20000 in
theorem cr_X6_moveTo {d : Nat} (hr : HR_X6_moveTo d) : Ct yX6_moveTo cX6_moveTo 5 ((some FieldType.boolean)) (2*d+5) 0 0 (sp_X6_moveTo d) := by
  refine Ct.go (M := M_X6_moveTo d) (mm_X6_moveTo hr) fun av σ Q h0 => ?_
  obtain ⟨this, i, n, rfl, hk, h⟩ := el_X6_moveTo d h0
  clear h0
  refine ⟨Nat.le_of_ble_eq_true rfl, ?_⟩
  show Go (M_X6_moveTo d) Q 0 [some (vr this), some (vi i), some (vi n), none, none] [] σ (0, 0)
  obtain ⟨rfl, hd, hi, τ, f, c, hS, hF, hm, hc, he, hfx, hV, h1, h0⟩ := h
  have hhs := hS.2.2.1.houses_s
  have zr : MvZ i σ σ := ⟨Fz.rf _, fun _ _ => ⟨rfl, rfl⟩, hS.2.2.2.2.2.1⟩
  have w := mt_2 hr hd hi hS hF hm hc he hfx h1 h0 (fI τ 1332 61).toNat 0 σ none (by omega) zr hV hm (fun u' hu => fun z => by have := z.1.1; omega)
  have w : Go (M_X6_moveTo d) Q 2 [some (vr 19), some (vi i), some (vi n), some (vi 0), none] [] σ (0, 0) := w
  clear h1 h0
  refine go_X6_moveTo hr (ct := fun p => p == 2) 20 ?_
  simp only [oI, oL, oR, o1, lI, lL, lR, popN, catS, gv, stL, stL2, swt, cnd, spObj, List.getElem?_cons_zero, List.getElem?_cons_succ, List.getD_cons_zero, List.getD_cons_succ, List.set_cons_zero, List.set_cons_succ, List.nil_append, List.cons_append, Option.toList, Bool.or_false, Bool.false_or, Bool.or_true, Bool.true_or, Nat.reduceBEq, Nat.reduceAdd, Nat.reduceLT, Nat.reduceLeDiff, Int.reduceAdd, Int.reduceToNat, true_and, and_true, Fin.isValue, Fin.val_zero, Fin.val_one, Fin.val_two, Fin.reduceFinMk, eq_self, Int.reduceNeg, imp_self, Nat.reduceMul, Nat.le_refl, not_true_eq_false, not_false_eq_true, List.getElem?_nil, reduceCtorEq, true_or, or_true, Classical.not_not, implies_true, or_self, wI_0, wI_1, wI_m1, b2i_w, b2i_eq0, b2i_eq1, b2i_bool, nor_self, nx_pI, kd_pI, ln_pI, fI_pI, fL_pI, fR_pI, aI_pI, aL_pI, aR_pI, nx_pL, kd_pL, ln_pL, fI_pL, fL_pL, fR_pL, aI_pL, aL_pL, aR_pL, nx_pR, kd_pR, ln_pR, fI_pR, fL_pR, fR_pR, aI_pR, aL_pR, aR_pR, nx_qI, kd_qI, ln_qI, fI_qI, fL_qI, fR_qI, aI_qI, aL_qI, aR_qI, nx_qL, kd_qL, ln_qL, fI_qL, fL_qL, fR_qL, aI_qL, aL_qL, aR_qL, nx_qR, kd_qR, ln_qR, fI_qR, fL_qR, fR_qR, aI_qR, aL_qR, aR_qR, nx_mk, kd_mk, ln_mk, fI_mk, fL_mk, fR_mk, aI_mk, aL_mk, aR_mk, false_and, and_false, if_false, if_true, and_self, Int.reduceEq, Nat.reduceEqDiff, ite_self, MLay_pI, MLay_pL, MLay_qI, MLay_qL, ev_X6_moveTo_0, ev_X6_moveTo_1, xt_X6_moveTo, xf_X6_moveTo, us_X6_isFree, us_X6_putEngine, us_X6_coversAll, us_X6_liftEngine]
  exact w

theorem Wn_s {τ : Hp} {d : Nat} {f : Int → Int} {lo : Int} {T : Int → Prop} (hd : 0 < d) : Wn τ d f lo T ↔ ∃ c u, Kn τ (d - 1) f lo T c u := by
  obtain ⟨e, rfl⟩ : ∃ e, d = e + 1 := ⟨d - 1, by omega⟩
  exact Iff.rfl
theorem Rc_s {τ σ : Hp} {d : Nat} {i : Int} {f : Int → Int} {lo : Int} {T : Int → Prop} (hd : 0 < d) : Rc τ d σ i f lo T ↔ (Fn τ (d - 1) f lo T (aI σ 22 i) (aI σ 23 i) ∧ Rc τ (d - 1) σ (i + 1) (fu f (aI σ 22 i) (aI σ 23 i)) (aI σ 22 i + 1) (fun v => v = aI σ 23 i)) := by
  obtain ⟨e, rfl⟩ : ∃ e, d = e + 1 := ⟨d - 1, by omega⟩
  exact Iff.rfl
theorem CVS_back {τ σ : Hp} {f : Int → Int} {c u : Int} (h : CVS (fI τ 1335 61).toNat (mBut τ c) f σ) (hc : 0 ≤ c ∧ c < fI τ 1335 61) (he : mEng τ c) (hu : 0 ≤ u ∧ u < 12) (hf : f c = u) : CVS (fI τ 1335 61).toNat (mEng τ) f (cPut σ u) :=
  CVS_put' h hu (cnt_up (by omega) (fun z => z.2 rfl) ⟨he, hf⟩ (fun j hj => ⟨⟨fun z => ⟨z, hj⟩, fun z => z.1⟩, rfl⟩))

set_option maxRecDepth 20000 in
theorem mo_117 {d : Nat} (hr : HR_X6_moveOn d) {Q : Option AV → Hp → Prop} {ρ : Hp} {i n c : Int} {a4 a5 : Option AV} (h : ∀ a4 a5, Go (M_X6_moveOn d) Q 39 [some (vr 19), some (vi i), some (vi n), some (vi (c + 1)), a4, a5] [] ρ (0, 0)) : Go (M_X6_moveOn d) Q 117 [some (vr 19), some (vi i), some (vi n), some (vi c), a4, a5] [] ρ (0, 0) := by
  have h := h a4 a5
  refine go_X6_moveOn hr (ct := fun p => p == 39) 20 ?_
  simp only [oI, oL, oR, o1, lI, lL, lR, popN, catS, gv, stL, stL2, swt, cnd, spObj, List.getElem?_cons_zero, List.getElem?_cons_succ, List.getD_cons_zero, List.getD_cons_succ, List.set_cons_zero, List.set_cons_succ, List.nil_append, List.cons_append, Option.toList, Bool.or_false, Bool.false_or, Bool.or_true, Bool.true_or, Nat.reduceBEq, Nat.reduceAdd, Nat.reduceLT, Nat.reduceLeDiff, Int.reduceAdd, Int.reduceToNat, true_and, and_true, Fin.isValue, Fin.val_zero, Fin.val_one, Fin.val_two, Fin.reduceFinMk, eq_self, Int.reduceNeg, imp_self, Nat.reduceMul, Nat.le_refl, not_true_eq_false, not_false_eq_true, List.getElem?_nil, reduceCtorEq, true_or, or_true, Classical.not_not, implies_true, or_self, wI_0, wI_1, wI_m1, b2i_w, b2i_eq0, b2i_eq1, b2i_bool, nor_self, nx_pI, kd_pI, ln_pI, fI_pI, fL_pI, fR_pI, aI_pI, aL_pI, aR_pI, nx_pL, kd_pL, ln_pL, fI_pL, fL_pL, fR_pL, aI_pL, aL_pL, aR_pL, nx_pR, kd_pR, ln_pR, fI_pR, fL_pR, fR_pR, aI_pR, aL_pR, aR_pR, nx_qI, kd_qI, ln_qI, fI_qI, fL_qI, fR_qI, aI_qI, aL_qI, aR_qI, nx_qL, kd_qL, ln_qL, fI_qL, fL_qL, fR_qL, aI_qL, aL_qL, aR_qL, nx_qR, kd_qR, ln_qR, fI_qR, fL_qR, fR_qR, aI_qR, aL_qR, aR_qR, nx_mk, kd_mk, ln_mk, fI_mk, fL_mk, fR_mk, aI_mk, aL_mk, aR_mk, false_and, and_false, if_false, if_true, and_self, Int.reduceEq, Nat.reduceEqDiff, ite_self, MLay_pI, MLay_pL, MLay_qI, MLay_qL, ev_X6_moveOn_117, ev_X6_moveOn_120, xt_X6_moveOn, xf_X6_moveOn, us_Jx4a65c_size_8abf5, us_X3_companyOf, us_X5_isIn, us_X6_liftEngine, us_X6_putEngine]
  exact h

set_option maxRecDepth 20000 in
theorem mo_99 {d : Nat} (hr : HR_X6_moveOn d) {Q : Option AV → Hp → Prop} {ρ : Hp} {i n c p st b : Int} {a5 : Option AV} (hC : CLay ρ) (hp : kd ρ p = 6) (hs : fI ρ 602 p = st) (hst : 0 ≤ st ∧ st ≤ 11) (hb : b = 0 ∨ b = 1) (h1 : b = 1 → Q (some (vi 1)) (cPut ρ st)) (h0 : b = 0 → ∀ a4 a5, Go (M_X6_moveOn d) Q 39 [some (vr 19), some (vi i), some (vi n), some (vi (c + 1)), a4, a5] [] (cPut ρ st) (0, 0)) : Go (M_X6_moveOn d) Q 99 [some (vr 19), some (vi i), some (vi n), some (vi c), some (vr p), a5] [vi b] ρ (0, 0) := by
  have hk : kd ρ 19 = 7 := by simp only [hC.eqs]
  rcases hb with rfl | rfl
  · have w := mo_117 hr (a4 := some (vr p)) (a5 := some (vi 0)) (h0 rfl)
    clear h1 h0
    refine go_X6_moveOn hr (ct := fun p => p == 117 || p == 115) 40 ?_
    simp only [oI, oL, oR, o1, lI, lL, lR, popN, catS, gv, stL, stL2, swt, cnd, spObj, List.getElem?_cons_zero, List.getElem?_cons_succ, List.getD_cons_zero, List.getD_cons_succ, List.set_cons_zero, List.set_cons_succ, List.nil_append, List.cons_append, Option.toList, Bool.or_false, Bool.false_or, Bool.or_true, Bool.true_or, Nat.reduceBEq, Nat.reduceAdd, Nat.reduceLT, Nat.reduceLeDiff, Int.reduceAdd, Int.reduceToNat, true_and, and_true, Fin.isValue, Fin.val_zero, Fin.val_one, Fin.val_two, Fin.reduceFinMk, eq_self, Int.reduceNeg, imp_self, Nat.reduceMul, Nat.le_refl, not_true_eq_false, not_false_eq_true, List.getElem?_nil, reduceCtorEq, true_or, or_true, Classical.not_not, implies_true, or_self, wI_0, wI_1, wI_m1, b2i_w, b2i_eq0, b2i_eq1, b2i_bool, nor_self, nx_pI, kd_pI, ln_pI, fI_pI, fL_pI, fR_pI, aI_pI, aL_pI, aR_pI, nx_pL, kd_pL, ln_pL, fI_pL, fL_pL, fR_pL, aI_pL, aL_pL, aR_pL, nx_pR, kd_pR, ln_pR, fI_pR, fL_pR, fR_pR, aI_pR, aL_pR, aR_pR, nx_qI, kd_qI, ln_qI, fI_qI, fL_qI, fR_qI, aI_qI, aL_qI, aR_qI, nx_qL, kd_qL, ln_qL, fI_qL, fL_qL, fR_qL, aI_qL, aL_qL, aR_qL, nx_qR, kd_qR, ln_qR, fI_qR, fL_qR, fR_qR, aI_qR, aL_qR, aR_qR, nx_mk, kd_mk, ln_mk, fI_mk, fL_mk, fR_mk, aI_mk, aL_mk, aR_mk, false_and, and_false, if_false, if_true, and_self, Int.reduceEq, Nat.reduceEqDiff, ite_self, MLay_pI, MLay_pL, MLay_qI, MLay_qL, ev_X6_moveOn_99, ev_X6_moveOn_101, ev_X6_moveOn_102, ev_X6_moveOn_104, ev_X6_moveOn_107, ev_X6_moveOn_110, ev_X6_moveOn_112, xt_X6_moveOn, xf_X6_moveOn, us_Jx4a65c_size_8abf5, us_X3_companyOf, us_X5_isIn, us_X6_liftEngine, us_X6_putEngine, hC, hk, hp, hs]
    try simp (disch := omega) only [wI_id, dv_nn, rm_nn]
    repeat' (first | intro z | apply And.intro)
    all_goals try omega
    all_goals try contradiction
    all_goals exact w
  · have h1 := h1 rfl
    clear h0
    refine go_X6_moveOn hr (ct := fun p => p == 117) 40 ?_
    simp only [oI, oL, oR, o1, lI, lL, lR, popN, catS, gv, stL, stL2, swt, cnd, spObj, List.getElem?_cons_zero, List.getElem?_cons_succ, List.getD_cons_zero, List.getD_cons_succ, List.set_cons_zero, List.set_cons_succ, List.nil_append, List.cons_append, Option.toList, Bool.or_false, Bool.false_or, Bool.or_true, Bool.true_or, Nat.reduceBEq, Nat.reduceAdd, Nat.reduceLT, Nat.reduceLeDiff, Int.reduceAdd, Int.reduceToNat, true_and, and_true, Fin.isValue, Fin.val_zero, Fin.val_one, Fin.val_two, Fin.reduceFinMk, eq_self, Int.reduceNeg, imp_self, Nat.reduceMul, Nat.le_refl, not_true_eq_false, not_false_eq_true, List.getElem?_nil, reduceCtorEq, true_or, or_true, Classical.not_not, implies_true, or_self, wI_0, wI_1, wI_m1, b2i_w, b2i_eq0, b2i_eq1, b2i_bool, nor_self, nx_pI, kd_pI, ln_pI, fI_pI, fL_pI, fR_pI, aI_pI, aL_pI, aR_pI, nx_pL, kd_pL, ln_pL, fI_pL, fL_pL, fR_pL, aI_pL, aL_pL, aR_pL, nx_pR, kd_pR, ln_pR, fI_pR, fL_pR, fR_pR, aI_pR, aL_pR, aR_pR, nx_qI, kd_qI, ln_qI, fI_qI, fL_qI, fR_qI, aI_qI, aL_qI, aR_qI, nx_qL, kd_qL, ln_qL, fI_qL, fL_qL, fR_qL, aI_qL, aL_qL, aR_qL, nx_qR, kd_qR, ln_qR, fI_qR, fL_qR, fR_qR, aI_qR, aL_qR, aR_qR, nx_mk, kd_mk, ln_mk, fI_mk, fL_mk, fR_mk, aI_mk, aL_mk, aR_mk, false_and, and_false, if_false, if_true, and_self, Int.reduceEq, Nat.reduceEqDiff, ite_self, MLay_pI, MLay_pL, MLay_qI, MLay_qL, ev_X6_moveOn_99, ev_X6_moveOn_101, ev_X6_moveOn_102, ev_X6_moveOn_104, ev_X6_moveOn_107, ev_X6_moveOn_110, ev_X6_moveOn_112, ev_X6_moveOn_115, ev_X6_moveOn_116, xt_X6_moveOn, xf_X6_moveOn, us_Jx4a65c_size_8abf5, us_X3_companyOf, us_X5_isIn, us_X6_liftEngine, us_X6_putEngine, hC, hk, hp, hs]
    try simp (disch := omega) only [wI_id, dv_nn, rm_nn]
    repeat' (first | intro z | apply And.intro)
    all_goals try omega
    all_goals try contradiction
    all_goals exact h1

set_option maxRecDepth 20000 in
theorem mo_39 {d : Nat} (hr : HR_X6_moveOn d) {Q : Option AV → Hp → Prop} {σ τ : Hp} {f : Int → Int} {i n lo : Int} {T : Int → Prop} (hd : 0 < d) (hi : 0 ≤ i ∧ n = i + d ∧ n ≤ 2) (hS : CvS τ σ) (hF : FRn τ f) (hlo : 0 ≤ lo ∧ lo ≤ fI τ 1335 61) (hT : Tx σ i = T) (hfx : ∀ x, lo ≤ x → f x = aI τ 89 x)
    (h1 : ∀ σ', MvZ i σ σ' → CVS (fI τ 1335 61).toNat (mEng τ) f σ' → Wn τ d f lo T → Rc τ d σ' i f lo T → Q (some (vi 1)) σ')
    (h0 : ∀ σ', MvZ i σ σ' → CVS (fI τ 1335 61).toNat (mEng τ) f σ' → ¬ Wn τ d f lo T → Q (some (vi 0)) σ') :
    ∀ (m : Nat) (k : Int) (ρ : Hp) (a4 a5 : Option AV), k + m = fI τ 1335 61 → lo ≤ k → MvZ i σ ρ → CVS (fI τ 1335 61).toNat (mEng τ) f ρ → (∀ c' u', c' < k → ¬ Kn τ (d - 1) f lo T c' u') → Go (M_X6_moveOn d) Q 39 [some (vr 19), some (vi i), some (vi n), some (vi k), a4, a5] [] ρ (0, 0) := by
  have hcs0 := hS.2.2.1.companies_s
  intro m
  induction m with
  | zero =>
    intro k ρ a4 a5 hk2 hlk hz hV hno
    have hSr := hS.mv hz
    have hC := hSr.1
    have hk : kd ρ 19 = 7 := by simp only [hC.eqs]
    have hsz := hSr.2.1.2.1
    have h0 := h0 ρ hz hV (fun y => by
      obtain ⟨c, u, y⟩ := (Wn_s hd).mp y
      have := y.2.1
      exact hno c u (by omega) y)
    clear hno h1 hV hz hSr
    refine go_X6_moveOn hr (ct := fun p => p == 53) 40 ?_
    simp only [oI, oL, oR, o1, lI, lL, lR, popN, catS, gv, stL, stL2, swt, cnd, spObj, List.getElem?_cons_zero, List.getElem?_cons_succ, List.getD_cons_zero, List.getD_cons_succ, List.set_cons_zero, List.set_cons_succ, List.nil_append, List.cons_append, Option.toList, Bool.or_false, Bool.false_or, Bool.or_true, Bool.true_or, Nat.reduceBEq, Nat.reduceAdd, Nat.reduceLT, Nat.reduceLeDiff, Int.reduceAdd, Int.reduceToNat, true_and, and_true, Fin.isValue, Fin.val_zero, Fin.val_one, Fin.val_two, Fin.reduceFinMk, eq_self, Int.reduceNeg, imp_self, Nat.reduceMul, Nat.le_refl, not_true_eq_false, not_false_eq_true, List.getElem?_nil, reduceCtorEq, true_or, or_true, Classical.not_not, implies_true, or_self, wI_0, wI_1, wI_m1, b2i_w, b2i_eq0, b2i_eq1, b2i_bool, nor_self, nx_pI, kd_pI, ln_pI, fI_pI, fL_pI, fR_pI, aI_pI, aL_pI, aR_pI, nx_pL, kd_pL, ln_pL, fI_pL, fL_pL, fR_pL, aI_pL, aL_pL, aR_pL, nx_pR, kd_pR, ln_pR, fI_pR, fL_pR, fR_pR, aI_pR, aL_pR, aR_pR, nx_qI, kd_qI, ln_qI, fI_qI, fL_qI, fR_qI, aI_qI, aL_qI, aR_qI, nx_qL, kd_qL, ln_qL, fI_qL, fL_qL, fR_qL, aI_qL, aL_qL, aR_qL, nx_qR, kd_qR, ln_qR, fI_qR, fL_qR, fR_qR, aI_qR, aL_qR, aR_qR, nx_mk, kd_mk, ln_mk, fI_mk, fL_mk, fR_mk, aI_mk, aL_mk, aR_mk, false_and, and_false, if_false, if_true, and_self, Int.reduceEq, Nat.reduceEqDiff, ite_self, MLay_pI, MLay_pL, MLay_qI, MLay_qL, ev_X6_moveOn_39, ev_X6_moveOn_40, ev_X6_moveOn_41, ev_X6_moveOn_44, ev_X6_moveOn_47, ev_X6_moveOn_50, ev_X6_moveOn_123, ev_X6_moveOn_124, xt_X6_moveOn, xf_X6_moveOn, us_Jx4a65c_size_8abf5, us_X3_companyOf, us_X5_isIn, us_X6_liftEngine, us_X6_putEngine, hC.eqs, hsz]
    try simp (disch := omega) only [wI_id, dv_nn, rm_nn]
    repeat' (first | intro z | apply And.intro)
    all_goals try omega
    all_goals try contradiction
    all_goals exact h0
  | succ m ih =>
    intro k ρ a4 a5 hk2 hlk hz hV hno
    have hSr := hS.mv hz
    obtain ⟨hC, hG, hI, hNR, hTK, hTG, hHI⟩ := id hSr
    have hk : kd ρ 19 = 7 := by simp only [hC.eqs]
    have hsz := hG.2.1
    have hL5 := hG.1
    have hhs := hI.houses_s
    have hkr : 0 ≤ k ∧ k < fI τ 1335 61 := by omega
    have hci : inR k := by unfold inR; omega
    have ec : (if 0 ≤ k ∧ k < fI τ 1335 61 then lat ρ 18 k else 0) = lat ρ 18 k := if_pos hkr
    have hkc : kd ρ (lat ρ 18 k) = 6 := hL5.2.2.2.2.2 k (by omega) (by omega)
    obtain ⟨p1, p2, -, p4, p5, p6⟩ := hG.2.2.1 k hkr.1 hkr.2
    have hp0 : ¬ lat ρ 18 k = 0 := by omega
    have hK := hI.companyKind_ k
    have hSn : 0 ≤ fI ρ 603 (lat ρ 18 k) ∧ fI ρ 603 (lat ρ 18 k) ≤ 1 := by
      by_cases z : aI τ 89 k < 0
      · have := (p4 z).1; omega
      · have := (p5 (by omega)).1; omega
    have nxt : ∀ ρ', MvZ i σ ρ' → CVS (fI τ 1335 61).toNat (mEng τ) f ρ' → (∀ u, ¬ Kn τ (d - 1) f lo T k u) → ∀ a4 a5, Go (M_X6_moveOn d) Q 39 [some (vr 19), some (vi i), some (vi n), some (vi (k + 1)), a4, a5] [] ρ' (0, 0) := fun ρ' q1 q2 q3 a4 a5 => ih (k + 1) ρ' a4 a5 (by omega) (by omega) q1 q2 (fun c' u' hc' => by
      by_cases e : c' = k
      · rw [e]; exact q3 u'
      · exact hno c' u' (by omega))
    by_cases y : fI ρ 603 (lat ρ 18 k) = 0 ∧ fI ρ 600 (lat ρ 18 k) = 0
    · have y0 : 0 ≤ aI τ 89 k := by
        by_cases z : aI τ 89 k < 0
        · have := (p4 z).1; omega
        · omega
      have he : mEng τ k := ⟨by omega, y0⟩
      have hst := (p5 y0).2
      have hfk := hfx k hlk
      have hau : 0 ≤ aI τ 89 k ∧ aI τ 89 k < 12 := by have := (hHI k hkr.1 hkr.2).1; omega
      have z1 : MvZ i ρ (qI ρ 22 i k) := MvZ_m (by omega) hTG
      have z2 : MvZ i (qI ρ 22 i k) (cLft (qI ρ 22 i k) (aI τ 89 k)) := MvZ_lft i _ z1.2.2
      have z3 := hz.tr (z1.tr z2)
      have hS3 := hS.mv z3
      have C1 : CLay (qI ρ 22 i k) := hC.fz z1.1 (by decide)
      have V1 : CVS (fI τ 1335 61).toNat (mEng τ) f (qI ρ 22 i k) := CVS_rw hV (by funext j; rw [aI_qI, if_neg (by omega)]) rfl
      have V2 : CVS (fI τ 1335 61).toNat (mBut τ k) f (cLft (qI ρ 22 i k) (aI τ 89 k)) := CVS_off hI V1 hkr he hau hfk (fun j _ => rfl)
      have m22 : aI (cLft (qI ρ 22 i k) (aI τ 89 k)) 22 i = k := by unfold cLft; simp only [aI_pI, aI_qI, Int.reduceEq, false_and, if_false, and_self, if_true]
      have hTT : Tx (cLft (qI ρ 22 i k) (aI τ 89 k)) i = T := by
        rw [← hT]
        unfold Tx
        funext v
        by_cases z : 0 < i
        · rw [(z3.2.1 0 z).2]
        · simp only [z, false_and]
      have cnr : 0 ≤ aI ρ 21 (aI τ 89 k) ∧ aI ρ 21 (aI τ 89 k) ≤ 100 := by
        have := cnt_in (fI τ 1335 61).toNat (mEng τ) f (aI τ 89 k)
        rw [hV.1 _ hau.1 hau.2]; omega
      have hlat : ∀ ρ', MvZ i σ ρ' → lat ρ' 18 k = lat ρ 18 k ∧ kd ρ' (lat ρ 18 k) = 6 ∧ fI ρ' 602 (lat ρ 18 k) = aI τ 89 k ∧ CLay ρ' := fun ρ' q => by
        have g := (hS.mv q)
        have e1 : lat ρ' = lat ρ := (lat_fz q.1 (by decide)).trans (lat_fz hz.1 (by decide)).symm
        have e2 : kd ρ' = kd ρ := q.1.kd.trans hz.1.kd.symm
        have e3 : fI ρ' 602 = fI ρ 602 := (q.1.fI (by decide)).trans (hz.1.fI (by decide)).symm
        refine ⟨by rw [e1], by rw [e2]; exact hkc, by rw [e3]; exact hst, g.1⟩
      have inner : ∀ Q', (∀ σ' u, MvZ i σ σ' → CVS (fI τ 1335 61).toNat (mBut τ k) f σ' → aI σ' 22 i = k → aI σ' 23 i = u → Kto τ (d - 1) f k T u → (∀ u', u' < u → ¬ Kto τ (d - 1) f k T u') → Rc τ (d - 1) σ' (i + 1) (fu f k u) (k + 1) (fun v => v = u) → Q' (some (vi 1)) σ') → (∀ σ', MvZ i σ σ' → CVS (fI τ 1335 61).toNat (mBut τ k) f σ' → (∀ u, ¬ Kto τ (d - 1) f k T u) → Q' (some (vi 0)) σ') → sp_X6_moveTo d [vr 19, vi i, vi n] (cLft (qI ρ 22 i k) (aI τ 89 k)) Q' := fun Q' g1 g0 => by
        rw [us_X6_moveTo]
        refine ⟨by rw [kd_cLft]; simp only [C1.eqs], rfl, hd, hi, τ, f, k, hS3, hF, m22, hkr, he, fun x hx => hfx x (by omega), V2, ?_, ?_⟩
        · rw [hTT]
          exact fun σ' u q1 q2 q3 q4 q5 q6 q7 => g1 σ' u (z3.tr q1) q2 q3 q4 q5 q6 q7
        · rw [hTT]
          exact fun σ' q1 q2 q3 => g0 σ' (z3.tr q1) q2 q3
      have w93 : ∀ a5, Go (M_X6_moveOn d) Q 93 [some (vr 19), some (vi i), some (vi n), some (vi k), some (vr (lat ρ 18 k)), a5] [] (cLft (qI ρ 22 i k) (aI τ 89 k)) (0, 0) := fun a5 => by
        refine go_X6_moveOn hr (ct := fun p => p == 99) 20 ?_
        simp only [oI, oL, oR, o1, lI, lL, lR, popN, catS, gv, stL, stL2, swt, cnd, spObj, List.getElem?_cons_zero, List.getElem?_cons_succ, List.getD_cons_zero, List.getD_cons_succ, List.set_cons_zero, List.set_cons_succ, List.nil_append, List.cons_append, Option.toList, Bool.or_false, Bool.false_or, Bool.or_true, Bool.true_or, Nat.reduceBEq, Nat.reduceAdd, Nat.reduceLT, Nat.reduceLeDiff, Int.reduceAdd, Int.reduceToNat, true_and, and_true, Fin.isValue, Fin.val_zero, Fin.val_one, Fin.val_two, Fin.reduceFinMk, eq_self, Int.reduceNeg, imp_self, Nat.reduceMul, Nat.le_refl, not_true_eq_false, not_false_eq_true, List.getElem?_nil, reduceCtorEq, true_or, or_true, Classical.not_not, implies_true, or_self, wI_0, wI_1, wI_m1, b2i_w, b2i_eq0, b2i_eq1, b2i_bool, nor_self, nx_pI, kd_pI, ln_pI, fI_pI, fL_pI, fR_pI, aI_pI, aL_pI, aR_pI, nx_pL, kd_pL, ln_pL, fI_pL, fL_pL, fR_pL, aI_pL, aL_pL, aR_pL, nx_pR, kd_pR, ln_pR, fI_pR, fL_pR, fR_pR, aI_pR, aL_pR, aR_pR, nx_qI, kd_qI, ln_qI, fI_qI, fL_qI, fR_qI, aI_qI, aL_qI, aR_qI, nx_qL, kd_qL, ln_qL, fI_qL, fL_qL, fR_qL, aI_qL, aL_qL, aR_qL, nx_qR, kd_qR, ln_qR, fI_qR, fL_qR, fR_qR, aI_qR, aL_qR, aR_qR, nx_mk, kd_mk, ln_mk, fI_mk, fL_mk, fR_mk, aI_mk, aL_mk, aR_mk, false_and, and_false, if_false, if_true, and_self, Int.reduceEq, Nat.reduceEqDiff, ite_self, MLay_pI, MLay_pL, MLay_qI, MLay_qL, ev_X6_moveOn_93, ev_X6_moveOn_94, ev_X6_moveOn_95, ev_X6_moveOn_96, xt_X6_moveOn, xf_X6_moveOn, us_Jx4a65c_size_8abf5, us_X3_companyOf, us_X5_isIn, us_X6_liftEngine, us_X6_putEngine]
        refine ⟨by omega, inner _ (fun σ' u q1 q2 q3 q4 q5 q6 q7 => ?_) (fun σ' q1 q2 q3 => ?_)⟩
        · obtain ⟨-, g2, g3, g4⟩ := hlat σ' q1
          refine mo_99 hr (a5 := a5) g4 g2 g3 (by omega) (Or.inr rfl) (fun _ => ?_) (fun z => by omega)
          have z5 := MvZ_put i (σ := σ') (aI τ 89 k) q1.2.2
          have l22 : aI (cPut σ' (aI τ 89 k)) 22 = aI σ' 22 := by funext j; unfold cPut; simp only [aI_pI, aI_qI, Int.reduceEq, false_and, if_false]
          have l23 : aI (cPut σ' (aI τ 89 k)) 23 = aI σ' 23 := by funext j; unfold cPut; simp only [aI_pI, aI_qI, Int.reduceEq, false_and, if_false]
          have hK2 : Kn τ (d - 1) f lo T k u := ⟨hlk, hkr, he, q5⟩
          refine h1 _ (q1.tr z5) (CVS_back q2 hkr he hau hfk) ((Wn_s hd).mpr ⟨k, u, hK2⟩) ((Rc_s hd).mpr ?_)
          rw [l22, l23, q3, q4]
          refine ⟨⟨hK2, fun c' u' q => ?_⟩, Rc_cg l22 l23 _ _ _ _ _ q7⟩
          rcases q with q | ⟨q, q'⟩
          · exact hno c' u' q
          · subst q
            exact fun y => q6 u' q' y.2.2.2
        · obtain ⟨-, g2, g3, g4⟩ := hlat σ' q1
          refine mo_99 hr (a5 := a5) g4 g2 g3 (by omega) (Or.inl rfl) (fun z => by omega) (fun _ => ?_)
          have z5 := MvZ_put i (σ := σ') (aI τ 89 k) q1.2.2
          exact nxt _ (q1.tr z5) (CVS_back q2 hkr he hau hfk) (fun u y => q3 u y.2.2.2)
      have w93 := w93 a5
      clear inner nxt ih h1 h0 hno V1 V2 hV hlat hS3
      refine go_X6_moveOn hr (ct := fun p => p == 123 || p == 117 || p == 93) 60 ?_
      simp only [oI, oL, oR, o1, lI, lL, lR, popN, catS, gv, stL, stL2, swt, cnd, spObj, List.getElem?_cons_zero, List.getElem?_cons_succ, List.getD_cons_zero, List.getD_cons_succ, List.set_cons_zero, List.set_cons_succ, List.nil_append, List.cons_append, Option.toList, Bool.or_false, Bool.false_or, Bool.or_true, Bool.true_or, Nat.reduceBEq, Nat.reduceAdd, Nat.reduceLT, Nat.reduceLeDiff, Int.reduceAdd, Int.reduceToNat, true_and, and_true, Fin.isValue, Fin.val_zero, Fin.val_one, Fin.val_two, Fin.reduceFinMk, eq_self, Int.reduceNeg, imp_self, Nat.reduceMul, Nat.le_refl, not_true_eq_false, not_false_eq_true, List.getElem?_nil, reduceCtorEq, true_or, or_true, Classical.not_not, implies_true, or_self, wI_0, wI_1, wI_m1, b2i_w, b2i_eq0, b2i_eq1, b2i_bool, nor_self, nx_pI, kd_pI, ln_pI, fI_pI, fL_pI, fR_pI, aI_pI, aL_pI, aR_pI, nx_pL, kd_pL, ln_pL, fI_pL, fL_pL, fR_pL, aI_pL, aL_pL, aR_pL, nx_pR, kd_pR, ln_pR, fI_pR, fL_pR, fR_pR, aI_pR, aL_pR, aR_pR, nx_qI, kd_qI, ln_qI, fI_qI, fL_qI, fR_qI, aI_qI, aL_qI, aR_qI, nx_qL, kd_qL, ln_qL, fI_qL, fL_qL, fR_qL, aI_qL, aL_qL, aR_qL, nx_qR, kd_qR, ln_qR, fI_qR, fL_qR, fR_qR, aI_qR, aL_qR, aR_qR, nx_mk, kd_mk, ln_mk, fI_mk, fL_mk, fR_mk, aI_mk, aL_mk, aR_mk, false_and, and_false, if_false, if_true, and_self, Int.reduceEq, Nat.reduceEqDiff, ite_self, MLay_pI, MLay_pL, MLay_qI, MLay_qL, ev_X6_moveOn_39, ev_X6_moveOn_40, ev_X6_moveOn_41, ev_X6_moveOn_44, ev_X6_moveOn_47, ev_X6_moveOn_50, ev_X6_moveOn_53, ev_X6_moveOn_54, ev_X6_moveOn_57, ev_X6_moveOn_58, ev_X6_moveOn_61, ev_X6_moveOn_63, ev_X6_moveOn_65, ev_X6_moveOn_68, ev_X6_moveOn_70, ev_X6_moveOn_71, ev_X6_moveOn_74, ev_X6_moveOn_77, ev_X6_moveOn_78, ev_X6_moveOn_81, ev_X6_moveOn_82, ev_X6_moveOn_83, ev_X6_moveOn_84, ev_X6_moveOn_85, ev_X6_moveOn_87, ev_X6_moveOn_90, xt_X6_moveOn, xf_X6_moveOn, us_Jx4a65c_size_8abf5, us_X3_companyOf, us_X5_isIn, us_X6_liftEngine, us_X6_putEngine, hC.eqs, hC, hL5, hci, hsz, ec, hkc, hp0, y, hst, C1, cnr, CLay_qI]
      try simp (disch := omega) only [wI_id, dv_nn, rm_nn]
      repeat' (first | intro z | apply And.intro)
      all_goals try omega
      all_goals try contradiction
      all_goals exact w93
    · have w := mo_117 hr (a4 := some (vr (lat ρ 18 k))) (a5 := a5) (nxt ρ hz hV (fun u q => y ⟨(p5 q.2.2.1.2).1, by have := q.2.2.1.1; omega⟩))
      clear nxt ih h1 h0 hno hV
      refine go_X6_moveOn hr (ct := fun p => p == 123 || p == 117 || p == 77) 60 ?_
      simp only [oI, oL, oR, o1, lI, lL, lR, popN, catS, gv, stL, stL2, swt, cnd, spObj, List.getElem?_cons_zero, List.getElem?_cons_succ, List.getD_cons_zero, List.getD_cons_succ, List.set_cons_zero, List.set_cons_succ, List.nil_append, List.cons_append, Option.toList, Bool.or_false, Bool.false_or, Bool.or_true, Bool.true_or, Nat.reduceBEq, Nat.reduceAdd, Nat.reduceLT, Nat.reduceLeDiff, Int.reduceAdd, Int.reduceToNat, true_and, and_true, Fin.isValue, Fin.val_zero, Fin.val_one, Fin.val_two, Fin.reduceFinMk, eq_self, Int.reduceNeg, imp_self, Nat.reduceMul, Nat.le_refl, not_true_eq_false, not_false_eq_true, List.getElem?_nil, reduceCtorEq, true_or, or_true, Classical.not_not, implies_true, or_self, wI_0, wI_1, wI_m1, b2i_w, b2i_eq0, b2i_eq1, b2i_bool, nor_self, nx_pI, kd_pI, ln_pI, fI_pI, fL_pI, fR_pI, aI_pI, aL_pI, aR_pI, nx_pL, kd_pL, ln_pL, fI_pL, fL_pL, fR_pL, aI_pL, aL_pL, aR_pL, nx_pR, kd_pR, ln_pR, fI_pR, fL_pR, fR_pR, aI_pR, aL_pR, aR_pR, nx_qI, kd_qI, ln_qI, fI_qI, fL_qI, fR_qI, aI_qI, aL_qI, aR_qI, nx_qL, kd_qL, ln_qL, fI_qL, fL_qL, fR_qL, aI_qL, aL_qL, aR_qL, nx_qR, kd_qR, ln_qR, fI_qR, fL_qR, fR_qR, aI_qR, aL_qR, aR_qR, nx_mk, kd_mk, ln_mk, fI_mk, fL_mk, fR_mk, aI_mk, aL_mk, aR_mk, false_and, and_false, if_false, if_true, and_self, Int.reduceEq, Nat.reduceEqDiff, ite_self, MLay_pI, MLay_pL, MLay_qI, MLay_qL, ev_X6_moveOn_39, ev_X6_moveOn_40, ev_X6_moveOn_41, ev_X6_moveOn_44, ev_X6_moveOn_47, ev_X6_moveOn_50, ev_X6_moveOn_53, ev_X6_moveOn_54, ev_X6_moveOn_57, ev_X6_moveOn_58, ev_X6_moveOn_61, ev_X6_moveOn_63, ev_X6_moveOn_65, ev_X6_moveOn_68, ev_X6_moveOn_70, ev_X6_moveOn_71, ev_X6_moveOn_74, xt_X6_moveOn, xf_X6_moveOn, us_Jx4a65c_size_8abf5, us_X3_companyOf, us_X5_isIn, us_X6_liftEngine, us_X6_putEngine, hC.eqs, hC, hL5, hci, hsz, ec, hkc, hp0, y]
      try simp (disch := omega) only [wI_id, dv_nn, rm_nn]
      repeat' (first | intro z | apply And.intro)
      all_goals try omega
      all_goals try contradiction
      all_goals exact w

set_option maxRecDepth 20000 in
theorem cr_X6_moveOn {d : Nat} (hr : HR_X6_moveOn d) : Ct yX6_moveOn cX6_moveOn 6 ((some FieldType.boolean)) (2*d+6) 0 0 (sp_X6_moveOn d) := by
  refine Ct.go (M := M_X6_moveOn d) (mm_X6_moveOn hr) fun av σ Q h0 => ?_
  obtain ⟨this, i, n, rfl, hk, h⟩ := el_X6_moveOn d h0
  clear h0
  refine ⟨Nat.le_of_ble_eq_true rfl, ?_⟩
  show Go (M_X6_moveOn d) Q 0 [some (vr this), some (vi i), some (vi n), none, none, none] [] σ (0, 0)
  obtain ⟨rfl, hd, hi, τ, f, hS, hF, hlo, hfx, hV, h1, h0⟩ := h
  have hcs := hS.2.2.1.companies_s
  have hC := hS.1
  have hTG := hS.2.2.2.2.2.1
  have zr : MvZ i σ σ := ⟨Fz.rf _, fun _ _ => ⟨rfl, rfl⟩, hTG⟩
  have w := mo_39 hr hd hi hS hF hlo rfl hfx h1 h0 (fI τ 1335 61 - lox σ i).toNat (lox σ i) σ none none (by omega) (Int.le_refl _) zr hV (fun c' u' hc' y => by have := y.1; omega)
  clear h1 h0
  by_cases i0 : 0 < i
  · have el : lox σ i = aI σ 22 (i - 1) + 1 := if_pos i0
    rw [el] at w
    refine go_X6_moveOn hr (ct := fun p => p == 18 || p == 37 || p == 39) 40 ?_
    simp only [oI, oL, oR, o1, lI, lL, lR, popN, catS, gv, stL, stL2, swt, cnd, spObj, List.getElem?_cons_zero, List.getElem?_cons_succ, List.getD_cons_zero, List.getD_cons_succ, List.set_cons_zero, List.set_cons_succ, List.nil_append, List.cons_append, Option.toList, Bool.or_false, Bool.false_or, Bool.or_true, Bool.true_or, Nat.reduceBEq, Nat.reduceAdd, Nat.reduceLT, Nat.reduceLeDiff, Int.reduceAdd, Int.reduceToNat, true_and, and_true, Fin.isValue, Fin.val_zero, Fin.val_one, Fin.val_two, Fin.reduceFinMk, eq_self, Int.reduceNeg, imp_self, Nat.reduceMul, Nat.le_refl, not_true_eq_false, not_false_eq_true, List.getElem?_nil, reduceCtorEq, true_or, or_true, Classical.not_not, implies_true, or_self, wI_0, wI_1, wI_m1, b2i_w, b2i_eq0, b2i_eq1, b2i_bool, nor_self, nx_pI, kd_pI, ln_pI, fI_pI, fL_pI, fR_pI, aI_pI, aL_pI, aR_pI, nx_pL, kd_pL, ln_pL, fI_pL, fL_pL, fR_pL, aI_pL, aL_pL, aR_pL, nx_pR, kd_pR, ln_pR, fI_pR, fL_pR, fR_pR, aI_pR, aL_pR, aR_pR, nx_qI, kd_qI, ln_qI, fI_qI, fL_qI, fR_qI, aI_qI, aL_qI, aR_qI, nx_qL, kd_qL, ln_qL, fI_qL, fL_qL, fR_qL, aI_qL, aL_qL, aR_qL, nx_qR, kd_qR, ln_qR, fI_qR, fL_qR, fR_qR, aI_qR, aL_qR, aR_qR, nx_mk, kd_mk, ln_mk, fI_mk, fL_mk, fR_mk, aI_mk, aL_mk, aR_mk, false_and, and_false, if_false, if_true, and_self, Int.reduceEq, Nat.reduceEqDiff, ite_self, MLay_pI, MLay_pL, MLay_qI, MLay_qL, ev_X6_moveOn_0, ev_X6_moveOn_1, ev_X6_moveOn_4, ev_X6_moveOn_5, ev_X6_moveOn_6, ev_X6_moveOn_9, ev_X6_moveOn_10, ev_X6_moveOn_11, ev_X6_moveOn_14, ev_X6_moveOn_15, ev_X6_moveOn_18, ev_X6_moveOn_19, ev_X6_moveOn_20, ev_X6_moveOn_21, ev_X6_moveOn_24, ev_X6_moveOn_25, ev_X6_moveOn_28, ev_X6_moveOn_29, ev_X6_moveOn_30, ev_X6_moveOn_31, ev_X6_moveOn_32, ev_X6_moveOn_33, ev_X6_moveOn_34, ev_X6_moveOn_37, ev_X6_moveOn_38, xt_X6_moveOn, xf_X6_moveOn, us_Jx4a65c_size_8abf5, us_X3_companyOf, us_X5_isIn, us_X6_liftEngine, us_X6_putEngine, hC.eqs]
    try simp (disch := omega) only [wI_id, dv_nn, rm_nn]
    repeat' (first | intro z | apply And.intro)
    all_goals try omega
    all_goals try contradiction
    all_goals exact w
  · have el : lox σ i = 0 := if_neg i0
    rw [el] at w
    refine go_X6_moveOn hr (ct := fun p => p == 18 || p == 24 || p == 39) 40 ?_
    simp only [oI, oL, oR, o1, lI, lL, lR, popN, catS, gv, stL, stL2, swt, cnd, spObj, List.getElem?_cons_zero, List.getElem?_cons_succ, List.getD_cons_zero, List.getD_cons_succ, List.set_cons_zero, List.set_cons_succ, List.nil_append, List.cons_append, Option.toList, Bool.or_false, Bool.false_or, Bool.or_true, Bool.true_or, Nat.reduceBEq, Nat.reduceAdd, Nat.reduceLT, Nat.reduceLeDiff, Int.reduceAdd, Int.reduceToNat, true_and, and_true, Fin.isValue, Fin.val_zero, Fin.val_one, Fin.val_two, Fin.reduceFinMk, eq_self, Int.reduceNeg, imp_self, Nat.reduceMul, Nat.le_refl, not_true_eq_false, not_false_eq_true, List.getElem?_nil, reduceCtorEq, true_or, or_true, Classical.not_not, implies_true, or_self, wI_0, wI_1, wI_m1, b2i_w, b2i_eq0, b2i_eq1, b2i_bool, nor_self, nx_pI, kd_pI, ln_pI, fI_pI, fL_pI, fR_pI, aI_pI, aL_pI, aR_pI, nx_pL, kd_pL, ln_pL, fI_pL, fL_pL, fR_pL, aI_pL, aL_pL, aR_pL, nx_pR, kd_pR, ln_pR, fI_pR, fL_pR, fR_pR, aI_pR, aL_pR, aR_pR, nx_qI, kd_qI, ln_qI, fI_qI, fL_qI, fR_qI, aI_qI, aL_qI, aR_qI, nx_qL, kd_qL, ln_qL, fI_qL, fL_qL, fR_qL, aI_qL, aL_qL, aR_qL, nx_qR, kd_qR, ln_qR, fI_qR, fL_qR, fR_qR, aI_qR, aL_qR, aR_qR, nx_mk, kd_mk, ln_mk, fI_mk, fL_mk, fR_mk, aI_mk, aL_mk, aR_mk, false_and, and_false, if_false, if_true, and_self, Int.reduceEq, Nat.reduceEqDiff, ite_self, MLay_pI, MLay_pL, MLay_qI, MLay_qL, ev_X6_moveOn_0, ev_X6_moveOn_1, ev_X6_moveOn_4, ev_X6_moveOn_5, ev_X6_moveOn_6, ev_X6_moveOn_9, ev_X6_moveOn_10, ev_X6_moveOn_11, ev_X6_moveOn_14, ev_X6_moveOn_15, ev_X6_moveOn_18, ev_X6_moveOn_19, ev_X6_moveOn_20, ev_X6_moveOn_21, ev_X6_moveOn_24, ev_X6_moveOn_25, ev_X6_moveOn_28, ev_X6_moveOn_29, ev_X6_moveOn_30, ev_X6_moveOn_31, ev_X6_moveOn_32, ev_X6_moveOn_33, ev_X6_moveOn_34, ev_X6_moveOn_37, ev_X6_moveOn_38, xt_X6_moveOn, xf_X6_moveOn, us_Jx4a65c_size_8abf5, us_X3_companyOf, us_X5_isIn, us_X6_liftEngine, us_X6_putEngine, hC.eqs]
    try simp (disch := omega) only [wI_id, dv_nn, rm_nn]
    repeat' (first | intro z | apply And.intro)
    all_goals try omega
    all_goals try contradiction
    all_goals exact w

theorem sp_mt_no (av : List AV) (σ : Hp) (Q : Option AV → Hp → Prop) : ¬ sp_X6_moveTo 0 av σ Q := fun h => by
  obtain ⟨this, i, n, rfl, -, -, h, -⟩ := el_X6_moveTo 0 h
  omega
theorem sp_mo_no (av : List AV) (σ : Hp) (Q : Option AV → Hp → Prop) : ¬ sp_X6_moveOn 0 av σ Q := fun h => by
  obtain ⟨this, i, n, rfl, -, -, h, -⟩ := el_X6_moveOn 0 h
  omega
theorem Ct.no {y : MethodName} {cc : ByteArray} {nL : Nat} {ret : Option FieldType} {lv mc ms : Nat} {sp : Sp} (h : ∀ av σ Q, ¬ sp av σ Q) : Ct y cc nL ret lv mc ms sp := fun _ _ av σ Q hs => absurd hs (h av σ Q)
theorem mo_all : ∀ d : Nat, HR_X6_moveTo (d + 1) ∧ HR_X6_moveOn d
  | 0 => ⟨Ct.no sp_mo_no, Ct.no sp_mt_no⟩
  | d + 1 => by
    have ih := mo_all d
    have h1 : HR_X6_moveOn (d + 1) := cr_X6_moveTo ih.1
    exact ⟨cr_X6_moveOn h1, h1⟩
theorem c_X6_moveOn (d : Nat) : Ct yX6_moveOn cX6_moveOn 6 (some .boolean) (2 * d + 6) 0 0 (sp_X6_moveOn d) := (mo_all d).1
def spMv : Sp := fun av σ Q => ∃ d, d ≤ 2 ∧ sp_X6_moveOn d av σ Q
theorem row_mv : Row RX6 (.invokevirtual 104) 3 3 0 0 10 spMv := by
  intro g p l e s m args below meth cd nL lv mc ms Q cc ret pc ls av rest σ k Qf C hn hr hlv ha hb hd hsp hQf
  obtain ⟨d, hd2, hs⟩ := hsp
  exact rr_X6_832 (c_X6_moveOn d) g p l e s m args below meth cd nL lv mc ms Q cc ret pc ls av rest σ k Qf C hn hr (by omega) ha hb hd hs hQf
/-- the fewest moves, as the class finds them -/
def cFew (τ σ' : Hp) (n : Int) : Prop := (n = 0 ∧ cov τ (aI τ 89)) ∨ (¬ cov τ (aI τ 89) ∧ ((n = 1 ∧ Rc τ 1 σ' 0 (aI τ 89) 0 (fun _ => False)) ∨ (¬ Wn τ 1 (aI τ 89) 0 (fun _ => False) ∧ ((n = 2 ∧ Rc τ 2 σ' 0 (aI τ 89) 0 (fun _ => False)) ∨ (n = -1 ∧ ¬ Wn τ 2 (aI τ 89) 0 (fun _ => False))))))
abbrev fewF : List Nat := [706, 707, 708]
abbrev fewA : Int → Prop := fun r => r = 20 ∨ r = 21 ∨ r = 22 ∨ r = 23

def sp_X6_fewest : Sp := fun av σ Q => oR av fun this av => av = [] ∧ kd σ this = 7 ∧ (this = 19 ∧ CLay σ ∧ TGr σ ∧ ∃ τ, BX σ τ ∧ BG σ τ ∧ MI τ ∧ HIs τ ∧ (∀ σ' n, Fz fewF fewA noR σ σ' → TGr σ' → cFew τ σ' n → Q (some (vi n)) σ'))
theorem us_X6_fewest (this : Int) (σ : Hp) (Q : Option AV → Hp → Prop) : sp_X6_fewest [vr this] σ Q = (kd σ this = 7 ∧ (this = 19 ∧ CLay σ ∧ TGr σ ∧ ∃ τ, BX σ τ ∧ BG σ τ ∧ MI τ ∧ HIs τ ∧ (∀ σ' n, Fz fewF fewA noR σ σ' → TGr σ' → cFew τ σ' n → Q (some (vi n)) σ'))) := propext ⟨fun h => h.2, fun h => ⟨rfl, h⟩⟩
theorem el_X6_fewest {av : List AV} {σ : Hp} {Q : Option AV → Hp → Prop} (h : sp_X6_fewest av σ Q) : ∃ (this : Int), av = [vr this] ∧ (kd σ this = 7 ∧ (this = 19 ∧ CLay σ ∧ TGr σ ∧ ∃ τ, BX σ τ ∧ BG σ τ ∧ MI τ ∧ HIs τ ∧ (∀ σ' n, Fz fewF fewA noR σ σ' → TGr σ' → cFew τ σ' n → Q (some (vi n)) σ'))) := by
  obtain ⟨this, a0, rfl, h0⟩ := oR_s h
  obtain ⟨rfl, hz⟩ := h0
  exact ⟨this, rfl, hz⟩
theorem rc_X6_fewest : ∀ (av : List AV) (σ : Hp) (Q : Option AV → Hp → Prop), sp_X6_fewest av σ Q → ∃ r tl, av = vr r :: tl ∧ kd σ r = 6 + 1 := fun av σ Q h => by
  obtain ⟨this, rfl, hz, -⟩ := el_X6_fewest h
  exact ⟨this, _, rfl, hz⟩

def tb_X6_fewest : Tab := [(0, .aload_n 0, 1, (0, 0, 0, 0)), (1, .invokevirtual 97, 3, (0, 0, 0, 0)), (4, .aload_n 0, 1, (0, 0, 0, 0)), (5, .invokevirtual 100, 3, (0, 0, 0, 0)), (8, .ifCond .eq 5, 3, (0, 0, 0, 0)), (11, .iconst 0, 1, (0, 0, 0, 0)), (12, .ireturn, 1, (0, 0, 0, 0)), (13, .iconst 1, 1, (0, 0, 0, 0)), (14, .istore_n 1, 1, (0, 0, 0, 0)), (15, .iload_n 1, 1, (0, 0, 0, 0)), (16, .aload_n 0, 1, (0, 0, 0, 0)), (17, .getfield 18, 3, (7, 702, 2, 0)), (20, .arraylength, 1, (0, 0, 0, 0)), (21, .if_icmp .gt 20, 3, (0, 0, 0, 0)), (24, .aload_n 0, 1, (0, 0, 0, 0)), (25, .iconst 0, 1, (0, 0, 0, 0)), (26, .iload_n 1, 1, (0, 0, 0, 0)), (27, .invokevirtual 104, 3, (0, 0, 0, 0)), (30, .ifCond .eq 5, 3, (0, 0, 0, 0)), (33, .iload_n 1, 1, (0, 0, 0, 0)), (34, .ireturn, 1, (0, 0, 0, 0)), (35, .iinc 1 1, 3, (0, 0, 0, 0)), (38, .goto (-23), 3, (0, 0, 0, 0)), (41, .iconst (-1), 1, (0, 0, 0, 0)), (42, .ireturn, 1, (0, 0, 0, 0))]
set_option maxRecDepth 100000 in
theorem tk_X6_fewest : TOK RX6 false cX6_fewest tb_X6_fewest := chkT_ok ft_X6 (by decide +kernel)
theorem rw_X6_776 : Row RX6 (.invokevirtual 97) 3 1 0 0 4 sp_X6_survey := row_V (n := 0) (ci := 6) c_X6_survey ⟨TBL_in 1330 (by decide +kernel) rfl, TBL_in 1302 (by decide +kernel) rfl, TBL_in 116 (by decide +kernel) rfl, by decide +kernel, by decide⟩ (by decide) rfl (TBL_in 1300 (by decide +kernel) rfl) (TBL_in 1301 (by decide +kernel) rfl) rc_X6_survey
def mt_X6_fewest : List (Nat × Mt) := [(776, 1, 0, 0, 4, sp_X6_survey), (800, 1, 0, 0, 1, sp_X6_coversAll), (832, 3, 0, 0, 10, spMv)]
theorem em_X6_fewest : mt_X6_fewest.lookup 776 = some (1, 0, 0, 4, sp_X6_survey) ∧ mt_X6_fewest.lookup 800 = some (1, 0, 0, 1, sp_X6_coversAll) ∧ mt_X6_fewest.lookup 832 = some (3, 0, 0, 10, spMv) := ⟨rfl, rfl, rfl⟩
theorem mk_X6_fewest : MOK RX6 mt_X6_fewest := by
  intro q hq
  simp only [mt_X6_fewest, List.mem_cons, List.not_mem_nil, or_false] at hq
  rcases hq with rfl | rfl | rfl
  · exact rw_X6_776
  · exact rw_X6_800
  · exact row_mv
noncomputable def xe_X6_fewest (ct : Nat → Bool) (K : Kt) (R : Option AV → Hp → Prop) (n : Nat) : Kt := exS 2 11 0 0 1 tb_X6_fewest mt_X6_fewest ct K R n
noncomputable def xk_X6_fewest (ct : Nat → Bool) (K : Kt) (R : Option AV → Hp → Prop) (n : Nat) : Kt := exkS 2 11 0 0 1 tb_X6_fewest mt_X6_fewest ct K R n
theorem xt_X6_fewest {ct : Nat → Bool} {K : Kt} {R : Option AV → Hp → Prop} {n pc : Nat} {ls : List (Option AV)} {st : List AV} {σ : Hp} {k : Nat × Nat} (h : ct pc = true) : xk_X6_fewest ct K R n pc ls st σ k = K pc ls st σ k := by unfold xk_X6_fewest exkS; rw [h]
theorem xf_X6_fewest {ct : Nat → Bool} {K : Kt} {R : Option AV → Hp → Prop} {n pc : Nat} {ls : List (Option AV)} {st : List AV} {σ : Hp} {k : Nat × Nat} (h : ct pc = false) : xk_X6_fewest ct K R n pc ls st σ k = xe_X6_fewest ct K R n pc ls st σ k := by unfold xk_X6_fewest exkS xe_X6_fewest; rw [h]
theorem ev_X6_fewest_0 {ct : Nat → Bool} {K : Kt} {R : Option AV → Hp → Prop} {n : Nat} {ls : List (Option AV)} {st : List AV} {σ : Hp} {k : Nat × Nat} : xe_X6_fewest ct K R (n + 1) 0 ls st σ k = (lR ls 0 fun x => xk_X6_fewest ct K R n 1 ls (vr x :: st) σ k) := exS_step.trans rfl
theorem ev_X6_fewest_1 {ct : Nat → Bool} {K : Kt} {R : Option AV → Hp → Prop} {n : Nat} {ls : List (Option AV)} {st : List AV} {σ : Hp} {k : Nat × Nat} : xe_X6_fewest ct K R (n + 1) 1 ls st σ k = (popN 1 st [] fun av rest => (catS rest ≤ 8 ∧ 4 < 11 ∧ k.1 + 0 ≤ 0 ∧ k.2 + 0 ≤ 0) ∧ (sp_X6_survey) av σ fun v σ' => xk_X6_fewest ct K R n 4 ls (v.toList ++ rest) σ' (k.1 + 0, k.2 + 0)) := exS_step.trans rfl
theorem ev_X6_fewest_4 {ct : Nat → Bool} {K : Kt} {R : Option AV → Hp → Prop} {n : Nat} {ls : List (Option AV)} {st : List AV} {σ : Hp} {k : Nat × Nat} : xe_X6_fewest ct K R (n + 1) 4 ls st σ k = (lR ls 0 fun x => xk_X6_fewest ct K R n 5 ls (vr x :: st) σ k) := exS_step.trans rfl
theorem ev_X6_fewest_5 {ct : Nat → Bool} {K : Kt} {R : Option AV → Hp → Prop} {n : Nat} {ls : List (Option AV)} {st : List AV} {σ : Hp} {k : Nat × Nat} : xe_X6_fewest ct K R (n + 1) 5 ls st σ k = (popN 1 st [] fun av rest => (catS rest ≤ 8 ∧ 1 < 11 ∧ k.1 + 0 ≤ 0 ∧ k.2 + 0 ≤ 0) ∧ (sp_X6_coversAll) av σ fun v σ' => xk_X6_fewest ct K R n 8 ls (v.toList ++ rest) σ' (k.1 + 0, k.2 + 0)) := exS_step.trans rfl
theorem ev_X6_fewest_8 {ct : Nat → Bool} {K : Kt} {R : Option AV → Hp → Prop} {n : Nat} {ls : List (Option AV)} {st : List AV} {σ : Hp} {k : Nat × Nat} : xe_X6_fewest ct K R (n + 1) 8 ls st σ k = (oI st fun x st => (wI x = wI 0 → xk_X6_fewest ct K R n 13 ls st σ k) ∧ (¬ (wI x = wI 0) → xk_X6_fewest ct K R n 11 ls st σ k)) := exS_step.trans rfl
theorem ev_X6_fewest_11 {ct : Nat → Bool} {K : Kt} {R : Option AV → Hp → Prop} {n : Nat} {ls : List (Option AV)} {st : List AV} {σ : Hp} {k : Nat × Nat} : xe_X6_fewest ct K R (n + 1) 11 ls st σ k = (xk_X6_fewest ct K R n 12 ls (vi (0) :: st) σ k) := exS_step.trans rfl
theorem ev_X6_fewest_12 {ct : Nat → Bool} {K : Kt} {R : Option AV → Hp → Prop} {n : Nat} {ls : List (Option AV)} {st : List AV} {σ : Hp} {k : Nat × Nat} : xe_X6_fewest ct K R (n + 1) 12 ls st σ k = (oI st fun x st => st = [] ∧ True ∧ R (some (vi x)) σ) := exS_step.trans rfl
theorem ev_X6_fewest_13 {ct : Nat → Bool} {K : Kt} {R : Option AV → Hp → Prop} {n : Nat} {ls : List (Option AV)} {st : List AV} {σ : Hp} {k : Nat × Nat} : xe_X6_fewest ct K R (n + 1) 13 ls st σ k = (xk_X6_fewest ct K R n 14 ls (vi (1) :: st) σ k) := exS_step.trans rfl
theorem ev_X6_fewest_14 {ct : Nat → Bool} {K : Kt} {R : Option AV → Hp → Prop} {n : Nat} {ls : List (Option AV)} {st : List AV} {σ : Hp} {k : Nat × Nat} : xe_X6_fewest ct K R (n + 1) 14 ls st σ k = (oI st fun x st => 1 < 2 ∧ xk_X6_fewest ct K R n 15 (stL ls 1 (vi x)) st σ k) := exS_step.trans rfl
theorem ev_X6_fewest_15 {ct : Nat → Bool} {K : Kt} {R : Option AV → Hp → Prop} {n : Nat} {ls : List (Option AV)} {st : List AV} {σ : Hp} {k : Nat × Nat} : xe_X6_fewest ct K R (n + 1) 15 ls st σ k = (lI ls 1 fun x => xk_X6_fewest ct K R n 16 ls (vi x :: st) σ k) := exS_step.trans rfl
theorem ev_X6_fewest_16 {ct : Nat → Bool} {K : Kt} {R : Option AV → Hp → Prop} {n : Nat} {ls : List (Option AV)} {st : List AV} {σ : Hp} {k : Nat × Nat} : xe_X6_fewest ct K R (n + 1) 16 ls st σ k = (lR ls 0 fun x => xk_X6_fewest ct K R n 17 ls (vr x :: st) σ k) := exS_step.trans rfl
theorem ev_X6_fewest_17 {ct : Nat → Bool} {K : Kt} {R : Option AV → Hp → Prop} {n : Nat} {ls : List (Option AV)} {st : List AV} {σ : Hp} {k : Nat × Nat} : xe_X6_fewest ct K R (n + 1) 17 ls st σ k = (oR st fun x st => kd σ x = 7 ∧ xk_X6_fewest ct K R n 20 ls (vr (fR σ 702 x) :: st) σ k) := exS_step.trans rfl
theorem ev_X6_fewest_20 {ct : Nat → Bool} {K : Kt} {R : Option AV → Hp → Prop} {n : Nat} {ls : List (Option AV)} {st : List AV} {σ : Hp} {k : Nat × Nat} : xe_X6_fewest ct K R (n + 1) 20 ls st σ k = (oR st fun x st => (101 ≤ kd σ x ∨ kd σ x = 21) ∧ xk_X6_fewest ct K R n 21 ls (vi (ln σ x) :: st) σ k) := exS_step.trans rfl
theorem ev_X6_fewest_21 {ct : Nat → Bool} {K : Kt} {R : Option AV → Hp → Prop} {n : Nat} {ls : List (Option AV)} {st : List AV} {σ : Hp} {k : Nat × Nat} : xe_X6_fewest ct K R (n + 1) 21 ls st σ k = (oI st fun y st => oI st fun x st => (wI y < wI x → xk_X6_fewest ct K R n 41 ls st σ k) ∧ (¬ (wI y < wI x) → xk_X6_fewest ct K R n 24 ls st σ k)) := exS_step.trans rfl
theorem ev_X6_fewest_24 {ct : Nat → Bool} {K : Kt} {R : Option AV → Hp → Prop} {n : Nat} {ls : List (Option AV)} {st : List AV} {σ : Hp} {k : Nat × Nat} : xe_X6_fewest ct K R (n + 1) 24 ls st σ k = (lR ls 0 fun x => xk_X6_fewest ct K R n 25 ls (vr x :: st) σ k) := exS_step.trans rfl
theorem ev_X6_fewest_25 {ct : Nat → Bool} {K : Kt} {R : Option AV → Hp → Prop} {n : Nat} {ls : List (Option AV)} {st : List AV} {σ : Hp} {k : Nat × Nat} : xe_X6_fewest ct K R (n + 1) 25 ls st σ k = (xk_X6_fewest ct K R n 26 ls (vi (0) :: st) σ k) := exS_step.trans rfl
theorem ev_X6_fewest_26 {ct : Nat → Bool} {K : Kt} {R : Option AV → Hp → Prop} {n : Nat} {ls : List (Option AV)} {st : List AV} {σ : Hp} {k : Nat × Nat} : xe_X6_fewest ct K R (n + 1) 26 ls st σ k = (lI ls 1 fun x => xk_X6_fewest ct K R n 27 ls (vi x :: st) σ k) := exS_step.trans rfl
theorem ev_X6_fewest_27 {ct : Nat → Bool} {K : Kt} {R : Option AV → Hp → Prop} {n : Nat} {ls : List (Option AV)} {st : List AV} {σ : Hp} {k : Nat × Nat} : xe_X6_fewest ct K R (n + 1) 27 ls st σ k = (popN 3 st [] fun av rest => (catS rest ≤ 8 ∧ 10 < 11 ∧ k.1 + 0 ≤ 0 ∧ k.2 + 0 ≤ 0) ∧ (spMv) av σ fun v σ' => xk_X6_fewest ct K R n 30 ls (v.toList ++ rest) σ' (k.1 + 0, k.2 + 0)) := exS_step.trans rfl
theorem ev_X6_fewest_30 {ct : Nat → Bool} {K : Kt} {R : Option AV → Hp → Prop} {n : Nat} {ls : List (Option AV)} {st : List AV} {σ : Hp} {k : Nat × Nat} : xe_X6_fewest ct K R (n + 1) 30 ls st σ k = (oI st fun x st => (wI x = wI 0 → xk_X6_fewest ct K R n 35 ls st σ k) ∧ (¬ (wI x = wI 0) → xk_X6_fewest ct K R n 33 ls st σ k)) := exS_step.trans rfl
theorem ev_X6_fewest_33 {ct : Nat → Bool} {K : Kt} {R : Option AV → Hp → Prop} {n : Nat} {ls : List (Option AV)} {st : List AV} {σ : Hp} {k : Nat × Nat} : xe_X6_fewest ct K R (n + 1) 33 ls st σ k = (lI ls 1 fun x => xk_X6_fewest ct K R n 34 ls (vi x :: st) σ k) := exS_step.trans rfl
theorem ev_X6_fewest_34 {ct : Nat → Bool} {K : Kt} {R : Option AV → Hp → Prop} {n : Nat} {ls : List (Option AV)} {st : List AV} {σ : Hp} {k : Nat × Nat} : xe_X6_fewest ct K R (n + 1) 34 ls st σ k = (oI st fun x st => st = [] ∧ True ∧ R (some (vi x)) σ) := exS_step.trans rfl
theorem ev_X6_fewest_35 {ct : Nat → Bool} {K : Kt} {R : Option AV → Hp → Prop} {n : Nat} {ls : List (Option AV)} {st : List AV} {σ : Hp} {k : Nat × Nat} : xe_X6_fewest ct K R (n + 1) 35 ls st σ k = (lI ls 1 fun x => 1 < 2 ∧ xk_X6_fewest ct K R n 38 (stL ls 1 (vi (x + (1)))) st σ k) := exS_step.trans rfl
theorem ev_X6_fewest_38 {ct : Nat → Bool} {K : Kt} {R : Option AV → Hp → Prop} {n : Nat} {ls : List (Option AV)} {st : List AV} {σ : Hp} {k : Nat × Nat} : xe_X6_fewest ct K R (n + 1) 38 ls st σ k = (xk_X6_fewest ct K R n 15 ls st σ k) := exS_step.trans rfl
theorem ev_X6_fewest_41 {ct : Nat → Bool} {K : Kt} {R : Option AV → Hp → Prop} {n : Nat} {ls : List (Option AV)} {st : List AV} {σ : Hp} {k : Nat × Nat} : xe_X6_fewest ct K R (n + 1) 41 ls st σ k = (xk_X6_fewest ct K R n 42 ls (vi (-1) :: st) σ k) := exS_step.trans rfl
theorem ev_X6_fewest_42 {ct : Nat → Bool} {K : Kt} {R : Option AV → Hp → Prop} {n : Nat} {ls : List (Option AV)} {st : List AV} {σ : Hp} {k : Nat × Nat} : xe_X6_fewest ct K R (n + 1) 42 ls st σ k = (oI st fun x st => st = [] ∧ True ∧ R (some (vi x)) σ) := exS_step.trans rfl
def M_X6_fewest : Md := (yX6_fewest, cX6_fewest, 2, (some FieldType.int), 11, 0, 0, 1, false, tb_X6_fewest, mt_X6_fewest)
theorem mm_X6_fewest : MMOK M_X6_fewest := ⟨by decide +kernel, tk_X6_fewest, mk_X6_fewest, rfl, fun h => by cases h⟩
theorem go_X6_fewest {Q : Option AV → Hp → Prop} {ct : Nat → Bool} {pc : Nat} {ls : List (Option AV)} {st : List AV} {σ : Hp} {k : Nat × Nat} (n : Nat) (h : xe_X6_fewest ct (Go M_X6_fewest Q) Q n pc ls st σ k) : Go M_X6_fewest Q pc ls st σ k := Go.exS mm_X6_fewest h

set_option maxRecDepth 20000 in
theorem few_4 {Q : Option AV → Hp → Prop} {σ τ ρ : Hp} (hI : MI τ) (hH : HIs τ) (hG : BG ρ τ) (hC : CLay ρ) (hT : TGr ρ) (hz : Fz surF surA noR σ ρ) (hN : NR ρ τ) (hV : CVS (fI τ 1335 61).toNat (mEng τ) (aI τ 89) ρ) (hK : TKn ρ τ) (h : ∀ σ' n, Fz fewF fewA noR σ σ' → TGr σ' → cFew τ σ' n → Q (some (vi n)) σ') {a1 : Option AV} : Go M_X6_fewest Q 4 [some (vr 19), a1] [] ρ (0, 0) := by
  have hk : kd ρ 19 = 7 := by simp only [hC.eqs]
  have hS : CvS τ ρ := ⟨hC, hG, hI, hN, hK, hT, hH⟩
  have hF : FRn τ (aI τ 89) := fun c a b e => ⟨e.2, (hH c a b).1⟩
  have hcs := hI.companies_s
  have hbs := hI.boxes_s
  have hnd : 0 ≤ fI ρ 706 19 ∧ fI ρ 706 19 ≤ 32 := by rw [hN.1]; omega
  have hA := cAll_is hI hN hV hF
  have hz0 : Fz fewF fewA noR σ ρ := hz.up (by decide) (fun r q => by rcases q with q | q; exact Or.inl q; exact Or.inr (Or.inl q)) (fun _ q => q)
  have hzM : ∀ ρ', MvZ 0 ρ ρ' → Fz fewF fewA noR σ ρ' := fun ρ' q => hz0.tr (q.1.up (by decide) (fun r q => by
    rcases q with q | q | q
    · exact Or.inr (Or.inl q)
    · exact Or.inr (Or.inr (Or.inl q))
    · exact Or.inr (Or.inr (Or.inr q))) (fun _ q => q))
  have hl0 : ∀ ρ' : Hp, lox ρ' 0 = 0 := fun ρ' => if_neg (by omega)
  have hT0 : ∀ ρ' : Hp, Tx ρ' 0 = fun _ => False := fun ρ' => by
    unfold Tx
    funext v
    apply propext
    exact ⟨fun z => by omega, fun z => z.elim⟩
  have mv : ∀ (d : Nat) (ρ' : Hp), 0 < d → d ≤ 2 → MvZ 0 ρ ρ' → CVS (fI τ 1335 61).toNat (mEng τ) (aI τ 89) ρ' → ∀ Q', (∀ σ', MvZ 0 ρ σ' → CVS (fI τ 1335 61).toNat (mEng τ) (aI τ 89) σ' → Wn τ d (aI τ 89) 0 (fun _ => False) → Rc τ d σ' 0 (aI τ 89) 0 (fun _ => False) → Q' (some (vi 1)) σ') → (∀ σ', MvZ 0 ρ σ' → CVS (fI τ 1335 61).toNat (mEng τ) (aI τ 89) σ' → ¬ Wn τ d (aI τ 89) 0 (fun _ => False) → Q' (some (vi 0)) σ') → spMv [vr 19, vi 0, vi d] ρ' Q' := fun d ρ' d0 d2 q1 q2 Q' g1 g0 => by
    have hS2 := hS.mv q1
    refine ⟨d, d2, ?_⟩
    rw [us_X6_moveOn]
    refine ⟨by simp only [hS2.1.eqs], rfl, d0, ⟨by omega, by omega, by omega⟩, τ, aI τ 89, hS2, hF, by rw [hl0]; omega, fun x _ => rfl, q2, ?_, ?_⟩
    · rw [hl0, hT0]
      exact fun σ' a b c e => g1 σ' (q1.tr a) b c e
    · rw [hl0, hT0]
      exact fun σ' a b c => g0 σ' (q1.tr a) b c
  have w41 : ∀ ρ', MvZ 0 ρ ρ' → ¬ cov τ (aI τ 89) → ¬ Wn τ 1 (aI τ 89) 0 (fun _ => False) → ¬ Wn τ 2 (aI τ 89) 0 (fun _ => False) → Go M_X6_fewest Q 15 [some (vr 19), some (vi 3)] [] ρ' (0, 0) := fun ρ' q1 n0 n1 n2 => by
    have hC2 := (hS.mv q1).1
    have h := h ρ' (-1) (hzM ρ' q1) q1.2.2 (Or.inr ⟨n0, Or.inr ⟨n1, Or.inr ⟨rfl, n2⟩⟩⟩)
    clear mv hzM hS
    refine go_X6_fewest (ct := fun p => p == 24) 40 ?_
    simp only [oI, oL, oR, o1, lI, lL, lR, popN, catS, gv, stL, stL2, swt, cnd, spObj, List.getElem?_cons_zero, List.getElem?_cons_succ, List.getD_cons_zero, List.getD_cons_succ, List.set_cons_zero, List.set_cons_succ, List.nil_append, List.cons_append, Option.toList, Bool.or_false, Bool.false_or, Bool.or_true, Bool.true_or, Nat.reduceBEq, Nat.reduceAdd, Nat.reduceLT, Nat.reduceLeDiff, Int.reduceAdd, Int.reduceToNat, true_and, and_true, Fin.isValue, Fin.val_zero, Fin.val_one, Fin.val_two, Fin.reduceFinMk, eq_self, Int.reduceNeg, imp_self, Nat.reduceMul, Nat.le_refl, not_true_eq_false, not_false_eq_true, List.getElem?_nil, reduceCtorEq, true_or, or_true, Classical.not_not, implies_true, or_self, wI_0, wI_1, wI_m1, b2i_w, b2i_eq0, b2i_eq1, b2i_bool, nor_self, nx_pI, kd_pI, ln_pI, fI_pI, fL_pI, fR_pI, aI_pI, aL_pI, aR_pI, nx_pL, kd_pL, ln_pL, fI_pL, fL_pL, fR_pL, aI_pL, aL_pL, aR_pL, nx_pR, kd_pR, ln_pR, fI_pR, fL_pR, fR_pR, aI_pR, aL_pR, aR_pR, nx_qI, kd_qI, ln_qI, fI_qI, fL_qI, fR_qI, aI_qI, aL_qI, aR_qI, nx_qL, kd_qL, ln_qL, fI_qL, fL_qL, fR_qL, aI_qL, aL_qL, aR_qL, nx_qR, kd_qR, ln_qR, fI_qR, fL_qR, fR_qR, aI_qR, aL_qR, aR_qR, nx_mk, kd_mk, ln_mk, fI_mk, fL_mk, fR_mk, aI_mk, aL_mk, aR_mk, false_and, and_false, if_false, if_true, and_self, Int.reduceEq, Nat.reduceEqDiff, ite_self, MLay_pI, MLay_pL, MLay_qI, MLay_qL, ev_X6_fewest_15, ev_X6_fewest_16, ev_X6_fewest_17, ev_X6_fewest_20, ev_X6_fewest_21, ev_X6_fewest_41, ev_X6_fewest_42, xt_X6_fewest, xf_X6_fewest, us_X6_survey, us_X6_coversAll, hC2.eqs]
    try simp (disch := omega) only [wI_id, dv_nn, rm_nn]
    repeat' (first | intro z | apply And.intro)
    all_goals try omega
    all_goals try contradiction
    all_goals exact h
  have w2 : ∀ ρ', MvZ 0 ρ ρ' → CVS (fI τ 1335 61).toNat (mEng τ) (aI τ 89) ρ' → ¬ cov τ (aI τ 89) → ¬ Wn τ 1 (aI τ 89) 0 (fun _ => False) → Go M_X6_fewest Q 15 [some (vr 19), some (vi 2)] [] ρ' (0, 0) := fun ρ' q1 q2 n0 n1 => by
    have hC2 := (hS.mv q1).1
    have m2 := mv 2 ρ' (by omega) (by omega) q1 q2
    refine go_X6_fewest (ct := fun p => p == 41 || p == 30) 40 ?_
    simp only [oI, oL, oR, o1, lI, lL, lR, popN, catS, gv, stL, stL2, swt, cnd, spObj, List.getElem?_cons_zero, List.getElem?_cons_succ, List.getD_cons_zero, List.getD_cons_succ, List.set_cons_zero, List.set_cons_succ, List.nil_append, List.cons_append, Option.toList, Bool.or_false, Bool.false_or, Bool.or_true, Bool.true_or, Nat.reduceBEq, Nat.reduceAdd, Nat.reduceLT, Nat.reduceLeDiff, Int.reduceAdd, Int.reduceToNat, true_and, and_true, Fin.isValue, Fin.val_zero, Fin.val_one, Fin.val_two, Fin.reduceFinMk, eq_self, Int.reduceNeg, imp_self, Nat.reduceMul, Nat.le_refl, not_true_eq_false, not_false_eq_true, List.getElem?_nil, reduceCtorEq, true_or, or_true, Classical.not_not, implies_true, or_self, wI_0, wI_1, wI_m1, b2i_w, b2i_eq0, b2i_eq1, b2i_bool, nor_self, nx_pI, kd_pI, ln_pI, fI_pI, fL_pI, fR_pI, aI_pI, aL_pI, aR_pI, nx_pL, kd_pL, ln_pL, fI_pL, fL_pL, fR_pL, aI_pL, aL_pL, aR_pL, nx_pR, kd_pR, ln_pR, fI_pR, fL_pR, fR_pR, aI_pR, aL_pR, aR_pR, nx_qI, kd_qI, ln_qI, fI_qI, fL_qI, fR_qI, aI_qI, aL_qI, aR_qI, nx_qL, kd_qL, ln_qL, fI_qL, fL_qL, fR_qL, aI_qL, aL_qL, aR_qL, nx_qR, kd_qR, ln_qR, fI_qR, fL_qR, fR_qR, aI_qR, aL_qR, aR_qR, nx_mk, kd_mk, ln_mk, fI_mk, fL_mk, fR_mk, aI_mk, aL_mk, aR_mk, false_and, and_false, if_false, if_true, and_self, Int.reduceEq, Nat.reduceEqDiff, ite_self, MLay_pI, MLay_pL, MLay_qI, MLay_qL, ev_X6_fewest_15, ev_X6_fewest_16, ev_X6_fewest_17, ev_X6_fewest_20, ev_X6_fewest_21, ev_X6_fewest_24, ev_X6_fewest_25, ev_X6_fewest_26, ev_X6_fewest_27, xt_X6_fewest, xf_X6_fewest, us_X6_survey, us_X6_coversAll, hC2.eqs]
    try simp (disch := omega) only [wI_id, dv_nn, rm_nn]
    refine ⟨fun z => absurd z (by omega), fun _ => m2 _ (fun σ' a b c e => ?_) (fun σ' a b c => ?_)⟩
    · have h := h σ' 2 (hzM σ' a) a.2.2 (Or.inr ⟨n0, Or.inr ⟨n1, Or.inl ⟨rfl, e⟩⟩⟩)
      show Go M_X6_fewest Q 30 [some (vr 19), some (vi 2)] [vi 1] σ' (0, 0)
      clear mv hzM hS m2
      refine go_X6_fewest (ct := fun p => p == 35) 20 ?_
      simp only [oI, oL, oR, o1, lI, lL, lR, popN, catS, gv, stL, stL2, swt, cnd, spObj, List.getElem?_cons_zero, List.getElem?_cons_succ, List.getD_cons_zero, List.getD_cons_succ, List.set_cons_zero, List.set_cons_succ, List.nil_append, List.cons_append, Option.toList, Bool.or_false, Bool.false_or, Bool.or_true, Bool.true_or, Nat.reduceBEq, Nat.reduceAdd, Nat.reduceLT, Nat.reduceLeDiff, Int.reduceAdd, Int.reduceToNat, true_and, and_true, Fin.isValue, Fin.val_zero, Fin.val_one, Fin.val_two, Fin.reduceFinMk, eq_self, Int.reduceNeg, imp_self, Nat.reduceMul, Nat.le_refl, not_true_eq_false, not_false_eq_true, List.getElem?_nil, reduceCtorEq, true_or, or_true, Classical.not_not, implies_true, or_self, wI_0, wI_1, wI_m1, b2i_w, b2i_eq0, b2i_eq1, b2i_bool, nor_self, nx_pI, kd_pI, ln_pI, fI_pI, fL_pI, fR_pI, aI_pI, aL_pI, aR_pI, nx_pL, kd_pL, ln_pL, fI_pL, fL_pL, fR_pL, aI_pL, aL_pL, aR_pL, nx_pR, kd_pR, ln_pR, fI_pR, fL_pR, fR_pR, aI_pR, aL_pR, aR_pR, nx_qI, kd_qI, ln_qI, fI_qI, fL_qI, fR_qI, aI_qI, aL_qI, aR_qI, nx_qL, kd_qL, ln_qL, fI_qL, fL_qL, fR_qL, aI_qL, aL_qL, aR_qL, nx_qR, kd_qR, ln_qR, fI_qR, fL_qR, fR_qR, aI_qR, aL_qR, aR_qR, nx_mk, kd_mk, ln_mk, fI_mk, fL_mk, fR_mk, aI_mk, aL_mk, aR_mk, false_and, and_false, if_false, if_true, and_self, Int.reduceEq, Nat.reduceEqDiff, ite_self, MLay_pI, MLay_pL, MLay_qI, MLay_qL, ev_X6_fewest_30, ev_X6_fewest_33, ev_X6_fewest_34, xt_X6_fewest, xf_X6_fewest, us_X6_survey, us_X6_coversAll]
      repeat' (first | intro z | apply And.intro)
      all_goals try omega
      all_goals try contradiction
      all_goals exact h
    · have w := w41 σ' a n0 n1 c
      show Go M_X6_fewest Q 30 [some (vr 19), some (vi 2)] [vi 0] σ' (0, 0)
      clear mv hzM hS m2
      refine go_X6_fewest (ct := fun p => p == 33 || p == 15) 20 ?_
      simp only [oI, oL, oR, o1, lI, lL, lR, popN, catS, gv, stL, stL2, swt, cnd, spObj, List.getElem?_cons_zero, List.getElem?_cons_succ, List.getD_cons_zero, List.getD_cons_succ, List.set_cons_zero, List.set_cons_succ, List.nil_append, List.cons_append, Option.toList, Bool.or_false, Bool.false_or, Bool.or_true, Bool.true_or, Nat.reduceBEq, Nat.reduceAdd, Nat.reduceLT, Nat.reduceLeDiff, Int.reduceAdd, Int.reduceToNat, true_and, and_true, Fin.isValue, Fin.val_zero, Fin.val_one, Fin.val_two, Fin.reduceFinMk, eq_self, Int.reduceNeg, imp_self, Nat.reduceMul, Nat.le_refl, not_true_eq_false, not_false_eq_true, List.getElem?_nil, reduceCtorEq, true_or, or_true, Classical.not_not, implies_true, or_self, wI_0, wI_1, wI_m1, b2i_w, b2i_eq0, b2i_eq1, b2i_bool, nor_self, nx_pI, kd_pI, ln_pI, fI_pI, fL_pI, fR_pI, aI_pI, aL_pI, aR_pI, nx_pL, kd_pL, ln_pL, fI_pL, fL_pL, fR_pL, aI_pL, aL_pL, aR_pL, nx_pR, kd_pR, ln_pR, fI_pR, fL_pR, fR_pR, aI_pR, aL_pR, aR_pR, nx_qI, kd_qI, ln_qI, fI_qI, fL_qI, fR_qI, aI_qI, aL_qI, aR_qI, nx_qL, kd_qL, ln_qL, fI_qL, fL_qL, fR_qL, aI_qL, aL_qL, aR_qL, nx_qR, kd_qR, ln_qR, fI_qR, fL_qR, fR_qR, aI_qR, aL_qR, aR_qR, nx_mk, kd_mk, ln_mk, fI_mk, fL_mk, fR_mk, aI_mk, aL_mk, aR_mk, false_and, and_false, if_false, if_true, and_self, Int.reduceEq, Nat.reduceEqDiff, ite_self, MLay_pI, MLay_pL, MLay_qI, MLay_qL, ev_X6_fewest_30, ev_X6_fewest_33, ev_X6_fewest_34, ev_X6_fewest_35, ev_X6_fewest_38, xt_X6_fewest, xf_X6_fewest, us_X6_survey, us_X6_coversAll]
      repeat' (first | intro z | apply And.intro)
      all_goals try omega
      all_goals try contradiction
      all_goals exact w
  have w1 : ¬ cov τ (aI τ 89) → Go M_X6_fewest Q 15 [some (vr 19), some (vi 1)] [] ρ (0, 0) := fun n0 => by
    have zr : MvZ 0 ρ ρ := ⟨Fz.rf _, fun _ _ => ⟨rfl, rfl⟩, hT⟩
    have m1 := mv 1 ρ (by omega) (by omega) zr hV
    refine go_X6_fewest (ct := fun p => p == 41 || p == 30) 40 ?_
    simp only [oI, oL, oR, o1, lI, lL, lR, popN, catS, gv, stL, stL2, swt, cnd, spObj, List.getElem?_cons_zero, List.getElem?_cons_succ, List.getD_cons_zero, List.getD_cons_succ, List.set_cons_zero, List.set_cons_succ, List.nil_append, List.cons_append, Option.toList, Bool.or_false, Bool.false_or, Bool.or_true, Bool.true_or, Nat.reduceBEq, Nat.reduceAdd, Nat.reduceLT, Nat.reduceLeDiff, Int.reduceAdd, Int.reduceToNat, true_and, and_true, Fin.isValue, Fin.val_zero, Fin.val_one, Fin.val_two, Fin.reduceFinMk, eq_self, Int.reduceNeg, imp_self, Nat.reduceMul, Nat.le_refl, not_true_eq_false, not_false_eq_true, List.getElem?_nil, reduceCtorEq, true_or, or_true, Classical.not_not, implies_true, or_self, wI_0, wI_1, wI_m1, b2i_w, b2i_eq0, b2i_eq1, b2i_bool, nor_self, nx_pI, kd_pI, ln_pI, fI_pI, fL_pI, fR_pI, aI_pI, aL_pI, aR_pI, nx_pL, kd_pL, ln_pL, fI_pL, fL_pL, fR_pL, aI_pL, aL_pL, aR_pL, nx_pR, kd_pR, ln_pR, fI_pR, fL_pR, fR_pR, aI_pR, aL_pR, aR_pR, nx_qI, kd_qI, ln_qI, fI_qI, fL_qI, fR_qI, aI_qI, aL_qI, aR_qI, nx_qL, kd_qL, ln_qL, fI_qL, fL_qL, fR_qL, aI_qL, aL_qL, aR_qL, nx_qR, kd_qR, ln_qR, fI_qR, fL_qR, fR_qR, aI_qR, aL_qR, aR_qR, nx_mk, kd_mk, ln_mk, fI_mk, fL_mk, fR_mk, aI_mk, aL_mk, aR_mk, false_and, and_false, if_false, if_true, and_self, Int.reduceEq, Nat.reduceEqDiff, ite_self, MLay_pI, MLay_pL, MLay_qI, MLay_qL, ev_X6_fewest_15, ev_X6_fewest_16, ev_X6_fewest_17, ev_X6_fewest_20, ev_X6_fewest_21, ev_X6_fewest_24, ev_X6_fewest_25, ev_X6_fewest_26, ev_X6_fewest_27, xt_X6_fewest, xf_X6_fewest, us_X6_survey, us_X6_coversAll, hC.eqs]
    try simp (disch := omega) only [wI_id, dv_nn, rm_nn]
    refine ⟨fun z => absurd z (by omega), fun _ => m1 _ (fun σ' a b c e => ?_) (fun σ' a b c => ?_)⟩
    · have h := h σ' 1 (hzM σ' a) a.2.2 (Or.inr ⟨n0, Or.inl ⟨rfl, e⟩⟩)
      show Go M_X6_fewest Q 30 [some (vr 19), some (vi 1)] [vi 1] σ' (0, 0)
      clear mv hzM hS m1
      refine go_X6_fewest (ct := fun p => p == 35) 20 ?_
      simp only [oI, oL, oR, o1, lI, lL, lR, popN, catS, gv, stL, stL2, swt, cnd, spObj, List.getElem?_cons_zero, List.getElem?_cons_succ, List.getD_cons_zero, List.getD_cons_succ, List.set_cons_zero, List.set_cons_succ, List.nil_append, List.cons_append, Option.toList, Bool.or_false, Bool.false_or, Bool.or_true, Bool.true_or, Nat.reduceBEq, Nat.reduceAdd, Nat.reduceLT, Nat.reduceLeDiff, Int.reduceAdd, Int.reduceToNat, true_and, and_true, Fin.isValue, Fin.val_zero, Fin.val_one, Fin.val_two, Fin.reduceFinMk, eq_self, Int.reduceNeg, imp_self, Nat.reduceMul, Nat.le_refl, not_true_eq_false, not_false_eq_true, List.getElem?_nil, reduceCtorEq, true_or, or_true, Classical.not_not, implies_true, or_self, wI_0, wI_1, wI_m1, b2i_w, b2i_eq0, b2i_eq1, b2i_bool, nor_self, nx_pI, kd_pI, ln_pI, fI_pI, fL_pI, fR_pI, aI_pI, aL_pI, aR_pI, nx_pL, kd_pL, ln_pL, fI_pL, fL_pL, fR_pL, aI_pL, aL_pL, aR_pL, nx_pR, kd_pR, ln_pR, fI_pR, fL_pR, fR_pR, aI_pR, aL_pR, aR_pR, nx_qI, kd_qI, ln_qI, fI_qI, fL_qI, fR_qI, aI_qI, aL_qI, aR_qI, nx_qL, kd_qL, ln_qL, fI_qL, fL_qL, fR_qL, aI_qL, aL_qL, aR_qL, nx_qR, kd_qR, ln_qR, fI_qR, fL_qR, fR_qR, aI_qR, aL_qR, aR_qR, nx_mk, kd_mk, ln_mk, fI_mk, fL_mk, fR_mk, aI_mk, aL_mk, aR_mk, false_and, and_false, if_false, if_true, and_self, Int.reduceEq, Nat.reduceEqDiff, ite_self, MLay_pI, MLay_pL, MLay_qI, MLay_qL, ev_X6_fewest_30, ev_X6_fewest_33, ev_X6_fewest_34, xt_X6_fewest, xf_X6_fewest, us_X6_survey, us_X6_coversAll]
      repeat' (first | intro z | apply And.intro)
      all_goals try omega
      all_goals try contradiction
      all_goals exact h
    · have w := w2 σ' a b n0 c
      show Go M_X6_fewest Q 30 [some (vr 19), some (vi 1)] [vi 0] σ' (0, 0)
      clear mv hzM hS m1
      refine go_X6_fewest (ct := fun p => p == 33 || p == 15) 20 ?_
      simp only [oI, oL, oR, o1, lI, lL, lR, popN, catS, gv, stL, stL2, swt, cnd, spObj, List.getElem?_cons_zero, List.getElem?_cons_succ, List.getD_cons_zero, List.getD_cons_succ, List.set_cons_zero, List.set_cons_succ, List.nil_append, List.cons_append, Option.toList, Bool.or_false, Bool.false_or, Bool.or_true, Bool.true_or, Nat.reduceBEq, Nat.reduceAdd, Nat.reduceLT, Nat.reduceLeDiff, Int.reduceAdd, Int.reduceToNat, true_and, and_true, Fin.isValue, Fin.val_zero, Fin.val_one, Fin.val_two, Fin.reduceFinMk, eq_self, Int.reduceNeg, imp_self, Nat.reduceMul, Nat.le_refl, not_true_eq_false, not_false_eq_true, List.getElem?_nil, reduceCtorEq, true_or, or_true, Classical.not_not, implies_true, or_self, wI_0, wI_1, wI_m1, b2i_w, b2i_eq0, b2i_eq1, b2i_bool, nor_self, nx_pI, kd_pI, ln_pI, fI_pI, fL_pI, fR_pI, aI_pI, aL_pI, aR_pI, nx_pL, kd_pL, ln_pL, fI_pL, fL_pL, fR_pL, aI_pL, aL_pL, aR_pL, nx_pR, kd_pR, ln_pR, fI_pR, fL_pR, fR_pR, aI_pR, aL_pR, aR_pR, nx_qI, kd_qI, ln_qI, fI_qI, fL_qI, fR_qI, aI_qI, aL_qI, aR_qI, nx_qL, kd_qL, ln_qL, fI_qL, fL_qL, fR_qL, aI_qL, aL_qL, aR_qL, nx_qR, kd_qR, ln_qR, fI_qR, fL_qR, fR_qR, aI_qR, aL_qR, aR_qR, nx_mk, kd_mk, ln_mk, fI_mk, fL_mk, fR_mk, aI_mk, aL_mk, aR_mk, false_and, and_false, if_false, if_true, and_self, Int.reduceEq, Nat.reduceEqDiff, ite_self, MLay_pI, MLay_pL, MLay_qI, MLay_qL, ev_X6_fewest_30, ev_X6_fewest_33, ev_X6_fewest_34, ev_X6_fewest_35, ev_X6_fewest_38, xt_X6_fewest, xf_X6_fewest, us_X6_survey, us_X6_coversAll]
      repeat' (first | intro z | apply And.intro)
      all_goals try omega
      all_goals try contradiction
      all_goals exact w
  by_cases y : cAll ρ
  · have h := h ρ 0 hz0 hT (Or.inl ⟨rfl, hA.mp y⟩)
    clear mv w41 w2 w1 hzM hS
    refine go_X6_fewest (ct := fun p => p == 13) 20 ?_
    simp only [oI, oL, oR, o1, lI, lL, lR, popN, catS, gv, stL, stL2, swt, cnd, spObj, List.getElem?_cons_zero, List.getElem?_cons_succ, List.getD_cons_zero, List.getD_cons_succ, List.set_cons_zero, List.set_cons_succ, List.nil_append, List.cons_append, Option.toList, Bool.or_false, Bool.false_or, Bool.or_true, Bool.true_or, Nat.reduceBEq, Nat.reduceAdd, Nat.reduceLT, Nat.reduceLeDiff, Int.reduceAdd, Int.reduceToNat, true_and, and_true, Fin.isValue, Fin.val_zero, Fin.val_one, Fin.val_two, Fin.reduceFinMk, eq_self, Int.reduceNeg, imp_self, Nat.reduceMul, Nat.le_refl, not_true_eq_false, not_false_eq_true, List.getElem?_nil, reduceCtorEq, true_or, or_true, Classical.not_not, implies_true, or_self, wI_0, wI_1, wI_m1, b2i_w, b2i_eq0, b2i_eq1, b2i_bool, nor_self, nx_pI, kd_pI, ln_pI, fI_pI, fL_pI, fR_pI, aI_pI, aL_pI, aR_pI, nx_pL, kd_pL, ln_pL, fI_pL, fL_pL, fR_pL, aI_pL, aL_pL, aR_pL, nx_pR, kd_pR, ln_pR, fI_pR, fL_pR, fR_pR, aI_pR, aL_pR, aR_pR, nx_qI, kd_qI, ln_qI, fI_qI, fL_qI, fR_qI, aI_qI, aL_qI, aR_qI, nx_qL, kd_qL, ln_qL, fI_qL, fL_qL, fR_qL, aI_qL, aL_qL, aR_qL, nx_qR, kd_qR, ln_qR, fI_qR, fL_qR, fR_qR, aI_qR, aL_qR, aR_qR, nx_mk, kd_mk, ln_mk, fI_mk, fL_mk, fR_mk, aI_mk, aL_mk, aR_mk, false_and, and_false, if_false, if_true, and_self, Int.reduceEq, Nat.reduceEqDiff, ite_self, MLay_pI, MLay_pL, MLay_qI, MLay_qL, ev_X6_fewest_4, ev_X6_fewest_5, ev_X6_fewest_8, ev_X6_fewest_11, ev_X6_fewest_12, xt_X6_fewest, xf_X6_fewest, us_X6_survey, us_X6_coversAll, hk, hC, hnd, y]
    repeat' (first | intro z | apply And.intro)
    all_goals try omega
    all_goals try contradiction
    all_goals exact h
  · have w := w1 (fun z => y (hA.mpr z))
    clear mv w41 w2 w1 hzM hS h
    refine go_X6_fewest (ct := fun p => p == 11 || p == 15) 20 ?_
    simp only [oI, oL, oR, o1, lI, lL, lR, popN, catS, gv, stL, stL2, swt, cnd, spObj, List.getElem?_cons_zero, List.getElem?_cons_succ, List.getD_cons_zero, List.getD_cons_succ, List.set_cons_zero, List.set_cons_succ, List.nil_append, List.cons_append, Option.toList, Bool.or_false, Bool.false_or, Bool.or_true, Bool.true_or, Nat.reduceBEq, Nat.reduceAdd, Nat.reduceLT, Nat.reduceLeDiff, Int.reduceAdd, Int.reduceToNat, true_and, and_true, Fin.isValue, Fin.val_zero, Fin.val_one, Fin.val_two, Fin.reduceFinMk, eq_self, Int.reduceNeg, imp_self, Nat.reduceMul, Nat.le_refl, not_true_eq_false, not_false_eq_true, List.getElem?_nil, reduceCtorEq, true_or, or_true, Classical.not_not, implies_true, or_self, wI_0, wI_1, wI_m1, b2i_w, b2i_eq0, b2i_eq1, b2i_bool, nor_self, nx_pI, kd_pI, ln_pI, fI_pI, fL_pI, fR_pI, aI_pI, aL_pI, aR_pI, nx_pL, kd_pL, ln_pL, fI_pL, fL_pL, fR_pL, aI_pL, aL_pL, aR_pL, nx_pR, kd_pR, ln_pR, fI_pR, fL_pR, fR_pR, aI_pR, aL_pR, aR_pR, nx_qI, kd_qI, ln_qI, fI_qI, fL_qI, fR_qI, aI_qI, aL_qI, aR_qI, nx_qL, kd_qL, ln_qL, fI_qL, fL_qL, fR_qL, aI_qL, aL_qL, aR_qL, nx_qR, kd_qR, ln_qR, fI_qR, fL_qR, fR_qR, aI_qR, aL_qR, aR_qR, nx_mk, kd_mk, ln_mk, fI_mk, fL_mk, fR_mk, aI_mk, aL_mk, aR_mk, false_and, and_false, if_false, if_true, and_self, Int.reduceEq, Nat.reduceEqDiff, ite_self, MLay_pI, MLay_pL, MLay_qI, MLay_qL, ev_X6_fewest_4, ev_X6_fewest_5, ev_X6_fewest_8, ev_X6_fewest_11, ev_X6_fewest_12, ev_X6_fewest_13, ev_X6_fewest_14, xt_X6_fewest, xf_X6_fewest, us_X6_survey, us_X6_coversAll, hk, hC, hnd, y]
    repeat' (first | intro z | apply And.intro)
    all_goals try omega
    all_goals try contradiction
    all_goals exact w

set_option maxRecDepth 20000 in
theorem c_X6_fewest : Ct yX6_fewest cX6_fewest 2 ((some FieldType.int)) 11 0 0 sp_X6_fewest := by
  refine Ct.go (M := M_X6_fewest) mm_X6_fewest fun av σ Q h0 => ?_
  obtain ⟨this, rfl, hk, h⟩ := el_X6_fewest h0
  clear h0
  refine ⟨Nat.le_of_ble_eq_true rfl, ?_⟩
  show Go M_X6_fewest Q 0 [some (vr this), none] [] σ (0, 0)
  obtain ⟨rfl, hC, hT, τ, hB, hG, hI, hH, h⟩ := h
  have w : ∀ σ', Fz surF surA noR σ σ' → NR σ' τ → CVS (fI τ 1335 61).toNat (mEng τ) (aI τ 89) σ' → TKn σ' τ → Go M_X6_fewest Q 4 [some (vr 19), none] [] σ' (0, 0) := fun σ' z a b c =>
    few_4 hI hH (hG.fz z (by decide) (by omega) (by omega)) (hC.fz z (by decide)) (fun j => by rw [z.aI (by omega), z.aI (by omega)]; exact hT j) z a b c h
  clear h
  refine go_X6_fewest (ct := fun p => p == 4) 20 ?_
  simp only [oI, oL, oR, o1, lI, lL, lR, popN, catS, gv, stL, stL2, swt, cnd, spObj, List.getElem?_cons_zero, List.getElem?_cons_succ, List.getD_cons_zero, List.getD_cons_succ, List.set_cons_zero, List.set_cons_succ, List.nil_append, List.cons_append, Option.toList, Bool.or_false, Bool.false_or, Bool.or_true, Bool.true_or, Nat.reduceBEq, Nat.reduceAdd, Nat.reduceLT, Nat.reduceLeDiff, Int.reduceAdd, Int.reduceToNat, true_and, and_true, Fin.isValue, Fin.val_zero, Fin.val_one, Fin.val_two, Fin.reduceFinMk, eq_self, Int.reduceNeg, imp_self, Nat.reduceMul, Nat.le_refl, not_true_eq_false, not_false_eq_true, List.getElem?_nil, reduceCtorEq, true_or, or_true, Classical.not_not, implies_true, or_self, wI_0, wI_1, wI_m1, b2i_w, b2i_eq0, b2i_eq1, b2i_bool, nor_self, nx_pI, kd_pI, ln_pI, fI_pI, fL_pI, fR_pI, aI_pI, aL_pI, aR_pI, nx_pL, kd_pL, ln_pL, fI_pL, fL_pL, fR_pL, aI_pL, aL_pL, aR_pL, nx_pR, kd_pR, ln_pR, fI_pR, fL_pR, fR_pR, aI_pR, aL_pR, aR_pR, nx_qI, kd_qI, ln_qI, fI_qI, fL_qI, fR_qI, aI_qI, aL_qI, aR_qI, nx_qL, kd_qL, ln_qL, fI_qL, fL_qL, fR_qL, aI_qL, aL_qL, aR_qL, nx_qR, kd_qR, ln_qR, fI_qR, fL_qR, fR_qR, aI_qR, aL_qR, aR_qR, nx_mk, kd_mk, ln_mk, fI_mk, fL_mk, fR_mk, aI_mk, aL_mk, aR_mk, false_and, and_false, if_false, if_true, and_self, Int.reduceEq, Nat.reduceEqDiff, ite_self, MLay_pI, MLay_pL, MLay_qI, MLay_qL, ev_X6_fewest_0, ev_X6_fewest_1, xt_X6_fewest, xf_X6_fewest, us_X6_survey, us_X6_coversAll, hC]
  refine ⟨by simp only [hC.eqs], τ, hB, hG, hI, w⟩
