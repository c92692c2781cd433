/-! a line's worth on both sides; the first line that counts -/

theorem runs_rnC : ∀ (cs : List Int) (σ : Hp) (d k : Int), Cs (aI σ 97) k cs → mRuns σ d k cs.length = rnC cs σ d ∧ (okC cs σ d → mRok σ d k cs.length)
  | [], _, _, _, _ => ⟨rfl, fun _ => trivial⟩
  | c :: cs, σ, d, k, h => by
    have e : aI (mStC σ d c).1 97 = aI σ 97 := (Scr_mStC (Scr.refl σ) d c).a (by decide)
    have ih := runs_rnC cs (mStC σ d c).1 (mStC σ d c).2 (k + 1) (by rw [e]; exact h.2)
    show mRuns (mStC σ d (aI σ 97 k)).1 (mStC σ d (aI σ 97 k)).2 (k + 1) cs.length = rnC cs (mStC σ d c).1 (mStC σ d c).2 ∧ (_ → mCok d (aI σ 97 k) ∧ mRok (mStC σ d (aI σ 97 k)).1 (mStC σ d (aI σ 97 k)).2 (k + 1) cs.length)
    rw [h.1]
    exact ⟨ih.1, fun q => ⟨q.1, ih.2 q.2⟩⟩
/-- a line that can be reckoned, on either side -/
def LnG (x : Ln) : Prop := P4 0 x.2.2.2 ∧ (∀ f, Pst f 19 x.2.2.2) ∧ (0 ≤ x.2.1 ∧ x.2.1 ≤ 9) ∧ (0 ≤ x.2.2.1 ∧ x.2.2.1 ≤ 9)
def lnV (x : Ln) (σ : Hp) : Int := x.2.2.2.2.2.2.2 (aI σ 108)
theorem line_worth {σ : Hp} {o b l : Int} {x : Ln} (h : LnP σ o b l x) (hg : LnG x) (ho : 0 ≤ o) (hb : b ≤ 2000) : mLok σ l ∧ aI (mWorth σ l) 100 0 = lnV x σ ∧ aI (mWorth σ l) 108 = aI σ 108 := by
  obtain ⟨-, -, h3, h4, h5, h6⟩ := h
  have c97 : aI (mOpens σ 0) 97 = aI σ 97 := by funext j; simp only [aI_mOpens, Int.reduceEq, false_and, if_false]
  have c108 : aI (mOpens σ 0) 108 = aI σ 108 := by funext j; simp only [aI_mOpens, Int.reduceEq, false_and, if_false]
  obtain ⟨ok, σ1, e, hr, hv⟩ := hg.1 (mOpens σ 0) (Or.inl rfl) (by simp only [aI_mOpens, Int.reduceEq, false_and, if_false, and_self, if_true]) (by simp only [aI_mOpens, and_self, if_true]) (by simp only [aI_mOpens, Int.reduceEq, false_and, if_false, and_self, if_true]) (by simp only [aI_mOpens, Int.reduceEq, false_and, if_false, and_self, if_true])
  have rr := runs_rnC x.2.2.2.2.2.1 (mOpens σ 0) 0 (aI σ 95 l) (by rw [c97]; exact h6)
  have en : (aI σ 96 l - aI σ 95 l).toNat = x.2.2.2.2.2.1.length := by omega
  have ew : mWorth σ l = mTests σ1 0 := by
    unfold mWorth
    rw [en, rr.1]
    have hr : rnC x.2.2.2.2.2.1 (mOpens σ 0) 0 = (σ1, 0) := hr
    rw [hr]
  refine ⟨⟨by omega, by omega, ?_⟩, ?_, ?_⟩
  · rw [en]
    exact rr.2 ok
  · rw [ew]
    simp only [aI_mTests, Int.reduceEq, false_and, if_false, and_self, if_true]
    rw [hv, c108]
    rfl
  · rw [ew]
    funext j
    simp only [aI_mTests, Int.reduceEq, false_and, if_false]
    rw [e.f8, c108]
theorem rnS_cg {f g : Int → Int} (hfg : ∀ i, 0 ≤ i → i ≤ 6 → g i = f i) : ∀ (cs s : List Int), okS f s cs → okS g s cs ∧ rnS g s cs = rnS f s cs
  | [], _, _ => ⟨trivial, rfl⟩
  | c :: cs, s, h => by
    have e : st1 g s c = st1 f s c := by
      unfold st1
      by_cases c0 : 0 ≤ c
      · rw [if_pos c0, if_pos c0]
      · rw [if_neg c0, if_neg c0]
        by_cases c1 : c ≤ -10
        · rw [if_pos c1, if_pos c1, hfg _ (by omega) (by have := h.1.1; omega)]
        · rw [if_neg c1, if_neg c1]
    have ih := rnS_cg hfg cs (st1 f s c) h.2
    show (ok1 s c ∧ okS g (st1 g s c) cs) ∧ rnS g (st1 g s c) cs = rnS f (st1 f s c) cs
    rw [e]
    exact ⟨⟨h.1, ih.1⟩, ih.2⟩
/-- the class's steps give what the reference's codes give -/
theorem LnG.steps {x : Ln} (h : LnG x) {σ : Hp} {f : Int → Int} (hf : ∀ i, 0 ≤ i → i ≤ 6 → f i = aI σ 108 (i + 1)) : okS f [] x.2.2.2.2.2.2.1 ∧ rnS f [] x.2.2.2.2.2.2.1 = [lnV x σ] := by
  obtain ⟨h1, h2⟩ := h.2.1 (fun i => aI σ 108 (i + 1)) [] (by decide)
  have g := rnS_cg hf _ _ h1
  refine ⟨g.1, g.2.trans (h2.trans ?_)⟩
  have : (fun i : Int => aI σ 108 (i - 1 + 1)) = aI σ 108 := funext fun i => by rw [Int.sub_add_cancel]
  show [x.2.2.2.2.2.2.2 (fun i => aI σ 108 (i - 1 + 1))] = _
  rw [this]
  rfl
/-- the lines lie from place 0 on -/
def LnA (τ : Hp) (xs : List Ln) : Prop := fI τ 1352 61 = xs.length ∧ xs.length ≤ 24 ∧ (∀ x ∈ xs, LnG x) ∧ ∃ o b, 0 ≤ o ∧ b ≤ 2000 ∧ LnS τ o b 0 xs
theorem LnS.scr {τ ρ : Hp} {o b : Int} {xs : List Ln} (h : LnS τ o b 0 xs) (hS : Scr τ ρ) : LnS ρ o b 0 xs := fun i x hx => (h i x hx).keep (Int.le_refl _) (fun r hr => by
    unfold isL at hr
    rcases hr with rfl | rfl | rfl | rfl
    · exact congrFun (hS.a (r := 95) (by decide)) _
    · exact congrFun (hS.a (r := 96) (by decide)) _
    · exact congrFun (hS.a (r := 93) (by decide)) _
    · exact congrFun (hS.a (r := 94) (by decide)) _) (fun j _ => by rw [hS.a (r := 97) (by decide)])
theorem mLines_first {τ : Hp} {a o b : Int} {xs : List Ln} (hg : ∀ x ∈ xs, LnG x) (ho : 0 ≤ o) (hb : b ≤ 2000) (hL : LnS τ o b 0 xs) : ∀ (n k : Nat) (ρ : Hp), k + n = xs.length → MI ρ → Scr τ ρ → aI ρ 108 = aI τ 108 →
    ((∀ (l : Nat) (x : Ln), k ≤ l → xs[l]? = some x → wI (lnV x τ) = 0) → Scr τ (mLines ρ a n k)) ∧
    (∀ (l : Nat) (x : Ln), k ≤ l → xs[l]? = some x → ¬ wI (lnV x τ) = 0 → (∀ (l' : Nat) (x' : Ln), k ≤ l' → l' < l → xs[l']? = some x' → wI (lnV x' τ) = 0) → ∃ ρ', MI ρ' ∧ Scr τ ρ' ∧ mLines ρ a n k = mSends (mSends ρ' a 0 x.2.1.toNat) a 1 x.2.2.1.toNat)
  | 0, k, ρ, hk, hI, hS, h8 => ⟨fun _ => hS, fun l x hl hx => by
    have := (List.getElem?_eq_some_iff.mp hx).1
    omega⟩
  | n + 1, k, ρ, hk, hI, hS, h8 => by
    have hkl : k < xs.length := by omega
    obtain ⟨y, hy⟩ : ∃ y, xs[k]? = some y := ⟨_, List.getElem?_eq_getElem hkl⟩
    have hP := (hL.scr hS) k y hy
    rw [show (0 : Int) + (k : Int) = (k : Int) by omega] at hP
    obtain ⟨-, w2, w3⟩ := line_worth hP (hg y (List.mem_of_getElem? hy)) ho hb
    have e8 : lnV y ρ = lnV y τ := by unfold lnV; rw [h8]
    rw [e8] at w2
    have hS2 : Scr τ (mWorth ρ k) := hS.trans (Scr_mWorth ρ k)
    have ih := mLines_first (a := a) hg ho hb hL n (k + 1) (mWorth ρ k) (by omega) (MI_mWorth hI k) hS2 (w3.trans h8)
    unfold mLines
    rw [w2]
    by_cases c : wI (lnV y τ) = 0
    · rw [if_pos c]
      refine ⟨fun q => ih.1 (fun l x hl => q l x (by omega)), fun l x hl hx hn hno => ?_⟩
      by_cases e : l = k
      · subst e
        rw [hy] at hx
        cases hx
        exact absurd c hn
      · exact ih.2 l x (by omega) hx hn (fun l' x' hl' => hno l' x' (by omega))
    · rw [if_neg c]
      refine ⟨fun q => absurd (q k y (Nat.le_refl _) hy) c, fun l x hl hx hn hno => ?_⟩
      by_cases e : l = k
      · subst e
        rw [hy] at hx
        cases hx
        refine ⟨mWorth ρ l, MI_mWorth hI l, hS2, ?_⟩
        rw [← hP.1, ← hP.2.1]
      · exact absurd (hno k y (Nat.le_refl _) (by omega) hy) c
