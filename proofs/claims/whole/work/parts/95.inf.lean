/-! the reference's machine on a line's codes gives the line's value -/

def rnC : List Int → Hp → Int → Hp × Int
  | [], σ, d => (σ, d)
  | c :: cs, σ, d => rnC cs (mStC σ d c).1 (mStC σ d c).2
def okC : List Int → Hp → Int → Prop
  | [], _, _ => True
  | c :: cs, σ, d => mCok d c ∧ okC cs (mStC σ d c).1 (mStC σ d c).2
theorem rnC_app : ∀ (a b : List Int) (σ : Hp) (d : Int), rnC (a ++ b) σ d = rnC b (rnC a σ d).1 (rnC a σ d).2
  | [], _, _, _ => rfl
  | c :: a, b, σ, d => rnC_app a b (mStC σ d c).1 (mStC σ d c).2
theorem okC_app : ∀ (a b : List Int) (σ : Hp) (d : Int), okC (a ++ b) σ d ↔ okC a σ d ∧ okC b (rnC a σ d).1 (rnC a σ d).2
  | [], _, _, _ => ⟨fun h => ⟨trivial, h⟩, fun h => h.2⟩
  | c :: a, b, σ, d => by
    have ih := okC_app a b (mStC σ d c).1 (mStC σ d c).2
    show mCok d c ∧ okC (a ++ b) (mStC σ d c).1 (mStC σ d c).2 ↔ (mCok d c ∧ okC a (mStC σ d c).1 (mStC σ d c).2) ∧ okC b (rnC a (mStC σ d c).1 (mStC σ d c).2).1 (rnC a (mStC σ d c).1 (mStC σ d c).2).2
    rw [ih]
    exact ⟨fun h => ⟨⟨h.1, h.2.1⟩, h.2.2⟩, fun h => ⟨h.1.1, h.1.2, h.2⟩⟩
/-- only what A names has changed in the arrays of numbers -/
def Em (A : Int → Int → Prop) (σ σ' : Hp) : Prop := ∀ r j, ¬ A r j → aI σ' r j = aI σ r j
theorem Em.rf {A : Int → Int → Prop} (σ : Hp) : Em A σ σ := fun _ _ _ => rfl
theorem Em.tr {A : Int → Int → Prop} {σ τ ρ : Hp} (h : Em A σ τ) (g : Em A τ ρ) : Em A σ ρ := fun r j q => (g r j q).trans (h r j q)
theorem Em.up {A B : Int → Int → Prop} {σ τ : Hp} (h : Em A σ τ) (hAB : ∀ r j, A r j → B r j) : Em B σ τ := fun r j q => h r j (fun e => q (hAB r j e))
theorem Em.q {A : Int → Int → Prop} {σ τ : Hp} (h : Em A σ τ) {r j v : Int} (hA : A r j) : Em A σ (qI τ r j v) := fun r' j' q => by
  rw [aI_qI, if_neg (fun e => q (by rw [e.1, e.2]; exact hA))]
  exact h r' j' q
def eM0 (d r j : Int) : Prop := r = 106 ∨ (100 ≤ r ∧ r ≤ 107 ∧ d < j)
def eM1 (d r j : Int) : Prop := eM0 d r j ∨ (j = d ∧ (r = 104 ∨ r = 105))
def eM3 (d r j : Int) : Prop := eM0 d r j ∨ (j = d ∧ (102 ≤ r ∧ r ≤ 105))
def eM4 (d r j : Int) : Prop := eM0 d r j ∨ (j = d ∧ (100 ≤ r ∧ r ≤ 105))
theorem eM0_1 {d r j : Int} (h : eM0 d r j) : eM1 d r j := Or.inl h
theorem eM1_3 {d r j : Int} (h : eM1 d r j) : eM3 d r j := by unfold eM1 at h; unfold eM3; rcases h with h | h; exact Or.inl h; right; omega
theorem eM3_4 {d r j : Int} (h : eM3 d r j) : eM4 d r j := by unfold eM3 at h; unfold eM4; rcases h with h | h; exact Or.inl h; right; omega
theorem eM4_0 {d r j : Int} (h : eM4 (d + 1) r j) : eM0 d r j := by unfold eM4 eM0 at h; unfold eM0; rcases h with h | h <;> omega
theorem eM0_0 {d r j : Int} (h : eM0 (d + 1) r j) : eM0 d r j := by unfold eM0 at h; unfold eM0; rcases h with h | h <;> omega
theorem eM0.n {d r j : Int} (h : r < 106 ∨ 106 < r) (h2 : r < 100 ∨ 107 < r ∨ j ≤ d) : ¬ eM0 d r j := by unfold eM0; omega
theorem eM4_n {d r j : Int} (h : r < 100 ∨ 107 < r) : ¬ eM4 d r j := by unfold eM4 eM0; omega
def swV (σ : Hp) (d : Int) : Int := if aI σ 105 d = 21 then aI σ 104 d - aI σ 106 d else aI σ 104 d + aI σ 106 d
def teV (σ : Hp) (d : Int) : Int := if aI σ 103 d = 25 then (if wI (aI σ 102 d) = wI (swV σ d) then 1 else 0) else if aI σ 103 d = 24 then (if wI (aI σ 102 d) < wI (swV σ d) then 1 else 0) else swV σ d
def whV (σ : Hp) (d : Int) : Int := if aI σ 101 d = 27 then (if wI (aI σ 100 d) = 0 then (if wI (teV σ d) = 0 then 0 else 1) else 1) else if aI σ 101 d = 26 then (if wI (aI σ 100 d) = 0 then 0 else if wI (teV σ d) = 0 then 0 else 1) else teV σ d
theorem aI_mSums (σ : Hp) (d r j : Int) : aI (mSums σ d) r j = if r = 104 ∧ j = d then swV σ d else aI σ r j := aI_qI ..
theorem sm_te (σ : Hp) (d : Int) : mTV2 (mSums σ d) d (mTV1 (mSums σ d) d) = teV σ d := by
  unfold mTV2 mTV1 teV
  simp only [aI_mSums, Int.reduceEq, false_and, if_false, and_self, if_true]
theorem sm_wh (σ : Hp) (d : Int) : mTV (mSums σ d) d = whV σ d := by
  unfold mTV
  rw [sm_te]
  unfold mTV3 mTV4 whV
  simp only [aI_mSums, Int.reduceEq, false_and, if_false]
  by_cases c : aI σ 101 d = 27
  · simp only [c, Int.reduceEq, if_true, if_false]
  · simp only [c, if_false]
theorem aI_mTests (σ : Hp) (d r j : Int) : aI (mTests σ d) r j = if r = 105 ∧ j = d then 20 else if r = 104 ∧ j = d then 0 else if r = 103 ∧ j = d then 0 else if r = 100 ∧ j = d then whV σ d else if r = 104 ∧ j = d then swV σ d else aI σ r j := by
  unfold mTests
  simp only [aI_qI, aI_mSums, sm_wh]
theorem aI_mCmp (σ : Hp) (c d r j : Int) : aI (mCmp σ c d) r j = if r = 105 ∧ j = d then 20 else if r = 104 ∧ j = d then 0 else if r = 103 ∧ j = d then c else if r = 102 ∧ j = d then swV σ d else if r = 104 ∧ j = d then swV σ d else aI σ r j := by
  unfold mCmp
  simp only [aI_qI, aI_mSums, and_self, if_true]
theorem aI_mOpens (σ : Hp) (d r j : Int) : aI (mOpens σ d) r j = if r = 105 ∧ j = d then 20 else if r = 104 ∧ j = d then 0 else if r = 103 ∧ j = d then 0 else if r = 101 ∧ j = d then 0 else aI σ r j := by
  unfold mOpens
  simp only [aI_qI]
theorem Em.sums {A : Int → Int → Prop} {σ τ : Hp} (h : Em A σ τ) {d : Int} (hA : A 104 d) : Em A σ (mSums τ d) := h.q hA
theorem Em.tests {A : Int → Int → Prop} {σ τ : Hp} (h : Em A σ τ) {d : Int} (h1 : A 100 d) (h3 : A 103 d) (h4 : A 104 d) (h5 : A 105 d) : Em A σ (mTests τ d) := ((((h.sums h4).q h1).q h3).q h4).q h5
theorem Em.opens {A : Int → Int → Prop} {σ τ : Hp} (h : Em A σ τ) {d : Int} (h1 : A 101 d) (h3 : A 103 d) (h4 : A 104 d) (h5 : A 105 d) : Em A σ (mOpens τ d) := (((h.q h1).q h3).q h4).q h5
theorem Em.cmp {A : Int → Int → Prop} {σ τ : Hp} (h : Em A σ τ) {c d : Int} (h2 : A 102 d) (h3 : A 103 d) (h4 : A 104 d) (h5 : A 105 d) : Em A σ (mCmp τ c d) := ((((h.sums h4).q h2).q h3).q h4).q h5
/-- no not ends at this level -/
def NB (σ : Hp) (d : Int) : Prop := d = 0 ∨ ¬ aI σ 107 d = 1
theorem mPut_nb {σ : Hp} {v d : Int} (hd : 0 ≤ d) (h : NB σ d) : mPut σ v d = (qI σ 106 d v, d) := by
  obtain ⟨n, rfl⟩ : ∃ n : Nat, d = n := ⟨d.toNat, by omega⟩
  unfold mPut
  rw [Int.toNat_natCast]
  cases n with
  | zero => rfl
  | succ n =>
    unfold mPop
    rw [show ((n + 1 : Nat) : Int) = (n : Int) + 1 by omega] at h ⊢
    rw [if_neg (by unfold NB at h; omega)]
    rw [show ((n + 1 : Nat) : Int) = (n : Int) + 1 by omega]
theorem mPut_not {σ : Hp} {v d : Int} (hd : 0 ≤ d) (h : aI σ 107 (d + 1) = 1) : mPut σ v (d + 1) = mPut σ (if wI v = 0 then 1 else 0) d := by
  obtain ⟨n, rfl⟩ : ∃ n : Nat, d = n := ⟨d.toNat, by omega⟩
  have e : mPop σ ((n : Int) + 1).toNat v = mPop σ (n : Int).toNat (if wI v = 0 then 1 else 0) := by
    rw [show ((n : Int) + 1).toNat = n + 1 by omega, Int.toNat_natCast]
    show (if aI σ 107 ((n : Int) + 1) = 1 then _ else _) = _
    rw [if_pos h]
  unfold mPut
  rw [e]
/-- a part's codes put its value -/
def P0 (d : Int) (r : Rs) : Prop := ∀ σ, okC r.2.2.1 σ d ∧ ∃ σ1, Em (eM0 d) σ σ1 ∧ rnC r.2.2.1 σ d = mPut σ1 (r.2.2.2.2 (aI σ 108)) d
def P1 (d : Int) (r : Rs) : Prop := ∀ σ, NB σ d → aI σ 104 d = 0 → aI σ 105 d = 20 → okC r.2.2.1 σ d ∧ ∃ σ1, Em (eM1 d) σ σ1 ∧ rnC r.2.2.1 σ d = (σ1, d) ∧ swV σ1 d = r.2.2.2.2 (aI σ 108)
def P3 (d : Int) (r : Rs) : Prop := ∀ σ, NB σ d → aI σ 104 d = 0 → aI σ 105 d = 20 → aI σ 103 d = 0 → okC r.2.2.1 σ d ∧ ∃ σ1, Em (eM3 d) σ σ1 ∧ rnC r.2.2.1 σ d = (σ1, d) ∧ teV σ1 d = r.2.2.2.2 (aI σ 108)
def P4 (d : Int) (r : Rs) : Prop := ∀ σ, NB σ d → aI σ 104 d = 0 → aI σ 105 d = 20 → aI σ 103 d = 0 → aI σ 101 d = 0 → okC r.2.2.1 σ d ∧ ∃ σ1, Em (eM4 d) σ σ1 ∧ rnC r.2.2.1 σ d = (σ1, d) ∧ whV σ1 d = r.2.2.2.2 (aI σ 108)
theorem Em.f8 {d : Int} {σ τ : Hp} (h : Em (eM4 d) σ τ) : aI τ 108 = aI σ 108 := funext fun j => h _ _ (eM4_n (by omega))
theorem Em.nb {d : Int} {σ τ : Hp} (h : Em (eM4 d) σ τ) (hn : NB σ d) : NB τ d := by
  unfold NB at *
  rw [h 107 d (by unfold eM4 eM0; omega)]
  exact hn
theorem P0.to1 {d : Int} {r : Rs} (hd : 0 ≤ d) (h : P0 d r) : P1 d r := fun σ hn h4 h5 => by
  obtain ⟨ok, σ1, e, hr⟩ := h σ
  have e4 : Em (eM4 d) σ σ1 := e.up (fun r j q => eM3_4 (eM1_3 (eM0_1 q)))
  refine ⟨ok, qI σ1 106 d (r.2.2.2.2 (aI σ 108)), (e.up (fun r j q => eM0_1 q)).q (Or.inl (Or.inl rfl)), ?_, ?_⟩
  · rw [hr, mPut_nb hd (e4.nb hn)]
  · unfold swV
    simp only [aI_qI, Int.reduceEq, false_and, if_false, and_self, if_true]
    rw [e 105 d (eM0.n (by omega) (by omega)), e 104 d (eM0.n (by omega) (by omega)), h4, h5, if_neg (by decide)]
    omega
theorem P1.to3 {d : Int} {r : Rs} (h : P1 d r) : P3 d r := fun σ hn h4 h5 h3 => by
  obtain ⟨ok, σ1, e, hr, hv⟩ := h σ hn h4 h5
  refine ⟨ok, σ1, e.up (fun r j q => eM1_3 q), hr, ?_⟩
  unfold teV
  rw [e 103 d (by unfold eM1 eM0; omega), h3, if_neg (by decide), if_neg (by decide), hv]
theorem P3.to4 {d : Int} {r : Rs} (h : P3 d r) : P4 d r := fun σ hn h4 h5 h3 h1 => by
  obtain ⟨ok, σ1, e, hr, hv⟩ := h σ hn h4 h5 h3
  refine ⟨ok, σ1, e.up (fun r j q => eM3_4 q), hr, ?_⟩
  unfold whV
  rw [e 101 d (by unfold eM3 eM0; omega), h1, if_neg (by decide), if_neg (by decide), hv]
theorem P1.sum {d : Int} {L : Int → Int} {z : Int} {a r : Rs} (hd : 0 ≤ d) (ha : P1 d a) (hr : P0 d r) : P1 d (fSum L z a r) := fun σ hn h4 h5 => by
  obtain ⟨oka, σ1, ea, ra, va⟩ := ha σ hn h4 h5
  obtain ⟨c, hc, hce⟩ : ∃ c : Int, (c = 20 ∨ c = 21) ∧ c = if isS L z a.2.1 43 then 20 else 21 := ⟨_, by split <;> omega, rfl⟩
  obtain ⟨okr, σ3, er, rr⟩ := hr (qI (mSums σ1 d) 105 d c)
  have es : mStC σ1 d c = (qI (mSums σ1 d) 105 d c, d) := by
    unfold mStC
    rw [if_neg (by omega), if_pos hc]
  have ea2 : Em (eM1 d) σ (qI (mSums σ1 d) 105 d c) := (ea.sums (by unfold eM1 eM0; omega)).q (by unfold eM1 eM0; omega)
  have e3 : Em (eM1 d) σ σ3 := ea2.tr (er.up (fun r j q => eM0_1 q))
  have n3 := (e3.up (fun r j q => eM3_4 (eM1_3 q))).nb hn
  have f8 := (ea2.up (fun r j q => eM3_4 (eM1_3 q))).f8
  rw [f8] at rr
  unfold fSum
  simp only
  rw [← hce]
  refine ⟨(okC_app _ _ _ _).mpr ⟨oka, ?_⟩, qI σ3 106 d (r.2.2.2.2 (aI σ 108)), e3.q (Or.inl (Or.inl rfl)), ?_, ?_⟩
  · rw [ra]
    refine ⟨by unfold mCok; omega, ?_⟩
    rw [es]
    exact okr
  · rw [rnC_app, ra]
    show rnC r.2.2.1 (mStC σ1 d c).1 (mStC σ1 d c).2 = _
    rw [es]
    exact rr.trans (mPut_nb hd n3)
  · have q5 : aI σ3 105 d = c := by rw [er 105 d (eM0.n (by omega) (by omega)), aI_qI, if_pos ⟨rfl, rfl⟩]
    have q4 : aI σ3 104 d = a.2.2.2.2 (aI σ 108) := by rw [er 104 d (eM0.n (by omega) (by omega)), aI_qI, if_neg (by omega), aI_mSums, if_pos ⟨rfl, rfl⟩, va]
    unfold swV
    simp only [aI_qI, Int.reduceEq, false_and, if_false, and_self, if_true]
    rw [q5, q4, hce]
    by_cases y : isS L z a.2.1 43
    · simp only [if_pos y, Int.reduceEq, if_false]
    · simp only [if_neg y, if_true]
theorem P3.test {d : Int} {L : Int → Int} {z : Int} {a r : Rs} (ha : P1 d a) (hr : P1 d r) : P3 d (fTest L z a r) := fun σ hn h4 h5 h3 => by
  obtain ⟨oka, σ1, ea, ra, va⟩ := ha σ hn h4 h5
  obtain ⟨c, hc, hce⟩ : ∃ c : Int, (c = 24 ∨ c = 25) ∧ c = if isS L z a.2.1 60 then 24 else 25 := ⟨_, by split <;> omega, rfl⟩
  have ea2 : Em (eM3 d) σ (mCmp σ1 c d) := (ea.up (fun r j q => eM1_3 q)).cmp (by unfold eM3 eM0; omega) (by unfold eM3 eM0; omega) (by unfold eM3 eM0; omega) (by unfold eM3 eM0; omega)
  have n2 := (ea2.up (fun r j q => eM3_4 q)).nb hn
  have f8 := (ea2.up (fun r j q => eM3_4 q)).f8
  obtain ⟨okr, σ3, er, rr, vr⟩ := hr (mCmp σ1 c d) n2 (by simp only [aI_mCmp, Int.reduceEq, false_and, if_false, and_self, if_true]) (by simp only [aI_mCmp, and_self, if_true])
  have es : mStC σ1 d c = (mCmp σ1 c d, d) := by
    unfold mStC
    rw [if_neg (by omega), if_neg (by omega), if_pos hc]
  rw [f8] at vr
  unfold fTest
  simp only
  rw [← hce]
  refine ⟨(okC_app _ _ _ _).mpr ⟨oka, ?_⟩, σ3, ea2.tr (er.up (fun r j q => eM1_3 q)), ?_, ?_⟩
  · rw [ra]
    refine ⟨by unfold mCok; omega, ?_⟩
    rw [es]
    exact okr
  · rw [rnC_app, ra]
    show rnC r.2.2.1 (mStC σ1 d c).1 (mStC σ1 d c).2 = _
    rw [es]
    exact rr
  · have q3 : aI σ3 103 d = c := by rw [er 103 d (by unfold eM1 eM0; omega)]; simp only [aI_mCmp, Int.reduceEq, false_and, if_false, and_self, if_true]
    have q2 : aI σ3 102 d = a.2.2.2.2 (aI σ 108) := by rw [er 102 d (by unfold eM1 eM0; omega)]; simp only [aI_mCmp, Int.reduceEq, false_and, if_false, and_self, if_true, va]
    unfold teV
    rw [q3, q2, vr, hce]
    by_cases y : isS L z a.2.1 60
    · simp only [if_pos y, Int.reduceEq, if_false, if_true]
    · simp only [if_neg y, if_true]
theorem P4.whole {d : Int} {L : Int → Int} {z : Int} {a r : Rs} (ha : P4 d a) (hr : P3 d r) : P4 d (fWhole L z a r) := fun σ hn h4 h5 h3 h1 => by
  obtain ⟨oka, σ1, ea, ra, va⟩ := ha σ hn h4 h5 h3 h1
  obtain ⟨c, hc, hce⟩ : ∃ c : Int, (c = 26 ∨ c = 27) ∧ c = if isW L z a.2.1 1111 then 26 else 27 := ⟨_, by split <;> omega, rfl⟩
  have ea2 : Em (eM4 d) σ (qI (mTests σ1 d) 101 d c) := (ea.tests (by unfold eM4 eM0; omega) (by unfold eM4 eM0; omega) (by unfold eM4 eM0; omega) (by unfold eM4 eM0; omega)).q (by unfold eM4 eM0; omega)
  have n2 := ea2.nb hn
  have f8 := ea2.f8
  obtain ⟨okr, σ3, er, rr, vr⟩ := hr (qI (mTests σ1 d) 101 d c) n2 (by simp only [aI_qI, aI_mTests, Int.reduceEq, false_and, if_false, and_self, if_true]) (by simp only [aI_qI, aI_mTests, Int.reduceEq, false_and, if_false, and_self, if_true]) (by simp only [aI_qI, aI_mTests, Int.reduceEq, false_and, if_false, and_self, if_true])
  have es : mStC σ1 d c = (qI (mTests σ1 d) 101 d c, d) := by
    unfold mStC
    rw [if_neg (by omega), if_neg (by omega), if_neg (by omega), if_pos hc]
  rw [f8] at vr
  unfold fWhole
  simp only
  rw [← hce]
  refine ⟨(okC_app _ _ _ _).mpr ⟨oka, ?_⟩, σ3, ea2.tr (er.up (fun r j q => eM3_4 q)), ?_, ?_⟩
  · rw [ra]
    refine ⟨by unfold mCok; omega, ?_⟩
    rw [es]
    exact okr
  · rw [rnC_app, ra]
    show rnC r.2.2.1 (mStC σ1 d c).1 (mStC σ1 d c).2 = _
    rw [es]
    exact rr
  · have q3 : aI σ3 101 d = c := by rw [er 101 d (by unfold eM3 eM0; omega)]; simp only [aI_qI, and_self, if_true]
    have q2 : aI σ3 100 d = a.2.2.2.2 (aI σ 108) := by rw [er 100 d (by unfold eM3 eM0; omega)]; simp only [aI_qI, aI_mTests, Int.reduceEq, false_and, if_false, and_self, if_true, va]
    unfold whV
    rw [q3, q2, vr, hce]
    by_cases y : isW L z a.2.1 1111
    · simp only [if_pos y, Int.reduceEq, if_false, if_true]
    · simp only [if_neg y, if_true]
theorem P0.paren {d x p : Int} {r : Rs} (hd : 0 ≤ d ∧ d < 5) (h : P4 (d + 1) r) : P0 d (x, p, 28 :: (r.2.2.1 ++ [29]), r.2.2.2.1, r.2.2.2.2) := fun σ => by
  have es : mStC σ d 28 = (mOpens (qI σ 107 (d + 1) 0) (d + 1), d + 1) := by
    unfold mStC
    rw [if_pos (Or.inl rfl), if_neg (by decide)]
  have e1 : Em (eM0 d) σ (mOpens (qI σ 107 (d + 1) 0) (d + 1)) := ((Em.rf σ).q (by unfold eM0; omega)).opens (by unfold eM0; omega) (by unfold eM0; omega) (by unfold eM0; omega) (by unfold eM0; omega)
  have f8 : aI (mOpens (qI σ 107 (d + 1) 0) (d + 1)) 108 = aI σ 108 := (e1.up (fun r j q => eM3_4 (eM1_3 (eM0_1 q)))).f8
  obtain ⟨ok, σ1, e, hr, hv⟩ := h (mOpens (qI σ 107 (d + 1) 0) (d + 1)) (Or.inr (by simp only [aI_mOpens, aI_qI, Int.reduceEq, false_and, if_false, and_self, if_true]; decide)) (by simp only [aI_mOpens, Int.reduceEq, false_and, if_false, and_self, if_true]) (by simp only [aI_mOpens, and_self, if_true]) (by simp only [aI_mOpens, Int.reduceEq, false_and, if_false, and_self, if_true]) (by simp only [aI_mOpens, Int.reduceEq, false_and, if_false, and_self, if_true])
  rw [f8] at hv
  have e2 : mStC σ1 (d + 1) 29 = mPut (mTests σ1 (d + 1)) (aI (mTests σ1 (d + 1)) 100 (d + 1)) d := by
    unfold mStC
    rw [if_neg (by omega), if_neg (by omega), if_neg (by omega), if_neg (by omega), if_pos rfl, show d + 1 - 1 = d by omega]
  have e3 : aI (mTests σ1 (d + 1)) 100 (d + 1) = r.2.2.2.2 (aI σ 108) := by
    simp only [aI_mTests, Int.reduceEq, false_and, if_false, and_self, if_true, hv]
  refine ⟨⟨by unfold mCok; omega, ?_⟩, mTests σ1 (d + 1), (e1.tr (e.up (fun r j q => eM4_0 q))).tests (by unfold eM0; omega) (by unfold eM0; omega) (by unfold eM0; omega) (by unfold eM0; omega), ?_⟩
  · rw [es]
    refine (okC_app _ _ _ _).mpr ⟨ok, ?_⟩
    rw [hr]
    exact ⟨by unfold mCok; omega, trivial⟩
  · show rnC (r.2.2.1 ++ [29]) (mStC σ d 28).1 (mStC σ d 28).2 = _
    rw [es, rnC_app, hr]
    show ((mStC σ1 (d + 1) 29).1, (mStC σ1 (d + 1) 29).2) = _
    rw [e2, e3]
theorem P0.not {d x p : Int} {r : Rs} {ss : List Int} (hd : 0 ≤ d ∧ d < 5) (h : P0 (d + 1) r) : P0 d (x, p, 30 :: r.2.2.1, ss, fun f => if wI (r.2.2.2.2 f) = 0 then 1 else 0) := fun σ => by
  have es : mStC σ d 30 = (mOpens (qI σ 107 (d + 1) 1) (d + 1), d + 1) := by
    unfold mStC
    rw [if_pos (Or.inr rfl), if_pos rfl]
  have e1 : Em (eM0 d) σ (mOpens (qI σ 107 (d + 1) 1) (d + 1)) := ((Em.rf σ).q (by unfold eM0; omega)).opens (by unfold eM0; omega) (by unfold eM0; omega) (by unfold eM0; omega) (by unfold eM0; omega)
  have f8 : aI (mOpens (qI σ 107 (d + 1) 1) (d + 1)) 108 = aI σ 108 := (e1.up (fun r j q => eM3_4 (eM1_3 (eM0_1 q)))).f8
  obtain ⟨ok, σ1, e, hr⟩ := h (mOpens (qI σ 107 (d + 1) 1) (d + 1))
  rw [f8] at hr
  have e7 : aI σ1 107 (d + 1) = 1 := by
    rw [e 107 (d + 1) (eM0.n (by omega) (by omega))]
    simp only [aI_mOpens, aI_qI, Int.reduceEq, false_and, if_false, and_self, if_true]
  refine ⟨⟨by unfold mCok; omega, ?_⟩, σ1, e1.tr (e.up (fun r j q => eM0_0 q)), ?_⟩
  · rw [es]
    exact ok
  · show rnC r.2.2.1 (mStC σ d 30).1 (mStC σ d 30).2 = _
    rw [es, hr, mPut_not hd.1 e7]
theorem P0.leaf {d x p c : Int} {ss : List Int} {g : (Int → Int) → Int} (hc : (1 ≤ c ∧ c ≤ 7) ∨ 100 ≤ c) (hg : ∀ f : Int → Int, g f = if 100 ≤ c then c - 100 else f c) : P0 d (x, p, [c], ss, g) := fun σ => by
  refine ⟨⟨by unfold mCok; omega, trivial⟩, σ, Em.rf σ, ?_⟩
  show ((mStC σ d c).1, (mStC σ d c).2) = mPut σ (g (aI σ 108)) d
  unfold mStC
  rw [if_neg (by omega), if_neg (by omega), if_neg (by omega), if_neg (by omega), if_neg (by omega), hg]
  by_cases y : 100 ≤ c
  · rw [if_pos y, if_pos y]
  · rw [if_neg y, if_neg y, if_pos (by omega)]
theorem pp_inf (L : Int → Int) (z : Int) : ∀ (n m : Nat) (d : Int) (a : Rs), (0 ≤ d ∧ d ≤ 5) → a.2.1 ≤ z → (0 ≤ a.2.1) → (pp L z n m d a).1 = 0 →
    (m = 0 → P0 d (pp L z n m d a)) ∧ (m = 1 → P1 d (pp L z n m d a)) ∧ (m = 3 → P3 d (pp L z n m d a)) ∧ (m = 4 → P4 d (pp L z n m d a)) ∧ (m = 2 → P1 d a → P1 d (pp L z n m d a)) ∧ (5 ≤ m → P4 d a → P4 d (pp L z n m d a))
  | 0, m, d, a, _, _, _, h => by cases h
  | n + 1, m, d, a, hd, ha, ha0, h => by
    have ht := tok_in L ha
    have hf := fc_in L z a.2.1
    have hT := tT_in L z a.2.1 ha
    match m with
    | 0 =>
      refine ⟨fun _ => ?_, fun q => absurd q (by decide), fun q => absurd q (by decide), fun q => absurd q (by decide), fun q => absurd q (by decide), fun q => absurd q (by decide)⟩
      rw [pp_0] at h ⊢
      unfold fPart at h ⊢
      by_cases c1 : fc L z a.2.1 = 0 ∧ ¬ isW L z a.2.1 10631 ∧ ¬ isS L z a.2.1 40 ∧ ¬ tK L z a.2.1 = 2
      · rw [if_pos c1] at h
        have h : 1 + 16 * kB L z a.2.1 = 0 := h
        omega
      rw [if_neg c1] at h ⊢
      by_cases c2 : d = 5
      · rw [if_pos c2] at h
        have h : 5 + 16 * kB L z a.2.1 = 0 := h
        omega
      rw [if_neg c2] at h ⊢
      have i1 := pp_inf L z n 4 (d + 1) (a0 (tE L z a.2.1)) (by omega) ht.2.2.2.1 (show 0 ≤ tE L z a.2.1 by omega)
      have i2 := pp_inf L z n 0 (d + 1) (a0 (tE L z a.2.1)) (by omega) ht.2.2.2.1 (show 0 ≤ tE L z a.2.1 by omega)
      generalize pp L z n 4 (d + 1) (a0 (tE L z a.2.1)) = r at *
      generalize pp L z n 0 (d + 1) (a0 (tE L z a.2.1)) = q at *
      by_cases c3 : isS L z a.2.1 40
      · rw [if_pos c3] at h ⊢
        by_cases c4 : r.1 ≠ 0
        · rw [if_pos c4] at h
          exact absurd h c4
        · rw [if_neg c4] at h ⊢
          by_cases c5 : isS L z r.2.1 41
          · rw [if_pos c5] at h ⊢
            exact P0.paren (by omega) ((i1 (by omega)).2.2.2.1 rfl)
          · rw [if_neg c5] at h ⊢
            exfalso
            have h : 1 + 16 * kB L z r.2.1 = 0 := h
            omega
      rw [if_neg c3] at h ⊢
      by_cases c4 : isW L z a.2.1 10631
      · rw [if_pos c4] at h ⊢
        by_cases c5 : q.1 ≠ 0
        · rw [if_pos c5] at h
          exact absurd h c5
        · rw [if_neg c5] at h ⊢
          exact P0.not (by omega) ((i2 (by omega)).1 rfl)
      · rw [if_neg c4] at h ⊢
        have hf1 : fc L z a.2.1 ≤ 7 := hf.2.1
        have hf0 : 0 ≤ fc L z a.2.1 := hf.1
        generalize fc L z a.2.1 = y at *
        generalize tT L z a.2.1 = x at *
        clear i1 i2 h ht hf
        refine P0.leaf ?_ (fun f => ?_)
        · split <;> omega
        · by_cases c6 : 0 < y
          · simp only [c6, if_true]
            rw [if_neg (by omega)]
          · simp only [c6, if_false]
            rw [if_pos (by omega)]
            omega
    | 1 =>
      have i1 := pp_inf L z n 0 d a hd ha ha0
      have p1 := pp_pos L z n 0 d a ha0 ha
      have i2 := fun (z0 : (pp L z n 0 d a).2.1 ≤ z) (z1 : 0 ≤ (pp L z n 0 d a).2.1) => pp_inf L z n 2 d (pp L z n 0 d a) hd z0 z1
      rw [pp_1] at h ⊢
      generalize pp L z n 0 d a = r at *
      refine ⟨fun q => absurd q (by decide), fun _ => ?_, fun q => absurd q (by decide), fun q => absurd q (by decide), fun q => absurd q (by decide), fun q => absurd q (by decide)⟩
      by_cases c4 : r.1 ≠ 0
      · rw [if_pos c4] at h
        exact absurd h c4
      · rw [if_neg c4] at h ⊢
        have c5 : r.1 = 0 := Decidable.not_not.mp c4
        have p1 := p1 c5
        exact (i2 p1.2.1 (by omega) h).2.2.2.2.1 rfl (((i1 c5).1 rfl).to1 hd.1)
    | 2 =>
      have i1 := pp_inf L z n 0 d (a0 (tE L z a.2.1)) hd ht.2.2.2.1 (show 0 ≤ tE L z a.2.1 by omega)
      have p1 := pp_pos L z n 0 d (a0 (tE L z a.2.1)) (show 0 ≤ tE L z a.2.1 by omega) ht.2.2.2.1
      have i2 := fun b => pp_inf L z n 2 d b hd
      rw [pp_2] at h ⊢
      generalize pp L z n 0 d (a0 (tE L z a.2.1)) = r at *
      refine ⟨fun q => absurd q (by decide), fun q => absurd q (by decide), fun q => absurd q (by decide), fun q => absurd q (by decide), fun _ pa => ?_, fun q => absurd q (by decide)⟩
      by_cases c3 : isS L z a.2.1 43 ∨ isS L z a.2.1 45
      · rw [if_pos c3] at h ⊢
        by_cases c4 : r.1 ≠ 0
        · rw [if_pos c4] at h
          exact absurd h c4
        · rw [if_neg c4] at h ⊢
          have c5 : r.1 = 0 := Decidable.not_not.mp c4
          have p1 := p1 c5
          have q1 : r.2.1 ≤ z := p1.2.1
          have q2 : 0 ≤ r.2.1 := by have : tE L z a.2.1 ≤ r.2.1 := p1.1; omega
          exact (i2 (fSum L z a r) q1 q2 h).2.2.2.2.1 rfl (P1.sum hd.1 pa ((i1 c5).1 rfl))
      · rw [if_neg c3] at h ⊢
        exact pa
    | 3 =>
      have i1 := pp_inf L z n 1 d a hd ha ha0
      have p1 := pp_pos L z n 1 d a ha0 ha
      have i2 := fun (z1 : tE L z (pp L z n 1 d a).2.1 ≤ z) (z0 : 0 ≤ tE L z (pp L z n 1 d a).2.1) => pp_inf L z n 1 d (a0 (tE L z (pp L z n 1 d a).2.1)) hd z1 z0
      rw [pp_3] at h ⊢
      generalize pp L z n 1 d a = r at *
      generalize pp L z n 1 d (a0 (tE L z r.2.1)) = q at *
      refine ⟨fun q => absurd q (by decide), fun q => absurd q (by decide), fun _ => ?_, fun q => absurd q (by decide), fun q => absurd q (by decide), fun q => absurd q (by decide)⟩
      by_cases c4 : r.1 ≠ 0
      · rw [if_pos c4] at h
        exact absurd h c4
      · rw [if_neg c4] at h ⊢
        have c5 : r.1 = 0 := Decidable.not_not.mp c4
        have p1 := p1 c5
        have h5 := tok_in L p1.2.1
        have pr := (i1 c5).2.1 rfl
        by_cases c3 : isS L z r.2.1 60 ∨ isS L z r.2.1 61
        · rw [if_pos c3] at h ⊢
          by_cases c6 : q.1 ≠ 0
          · rw [if_pos c6] at h
            exact absurd h c6
          · rw [if_neg c6] at h ⊢
            have c7 : q.1 = 0 := Decidable.not_not.mp c6
            have i2 := i2 (by omega) (by omega) c7
            exact P3.test pr (i2.2.1 rfl)
        · rw [if_neg c3] at h ⊢
          exact pr.to3
    | 4 =>
      have i1 := pp_inf L z n 3 d a hd ha ha0
      have p1 := pp_pos L z n 3 d a ha0 ha
      have i2 := fun (z0 : (pp L z n 3 d a).2.1 ≤ z) (z1 : 0 ≤ (pp L z n 3 d a).2.1) => pp_inf L z n 5 d (pp L z n 3 d a) hd z0 z1
      rw [pp_4] at h ⊢
      generalize pp L z n 3 d a = r at *
      refine ⟨fun q => absurd q (by decide), fun q => absurd q (by decide), fun q => absurd q (by decide), fun _ => ?_, fun q => absurd q (by decide), fun q => absurd q (by decide)⟩
      by_cases c4 : r.1 ≠ 0
      · rw [if_pos c4] at h
        exact absurd h c4
      · rw [if_neg c4] at h ⊢
        have c5 : r.1 = 0 := Decidable.not_not.mp c4
        have p1 := p1 c5
        exact (i2 p1.2.1 (by omega) h).2.2.2.2.2 (by decide) (((i1 c5).2.2.1 rfl).to4)
    | k + 5 =>
      have i1 := pp_inf L z n 3 d (a0 (tE L z a.2.1)) hd ht.2.2.2.1 (show 0 ≤ tE L z a.2.1 by omega)
      have p1 := pp_pos L z n 3 d (a0 (tE L z a.2.1)) (show 0 ≤ tE L z a.2.1 by omega) ht.2.2.2.1
      have i2 := fun b => pp_inf L z n 5 d b hd
      rw [pp_5] at h ⊢
      generalize pp L z n 3 d (a0 (tE L z a.2.1)) = r at *
      refine ⟨fun q => absurd q (by omega), fun q => absurd q (by omega), fun q => absurd q (by omega), fun q => absurd q (by omega), fun q => absurd q (by omega), fun _ pa => ?_⟩
      by_cases c3 : isW L z a.2.1 1111 ∨ isW L z a.2.1 423
      · rw [if_pos c3] at h ⊢
        by_cases c4 : r.1 ≠ 0
        · rw [if_pos c4] at h
          exact absurd h c4
        · rw [if_neg c4] at h ⊢
          have c5 : r.1 = 0 := Decidable.not_not.mp c4
          have p1 := p1 c5
          have q1 : r.2.1 ≤ z := p1.2.1
          have q2 : 0 ≤ r.2.1 := by have : tE L z a.2.1 ≤ r.2.1 := p1.1; omega
          exact (i2 (fWhole L z a r) q1 q2 h).2.2.2.2.2 (by decide) (P4.whole pa ((i1 c5).2.2.1 rfl))
      · rw [if_neg c3] at h ⊢
        exact pa
