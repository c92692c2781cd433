/-! the reference's answer to an alarm reads its own places alone; who is sent to whom behind it -/

section REC
variable {σ σ' τ : Hp}
theorem RE_q (h : RE σ σ') (r j v : Int) : RE (qI σ r j v) (qI σ' r j v) := ⟨fun k a b => ⟨(h.1 k a b).1, (h.1 k a b).2.1, by
  funext i
  rw [aI_qI, aI_qI, (h.1 k a b).2.2.1], (h.1 k a b).2.2.2⟩, fun f a b => h.2 f a b⟩
theorem RE_p (h : RE σ σ') (g : Nat) (k v : Int) : RE (pI σ g k v) (pI σ' g k v) := ⟨fun k a b => h.1 k a b, fun f a b => ⟨by
  rw [fI_pI, fI_pI, (h.2 f a b).1], (h.2 f a b).2⟩⟩
theorem RE_opens (h : RE σ σ') (d : Int) : RE (mOpens σ d) (mOpens σ' d) := RE_q (RE_q (RE_q (RE_q h _ _ _) _ _ _) _ _ _) _ _ _
theorem RE_sums (h : RE σ σ') (d : Int) : RE (mSums σ d) (mSums σ' d) := by
  unfold mSums
  simp only [h.eqs]
  exact RE_q h _ _ _
theorem RE_tv (h : RE σ σ') (d : Int) : mTV σ' d = mTV σ d := by
  unfold mTV mTV4 mTV3 mTV2 mTV1
  simp only [h.eqs]
theorem RE_tests (h : RE σ σ') (d : Int) : RE (mTests σ d) (mTests σ' d) := by
  have h2 := RE_sums h d
  unfold mTests
  rw [RE_tv h2 d]
  exact RE_q (RE_q (RE_q (RE_q h2 _ _ _) _ _ _) _ _ _) _ _ _
theorem RE_cmp (h : RE σ σ') (c d : Int) : RE (mCmp σ c d) (mCmp σ' c d) := by
  have h2 := RE_sums h d
  unfold mCmp
  simp only [h2.eqs]
  exact RE_q (RE_q (RE_q (RE_q h2 _ _ _) _ _ _) _ _ _) _ _ _
theorem RE_pop (h : RE σ σ') : ∀ (n : Nat) (v : Int), mPop σ' n v = mPop σ n v
  | 0, v => rfl
  | n + 1, v => by
    unfold mPop
    simp only [h.eqs, RE_pop h n]
theorem RE_put (h : RE σ σ') (v d : Int) : RE (mPut σ v d).1 (mPut σ' v d).1 ∧ (mPut σ' v d).2 = (mPut σ v d).2 := by
  unfold mPut
  rw [RE_pop h]
  exact ⟨RE_q h _ _ _, rfl⟩
theorem RE_stc (h : RE σ σ') (d c : Int) : RE (mStC σ d c).1 (mStC σ' d c).1 ∧ (mStC σ' d c).2 = (mStC σ d c).2 := by
  unfold mStC
  by_cases c1 : c = 28 ∨ c = 30
  · rw [if_pos c1, if_pos c1]
    exact ⟨RE_opens (RE_q h _ _ _) _, rfl⟩
  · rw [if_neg c1, if_neg c1]
    by_cases c2 : c = 20 ∨ c = 21
    · rw [if_pos c2, if_pos c2]
      exact ⟨RE_q (RE_sums h d) _ _ _, rfl⟩
    · rw [if_neg c2, if_neg c2]
      by_cases c3 : c = 24 ∨ c = 25
      · rw [if_pos c3, if_pos c3]
        exact ⟨RE_cmp h c d, rfl⟩
      · rw [if_neg c3, if_neg c3]
        by_cases c4 : c = 26 ∨ c = 27
        · rw [if_pos c4, if_pos c4]
          exact ⟨RE_q (RE_tests h d) _ _ _, rfl⟩
        · rw [if_neg c4, if_neg c4]
          by_cases c5 : c = 29
          · rw [if_pos c5, if_pos c5]
            have h2 := RE_tests h d
            have e : aI (mTests σ' d) 100 = aI (mTests σ d) 100 := (h2.1 100 (by omega) (by omega)).2.2.1
            rw [e]
            exact RE_put h2 _ _
          · rw [if_neg c5, if_neg c5]
            have e : aI σ' 108 = aI σ 108 := (h.1 108 (by omega) (by omega)).2.2.1
            rw [e]
            exact RE_put h _ _
theorem RE_runs : ∀ (n : Nat) {σ σ' : Hp} (_ : RE σ σ') (d k : Int), RE (mRuns σ d k n).1 (mRuns σ' d k n).1
  | 0, σ, σ', h, d, k => h
  | n + 1, σ, σ', h, d, k => by
    have e : aI σ' 97 = aI σ 97 := (h.1 97 (by omega) (by omega)).2.2.1
    unfold mRuns
    rw [e]
    have s := RE_stc h d (aI σ 97 k)
    rw [s.2]
    exact RE_runs n s.1 _ _
theorem RE_worth (h : RE σ σ') (l : Int) : RE (mWorth σ l) (mWorth σ' l) := by
  have e1 : aI σ' 95 = aI σ 95 := (h.1 95 (by omega) (by omega)).2.2.1
  have e2 : aI σ' 96 = aI σ 96 := (h.1 96 (by omega) (by omega)).2.2.1
  unfold mWorth
  rw [e1, e2]
  exact RE_tests (RE_runs _ (RE_opens h 0) _ _) 0
theorem RE_kn (h : RE σ σ') (a d : Int) : ∀ n : Nat, mKn σ' a d n = mKn σ a d n
  | 0 => by
    unfold mKn
    simp only [h.eqs]
  | n + 1 => by
    unfold mKn
    simp only [h.eqs, RE_kn h a d n]
theorem RE_rate (h : RE σ σ') (b d : Int) : mRate σ' b d = mRate σ b d := by
  unfold mRate mRt
  simp only [h.eqs, RE_kn h]
theorem RE_facts (h : RE σ σ') (a : Int) : RE (mFacts σ a) (mFacts σ' a) := by
  unfold mFacts
  rw [RE_rate h]
  simp only [h.eqs]
  exact RE_q (RE_q (RE_q (RE_q (RE_q (RE_q (RE_q h _ _ _) _ _ _) _ _ _) _ _ _) _ _ _) _ _ _) _ _ _
theorem RE_way (h : RE σ σ') (u b : Int) : mWay σ' u b = mWay σ u b := by
  unfold mWay
  simp only [h.eqs]
theorem RE_best (h : RE σ σ') (kn b : Int) : ∀ n : Nat, mBest σ' kn b n = mBest σ kn b n
  | 0 => rfl
  | n + 1 => by
    unfold mBest
    simp only [h.eqs, RE_way h, RE_best h kn b n]
theorem RE_snd (h : RE σ σ') (a c : Int) : RE (mSnd σ a c) (mSnd σ' a c) := by
  unfold mSnd
  simp only [h.eqs, RE_way h]
  exact RE_q (RE_q (RE_q (RE_q (RE_q h _ _ _) _ _ _) _ _ _) _ _ _) _ _ _
theorem RE_sends : ∀ (n : Nat) {σ σ' : Hp} (_ : RE σ σ') (a kn : Int), RE (mSends σ a kn n) (mSends σ' a kn n)
  | 0, σ, σ', h, a, kn => h
  | n + 1, σ, σ', h, a, kn => by
    unfold mSends
    rw [RE_best h, (h.1 109 (by omega) (by omega)).2.2.1, (h.2 1335 (by omega) (by omega)).1]
    split
    · exact h
    · exact RE_sends n (RE_snd h a _) a kn
theorem RE_lines (a : Int) : ∀ (n l : Nat) {σ σ' : Hp} (_ : RE σ σ'), RE (mLines σ a n l) (mLines σ' a n l)
  | 0, l, σ, σ', h => h
  | n + 1, l, σ, σ', h => by
    have hw := RE_worth h (l : Int)
    unfold mLines
    rw [(hw.1 100 (by omega) (by omega)).2.2.1, (h.1 93 (by omega) (by omega)).2.2.1, (h.1 94 (by omega) (by omega)).2.2.1]
    split
    · exact RE_lines a n (l + 1) hw
    · exact RE_sends _ (RE_sends _ hw _ _) _ _
theorem RE_ans (h : RE σ σ') (a : Int) : RE (mAns σ a) (mAns σ' a) := by
  unfold mAns
  rw [(h.2 1352 (by omega) (by omega)).1]
  exact RE_lines a _ 0 (RE_facts h a)
theorem RE_call (h : RE σ σ') (a : Int) : RE (mCall σ a) (mCall σ' a) := by
  unfold mCall
  rw [(h.1 111 (by omega) (by omega)).2.2.1]
  exact RE_q (RE_p h _ _ _) _ _ _
theorem RE_raise (h : RE σ σ') (b : Int) : RE (mRaise σ b) (mRaise σ' b) := by
  unfold mRaise
  rw [(h.2 1371 (by omega) (by omega)).1, (h.2 1301 (by omega) (by omega)).1]
  exact RE_p (RE_q (RE_q (RE_q (RE_p h _ _ _) _ _ _) _ _ _) _ _ _) _ _ _
theorem CE_mSends : ∀ (n : Nat) (τ : Hp) (a kn : Int), CE τ (mSends τ a kn n)
  | 0, τ, _, _ => CE.rf τ
  | n + 1, τ, a, kn => by
    unfold mSends
    split
    · exact CE.rf τ
    · refine CE.tr ?_ (CE_mSends n _ a kn)
      exact ((((CE_qI _ _ _ (by decide)).tr (CE_qI _ _ _ (by decide))).tr (CE_qI _ _ _ (by decide))).tr (CE_qI _ _ _ (by decide))).tr (CE_qI _ _ _ (by decide))
theorem CE_mLines (a : Int) : ∀ (n l : Nat) (τ : Hp), CE τ (mLines τ a n l)
  | 0, _, τ => CE.rf τ
  | n + 1, l, τ => by
    have h := (Scr_mWorth τ l).ce
    unfold mLines
    split
    · exact h.tr (CE_mLines a n (l + 1) _)
    · exact (h.tr (CE_mSends _ _ _ _)).tr (CE_mSends _ _ _ _)
theorem CE_mAns (τ : Hp) (a : Int) : CE τ (mAns τ a) := (Scr_mFacts τ a).ce.tr (CE_mLines a _ 0 _)
abbrev ansR : List Int := [91, 89, 90, 116, 115, 100, 101, 102, 103, 104, 105, 106, 107, 108]
theorem Rf_mAns {a : Int} (ha : 0 ≤ a ∧ a < 100) (hI : MI τ) (hm : aI τ 115 a ≤ mTo τ a) : Rf [] ansR τ (mAns τ a) := ⟨fun f _ _ _ => by rw [(mAns_c ha hI hm).1], fun r _ _ h => by
  simp only [ansR, List.mem_cons, List.not_mem_nil, or_false, not_or] at h
  exact mAns_a τ a (by simp [scrA, h]) (by simp [h])⟩
/-! who is sent to whom -/
def Snt (τ : Hp) (a : Int) : Prop := MI τ ∧ InS2 τ ∧ HIs τ ∧ (0 ≤ a ∧ a < fI τ 1371 61) ∧ aI τ 112 a = 0
theorem Snt_snd {a c : Int} (h : Snt τ a) (hc : 0 ≤ c ∧ c < fI τ 1335 61) (hx : 0 ≤ aI τ 89 c) : Snt (mSnd τ a c) a := by
  obtain ⟨hI, hS, hH, ha, ho⟩ := h
  have hcs := hI.companies_s
  have has := hI.alarms_s
  have hhs := hI.houses_s
  have t3 := hS.2.2 a ha ho
  have tt := mTo_snd (a := a) hI hc hx
  have hM := MI_mSnd (a := a) hI (by omega) (c := c) (by omega) (by omega)
  have v1 : ∀ q, aI (mSnd τ a c) 89 q = if q = c then -1 else aI τ 89 q := fun q => by simp [mSnd, aI_qI]
  have v2 : ∀ q, aI (mSnd τ a c) 90 q = if q = c then a else aI τ 90 q := fun q => by simp [mSnd, aI_qI]
  have v3 : ∀ q, aI (mSnd τ a c) 115 q = if q = a then aI τ 115 a + 1 else aI τ 115 q := fun q => by simp [mSnd, aI_qI]
  have v4 : ∀ q, aI (mSnd τ a c) 116 q = if q = 20 * a + aI τ 115 a then c else aI τ 116 q := fun q => by simp [mSnd, aI_qI]
  have v5 : aI (mSnd τ a c) 112 = aI τ 112 := by funext q; simp [mSnd, aI_qI]
  have v6 : aI (mSnd τ a c) 88 = aI τ 88 := by funext q; simp [mSnd, aI_qI]
  have f : fI (mSnd τ a c) = fI τ := rfl
  have s0 := hI.sentMany_ a
  refine ⟨hM, ⟨fun q q1 q2 q3 => ?_, fun x i q1 q2 => ?_, fun x q1 q2 => ?_⟩, fun q q1 q2 => ?_, by rw [f]; exact ha, by rw [v5]; exact ho⟩
  · rw [f] at q2
    by_cases e : q = c
    · rw [v2, if_pos e, v5, v3, if_pos rfl, f]
      exact ⟨ha, ho, aI τ 115 a, by omega, by rw [v4, if_pos rfl, e]⟩
    · rw [v1, if_neg e] at q3
      obtain ⟨k1, k2, i, k3, k4⟩ := hS.1 q q1 q2 q3
      rw [v2, if_neg e, v5, f]
      have sx := hI.sentMany_ (aI τ 90 q)
      refine ⟨k1, k2, i, ?_, ?_⟩
      · rw [v3]
        split
        · rename_i u
          rw [u] at k3
          omega
        · exact k3
      · rw [v4, if_neg ?_]
        · exact k4
        · intro u
          by_cases e2 : aI τ 90 q = a
          · rw [e2] at k3 u
            omega
          · omega
  · rw [f] at q1
    rw [v3] at q2
    rw [v4, f, v5]
    have sx := hI.sentMany_ x
    by_cases e : x = a ∧ i = aI τ 115 a
    · rw [if_pos (by rw [e.1, e.2])]
      refine ⟨hc, fun _ => ?_⟩
      rw [v1, v2, if_pos rfl, if_pos rfl, e.1]
      exact ⟨by omega, rfl⟩
    · have q3 : i < aI τ 115 x := by
        by_cases e2 : x = a
        · rw [if_pos e2] at q2
          have : ¬ i = aI τ 115 a := fun u => e ⟨e2, u⟩
          rw [e2]
          omega
        · rw [if_neg e2] at q2
          exact q2.2
      rw [if_neg (fun u => by
        by_cases e2 : x = a
        · exact e ⟨e2, by rw [e2] at u; omega⟩
        · omega)]
      obtain ⟨k1, k2⟩ := hS.2.1 x i q1 ⟨q2.1, q3⟩
      refine ⟨k1, fun q4 => ?_⟩
      obtain ⟨k3, k4⟩ := k2 q4
      have hne : ¬ aI τ 116 (20 * x + i) = c := fun u => by rw [u] at k3; omega
      rw [v1, v2, if_neg hne, if_neg hne]
      exact ⟨k3, k4⟩
  · rw [f] at q1
    rw [v5] at q2
    have g := hS.2.2 x q1 q2
    rw [v3]
    by_cases e : x = a
    · rw [if_pos e, e, tt.2]
      omega
    · rw [if_neg e]
      have : mTo (mSnd τ a c) x = mTo τ x := by
        unfold mTo
        rw [f]
        refine hwM_cgb _ fun j _ _ => ?_
        rw [v1, v2]
        by_cases e2 : j = c
        · rw [if_pos e2, if_pos e2, e2]
          constructor
          · rintro ⟨-, u⟩
            exact absurd u.symm e
          · rintro ⟨u, -⟩
            omega
        · rw [if_neg e2, if_neg e2]
      rw [this]
      exact g
  · rw [f] at q2
    obtain ⟨k1, k2⟩ := hH q q1 q2
    rw [v1, v6, f]
    refine ⟨?_, k2⟩
    split
    · omega
    · exact k1
theorem Snt_sends {a : Int} (kn : Int) : ∀ (n : Nat) {τ : Hp} (_ : Snt τ a), Snt (mSends τ a kn n) a
  | 0, τ, h => h
  | n + 1, τ, h => by
    have hs := h.1.companies_s
    have hb := mBest_in τ kn (aI τ 109 a) (fI τ 1335 61).toNat
    unfold mSends
    split
    · exact h
    · have h2 := hb.2.2 (by omega)
      exact Snt_sends kn n (Snt_snd h (by omega) h2.2)
theorem Snt_scr {a : Int} {ρ : Hp} (h : Snt τ a) (z : Scr τ ρ) (hM : MI ρ) : Snt ρ a := by
  obtain ⟨hI, hS, hH, ha, ho⟩ := h
  exact ⟨hM, hS.rf z.rf (by decide) (by decide), hH.rf z.rf (by decide) (by decide), by rw [z.fI]; exact ha, by rw [z.a (r := 112) (by decide)]; exact ho⟩
theorem Snt_lines {a : Int} : ∀ (n l : Nat) {τ : Hp} (_ : Snt τ a), Snt (mLines τ a n l) a
  | 0, _, τ, h => h
  | n + 1, l, τ, h => by
    have g := Snt_scr h (Scr_mWorth τ l) (MI_mWorth h.1 l)
    unfold mLines
    split
    · exact Snt_lines n (l + 1) g
    · exact Snt_sends 1 _ (Snt_sends 0 _ g)
theorem Snt_ans {a : Int} (h : Snt τ a) : Snt (mAns τ a) a := Snt_lines _ 0 (Snt_scr h (Scr_mFacts τ a) (MI_mFacts h.1 a))
end REC
