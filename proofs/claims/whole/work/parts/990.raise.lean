/-! a new alarm tells nothing of its box's rate; the class's new alarm leaves the rest as it lies -/

theorem mRaise_a {τ : Hp} {b r j : Int} (h : ¬ j = fI τ 1371 61 ∨ (¬ r = 109 ∧ ¬ r = 110 ∧ ¬ r = 111)) : aI (mRaise τ b) r j = aI τ r j := by
  unfold mRaise
  rw [aI_pI, aI_qI, if_neg (by omega), aI_qI, if_neg (by omega), aI_qI, if_neg (by omega), aI_pI]
theorem mKn_raise {τ : Hp} (b a d : Int) : ∀ n, mKn (mRaise τ b) a d n = mKn τ a d n
  | 0 => by
    unfold mKn
    rw [mRaise_a (Or.inr (by decide)), mRaise_a (Or.inr (by decide)), mRaise_a (Or.inr (by decide))]
  | n + 1 => by
    unfold mKn
    rw [mRaise_a (Or.inr (by decide)), mRaise_a (Or.inr (by decide)), mRaise_a (Or.inr (by decide)), mKn_raise b a d n]
theorem mKn_new {τ : Hp} {a : Int} (h : aI τ 112 a = 0) (d : Int) : ∀ n : Nat, (∀ w : Int, 0 ≤ w → w < n → ¬ aI τ 117 w = a) → mKn τ a d n = 2
  | 0, _ => by
    unfold mKn
    rw [if_pos h]
  | n + 1, hw => by
    unfold mKn
    rw [if_neg (fun q => hw n (by omega) (by omega) q.1)]
    exact mKn_new h d n (fun w a b => hw w a (by omega))
theorem mRate_raise {τ : Hp} (hI : MI τ) (hW : WI τ) (ho : aI τ 112 (fI τ 1371 61) = 0) (b c d : Int) : mRate (mRaise τ b) c d = mRate τ c d := by
  have hs := hI.alarms_s
  have key : ∀ P : Int → Prop, ¬ P 2 → hwM (mRt (mRaise τ b) c d P) (fI (mRaise τ b) 1371 61).toNat = hwM (mRt τ c d P) (fI τ 1371 61).toNat := fun P hP => by
    have en : fI (mRaise τ b) 1371 61 = fI τ 1371 61 + 1 := rfl
    have ew : fI (mRaise τ b) 1380 61 = fI τ 1380 61 := rfl
    rw [en, show (fI τ 1371 61 + 1).toNat = (fI τ 1371 61).toNat + 1 by omega]
    have hnew : ¬ mRt (mRaise τ b) c d P ((fI τ 1371 61).toNat : Nat) := by
      unfold mRt
      rw [mKn_raise, ew, show (((fI τ 1371 61).toNat : Nat) : Int) = fI τ 1371 61 by omega, mKn_new ho d _ (fun w w0 w1 => by
        have := (hW w w0 (by omega)).1
        omega)]
      exact fun q => hP q.2.2
    rw [hwM_f hnew]
    have gen : ∀ n : Nat, (n : Int) ≤ fI τ 1371 61 → hwM (mRt (mRaise τ b) c d P) n = hwM (mRt τ c d P) n := by
      intro n
      induction n with
      | zero => intro _; rfl
      | succ n ih =>
        intro hn
        rw [hwM_s, hwM_s, ih (by omega)]
        have : mRt (mRaise τ b) c d P n = mRt τ c d P n := by
          unfold mRt
          rw [mKn_raise, ew, mRaise_a (Or.inl (by omega)), mRaise_a (Or.inl (by omega))]
        rw [this]
    exact gen _ (by omega)
  unfold mRate
  rw [key _ (by decide), key _ (by decide)]
theorem cAlm_kp {σ : Hp} (hw : Wf σ) (b d : Int) : Kp (fun _ => False) (fun _ => False) σ (cAlm (mk σ 1 0) (nx σ) b d) := by
  refine ⟨fun k hk => ?_, ?_⟩
  · have hn := (hw.2.1 k hk).2.1
    have h1 : ¬ k = nx σ := by omega
    have h2 : ¬ k = nx σ + 1 := by omega
    unfold cAlm
    simp only [kd_pI, ln_pI, fI_pI, fL_pI, fR_pI, aI_pI, aL_pI, aR_pI, kd_pR, ln_pR, fI_pR, fL_pR, fR_pR, aI_pR, aL_pR, aR_pR, kd_mk, ln_mk, fI_mk, fL_mk, fR_mk, aI_mk, aL_mk, aR_mk, nx_mk, h1, h2, and_false, if_false, and_self, implies_true]
  · have h1 : ¬ (0 : Int) = nx σ := by have := hw.1; omega
    unfold cAlm
    simp only [fR_pI, fR_pR, fR_mk, h1, and_false, if_false]
