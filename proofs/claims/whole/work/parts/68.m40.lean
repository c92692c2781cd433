/-! the reference: a box more, its wheel -/

theorem okNum_3 {n : Int} (h : okNum n) (c : 99 < n) : (111 ≤ n ∧ n ≤ 555) ∧ (1 ≤ n % 10 ∧ n % 10 ≤ 5) ∧ (1 ≤ n / 10 % 10 ∧ n / 10 % 10 ≤ 5) ∧ (1 ≤ n / 100 % 10 ∧ n / 100 % 10 ≤ 5) := by
  obtain ⟨h1, h2⟩ := h
  simp only [digs] at h2
  omega
theorem okNum_2 {n : Int} (h : okNum n) (c : ¬ 99 < n) : (11 ≤ n ∧ n ≤ 55) ∧ (1 ≤ n % 10 ∧ n % 10 ≤ 5) ∧ (1 ≤ n / 10 % 10 ∧ n / 10 % 10 ≤ 5) := by
  obtain ⟨h1, h2⟩ := h
  simp only [digs] at h2
  omega
theorem lo_mDg2 (σ : Hp) (b a d : Int) (h : 1 ≤ d) : aI (mDg σ b a d.toNat) 73 b = a + 2 * (d - 1) := by
  obtain ⟨m, hm⟩ : ∃ m : Nat, d = m + 1 := ⟨(d - 1).toNat, by omega⟩
  have e : d.toNat = m + 1 := by omega
  rw [e, lo_mDg]
  omega
theorem kn_mDg2 (σ : Hp) (b a d : Int) (h : 0 ≤ d) : aI (mDg σ b a d.toNat) 72 b = aI σ 72 b + d := by
  rw [kn_mDg]; omega
theorem dg_100 {n : Int} (h : 0 ≤ n ∧ n ≤ 1000) : rmI (dvI n 100) 10 = n / 100 % 10 := by
  rw [dv_nn h.1 (by omega) (by decide) (by decide), rm_nn (by omega) (by omega) (by decide) (by decide)]
theorem dg_10 {n : Int} (h : 0 ≤ n ∧ n ≤ 1000) : rmI (dvI n 10) 10 = n / 10 % 10 := by
  rw [dv_nn h.1 (by omega) (by decide) (by decide), rm_nn (by omega) (by omega) (by decide) (by decide)]
theorem dg_1 {n : Int} (h : 0 ≤ n ∧ n ≤ 1000) : rmI (dvI n 1) 10 = n % 10 := by
  rw [dv_nn h.1 (by omega) (by decide) (by decide), Int.ediv_one, rm_nn (by omega) (by omega) (by decide) (by decide)]
