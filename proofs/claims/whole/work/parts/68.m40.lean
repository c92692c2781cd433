/-! the reference: a box more, its wheel -/

theorem okNum_3 {n : Int} (h : okNum n) (c : 99 < n) : (111 ≤ n ∧ n ≤ 555) ∧ (1 ≤ n % 10 ∧ n % 10 ≤ 5) ∧ (1 ≤ n / 10 % 10 ∧ n / 10 % 10 ≤ 5) ∧ (1 ≤ n / 100 % 10 ∧ n / 100 % 10 ≤ 5) := by
  obtain ⟨h1, h2⟩ := h
  simp only [digs] at h2
  omega
theorem okNum_2 {n : Int} (h : okNum n) (c : ¬ 99 < n) : (11 ≤ n ∧ n ≤ 55) ∧ (1 ≤ n % 10 ∧ n % 10 ≤ 5) ∧ (1 ≤ n / 10 % 10 ∧ n / 10 % 10 ≤ 5) := by
  obtain ⟨h1, h2⟩ := h
  simp only [digs] at h2
  omega
theorem lo_mDg2 (σ : Hp) (b a d : Int) (h : 1 ≤ d) : aI (mDg σ b a d.toNat) 73 b = a + 2 * (d - 1) := by
  obtain ⟨m, hm⟩ : ∃ m : Nat, d = m + 1 := ⟨(d - 1).toNat, by omega⟩
  have e : d.toNat = m + 1 := by omega
  rw [e, lo_mDg]
  omega
theorem kn_mDg2 (σ : Hp) (b a d : Int) (h : 0 ≤ d) : aI (mDg σ b a d.toNat) 72 b = aI σ 72 b + d := by
  rw [kn_mDg]; omega
theorem dg_100 {n : Int} (h : 0 ≤ n ∧ n ≤ 1000) : rmI (dvI n 100) 10 = n / 100 % 10 := by
  rw [dv_nn h.1 (by omega) (by decide) (by decide), rm_nn (by omega) (by omega) (by decide) (by decide)]
theorem dg_10 {n : Int} (h : 0 ≤ n ∧ n ≤ 1000) : rmI (dvI n 10) 10 = n / 10 % 10 := by
  rw [dv_nn h.1 (by omega) (by decide) (by decide), rm_nn (by omega) (by omega) (by decide) (by decide)]
theorem dg_1 {n : Int} (h : 0 ≤ n ∧ n ≤ 1000) : rmI (dvI n 1) 10 = n % 10 := by
  rw [dv_nn h.1 (by omega) (by decide) (by decide), Int.ediv_one, rm_nn (by omega) (by omega) (by decide) (by decide)]

set_option maxRecDepth 20000 in
theorem bx_wheel {Q : Option AV → Hp → Prop} {τ : Hp} {l n kn x y w b : Int} {a10 : Option AV} (hI : MI τ) (hb : 0 ≤ b ∧ b < 32) (hn : okNum n) (hk : aI τ 72 b = 0)
    (h : ∀ a8 a10, Go M_X12_box Q 333 [some (vr 61), some (vi l), some (vi n), some (vi kn), some (vi x), some (vi y), some (vi w), some (vi b), a8, some (vi 0), a10] [] (mWh τ b n) (0, 0)) :
    Go M_X12_box Q 243 [some (vr 61), some (vi l), some (vi n), some (vi kn), some (vi x), some (vi y), some (vi w), some (vi b), some (vi 0), some (vi (if 99 < n then 100 else 10)), a10] [] τ (0, 0) := by
  by_cases c : 99 < n
  · have h3 := okNum_3 hn c
    rw [if_pos c]
    unfold mWh mWh3 at h
    rw [if_pos c] at h
    have hd1 := dg_100 (n := n) (by omega)
    have hd2 := dg_10 (n := n) (by omega)
    have hd3 := dg_1 (n := n) (by omega)
    generalize n / 100 % 10 = d1 at *
    generalize n / 10 % 10 = d2 at *
    generalize n % 10 = d3 at *
    have l1 := lo_mDg2 τ b 0 d1 h3.2.2.2.1
    have k1 := kn_mDg2 τ b 0 d1 (by omega)
    have M1 := MI_mDg (b := b) hI (Int.le_refl 0) d1.toNat (by omega) (by omega)
    refine bx_unit hI hb (by decide) (Int.le_refl 0) (by omega) (by omega) (by omega) hd1 fun a10 => ?_
    rw [l1] at h ⊢
    generalize mDg τ b 0 d1.toNat = τ1 at *
    have l2 := lo_mDg2 τ1 b (0 + 2 * (d1 - 1) + 4) d2 h3.2.2.1.1
    have k2 := kn_mDg2 τ1 b (0 + 2 * (d1 - 1) + 4) d2 (by omega)
    have M2 := MI_mDg (b := b) M1 (show 0 ≤ 0 + 2 * (d1 - 1) + 4 by omega) d2.toNat (by omega) (by omega)
    refine bx_unit M1 hb (by decide) (by omega) (by omega) (by omega) (by omega) hd2 fun a10 => ?_
    rw [l2] at h ⊢
    generalize mDg τ1 b (0 + 2 * (d1 - 1) + 4) d2.toNat = τ2 at *
    refine bx_unit M2 hb (by decide) (by omega) (by omega) (by omega) (by omega) hd3 fun a10 => ?_
    exact bx_243e (h _ _)
  · have h3 := okNum_2 hn c
    rw [if_neg c]
    unfold mWh mWh2 at h
    rw [if_neg c] at h
    have hd2 := dg_10 (n := n) (by omega)
    have hd3 := dg_1 (n := n) (by omega)
    generalize n / 10 % 10 = d2 at *
    generalize n % 10 = d3 at *
    have l2 := lo_mDg2 τ b 0 d2 h3.2.2.1
    have k2 := kn_mDg2 τ b 0 d2 (by omega)
    have M2 := MI_mDg (b := b) hI (Int.le_refl 0) d2.toNat (by omega) (by omega)
    refine bx_unit hI hb (by decide) (Int.le_refl 0) (by omega) (by omega) (by omega) hd2 fun a10 => ?_
    rw [l2] at h ⊢
    generalize mDg τ b 0 d2.toNat = τ2 at *
    refine bx_unit M2 hb (by decide) (by omega) (by omega) (by omega) (by omega) hd3 fun a10 => ?_
    exact bx_243e (h _ _)
