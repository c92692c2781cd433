/-! the memory where the law begins: the texts, their bytes, the lists' empty row, the script -/

def txE : List (Nat × List Int) := [(54, [115, 101, 110, 100]), (67, [101, 110, 103, 105, 110, 101, 115]), (72, [108, 97, 100, 100, 101, 114, 115]), (74, [119, 104, 101, 110]), (93, [97, 110, 100]), (95, [111, 114]), (107, [110, 111, 116]), (117, [98, 111, 120]), (119, [119, 97, 114, 100]), (121, [108, 111, 111, 112]), (123, [104, 111, 117, 114]), (125, [99, 97, 108, 108]), (127, [111, 117, 116]), (129, [102, 97, 108, 115, 101]), (164, [40, 41, 60, 61, 43, 45, 59])]
def txB (i : Nat) : List Int := (txE.getD i (0, [])).2
def txt (i : Nat) (j : Int) : Int := (txB i).getD j.toNat 0
theorem txB_lo {i : Nat} (h : ¬ i < 15) : txB i = [] := by
  unfold txB
  rw [List.getD_eq_getElem?_getD, List.getElem?_eq_none (by show txE.length ≤ i; have e : txE.length = 15 := rfl; omega)]
  rfl
theorem txB_len (i : Nat) : (txB i).length ≤ 7 := by
  by_cases h : i < 15
  · have k : ∀ i : Nat, i < 15 → (txB i).length ≤ 7 := by decide +kernel
    exact k i h
  · rw [txB_lo h]
    exact Nat.zero_le _
theorem txB_at {i : Nat} {x : Int} (h : x ∈ txB i) : 0 ≤ x ∧ x < 128 := by
  by_cases c : i < 15
  · have k : ∀ i : Nat, i < 15 → ∀ x ∈ txB i, 0 ≤ x ∧ x < 128 := by decide +kernel
    exact k i c x h
  · rw [txB_lo c] at h
    cases h
theorem txt_rg (i : Nat) (j : Int) : 0 ≤ txt i j ∧ txt i j < 128 := by
  unfold txt
  rw [List.getD_eq_getElem?_getD]
  cases h : (txB i)[j.toNat]? with
  | none => exact ⟨by decide, by decide⟩
  | some x => exact txB_at (List.mem_of_getElem? h)
/-- the memory: L ints xs are the script, fz is where the formatter lies -/
def stM (L : Nat) (xs : Nat → Int32) (fz : Int) : Hp :=
  (1, fun k => if -15 ≤ k ∧ k ≤ -1 then 20 else if -31 ≤ k ∧ k ≤ -17 then 21 else if k = -32 then 105 else if k = -33 then 108 else 0,
    fun k => if -31 ≤ k ∧ k ≤ -17 then ((txB (-17 - k).toNat).length : Int) else if k = -33 then (L : Int) else 0,
    fun f k => if f = 3001 ∧ k = 0 then 1 else 0, fun _ _ => 0,
    fun f k => if f = 2000 ∧ (-15 ≤ k ∧ k ≤ -1) then k - 16 else if f = 3000 ∧ k = 0 then -32 else if f = 3002 ∧ k = 0 then fz else 0,
    fun r j => if -31 ≤ r ∧ r ≤ -17 then txt (-17 - r).toNat j else if r = -33 then (xs j.toNat).toInt else 0, fun _ _ => 0, fun _ _ => 0)
section STM
variable {L : Nat} {xs : Nat → Int32} {fz : Int}
theorem nx_stM : nx (stM L xs fz) = 1 := Eq.trans rfl rfl
theorem kd_stM (k : Int) : kd (stM L xs fz) k = if -15 ≤ k ∧ k ≤ -1 then 20 else if -31 ≤ k ∧ k ≤ -17 then 21 else if k = -32 then 105 else if k = -33 then 108 else 0 := Eq.trans rfl rfl
theorem ln_stM (k : Int) : ln (stM L xs fz) k = if -31 ≤ k ∧ k ≤ -17 then ((txB (-17 - k).toNat).length : Int) else if k = -33 then (L : Int) else 0 := Eq.trans rfl rfl
theorem fI_stM (f : Nat) (k : Int) : fI (stM L xs fz) f k = if f = 3001 ∧ k = 0 then 1 else 0 := Eq.trans rfl rfl
theorem fL_stM (f : Nat) (k : Int) : fL (stM L xs fz) f k = 0 := Eq.trans rfl rfl
theorem fR_stM (f : Nat) (k : Int) : fR (stM L xs fz) f k = if f = 2000 ∧ (-15 ≤ k ∧ k ≤ -1) then k - 16 else if f = 3000 ∧ k = 0 then -32 else if f = 3002 ∧ k = 0 then fz else 0 := Eq.trans rfl rfl
theorem aI_stM (r j : Int) : aI (stM L xs fz) r j = if -31 ≤ r ∧ r ≤ -17 then txt (-17 - r).toNat j else if r = -33 then (xs j.toNat).toInt else 0 := Eq.trans rfl rfl
theorem aL_stM (r j : Int) : aL (stM L xs fz) r j = 0 := Eq.trans rfl rfl
theorem aR_stM (r j : Int) : aR (stM L xs fz) r j = 0 := Eq.trans rfl rfl
theorem stM_k (k : Int) : (kd (stM L xs fz) k = 20 ∧ -15 ≤ k ∧ k ≤ -1) ∨ (kd (stM L xs fz) k = 21 ∧ -31 ≤ k ∧ k ≤ -17) ∨ (kd (stM L xs fz) k = 105 ∧ k = -32) ∨ (kd (stM L xs fz) k = 108 ∧ k = -33) ∨ kd (stM L xs fz) k = 0 := by
  rw [kd_stM]
  by_cases c1 : -15 ≤ k ∧ k ≤ -1
  · exact Or.inl ⟨if_pos c1, c1⟩
  by_cases c2 : -31 ≤ k ∧ k ≤ -17
  · exact Or.inr (Or.inl ⟨(if_neg c1).trans (if_pos c2), c2⟩)
  by_cases c3 : k = -32
  · exact Or.inr (Or.inr (Or.inl ⟨(if_neg c1).trans ((if_neg c2).trans (if_pos c3)), c3⟩))
  by_cases c4 : k = -33
  · exact Or.inr (Or.inr (Or.inr (Or.inl ⟨(if_neg c1).trans ((if_neg c2).trans ((if_neg c3).trans (if_pos c4))), c4⟩)))
  · exact Or.inr (Or.inr (Or.inr (Or.inr ((if_neg c1).trans ((if_neg c2).trans ((if_neg c3).trans (if_neg c4)))))))
theorem ln_stM_r : ln (stM L xs fz) (-32) = 0 := by
  rw [ln_stM, if_neg (by decide), if_neg (by decide)]
theorem ln_stM_s : ln (stM L xs fz) (-33) = L := by
  rw [ln_stM, if_neg (by decide), if_pos rfl]
theorem i32_rg (x : Int32) : -2147483648 ≤ x.toInt ∧ x.toInt < 2147483648 := by
  have h := c32_toInt x.toInt
  rw [c32_of_toInt] at h
  unfold wI at h
  omega
theorem Wf_stM (hL : L ≤ 3584) : Wf (stM L xs fz) := by
  refine ⟨Int.le_refl 1, fun k hk => ?_, fun k => ?_, fun k hk => ?_⟩
  · have h32 := ln_stM_r (L := L) (xs := xs) (fz := fz)
    have hn := nx_stM (L := L) (xs := xs) (fz := fz)
    rcases stM_k (L := L) (xs := xs) (fz := fz) k with ⟨h, h1⟩ | ⟨h, h1⟩ | ⟨h, h1⟩ | ⟨h, h1⟩ | h
    · rw [h, hn]
      exact ⟨by omega, by omega, by omega, fun _ => by omega, fun _ => by omega⟩
    · rw [h, hn]
      exact ⟨by omega, by omega, by omega, fun _ => by omega, fun _ => by omega⟩
    · rw [h, hn, h1, h32]
      exact ⟨by omega, by omega, by omega, fun _ => by omega, fun _ => by omega⟩
    · rw [h, hn]
      exact ⟨by omega, by omega, by omega, fun _ => by omega, fun _ => by omega⟩
    · exact absurd h hk
  · rw [ln_stM]
    have h := txB_len (-17 - k).toNat
    split
    · omega
    · split <;> omega
  · have hk : 1 ≤ k := hk
    refine ⟨fun f => ?_, fun f => fL_stM f k, fun f => ?_, fun j => ?_, fun j => aL_stM k j, fun j => aR_stM k j⟩
    · rw [fI_stM, if_neg (by omega)]
    · rw [fR_stM, if_neg (by omega), if_neg (by omega), if_neg (by omega)]
    · rw [aI_stM, if_neg (by omega), if_neg (by omega)]
theorem SK_stM : SK (stM L xs fz) := by
  refine ⟨(fI_stM 3001 0).trans (if_pos ⟨rfl, rfl⟩), fun k hk => ⟨?_, ?_⟩, fun r hr => ⟨?_, fun j => ?_⟩⟩
  · rw [fI_stM, if_neg (fun q => absurd q.1 (by decide))]
  · have h : -15 ≤ k ∧ k ≤ -1 := by
      rcases stM_k (L := L) (xs := xs) (fz := fz) k with ⟨h, h1⟩ | ⟨h, h1⟩ | ⟨h, h1⟩ | ⟨h, h1⟩ | h
      · exact h1
      all_goals (rw [h] at hk; exact absurd hk (by decide))
    rw [fR_stM, if_pos ⟨rfl, h⟩, kd_stM, if_neg (by omega), if_pos (by omega)]
  · have h : -31 ≤ r ∧ r ≤ -17 := by
      rcases stM_k (L := L) (xs := xs) (fz := fz) r with ⟨h, h1⟩ | ⟨h, h1⟩ | ⟨h, h1⟩ | ⟨h, h1⟩ | h
      · rw [h] at hr; exact absurd hr (by decide)
      · exact h1
      all_goals (rw [h] at hr; exact absurd hr (by decide))
    rw [ln_stM, if_pos h]
    have := txB_len (-17 - r).toNat
    omega
  · have h : -31 ≤ r ∧ r ≤ -17 := by
      rcases stM_k (L := L) (xs := xs) (fz := fz) r with ⟨h, h1⟩ | ⟨h, h1⟩ | ⟨h, h1⟩ | ⟨h, h1⟩ | h
      · rw [h] at hr; exact absurd hr (by decide)
      · exact h1
      all_goals (rw [h] at hr; exact absurd hr (by decide))
    rw [aI_stM, if_pos h]
    exact txt_rg _ _
/-- text i lies at -(i+1), its bytes at -(i+17) -/
theorem tx_at {i : Nat} (hi : i < 15) : kd (stM L xs fz) (-((i : Int) + 1)) = 20 ∧ fR (stM L xs fz) 2000 (-((i : Int) + 1)) = -((i : Int) + 17) ∧ ln (stM L xs fz) (-((i : Int) + 17)) = ((txB i).length : Int) ∧ aI (stM L xs fz) (-((i : Int) + 17)) = txt i := by
  have e : (-17 - -((i : Int) + 17)).toNat = i := by omega
  refine ⟨?_, ?_, ?_, ?_⟩
  · rw [kd_stM, if_pos (by omega)]
  · rw [fR_stM, if_pos ⟨rfl, by omega⟩]
    omega
  · rw [ln_stM, if_pos (by omega), e]
  · funext j
    rw [aI_stM, if_pos (by omega), e]
def wdOk (i : Nat) (w : Int) : Prop := (1 ≤ (txB i).length ∧ (txB i).length ≤ 8) ∧ (∀ x ∈ txB i, 97 ≤ x ∧ x ≤ 122) ∧ wv (txt i) 0 (txB i).length = w
theorem Wd_stM {i : Nat} {r w : Int} (hi : i < 15) (hr : r = -((i : Int) + 1)) (h : wdOk i w) : Wd (stM L xs fz) r w := by
  subst hr
  obtain ⟨a1, a2, a3, a4⟩ := tx_at (L := L) (xs := xs) (fz := fz) hi
  obtain ⟨h1, h2, h3⟩ := h
  unfold Wd
  rw [a1, a2, a3, a4]
  refine ⟨SK_stM, rfl, by omega, fun j q1 q2 => ?_, h3⟩
  unfold txt
  rw [List.getD_eq_getElem?_getD]
  have hlt : j.toNat < (txB i).length := by omega
  rw [List.getElem?_eq_getElem hlt]
  exact h2 _ (List.getElem_mem hlt)
theorem wd_ok0 : wdOk 0 378004 := ⟨by decide +kernel, by decide +kernel, by decide +kernel⟩
theorem wd_ok1 : wdOk 1 2141894737 := ⟨by decide +kernel, by decide +kernel, by decide +kernel⟩
theorem wd_ok2 : wdOk 2 4665603421 := ⟨by decide +kernel, by decide +kernel, by decide +kernel⟩
theorem wd_ok3 : wdOk 3 458690 := ⟨by decide +kernel, by decide +kernel, by decide +kernel⟩
theorem wd_ok4 : wdOk 4 1111 := ⟨by decide +kernel, by decide +kernel, by decide +kernel⟩
theorem wd_ok5 : wdOk 5 423 := ⟨by decide +kernel, by decide +kernel, by decide +kernel⟩
theorem wd_ok6 : wdOk 6 10631 := ⟨by decide +kernel, by decide +kernel, by decide +kernel⟩
theorem wd_ok7 : wdOk 7 1887 := ⟨by decide +kernel, by decide +kernel, by decide +kernel⟩
theorem wd_ok8 : wdOk 8 453928 := ⟨by decide +kernel, by decide +kernel, by decide +kernel⟩
theorem wd_ok9 : wdOk 9 247552 := ⟨by decide +kernel, by decide +kernel, by decide +kernel⟩
theorem wd_ok10 : wdOk 10 168984 := ⟨by decide +kernel, by decide +kernel, by decide +kernel⟩
theorem wd_ok11 : wdOk 11 60114 := ⟨by decide +kernel, by decide +kernel, by decide +kernel⟩
theorem wd_ok12 : wdOk 12 11522 := ⟨by decide +kernel, by decide +kernel, by decide +kernel⟩
theorem wd_ok13 : wdOk 13 3217595 := ⟨by decide +kernel, by decide +kernel, by decide +kernel⟩
theorem TXT_stM : TXT (stM L xs fz) := by
  refine ⟨?_, Wd_stM (i := 0) (by decide) (by decide) wd_ok0, Wd_stM (i := 1) (by decide) (by decide) wd_ok1, Wd_stM (i := 2) (by decide) (by decide) wd_ok2, Wd_stM (i := 3) (by decide) (by decide) wd_ok3, Wd_stM (i := 4) (by decide) (by decide) wd_ok4, Wd_stM (i := 5) (by decide) (by decide) wd_ok5, Wd_stM (i := 6) (by decide) (by decide) wd_ok6, Wd_stM (i := 7) (by decide) (by decide) wd_ok7, Wd_stM (i := 8) (by decide) (by decide) wd_ok8, Wd_stM (i := 9) (by decide) (by decide) wd_ok9, Wd_stM (i := 10) (by decide) (by decide) wd_ok10, Wd_stM (i := 11) (by decide) (by decide) wd_ok11, Wd_stM (i := 12) (by decide) (by decide) wd_ok12, Wd_stM (i := 13) (by decide) (by decide) wd_ok13⟩
  obtain ⟨a1, a2, a3, a4⟩ := tx_at (L := L) (xs := xs) (fz := fz) (i := 14) (by decide)
  have a1 : kd (stM L xs fz) (-15) = 20 := a1
  have a2 : fR (stM L xs fz) 2000 (-15) = -31 := a2
  have a3 : ln (stM L xs fz) (-31) = ((txB 14).length : Int) := a3
  have a4 : aI (stM L xs fz) (-31) = txt 14 := a4
  unfold Sgt
  rw [a1, a2, a3, a4]
  exact ⟨SK_stM, rfl, by decide +kernel, by decide +kernel, by decide +kernel, by decide +kernel, by decide +kernel, by decide +kernel, by decide +kernel, by decide +kernel⟩
end STM
