/-! all holds where the law's loop begins -/

theorem lk2_neg {f : Nat} {k z : Int} (hk : k ≤ 0) : ∀ L : List ((Nat × Int) × Int), (∀ q ∈ L, 0 < q.1.2) → lk2 L f k z = z
  | [], _ => rfl
  | x :: t, h => by
    have h1 := h x List.mem_cons_self
    unfold lk2
    rw [if_neg (fun q => by omega)]
    exact lk2_neg hk t (fun q hq => h q (List.mem_cons_of_mem _ hq))
theorem lk3_neg {r j z : Int} (hk : r ≤ 0) : ∀ L : List ((Int × Int) × Int), (∀ q ∈ L, 0 < q.1.1) → lk3 L r j z = z
  | [], _ => rfl
  | x :: t, h => by
    have h1 := h x List.mem_cons_self
    unfold lk3
    rw [if_neg (fun q => by omega)]
    exact lk3_neg hk t (fun q hq => h q (List.mem_cons_of_mem _ hq))
theorem aiR_pos (z : Int) : ∀ q ∈ aiR z, 0 < q.1.2 := by
  have e : (aiR z).map (fun q => q.1.2) = (aiR 0).map (fun q => q.1.2) := rfl
  have h : ∀ x ∈ (aiR 0).map (fun q => q.1.2), (0 : Int) < x := by decide +kernel
  intro q hq
  exact h _ (by rw [← e]; exact List.mem_map.mpr ⟨q, hq, rfl⟩)
theorem aiI_pos : ∀ q ∈ aiI, 0 < q.1.2 := by decide +kernel
theorem aiA_pos : ∀ q ∈ aiA, 0 < q.1.1 := by decide +kernel
def mvI (f : Nat) : Int := if f = 1321 then -1 else if f = 1342 then 40 else if f = 1341 then 3 else 0
theorem mst_ok : ∀ q ∈ MST, q.2.1 ≤ mvI q.1 ∧ mvI q.1 ≤ q.2.2 := by decide +kernel
theorem mrt_ok : ∀ q ∈ MRT, 1 ≤ q.1 ∧ q.2.1 ≤ 0 ∧ 0 ≤ q.2.2 ∧ (q.1 = 77 → q.2.1 ≤ -1000) ∧ (q.1 = 69 → q.2.1 ≤ -1) := by decide +kernel
theorem fu_start {b n : Int} {σ0 σ9 ρ : Hp} (hs : nx σ0 = 1) (w0 : Wf σ0) (wr : Wf ρ) (hz : kd σ0 (fR σ0 3000 0) = 105 ∧ ln σ0 (fR σ0 3000 0) = 0) (hT : TXT σ0) (hb : b < 0) (hS : kd σ0 b = 108 ∧ ln σ0 b = n ∧ ∀ j, inR (aI σ0 b j)) (hR0 : ∀ f k, fR σ0 f k ≤ 0) (hA0 : ∀ r j, aR σ0 r j ≤ 0) (hi : Ini σ0 σ9 aiL (aiR (fR σ0 3000 0)) aiI aiA) (er : ρ = rnm pv pw (mk (mIni (mk σ9 13 0)) 102 1)) : Fu b n ρ := by
  have ee := hi.ee
  obtain ⟨i1, i2, i3, i4, i5, i6, i7, i8, i9, -⟩ := id hi
  have n9 : nx σ9 = 62 := i1
  have nt : nx (mk σ9 13 0) = 63 := by rw [nx_mk, n9]; rfl
  have nm : nx (mIni (mk σ9 13 0)) = 121 := by
    unfold mIni
    rw [nx_pI, nx_pI, nx_pI, nx_wrN, nx_wrN, nx_mkN, nt]
    rfl
  have zz := w0.2.2.2
  rw [hs] at zz
  obtain ⟨ρ1, e1⟩ : ∃ ρ1, ρ1 = mk (mIni (mk σ9 13 0)) 102 1 := ⟨_, rfl⟩
  rw [← e1] at er
  -- the pieces, in the order of making
  have eI1 : ∀ f k, fI ρ1 f k = if f = 1321 ∧ k = 62 then -1 else if f = 1342 ∧ k = 62 then 40 else if f = 1341 ∧ k = 62 then 3 else fI σ9 f k := fun f k => by
    rw [e1]
    unfold mIni
    rw [fI_mk, fI_pI, fI_pI, fI_pI, fI_wrN, fI_wrN, fI_mkN, fI_mk]
  have eA1 : ∀ r j, aI ρ1 r j = if r = 70 ∧ 0 ≤ j ∧ j < ((32 : Nat) : Int) then -1 else if r = 78 ∧ 0 ≤ j ∧ j < ((4 : Nat) : Int) then -1000 else aI σ9 r j := fun r j => by
    rw [e1]
    unfold mIni
    rw [aI_mk, aI_pI, aI_pI, aI_pI, aI_wrN, aI_wrN, aI_mkN, aI_mk]
  have eAL1 : aL ρ1 = aL σ9 := by
    rw [e1]
    unfold mIni
    rw [aL_mk, aL_pI, aL_pI, aL_pI, aL_wrN, aL_wrN, aL_mkN, aL_mk]
  have eFL1 : fL ρ1 = fL σ9 := by
    rw [e1]
    unfold mIni
    rw [fL_mk, fL_pI, fL_pI, fL_pI, fL_wrN, fL_wrN, fL_mkN, fL_mk]
  have eAR1 : aR ρ1 = aR σ9 := by
    rw [e1]
    unfold mIni
    rw [aR_mk, aR_pI, aR_pI, aR_pI, aR_wrN, aR_wrN, aR_mkN, aR_mk]
  have eR1 : ∀ f k, ¬ k = 62 → fR ρ1 f k = fR σ9 f k := fun f k hk => by
    rw [e1]
    unfold mIni
    rw [fR_mk, fR_pI, fR_pI, fR_pI, fR_wrN, fR_wrN, fR_mkN _ _ _ _ (fun j _ q => hk q.2), fR_mk]
  have g11 : ∀ j : Nat, j < 58 → fR ρ1 (iniL.getD j (0, 0, 0)).1 62 = 63 + (j : Int) := fun j hj => by
    rw [e1]
    unfold mIni
    rw [fR_mk, fR_pI, fR_pI, fR_pI, fR_wrN, fR_wrN, fR_mkN_at _ _ _ iniL_nd j 58 hj (by rw [iniL_len]; exact Nat.le_refl _), nt]
  have g21 : ∀ j : Nat, j < 58 → kd ρ1 (63 + (j : Int)) = (iniL.getD j (0, 0, 0)).2.1 ∧ ln ρ1 (63 + (j : Int)) = (iniL.getD j (0, 0, 0)).2.2 := fun j hj => by
    have h := kd_mkN_at (mk σ9 13 0) 62 iniL j 58 hj
    rw [nt] at h
    rw [e1, kd_mk, ln_mk, nm, if_neg (by omega), if_neg (by omega)]
    unfold mIni
    rw [kd_pI, kd_pI, kd_pI, kd_wrN, kd_wrN, ln_pI, ln_pI, ln_pI, ln_wrN, ln_wrN]
    exact h
  have ek1 : ∀ k, k < 63 → kd ρ1 k = (if k = 62 then 13 else kd σ9 k) ∧ ln ρ1 k = (if k = 62 then 0 else ln σ9 k) := fun k hk => by
    rw [e1, kd_mk, ln_mk, nm, if_neg (show ¬ k = 121 by omega), if_neg (show ¬ k = 121 by omega)]
    unfold mIni
    rw [kd_pI, kd_pI, kd_pI, kd_wrN, kd_wrN, ln_pI, ln_pI, ln_pI, ln_wrN, ln_wrN, kd_mkN _ _ _ (by rw [nt]; exact hk), ln_mkN _ _ _ (by rw [nt]; exact hk), kd_mk, ln_mk, n9]
    exact ⟨rfl, rfl⟩
  have k1211 : kd ρ1 121 = 102 ∧ ln ρ1 121 = 1 := by
    rw [e1, kd_mk, ln_mk, nm, if_pos rfl, if_pos rfl]
    exact ⟨rfl, rfl⟩
  clear e1
  -- and by the layout's numbers
  have xI : ∀ f k, fI ρ f k = fI ρ1 f (pv k) := fun f k => by rw [er, fI_rn]
  have xR : ∀ f k, fR ρ f k = pw (fR ρ1 f (pv k)) := fun f k => by rw [er, fR_rn]
  have xK : ∀ k, kd ρ k = kd ρ1 (pv k) ∧ ln ρ k = ln ρ1 (pv k) := fun k => by rw [er, kd_rn, ln_rn]; exact ⟨rfl, rfl⟩
  have xAI : ∀ r j, aI ρ r j = aI ρ1 (pv r) j := fun r j => by rw [er, aI_rn]
  have xAR : ∀ r j, aR ρ r j = pw (aR ρ1 (pv r) j) := fun r j => by rw [er, aR_rn]
  have xAL : ∀ r, aL ρ r = aL ρ1 (pv r) := fun r => by rw [er]; rfl
  have xFL : ∀ f k, fL ρ f k = fL ρ1 f (pv k) := fun f k => by rw [er, fL_rn]
  clear er
  have w61 : pw 62 = 61 := by decide
  have w69 : pw 70 = 69 := by decide
  have w77 : pw 78 = 77 := by decide
  have v61 : pv 61 = 62 := by decide
  have eI : ∀ f k, fI ρ f k = if f = 1321 ∧ k = 61 then -1 else if f = 1342 ∧ k = 61 then 40 else if f = 1341 ∧ k = 61 then 3 else fI σ9 f (pv k) := fun f k => by
    rw [xI, eI1]
    simp only [pv_iff, w61]
  have eA : ∀ r j, aI ρ r j = if r = 69 ∧ 0 ≤ j ∧ j < ((32 : Nat) : Int) then -1 else if r = 77 ∧ 0 ≤ j ∧ j < ((4 : Nat) : Int) then -1000 else aI σ9 (pv r) j := fun r j => by
    rw [xAI, eA1]
    simp only [pv_iff, w69, w77]
  have eR : ∀ f k, ¬ k = 61 → fR ρ f k = pw (fR σ9 f (pv k)) := fun f k hk => by
    rw [xR, eR1 f (pv k) (fun q => hk (by rw [pv_iff.mp q]; decide))]
  have g1 : ∀ j : Nat, j < 58 → fR ρ (iniL.getD j (0, 0, 0)).1 61 = 62 + (j : Int) := fun j hj => by
    rw [xR, v61, g11 j hj]
    have h : ∀ j : Fin 58, pw (63 + (j.1 : Int)) = 62 + (j.1 : Int) := by decide +kernel
    exact h ⟨j, hj⟩
  have g2 : ∀ j : Nat, j < 58 → kd ρ (62 + (j : Int)) = (iniL.getD j (0, 0, 0)).2.1 ∧ ln ρ (62 + (j : Int)) = (iniL.getD j (0, 0, 0)).2.2 := fun j hj => by
    have h : ∀ j : Fin 58, pv (62 + (j.1 : Int)) = 63 + (j.1 : Int) := by decide +kernel
    have e : pv (62 + (j : Int)) = 63 + (j : Int) := h ⟨j, hj⟩
    rw [(xK _).1, (xK _).2, e]
    exact g21 j hj
  have k120 : kd ρ 120 = 102 ∧ ln ρ 120 = 1 := by
    have e : pv 120 = 121 := by decide
    rw [(xK _).1, (xK _).2, e]
    exact k1211
  have k61 : kd ρ 61 = 13 := by
    rw [(xK _).1, v61, (ek1 62 (by decide)).1]
    exact if_pos rfl
  have ekn : ∀ k, k < 1 → kd ρ k = kd σ0 k ∧ ln ρ k = ln σ0 k := fun k hk => by
    rw [(xK _).1, (xK _).2, pv_out (Or.inl hk), (ek1 k (by omega)).1, (ek1 k (by omega)).2, if_neg (by omega), if_neg (by omega)]
    exact i2 k hk
  have ekc : ∀ (p q : Int) (i : Nat) (e : Nat × Int), pv p = q → q = 1 + (i : Int) → i < 61 → aiL[i]? = some e → kd ρ p = e.1 ∧ ln ρ p = e.2 := fun p q i e h1 h2 h3 h4 => by
    rw [(xK _).1, (xK _).2, h1, h2, (ek1 _ (by omega)).1, (ek1 _ (by omega)).2, if_neg (by omega), if_neg (by omega)]
    exact i3 i e h4
  have pvp : ∀ r, 1 ≤ r → 1 ≤ pv r := fun r h => by
    have := rnp_vw.2.2.1 r (by omega)
    omega
  have a9 : ∀ r j, 1 ≤ r → aI σ9 (pv r) j = 0 := fun r j h => by rw [i8]; exact (zz (pv r) (pvp r h)).2.2.2.1 j
  have a0 : ∀ r j, 1 ≤ r → ¬ r = 69 → ¬ r = 77 → aI ρ r j = 0 := fun r j h h1 h2 => by
    rw [eA, if_neg (fun q => h1 q.1), if_neg (fun q => h2 q.1)]
    exact a9 r j h
  have f9 : ∀ f k, 1 ≤ k → fI σ9 f (pv k) = lk2 oiI f k 0 := fun f k h => by rw [i5, (zz (pv k) (pvp k h)).1, lk2_mpI, oiI_is]
  have f0 : ∀ f k, 1 ≤ k → ¬ k = 61 → fI ρ f k = lk2 oiI f k 0 := fun f k h h1 => by
    rw [eI, if_neg (fun q => h1 q.2), if_neg (fun q => h1 q.2), if_neg (fun q => h1 q.2)]
    exact f9 f k h
  have lk61 : ∀ f, lk2 oiI f 61 0 = 0 := fun f => by
    have hq : ∀ q ∈ oiI, ¬ q.1.2 = 61 := by decide +kernel
    revert hq
    generalize oiI = L
    intro hq
    induction L with
    | nil => rfl
    | cons x t ih =>
      unfold lk2
      rw [if_neg (fun u => hq x List.mem_cons_self u.2.symm)]
      exact ih fun q h => hq q (List.mem_cons_of_mem _ h)
  have m0 : ∀ f, fI ρ f 61 = mvI f := fun f => by
    rw [eI, f9 f 61 (by decide), lk61]
    unfold mvI
    simp only [and_true]
  have hz0 : fR σ0 3000 0 ≤ 0 := hR0 _ _
  have r9 : ∀ f k, 1 ≤ k → ¬ k = 61 → fR ρ f k = lk2 (oiR (fR σ0 3000 0)) f k 0 := fun f k h h1 => by
    rw [eR f k h1, i4, (zz (pv k) (pvp k h)).2.2.1, lk2_mpR, oiR_is hz0]
    rfl
  have xA : ∀ r j, 1 ≤ r → aR ρ r j = lk3 oiA r j 0 := fun r j h => by
    rw [xAR, eAR1, i6, (zz (pv r) (pvp r h)).2.2.2.2.2, lk3_mpA, oiA_is]
    rfl
  have kz : fR ρ 3000 0 = fR σ0 3000 0 := by
    rw [eR 3000 0 (by decide), pv_out (Or.inl (by decide)), ee]
    exact pw_out (by omega)
  -- what lay there before
  have b0 : ∀ k, kd σ0 k ≠ 0 → k < 1 := fun k hk => by
    have := w0.bel k hk
    omega
  have z0 : Kp (fun _ => False) (fun _ => False) σ0 ρ := ⟨fun k hk => by
    have h := b0 k hk
    have h6 : ¬ k = 61 := by omega
    have hv : pv k = k := pv_out (Or.inl h)
    obtain ⟨e1, e2⟩ := ekn k h
    refine ⟨e1, e2, ?_, by rw [xAL, hv, eAL1, i9], fun f _ => ⟨?_, ?_⟩, fun f => by rw [xFL, hv, eFL1, i7], fun _ => ?_⟩
    · funext j
      rw [eA, if_neg (by omega), if_neg (by omega), hv, i8]
    · rw [eI, if_neg (fun q => h6 q.2), if_neg (fun q => h6 q.2), if_neg (fun q => h6 q.2), hv, i5]
      exact lk2_neg (by omega) _ aiI_pos
    · rw [eR f k h6, hv, i4, lk2_neg (by omega) _ (aiR_pos _)]
      exact pw_out (by have := hR0 f k; omega)
    · funext j
      rw [xAR, hv, eAR1, i6, lk3_neg (by omega) _ aiA_pos]
      exact pw_out (by have := hA0 k j; omega), kz⟩
  have C1 : CLay ρ := ⟨(ekc 1 1 0 (12, 0) rfl (by decide) (by decide) rfl).1,
    (r9 1200 1 (by decide) (by decide)).trans rfl,
    (r9 1203 1 (by decide) (by decide)).trans rfl,
    (r9 1201 1 (by decide) (by decide)).trans rfl,
    (r9 1204 1 (by decide) (by decide)).trans rfl,
    (r9 1202 1 (by decide) (by decide)).trans rfl,
    (r9 1206 1 (by decide) (by decide)).trans rfl,
    (r9 1205 1 (by decide) (by decide)).trans rfl,
    (r9 1207 1 (by decide) (by decide)).trans rfl,
    (r9 1208 1 (by decide) (by decide)).trans rfl,
    (ekc 2 2 1 (106, 4) rfl (by decide) (by decide) rfl).1,
    (ekc 2 2 1 (106, 4) rfl (by decide) (by decide) rfl).2,
    (xA 2 0 (by decide)).trans rfl,
    (xA 2 1 (by decide)).trans rfl,
    (xA 2 2 (by decide)).trans rfl,
    (xA 2 3 (by decide)).trans rfl,
    (ekc 4 3 2 (11, 0) rfl (by decide) (by decide) rfl).1,
    (r9 1100 4 (by decide) (by decide)).trans rfl,
    (r9 1101 4 (by decide) (by decide)).trans rfl,
    (r9 1102 4 (by decide) (by decide)).trans rfl,
    (r9 1103 4 (by decide) (by decide)).trans rfl,
    (r9 1104 4 (by decide) (by decide)).trans rfl,
    (r9 1105 4 (by decide) (by decide)).trans rfl,
    (ekc 5 4 3 (102, 5) rfl (by decide) (by decide) rfl).1,
    (ekc 5 4 3 (102, 5) rfl (by decide) (by decide) rfl).2,
    (ekc 6 5 4 (102, 5) rfl (by decide) (by decide) rfl).1,
    (ekc 6 5 4 (102, 5) rfl (by decide) (by decide) rfl).2,
    (ekc 7 6 5 (107, 4) rfl (by decide) (by decide) rfl).1,
    (ekc 7 6 5 (107, 4) rfl (by decide) (by decide) rfl).2,
    (xA 7 0 (by decide)).trans rfl,
    (xA 7 1 (by decide)).trans rfl,
    (xA 7 2 (by decide)).trans rfl,
    (xA 7 3 (by decide)).trans rfl,
    (ekc 8 7 6 (102, 5) rfl (by decide) (by decide) rfl).1,
    (ekc 8 7 6 (102, 5) rfl (by decide) (by decide) rfl).2,
    (ekc 9 8 7 (102, 5) rfl (by decide) (by decide) rfl).1,
    (ekc 9 8 7 (102, 5) rfl (by decide) (by decide) rfl).2,
    (ekc 10 9 8 (102, 5) rfl (by decide) (by decide) rfl).1,
    (ekc 10 9 8 (102, 5) rfl (by decide) (by decide) rfl).2,
    (ekc 11 10 9 (102, 5) rfl (by decide) (by decide) rfl).1,
    (ekc 11 10 9 (102, 5) rfl (by decide) (by decide) rfl).2,
    (ekc 12 11 10 (101, 3) rfl (by decide) (by decide) rfl).1,
    (ekc 12 11 10 (101, 3) rfl (by decide) (by decide) rfl).2,
    (ekc 13 12 11 (101, 3) rfl (by decide) (by decide) rfl).1,
    (ekc 13 12 11 (101, 3) rfl (by decide) (by decide) rfl).2,
    (ekc 14 13 12 (102, 200) rfl (by decide) (by decide) rfl).1,
    (ekc 14 13 12 (102, 200) rfl (by decide) (by decide) rfl).2,
    (ekc 15 20 19 (4, 0) rfl (by decide) (by decide) rfl).1,
    (r9 400 15 (by decide) (by decide)).trans rfl,
    (r9 401 15 (by decide) (by decide)).trans rfl,
    (r9 402 15 (by decide) (by decide)).trans rfl,
    (ekc 16 21 20 (101, 12) rfl (by decide) (by decide) rfl).1,
    (ekc 16 21 20 (101, 12) rfl (by decide) (by decide) rfl).2,
    (ekc 17 22 21 (101, 12) rfl (by decide) (by decide) rfl).1,
    (ekc 17 22 21 (101, 12) rfl (by decide) (by decide) rfl).2,
    (ekc 18 23 22 (14, 0) rfl (by decide) (by decide) rfl).1,
    (ekc 19 15 14 (7, 0) rfl (by decide) (by decide) rfl).1,
    (r9 700 19 (by decide) (by decide)).trans rfl,
    (r9 701 19 (by decide) (by decide)).trans rfl,
    (r9 702 19 (by decide) (by decide)).trans rfl,
    (r9 703 19 (by decide) (by decide)).trans rfl,
    (r9 704 19 (by decide) (by decide)).trans rfl,
    (r9 705 19 (by decide) (by decide)).trans rfl,
    (ekc 20 16 15 (101, 32) rfl (by decide) (by decide) rfl).1,
    (ekc 20 16 15 (101, 32) rfl (by decide) (by decide) rfl).2,
    (ekc 21 17 16 (101, 12) rfl (by decide) (by decide) rfl).1,
    (ekc 21 17 16 (101, 12) rfl (by decide) (by decide) rfl).2,
    (ekc 22 18 17 (101, 2) rfl (by decide) (by decide) rfl).1,
    (ekc 22 18 17 (101, 2) rfl (by decide) (by decide) rfl).2,
    (ekc 23 19 18 (101, 2) rfl (by decide) (by decide) rfl).1,
    (ekc 23 19 18 (101, 2) rfl (by decide) (by decide) rfl).2,
    (ekc 24 26 25 (9, 0) rfl (by decide) (by decide) rfl).1,
    (r9 900 24 (by decide) (by decide)).trans rfl,
    (ekc 25 27 26 (104, 1000) rfl (by decide) (by decide) rfl).1,
    (ekc 25 27 26 (104, 1000) rfl (by decide) (by decide) rfl).2,
    (ekc 26 25 24 (5, 0) rfl (by decide) (by decide) rfl).1,
    (r9 500 26 (by decide) (by decide)).trans rfl,
    (ekc 27 34 33 (2, 0) rfl (by decide) (by decide) rfl).1,
    (r9 200 27 (by decide) (by decide)).trans rfl,
    (r9 201 27 (by decide) (by decide)).trans rfl,
    (r9 202 27 (by decide) (by decide)).trans rfl,
    (r9 203 27 (by decide) (by decide)).trans rfl,
    (ekc 28 35 34 (14, 0) rfl (by decide) (by decide) rfl).1,
    (ekc 29 36 35 (101, 200) rfl (by decide) (by decide) rfl).1,
    (ekc 29 36 35 (101, 200) rfl (by decide) (by decide) rfl).2,
    (ekc 30 37 36 (101, 200) rfl (by decide) (by decide) rfl).1,
    (ekc 30 37 36 (101, 200) rfl (by decide) (by decide) rfl).2,
    (ekc 31 38 37 (103, 200) rfl (by decide) (by decide) rfl).1,
    (ekc 31 38 37 (103, 200) rfl (by decide) (by decide) rfl).2,
    (ekc 32 39 38 (101, 7) rfl (by decide) (by decide) rfl).1,
    (ekc 32 39 38 (101, 7) rfl (by decide) (by decide) rfl).2,
    (ekc 33 40 39 (8, 0) rfl (by decide) (by decide) rfl).1,
    (r9 800 33 (by decide) (by decide)).trans rfl,
    (ekc 34 41 40 (101, 24) rfl (by decide) (by decide) rfl).1,
    (ekc 34 41 40 (101, 24) rfl (by decide) (by decide) rfl).2,
    (r9 801 33 (by decide) (by decide)).trans rfl,
    (ekc 35 42 41 (101, 24) rfl (by decide) (by decide) rfl).1,
    (ekc 35 42 41 (101, 24) rfl (by decide) (by decide) rfl).2,
    (r9 802 33 (by decide) (by decide)).trans rfl,
    (ekc 36 43 42 (101, 24) rfl (by decide) (by decide) rfl).1,
    (ekc 36 43 42 (101, 24) rfl (by decide) (by decide) rfl).2,
    (r9 803 33 (by decide) (by decide)).trans rfl,
    (ekc 37 44 43 (101, 1000) rfl (by decide) (by decide) rfl).1,
    (ekc 37 44 43 (101, 1000) rfl (by decide) (by decide) rfl).2,
    (r9 804 33 (by decide) (by decide)).trans rfl,
    (ekc 38 45 44 (101, 40) rfl (by decide) (by decide) rfl).1,
    (ekc 38 45 44 (101, 40) rfl (by decide) (by decide) rfl).2,
    (ekc 39 28 27 (8, 0) rfl (by decide) (by decide) rfl).1,
    (r9 800 39 (by decide) (by decide)).trans rfl,
    (ekc 40 29 28 (101, 24) rfl (by decide) (by decide) rfl).1,
    (ekc 40 29 28 (101, 24) rfl (by decide) (by decide) rfl).2,
    (r9 801 39 (by decide) (by decide)).trans rfl,
    (ekc 41 30 29 (101, 24) rfl (by decide) (by decide) rfl).1,
    (ekc 41 30 29 (101, 24) rfl (by decide) (by decide) rfl).2,
    (r9 802 39 (by decide) (by decide)).trans rfl,
    (ekc 42 31 30 (101, 24) rfl (by decide) (by decide) rfl).1,
    (ekc 42 31 30 (101, 24) rfl (by decide) (by decide) rfl).2,
    (r9 803 39 (by decide) (by decide)).trans rfl,
    (ekc 43 32 31 (101, 1000) rfl (by decide) (by decide) rfl).1,
    (ekc 43 32 31 (101, 1000) rfl (by decide) (by decide) rfl).2,
    (r9 804 39 (by decide) (by decide)).trans rfl,
    (ekc 44 33 32 (101, 40) rfl (by decide) (by decide) rfl).1,
    (ekc 44 33 32 (101, 40) rfl (by decide) (by decide) rfl).2,
    (ekc 45 46 45 (10, 0) rfl (by decide) (by decide) rfl).1,
    (r9 1000 45 (by decide) (by decide)).trans rfl,
    (r9 1001 45 (by decide) (by decide)).trans rfl,
    (r9 1002 45 (by decide) (by decide)).trans rfl,
    (ekc 46 47 46 (14, 0) rfl (by decide) (by decide) rfl).1,
    (ekc 47 48 47 (103, 13) rfl (by decide) (by decide) rfl).1,
    (ekc 47 48 47 (103, 13) rfl (by decide) (by decide) rfl).2,
    (ekc 48 49 48 (101, 500) rfl (by decide) (by decide) rfl).1,
    (ekc 48 49 48 (101, 500) rfl (by decide) (by decide) rfl).2,
    (ekc 49 50 49 (10, 0) rfl (by decide) (by decide) rfl).1,
    (r9 1000 49 (by decide) (by decide)).trans rfl,
    (r9 1001 49 (by decide) (by decide)).trans rfl,
    (r9 1002 49 (by decide) (by decide)).trans rfl,
    (ekc 50 51 50 (14, 0) rfl (by decide) (by decide) rfl).1,
    (ekc 51 52 51 (103, 13) rfl (by decide) (by decide) rfl).1,
    (ekc 51 52 51 (103, 13) rfl (by decide) (by decide) rfl).2,
    (ekc 52 53 52 (101, 500) rfl (by decide) (by decide) rfl).1,
    (ekc 52 53 52 (101, 500) rfl (by decide) (by decide) rfl).2,
    (ekc 53 54 53 (10, 0) rfl (by decide) (by decide) rfl).1,
    (r9 1000 53 (by decide) (by decide)).trans rfl,
    (r9 1001 53 (by decide) (by decide)).trans rfl,
    (r9 1002 53 (by decide) (by decide)).trans rfl,
    (ekc 54 55 54 (14, 0) rfl (by decide) (by decide) rfl).1,
    (ekc 55 56 55 (103, 13) rfl (by decide) (by decide) rfl).1,
    (ekc 55 56 55 (103, 13) rfl (by decide) (by decide) rfl).2,
    (ekc 56 57 56 (101, 500) rfl (by decide) (by decide) rfl).1,
    (ekc 56 57 56 (101, 500) rfl (by decide) (by decide) rfl).2,
    (ekc 57 58 57 (10, 0) rfl (by decide) (by decide) rfl).1,
    (r9 1000 57 (by decide) (by decide)).trans rfl,
    (r9 1001 57 (by decide) (by decide)).trans rfl,
    (r9 1002 57 (by decide) (by decide)).trans rfl,
    (ekc 58 59 58 (14, 0) rfl (by decide) (by decide) rfl).1,
    (ekc 59 60 59 (103, 13) rfl (by decide) (by decide) rfl).1,
    (ekc 59 60 59 (103, 13) rfl (by decide) (by decide) rfl).2,
    (ekc 60 61 60 (101, 500) rfl (by decide) (by decide) rfl).1,
    (ekc 60 61 60 (101, 500) rfl (by decide) (by decide) rfl).2,
    (ekc 3 24 23 (14, 0) rfl (by decide) (by decide) rfl).1,
    (ekc 121 14 13 (14, 0) rfl (by decide) (by decide) rfl).1⟩
  have ML : MLay ρ := ⟨k61, g1 0 (by decide), (g2 0 (by decide)).1, (g2 0 (by decide)).2, g1 1 (by decide), (g2 1 (by decide)).1, (g2 1 (by decide)).2, g1 2 (by decide), (g2 2 (by decide)).1, (g2 2 (by decide)).2, g1 3 (by decide), (g2 3 (by decide)).1, (g2 3 (by decide)).2, g1 4 (by decide), (g2 4 (by decide)).1, (g2 4 (by decide)).2, g1 5 (by decide), (g2 5 (by decide)).1, (g2 5 (by decide)).2, g1 6 (by decide), (g2 6 (by decide)).1, (g2 6 (by decide)).2, g1 7 (by decide), (g2 7 (by decide)).1, (g2 7 (by decide)).2, g1 8 (by decide), (g2 8 (by decide)).1, (g2 8 (by decide)).2, g1 9 (by decide), (g2 9 (by decide)).1, (g2 9 (by decide)).2, g1 10 (by decide), (g2 10 (by decide)).1, (g2 10 (by decide)).2, g1 11 (by decide), (g2 11 (by decide)).1, (g2 11 (by decide)).2, g1 12 (by decide), (g2 12 (by decide)).1, (g2 12 (by decide)).2, g1 13 (by decide), (g2 13 (by decide)).1, (g2 13 (by decide)).2, g1 14 (by decide), (g2 14 (by decide)).1, (g2 14 (by decide)).2, g1 15 (by decide), (g2 15 (by decide)).1, (g2 15 (by decide)).2, g1 16 (by decide), (g2 16 (by decide)).1, (g2 16 (by decide)).2, g1 17 (by decide), (g2 17 (by decide)).1, (g2 17 (by decide)).2, g1 18 (by decide), (g2 18 (by decide)).1, (g2 18 (by decide)).2, g1 19 (by decide), (g2 19 (by decide)).1, (g2 19 (by decide)).2, g1 20 (by decide), (g2 20 (by decide)).1, (g2 20 (by decide)).2, g1 21 (by decide), (g2 21 (by decide)).1, (g2 21 (by decide)).2, g1 22 (by decide), (g2 22 (by decide)).1, (g2 22 (by decide)).2, g1 23 (by decide), (g2 23 (by decide)).1, (g2 23 (by decide)).2, g1 24 (by decide), (g2 24 (by decide)).1, (g2 24 (by decide)).2, g1 25 (by decide), (g2 25 (by decide)).1, (g2 25 (by decide)).2, g1 26 (by decide), (g2 26 (by decide)).1, (g2 26 (by decide)).2, g1 27 (by decide), (g2 27 (by decide)).1, (g2 27 (by decide)).2, g1 28 (by decide), (g2 28 (by decide)).1, (g2 28 (by decide)).2, g1 29 (by decide), (g2 29 (by decide)).1, (g2 29 (by decide)).2, g1 30 (by decide), (g2 30 (by decide)).1, (g2 30 (by decide)).2, g1 31 (by decide), (g2 31 (by decide)).1, (g2 31 (by decide)).2, g1 32 (by decide), (g2 32 (by decide)).1, (g2 32 (by decide)).2, g1 33 (by decide), (g2 33 (by decide)).1, (g2 33 (by decide)).2, g1 34 (by decide), (g2 34 (by decide)).1, (g2 34 (by decide)).2, g1 35 (by decide), (g2 35 (by decide)).1, (g2 35 (by decide)).2, g1 36 (by decide), (g2 36 (by decide)).1, (g2 36 (by decide)).2, g1 37 (by decide), (g2 37 (by decide)).1, (g2 37 (by decide)).2, g1 38 (by decide), (g2 38 (by decide)).1, (g2 38 (by decide)).2, g1 39 (by decide), (g2 39 (by decide)).1, (g2 39 (by decide)).2, g1 40 (by decide), (g2 40 (by decide)).1, (g2 40 (by decide)).2, g1 41 (by decide), (g2 41 (by decide)).1, (g2 41 (by decide)).2, g1 42 (by decide), (g2 42 (by decide)).1, (g2 42 (by decide)).2, g1 43 (by decide), (g2 43 (by decide)).1, (g2 43 (by decide)).2, g1 44 (by decide), (g2 44 (by decide)).1, (g2 44 (by decide)).2, g1 45 (by decide), (g2 45 (by decide)).1, (g2 45 (by decide)).2, g1 46 (by decide), (g2 46 (by decide)).1, (g2 46 (by decide)).2, g1 47 (by decide), (g2 47 (by decide)).1, (g2 47 (by decide)).2, g1 48 (by decide), (g2 48 (by decide)).1, (g2 48 (by decide)).2, g1 49 (by decide), (g2 49 (by decide)).1, (g2 49 (by decide)).2, g1 50 (by decide), (g2 50 (by decide)).1, (g2 50 (by decide)).2, g1 51 (by decide), (g2 51 (by decide)).1, (g2 51 (by decide)).2, g1 52 (by decide), (g2 52 (by decide)).1, (g2 52 (by decide)).2, g1 53 (by decide), (g2 53 (by decide)).1, (g2 53 (by decide)).2, g1 54 (by decide), (g2 54 (by decide)).1, (g2 54 (by decide)).2, g1 55 (by decide), (g2 55 (by decide)).1, (g2 55 (by decide)).2, g1 56 (by decide), (g2 56 (by decide)).1, (g2 56 (by decide)).2, g1 57 (by decide), (g2 57 (by decide)).1, (g2 57 (by decide)).2⟩
  have I1 : MI ρ := by
    refine ⟨ML, fun q hq j => ?_, fun q hq => ?_⟩
    · obtain ⟨h1, h2, h3, h4, h5⟩ := mrt_ok q hq
      rw [eA, a9 _ _ h1]
      split
      · omega
      · split <;> omega
    · rw [m0]
      exact mst_ok q hq
  obtain ⟨z, ez⟩ : ∃ z, z = fR σ0 3000 0 := ⟨_, rfl⟩
  rw [← ez] at r9 kz hz
  have hzρ : kd ρ z = 105 ∧ ln ρ z = 0 := by
    have hk : kd σ0 z ≠ 0 := by rw [hz.1]; decide
    exact ⟨(z0.k hk).trans hz.1, (z0.l hk).trans hz.2⟩
  have LO : ∀ p ci, kd ρ p = 14 → fR ρ 1401 p = z → fI ρ 1402 p = 0 → LOk ρ p ci := fun p ci h1 h2 h3 => by
    unfold LOk
    rw [h2, h3, hzρ.1, hzρ.2, kz]
    exact ⟨h1, rfl, ⟨by decide, by decide⟩, by decide, fun _ => rfl, fun j p q => by omega⟩
  have l3 : fR ρ 1401 3 = z ∧ fI ρ 1402 3 = 0 := ⟨(r9 _ _ (by decide) (by decide)).trans rfl, (f0 _ _ (by decide) (by decide)).trans rfl⟩
  have l18 : fR ρ 1401 18 = z ∧ fI ρ 1402 18 = 0 := ⟨(r9 _ _ (by decide) (by decide)).trans rfl, (f0 _ _ (by decide) (by decide)).trans rfl⟩
  have l28 : fR ρ 1401 28 = z ∧ fI ρ 1402 28 = 0 := ⟨(r9 _ _ (by decide) (by decide)).trans rfl, (f0 _ _ (by decide) (by decide)).trans rfl⟩
  have ll : ∀ l, 0 ≤ l → l < 4 → (kd ρ (46 + 4 * l) = 14 ∧ fR ρ 1401 (46 + 4 * l) = z ∧ fI ρ 1402 (46 + 4 * l) = 0) ∧ fI ρ 1003 (45 + 4 * l) = 0 ∧ fI ρ 1004 (45 + 4 * l) = 0 ∧ fI ρ 1005 (45 + 4 * l) = -7 ∧ fI ρ 1006 (45 + 4 * l) = -1 ∧ fI ρ 1007 (45 + 4 * l) = -1 := fun l h1 h2 => by
    have : l = 0 ∨ l = 1 ∨ l = 2 ∨ l = 3 := by omega
    rcases this with rfl | rfl | rfl | rfl
    · show (kd ρ 46 = 14 ∧ fR ρ 1401 46 = z ∧ fI ρ 1402 46 = 0) ∧ fI ρ 1003 45 = 0 ∧ fI ρ 1004 45 = 0 ∧ fI ρ 1005 45 = -7 ∧ fI ρ 1006 45 = -1 ∧ fI ρ 1007 45 = -1
      exact ⟨⟨(by simp only [C1.eqs]), (r9 _ _ (by decide) (by decide)).trans rfl, (f0 _ _ (by decide) (by decide)).trans rfl⟩, (f0 _ _ (by decide) (by decide)).trans rfl, (f0 _ _ (by decide) (by decide)).trans rfl, (f0 _ _ (by decide) (by decide)).trans rfl, (f0 _ _ (by decide) (by decide)).trans rfl, (f0 _ _ (by decide) (by decide)).trans rfl⟩
    · show (kd ρ 50 = 14 ∧ fR ρ 1401 50 = z ∧ fI ρ 1402 50 = 0) ∧ fI ρ 1003 49 = 0 ∧ fI ρ 1004 49 = 0 ∧ fI ρ 1005 49 = -7 ∧ fI ρ 1006 49 = -1 ∧ fI ρ 1007 49 = -1
      exact ⟨⟨(by simp only [C1.eqs]), (r9 _ _ (by decide) (by decide)).trans rfl, (f0 _ _ (by decide) (by decide)).trans rfl⟩, (f0 _ _ (by decide) (by decide)).trans rfl, (f0 _ _ (by decide) (by decide)).trans rfl, (f0 _ _ (by decide) (by decide)).trans rfl, (f0 _ _ (by decide) (by decide)).trans rfl, (f0 _ _ (by decide) (by decide)).trans rfl⟩
    · show (kd ρ 54 = 14 ∧ fR ρ 1401 54 = z ∧ fI ρ 1402 54 = 0) ∧ fI ρ 1003 53 = 0 ∧ fI ρ 1004 53 = 0 ∧ fI ρ 1005 53 = -7 ∧ fI ρ 1006 53 = -1 ∧ fI ρ 1007 53 = -1
      exact ⟨⟨(by simp only [C1.eqs]), (r9 _ _ (by decide) (by decide)).trans rfl, (f0 _ _ (by decide) (by decide)).trans rfl⟩, (f0 _ _ (by decide) (by decide)).trans rfl, (f0 _ _ (by decide) (by decide)).trans rfl, (f0 _ _ (by decide) (by decide)).trans rfl, (f0 _ _ (by decide) (by decide)).trans rfl, (f0 _ _ (by decide) (by decide)).trans rfl⟩
    · show (kd ρ 58 = 14 ∧ fR ρ 1401 58 = z ∧ fI ρ 1402 58 = 0) ∧ fI ρ 1003 57 = 0 ∧ fI ρ 1004 57 = 0 ∧ fI ρ 1005 57 = -7 ∧ fI ρ 1006 57 = -1 ∧ fI ρ 1007 57 = -1
      exact ⟨⟨(by simp only [C1.eqs]), (r9 _ _ (by decide) (by decide)).trans rfl, (f0 _ _ (by decide) (by decide)).trans rfl⟩, (f0 _ _ (by decide) (by decide)).trans rfl, (f0 _ _ (by decide) (by decide)).trans rfl, (f0 _ _ (by decide) (by decide)).trans rfl, (f0 _ _ (by decide) (by decide)).trans rfl, (f0 _ _ (by decide) (by decide)).trans rfl⟩
  have k3 : kd ρ 3 = 14 := by simp only [C1.eqs]
  have k18 : kd ρ 18 = 14 := by simp only [C1.eqs]
  have k28 : kd ρ 28 = 14 := by simp only [C1.eqs]
  have mb : fI ρ 1302 61 = 0 := (m0 _).trans rfl
  have ma : fI ρ 1371 61 = 0 := (m0 _).trans rfl
  have mc : fI ρ 1335 61 = 0 := (m0 _).trans rfl
  have mw : fI ρ 1380 61 = 0 := (m0 _).trans rfl
  have ml : fI ρ 1352 61 = 0 := (m0 _).trans rfl
  have r_now : fI ρ 1210 1 = fI ρ 1301 61 := by
    have n1 : fI ρ 1210 1 = 0 := (f0 _ _ (by decide) (by decide)).trans rfl
    have n2 : fI ρ 1301 61 = 0 := (m0 _).trans rfl
    exact n1.trans n2.symm
  have r_BX : BX ρ ρ := ⟨LO 3 2 k3 l3.1 l3.2, l3.2.trans mb.symm, fun i p q => by omega⟩
  have r_LR : ∀ l, 0 ≤ l → l < 4 → LR l ρ ρ := fun l h1 h2 => by
    obtain ⟨⟨q1, q2, q3⟩, q4, q5, q6, q7, q8⟩ := ll l h1 h2
    obtain ⟨-, -, -, k4, k5, -⟩ := LoP.k C1 ⟨h1, h2⟩
    have e74 : aI ρ 74 l = 0 := a0 _ _ (by decide) (by decide) (by decide)
    have e77 : aI ρ 77 l = -1000 := by
      rw [eA, if_neg (by omega), if_pos ⟨rfl, h1, h2⟩]
    refine ⟨⟨⟨LO _ 2 q1 q2 q3, q3.trans e74.symm, fun k p q => by omega, fun w => ?_, fun w _ _ => ?_, fun w _ _ => a0 _ _ (by decide) (by decide) (by decide), Or.inl ⟨q7, q8, fun w _ _ => ?_⟩, fun k => ?_, fun k _ _ => ?_, ?_, ?_, Or.inr ⟨q6, e77⟩, Or.inr e77⟩, ?_⟩, fun k p q => by omega⟩
    · rw [a0 _ _ (by omega) (by omega) (by omega)]
      decide
    · rw [a0 (47 + 4 * l) _ (by omega) (by omega) (by omega)]
      exact (a0 _ _ (by decide) (by decide) (by decide)).symm
    · rw [k4]
      exact a0 _ _ (by omega) (by omega) (by omega)
    · rw [a0 _ _ (by omega) (by omega) (by omega)]
      decide
    · rw [a0 (48 + 4 * l) _ (by omega) (by omega) (by omega)]
      exact (a0 _ _ (by decide) (by decide) (by decide)).symm
    · rw [q4, a0 78 _ (by decide) (by decide) (by decide)]
      decide
    · rw [q5, a0 78 _ (by decide) (by decide) (by decide)]
      decide
    · rw [q6]
      decide
  have r_BG : BG ρ ρ := ⟨LO 18 5 k18 l18.1 l18.2, l18.2.trans mc.symm, fun c p q => by omega, fun c d p q r => by omega, ((f0 403 15 (by decide) (by decide)).trans (show lk2 oiI 403 15 0 = 0 from rfl)).trans ((m0 1332).trans (show mvI 1332 = 0 from rfl)).symm, fun h => ⟨(a0 16 h (by decide) (by decide) (by decide)).trans (a0 85 h (by decide) (by decide) (by decide)).symm, (a0 17 h (by decide) (by decide) (by decide)).trans (a0 86 h (by decide) (by decide) (by decide)).symm⟩, ((f0 404 15 (by decide) (by decide)).trans (show lk2 oiI 404 15 0 = 3 from rfl)).trans ((m0 1341).trans (show mvI 1341 = 3 from rfl)).symm, ((f0 405 15 (by decide) (by decide)).trans (show lk2 oiI 405 15 0 = 40 from rfl)).trans ((m0 1342).trans (show mvI 1342 = 40 from rfl)).symm⟩
  have r_AL : AL ρ ρ := ⟨LO 28 0 k28 l28.1 l28.2, l28.2.trans ma.symm, fun a p q => by omega, fun a b p q r => by omega, fun w => ⟨(a0 29 w (by decide) (by decide) (by decide)).trans (a0 117 w (by decide) (by decide) (by decide)).symm, (a0 30 w (by decide) (by decide) (by decide)).trans (a0 119 w (by decide) (by decide) (by decide)).symm, (a0 31 w (by decide) (by decide) (by decide)).trans (a0 118 w (by decide) (by decide) (by decide)).symm⟩, ((f0 204 27 (by decide) (by decide)).trans (show lk2 oiI 204 27 0 = 0 from rfl)).trans mw.symm⟩
  have r_DKR : DKR ρ ρ := by
    refine ⟨[], ⟨ml, Nat.zero_le _, (fun x h => by cases h), 0, 0, Int.le_refl _, by decide, (fun i x h => by simp at h)⟩, 33, 39, Or.inl ⟨rfl, rfl⟩, ?_, ?_, ⟨(f0 807 33 (by decide) (by decide)).trans rfl, Nat.zero_le _, Nat.zero_le _, (fun l h => absurd h (Nat.not_lt_zero _)), (fun k c h => by simp at h)⟩, (fun i x h => by simp at h)⟩
    · exact (r9 1209 1 (by decide) (by decide)).trans rfl
    · exact (r9 501 26 (by decide) (by decide)).trans rfl
  have r_RDR : RDR ρ ρ := by
    refine ⟨[], ⟨(m0 1322).trans rfl, (fun i x h => by simp at h)⟩, ⟨(f0 _ 4 (by decide) (by decide)).trans rfl, Nat.zero_le _, (fun i k h => by simp at h)⟩, ?_, fun h => absurd rfl h⟩
    rw [if_pos rfl]
    exact (f0 1108 4 (by decide) (by decide)).trans rfl
  have r_held : fI ρ 901 24 = fI ρ 1343 61 ∧ aI ρ 25 = aI ρ 92 := by
    have n1 : fI ρ 901 24 = 0 := (f0 _ _ (by decide) (by decide)).trans rfl
    have n2 : fI ρ 1343 61 = 0 := (m0 _).trans rfl
    refine ⟨n1.trans n2.symm, ?_⟩
    funext j
    rw [a0 25 j (by decide) (by decide) (by decide)]
    exact (a0 _ j (by decide) (by decide) (by decide)).symm
  have r_TG : TGr ρ := fun j => by
    rw [a0 22 j (by decide) (by decide) (by decide), a0 23 j (by decide) (by decide) (by decide)]
    decide
  have r_LTT : LTT ρ := by
    refine ⟨?_, fun j => ?_⟩
    · rw [show fI ρ 901 24 = 0 from (f0 901 24 (by decide) (by decide)).trans rfl]
      decide
    · rw [a0 25 j (by decide) (by decide) (by decide)]
      decide
  have r_TXT : TXT ρ := by
    refine hT.kp w0.s21 wr.s21 z0 (fun _ _ q => q) (fun k hk => ?_) ?_
    · exact (ekn k (by omega)).1
    · rw [eI, if_neg (fun q => absurd q.2 (by decide)), if_neg (fun q => absurd q.2 (by decide)), if_neg (fun q => absurd q.2 (by decide)), pv_out (Or.inl (by decide)), i5]
      exact lk2_neg (by decide) _ aiI_pos
  have r_LD : LD ρ := fun p q hp _ _ _ => by
    have e : fR ρ 1401 p = z := by
      rcases hp with rfl | rfl | rfl | rfl | rfl | rfl | rfl
      · exact l3.1
      · exact l18.1
      · exact l28.1
      · exact (ll 0 (by decide) (by decide)).1.2.1
      · exact (ll 1 (by decide) (by decide)).1.2.1
      · exact (ll 2 (by decide) (by decide)).1.2.1
      · exact (ll 3 (by decide) (by decide)).1.2.1
    rw [e]
    exact hzρ.2
  have i_MT : MT ρ := ⟨I1, fun j => by rw [a0 _ j (by decide) (by decide) (by decide), (m0 1301)]; decide, fun j => by
    rw [eA, a9 _ _ (by decide), (m0 1301), show mvI 1301 = 0 from rfl]
    split
    · decide
    · split <;> decide⟩
  have i_RB : RB ρ := ⟨fun l k _ _ p q => by rw [a0 74 l (by decide) (by decide) (by decide)] at q; omega, fun i p q => by omega, fun i p q => by omega⟩
  have i_kF : kFirst ρ := fun l k _ q => by
    have q2 := q.2
    rw [a0 74 l (by decide) (by decide) (by decide)] at q2
    omega
  have i_upL : upL ρ := fun j _ => by
    rw [a0 95 j (by decide) (by decide) (by decide), a0 96 j (by decide) (by decide) (by decide)]
    decide
  have i_mC : mCards ρ := fun σ' _ _ _ l h => by omega
  have i_WI : WI ρ := fun w p q => by omega
  have i_AB : AB ρ := fun a p q => by omega
  have i_HI : HIs ρ := fun c p q => by omega
  have i_WG : WG ρ := fun i p q => by omega
  have i_InN : InN ρ := by
    refine ⟨fun i _ => ⟨a0 _ _ (by decide) (by decide) (by decide), a0 _ _ (by decide) (by decide) (by decide), a0 _ _ (by decide) (by decide) (by decide)⟩, fun i _ => ⟨a0 _ _ (by decide) (by decide) (by decide), a0 _ _ (by decide) (by decide) (by decide), a0 _ _ (by decide) (by decide) (by decide), a0 _ _ (by decide) (by decide) (by decide)⟩, fun h => ?_, fun a => ?_⟩
    · rw [m0] at h
      exact absurd h (by decide)
    · rw [a0 _ _ (by decide) (by decide) (by decide), m0]
      decide
  have i_InS : InS2 ρ := ⟨fun c p q => by omega, fun a i p q => by omega, fun a p => by omega⟩
  have i_lT : lT ρ := ⟨fun l p q => by omega, fun j p q => by
    rw [eA, if_pos ⟨rfl, by omega, q⟩]⟩
  have S1 : Scp ρ b n := by
    have hk : kd σ0 b ≠ 0 := by rw [hS.1]; decide
    refine ⟨⟨(z0.k hk).trans hS.1, k120.1, k120.2⟩, (z0.l hk).trans hS.2.1, fun j => ?_⟩
    rw [z0.ai hk]
    exact hS.2.2 j
  exact ⟨⟨C1, r_now, r_BX, r_LR, r_BG, r_AL, r_DKR, r_RDR, r_held, r_TG, r_LTT, r_TXT, r_LD⟩, ⟨i_MT, i_RB, i_kF, i_upL, i_mC, i_WI, i_AB, i_HI, i_WG, i_InN, i_InS, i_lT⟩, S1⟩
