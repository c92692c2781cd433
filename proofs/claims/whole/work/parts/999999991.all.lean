/-! all that the law's beginning needs, out of the start's state -/

theorem st_text_all {b : Nat} {s : State} (hs : ∀ w ∈ flatC gv1, w.before #[Value.ref b] s = true) : ∃ fa : Nat → Nat × Nat, ∀ i : Nat, i < 15 → (tmS (txE.getD i (0, [])).1).eval #[Value.ref b] s none [] s = some (.ref (fa i).1) ∧ va_O "java/lang/String" (fa i).1 (fun q => s.heap.size ≤ q) s s.heap ∧ va_OF "java/lang/String" "coder" "B" (.int (c32 0)) (fa i).1 (fun q => s.heap.size ≤ q) s s.heap ∧ va_OF "java/lang/String" "value" "[B" (.ref (fa i).2) (fa i).1 (fun q => s.heap.size ≤ q) s s.heap ∧ va_T .byte (fa i).2 (txB i).length (fun j => .int (c32 ((txB i).getD j 0))) (fun q => s.heap.size ≤ q) s s.heap := by
  refine Classical.axiomOfChoice (r := fun (i : Nat) (p : Nat × Nat) => i < 15 → (tmS (txE.getD i (0, [])).1).eval #[Value.ref b] s none [] s = some (.ref p.1) ∧ va_O "java/lang/String" p.1 (fun q => s.heap.size ≤ q) s s.heap ∧ va_OF "java/lang/String" "coder" "B" (.int (c32 0)) p.1 (fun q => s.heap.size ≤ q) s s.heap ∧ va_OF "java/lang/String" "value" "[B" (.ref p.2) p.1 (fun q => s.heap.size ≤ q) s s.heap ∧ va_T .byte p.2 (txB i).length (fun j => .int (c32 ((txB i).getD j 0))) (fun q => s.heap.size ≤ q) s s.heap) fun i => ?_
  by_cases h : i < 15
  · obtain ⟨p, hp⟩ := st_text hs i h
    exact ⟨p, fun _ => hp⟩
  · exact ⟨(0, 0), fun q => absurd q h⟩
theorem st_cls {args : Array Value} {s : State} (hts : ∀ w ∈ lw_tbl, w.before args s = true) : ∃ D : Nat → ClassId × (Nat → Nat), ∀ ci : Nat, ci < 14 → u_Kn s (cR ci) (cT ci) (cN ci) (D ci).1 (D ci).2 := by
  refine Classical.axiomOfChoice (r := fun (ci : Nat) (D : ClassId × (Nat → Nat)) => ci < 14 → u_Kn s (cR ci) (cT ci) (cN ci) D.1 D.2) fun ci => ?_
  by_cases h : ci < 14
  · obtain ⟨cC, iS, hK⟩ := u_known (n := cN ci) hts (fun w hw => (List.mem_filter.mp (CLS_lay h w hw)).1) (hts _ (inst_in ci h))
    exact ⟨(cC, iS), fun _ => hK⟩
  · exact ⟨(0, fun _ => 0), fun q => absurd q h⟩
theorem st_fz {s : State} (v : va_Zq "jdk/internal/util/Preconditions" "SIOOBE_FORMATTER" "Ljava/util/function/BiFunction;" (fun q => s.heap.size ≤ q) s s.heap) : ∃ (fz : Int) (fx : Nat), (fz = 0 ∨ fz = -34) ∧ va_Z "jdk/internal/util/Preconditions" "SIOOBE_FORMATTER" "Ljava/util/function/BiFunction;" (va_rf (if fz = 0 then none else some fx)) (fun q => s.heap.size ≤ q) s s.heap := by
  rcases v with h | ⟨t, h⟩
  · refine ⟨0, 0, Or.inl rfl, ?_⟩
    rw [if_pos rfl]
    exact h
  · refine ⟨-34, t, Or.inr rfl, ?_⟩
    rw [if_neg (by decide)]
    exact h
theorem st_K {s : State} {D : Nat → ClassId × (Nat → Nat)} {aU aJ aZ aC aO aP aQ : ClassId} {gx : Nat → Nat} (hD : ∀ ci : Nat, ci < 14 → u_Kn s (cR ci) (cT ci) (cN ci) (D ci).1 (D ci).2) (hI : ArrOfT s aU .int ∧ va_RA s aU .int) (hJ : ArrOfT s aJ .long ∧ va_RA s aJ .long) (hZ : ArrOfT s aZ .boolean ∧ va_RA s aZ .boolean) (hC : ArrOfT s aC .char ∧ va_RA s aC .char) (hO : ArrOfT s aO (.object "java/lang/Object") ∧ va_RA s aO (.object "java/lang/Object")) (hP : ArrOfT s aP (.object "AlarmBoxes$Loop") ∧ va_RA s aP (.object "AlarmBoxes$Loop")) (hQ : ArrOfT s aQ (.array .long) ∧ va_RA s aQ (.array .long)) {g : GG} (hg : g = (fun c => (D c).1, fun c => (D c).2, fun κ => if κ = 102 then aJ else if κ = 103 then aZ else if κ = 104 then aC else if κ = 105 then aO else if κ = 106 then aP else if κ = 107 then aQ else aU, s.heap.size, gx, fun r => r)) : va_K (gD g) CLS (ATY g) s := by
  have e1 : gA g 101 = aU := by rw [hg]; rfl
  have e2 : gA g 102 = aJ := by rw [hg]; rfl
  have e3 : gA g 103 = aZ := by rw [hg]; rfl
  have e4 : gA g 104 = aC := by rw [hg]; rfl
  have e5 : gA g 105 = aO := by rw [hg]; rfl
  have e6 : gA g 106 = aP := by rw [hg]; rfl
  have e7 : gA g 107 = aQ := by rw [hg]; rfl
  have e8 : gA g 108 = aU := by rw [hg]; rfl
  refine ⟨fun c q hq => ?_, fun k q hq => ?_⟩
  · have hc : c < 14 := (List.getElem?_eq_some_iff.mp hq).1
    rw [CLS_at hc] at hq
    cases hq
    rw [hg]
    exact hD c hc
  · unfold ATY at hq
    rw [e1, e2, e3, e4, e5, e6, e7, e8] at hq
    match k, hq with
    | 0, hq => cases hq; exact hI
    | 1, hq => cases hq; exact hJ
    | 2, hq => cases hq; exact hZ
    | 3, hq => cases hq; exact hC
    | 4, hq => cases hq; exact hO
    | 5, hq => cases hq; exact hP
    | 6, hq => cases hq; exact hQ
    | 7, hq => cases hq; exact hI
    | k + 8, hq => simp at hq
theorem st_HB {s : State} {g : GG} {L : Nat} {xs : Nat → Int32} {fz : Int} {b z fx mi : Nat} {fa : Nat → Nat × Nat} (hL : L ≤ 3584) (hX : va_X b L xs s s.heap) (hbl : b < s.heap.size) (hf : fz = 0 ∨ fz = -34)
    (hfa : ∀ i : Nat, i < 15 → va_O "java/lang/String" (fa i).1 (fun q => s.heap.size ≤ q) s s.heap ∧ va_OF "java/lang/String" "coder" "B" (.int (c32 0)) (fa i).1 (fun q => s.heap.size ≤ q) s s.heap ∧ va_OF "java/lang/String" "value" "[B" (.ref (fa i).2) (fa i).1 (fun q => s.heap.size ≤ q) s s.heap ∧ va_T .byte (fa i).2 (txB i).length (fun j => .int (c32 ((txB i).getD j 0))) (fun q => s.heap.size ≤ q) s s.heap)
    (z3 : va_O "[Ljava/lang/Object;" z (fun q => s.heap.size ≤ q) s s.heap) (z2 : va_T (.object "java/lang/Object") z 0 (fun _ => .null) (fun q => s.heap.size ≤ q) s s.heap)
    (v1 : va_Z "java/util/ArrayList" "DEFAULTCAPACITY_EMPTY_ELEMENTDATA" "[Ljava/lang/Object;" (.ref z) (fun q => s.heap.size ≤ q) s s.heap) (v2 : va_Z "java/lang/String" "COMPACT_STRINGS" "Z" (.int (c32 1)) (fun q => s.heap.size ≤ q) s s.heap) (v3 : va_Z "jdk/internal/util/Preconditions" "SIOOBE_FORMATTER" "Ljava/util/function/BiFunction;" (va_rf (if fz = 0 then none else some fx)) (fun q => s.heap.size ≤ q) s s.heap)
    (hB : gB g = s.heap.size) (hG : gX g = stX fa mi z b fx) (hO : ∀ r, gP g r = r) : HB g s (stM L xs fz) s.heap := by
  have eA : AF g = fun q => s.heap.size ≤ q := by unfold AF; rw [hB]
  refine ⟨fun k hk h0 => ?_, Wf_stM hL, ?_, ?_⟩
  · exfalso
    rcases stM_k (L := L) (xs := xs) (fz := fz) k with ⟨h, h1⟩ | ⟨h, h1⟩ | ⟨h, h1⟩ | ⟨h, h1⟩ | h
    · omega
    · omega
    · omega
    · omega
    · rw [h] at hk
      unfold trk at hk
      omega
  · refine ⟨?_, fun r _ => hO r⟩
    rw [hB, nx_stM]
    rfl
  have ad1 : ∀ i : Nat, i < 15 → ad g (-((i : Int) + 1)) = (fa i).1 := fun i hi => by
    rw [ad_neg g (by omega), hG, show (-(-((i : Int) + 1))).toNat = i + 1 by omega]
    exact stX_1 hi
  have ad2 : ∀ i : Nat, i < 15 → ad g (-((i : Int) + 17)) = (fa i).2 := fun i hi => by
    rw [ad_neg g (by omega), hG, show (-(-((i : Int) + 17))).toNat = i + 17 by omega]
    exact stX_2 hi
  have ad32 : ad g (-32) = z := by
    rw [ad_neg g (by decide), hG]
    rfl
  have ad33 : ad g (-33) = b := by
    rw [ad_neg g (by decide), hG]
    rfl
  have ad34 : ad g (-34) = fx := by
    rw [ad_neg g (by decide), hG]
    rfl
  unfold Str StrB
  rw [eA]
  refine ⟨fun k hk => ?_, ⟨fun k hk => ?_, fun k k0 hk => ?_, fun k hk => ?_⟩, ?_, ?_, ?_⟩
  · have h : -15 ≤ k ∧ k ≤ -1 := by
      rcases stM_k (L := L) (xs := xs) (fz := fz) k with ⟨h, h1⟩ | ⟨h, h1⟩ | ⟨h, h1⟩ | ⟨h, h1⟩ | h
      · exact h1
      all_goals (rw [h] at hk; exact absurd hk (by decide))
    obtain ⟨i, hi, ek⟩ : ∃ i : Nat, i < 15 ∧ k = -((i : Int) + 1) := ⟨(-k - 1).toNat, by omega, by omega⟩
    obtain ⟨p1, p2, p3, p4⟩ := hfa i hi
    obtain ⟨a1, a2, a3, a4⟩ := tx_at (L := L) (xs := xs) (fz := fz) hi
    rw [ek, ad1 i hi, a2, fI_stM, if_neg (fun q => absurd q.1 (by decide)), rv_ne (by omega), ad2 i hi]
    exact ⟨p1, p2, p3⟩
  · have h : -31 ≤ k ∧ k ≤ -17 := by
      rcases stM_k (L := L) (xs := xs) (fz := fz) k with ⟨h, h1⟩ | ⟨h, h1⟩ | ⟨h, h1⟩ | ⟨h, h1⟩ | h
      · rw [h] at hk; exact absurd hk (by decide)
      · exact h1
      all_goals (rw [h] at hk; exact absurd hk (by decide))
    obtain ⟨i, hi, ek⟩ : ∃ i : Nat, i < 15 ∧ k = -((i : Int) + 17) := ⟨(-k - 17).toNat, by omega, by omega⟩
    obtain ⟨p1, p2, p3, p4⟩ := hfa i hi
    obtain ⟨a1, a2, a3, a4⟩ := tx_at (L := L) (xs := xs) (fz := fz) hi
    rw [ek, ad2 i hi, a3, a4]
    exact p4
  · have h : k = -32 := by
      rcases stM_k (L := L) (xs := xs) (fz := fz) k with ⟨h, h1⟩ | ⟨h, h1⟩ | ⟨h, h1⟩ | ⟨h, h1⟩ | h
      · rw [h] at hk; exact absurd hk (by decide)
      · rw [h] at hk; exact absurd hk (by decide)
      · exact h1
      all_goals (rw [h] at hk; exact absurd hk (by decide))
    rw [h, ad32, ln_stM_r]
    exact ⟨z3, z2⟩
  · have h : k = -33 := by
      rcases stM_k (L := L) (xs := xs) (fz := fz) k with ⟨h, h1⟩ | ⟨h, h1⟩ | ⟨h, h1⟩ | ⟨h, h1⟩ | h
      · rw [h] at hk; exact absurd hk (by decide)
      · rw [h] at hk; exact absurd hk (by decide)
      · rw [h] at hk; exact absurd hk (by decide)
      · exact h1
      · rw [h] at hk; exact absurd hk (by decide)
    rw [h, ad33, ln_stM_s]
    obtain ⟨scr, h1, h2, h3, h4, h5⟩ := hX
    refine ⟨scr, h1, h2, h3, ?_, ?_, fun j hj => ?_, Nat.not_le.mpr hbl⟩
    · rw [h4]
      exact Nat.le_refl _
    · rw [h4]
      rfl
    · rw [h5 j hj]
      show some (Value.int (xs j)) = some (Value.int (c32 (aI (stM L xs fz) (-33) (j : Int))))
      rw [aI_stM, if_neg (by decide), if_pos rfl, c32_of_toInt]
      rfl
  · rw [fR_stM, if_neg (fun q => absurd q.1 (by decide)), if_pos ⟨rfl, rfl⟩, rv_ne (by decide), ad32]
    exact v1
  · rw [fI_stM, if_pos ⟨rfl, rfl⟩]
    exact v2
  · rw [fR_stM, if_neg (fun q => absurd q.1 (by decide)), if_neg (fun q => absurd q.1 (by decide)), if_pos ⟨rfl, rfl⟩]
    rcases hf with rfl | rfl
    · exact v3
    · rw [rv_ne (by decide), ad34]
      rw [if_neg (by decide)] at v3
      exact v3
theorem st_all {p : Program} {s : State} {m : MethodId} {meth : Method} {c : Code} {l : Launch} {b L : Nat} {xs : Nat → Int32} (hfl : l.flags = flags0) (hL : L ≤ 3584) (hx : p.tables.exec = Jvm.exec) (hb : c.code = code) (hr : meth.sig.returnType = ret) (hml : c.maxLocals = 7) (hown : s.vm.findClass RL = some m.cls) (hts : ∀ w ∈ lw_tbl, w.before #[Value.ref b] s = true) (hX : va_X b L xs s s.heap) (hbl : b < s.heap.size) (hlk : meth.locks = false) (hgv : gv1.before #[Value.ref b] s = true) : ∃ (g : GG) (fz : Int), MC g p s m #[Value.ref b] meth c RL cL_law 7 (some FieldType.boolean) ∧ HB g s (stM L xs fz) s.heap ∧ PX g l s ∧ ad g (-33) = b ∧ gB g = s.heap.size ∧ fz ≤ 0 := by
  have hs := flat_of_before gv1 hgv
  obtain ⟨fa, hfa⟩ := st_text_all hs
  obtain ⟨mi, hmi⟩ := va_Mi.of (hs (.isRef (.mirror "[Ljava/lang/Object;")) (by decide +kernel))
  obtain ⟨z, z1, z2⟩ := va_Tof (N := 0) (f := fun _ => .null) (A := fun q => s.heap.size ≤ q) (by decide) (hs (.arrayOf (.static "java/util/ArrayList" "DEFAULTCAPACITY_EMPTY_ELEMENTDATA" "[Ljava/lang/Object;") (.object "java/lang/Object")) (by decide +kernel)) (va_eqt (hs (.eq (.length (.static "java/util/ArrayList" "DEFAULTCAPACITY_EMPTY_ELEMENTDATA" "[Ljava/lang/Object;")) (.int (Int32.ofNat 0))) (by decide +kernel))) (fun j hj => absurd hj (Nat.not_lt_zero _)) st_out
  have z3 : va_O "[Ljava/lang/Object;" z (fun q => s.heap.size ≤ q) s s.heap := va_Oof (hs (.exactly (.static "java/util/ArrayList" "DEFAULTCAPACITY_EMPTY_ELEMENTDATA" "[Ljava/lang/Object;") "[Ljava/lang/Object;") (by decide +kernel)) z1 st_out
  have v1 : va_Z "java/util/ArrayList" "DEFAULTCAPACITY_EMPTY_ELEMENTDATA" "[Ljava/lang/Object;" (.ref z) (fun q => s.heap.size ≤ q) s s.heap := va_Zof (hts (.laysStatic "java/util/ArrayList" "DEFAULTCAPACITY_EMPTY_ELEMENTDATA" "[Ljava/lang/Object;") (by decide +kernel)) (hts (.initialized "java/util/ArrayList") (by decide +kernel)) z1 st_out
  have v2 : va_Z "java/lang/String" "COMPACT_STRINGS" "Z" (.int (c32 1)) (fun q => s.heap.size ≤ q) s s.heap := va_Zof (hts (.laysStatic "java/lang/String" "COMPACT_STRINGS" "Z") (by decide +kernel)) (hts (.initialized "java/lang/String") (by decide +kernel)) (va_eqi (hs (.eq (.static "java/lang/String" "COMPACT_STRINGS" "Z") (.int (c32 1))) (by decide +kernel))) st_out
  obtain ⟨fz, fx, hf, v3⟩ := st_fz (va_Zqof (hts (.laysStatic "jdk/internal/util/Preconditions" "SIOOBE_FORMATTER" "Ljava/util/function/BiFunction;") (by decide +kernel)) (hts (.initialized "jdk/internal/util/Preconditions") (by decide +kernel)) (hs (.isRef (.static "jdk/internal/util/Preconditions" "SIOOBE_FORMATTER" "Ljava/util/function/BiFunction;")) (by decide +kernel)) st_out)
  have t1 : vx_Zq Bundle.tN "UNASSIGNED_STACK" Bundle.steD (fun q => s.heap.size ≤ q) s s.heap := vx_Zqof (hts (.laysStatic Bundle.tN "UNASSIGNED_STACK" Bundle.steD) (by decide +kernel)) (hts (.initialized Bundle.tN) (by decide +kernel)) (hs (.isRef (.static Bundle.tN "UNASSIGNED_STACK" Bundle.steD)) (by decide +kernel)) st_out
  have t2 : vx_Zq Bundle.tN "SUPPRESSED_SENTINEL" Bundle.listD (fun q => s.heap.size ≤ q) s s.heap := vx_Zqof (hts (.laysStatic Bundle.tN "SUPPRESSED_SENTINEL" Bundle.listD) (by decide +kernel)) (hts (.initialized Bundle.tN) (by decide +kernel)) (hs (.isRef (.static Bundle.tN "SUPPRESSED_SENTINEL" Bundle.listD)) (by decide +kernel)) st_out
  obtain ⟨D, hD⟩ := st_cls hts
  obtain ⟨aU, hI⟩ := ar_C (hts (.arrayClass .int) (by decide +kernel))
  obtain ⟨aJ, hJ⟩ := ar_C (hts (.arrayClass .long) (by decide +kernel))
  obtain ⟨aZ, hZ⟩ := ar_C (hts (.arrayClass .boolean) (by decide +kernel))
  obtain ⟨aC, hC⟩ := ar_C (hts (.arrayClass .char) (by decide +kernel))
  obtain ⟨aO, hO⟩ := ar_O (hts (.arrayOver (.object "java/lang/Object")) (by decide +kernel))
  obtain ⟨aP, hP⟩ := ar_O (hts (.arrayOver (.object "AlarmBoxes$Loop")) (by decide +kernel))
  obtain ⟨aQ, hQ⟩ := ar_A (hts (.arrayOver (.array .long)) (by decide +kernel))
  obtain ⟨g, hg⟩ : ∃ g : GG, g = (fun c => (D c).1, fun c => (D c).2, fun κ => if κ = 102 then aJ else if κ = 103 then aZ else if κ = 104 then aC else if κ = 105 then aO else if κ = 106 then aP else if κ = 107 then aQ else aU, s.heap.size, stX fa mi z b fx, fun r => r) := ⟨_, rfl⟩
  have hB : gB g = s.heap.size := by rw [hg]; rfl
  have hG : gX g = stX fa mi z b fx := by rw [hg]; rfl
  have hOr : ∀ r, gP g r = r := fun r => by rw [hg]; rfl
  have eA : AF g = fun q => s.heap.size ≤ q := by unfold AF; rw [hB]
  have hSX : SX g s := by
    refine ⟨fun own k tx i h => ?_, ?_⟩
    · obtain ⟨k1, k2, k3, k4, k5⟩ := strs_in _ h
      dsimp only at k1 k2 k3 k4 k5
      obtain ⟨e1, -⟩ := hfa (i - 1) (by omega)
      have e2 : gX g i = (fa (i - 1)).1 := by
        have h9 := stX_1 (fa := fa) (mi := mi) (z := z) (b := b) (fx := fx) (i := i - 1) (by omega)
        rw [show i - 1 + 1 = i by omega] at h9
        rw [hG]
        exact h9
      rw [e2, k2]
      rw [k2] at k1
      rw [← k3] at e1
      exact vk_R.of (hts _ k1) e1
    · rw [hG]
      exact hmi
  refine ⟨g, fz, ⟨hx, hb, hml, hr, hlk, hown, fun w hw => hts w (List.mem_filter.mp hw).1, st_K hD hI hJ hZ hC hO hP hQ hg, EX_of hts, hSX, Nat.le_of_eq hB, ⟨fun r h => by rw [hOr]; exact h, fun r r' _ _ q => by rw [hOr, hOr] at q; exact q⟩⟩, st_HB hL hX hbl hf (fun i hi => (hfa i hi).2) z3 z2 v1 v2 v3 hB hG hOr, ⟨flags_off hfl, ?_, ?_⟩, ?_, hB, by omega⟩
  · rw [eA]
    exact t1
  · rw [eA]
    exact t2
  · rw [ad_neg g (by decide), hG]
    rfl
