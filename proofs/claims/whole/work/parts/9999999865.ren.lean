/-! places renamed: from the order of making to the layout -/

def PVL : List Int := [1, 2, 24, 3, 4, 5, 6, 7, 8, 9, 10, 11, 12, 13, 20, 21, 22, 23, 15, 16, 17, 18, 19, 26, 27, 25, 34, 35, 36, 37, 38, 39, 40, 41, 42, 43, 44, 45, 28, 29, 30, 31, 32, 33, 46, 47, 48, 49, 50, 51, 52, 53, 54, 55, 56, 57, 58, 59, 60, 61, 62, 63, 64, 65, 66, 67, 68, 69, 70, 71, 72, 73, 74, 75, 76, 77, 78, 79, 80, 81, 82, 83, 84, 85, 86, 87, 88, 89, 90, 91, 92, 93, 94, 95, 96, 97, 98, 99, 100, 101, 102, 103, 104, 105, 106, 107, 108, 109, 110, 111, 112, 113, 114, 115, 116, 117, 118, 119, 120, 121, 14]
def PWL : List Int := [1, 2, 4, 5, 6, 7, 8, 9, 10, 11, 12, 13, 14, 121, 19, 20, 21, 22, 23, 15, 16, 17, 18, 3, 26, 24, 25, 39, 40, 41, 42, 43, 44, 27, 28, 29, 30, 31, 32, 33, 34, 35, 36, 37, 38, 45, 46, 47, 48, 49, 50, 51, 52, 53, 54, 55, 56, 57, 58, 59, 60, 61, 62, 63, 64, 65, 66, 67, 68, 69, 70, 71, 72, 73, 74, 75, 76, 77, 78, 79, 80, 81, 82, 83, 84, 85, 86, 87, 88, 89, 90, 91, 92, 93, 94, 95, 96, 97, 98, 99, 100, 101, 102, 103, 104, 105, 106, 107, 108, 109, 110, 111, 112, 113, 114, 115, 116, 117, 118, 119, 120]
/-- the place that was made as the k-th's number is in the layout: pw; and back: pv -/
def pv (k : Int) : Int := if 1 ≤ k ∧ k ≤ 121 then PVL.getD (k - 1).toNat 0 else k
def pw (k : Int) : Int := if 1 ≤ k ∧ k ≤ 121 then PWL.getD (k - 1).toNat 0 else k
theorem pv_all : ∀ i : Fin 121, (1 ≤ PVL.getD i.1 0 ∧ PVL.getD i.1 0 ≤ 121) ∧ PWL.getD (PVL.getD i.1 0 - 1).toNat 0 = (i.1 : Int) + 1 := by decide +kernel
theorem pw_all : ∀ i : Fin 121, (1 ≤ PWL.getD i.1 0 ∧ PWL.getD i.1 0 ≤ 121) ∧ PVL.getD (PWL.getD i.1 0 - 1).toNat 0 = (i.1 : Int) + 1 := by decide +kernel
theorem pv_out {k : Int} (h : k < 1 ∨ 121 < k) : pv k = k := if_neg (by omega)
theorem pw_out {k : Int} (h : k < 1 ∨ 121 < k) : pw k = k := if_neg (by omega)
theorem pv_in {k : Int} (h : 1 ≤ k ∧ k ≤ 121) : (1 ≤ pv k ∧ pv k ≤ 121) ∧ pw (pv k) = k := by
  have q := pv_all ⟨(k - 1).toNat, by omega⟩
  have e : pv k = PVL.getD (k - 1).toNat 0 := if_pos h
  dsimp only at q
  rw [← e] at q
  refine ⟨q.1, ?_⟩
  unfold pw
  rw [if_pos q.1, q.2]
  omega
theorem pw_in {k : Int} (h : 1 ≤ k ∧ k ≤ 121) : (1 ≤ pw k ∧ pw k ≤ 121) ∧ pv (pw k) = k := by
  have q := pw_all ⟨(k - 1).toNat, by omega⟩
  have e : pw k = PWL.getD (k - 1).toNat 0 := if_pos h
  dsimp only at q
  rw [← e] at q
  refine ⟨q.1, ?_⟩
  unfold pv
  rw [if_pos q.1, q.2]
  omega
/-- b takes a place to its new number, a takes it back; from n on, and up to 0, nothing moves -/
def RNP (a b : Int → Int) (n : Int) : Prop := (∀ k, a (b k) = k) ∧ (∀ k, b (a k) = k) ∧ (∀ k, 0 < k → 0 < a k) ∧ (∀ k, 0 < k → 0 < b k) ∧ (∀ k, k ≤ 0 → a k = k ∧ b k = k) ∧ ∀ k, n ≤ k → a k = k ∧ b k = k
theorem rnp_vw : RNP pv pw 122 := by
  refine ⟨fun k => ?_, fun k => ?_, fun k h => ?_, fun k h => ?_, fun k h => ⟨pv_out (by omega), pw_out (by omega)⟩, fun k h => ⟨pv_out (by omega), pw_out (by omega)⟩⟩
  · by_cases c : 1 ≤ k ∧ k ≤ 121
    · exact (pw_in c).2
    · rw [pw_out (by omega), pv_out (by omega)]
  · by_cases c : 1 ≤ k ∧ k ≤ 121
    · exact (pv_in c).2
    · rw [pv_out (by omega), pw_out (by omega)]
  · by_cases c : 1 ≤ k ∧ k ≤ 121
    · have := (pv_in c).1
      omega
    · rw [pv_out (by omega)]
      exact h
  · by_cases c : 1 ≤ k ∧ k ≤ 121
    · have := (pw_in c).1
      omega
    · rw [pw_out (by omega)]
      exact h
theorem RNP.sw {a b : Int → Int} {n : Int} (h : RNP a b n) : RNP b a n := ⟨h.2.1, h.1, h.2.2.2.1, h.2.2.1, fun k q => ⟨(h.2.2.2.2.1 k q).2, (h.2.2.2.2.1 k q).1⟩, fun k q => ⟨(h.2.2.2.2.2 k q).2, (h.2.2.2.2.2 k q).1⟩⟩
/-- a memory, renamed -/
def rnm (a b : Int → Int) (σ : Hp) : Hp := (nx σ, fun k => kd σ (a k), fun k => ln σ (a k), fun f k => fI σ f (a k), fun f k => fL σ f (a k), fun f k => b (fR σ f (a k)), fun r => aI σ (a r), fun r => aL σ (a r), fun r j => b (aR σ (a r) j))
def rg (a : Int → Int) (g : GG) : GG := (g.1, g.2.1, g.2.2.1, g.2.2.2.1, g.2.2.2.2.1, fun r => gP g (a r))
theorem nx_rn (a b : Int → Int) (σ : Hp) : nx (rnm a b σ) = nx σ := Eq.trans rfl rfl
theorem kd_rn (a b : Int → Int) (σ : Hp) (k : Int) : kd (rnm a b σ) k = kd σ (a k) := Eq.trans rfl rfl
theorem ln_rn (a b : Int → Int) (σ : Hp) (k : Int) : ln (rnm a b σ) k = ln σ (a k) := Eq.trans rfl rfl
theorem fI_rn (a b : Int → Int) (σ : Hp) (f : Nat) (k : Int) : fI (rnm a b σ) f k = fI σ f (a k) := Eq.trans rfl rfl
theorem fL_rn (a b : Int → Int) (σ : Hp) (f : Nat) (k : Int) : fL (rnm a b σ) f k = fL σ f (a k) := Eq.trans rfl rfl
theorem fR_rn (a b : Int → Int) (σ : Hp) (f : Nat) (k : Int) : fR (rnm a b σ) f k = b (fR σ f (a k)) := Eq.trans rfl rfl
theorem aI_rn (a b : Int → Int) (σ : Hp) (r j : Int) : aI (rnm a b σ) r j = aI σ (a r) j := Eq.trans rfl rfl
theorem aL_rn (a b : Int → Int) (σ : Hp) (r j : Int) : aL (rnm a b σ) r j = aL σ (a r) j := Eq.trans rfl rfl
theorem aR_rn (a b : Int → Int) (σ : Hp) (r j : Int) : aR (rnm a b σ) r j = b (aR σ (a r) j) := Eq.trans rfl rfl
section RN
variable {a b : Int → Int} {n : Int} {g : GG} {σ : Hp}
theorem rn_neg (h : RNP a b n) {k : Int} : (a k < 0 ↔ k < 0) ∧ (a k = 0 ↔ k = 0) ∧ (0 < a k ↔ 0 < k) := by
  by_cases c : 0 < k
  · have := h.2.2.1 k c
    omega
  · rw [(h.2.2.2.2.1 k (by omega)).1]
    omega
theorem ad_rg (h : RNP a b n) (k : Int) : ad (rg a g) k = ad g (a k) := by
  by_cases c : 0 < k
  · rw [ad_pos _ c, ad_pos g (h.2.2.1 k c)]
    rfl
  · have e := (h.2.2.2.2.1 k (by omega)).1
    unfold ad
    rw [if_neg c, e, if_neg c]
    rfl
theorem rv_rg (h : RNP a b n) (k : Int) : rv (rg a g) (b k) = rv g k := by
  have e0 := (rn_neg h.sw (k := k)).2.1
  unfold rv
  by_cases c : k = 0
  · rw [if_pos (e0.mpr c), if_pos c]
  · rw [if_neg (fun q => c (e0.mp q)), if_neg c, ad_rg h, h.1]
theorem PM.ofR (h : RNP a b n) (p : PM g) : PM (rg a g) := by
  refine ⟨fun r hr => p.1 (a r) (h.2.2.1 r hr), fun r r' hr hr' e => ?_⟩
  have e := p.2 (a r) (a r') (h.2.2.1 r hr) (h.2.2.1 r' hr') e
  rw [← h.2.1 r, e, h.2.1 r']
theorem cel_rg (h : RNP a b n) (k : Int) : cel (rg a g) (rnm a b σ) k = cel g σ (a k) := by
  have ev : ∀ x, rv (rg a g) (b x) = rv g x := rv_rg h
  have ef : ∀ (t : FieldType) (f : Nat), fval (rg a g) (rnm a b σ) t f k = fval g σ t f (a k) := fun t f => by
    unfold fval
    cases t <;> first | rfl | (dsimp only; rw [fR_rn, ev])
  have el : ∀ ci, flds (rg a g) (rnm a b σ) ci k = flds g σ ci (a k) := fun ci => by
    unfold flds
    simp only [ef]
  have ea : ∀ κ, aval (rg a g) (rnm a b σ) κ k = aval g σ κ (a k) := fun κ => by
    unfold aval
    simp only [aR_rn, ev]
    rfl
  unfold cel
  rw [kd_rn, el, ea]
  rfl
theorem Sim.ofR (h : RNP a b n) {Hh : Heap} (s : Sim g σ Hh) : Sim (rg a g) (rnm a b σ) Hh := fun k hk h0 => by
  rw [kd_rn] at hk
  rw [ad_rg h, cel_rg h]
  exact s (a k) hk (h.2.2.1 k h0)
theorem Wf.ofR (h : RNP a b n) (hn : n ≤ nx σ) (w : Wf σ) : Wf (rnm a b σ) := by
  obtain ⟨w1, w2, w3, w4⟩ := w
  refine ⟨w1, fun k hk => ?_, fun k => w3 (a k), fun k hk => ?_⟩
  · rw [kd_rn] at hk
    obtain ⟨q1, q2, q3, q4, q5⟩ := w2 (a k) hk
    obtain ⟨e1, e2, e3⟩ := rn_neg h (k := k)
    rw [kd_rn, nx_rn, ln_rn]
    refine ⟨fun z => q1 (e2.mpr z), ?_, q3, fun z => e1.mp (q4 z), fun z => q5 (e1.mpr z)⟩
    apply Decidable.byContradiction
    intro c
    have e := (h.2.2.2.2.2 k (by omega)).1
    rw [e] at q2
    exact c q2
  · rw [nx_rn] at hk
    have e := (h.2.2.2.2.2 k (by omega)).1
    obtain ⟨z1, z2, z3, z4, z5, z6⟩ := w4 k hk
    have b0 : b 0 = 0 := (h.2.2.2.2.1 0 (Int.le_refl _)).2
    refine ⟨fun f => ?_, fun f => ?_, fun f => ?_, fun j => ?_, fun j => ?_, fun j => ?_⟩
    · rw [fI_rn, e]; exact z1 f
    · rw [fL_rn, e]; exact z2 f
    · rw [fR_rn, e, z3 f]; exact b0
    · rw [aI_rn, e]; exact z4 j
    · rw [aL_rn, e]; exact z5 j
    · rw [aR_rn, e, z6 j]; exact b0
theorem SZ.ofR (h : RNP a b n) {x : Int} {z : Nat} (hn : n ≤ x) (s : SZ g x z) : SZ (rg a g) x z := ⟨s.1, fun r hr => by
  show gP g (a r) = r
  rw [(h.2.2.2.2.2 r (by omega)).1]
  exact s.2 r hr⟩
theorem Str.ofR (h : RNP a b n) {U : State} {Hh : Heap} (s : Str g U σ Hh) : Str (rg a g) U (rnm a b σ) Hh := by
  obtain ⟨s1, ⟨s2, s3, s4⟩, s5, s6, s7⟩ := s
  have ev : ∀ x, rv (rg a g) (b x) = rv g x := rv_rg h
  have a0 : a 0 = 0 := (h.2.2.2.2.1 0 (Int.le_refl _)).1
  refine ⟨fun k hk => ?_, ⟨fun k hk => ?_, fun k h0 hk => ?_, fun k hk => ?_⟩, ?_, ?_, ?_⟩
  · rw [ad_rg h, fI_rn, fR_rn, ev]
    exact s1 (a k) hk
  · rw [ad_rg h]
    exact s2 (a k) hk
  · rw [ad_rg h]
    exact s3 (a k) ((rn_neg h).1.mpr h0) hk
  · rw [ad_rg h]
    exact s4 (a k) hk
  · rw [fR_rn, ev, a0]
    exact s5
  · rw [fI_rn, a0]
    exact s6
  · rw [fR_rn, ev, a0]
    exact s7
theorem HB.ofR (h : RNP a b n) {U : State} {Hh : Heap} (hn : n ≤ nx σ) (s : HB g U σ Hh) : HB (rg a g) U (rnm a b σ) Hh := ⟨s.1.ofR h, s.2.1.ofR h hn, s.2.2.1.ofR h hn, s.2.2.2.ofR h⟩
theorem rg_rg (h : RNP a b n) : rg b (rg a g) = g := by
  obtain ⟨g1, g2, g3, g4, g5, g6⟩ := g
  show (g1, g2, g3, g4, g5, fun r => g6 (a (b r))) = _
  have e : (fun r => g6 (a (b r))) = g6 := funext fun r => by rw [h.1]
  rw [e]
end RN
/-- a value, renamed -/
def rnV (b : Int → Int) : AV → AV
  | .inl x => vi x
  | .inr (.inl x) => vl x
  | .inr (.inr r) => vr (b r)
theorem cv_rg {a b : Int → Int} {n : Int} {g : GG} (h : RNP a b n) (v : AV) : cv (rg a g) (rnV b v) = cv g v := by
  rcases v with x | x | r
  · rfl
  · rfl
  · show va_rf (rv (rg a g) (b r)) = va_rf (rv g r)
    rw [rv_rg h]
/-- the law's run may be looked at by other names -/
theorem GoF_rn {M : Md} {Q : Option AV → Hp → Prop} {pc : Nat} {ls ls' : List (Option AV)} {σ : Hp} {k : Nat × Nat} {a b : Int → Int} {n : Int} (h : RNP a b n) (hn : n ≤ nx σ) (hQ : ∀ σ', Q (some (vi 1)) σ') (hl : ls' = ls.map (Option.map (rnV b))) (hg : GoF M (fun r σ' => r = some (vi 1) ∧ n ≤ nx σ') pc ls' [] (rnm a b σ) k) : GoF M Q pc ls [] σ k := by
  rw [GoF_eq] at hg ⊢
  intro g p l e s m args below meth cd X C hm H locs la h1 h2 h3 h4 h5
  obtain ⟨c1, c2, c3, c4, c5, c6, c7, c8, c9, c10, c11, c12⟩ := C
  have C2 : MC (rg a g) p s m args meth cd M.1.cls M.2.1 M.2.2.1 M.2.2.2.1 := ⟨c1, c2, c3, c4, c5, c6, c7, c8, c9, c10, c11, c12.ofR h⟩
  have L2 : LH (rg a g) M.2.2.1 ls' la := by
    obtain ⟨l1, l2, l3, l4⟩ := h3
    refine ⟨l1, by rw [hl, List.length_map]; exact l2, l3, fun i v hi => ?_⟩
    rw [hl, List.getElem?_map] at hi
    cases e : ls[i]? with
    | none => rw [e] at hi; cases hi
    | some o =>
      cases o with
      | none => rw [e] at hi; cases hi
      | some w =>
        rw [e] at hi
        have hi : some (some (rnV b w)) = some (some v) := hi
        rw [← Option.some.inj (Option.some.inj hi), cv_rg h]
        exact l4 i w e
  have W2 := hg (rg a g) p l e s m args below meth cd X C2 hm H locs la (h1.ofR h hn) h2 L2 h4 h5
  intro T hT Y
  obtain ⟨t, q1, o, q2, q3, ⟨⟨r, σ', q4, ⟨q5, q6⟩, q7⟩, q8⟩, q9⟩ := W2 T hT Y
  refine ⟨t, q1, o, q2, q3, ⟨⟨some (vi 1), rnm b a σ', ?_, hQ _, ?_⟩, q8⟩, q9⟩
  · rw [q4, q5]
    rfl
  · have q10 := q7.ofR h.sw q6
    rw [rg_rg h] at q10
    exact q10
/-! the lists of what was made, renamed -/
def mpI (L : List ((Nat × Int) × Int)) : List ((Nat × Int) × Int) := L.map fun x => ((x.1.1, pw x.1.2), x.2)
def mpR (L : List ((Nat × Int) × Int)) : List ((Nat × Int) × Int) := L.map fun x => ((x.1.1, pw x.1.2), pw x.2)
def mpA (L : List ((Int × Int) × Int)) : List ((Int × Int) × Int) := L.map fun x => ((pw x.1.1, x.1.2), pw x.2)
theorem pv_iff {k c : Int} : pv k = c ↔ k = pw c := ⟨fun q => by rw [← q, rnp_vw.2.1], fun q => by rw [q, rnp_vw.1]⟩
theorem lk2_mpI (f : Nat) (k z : Int) : ∀ L : List ((Nat × Int) × Int), lk2 L f (pv k) z = lk2 (mpI L) f k z
  | [] => rfl
  | x :: t => by
    show (if f = x.1.1 ∧ pv k = x.1.2 then x.2 else lk2 t f (pv k) z) = if f = x.1.1 ∧ k = pw x.1.2 then x.2 else lk2 (mpI t) f k z
    rw [lk2_mpI f k z t]
    simp only [pv_iff]
theorem lk2_mpR (f : Nat) (k z : Int) : ∀ L : List ((Nat × Int) × Int), pw (lk2 L f (pv k) z) = lk2 (mpR L) f k (pw z)
  | [] => rfl
  | x :: t => by
    show pw (if f = x.1.1 ∧ pv k = x.1.2 then x.2 else lk2 t f (pv k) z) = if f = x.1.1 ∧ k = pw x.1.2 then pw x.2 else lk2 (mpR t) f k (pw z)
    rw [← lk2_mpR f k z t]
    simp only [pv_iff]
    split <;> rfl
theorem lk3_mpA (r j z : Int) : ∀ L : List ((Int × Int) × Int), pw (lk3 L (pv r) j z) = lk3 (mpA L) r j (pw z)
  | [] => rfl
  | x :: t => by
    show pw (if pv r = x.1.1 ∧ j = x.1.2 then x.2 else lk3 t (pv r) j z) = if r = pw x.1.1 ∧ j = x.1.2 then pw x.2 else lk3 (mpA t) r j (pw z)
    rw [← lk3_mpA r j z t]
    simp only [pv_iff]
    split <;> rfl
def oiR (z : Int) : List ((Nat × Int) × Int) := [((1002, 57), 60), ((1001, 57), 59), ((1000, 57), 58), ((1401, 58), z), ((1002, 53), 56), ((1001, 53), 55), ((1000, 53), 54), ((1401, 54), z), ((1002, 49), 52), ((1001, 49), 51), ((1000, 49), 50), ((1401, 50), z), ((1002, 45), 48), ((1001, 45), 47), ((1000, 45), 46), ((1401, 46), z), ((1209, 1), 33), ((804, 33), 38), ((803, 33), 37), ((802, 33), 36), ((801, 33), 35), ((800, 33), 34), ((1208, 1), 32), ((1207, 1), 27), ((203, 27), 31), ((202, 27), 30), ((201, 27), 29), ((200, 27), 28), ((1401, 28), z), ((1206, 1), 24), ((1205, 1), 26), ((501, 26), 39), ((804, 39), 44), ((803, 39), 43), ((802, 39), 42), ((801, 39), 41), ((800, 39), 40), ((500, 26), 24), ((900, 24), 25), ((1204, 1), 15), ((1203, 1), 3), ((1202, 1), 19), ((705, 19), 3), ((1401, 3), z), ((704, 19), 15), ((402, 15), 18), ((1401, 18), z), ((401, 15), 17), ((400, 15), 16), ((703, 19), 23), ((702, 19), 22), ((701, 19), 21), ((700, 19), 20), ((1201, 1), 4), ((1106, 4), 121), ((1401, 121), z), ((1105, 4), 14), ((1104, 4), 13), ((1103, 4), 12), ((1102, 4), 7), ((1101, 4), 6), ((1100, 4), 5), ((1200, 1), 2)]
def oiI : List ((Nat × Int) × Int) := [((1007, 57), (-1)), ((1006, 57), (-1)), ((1005, 57), (-7)), ((1004, 57), 0), ((1003, 57), 0), ((1400, 58), 0), ((1007, 53), (-1)), ((1006, 53), (-1)), ((1005, 53), (-7)), ((1004, 53), 0), ((1003, 53), 0), ((1400, 54), 0), ((1007, 49), (-1)), ((1006, 49), (-1)), ((1005, 49), (-7)), ((1004, 49), 0), ((1003, 49), 0), ((1400, 50), 0), ((1007, 45), (-1)), ((1006, 45), (-1)), ((1005, 45), (-7)), ((1004, 45), 0), ((1003, 45), 0), ((1400, 46), 0), ((1210, 1), 0), ((807, 33), 0), ((806, 33), 0), ((805, 33), 0), ((204, 27), 0), ((1400, 28), 0), ((507, 26), 0), ((506, 26), 0), ((505, 26), 0), ((504, 26), 0), ((503, 26), 0), ((502, 26), 0), ((807, 39), 0), ((806, 39), 0), ((805, 39), 0), ((901, 24), 0), ((708, 19), 0), ((707, 19), 0), ((706, 19), 0), ((1400, 3), 0), ((405, 15), 40), ((404, 15), 3), ((403, 15), 0), ((1400, 18), 0), ((1109, 4), 0), ((1108, 4), 0), ((1107, 4), 0), ((1400, 121), 0)]
def oiA : List ((Int × Int) × Int) := [((2, 3), 57), ((2, 2), 53), ((2, 1), 49), ((2, 0), 45), ((7, 3), 11), ((7, 2), 10), ((7, 1), 9), ((7, 0), 8)]
theorem oiI_is : mpI aiI = oiI := by decide +kernel
theorem oiA_is : mpA aiA = oiA := by decide +kernel
theorem oiR_is {z : Int} (hz : z ≤ 0) : mpR (aiR z) = oiR z := by
  have e : pw z = z := pw_out (by omega)
  have h : mpR (aiR z) = oiR (pw z) := rfl
  rw [h, e]
