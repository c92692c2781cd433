/-! the class: where its fixed things lie; what may change; the relation to the reference -/

def CLay (σ : Hp) : Prop := kd σ 1 = 12 ∧
  fR σ 1200 1 = 2 ∧
  fR σ 1203 1 = 3 ∧
  fR σ 1201 1 = 4 ∧
  fR σ 1204 1 = 15 ∧
  fR σ 1202 1 = 19 ∧
  fR σ 1206 1 = 24 ∧
  fR σ 1205 1 = 26 ∧
  fR σ 1207 1 = 27 ∧
  fR σ 1208 1 = 32 ∧
  kd σ 2 = 106 ∧
  ln σ 2 = 4 ∧
  aR σ 2 0 = 45 ∧
  aR σ 2 1 = 49 ∧
  aR σ 2 2 = 53 ∧
  aR σ 2 3 = 57 ∧
  kd σ 4 = 11 ∧
  fR σ 1100 4 = 5 ∧
  fR σ 1101 4 = 6 ∧
  fR σ 1102 4 = 7 ∧
  fR σ 1103 4 = 12 ∧
  fR σ 1104 4 = 13 ∧
  fR σ 1105 4 = 14 ∧
  kd σ 5 = 102 ∧
  ln σ 5 = 5 ∧
  kd σ 6 = 102 ∧
  ln σ 6 = 5 ∧
  kd σ 7 = 107 ∧
  ln σ 7 = 4 ∧
  aR σ 7 0 = 8 ∧
  aR σ 7 1 = 9 ∧
  aR σ 7 2 = 10 ∧
  aR σ 7 3 = 11 ∧
  kd σ 8 = 102 ∧
  ln σ 8 = 5 ∧
  kd σ 9 = 102 ∧
  ln σ 9 = 5 ∧
  kd σ 10 = 102 ∧
  ln σ 10 = 5 ∧
  kd σ 11 = 102 ∧
  ln σ 11 = 5 ∧
  kd σ 12 = 101 ∧
  ln σ 12 = 3 ∧
  kd σ 13 = 101 ∧
  ln σ 13 = 3 ∧
  kd σ 14 = 102 ∧
  ln σ 14 = 200 ∧
  kd σ 15 = 4 ∧
  fR σ 400 15 = 16 ∧
  fR σ 401 15 = 17 ∧
  fR σ 402 15 = 18 ∧
  kd σ 16 = 101 ∧
  ln σ 16 = 12 ∧
  kd σ 17 = 101 ∧
  ln σ 17 = 12 ∧
  kd σ 18 = 14 ∧
  kd σ 19 = 7 ∧
  fR σ 700 19 = 20 ∧
  fR σ 701 19 = 21 ∧
  fR σ 702 19 = 22 ∧
  fR σ 703 19 = 23 ∧
  fR σ 704 19 = 15 ∧
  fR σ 705 19 = 3 ∧
  kd σ 20 = 101 ∧
  ln σ 20 = 32 ∧
  kd σ 21 = 101 ∧
  ln σ 21 = 12 ∧
  kd σ 22 = 101 ∧
  ln σ 22 = 2 ∧
  kd σ 23 = 101 ∧
  ln σ 23 = 2 ∧
  kd σ 24 = 9 ∧
  fR σ 900 24 = 25 ∧
  kd σ 25 = 104 ∧
  ln σ 25 = 1000 ∧
  kd σ 26 = 5 ∧
  fR σ 500 26 = 24 ∧
  kd σ 27 = 2 ∧
  fR σ 200 27 = 28 ∧
  fR σ 201 27 = 29 ∧
  fR σ 202 27 = 30 ∧
  fR σ 203 27 = 31 ∧
  kd σ 28 = 14 ∧
  kd σ 29 = 101 ∧
  ln σ 29 = 200 ∧
  kd σ 30 = 101 ∧
  ln σ 30 = 200 ∧
  kd σ 31 = 103 ∧
  ln σ 31 = 200 ∧
  kd σ 32 = 101 ∧
  ln σ 32 = 7 ∧
  kd σ 33 = 8 ∧
  fR σ 800 33 = 34 ∧
  kd σ 34 = 101 ∧
  ln σ 34 = 24 ∧
  fR σ 801 33 = 35 ∧
  kd σ 35 = 101 ∧
  ln σ 35 = 24 ∧
  fR σ 802 33 = 36 ∧
  kd σ 36 = 101 ∧
  ln σ 36 = 24 ∧
  fR σ 803 33 = 37 ∧
  kd σ 37 = 101 ∧
  ln σ 37 = 1000 ∧
  fR σ 804 33 = 38 ∧
  kd σ 38 = 101 ∧
  ln σ 38 = 40 ∧
  kd σ 39 = 8 ∧
  fR σ 800 39 = 40 ∧
  kd σ 40 = 101 ∧
  ln σ 40 = 24 ∧
  fR σ 801 39 = 41 ∧
  kd σ 41 = 101 ∧
  ln σ 41 = 24 ∧
  fR σ 802 39 = 42 ∧
  kd σ 42 = 101 ∧
  ln σ 42 = 24 ∧
  fR σ 803 39 = 43 ∧
  kd σ 43 = 101 ∧
  ln σ 43 = 1000 ∧
  fR σ 804 39 = 44 ∧
  kd σ 44 = 101 ∧
  ln σ 44 = 40 ∧
  kd σ 45 = 10 ∧
  fR σ 1000 45 = 46 ∧
  fR σ 1001 45 = 47 ∧
  fR σ 1002 45 = 48 ∧
  kd σ 46 = 14 ∧
  kd σ 47 = 103 ∧
  ln σ 47 = 13 ∧
  kd σ 48 = 101 ∧
  ln σ 48 = 500 ∧
  kd σ 49 = 10 ∧
  fR σ 1000 49 = 50 ∧
  fR σ 1001 49 = 51 ∧
  fR σ 1002 49 = 52 ∧
  kd σ 50 = 14 ∧
  kd σ 51 = 103 ∧
  ln σ 51 = 13 ∧
  kd σ 52 = 101 ∧
  ln σ 52 = 500 ∧
  kd σ 53 = 10 ∧
  fR σ 1000 53 = 54 ∧
  fR σ 1001 53 = 55 ∧
  fR σ 1002 53 = 56 ∧
  kd σ 54 = 14 ∧
  kd σ 55 = 103 ∧
  ln σ 55 = 13 ∧
  kd σ 56 = 101 ∧
  ln σ 56 = 500 ∧
  kd σ 57 = 10 ∧
  fR σ 1000 57 = 58 ∧
  fR σ 1001 57 = 59 ∧
  fR σ 1002 57 = 60 ∧
  kd σ 58 = 14 ∧
  kd σ 59 = 103 ∧
  ln σ 59 = 13 ∧
  kd σ 60 = 101 ∧
  ln σ 60 = 500 ∧
  kd σ 3 = 14 ∧
  kd σ 121 = 14
theorem CLay.eqs {σ : Hp} (h : CLay σ) : kd σ 1 = 12 ∧
  fR σ 1200 1 = 2 ∧
  fR σ 1203 1 = 3 ∧
  fR σ 1201 1 = 4 ∧
  fR σ 1204 1 = 15 ∧
  fR σ 1202 1 = 19 ∧
  fR σ 1206 1 = 24 ∧
  fR σ 1205 1 = 26 ∧
  fR σ 1207 1 = 27 ∧
  fR σ 1208 1 = 32 ∧
  kd σ 2 = 106 ∧
  ln σ 2 = 4 ∧
  aR σ 2 0 = 45 ∧
  aR σ 2 1 = 49 ∧
  aR σ 2 2 = 53 ∧
  aR σ 2 3 = 57 ∧
  kd σ 4 = 11 ∧
  fR σ 1100 4 = 5 ∧
  fR σ 1101 4 = 6 ∧
  fR σ 1102 4 = 7 ∧
  fR σ 1103 4 = 12 ∧
  fR σ 1104 4 = 13 ∧
  fR σ 1105 4 = 14 ∧
  kd σ 5 = 102 ∧
  ln σ 5 = 5 ∧
  kd σ 6 = 102 ∧
  ln σ 6 = 5 ∧
  kd σ 7 = 107 ∧
  ln σ 7 = 4 ∧
  aR σ 7 0 = 8 ∧
  aR σ 7 1 = 9 ∧
  aR σ 7 2 = 10 ∧
  aR σ 7 3 = 11 ∧
  kd σ 8 = 102 ∧
  ln σ 8 = 5 ∧
  kd σ 9 = 102 ∧
  ln σ 9 = 5 ∧
  kd σ 10 = 102 ∧
  ln σ 10 = 5 ∧
  kd σ 11 = 102 ∧
  ln σ 11 = 5 ∧
  kd σ 12 = 101 ∧
  ln σ 12 = 3 ∧
  kd σ 13 = 101 ∧
  ln σ 13 = 3 ∧
  kd σ 14 = 102 ∧
  ln σ 14 = 200 ∧
  kd σ 15 = 4 ∧
  fR σ 400 15 = 16 ∧
  fR σ 401 15 = 17 ∧
  fR σ 402 15 = 18 ∧
  kd σ 16 = 101 ∧
  ln σ 16 = 12 ∧
  kd σ 17 = 101 ∧
  ln σ 17 = 12 ∧
  kd σ 18 = 14 ∧
  kd σ 19 = 7 ∧
  fR σ 700 19 = 20 ∧
  fR σ 701 19 = 21 ∧
  fR σ 702 19 = 22 ∧
  fR σ 703 19 = 23 ∧
  fR σ 704 19 = 15 ∧
  fR σ 705 19 = 3 ∧
  kd σ 20 = 101 ∧
  ln σ 20 = 32 ∧
  kd σ 21 = 101 ∧
  ln σ 21 = 12 ∧
  kd σ 22 = 101 ∧
  ln σ 22 = 2 ∧
  kd σ 23 = 101 ∧
  ln σ 23 = 2 ∧
  kd σ 24 = 9 ∧
  fR σ 900 24 = 25 ∧
  kd σ 25 = 104 ∧
  ln σ 25 = 1000 ∧
  kd σ 26 = 5 ∧
  fR σ 500 26 = 24 ∧
  kd σ 27 = 2 ∧
  fR σ 200 27 = 28 ∧
  fR σ 201 27 = 29 ∧
  fR σ 202 27 = 30 ∧
  fR σ 203 27 = 31 ∧
  kd σ 28 = 14 ∧
  kd σ 29 = 101 ∧
  ln σ 29 = 200 ∧
  kd σ 30 = 101 ∧
  ln σ 30 = 200 ∧
  kd σ 31 = 103 ∧
  ln σ 31 = 200 ∧
  kd σ 32 = 101 ∧
  ln σ 32 = 7 ∧
  kd σ 33 = 8 ∧
  fR σ 800 33 = 34 ∧
  kd σ 34 = 101 ∧
  ln σ 34 = 24 ∧
  fR σ 801 33 = 35 ∧
  kd σ 35 = 101 ∧
  ln σ 35 = 24 ∧
  fR σ 802 33 = 36 ∧
  kd σ 36 = 101 ∧
  ln σ 36 = 24 ∧
  fR σ 803 33 = 37 ∧
  kd σ 37 = 101 ∧
  ln σ 37 = 1000 ∧
  fR σ 804 33 = 38 ∧
  kd σ 38 = 101 ∧
  ln σ 38 = 40 ∧
  kd σ 39 = 8 ∧
  fR σ 800 39 = 40 ∧
  kd σ 40 = 101 ∧
  ln σ 40 = 24 ∧
  fR σ 801 39 = 41 ∧
  kd σ 41 = 101 ∧
  ln σ 41 = 24 ∧
  fR σ 802 39 = 42 ∧
  kd σ 42 = 101 ∧
  ln σ 42 = 24 ∧
  fR σ 803 39 = 43 ∧
  kd σ 43 = 101 ∧
  ln σ 43 = 1000 ∧
  fR σ 804 39 = 44 ∧
  kd σ 44 = 101 ∧
  ln σ 44 = 40 ∧
  kd σ 45 = 10 ∧
  fR σ 1000 45 = 46 ∧
  fR σ 1001 45 = 47 ∧
  fR σ 1002 45 = 48 ∧
  kd σ 46 = 14 ∧
  kd σ 47 = 103 ∧
  ln σ 47 = 13 ∧
  kd σ 48 = 101 ∧
  ln σ 48 = 500 ∧
  kd σ 49 = 10 ∧
  fR σ 1000 49 = 50 ∧
  fR σ 1001 49 = 51 ∧
  fR σ 1002 49 = 52 ∧
  kd σ 50 = 14 ∧
  kd σ 51 = 103 ∧
  ln σ 51 = 13 ∧
  kd σ 52 = 101 ∧
  ln σ 52 = 500 ∧
  kd σ 53 = 10 ∧
  fR σ 1000 53 = 54 ∧
  fR σ 1001 53 = 55 ∧
  fR σ 1002 53 = 56 ∧
  kd σ 54 = 14 ∧
  kd σ 55 = 103 ∧
  ln σ 55 = 13 ∧
  kd σ 56 = 101 ∧
  ln σ 56 = 500 ∧
  kd σ 57 = 10 ∧
  fR σ 1000 57 = 58 ∧
  fR σ 1001 57 = 59 ∧
  fR σ 1002 57 = 60 ∧
  kd σ 58 = 14 ∧
  kd σ 59 = 103 ∧
  ln σ 59 = 13 ∧
  kd σ 60 = 101 ∧
  ln σ 60 = 500 ∧
  kd σ 3 = 14 ∧
  kd σ 121 = 14 := h
theorem CLay_pI (σ : Hp) (f : Nat) (k v : Int) : CLay (pI σ f k v) = CLay σ := rfl
theorem CLay_pL (σ : Hp) (f : Nat) (k : Int) (v : BitVec 64) : CLay (pL σ f k v) = CLay σ := rfl
theorem CLay_qI (σ : Hp) (r j v : Int) : CLay (qI σ r j v) = CLay σ := rfl
theorem CLay_qL (σ : Hp) (r j : Int) (v : BitVec 64) : CLay (qL σ r j v) = CLay σ := rfl
/-- fields fs, int rows ars, long rows als may have changed, nothing else -/
def Fz (fs : List Nat) (ars als : Int → Prop) (σ σ' : Hp) : Prop := nx σ' = nx σ ∧ kd σ' = kd σ ∧ ln σ' = ln σ ∧ aR σ' = aR σ ∧ (∀ f, f ∉ fs → fI σ' f = fI σ f) ∧ (∀ f, f ∉ fs → fL σ' f = fL σ f) ∧ (∀ f, f ∉ fs → fR σ' f = fR σ f) ∧ (∀ r, ¬ ars r → aI σ' r = aI σ r) ∧ ∀ r, ¬ als r → aL σ' r = aL σ r
abbrev noR : Int → Prop := fun _ => False
theorem Fz.nx {fs : List Nat} {ars als : Int → Prop} {σ σ' : Hp} (h : Fz fs ars als σ σ') : nx σ' = nx σ := h.1
theorem Fz.kd {fs : List Nat} {ars als : Int → Prop} {σ σ' : Hp} (h : Fz fs ars als σ σ') : kd σ' = kd σ := h.2.1
theorem Fz.ln {fs : List Nat} {ars als : Int → Prop} {σ σ' : Hp} (h : Fz fs ars als σ σ') : ln σ' = ln σ := h.2.2.1
theorem Fz.aR {fs : List Nat} {ars als : Int → Prop} {σ σ' : Hp} (h : Fz fs ars als σ σ') : aR σ' = aR σ := h.2.2.2.1
theorem Fz.fI {fs : List Nat} {ars als : Int → Prop} {σ σ' : Hp} (h : Fz fs ars als σ σ') {f : Nat} (hf : f ∉ fs) : fI σ' f = fI σ f := h.2.2.2.2.1 f hf
theorem Fz.fL {fs : List Nat} {ars als : Int → Prop} {σ σ' : Hp} (h : Fz fs ars als σ σ') {f : Nat} (hf : f ∉ fs) : fL σ' f = fL σ f := h.2.2.2.2.2.1 f hf
theorem Fz.fR {fs : List Nat} {ars als : Int → Prop} {σ σ' : Hp} (h : Fz fs ars als σ σ') {f : Nat} (hf : f ∉ fs) : fR σ' f = fR σ f := h.2.2.2.2.2.2.1 f hf
theorem Fz.aI {fs : List Nat} {ars als : Int → Prop} {σ σ' : Hp} (h : Fz fs ars als σ σ') {r : Int} (hf : ¬ ars r) : aI σ' r = aI σ r := h.2.2.2.2.2.2.2.1 r hf
theorem Fz.aL {fs : List Nat} {ars als : Int → Prop} {σ σ' : Hp} (h : Fz fs ars als σ σ') {r : Int} (hf : ¬ als r) : aL σ' r = aL σ r := h.2.2.2.2.2.2.2.2 r hf
theorem Fz.rf {fs : List Nat} {ars als : Int → Prop} (σ : Hp) : Fz fs ars als σ σ := ⟨rfl, rfl, rfl, rfl, fun _ _ => rfl, fun _ _ => rfl, fun _ _ => rfl, fun _ _ => rfl, fun _ _ => rfl⟩
theorem Fz.tr {fs : List Nat} {ars als : Int → Prop} {σ τ ρ : Hp} (h : Fz fs ars als σ τ) (g : Fz fs ars als τ ρ) : Fz fs ars als σ ρ :=
  ⟨g.nx.trans h.nx, g.kd.trans h.kd, g.ln.trans h.ln, g.aR.trans h.aR, fun _ x => (g.fI x).trans (h.fI x), fun _ x => (g.fL x).trans (h.fL x), fun _ x => (g.fR x).trans (h.fR x), fun _ x => (g.aI x).trans (h.aI x), fun _ x => (g.aL x).trans (h.aL x)⟩
theorem Fz.up {fs gs : List Nat} {ars als brs bls : Int → Prop} {σ τ : Hp} (h : Fz fs ars als σ τ) (h1 : ∀ f ∈ fs, f ∈ gs) (h2 : ∀ r, ars r → brs r) (h3 : ∀ r, als r → bls r) : Fz gs brs bls σ τ :=
  ⟨h.nx, h.kd, h.ln, h.aR, fun _ x => h.fI (fun y => x (h1 _ y)), fun _ x => h.fL (fun y => x (h1 _ y)), fun _ x => h.fR (fun y => x (h1 _ y)), fun _ x => h.aI (fun y => x (h2 _ y)), fun _ x => h.aL (fun y => x (h3 _ y))⟩
theorem Fz_pI {fs : List Nat} {ars als : Int → Prop} (σ : Hp) {f : Nat} (k v : Int) (hf : f ∈ fs) : Fz fs ars als σ (pI σ f k v) := by
  refine ⟨rfl, rfl, rfl, rfl, fun g hg => ?_, fun _ _ => rfl, fun _ _ => rfl, fun _ _ => rfl, fun _ _ => rfl⟩
  funext j
  rw [fI_pI, if_neg (fun z => hg (by rw [z.1]; exact hf))]
theorem Fz_pL {fs : List Nat} {ars als : Int → Prop} (σ : Hp) {f : Nat} (k : Int) (v : BitVec 64) (hf : f ∈ fs) : Fz fs ars als σ (pL σ f k v) := by
  refine ⟨rfl, rfl, rfl, rfl, fun _ _ => rfl, fun g hg => ?_, fun _ _ => rfl, fun _ _ => rfl, fun _ _ => rfl⟩
  funext j
  rw [fL_pL, if_neg (fun z => hg (by rw [z.1]; exact hf))]
theorem Fz_pR {fs : List Nat} {ars als : Int → Prop} (σ : Hp) {f : Nat} (k v : Int) (hf : f ∈ fs) : Fz fs ars als σ (pR σ f k v) := by
  refine ⟨rfl, rfl, rfl, rfl, fun _ _ => rfl, fun _ _ => rfl, fun g hg => ?_, fun _ _ => rfl, fun _ _ => rfl⟩
  funext j
  rw [fR_pR, if_neg (fun z => hg (by rw [z.1]; exact hf))]
theorem Fz_qI {fs : List Nat} {ars als : Int → Prop} (σ : Hp) {r : Int} (k v : Int) (hr : ars r) : Fz fs ars als σ (qI σ r k v) := by
  refine ⟨rfl, rfl, rfl, rfl, fun _ _ => rfl, fun _ _ => rfl, fun _ _ => rfl, fun s hs => ?_, fun _ _ => rfl⟩
  funext j
  rw [aI_qI, if_neg (fun z => hs (by rw [z.1]; exact hr))]
theorem Fz_qL {fs : List Nat} {ars als : Int → Prop} (σ : Hp) {r : Int} (k : Int) (v : BitVec 64) (hr : als r) : Fz fs ars als σ (qL σ r k v) := by
  refine ⟨rfl, rfl, rfl, rfl, fun _ _ => rfl, fun _ _ => rfl, fun _ _ => rfl, fun _ _ => rfl, fun s hs => ?_⟩
  funext j
  rw [aL_qL, if_neg (fun z => hs (by rw [z.1]; exact hr))]
theorem CLay.fz {fs : List Nat} {ars als : Int → Prop} {σ σ' : Hp} (h : CLay σ) (z : Fz fs ars als σ σ') (hf : ∀ f ∈ fs, f ∉ [1200, 1203, 1201, 1204, 1202, 1206, 1205, 1207, 1208, 1100, 1101, 1102, 1103, 1104, 1105, 400, 401, 402, 700, 701, 702, 703, 704, 705, 900, 500, 200, 201, 202, 203, 800, 801, 802, 803, 804, 1000, 1001, 1002]) : CLay σ' := by
  have hz : ∀ f ∈ [1200, 1203, 1201, 1204, 1202, 1206, 1205, 1207, 1208, 1100, 1101, 1102, 1103, 1104, 1105, 400, 401, 402, 700, 701, 702, 703, 704, 705, 900, 500, 200, 201, 202, 203, 800, 801, 802, 803, 804, 1000, 1001, 1002], fR σ' f = fR σ f := fun f h1 => z.fR (fun h2 => hf f h2 h1)
  unfold CLay at h ⊢
  simp only [List.forall_mem_cons, List.not_mem_nil, false_implies, implies_true, and_true] at hz
  simp only [z.kd, z.ln, z.aR, hz]
  exact h
/-- the reference's places are as they were -/
def RE (σ σ' : Hp) : Prop := (∀ k, 61 ≤ k → k ≤ 119 → kd σ' k = kd σ k ∧ ln σ' k = ln σ k ∧ aI σ' k = aI σ k ∧ aL σ' k = aL σ k) ∧ ∀ f, 1300 ≤ f → f < 1400 → fI σ' f 61 = fI σ f 61 ∧ fL σ' f 61 = fL σ f 61 ∧ fR σ' f 61 = fR σ f 61
theorem RE.rf (σ : Hp) : RE σ σ := ⟨fun _ _ _ => ⟨rfl, rfl, rfl, rfl⟩, fun _ _ _ => ⟨rfl, rfl, rfl⟩⟩
theorem RE.tr {σ τ ρ : Hp} (h : RE σ τ) (g : RE τ ρ) : RE σ ρ := ⟨fun k a b => by
    obtain ⟨h1, h2, h3, h4⟩ := h.1 k a b
    obtain ⟨g1, g2, g3, g4⟩ := g.1 k a b
    exact ⟨g1.trans h1, g2.trans h2, g3.trans h3, g4.trans h4⟩, fun f a b => by
    obtain ⟨h1, h2, h3⟩ := h.2 f a b
    obtain ⟨g1, g2, g3⟩ := g.2 f a b
    exact ⟨g1.trans h1, g2.trans h2, g3.trans h3⟩⟩
theorem Fz.re {fs : List Nat} {ars als : Int → Prop} {σ σ' : Hp} (z : Fz fs ars als σ σ') (hf : ∀ f ∈ fs, f < 1300 ∨ 1400 ≤ f) (ha : ∀ r, ars r → r < 61 ∨ 119 < r) (hl : ∀ r, als r → r < 61 ∨ 119 < r) : RE σ σ' :=
  ⟨fun k a b => ⟨by rw [z.kd], by rw [z.ln], z.aI (fun q => by have := ha k q; omega), z.aL (fun q => by have := hl k q; omega)⟩, fun f a b => by
    have hn : f ∉ fs := fun q => by have := hf f q; omega
    exact ⟨by rw [z.fI hn], by rw [z.fL hn], by rw [z.fR hn]⟩⟩
theorem RE.eqs {σ σ' : Hp} (h : RE σ σ') : aI σ' 62 = aI σ 62 ∧
  aI σ' 63 = aI σ 63 ∧
  aI σ' 64 = aI σ 64 ∧
  aI σ' 65 = aI σ 65 ∧
  aI σ' 66 = aI σ 66 ∧
  aI σ' 67 = aI σ 67 ∧
  aI σ' 68 = aI σ 68 ∧
  aI σ' 69 = aI σ 69 ∧
  aI σ' 70 = aI σ 70 ∧
  aI σ' 71 = aI σ 71 ∧
  aI σ' 72 = aI σ 72 ∧
  aI σ' 73 = aI σ 73 ∧
  aI σ' 74 = aI σ 74 ∧
  aI σ' 75 = aI σ 75 ∧
  aI σ' 76 = aI σ 76 ∧
  aI σ' 77 = aI σ 77 ∧
  aI σ' 78 = aI σ 78 ∧
  aI σ' 79 = aI σ 79 ∧
  aI σ' 80 = aI σ 80 ∧
  aI σ' 81 = aI σ 81 ∧
  aI σ' 82 = aI σ 82 ∧
  aL σ' 83 = aL σ 83 ∧
  aL σ' 84 = aL σ 84 ∧
  aI σ' 85 = aI σ 85 ∧
  aI σ' 86 = aI σ 86 ∧
  aI σ' 87 = aI σ 87 ∧
  aI σ' 88 = aI σ 88 ∧
  aI σ' 89 = aI σ 89 ∧
  aI σ' 90 = aI σ 90 ∧
  aI σ' 91 = aI σ 91 ∧
  aI σ' 92 = aI σ 92 ∧
  aI σ' 93 = aI σ 93 ∧
  aI σ' 94 = aI σ 94 ∧
  aI σ' 95 = aI σ 95 ∧
  aI σ' 96 = aI σ 96 ∧
  aI σ' 97 = aI σ 97 ∧
  aI σ' 98 = aI σ 98 ∧
  aI σ' 99 = aI σ 99 ∧
  aI σ' 100 = aI σ 100 ∧
  aI σ' 101 = aI σ 101 ∧
  aI σ' 102 = aI σ 102 ∧
  aI σ' 103 = aI σ 103 ∧
  aI σ' 104 = aI σ 104 ∧
  aI σ' 105 = aI σ 105 ∧
  aI σ' 106 = aI σ 106 ∧
  aI σ' 107 = aI σ 107 ∧
  aI σ' 108 = aI σ 108 ∧
  aI σ' 109 = aI σ 109 ∧
  aI σ' 110 = aI σ 110 ∧
  aI σ' 111 = aI σ 111 ∧
  aI σ' 112 = aI σ 112 ∧
  aI σ' 113 = aI σ 113 ∧
  aI σ' 114 = aI σ 114 ∧
  aI σ' 115 = aI σ 115 ∧
  aI σ' 116 = aI σ 116 ∧
  aI σ' 117 = aI σ 117 ∧
  aI σ' 118 = aI σ 118 ∧
  aI σ' 119 = aI σ 119 ∧
  fI σ' 1300 61 = fI σ 1300 61 ∧
  fI σ' 1301 61 = fI σ 1301 61 ∧
  fI σ' 1302 61 = fI σ 1302 61 ∧
  fI σ' 1321 61 = fI σ 1321 61 ∧
  fI σ' 1322 61 = fI σ 1322 61 ∧
  fI σ' 1323 61 = fI σ 1323 61 ∧
  fI σ' 1329 61 = fI σ 1329 61 ∧
  fI σ' 1330 61 = fI σ 1330 61 ∧
  fI σ' 1331 61 = fI σ 1331 61 ∧
  fI σ' 1332 61 = fI σ 1332 61 ∧
  fI σ' 1335 61 = fI σ 1335 61 ∧
  fI σ' 1341 61 = fI σ 1341 61 ∧
  fI σ' 1342 61 = fI σ 1342 61 ∧
  fI σ' 1343 61 = fI σ 1343 61 ∧
  fI σ' 1345 61 = fI σ 1345 61 ∧
  fI σ' 1346 61 = fI σ 1346 61 ∧
  fI σ' 1347 61 = fI σ 1347 61 ∧
  fI σ' 1348 61 = fI σ 1348 61 ∧
  fL σ' 1349 61 = fL σ 1349 61 ∧
  fI σ' 1350 61 = fI σ 1350 61 ∧
  fI σ' 1351 61 = fI σ 1351 61 ∧
  fI σ' 1352 61 = fI σ 1352 61 ∧
  fI σ' 1353 61 = fI σ 1353 61 ∧
  fI σ' 1359 61 = fI σ 1359 61 ∧
  fI σ' 1371 61 = fI σ 1371 61 ∧
  fI σ' 1380 61 = fI σ 1380 61 ∧
  fI σ' 1384 61 = fI σ 1384 61 ∧
  fI σ' 1385 61 = fI σ 1385 61 ∧
  fI σ' 1386 61 = fI σ 1386 61 ∧
  fI σ' 1387 61 = fI σ 1387 61 :=
  ⟨(h.1 62 (by decide) (by decide)).2.2.1,
   (h.1 63 (by decide) (by decide)).2.2.1,
   (h.1 64 (by decide) (by decide)).2.2.1,
   (h.1 65 (by decide) (by decide)).2.2.1,
   (h.1 66 (by decide) (by decide)).2.2.1,
   (h.1 67 (by decide) (by decide)).2.2.1,
   (h.1 68 (by decide) (by decide)).2.2.1,
   (h.1 69 (by decide) (by decide)).2.2.1,
   (h.1 70 (by decide) (by decide)).2.2.1,
   (h.1 71 (by decide) (by decide)).2.2.1,
   (h.1 72 (by decide) (by decide)).2.2.1,
   (h.1 73 (by decide) (by decide)).2.2.1,
   (h.1 74 (by decide) (by decide)).2.2.1,
   (h.1 75 (by decide) (by decide)).2.2.1,
   (h.1 76 (by decide) (by decide)).2.2.1,
   (h.1 77 (by decide) (by decide)).2.2.1,
   (h.1 78 (by decide) (by decide)).2.2.1,
   (h.1 79 (by decide) (by decide)).2.2.1,
   (h.1 80 (by decide) (by decide)).2.2.1,
   (h.1 81 (by decide) (by decide)).2.2.1,
   (h.1 82 (by decide) (by decide)).2.2.1,
   (h.1 83 (by decide) (by decide)).2.2.2,
   (h.1 84 (by decide) (by decide)).2.2.2,
   (h.1 85 (by decide) (by decide)).2.2.1,
   (h.1 86 (by decide) (by decide)).2.2.1,
   (h.1 87 (by decide) (by decide)).2.2.1,
   (h.1 88 (by decide) (by decide)).2.2.1,
   (h.1 89 (by decide) (by decide)).2.2.1,
   (h.1 90 (by decide) (by decide)).2.2.1,
   (h.1 91 (by decide) (by decide)).2.2.1,
   (h.1 92 (by decide) (by decide)).2.2.1,
   (h.1 93 (by decide) (by decide)).2.2.1,
   (h.1 94 (by decide) (by decide)).2.2.1,
   (h.1 95 (by decide) (by decide)).2.2.1,
   (h.1 96 (by decide) (by decide)).2.2.1,
   (h.1 97 (by decide) (by decide)).2.2.1,
   (h.1 98 (by decide) (by decide)).2.2.1,
   (h.1 99 (by decide) (by decide)).2.2.1,
   (h.1 100 (by decide) (by decide)).2.2.1,
   (h.1 101 (by decide) (by decide)).2.2.1,
   (h.1 102 (by decide) (by decide)).2.2.1,
   (h.1 103 (by decide) (by decide)).2.2.1,
   (h.1 104 (by decide) (by decide)).2.2.1,
   (h.1 105 (by decide) (by decide)).2.2.1,
   (h.1 106 (by decide) (by decide)).2.2.1,
   (h.1 107 (by decide) (by decide)).2.2.1,
   (h.1 108 (by decide) (by decide)).2.2.1,
   (h.1 109 (by decide) (by decide)).2.2.1,
   (h.1 110 (by decide) (by decide)).2.2.1,
   (h.1 111 (by decide) (by decide)).2.2.1,
   (h.1 112 (by decide) (by decide)).2.2.1,
   (h.1 113 (by decide) (by decide)).2.2.1,
   (h.1 114 (by decide) (by decide)).2.2.1,
   (h.1 115 (by decide) (by decide)).2.2.1,
   (h.1 116 (by decide) (by decide)).2.2.1,
   (h.1 117 (by decide) (by decide)).2.2.1,
   (h.1 118 (by decide) (by decide)).2.2.1,
   (h.1 119 (by decide) (by decide)).2.2.1,
   (h.2 1300 (by decide) (by decide)).1,
   (h.2 1301 (by decide) (by decide)).1,
   (h.2 1302 (by decide) (by decide)).1,
   (h.2 1321 (by decide) (by decide)).1,
   (h.2 1322 (by decide) (by decide)).1,
   (h.2 1323 (by decide) (by decide)).1,
   (h.2 1329 (by decide) (by decide)).1,
   (h.2 1330 (by decide) (by decide)).1,
   (h.2 1331 (by decide) (by decide)).1,
   (h.2 1332 (by decide) (by decide)).1,
   (h.2 1335 (by decide) (by decide)).1,
   (h.2 1341 (by decide) (by decide)).1,
   (h.2 1342 (by decide) (by decide)).1,
   (h.2 1343 (by decide) (by decide)).1,
   (h.2 1345 (by decide) (by decide)).1,
   (h.2 1346 (by decide) (by decide)).1,
   (h.2 1347 (by decide) (by decide)).1,
   (h.2 1348 (by decide) (by decide)).1,
   (h.2 1349 (by decide) (by decide)).2.1,
   (h.2 1350 (by decide) (by decide)).1,
   (h.2 1351 (by decide) (by decide)).1,
   (h.2 1352 (by decide) (by decide)).1,
   (h.2 1353 (by decide) (by decide)).1,
   (h.2 1359 (by decide) (by decide)).1,
   (h.2 1371 (by decide) (by decide)).1,
   (h.2 1380 (by decide) (by decide)).1,
   (h.2 1384 (by decide) (by decide)).1,
   (h.2 1385 (by decide) (by decide)).1,
   (h.2 1386 (by decide) (by decide)).1,
   (h.2 1387 (by decide) (by decide)).1⟩
theorem MLay_RE {σ σ' : Hp} (h : RE σ σ') (g : MLay σ) : MLay σ' := by
  have hk : ∀ k, 61 ≤ k → k ≤ 119 → kd σ' k = kd σ k := fun k a b => (h.1 k a b).1
  have hl : ∀ k, 61 ≤ k → k ≤ 119 → ln σ' k = ln σ k := fun k a b => (h.1 k a b).2.1
  have hf : ∀ f, 1300 ≤ f → f < 1400 → fR σ' f 61 = fR σ f 61 := fun f a b => (h.2 f a b).2.2
  unfold MLay at g ⊢
  simp (disch := decide) only [hk, hl, hf]
  exact g
theorem MI_RE {σ σ' : Hp} (h : RE σ σ') (g : MI σ) : MI σ' := by
  refine ⟨MLay_RE h g.1, fun q hq j => ?_, fun q hq => ?_⟩
  · have : 61 ≤ q.1 ∧ q.1 ≤ 119 := by
      have := List.all_eq_true.mp (show MRT.all (fun q => decide (61 ≤ q.1 ∧ q.1 ≤ 119)) = true by decide +kernel) q hq
      exact of_decide_eq_true this
    rw [(h.1 q.1 this.1 this.2).2.2.1]
    exact g.2.1 q hq j
  · have : 1300 ≤ q.1 ∧ q.1 < 1400 := by
      have := List.all_eq_true.mp (show MST.all (fun q => decide (1300 ≤ q.1 ∧ q.1 < 1400)) = true by decide +kernel) q hq
      exact of_decide_eq_true this
    rw [(h.2 q.1 this.1 this.2).1]
    exact g.2.2 q hq
/-! the relation: σ's class holds what τ's reference holds -/
/-- a box -/
def BxE (σ τ : Hp) (i p : Int) : Prop := 120 < p ∧ fI σ 300 p = aI τ 63 i ∧ fI σ 301 p = aI τ 64 i ∧ fI σ 302 p = i ∧ fI σ 303 p = aI τ 62 i ∧ fI σ 304 p = aI τ 68 i ∧ fI σ 305 p = aI τ 65 i ∧ fI σ 306 p = aI τ 66 i ∧ fI σ 307 p = aI τ 67 i ∧ fI σ 308 p = aI τ 72 i ∧ fI σ 309 p = 3 * aI τ 73 i + 15 ∧ fI σ 312 p = aI τ 70 i ∧ fI σ 313 p = aI τ 69 i ∧
  ∀ o, 0 ≤ o → o < 128 → (whl σ p o = true ↔ ∃ r j, (0 ≤ r ∧ r < 3) ∧ (0 ≤ j ∧ j < aI τ 72 i) ∧ o = r * (aI τ 73 i + 7) + aI τ 71 (15 * i + j))
def BX (σ τ : Hp) : Prop := LOk σ 3 2 ∧ fI σ 1402 3 = fI τ 1302 61 ∧ ∀ i, 0 ≤ i → i < fI τ 1302 61 → BxE σ τ i (lat σ 3 i)
/-- a loop -/
def LoP (σ τ : Hp) (l : Int) : Prop := LOk σ (46 + 4 * l) 2 ∧ fI σ 1402 (46 + 4 * l) = aI τ 74 l ∧ (∀ k, 0 ≤ k → k < aI τ 74 l → lat σ (46 + 4 * l) k = lat σ 3 (aI τ 75 (12 * l + k))) ∧
  (∀ w, 0 ≤ aI σ (47 + 4 * l) w ∧ aI σ (47 + 4 * l) w ≤ 1) ∧ (∀ w, 0 ≤ w → w ≤ 12 → aI σ (47 + 4 * l) w = aI τ 76 (13 * l + w)) ∧ (∀ w, aI τ 74 l < w → w ≤ 12 → aI τ 76 (13 * l + w) = 0) ∧ CutE σ (45 + 4 * l) 13 (fI σ 1006 ((45 + 4 * l))) (fI σ 1007 ((45 + 4 * l))) ∧
  (∀ k, 0 ≤ aI σ (48 + 4 * l) k ∧ aI σ (48 + 4 * l) k ≤ 999999) ∧ (∀ k, 0 ≤ k → k < 500 → aI σ (48 + 4 * l) k = aI τ 79 (500 * l + k)) ∧ fI σ 1003 ((45 + 4 * l)) = min (aI τ 78 l) 500 ∧ fI σ 1004 ((45 + 4 * l)) = aI τ 78 l % 500 ∧ (fI σ 1005 ((45 + 4 * l)) = aI τ 77 l ∨ (fI σ 1005 ((45 + 4 * l)) = -7 ∧ aI τ 77 l = -1000)) ∧ (0 ≤ aI τ 77 l ∨ aI τ 77 l = -1000)
/-- a company -/
def CoE (σ τ : Hp) (c p : Int) : Prop := 120 < p ∧ fI σ 600 p = aI τ 87 c ∧ fI σ 601 p = aI τ 88 c ∧ (aI τ 89 c < 0 → fI σ 603 p = 1 ∧ fI σ 604 p = aI τ 91 c) ∧ (0 ≤ aI τ 89 c → fI σ 603 p = 0 ∧ fI σ 602 p = aI τ 89 c) ∧ (0 ≤ fI σ 602 p ∧ fI σ 602 p ≤ 11)
def BG (σ τ : Hp) : Prop := LOk σ 18 5 ∧ fI σ 1402 18 = fI τ 1335 61 ∧ (∀ c, 0 ≤ c → c < fI τ 1335 61 → CoE σ τ c (lat σ 18 c)) ∧ (∀ c d, 0 ≤ c → c < d → d < fI τ 1335 61 → ¬ lat σ 18 c = lat σ 18 d) ∧ fI σ 403 15 = fI τ 1332 61 ∧ (∀ h, aI σ 16 h = aI τ 85 h ∧ aI σ 17 h = aI τ 86 h) ∧ fI σ 404 15 = fI τ 1341 61 ∧ fI σ 405 15 = fI τ 1342 61
/-- an alarm -/
def AlE (σ τ : Hp) (a p : Int) : Prop := 120 < p ∧ fR σ 100 p = lat σ 3 (aI τ 109 a) ∧ fI σ 101 p = aI τ 110 a ∧ fR σ 102 p = p + 1 ∧ kd σ (p + 1) = 101 ∧ ln σ (p + 1) = 20 ∧ fI σ 103 p = aI τ 115 a ∧ (∀ i, 0 ≤ i → i < aI τ 115 a → aI σ (p + 1) i = aI τ 116 (20 * a + i)) ∧ fI σ 104 p = aI τ 111 a ∧ fI σ 105 p = aI τ 112 a ∧ fI σ 106 p = aI τ 113 a ∧ fI σ 107 p = aI τ 114 a
def AL (σ τ : Hp) : Prop := LOk σ 28 0 ∧ fI σ 1402 28 = fI τ 1371 61 ∧ (∀ a, 0 ≤ a → a < fI τ 1371 61 → AlE σ τ a (lat σ 28 a)) ∧ (∀ a b, 0 ≤ a → a < b → b < fI τ 1371 61 → ¬ lat σ 28 a = lat σ 28 b) ∧ (∀ w, aI σ 29 w = aI τ 117 w ∧ aI σ 30 w = aI τ 119 w ∧ aI σ 31 w = aI τ 118 w) ∧ fI σ 204 27 = fI τ 1380 61

