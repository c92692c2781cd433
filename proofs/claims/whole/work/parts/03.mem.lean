/-! the abstract memory: next free place, kind and length of each place, fields (by number) and array elements (by place) -/
abbrev AV : Type := Int ⊕ (BitVec 64 ⊕ Int)
abbrev vi (x : Int) : AV := .inl x
abbrev vl (x : BitVec 64) : AV := .inr (.inl x)
abbrev vr (x : Int) : AV := .inr (.inr x)
abbrev Hp : Type := Int × (Int → Nat) × (Int → Int) × (Nat → Int → Int) × (Nat → Int → BitVec 64) × (Nat → Int → Int) × (Int → Int → Int) × (Int → Int → BitVec 64) × (Int → Int → Int)
def up1 {α : Type} (f : Int → α) (k : Int) (v : α) : Int → α := fun j => if j = k then v else f j
def uf {α : Type} (f : Nat → Int → α) (a : Nat) (k : Int) (v : α) : Nat → Int → α := fun b j => if b = a ∧ j = k then v else f b j
def ua {α : Type} (f : Int → Int → α) (a : Int) (k : Int) (v : α) : Int → Int → α := fun b j => if b = a ∧ j = k then v else f b j
theorem up1_self {α : Type} (f : Int → α) (k : Int) (v : α) : up1 f k v k = v := if_pos rfl
theorem up1_ne {α : Type} (f : Int → α) {k j : Int} (v : α) (h : j ≠ k) : up1 f k v j = f j := if_neg h

def nx (σ : Hp) : Int := σ.1
def kd (σ : Hp) : Int → Nat := σ.2.1
def ln (σ : Hp) : Int → Int := σ.2.2.1
def fI (σ : Hp) : Nat → Int → Int := σ.2.2.2.1
def fL (σ : Hp) : Nat → Int → BitVec 64 := σ.2.2.2.2.1
def fR (σ : Hp) : Nat → Int → Int := σ.2.2.2.2.2.1
def aI (σ : Hp) : Int → Int → Int := σ.2.2.2.2.2.2.1
def aL (σ : Hp) : Int → Int → BitVec 64 := σ.2.2.2.2.2.2.2.1
def aR (σ : Hp) : Int → Int → Int := σ.2.2.2.2.2.2.2.2
def pI (σ : Hp) (f : Nat) (k v : Int) : Hp := (nx σ, kd σ, ln σ, uf (fI σ) f k v, fL σ, fR σ, aI σ, aL σ, aR σ)
def pL (σ : Hp) (f : Nat) (k : Int) (v : BitVec 64) : Hp := (nx σ, kd σ, ln σ, fI σ, uf (fL σ) f k v, fR σ, aI σ, aL σ, aR σ)
def pR (σ : Hp) (f : Nat) (k v : Int) : Hp := (nx σ, kd σ, ln σ, fI σ, fL σ, uf (fR σ) f k v, aI σ, aL σ, aR σ)
def qI (σ : Hp) (r j v : Int) : Hp := (nx σ, kd σ, ln σ, fI σ, fL σ, fR σ, ua (aI σ) r j v, aL σ, aR σ)
def qL (σ : Hp) (r j : Int) (v : BitVec 64) : Hp := (nx σ, kd σ, ln σ, fI σ, fL σ, fR σ, aI σ, ua (aL σ) r j v, aR σ)
def qR (σ : Hp) (r j v : Int) : Hp := (nx σ, kd σ, ln σ, fI σ, fL σ, fR σ, aI σ, aL σ, ua (aR σ) r j v)
def mk (σ : Hp) (κ : Nat) (n : Int) : Hp := (nx σ + 1, up1 (kd σ) (nx σ) κ, up1 (ln σ) (nx σ) n, fI σ, fL σ, fR σ, aI σ, aL σ, aR σ)
theorem nx_pI (σ : Hp) (f : Nat) (k v : Int) : nx (pI σ f k v) = nx σ := Eq.trans rfl rfl
theorem kd_pI (σ : Hp) (f : Nat) (k v : Int) : kd (pI σ f k v) = kd σ := Eq.trans rfl rfl
theorem ln_pI (σ : Hp) (f : Nat) (k v : Int) : ln (pI σ f k v) = ln σ := Eq.trans rfl rfl
theorem fI_pI (σ : Hp) (f : Nat) (k v : Int) (g : Nat) (j : Int) : fI (pI σ f k v) g j = if g = f ∧ j = k then v else fI σ g j := Eq.trans rfl rfl
theorem fL_pI (σ : Hp) (f : Nat) (k v : Int) : fL (pI σ f k v) = fL σ := Eq.trans rfl rfl
theorem fR_pI (σ : Hp) (f : Nat) (k v : Int) : fR (pI σ f k v) = fR σ := Eq.trans rfl rfl
theorem aI_pI (σ : Hp) (f : Nat) (k v : Int) : aI (pI σ f k v) = aI σ := Eq.trans rfl rfl
theorem aL_pI (σ : Hp) (f : Nat) (k v : Int) : aL (pI σ f k v) = aL σ := Eq.trans rfl rfl
theorem aR_pI (σ : Hp) (f : Nat) (k v : Int) : aR (pI σ f k v) = aR σ := Eq.trans rfl rfl
theorem nx_pL (σ : Hp) (f : Nat) (k : Int) (v : BitVec 64) : nx (pL σ f k v) = nx σ := Eq.trans rfl rfl
theorem kd_pL (σ : Hp) (f : Nat) (k : Int) (v : BitVec 64) : kd (pL σ f k v) = kd σ := Eq.trans rfl rfl
theorem ln_pL (σ : Hp) (f : Nat) (k : Int) (v : BitVec 64) : ln (pL σ f k v) = ln σ := Eq.trans rfl rfl
theorem fI_pL (σ : Hp) (f : Nat) (k : Int) (v : BitVec 64) : fI (pL σ f k v) = fI σ := Eq.trans rfl rfl
theorem fL_pL (σ : Hp) (f : Nat) (k : Int) (v : BitVec 64) (g : Nat) (j : Int) : fL (pL σ f k v) g j = if g = f ∧ j = k then v else fL σ g j := Eq.trans rfl rfl
theorem fR_pL (σ : Hp) (f : Nat) (k : Int) (v : BitVec 64) : fR (pL σ f k v) = fR σ := Eq.trans rfl rfl
theorem aI_pL (σ : Hp) (f : Nat) (k : Int) (v : BitVec 64) : aI (pL σ f k v) = aI σ := Eq.trans rfl rfl
theorem aL_pL (σ : Hp) (f : Nat) (k : Int) (v : BitVec 64) : aL (pL σ f k v) = aL σ := Eq.trans rfl rfl
theorem aR_pL (σ : Hp) (f : Nat) (k : Int) (v : BitVec 64) : aR (pL σ f k v) = aR σ := Eq.trans rfl rfl
theorem nx_pR (σ : Hp) (f : Nat) (k v : Int) : nx (pR σ f k v) = nx σ := Eq.trans rfl rfl
theorem kd_pR (σ : Hp) (f : Nat) (k v : Int) : kd (pR σ f k v) = kd σ := Eq.trans rfl rfl
theorem ln_pR (σ : Hp) (f : Nat) (k v : Int) : ln (pR σ f k v) = ln σ := Eq.trans rfl rfl
theorem fI_pR (σ : Hp) (f : Nat) (k v : Int) : fI (pR σ f k v) = fI σ := Eq.trans rfl rfl
theorem fL_pR (σ : Hp) (f : Nat) (k v : Int) : fL (pR σ f k v) = fL σ := Eq.trans rfl rfl
theorem fR_pR (σ : Hp) (f : Nat) (k v : Int) (g : Nat) (j : Int) : fR (pR σ f k v) g j = if g = f ∧ j = k then v else fR σ g j := Eq.trans rfl rfl
theorem aI_pR (σ : Hp) (f : Nat) (k v : Int) : aI (pR σ f k v) = aI σ := Eq.trans rfl rfl
theorem aL_pR (σ : Hp) (f : Nat) (k v : Int) : aL (pR σ f k v) = aL σ := Eq.trans rfl rfl
theorem aR_pR (σ : Hp) (f : Nat) (k v : Int) : aR (pR σ f k v) = aR σ := Eq.trans rfl rfl
theorem nx_qI (σ : Hp) (r j v : Int) : nx (qI σ r j v) = nx σ := Eq.trans rfl rfl
theorem kd_qI (σ : Hp) (r j v : Int) : kd (qI σ r j v) = kd σ := Eq.trans rfl rfl
theorem ln_qI (σ : Hp) (r j v : Int) : ln (qI σ r j v) = ln σ := Eq.trans rfl rfl
theorem fI_qI (σ : Hp) (r j v : Int) : fI (qI σ r j v) = fI σ := Eq.trans rfl rfl
theorem fL_qI (σ : Hp) (r j v : Int) : fL (qI σ r j v) = fL σ := Eq.trans rfl rfl
theorem fR_qI (σ : Hp) (r j v : Int) : fR (qI σ r j v) = fR σ := Eq.trans rfl rfl
theorem aI_qI (σ : Hp) (r j v : Int) (s i : Int) : aI (qI σ r j v) s i = if s = r ∧ i = j then v else aI σ s i := Eq.trans rfl rfl
theorem aL_qI (σ : Hp) (r j v : Int) : aL (qI σ r j v) = aL σ := Eq.trans rfl rfl
theorem aR_qI (σ : Hp) (r j v : Int) : aR (qI σ r j v) = aR σ := Eq.trans rfl rfl
theorem nx_qL (σ : Hp) (r j : Int) (v : BitVec 64) : nx (qL σ r j v) = nx σ := Eq.trans rfl rfl
theorem kd_qL (σ : Hp) (r j : Int) (v : BitVec 64) : kd (qL σ r j v) = kd σ := Eq.trans rfl rfl
theorem ln_qL (σ : Hp) (r j : Int) (v : BitVec 64) : ln (qL σ r j v) = ln σ := Eq.trans rfl rfl
theorem fI_qL (σ : Hp) (r j : Int) (v : BitVec 64) : fI (qL σ r j v) = fI σ := Eq.trans rfl rfl
theorem fL_qL (σ : Hp) (r j : Int) (v : BitVec 64) : fL (qL σ r j v) = fL σ := Eq.trans rfl rfl
theorem fR_qL (σ : Hp) (r j : Int) (v : BitVec 64) : fR (qL σ r j v) = fR σ := Eq.trans rfl rfl
theorem aI_qL (σ : Hp) (r j : Int) (v : BitVec 64) : aI (qL σ r j v) = aI σ := Eq.trans rfl rfl
theorem aL_qL (σ : Hp) (r j : Int) (v : BitVec 64) (s i : Int) : aL (qL σ r j v) s i = if s = r ∧ i = j then v else aL σ s i := Eq.trans rfl rfl
theorem aR_qL (σ : Hp) (r j : Int) (v : BitVec 64) : aR (qL σ r j v) = aR σ := Eq.trans rfl rfl
theorem nx_qR (σ : Hp) (r j v : Int) : nx (qR σ r j v) = nx σ := Eq.trans rfl rfl
theorem kd_qR (σ : Hp) (r j v : Int) : kd (qR σ r j v) = kd σ := Eq.trans rfl rfl
theorem ln_qR (σ : Hp) (r j v : Int) : ln (qR σ r j v) = ln σ := Eq.trans rfl rfl
theorem fI_qR (σ : Hp) (r j v : Int) : fI (qR σ r j v) = fI σ := Eq.trans rfl rfl
theorem fL_qR (σ : Hp) (r j v : Int) : fL (qR σ r j v) = fL σ := Eq.trans rfl rfl
theorem fR_qR (σ : Hp) (r j v : Int) : fR (qR σ r j v) = fR σ := Eq.trans rfl rfl
theorem aI_qR (σ : Hp) (r j v : Int) : aI (qR σ r j v) = aI σ := Eq.trans rfl rfl
theorem aL_qR (σ : Hp) (r j v : Int) : aL (qR σ r j v) = aL σ := Eq.trans rfl rfl
theorem aR_qR (σ : Hp) (r j v : Int) (s i : Int) : aR (qR σ r j v) s i = if s = r ∧ i = j then v else aR σ s i := Eq.trans rfl rfl
theorem nx_mk (σ : Hp) (κ : Nat) (n : Int) : nx (mk σ κ n) = nx σ + 1 := Eq.trans rfl rfl
theorem kd_mk (σ : Hp) (κ : Nat) (n : Int) (j : Int) : kd (mk σ κ n) j = if j = nx σ then κ else kd σ j := Eq.trans rfl rfl
theorem ln_mk (σ : Hp) (κ : Nat) (n : Int) (j : Int) : ln (mk σ κ n) j = if j = nx σ then n else ln σ j := Eq.trans rfl rfl
theorem fI_mk (σ : Hp) (κ : Nat) (n : Int) : fI (mk σ κ n) = fI σ := Eq.trans rfl rfl
theorem fL_mk (σ : Hp) (κ : Nat) (n : Int) : fL (mk σ κ n) = fL σ := Eq.trans rfl rfl
theorem fR_mk (σ : Hp) (κ : Nat) (n : Int) : fR (mk σ κ n) = fR σ := Eq.trans rfl rfl
theorem aI_mk (σ : Hp) (κ : Nat) (n : Int) : aI (mk σ κ n) = aI σ := Eq.trans rfl rfl
theorem aL_mk (σ : Hp) (κ : Nat) (n : Int) : aL (mk σ κ n) = aL σ := Eq.trans rfl rfl
theorem aR_mk (σ : Hp) (κ : Nat) (n : Int) : aR (mk σ κ n) = aR σ := Eq.trans rfl rfl
