/-! the picture of a memory: what the heap holds. g: classes, slots, array classes, the first place's address, the addresses ahead of it, the order in which the places were made -/
abbrev GG : Type := (Nat → ClassId) × (Nat → Nat → Nat) × (Nat → ClassId) × Nat × (Nat → Nat) × (Int → Int)
def gD (g : GG) : va_G := (g.1, g.2.1)
def gA (g : GG) : Nat → ClassId := g.2.2.1
def gB (g : GG) : Nat := g.2.2.2.1
def gX (g : GG) : Nat → Nat := g.2.2.2.2.1
def gP (g : GG) : Int → Int := g.2.2.2.2.2
/-- the order is one to one, and keeps to the places from 1 on -/
def PM (g : GG) : Prop := (∀ r, 0 < r → 0 < gP g r) ∧ ∀ r r', 0 < r → 0 < r' → gP g r = gP g r' → r = r'
/-- how large the heap is, for n as the next place: from there on the places lie in their own order -/
def SZ (g : GG) (n : Int) (z : Nat) : Prop := z = gB g + (n - 1).toNat ∧ ∀ r, n ≤ r → gP g r = r
def AF (g : GG) : Nat → Prop := fun q => gB g ≤ q
def ad (g : GG) (r : Int) : Nat := if 0 < r then gB g + ((gP g r).toNat - 1) else gX g (-r).toNat
def rv (g : GG) (r : Int) : Option Nat := if r = 0 then none else some (ad g r)
def cv (g : GG) : AV → Value
  | .inl x => .int (c32 x)
  | .inr (.inl x) => .long (c64 x)
  | .inr (.inr r) => va_rf (rv g r)
def fval (g : GG) (σ : Hp) (t : FieldType) (f : Nat) (k : Int) : Value := match t with
  | .long => .long (c64 (fL σ f k))
  | .object _ => va_rf (rv g (fR σ f k))
  | .array _ => va_rf (rv g (fR σ f k))
  | _ => .int (c32 (fI σ f k))
def flds (g : GG) (σ : Hp) (ci : Nat) (k : Int) : List Value := (List.range (cN ci)).map (fun j => fval g σ (cty ci j) ((ci + 1) * 100 + j) k)
def aval (g : GG) (σ : Hp) (κ : Nat) (k : Int) : vp_A := ((ln σ k).toNat,
  if κ = 102 then .inr (.inl fun j => c64 (aL σ k j)) else
  if κ = 105 ∨ κ = 106 ∨ κ = 107 then .inr (.inr (.inr (.inr fun j => rv g (aR σ k j)))) else .inl fun j => c32 (aI σ k j))
def cel (g : GG) (σ : Hp) (k : Int) : va_E := if 100 ≤ kd σ k then .inl (gA g (kd σ k), aval g σ (kd σ k) k) else .inr (kd σ k - 1, flds g σ (kd σ k - 1) k)
def aty : Nat → FieldType := fun κ => match κ with
  | 101 => .int
  | 102 => .long
  | 103 => .boolean
  | 104 => .char
  | 105 => .object "java/lang/Object"
  | 106 => .object "AlarmBoxes$Loop"
  | 107 => .array .long
  | _ => .int
def ATY (g : GG) : List (ClassId × FieldType) := [(gA g 101, .int), (gA g 102, .long), (gA g 103, .boolean), (gA g 104, .char), (gA g 105, .object "java/lang/Object"), (gA g 106, .object "AlarmBoxes$Loop"), (gA g 107, .array .long), (gA g 108, .int)]
/-- the places that are cells of classes and arrays -/
def trk (κ : Nat) : Prop := (1 ≤ κ ∧ κ ≤ 14) ∨ (101 ≤ κ ∧ κ ≤ 108)
def Sim (g : GG) (σ : Hp) (H : Heap) : Prop := ∀ k, trk (kd σ k) → 0 < k → va_at (gD g) CLS (ad g k, cel g σ k) H
/-- what lay there before: bytes (21), the lists' empty row (105), the script (108) -/
def StrB (g : GG) (U : State) (σ : Hp) (H : Heap) : Prop :=
  (∀ k, kd σ k = 21 → va_T .byte (ad g k) (ln σ k).toNat (fun j => .int (c32 (aI σ k j))) (AF g) U H) ∧
  (∀ k, k < 0 → kd σ k = 105 → va_O "[Ljava/lang/Object;" (ad g k) (AF g) U H ∧ va_T (.object "java/lang/Object") (ad g k) (ln σ k).toNat (fun _ => .null) (AF g) U H) ∧
  (∀ k, kd σ k = 108 → va_T .int (ad g k) (ln σ k).toNat (fun j => .int (c32 (aI σ k j))) (AF g) U H)
theorem StrB.kept {g : GG} {U : State} {σ : Hp} {H H1 : Heap} (h : StrB g U σ H) (hq : ∀ a : Nat, a < H.size → ¬ AF g a → H1[a]? = H[a]?) : StrB g U σ H1 :=
  ⟨fun k hk => (h.1 k hk).kept hq, fun k h0 hk => ⟨(h.2.1 k h0 hk).1.kept hq, (h.2.1 k h0 hk).2.kept hq⟩, fun k hk => (h.2.2 k hk).kept hq⟩
theorem StrB.moved {g : GG} {u U : State} {σ : Hp} {H : Heap} (hvm : u.vm.Alike U.vm) (h : StrB g u σ H) : StrB g U σ H :=
  ⟨fun k hk => (h.1 k hk).moved hvm, fun k h0 hk => ⟨(h.2.1 k h0 hk).1.moved hvm, (h.2.1 k h0 hk).2.moved hvm⟩, fun k hk => (h.2.2 k hk).moved hvm⟩
/-- kind 20: String constants, 21: their bytes; statics: field 3000 and on, of place 0 -/
def Str (g : GG) (U : State) (σ : Hp) (H : Heap) : Prop :=
  (∀ k, kd σ k = 20 → va_O "java/lang/String" (ad g k) (AF g) U H ∧ va_OF "java/lang/String" "coder" "B" (.int (c32 (fI σ 2001 k))) (ad g k) (AF g) U H ∧ va_OF "java/lang/String" "value" "[B" (va_rf (rv g (fR σ 2000 k))) (ad g k) (AF g) U H) ∧
  StrB g U σ H ∧
  va_Z "java/util/ArrayList" "DEFAULTCAPACITY_EMPTY_ELEMENTDATA" "[Ljava/lang/Object;" (va_rf (rv g (fR σ 3000 0))) (AF g) U H ∧
  va_Z "java/lang/String" "COMPACT_STRINGS" "Z" (.int (c32 (fI σ 3001 0))) (AF g) U H ∧
  va_Z "jdk/internal/util/Preconditions" "SIOOBE_FORMATTER" "Ljava/util/function/BiFunction;" (va_rf (rv g (fR σ 3002 0))) (AF g) U H
theorem Str.kept {g : GG} {U : State} {σ : Hp} {H H1 : Heap} (h : Str g U σ H) (hq : ∀ a : Nat, a < H.size → ¬ AF g a → H1[a]? = H[a]?) : Str g U σ H1 :=
  ⟨fun k hk => ⟨(h.1 k hk).1.kept hq, (h.1 k hk).2.1.kept hq, (h.1 k hk).2.2.kept hq⟩, h.2.1.kept hq, h.2.2.1.kept hq, h.2.2.2.1.kept hq, h.2.2.2.2.kept hq⟩
theorem Str.moved {g : GG} {u U : State} {σ : Hp} {H : Heap} (hvm : u.vm.Alike U.vm) (h : Str g u σ H) : Str g U σ H :=
  ⟨fun k hk => ⟨(h.1 k hk).1.moved hvm, (h.1 k hk).2.1.moved hvm, (h.1 k hk).2.2.moved hvm⟩, h.2.1.moved hvm, h.2.2.1.moved hvm, h.2.2.2.1.moved hvm, h.2.2.2.2.moved hvm⟩
/-- the memory is well formed -/
def Wf (σ : Hp) : Prop := 1 ≤ nx σ ∧ (∀ k, kd σ k ≠ 0 → k ≠ 0 ∧ k < nx σ ∧ (kd σ k ≤ 14 ∨ kd σ k = 20 ∨ kd σ k = 21 ∨ (99 ≤ kd σ k ∧ kd σ k ≤ 108)) ∧ (kd σ k = 20 ∨ kd σ k = 21 ∨ kd σ k = 108 → k < 0) ∧ (k < 0 → (kd σ k = 105 ∧ ln σ k = 0) ∨ kd σ k = 108 ∨ kd σ k = 20 ∨ kd σ k = 21)) ∧
  (∀ k, 0 ≤ ln σ k ∧ ln σ k < 2147483648) ∧
  (∀ k, nx σ ≤ k → (∀ f, fI σ f k = 0) ∧ (∀ f, fL σ f k = 0) ∧ (∀ f, fR σ f k = 0) ∧ (∀ j, aI σ k j = 0) ∧ (∀ j, aL σ k j = 0) ∧ (∀ j, aR σ k j = 0))
def HB (g : GG) (U : State) (σ : Hp) (H : Heap) : Prop := Sim g σ H ∧ Wf σ ∧ SZ g (nx σ) H.size ∧ Str g U σ H
theorem HB.moved {g : GG} {u U : State} {σ : Hp} {H : Heap} (hvm : u.vm.Alike U.vm) (h : HB g u σ H) : HB g U σ H := ⟨h.1, h.2.1, h.2.2.1, h.2.2.2.moved hvm⟩
theorem ad_pos (g : GG) {r : Int} (h : 0 < r) : ad g r = gB g + ((gP g r).toNat - 1) := if_pos h
theorem ad_neg (g : GG) {r : Int} (h : r < 0) : ad g r = gX g (-r).toNat := if_neg (by omega)
theorem ad_inj (g : GG) (hP : PM g) {r r' : Int} (h : 0 < r) (h' : 0 < r') (e : ad g r = ad g r') : r = r' := by
  rw [ad_pos g h, ad_pos g h'] at e
  have h1 := hP.1 r h
  have h2 := hP.1 r' h'
  exact hP.2 r r' h h' (by omega)
theorem flds_len (g : GG) (σ : Hp) (ci : Nat) (k : Int) : (flds g σ ci k).length = cN ci := by simp [flds]
theorem flds_at (g : GG) (σ : Hp) (ci : Nat) (k : Int) {j : Nat} (h : j < cN ci) : (flds g σ ci k)[j]? = some (fval g σ (cty ci j) ((ci + 1) * 100 + j) k) := by
  simp [flds, h]
/-- a write at place k: what the heap holds behind it -/
theorem Sim.put {g : GG} {σ σ' : Hp} {H H1 : Heap} (h : Sim g σ H) (w : Wf σ) (hgx : PM g) {k : Int} (hk : 0 < k) (hkd : kd σ' = kd σ) (hc : ∀ q, q ≠ k → cel g σ' q = cel g σ q) (he : va_at (gD g) CLS (ad g k, cel g σ' k) H1) (oq : ∀ q : Nat, q ≠ ad g k → H1[q]? = H[q]?) : Sim g σ' H1 := by
  intro q hq hq0
  by_cases e : q = k
  · rw [e]; exact he
  · rw [hkd] at hq
    rw [hc q e]
    refine (h q hq hq0).kept (oq _ ?_)
    intro e2
    have e2 : ad g q = ad g k := e2
    exact e (ad_inj g hgx hq0 hk e2)
theorem Sim.grow {g : GG} {σ σ' : Hp} {H H1 : Heap} (h : Sim g σ H) (hkd : ∀ q, q ≠ nx σ → kd σ' q = kd σ q) (hc : ∀ q, q ≠ nx σ → trk (kd σ q) → cel g σ' q = cel g σ q) (he : trk (kd σ' (nx σ)) → va_at (gD g) CLS (ad g (nx σ), cel g σ' (nx σ)) H1) (oq : ∀ q : Nat, q < H.size → H1[q]? = H[q]?) : Sim g σ' H1 := by
  intro q hq hq0
  by_cases e : q = nx σ
  · rw [e] at hq ⊢; exact he hq
  · rw [hkd q e] at hq
    rw [hc q e hq]
    exact (h q hq hq0).kept (oq _ (h q hq hq0).lt)
