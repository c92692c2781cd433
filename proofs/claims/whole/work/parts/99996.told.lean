/-! the class: what a reading tells -/

theorem bAnd_8191 {y : Int} (h : 0 ≤ y) : bAnd y 8191 = y % 8192 := by
  unfold bAnd
  have e : (tB y &&& tB 8191).toNat = (y % 8192).toNat := by
    rw [BitVec.toNat_and, tB_nat, tB_nat]
    show (y % 4294967296).toNat &&& (2 ^ 13 - 1) = _
    rw [Nat.and_two_pow_sub_one_eq_mod]
    omega
  rw [BitVec.toInt_eq_toNat_cond, e, if_pos (by omega)]
  omega
theorem bAnd_511 {y : Int} (h : 0 ≤ y) : bAnd y 511 = y % 512 := by
  unfold bAnd
  have e : (tB y &&& tB 511).toNat = (y % 512).toNat := by
    rw [BitVec.toNat_and, tB_nat, tB_nat]
    show (y % 4294967296).toNat &&& (2 ^ 9 - 1) = _
    rw [Nat.and_two_pow_sub_one_eq_mod]
    omega
  rw [BitVec.toInt_eq_toNat_cond, e, if_pos (by omega)]
  omega
theorem shrI_9 {x : Int} (h : -2147483648 ≤ x ∧ x < 2147483648) : shrI x 9 = x / 512 := by
  unfold shrI
  rw [wI_id h.1 h.2]
  rfl
theorem ush_k {k : Int} (hk : 0 ≤ k ∧ k < 549755813888) (s : Nat) : (BitVec.ofInt 64 k >>> s).toInt = k / 2 ^ s := by
  obtain ⟨n, rfl⟩ : ∃ n : Nat, k = n := ⟨k.toNat, by omega⟩
  have h1 : (BitVec.ofInt 64 (n : Int) >>> s).toNat = n / 2 ^ s := by
    rw [BitVec.ofInt_natCast, BitVec.toNat_ushiftRight, BitVec.toNat_ofNat, Nat.mod_eq_of_lt (by omega), Nat.shiftRight_eq_div_pow]
  have h2 : n / 2 ^ s ≤ n := Nat.div_le_self _ _
  rw [BitVec.toInt_eq_toNat_cond, h1, if_pos (by omega)]
  rw [Int.natCast_ediv]
  congr 1
/-- a story's j-th beginning, out of its key -/
theorem key_at {x : List Int} {j : Nat} {p : Int} (hl : x.length ≤ 3) (hx : ∀ q ∈ x, 0 ≤ q ∧ q / 300 < 12) (hj : x[j]? = some p) : keyL x / 2 ^ (13 * (x.length - 1 - j)) % 8192 = k13 p := by
  have b : ∀ q ∈ x, 0 ≤ k13 q ∧ k13 q < 8192 := fun q hq => by have := hx q hq; unfold k13; omega
  match x, hl, j, hj with
  | [a], _, 0, hj =>
    have hj : some a = some p := hj
    cases hj
    rw [keyL_1]
    have := b p List.mem_cons_self
    show k13 p / 2 ^ 0 % 8192 = _
    omega
  | [a], _, j + 1, hj => simp at hj
  | [a, c], _, 0, hj =>
    have hj : some a = some p := hj
    cases hj
    rw [keyL_2]
    simp only [List.mem_cons, List.not_mem_nil, or_false, forall_eq_or_imp, forall_eq] at b
    show (k13 p * 8192 + k13 c) / 2 ^ 13 % 8192 = _
    omega
  | [a, c], _, 1, hj =>
    have hj : some c = some p := hj
    cases hj
    rw [keyL_2]
    simp only [List.mem_cons, List.not_mem_nil, or_false, forall_eq_or_imp, forall_eq] at b
    show (k13 a * 8192 + k13 p) / 2 ^ 0 % 8192 = _
    omega
  | [a, c], _, j + 2, hj => simp at hj
  | [a, c, e], _, 0, hj =>
    have hj : some a = some p := hj
    cases hj
    rw [keyL_3]
    simp only [List.mem_cons, List.not_mem_nil, or_false, forall_eq_or_imp, forall_eq] at b
    show ((k13 p * 8192 + k13 c) * 8192 + k13 e) / 2 ^ 26 % 8192 = _
    omega
  | [a, c, e], _, 1, hj =>
    have hj : some c = some p := hj
    cases hj
    rw [keyL_3]
    simp only [List.mem_cons, List.not_mem_nil, or_false, forall_eq_or_imp, forall_eq] at b
    show ((k13 a * 8192 + k13 p) * 8192 + k13 e) / 2 ^ 13 % 8192 = _
    omega
  | [a, c, e], _, 2, hj =>
    have hj : some e = some p := hj
    cases hj
    rw [keyL_3]
    simp only [List.mem_cons, List.not_mem_nil, or_false, forall_eq_or_imp, forall_eq] at b
    show ((k13 a * 8192 + k13 c) * 8192 + k13 p) / 2 ^ 0 % 8192 = _
    omega
  | [a, c, e], _, j + 3, hj => simp at hj
  | a :: c :: e :: f :: x, hl, _, _ => simp at hl
/-- the latest reading: what it tells, on both sides -/
def RDR (σ τ : Hp) : Prop := ∃ xs : List (List Int), Told τ xs ∧ KM σ (xs.map keyL) ∧ fI σ 1108 4 = (if xs = [] then 0 else fI τ 1323 61) ∧ (xs ≠ [] → (0 ≤ fI τ 1321 61 ∧ fI τ 1321 61 ≤ 3) ∧ (fR σ 1106 4 = 46 + 4 * fI τ 1321 61 ∧ fI σ 1107 4 = fI τ 1331 61) ∧ ∀ x ∈ xs, (x.length : Int) = fI τ 1323 61 ∧ (∀ p ∈ x, 0 ≤ p ∧ p / 300 < aI τ 74 (fI τ 1321 61)) ∧ x.Pairwise (fun p q => p / 300 < q / 300))

def sp_X10_hasBeginning : Sp := fun av σ Q => oR av fun this av => oI av fun i av => oI av fun j av => av = [] ∧ kd σ this = 11 ∧ (this = 4 ∧ CLay σ ∧ inR i ∧ inR j ∧ (0 ≤ fI σ 1109 4 ∧ fI σ 1109 4 ≤ 200) ∧ (0 ≤ fI σ 1108 4 ∧ fI σ 1108 4 ≤ 3) ∧ Q (some (vi (b2i ((0 ≤ i ∧ i < fI σ 1109 4) ∧ 0 ≤ j ∧ j < fI σ 1108 4)))) σ)
theorem us_X10_hasBeginning (this : Int) (i : Int) (j : Int) (σ : Hp) (Q : Option AV → Hp → Prop) : sp_X10_hasBeginning [vr this, vi i, vi j] σ Q = (kd σ this = 11 ∧ (this = 4 ∧ CLay σ ∧ inR i ∧ inR j ∧ (0 ≤ fI σ 1109 4 ∧ fI σ 1109 4 ≤ 200) ∧ (0 ≤ fI σ 1108 4 ∧ fI σ 1108 4 ≤ 3) ∧ Q (some (vi (b2i ((0 ≤ i ∧ i < fI σ 1109 4) ∧ 0 ≤ j ∧ j < fI σ 1108 4)))) σ)) := propext ⟨fun h => h.2, fun h => ⟨rfl, h⟩⟩
theorem el_X10_hasBeginning {av : List AV} {σ : Hp} {Q : Option AV → Hp → Prop} (h : sp_X10_hasBeginning av σ Q) : ∃ (this : Int) (i : Int) (j : Int), av = [vr this, vi i, vi j] ∧ (kd σ this = 11 ∧ (this = 4 ∧ CLay σ ∧ inR i ∧ inR j ∧ (0 ≤ fI σ 1109 4 ∧ fI σ 1109 4 ≤ 200) ∧ (0 ≤ fI σ 1108 4 ∧ fI σ 1108 4 ≤ 3) ∧ Q (some (vi (b2i ((0 ≤ i ∧ i < fI σ 1109 4) ∧ 0 ≤ j ∧ j < fI σ 1108 4)))) σ)) := by
  obtain ⟨this, a0, rfl, h0⟩ := oR_s h
  obtain ⟨i, a1, rfl, h1⟩ := oI_s h0
  obtain ⟨j, a2, rfl, h2⟩ := oI_s h1
  obtain ⟨rfl, hz⟩ := h2
  exact ⟨this, i, j, rfl, hz⟩
theorem rc_X10_hasBeginning : ∀ (av : List AV) (σ : Hp) (Q : Option AV → Hp → Prop), sp_X10_hasBeginning av σ Q → ∃ r tl, av = vr r :: tl ∧ kd σ r = 10 + 1 := fun av σ Q h => by
  obtain ⟨this, i, j, rfl, hz, -⟩ := el_X10_hasBeginning h
  exact ⟨this, _, rfl, hz⟩

def tb_X10_hasBeginning : Tab := [(0, .iload_n 1, 1, (0, 0, 0, 0)), (1, .ifCond .lt 36, 3, (0, 0, 0, 0)), (4, .iload_n 1, 1, (0, 0, 0, 0)), (5, .aload_n 0, 1, (0, 0, 0, 0)), (6, .getfield 47, 3, (11, 1109, 0, 0)), (9, .if_icmp .ge 28, 3, (0, 0, 0, 0)), (12, .iload_n 1, 1, (0, 0, 0, 0)), (13, .aload_n 0, 1, (0, 0, 0, 0)), (14, .getfield 30, 3, (11, 1105, 2, 0)), (17, .arraylength, 1, (0, 0, 0, 0)), (18, .if_icmp .ge 19, 3, (0, 0, 0, 0)), (21, .iload_n 2, 1, (0, 0, 0, 0)), (22, .ifCond .lt 15, 3, (0, 0, 0, 0)), (25, .iload_n 2, 1, (0, 0, 0, 0)), (26, .aload_n 0, 1, (0, 0, 0, 0)), (27, .getfield 44, 3, (11, 1108, 0, 0)), (30, .if_icmp .ge 7, 3, (0, 0, 0, 0)), (33, .iconst 1, 1, (0, 0, 0, 0)), (34, .goto 4, 3, (0, 0, 0, 0)), (37, .iconst 0, 1, (0, 0, 0, 0)), (38, .ireturn, 1, (0, 0, 0, 0))]
set_option maxRecDepth 100000 in
theorem tk_X10_hasBeginning : TOK RX10 false cX10_hasBeginning tb_X10_hasBeginning := chkT_ok ft_X10 (by decide +kernel)
def mt_X10_hasBeginning : List (Nat × Mt) := []
theorem mk_X10_hasBeginning : MOK RX10 mt_X10_hasBeginning := fun q hq => by cases hq
noncomputable def xe_X10_hasBeginning (ct : Nat → Bool) (K : Kt) (R : Option AV → Hp → Prop) (n : Nat) : Kt := exS 3 1 0 0 2 tb_X10_hasBeginning mt_X10_hasBeginning ct K R n
noncomputable def xk_X10_hasBeginning (ct : Nat → Bool) (K : Kt) (R : Option AV → Hp → Prop) (n : Nat) : Kt := exkS 3 1 0 0 2 tb_X10_hasBeginning mt_X10_hasBeginning ct K R n
theorem xt_X10_hasBeginning {ct : Nat → Bool} {K : Kt} {R : Option AV → Hp → Prop} {n pc : Nat} {ls : List (Option AV)} {st : List AV} {σ : Hp} {k : Nat × Nat} (h : ct pc = true) : xk_X10_hasBeginning ct K R n pc ls st σ k = K pc ls st σ k := by unfold xk_X10_hasBeginning exkS; rw [h]
theorem xf_X10_hasBeginning {ct : Nat → Bool} {K : Kt} {R : Option AV → Hp → Prop} {n pc : Nat} {ls : List (Option AV)} {st : List AV} {σ : Hp} {k : Nat × Nat} (h : ct pc = false) : xk_X10_hasBeginning ct K R n pc ls st σ k = xe_X10_hasBeginning ct K R n pc ls st σ k := by unfold xk_X10_hasBeginning exkS xe_X10_hasBeginning; rw [h]
theorem ev_X10_hasBeginning_0 {ct : Nat → Bool} {K : Kt} {R : Option AV → Hp → Prop} {n : Nat} {ls : List (Option AV)} {st : List AV} {σ : Hp} {k : Nat × Nat} : xe_X10_hasBeginning ct K R (n + 1) 0 ls st σ k = (lI ls 1 fun x => xk_X10_hasBeginning ct K R n 1 ls (vi x :: st) σ k) := exS_step.trans rfl
theorem ev_X10_hasBeginning_1 {ct : Nat → Bool} {K : Kt} {R : Option AV → Hp → Prop} {n : Nat} {ls : List (Option AV)} {st : List AV} {σ : Hp} {k : Nat × Nat} : xe_X10_hasBeginning ct K R (n + 1) 1 ls st σ k = (oI st fun x st => (wI x < wI 0 → xk_X10_hasBeginning ct K R n 37 ls st σ k) ∧ (¬ (wI x < wI 0) → xk_X10_hasBeginning ct K R n 4 ls st σ k)) := exS_step.trans rfl
theorem ev_X10_hasBeginning_4 {ct : Nat → Bool} {K : Kt} {R : Option AV → Hp → Prop} {n : Nat} {ls : List (Option AV)} {st : List AV} {σ : Hp} {k : Nat × Nat} : xe_X10_hasBeginning ct K R (n + 1) 4 ls st σ k = (lI ls 1 fun x => xk_X10_hasBeginning ct K R n 5 ls (vi x :: st) σ k) := exS_step.trans rfl
theorem ev_X10_hasBeginning_5 {ct : Nat → Bool} {K : Kt} {R : Option AV → Hp → Prop} {n : Nat} {ls : List (Option AV)} {st : List AV} {σ : Hp} {k : Nat × Nat} : xe_X10_hasBeginning ct K R (n + 1) 5 ls st σ k = (lR ls 0 fun x => xk_X10_hasBeginning ct K R n 6 ls (vr x :: st) σ k) := exS_step.trans rfl
theorem ev_X10_hasBeginning_6 {ct : Nat → Bool} {K : Kt} {R : Option AV → Hp → Prop} {n : Nat} {ls : List (Option AV)} {st : List AV} {σ : Hp} {k : Nat × Nat} : xe_X10_hasBeginning ct K R (n + 1) 6 ls st σ k = (oR st fun x st => kd σ x = 11 ∧ xk_X10_hasBeginning ct K R n 9 ls (vi (fI σ 1109 x) :: st) σ k) := exS_step.trans rfl
theorem ev_X10_hasBeginning_9 {ct : Nat → Bool} {K : Kt} {R : Option AV → Hp → Prop} {n : Nat} {ls : List (Option AV)} {st : List AV} {σ : Hp} {k : Nat × Nat} : xe_X10_hasBeginning ct K R (n + 1) 9 ls st σ k = (oI st fun y st => oI st fun x st => (wI y ≤ wI x → xk_X10_hasBeginning ct K R n 37 ls st σ k) ∧ (¬ (wI y ≤ wI x) → xk_X10_hasBeginning ct K R n 12 ls st σ k)) := exS_step.trans rfl
theorem ev_X10_hasBeginning_12 {ct : Nat → Bool} {K : Kt} {R : Option AV → Hp → Prop} {n : Nat} {ls : List (Option AV)} {st : List AV} {σ : Hp} {k : Nat × Nat} : xe_X10_hasBeginning ct K R (n + 1) 12 ls st σ k = (lI ls 1 fun x => xk_X10_hasBeginning ct K R n 13 ls (vi x :: st) σ k) := exS_step.trans rfl
theorem ev_X10_hasBeginning_13 {ct : Nat → Bool} {K : Kt} {R : Option AV → Hp → Prop} {n : Nat} {ls : List (Option AV)} {st : List AV} {σ : Hp} {k : Nat × Nat} : xe_X10_hasBeginning ct K R (n + 1) 13 ls st σ k = (lR ls 0 fun x => xk_X10_hasBeginning ct K R n 14 ls (vr x :: st) σ k) := exS_step.trans rfl
theorem ev_X10_hasBeginning_14 {ct : Nat → Bool} {K : Kt} {R : Option AV → Hp → Prop} {n : Nat} {ls : List (Option AV)} {st : List AV} {σ : Hp} {k : Nat × Nat} : xe_X10_hasBeginning ct K R (n + 1) 14 ls st σ k = (oR st fun x st => kd σ x = 11 ∧ xk_X10_hasBeginning ct K R n 17 ls (vr (fR σ 1105 x) :: st) σ k) := exS_step.trans rfl
theorem ev_X10_hasBeginning_17 {ct : Nat → Bool} {K : Kt} {R : Option AV → Hp → Prop} {n : Nat} {ls : List (Option AV)} {st : List AV} {σ : Hp} {k : Nat × Nat} : xe_X10_hasBeginning ct K R (n + 1) 17 ls st σ k = (oR st fun x st => (101 ≤ kd σ x ∨ kd σ x = 21) ∧ xk_X10_hasBeginning ct K R n 18 ls (vi (ln σ x) :: st) σ k) := exS_step.trans rfl
theorem ev_X10_hasBeginning_18 {ct : Nat → Bool} {K : Kt} {R : Option AV → Hp → Prop} {n : Nat} {ls : List (Option AV)} {st : List AV} {σ : Hp} {k : Nat × Nat} : xe_X10_hasBeginning ct K R (n + 1) 18 ls st σ k = (oI st fun y st => oI st fun x st => (wI y ≤ wI x → xk_X10_hasBeginning ct K R n 37 ls st σ k) ∧ (¬ (wI y ≤ wI x) → xk_X10_hasBeginning ct K R n 21 ls st σ k)) := exS_step.trans rfl
theorem ev_X10_hasBeginning_21 {ct : Nat → Bool} {K : Kt} {R : Option AV → Hp → Prop} {n : Nat} {ls : List (Option AV)} {st : List AV} {σ : Hp} {k : Nat × Nat} : xe_X10_hasBeginning ct K R (n + 1) 21 ls st σ k = (lI ls 2 fun x => xk_X10_hasBeginning ct K R n 22 ls (vi x :: st) σ k) := exS_step.trans rfl
theorem ev_X10_hasBeginning_22 {ct : Nat → Bool} {K : Kt} {R : Option AV → Hp → Prop} {n : Nat} {ls : List (Option AV)} {st : List AV} {σ : Hp} {k : Nat × Nat} : xe_X10_hasBeginning ct K R (n + 1) 22 ls st σ k = (oI st fun x st => (wI x < wI 0 → xk_X10_hasBeginning ct K R n 37 ls st σ k) ∧ (¬ (wI x < wI 0) → xk_X10_hasBeginning ct K R n 25 ls st σ k)) := exS_step.trans rfl
theorem ev_X10_hasBeginning_25 {ct : Nat → Bool} {K : Kt} {R : Option AV → Hp → Prop} {n : Nat} {ls : List (Option AV)} {st : List AV} {σ : Hp} {k : Nat × Nat} : xe_X10_hasBeginning ct K R (n + 1) 25 ls st σ k = (lI ls 2 fun x => xk_X10_hasBeginning ct K R n 26 ls (vi x :: st) σ k) := exS_step.trans rfl
theorem ev_X10_hasBeginning_26 {ct : Nat → Bool} {K : Kt} {R : Option AV → Hp → Prop} {n : Nat} {ls : List (Option AV)} {st : List AV} {σ : Hp} {k : Nat × Nat} : xe_X10_hasBeginning ct K R (n + 1) 26 ls st σ k = (lR ls 0 fun x => xk_X10_hasBeginning ct K R n 27 ls (vr x :: st) σ k) := exS_step.trans rfl
theorem ev_X10_hasBeginning_27 {ct : Nat → Bool} {K : Kt} {R : Option AV → Hp → Prop} {n : Nat} {ls : List (Option AV)} {st : List AV} {σ : Hp} {k : Nat × Nat} : xe_X10_hasBeginning ct K R (n + 1) 27 ls st σ k = (oR st fun x st => kd σ x = 11 ∧ xk_X10_hasBeginning ct K R n 30 ls (vi (fI σ 1108 x) :: st) σ k) := exS_step.trans rfl
theorem ev_X10_hasBeginning_30 {ct : Nat → Bool} {K : Kt} {R : Option AV → Hp → Prop} {n : Nat} {ls : List (Option AV)} {st : List AV} {σ : Hp} {k : Nat × Nat} : xe_X10_hasBeginning ct K R (n + 1) 30 ls st σ k = (oI st fun y st => oI st fun x st => (wI y ≤ wI x → xk_X10_hasBeginning ct K R n 37 ls st σ k) ∧ (¬ (wI y ≤ wI x) → xk_X10_hasBeginning ct K R n 33 ls st σ k)) := exS_step.trans rfl
theorem ev_X10_hasBeginning_33 {ct : Nat → Bool} {K : Kt} {R : Option AV → Hp → Prop} {n : Nat} {ls : List (Option AV)} {st : List AV} {σ : Hp} {k : Nat × Nat} : xe_X10_hasBeginning ct K R (n + 1) 33 ls st σ k = (xk_X10_hasBeginning ct K R n 34 ls (vi (1) :: st) σ k) := exS_step.trans rfl
theorem ev_X10_hasBeginning_34 {ct : Nat → Bool} {K : Kt} {R : Option AV → Hp → Prop} {n : Nat} {ls : List (Option AV)} {st : List AV} {σ : Hp} {k : Nat × Nat} : xe_X10_hasBeginning ct K R (n + 1) 34 ls st σ k = (xk_X10_hasBeginning ct K R n 38 ls st σ k) := exS_step.trans rfl
theorem ev_X10_hasBeginning_37 {ct : Nat → Bool} {K : Kt} {R : Option AV → Hp → Prop} {n : Nat} {ls : List (Option AV)} {st : List AV} {σ : Hp} {k : Nat × Nat} : xe_X10_hasBeginning ct K R (n + 1) 37 ls st σ k = (xk_X10_hasBeginning ct K R n 38 ls (vi (0) :: st) σ k) := exS_step.trans rfl
theorem ev_X10_hasBeginning_38 {ct : Nat → Bool} {K : Kt} {R : Option AV → Hp → Prop} {n : Nat} {ls : List (Option AV)} {st : List AV} {σ : Hp} {k : Nat × Nat} : xe_X10_hasBeginning ct K R (n + 1) 38 ls st σ k = (oI st fun x st => st = [] ∧ (x = 0 ∨ x = 1) ∧ R (some (vi x)) σ) := exS_step.trans rfl
def M_X10_hasBeginning : Md := (yX10_hasBeginning, cX10_hasBeginning, 3, (some FieldType.boolean), 1, 0, 0, 2, false, tb_X10_hasBeginning, mt_X10_hasBeginning)
theorem mm_X10_hasBeginning : MMOK M_X10_hasBeginning := ⟨by decide +kernel, tk_X10_hasBeginning, mk_X10_hasBeginning, rfl, fun h => by cases h⟩
theorem go_X10_hasBeginning {Q : Option AV → Hp → Prop} {ct : Nat → Bool} {pc : Nat} {ls : List (Option AV)} {st : List AV} {σ : Hp} {k : Nat × Nat} (n : Nat) (h : xe_X10_hasBeginning ct (Go M_X10_hasBeginning Q) Q n pc ls st σ k) : Go M_X10_hasBeginning Q pc ls st σ k := Go.exS mm_X10_hasBeginning h

set_option maxRecDepth 20000 in
theorem c_X10_hasBeginning : Ct yX10_hasBeginning cX10_hasBeginning 3 ((some FieldType.boolean)) 1 0 0 sp_X10_hasBeginning := by
  refine Ct.go (M := M_X10_hasBeginning) mm_X10_hasBeginning fun av σ Q h0 => ?_
  obtain ⟨this, i, j, rfl, hk, h⟩ := el_X10_hasBeginning h0
  clear h0
  refine ⟨Nat.le_of_ble_eq_true rfl, ?_⟩
  show Go M_X10_hasBeginning Q 0 [some (vr this), some (vi i), some (vi j)] [] σ (0, 0)
  obtain ⟨rfl, hC, hi, hj, hf, hs, h⟩ := h
  unfold inR at hi hj
  by_cases c : (0 ≤ i ∧ i < fI σ 1109 4) ∧ 0 ≤ j ∧ j < fI σ 1108 4
  · rw [b2i_t c] at h
    refine go_X10_hasBeginning (ct := fun p => p == 37) 30 ?_
    simp only [oI, oL, oR, o1, lI, lL, lR, popN, catS, gv, stL, stL2, swt, cnd, spObj, List.getElem?_cons_zero, List.getElem?_cons_succ, List.getD_cons_zero, List.getD_cons_succ, List.set_cons_zero, List.set_cons_succ, List.nil_append, List.cons_append, Option.toList, Bool.or_false, Bool.false_or, Bool.or_true, Bool.true_or, Nat.reduceBEq, Nat.reduceAdd, Nat.reduceLT, Nat.reduceLeDiff, Int.reduceAdd, Int.reduceToNat, true_and, and_true, Fin.isValue, Fin.val_zero, Fin.val_one, Fin.val_two, Fin.reduceFinMk, eq_self, Int.reduceNeg, imp_self, Nat.reduceMul, Nat.le_refl, not_true_eq_false, not_false_eq_true, List.getElem?_nil, reduceCtorEq, true_or, or_true, Classical.not_not, implies_true, or_self, wI_0, wI_1, wI_m1, b2i_w, b2i_eq0, b2i_eq1, b2i_bool, nor_self, nx_pI, kd_pI, ln_pI, fI_pI, fL_pI, fR_pI, aI_pI, aL_pI, aR_pI, nx_pL, kd_pL, ln_pL, fI_pL, fL_pL, fR_pL, aI_pL, aL_pL, aR_pL, nx_pR, kd_pR, ln_pR, fI_pR, fL_pR, fR_pR, aI_pR, aL_pR, aR_pR, nx_qI, kd_qI, ln_qI, fI_qI, fL_qI, fR_qI, aI_qI, aL_qI, aR_qI, nx_qL, kd_qL, ln_qL, fI_qL, fL_qL, fR_qL, aI_qL, aL_qL, aR_qL, nx_qR, kd_qR, ln_qR, fI_qR, fL_qR, fR_qR, aI_qR, aL_qR, aR_qR, nx_mk, kd_mk, ln_mk, fI_mk, fL_mk, fR_mk, aI_mk, aL_mk, aR_mk, false_and, and_false, if_false, if_true, and_self, Int.reduceEq, Nat.reduceEqDiff, ite_self, MLay_pI, MLay_pL, MLay_qI, MLay_qL, ev_X10_hasBeginning_0, ev_X10_hasBeginning_1, ev_X10_hasBeginning_4, ev_X10_hasBeginning_5, ev_X10_hasBeginning_6, ev_X10_hasBeginning_9, ev_X10_hasBeginning_12, ev_X10_hasBeginning_13, ev_X10_hasBeginning_14, ev_X10_hasBeginning_17, ev_X10_hasBeginning_18, ev_X10_hasBeginning_21, ev_X10_hasBeginning_22, ev_X10_hasBeginning_25, ev_X10_hasBeginning_26, ev_X10_hasBeginning_27, ev_X10_hasBeginning_30, ev_X10_hasBeginning_33, ev_X10_hasBeginning_34, ev_X10_hasBeginning_37, ev_X10_hasBeginning_38, xt_X10_hasBeginning, xf_X10_hasBeginning, hk, hC.eqs]
    try simp (disch := omega) only [wI_id, dv_nn, rm_nn]
    repeat' (first | intro z | apply And.intro)
    all_goals try omega
    all_goals try contradiction
    all_goals exact h
  · rw [b2i_f c] at h
    refine go_X10_hasBeginning (ct := fun p => p == 33) 30 ?_
    simp only [oI, oL, oR, o1, lI, lL, lR, popN, catS, gv, stL, stL2, swt, cnd, spObj, List.getElem?_cons_zero, List.getElem?_cons_succ, List.getD_cons_zero, List.getD_cons_succ, List.set_cons_zero, List.set_cons_succ, List.nil_append, List.cons_append, Option.toList, Bool.or_false, Bool.false_or, Bool.or_true, Bool.true_or, Nat.reduceBEq, Nat.reduceAdd, Nat.reduceLT, Nat.reduceLeDiff, Int.reduceAdd, Int.reduceToNat, true_and, and_true, Fin.isValue, Fin.val_zero, Fin.val_one, Fin.val_two, Fin.reduceFinMk, eq_self, Int.reduceNeg, imp_self, Nat.reduceMul, Nat.le_refl, not_true_eq_false, not_false_eq_true, List.getElem?_nil, reduceCtorEq, true_or, or_true, Classical.not_not, implies_true, or_self, wI_0, wI_1, wI_m1, b2i_w, b2i_eq0, b2i_eq1, b2i_bool, nor_self, nx_pI, kd_pI, ln_pI, fI_pI, fL_pI, fR_pI, aI_pI, aL_pI, aR_pI, nx_pL, kd_pL, ln_pL, fI_pL, fL_pL, fR_pL, aI_pL, aL_pL, aR_pL, nx_pR, kd_pR, ln_pR, fI_pR, fL_pR, fR_pR, aI_pR, aL_pR, aR_pR, nx_qI, kd_qI, ln_qI, fI_qI, fL_qI, fR_qI, aI_qI, aL_qI, aR_qI, nx_qL, kd_qL, ln_qL, fI_qL, fL_qL, fR_qL, aI_qL, aL_qL, aR_qL, nx_qR, kd_qR, ln_qR, fI_qR, fL_qR, fR_qR, aI_qR, aL_qR, aR_qR, nx_mk, kd_mk, ln_mk, fI_mk, fL_mk, fR_mk, aI_mk, aL_mk, aR_mk, false_and, and_false, if_false, if_true, and_self, Int.reduceEq, Nat.reduceEqDiff, ite_self, MLay_pI, MLay_pL, MLay_qI, MLay_qL, ev_X10_hasBeginning_0, ev_X10_hasBeginning_1, ev_X10_hasBeginning_4, ev_X10_hasBeginning_5, ev_X10_hasBeginning_6, ev_X10_hasBeginning_9, ev_X10_hasBeginning_12, ev_X10_hasBeginning_13, ev_X10_hasBeginning_14, ev_X10_hasBeginning_17, ev_X10_hasBeginning_18, ev_X10_hasBeginning_21, ev_X10_hasBeginning_22, ev_X10_hasBeginning_25, ev_X10_hasBeginning_26, ev_X10_hasBeginning_27, ev_X10_hasBeginning_30, ev_X10_hasBeginning_33, ev_X10_hasBeginning_34, ev_X10_hasBeginning_37, ev_X10_hasBeginning_38, xt_X10_hasBeginning, xf_X10_hasBeginning, hk, hC.eqs]
    try simp (disch := omega) only [wI_id, dv_nn, rm_nn]
    repeat' (first | intro z | apply And.intro)
    all_goals try omega
    all_goals try contradiction
    all_goals exact h

def sp_X10_beginning : Sp := fun av σ Q => oR av fun this av => oI av fun i av => oI av fun j av => av = [] ∧ kd σ this = 11 ∧ (this = 4 ∧ CLay σ ∧ ∃ (xs : List (List Int)) (x : List Int) (p : Int), KM σ (xs.map keyL) ∧ 0 ≤ i ∧ 0 ≤ j ∧ xs[i.toNat]? = some x ∧ x[j.toNat]? = some p ∧ (x.length : Int) = fI σ 1108 4 ∧ x.length ≤ 3 ∧ (∀ q ∈ x, 0 ≤ q ∧ q / 300 < 12) ∧ Q (some (vi (k13 p))) σ)
theorem us_X10_beginning (this : Int) (i : Int) (j : Int) (σ : Hp) (Q : Option AV → Hp → Prop) : sp_X10_beginning [vr this, vi i, vi j] σ Q = (kd σ this = 11 ∧ (this = 4 ∧ CLay σ ∧ ∃ (xs : List (List Int)) (x : List Int) (p : Int), KM σ (xs.map keyL) ∧ 0 ≤ i ∧ 0 ≤ j ∧ xs[i.toNat]? = some x ∧ x[j.toNat]? = some p ∧ (x.length : Int) = fI σ 1108 4 ∧ x.length ≤ 3 ∧ (∀ q ∈ x, 0 ≤ q ∧ q / 300 < 12) ∧ Q (some (vi (k13 p))) σ)) := propext ⟨fun h => h.2, fun h => ⟨rfl, h⟩⟩
theorem el_X10_beginning {av : List AV} {σ : Hp} {Q : Option AV → Hp → Prop} (h : sp_X10_beginning av σ Q) : ∃ (this : Int) (i : Int) (j : Int), av = [vr this, vi i, vi j] ∧ (kd σ this = 11 ∧ (this = 4 ∧ CLay σ ∧ ∃ (xs : List (List Int)) (x : List Int) (p : Int), KM σ (xs.map keyL) ∧ 0 ≤ i ∧ 0 ≤ j ∧ xs[i.toNat]? = some x ∧ x[j.toNat]? = some p ∧ (x.length : Int) = fI σ 1108 4 ∧ x.length ≤ 3 ∧ (∀ q ∈ x, 0 ≤ q ∧ q / 300 < 12) ∧ Q (some (vi (k13 p))) σ)) := by
  obtain ⟨this, a0, rfl, h0⟩ := oR_s h
  obtain ⟨i, a1, rfl, h1⟩ := oI_s h0
  obtain ⟨j, a2, rfl, h2⟩ := oI_s h1
  obtain ⟨rfl, hz⟩ := h2
  exact ⟨this, i, j, rfl, hz⟩
theorem rc_X10_beginning : ∀ (av : List AV) (σ : Hp) (Q : Option AV → Hp → Prop), sp_X10_beginning av σ Q → ∃ r tl, av = vr r :: tl ∧ kd σ r = 10 + 1 := fun av σ Q h => by
  obtain ⟨this, i, j, rfl, hz, -⟩ := el_X10_beginning h
  exact ⟨this, _, rfl, hz⟩

def tb_X10_beginning : Tab := [(0, .aload_n 0, 1, (0, 0, 0, 0)), (1, .iload_n 1, 1, (0, 0, 0, 0)), (2, .iload_n 2, 1, (0, 0, 0, 0)), (3, .invokevirtual 134, 3, (0, 0, 0, 0)), (6, .ifCond .eq 29, 3, (0, 0, 0, 0)), (9, .aload_n 0, 1, (0, 0, 0, 0)), (10, .getfield 30, 3, (11, 1105, 2, 0)), (13, .iload_n 1, 1, (0, 0, 0, 0)), (14, .laload, 1, (0, 0, 0, 0)), (15, .bipush 13, 2, (0, 0, 0, 0)), (17, .aload_n 0, 1, (0, 0, 0, 0)), (18, .getfield 44, 3, (11, 1108, 0, 0)), (21, .iconst 1, 1, (0, 0, 0, 0)), (22, .isub, 1, (0, 0, 0, 0)), (23, .iload_n 2, 1, (0, 0, 0, 0)), (24, .isub, 1, (0, 0, 0, 0)), (25, .imul, 1, (0, 0, 0, 0)), (26, .lushr, 1, (0, 0, 0, 0)), (27, .l2i, 1, (0, 0, 0, 0)), (28, .sipush 8191, 3, (0, 0, 0, 0)), (31, .iand, 1, (0, 0, 0, 0)), (32, .goto 4, 3, (0, 0, 0, 0)), (35, .iconst 0, 1, (0, 0, 0, 0)), (36, .ireturn, 1, (0, 0, 0, 0))]
set_option maxRecDepth 100000 in
theorem tk_X10_beginning : TOK RX10 false cX10_beginning tb_X10_beginning := chkT_ok ft_X10 (by decide +kernel)
theorem rw_X10_1072 : Row RX10 (.invokevirtual 134) 3 3 0 0 1 sp_X10_hasBeginning := row_V (n := 2) (ci := 10) c_X10_hasBeginning ⟨TBL_in 822 (by decide +kernel) rfl, TBL_in 813 (by decide +kernel) rfl, TBL_in 112 (by decide +kernel) rfl, by decide +kernel, by decide⟩ (by decide) rfl (TBL_in 811 (by decide +kernel) rfl) (TBL_in 812 (by decide +kernel) rfl) rc_X10_hasBeginning
def mt_X10_beginning : List (Nat × Mt) := [(1072, 3, 0, 0, 1, sp_X10_hasBeginning)]
theorem em_X10_beginning : mt_X10_beginning.lookup 1072 = some (3, 0, 0, 1, sp_X10_hasBeginning) := rfl
theorem mk_X10_beginning : MOK RX10 mt_X10_beginning := by
  intro q hq
  simp only [mt_X10_beginning, List.mem_cons, List.not_mem_nil, or_false] at hq
  rcases hq with rfl
  · exact rw_X10_1072
noncomputable def xe_X10_beginning (ct : Nat → Bool) (K : Kt) (R : Option AV → Hp → Prop) (n : Nat) : Kt := exS 3 2 0 0 1 tb_X10_beginning mt_X10_beginning ct K R n
noncomputable def xk_X10_beginning (ct : Nat → Bool) (K : Kt) (R : Option AV → Hp → Prop) (n : Nat) : Kt := exkS 3 2 0 0 1 tb_X10_beginning mt_X10_beginning ct K R n
theorem xt_X10_beginning {ct : Nat → Bool} {K : Kt} {R : Option AV → Hp → Prop} {n pc : Nat} {ls : List (Option AV)} {st : List AV} {σ : Hp} {k : Nat × Nat} (h : ct pc = true) : xk_X10_beginning ct K R n pc ls st σ k = K pc ls st σ k := by unfold xk_X10_beginning exkS; rw [h]
theorem xf_X10_beginning {ct : Nat → Bool} {K : Kt} {R : Option AV → Hp → Prop} {n pc : Nat} {ls : List (Option AV)} {st : List AV} {σ : Hp} {k : Nat × Nat} (h : ct pc = false) : xk_X10_beginning ct K R n pc ls st σ k = xe_X10_beginning ct K R n pc ls st σ k := by unfold xk_X10_beginning exkS xe_X10_beginning; rw [h]
theorem ev_X10_beginning_0 {ct : Nat → Bool} {K : Kt} {R : Option AV → Hp → Prop} {n : Nat} {ls : List (Option AV)} {st : List AV} {σ : Hp} {k : Nat × Nat} : xe_X10_beginning ct K R (n + 1) 0 ls st σ k = (lR ls 0 fun x => xk_X10_beginning ct K R n 1 ls (vr x :: st) σ k) := exS_step.trans rfl
theorem ev_X10_beginning_1 {ct : Nat → Bool} {K : Kt} {R : Option AV → Hp → Prop} {n : Nat} {ls : List (Option AV)} {st : List AV} {σ : Hp} {k : Nat × Nat} : xe_X10_beginning ct K R (n + 1) 1 ls st σ k = (lI ls 1 fun x => xk_X10_beginning ct K R n 2 ls (vi x :: st) σ k) := exS_step.trans rfl
theorem ev_X10_beginning_2 {ct : Nat → Bool} {K : Kt} {R : Option AV → Hp → Prop} {n : Nat} {ls : List (Option AV)} {st : List AV} {σ : Hp} {k : Nat × Nat} : xe_X10_beginning ct K R (n + 1) 2 ls st σ k = (lI ls 2 fun x => xk_X10_beginning ct K R n 3 ls (vi x :: st) σ k) := exS_step.trans rfl
theorem ev_X10_beginning_3 {ct : Nat → Bool} {K : Kt} {R : Option AV → Hp → Prop} {n : Nat} {ls : List (Option AV)} {st : List AV} {σ : Hp} {k : Nat × Nat} : xe_X10_beginning ct K R (n + 1) 3 ls st σ k = (popN 3 st [] fun av rest => (catS rest ≤ 8 ∧ 1 < 2 ∧ k.1 + 0 ≤ 0 ∧ k.2 + 0 ≤ 0) ∧ (sp_X10_hasBeginning) av σ fun v σ' => xk_X10_beginning ct K R n 6 ls (v.toList ++ rest) σ' (k.1 + 0, k.2 + 0)) := exS_step.trans rfl
theorem ev_X10_beginning_6 {ct : Nat → Bool} {K : Kt} {R : Option AV → Hp → Prop} {n : Nat} {ls : List (Option AV)} {st : List AV} {σ : Hp} {k : Nat × Nat} : xe_X10_beginning ct K R (n + 1) 6 ls st σ k = (oI st fun x st => (wI x = wI 0 → xk_X10_beginning ct K R n 35 ls st σ k) ∧ (¬ (wI x = wI 0) → xk_X10_beginning ct K R n 9 ls st σ k)) := exS_step.trans rfl
theorem ev_X10_beginning_9 {ct : Nat → Bool} {K : Kt} {R : Option AV → Hp → Prop} {n : Nat} {ls : List (Option AV)} {st : List AV} {σ : Hp} {k : Nat × Nat} : xe_X10_beginning ct K R (n + 1) 9 ls st σ k = (lR ls 0 fun x => xk_X10_beginning ct K R n 10 ls (vr x :: st) σ k) := exS_step.trans rfl
theorem ev_X10_beginning_10 {ct : Nat → Bool} {K : Kt} {R : Option AV → Hp → Prop} {n : Nat} {ls : List (Option AV)} {st : List AV} {σ : Hp} {k : Nat × Nat} : xe_X10_beginning ct K R (n + 1) 10 ls st σ k = (oR st fun x st => kd σ x = 11 ∧ xk_X10_beginning ct K R n 13 ls (vr (fR σ 1105 x) :: st) σ k) := exS_step.trans rfl
theorem ev_X10_beginning_13 {ct : Nat → Bool} {K : Kt} {R : Option AV → Hp → Prop} {n : Nat} {ls : List (Option AV)} {st : List AV} {σ : Hp} {k : Nat × Nat} : xe_X10_beginning ct K R (n + 1) 13 ls st σ k = (lI ls 1 fun x => xk_X10_beginning ct K R n 14 ls (vi x :: st) σ k) := exS_step.trans rfl
theorem ev_X10_beginning_14 {ct : Nat → Bool} {K : Kt} {R : Option AV → Hp → Prop} {n : Nat} {ls : List (Option AV)} {st : List AV} {σ : Hp} {k : Nat × Nat} : xe_X10_beginning ct K R (n + 1) 14 ls st σ k = (oI st fun j st => oR st fun x st => kd σ x = 102 ∧ (0 ≤ j ∧ j < ln σ x) ∧ xk_X10_beginning ct K R n 15 ls (vl (aL σ x j) :: st) σ k) := exS_step.trans rfl
theorem ev_X10_beginning_15 {ct : Nat → Bool} {K : Kt} {R : Option AV → Hp → Prop} {n : Nat} {ls : List (Option AV)} {st : List AV} {σ : Hp} {k : Nat × Nat} : xe_X10_beginning ct K R (n + 1) 15 ls st σ k = (xk_X10_beginning ct K R n 17 ls (vi (13) :: st) σ k) := exS_step.trans rfl
theorem ev_X10_beginning_17 {ct : Nat → Bool} {K : Kt} {R : Option AV → Hp → Prop} {n : Nat} {ls : List (Option AV)} {st : List AV} {σ : Hp} {k : Nat × Nat} : xe_X10_beginning ct K R (n + 1) 17 ls st σ k = (lR ls 0 fun x => xk_X10_beginning ct K R n 18 ls (vr x :: st) σ k) := exS_step.trans rfl
theorem ev_X10_beginning_18 {ct : Nat → Bool} {K : Kt} {R : Option AV → Hp → Prop} {n : Nat} {ls : List (Option AV)} {st : List AV} {σ : Hp} {k : Nat × Nat} : xe_X10_beginning ct K R (n + 1) 18 ls st σ k = (oR st fun x st => kd σ x = 11 ∧ xk_X10_beginning ct K R n 21 ls (vi (fI σ 1108 x) :: st) σ k) := exS_step.trans rfl
theorem ev_X10_beginning_21 {ct : Nat → Bool} {K : Kt} {R : Option AV → Hp → Prop} {n : Nat} {ls : List (Option AV)} {st : List AV} {σ : Hp} {k : Nat × Nat} : xe_X10_beginning ct K R (n + 1) 21 ls st σ k = (xk_X10_beginning ct K R n 22 ls (vi (1) :: st) σ k) := exS_step.trans rfl
theorem ev_X10_beginning_22 {ct : Nat → Bool} {K : Kt} {R : Option AV → Hp → Prop} {n : Nat} {ls : List (Option AV)} {st : List AV} {σ : Hp} {k : Nat × Nat} : xe_X10_beginning ct K R (n + 1) 22 ls st σ k = (oI st fun y st => oI st fun x st => xk_X10_beginning ct K R n 23 ls (vi (x - y) :: st) σ k) := exS_step.trans rfl
theorem ev_X10_beginning_23 {ct : Nat → Bool} {K : Kt} {R : Option AV → Hp → Prop} {n : Nat} {ls : List (Option AV)} {st : List AV} {σ : Hp} {k : Nat × Nat} : xe_X10_beginning ct K R (n + 1) 23 ls st σ k = (lI ls 2 fun x => xk_X10_beginning ct K R n 24 ls (vi x :: st) σ k) := exS_step.trans rfl
theorem ev_X10_beginning_24 {ct : Nat → Bool} {K : Kt} {R : Option AV → Hp → Prop} {n : Nat} {ls : List (Option AV)} {st : List AV} {σ : Hp} {k : Nat × Nat} : xe_X10_beginning ct K R (n + 1) 24 ls st σ k = (oI st fun y st => oI st fun x st => xk_X10_beginning ct K R n 25 ls (vi (x - y) :: st) σ k) := exS_step.trans rfl
theorem ev_X10_beginning_25 {ct : Nat → Bool} {K : Kt} {R : Option AV → Hp → Prop} {n : Nat} {ls : List (Option AV)} {st : List AV} {σ : Hp} {k : Nat × Nat} : xe_X10_beginning ct K R (n + 1) 25 ls st σ k = (oI st fun y st => oI st fun x st => xk_X10_beginning ct K R n 26 ls (vi (x * y) :: st) σ k) := exS_step.trans rfl
theorem ev_X10_beginning_26 {ct : Nat → Bool} {K : Kt} {R : Option AV → Hp → Prop} {n : Nat} {ls : List (Option AV)} {st : List AV} {σ : Hp} {k : Nat × Nat} : xe_X10_beginning ct K R (n + 1) 26 ls st σ k = (oI st fun y st => oL st fun x st => xk_X10_beginning ct K R n 27 ls (vl (x >>> (y % 64).toNat) :: st) σ k) := exS_step.trans rfl
theorem ev_X10_beginning_27 {ct : Nat → Bool} {K : Kt} {R : Option AV → Hp → Prop} {n : Nat} {ls : List (Option AV)} {st : List AV} {σ : Hp} {k : Nat × Nat} : xe_X10_beginning ct K R (n + 1) 27 ls st σ k = (oL st fun x st => xk_X10_beginning ct K R n 28 ls (vi x.toInt :: st) σ k) := exS_step.trans rfl
theorem ev_X10_beginning_28 {ct : Nat → Bool} {K : Kt} {R : Option AV → Hp → Prop} {n : Nat} {ls : List (Option AV)} {st : List AV} {σ : Hp} {k : Nat × Nat} : xe_X10_beginning ct K R (n + 1) 28 ls st σ k = (xk_X10_beginning ct K R n 31 ls (vi (8191) :: st) σ k) := exS_step.trans rfl
theorem ev_X10_beginning_31 {ct : Nat → Bool} {K : Kt} {R : Option AV → Hp → Prop} {n : Nat} {ls : List (Option AV)} {st : List AV} {σ : Hp} {k : Nat × Nat} : xe_X10_beginning ct K R (n + 1) 31 ls st σ k = (oI st fun y st => oI st fun x st => xk_X10_beginning ct K R n 32 ls (vi (bAnd x y) :: st) σ k) := exS_step.trans rfl
theorem ev_X10_beginning_32 {ct : Nat → Bool} {K : Kt} {R : Option AV → Hp → Prop} {n : Nat} {ls : List (Option AV)} {st : List AV} {σ : Hp} {k : Nat × Nat} : xe_X10_beginning ct K R (n + 1) 32 ls st σ k = (xk_X10_beginning ct K R n 36 ls st σ k) := exS_step.trans rfl
theorem ev_X10_beginning_35 {ct : Nat → Bool} {K : Kt} {R : Option AV → Hp → Prop} {n : Nat} {ls : List (Option AV)} {st : List AV} {σ : Hp} {k : Nat × Nat} : xe_X10_beginning ct K R (n + 1) 35 ls st σ k = (xk_X10_beginning ct K R n 36 ls (vi (0) :: st) σ k) := exS_step.trans rfl
theorem ev_X10_beginning_36 {ct : Nat → Bool} {K : Kt} {R : Option AV → Hp → Prop} {n : Nat} {ls : List (Option AV)} {st : List AV} {σ : Hp} {k : Nat × Nat} : xe_X10_beginning ct K R (n + 1) 36 ls st σ k = (oI st fun x st => st = [] ∧ True ∧ R (some (vi x)) σ) := exS_step.trans rfl
def M_X10_beginning : Md := (yX10_beginning, cX10_beginning, 3, (some FieldType.int), 2, 0, 0, 1, false, tb_X10_beginning, mt_X10_beginning)
theorem mm_X10_beginning : MMOK M_X10_beginning := ⟨by decide +kernel, tk_X10_beginning, mk_X10_beginning, rfl, fun h => by cases h⟩
theorem go_X10_beginning {Q : Option AV → Hp → Prop} {ct : Nat → Bool} {pc : Nat} {ls : List (Option AV)} {st : List AV} {σ : Hp} {k : Nat × Nat} (n : Nat) (h : xe_X10_beginning ct (Go M_X10_beginning Q) Q n pc ls st σ k) : Go M_X10_beginning Q pc ls st σ k := Go.exS mm_X10_beginning h

set_option maxRecDepth 20000 in
theorem c_X10_beginning : Ct yX10_beginning cX10_beginning 3 ((some FieldType.int)) 2 0 0 sp_X10_beginning := by
  refine Ct.go (M := M_X10_beginning) mm_X10_beginning fun av σ Q h0 => ?_
  obtain ⟨this, i, j, rfl, hk, h⟩ := el_X10_beginning h0
  clear h0
  refine ⟨Nat.le_of_ble_eq_true rfl, ?_⟩
  show Go M_X10_beginning Q 0 [some (vr this), some (vi i), some (vi j)] [] σ (0, 0)
  obtain ⟨rfl, hC, xs, x, p, ⟨m1, m2, m3⟩, hi, hj, hx, hp, hl, hl3, hm, h⟩ := h
  have hkey : (xs.map keyL)[i.toNat]? = some (keyL x) := by rw [List.getElem?_map, hx]; rfl
  have g := m3 _ _ hkey
  rw [Int.toNat_of_nonneg hi] at g
  have hxl := (List.getElem?_eq_some_iff.mp hx).1
  have hpl := (List.getElem?_eq_some_iff.mp hp).1
  rw [List.length_map] at m1 m2
  have hf : 0 ≤ fI σ 1109 4 ∧ fI σ 1109 4 ≤ 200 := by omega
  have hs : 0 ≤ fI σ 1108 4 ∧ fI σ 1108 4 ≤ 3 := by omega
  have hc : (0 ≤ i ∧ i < fI σ 1109 4) ∧ 0 ≤ j ∧ j < fI σ 1108 4 := by omega
  have hir : inR i := by unfold inR; omega
  have hjr : inR j := by unfold inR; omega
  have ka := key_at hl3 hm hp
  have es : ((13 * (fI σ 1108 4 - 1 - j)) % 64).toNat = 13 * (x.length - 1 - j.toNat) := by omega
  have eu := ush_k g.1 (13 * (x.length - 1 - j.toNat))
  have hnn : 0 ≤ keyL x / 2 ^ (13 * (x.length - 1 - j.toNat)) := Int.ediv_nonneg g.1.1 (by exact Int.le_of_lt (Int.pow_pos (by decide)))
  have eb := bAnd_8191 hnn
  have gv9 := g.2
  rw [← ka, ← eb, ← eu, ← gv9] at h
  have hi9 : i < 200 := by omega
  clear m1 m2 m3 hkey hx hp hm ka eu eb hnn g gv9 hl hl3 hxl hpl
  refine go_X10_beginning (ct := fun p => p == 35) 40 ?_
  simp only [oI, oL, oR, o1, lI, lL, lR, popN, catS, gv, stL, stL2, swt, cnd, spObj, List.getElem?_cons_zero, List.getElem?_cons_succ, List.getD_cons_zero, List.getD_cons_succ, List.set_cons_zero, List.set_cons_succ, List.nil_append, List.cons_append, Option.toList, Bool.or_false, Bool.false_or, Bool.or_true, Bool.true_or, Nat.reduceBEq, Nat.reduceAdd, Nat.reduceLT, Nat.reduceLeDiff, Int.reduceAdd, Int.reduceToNat, true_and, and_true, Fin.isValue, Fin.val_zero, Fin.val_one, Fin.val_two, Fin.reduceFinMk, eq_self, Int.reduceNeg, imp_self, Nat.reduceMul, Nat.le_refl, not_true_eq_false, not_false_eq_true, List.getElem?_nil, reduceCtorEq, true_or, or_true, Classical.not_not, implies_true, or_self, wI_0, wI_1, wI_m1, b2i_w, b2i_eq0, b2i_eq1, b2i_bool, nor_self, nx_pI, kd_pI, ln_pI, fI_pI, fL_pI, fR_pI, aI_pI, aL_pI, aR_pI, nx_pL, kd_pL, ln_pL, fI_pL, fL_pL, fR_pL, aI_pL, aL_pL, aR_pL, nx_pR, kd_pR, ln_pR, fI_pR, fL_pR, fR_pR, aI_pR, aL_pR, aR_pR, nx_qI, kd_qI, ln_qI, fI_qI, fL_qI, fR_qI, aI_qI, aL_qI, aR_qI, nx_qL, kd_qL, ln_qL, fI_qL, fL_qL, fR_qL, aI_qL, aL_qL, aR_qL, nx_qR, kd_qR, ln_qR, fI_qR, fL_qR, fR_qR, aI_qR, aL_qR, aR_qR, nx_mk, kd_mk, ln_mk, fI_mk, fL_mk, fR_mk, aI_mk, aL_mk, aR_mk, false_and, and_false, if_false, if_true, and_self, Int.reduceEq, Nat.reduceEqDiff, ite_self, MLay_pI, MLay_pL, MLay_qI, MLay_qL, ev_X10_beginning_0, ev_X10_beginning_1, ev_X10_beginning_2, ev_X10_beginning_3, ev_X10_beginning_6, ev_X10_beginning_9, ev_X10_beginning_10, ev_X10_beginning_13, ev_X10_beginning_14, ev_X10_beginning_15, ev_X10_beginning_17, ev_X10_beginning_18, ev_X10_beginning_21, ev_X10_beginning_22, ev_X10_beginning_23, ev_X10_beginning_24, ev_X10_beginning_25, ev_X10_beginning_26, ev_X10_beginning_27, ev_X10_beginning_28, ev_X10_beginning_31, ev_X10_beginning_32, ev_X10_beginning_35, ev_X10_beginning_36, xt_X10_beginning, xf_X10_beginning, us_X10_hasBeginning, hk, hC, hC.eqs, hf, hs, hir, hjr, b2i_t hc, es]
  try simp (disch := omega) only [wI_id, dv_nn, rm_nn]
  repeat' (first | intro z | apply And.intro)
  all_goals try omega
  all_goals try contradiction
  all_goals first | exact h | omega

def sp_X10_boxOfBeginning : Sp := fun av σ Q => oR av fun this av => oI av fun i av => oI av fun j av => av = [] ∧ kd σ this = 11 ∧ (this = 4 ∧ CLay σ ∧ ∃ (xs : List (List Int)) (x : List Int) (p l : Int), KM σ (xs.map keyL) ∧ 0 ≤ i ∧ 0 ≤ j ∧ xs[i.toNat]? = some x ∧ x[j.toNat]? = some p ∧ (x.length : Int) = fI σ 1108 4 ∧ x.length ≤ 3 ∧ (∀ q ∈ x, 0 ≤ q ∧ q / 300 < 12) ∧ (0 ≤ l ∧ l < 4) ∧ fR σ 1106 4 = 46 + 4 * l ∧ LOk σ (46 + 4 * l) 2 ∧ (0 ≤ p / 300 ∧ p / 300 < fI σ 1402 (46 + 4 * l)) ∧ Q (some (vr (lat σ (46 + 4 * l) (p / 300)))) σ)
theorem us_X10_boxOfBeginning (this : Int) (i : Int) (j : Int) (σ : Hp) (Q : Option AV → Hp → Prop) : sp_X10_boxOfBeginning [vr this, vi i, vi j] σ Q = (kd σ this = 11 ∧ (this = 4 ∧ CLay σ ∧ ∃ (xs : List (List Int)) (x : List Int) (p l : Int), KM σ (xs.map keyL) ∧ 0 ≤ i ∧ 0 ≤ j ∧ xs[i.toNat]? = some x ∧ x[j.toNat]? = some p ∧ (x.length : Int) = fI σ 1108 4 ∧ x.length ≤ 3 ∧ (∀ q ∈ x, 0 ≤ q ∧ q / 300 < 12) ∧ (0 ≤ l ∧ l < 4) ∧ fR σ 1106 4 = 46 + 4 * l ∧ LOk σ (46 + 4 * l) 2 ∧ (0 ≤ p / 300 ∧ p / 300 < fI σ 1402 (46 + 4 * l)) ∧ Q (some (vr (lat σ (46 + 4 * l) (p / 300)))) σ)) := propext ⟨fun h => h.2, fun h => ⟨rfl, h⟩⟩
theorem el_X10_boxOfBeginning {av : List AV} {σ : Hp} {Q : Option AV → Hp → Prop} (h : sp_X10_boxOfBeginning av σ Q) : ∃ (this : Int) (i : Int) (j : Int), av = [vr this, vi i, vi j] ∧ (kd σ this = 11 ∧ (this = 4 ∧ CLay σ ∧ ∃ (xs : List (List Int)) (x : List Int) (p l : Int), KM σ (xs.map keyL) ∧ 0 ≤ i ∧ 0 ≤ j ∧ xs[i.toNat]? = some x ∧ x[j.toNat]? = some p ∧ (x.length : Int) = fI σ 1108 4 ∧ x.length ≤ 3 ∧ (∀ q ∈ x, 0 ≤ q ∧ q / 300 < 12) ∧ (0 ≤ l ∧ l < 4) ∧ fR σ 1106 4 = 46 + 4 * l ∧ LOk σ (46 + 4 * l) 2 ∧ (0 ≤ p / 300 ∧ p / 300 < fI σ 1402 (46 + 4 * l)) ∧ Q (some (vr (lat σ (46 + 4 * l) (p / 300)))) σ)) := by
  obtain ⟨this, a0, rfl, h0⟩ := oR_s h
  obtain ⟨i, a1, rfl, h1⟩ := oI_s h0
  obtain ⟨j, a2, rfl, h2⟩ := oI_s h1
  obtain ⟨rfl, hz⟩ := h2
  exact ⟨this, i, j, rfl, hz⟩
theorem rc_X10_boxOfBeginning : ∀ (av : List AV) (σ : Hp) (Q : Option AV → Hp → Prop), sp_X10_boxOfBeginning av σ Q → ∃ r tl, av = vr r :: tl ∧ kd σ r = 10 + 1 := fun av σ Q h => by
  obtain ⟨this, i, j, rfl, hz, -⟩ := el_X10_boxOfBeginning h
  exact ⟨this, _, rfl, hz⟩

def tb_X10_boxOfBeginning : Tab := [(0, .aload_n 0, 1, (0, 0, 0, 0)), (1, .iload_n 1, 1, (0, 0, 0, 0)), (2, .iload_n 2, 1, (0, 0, 0, 0)), (3, .invokevirtual 137, 3, (0, 0, 0, 0)), (6, .bipush 9, 2, (0, 0, 0, 0)), (8, .ishr, 1, (0, 0, 0, 0)), (9, .istore_n 3, 1, (0, 0, 0, 0)), (10, .iload_n 3, 1, (0, 0, 0, 0)), (11, .ifCond .lt 28, 3, (0, 0, 0, 0)), (14, .iload_n 3, 1, (0, 0, 0, 0)), (15, .aload_n 0, 1, (0, 0, 0, 0)), (16, .getfield 36, 3, (11, 1106, 2, 0)), (19, .invokevirtual 92, 3, (0, 0, 0, 0)), (22, .if_icmp .ge 17, 3, (0, 0, 0, 0)), (25, .aload_n 0, 1, (0, 0, 0, 0)), (26, .getfield 36, 3, (11, 1106, 2, 0)), (29, .iload_n 3, 1, (0, 0, 0, 0)), (30, .invokevirtual 103, 3, (0, 0, 0, 0)), (33, .checkcast 107, 3, (3, 0, 0, 0)), (36, .goto 4, 3, (0, 0, 0, 0)), (39, .aconst_null, 1, (0, 0, 0, 0)), (40, .areturn, 1, (0, 0, 0, 0))]
set_option maxRecDepth 100000 in
theorem tk_X10_boxOfBeginning : TOK RX10 false cX10_boxOfBeginning tb_X10_boxOfBeginning := chkT_ok ft_X10 (by decide +kernel)
theorem rw_X10_1096 : Row RX10 (.invokevirtual 137) 3 3 0 0 2 sp_X10_beginning := row_V (n := 2) (ci := 10) c_X10_beginning ⟨TBL_in 818 (by decide +kernel) rfl, TBL_in 821 (by decide +kernel) rfl, TBL_in 112 (by decide +kernel) rfl, by decide +kernel, by decide⟩ (by decide) rfl (TBL_in 820 (by decide +kernel) rfl) (TBL_in 25 (by decide +kernel) rfl) rc_X10_beginning
def mt_X10_boxOfBeginning : List (Nat × Mt) := [(1096, 3, 0, 0, 2, sp_X10_beginning), (736, 1, 0, 0, 1, sp_Jx4a65c_size_8abf5), (824, 2, 0, 0, 3, sp_Jx4a65c_get_915e3)]
theorem em_X10_boxOfBeginning : mt_X10_boxOfBeginning.lookup 1096 = some (3, 0, 0, 2, sp_X10_beginning) ∧ mt_X10_boxOfBeginning.lookup 736 = some (1, 0, 0, 1, sp_Jx4a65c_size_8abf5) ∧ mt_X10_boxOfBeginning.lookup 824 = some (2, 0, 0, 3, sp_Jx4a65c_get_915e3) := ⟨rfl, rfl, rfl⟩
theorem mk_X10_boxOfBeginning : MOK RX10 mt_X10_boxOfBeginning := by
  intro q hq
  simp only [mt_X10_boxOfBeginning, List.mem_cons, List.not_mem_nil, or_false] at hq
  rcases hq with rfl | rfl | rfl
  · exact rw_X10_1096
  · exact rw_X10_736
  · exact rw_X10_824
noncomputable def xe_X10_boxOfBeginning (ct : Nat → Bool) (K : Kt) (R : Option AV → Hp → Prop) (n : Nat) : Kt := exS 4 4 0 0 5 tb_X10_boxOfBeginning mt_X10_boxOfBeginning ct K R n
noncomputable def xk_X10_boxOfBeginning (ct : Nat → Bool) (K : Kt) (R : Option AV → Hp → Prop) (n : Nat) : Kt := exkS 4 4 0 0 5 tb_X10_boxOfBeginning mt_X10_boxOfBeginning ct K R n
theorem xt_X10_boxOfBeginning {ct : Nat → Bool} {K : Kt} {R : Option AV → Hp → Prop} {n pc : Nat} {ls : List (Option AV)} {st : List AV} {σ : Hp} {k : Nat × Nat} (h : ct pc = true) : xk_X10_boxOfBeginning ct K R n pc ls st σ k = K pc ls st σ k := by unfold xk_X10_boxOfBeginning exkS; rw [h]
theorem xf_X10_boxOfBeginning {ct : Nat → Bool} {K : Kt} {R : Option AV → Hp → Prop} {n pc : Nat} {ls : List (Option AV)} {st : List AV} {σ : Hp} {k : Nat × Nat} (h : ct pc = false) : xk_X10_boxOfBeginning ct K R n pc ls st σ k = xe_X10_boxOfBeginning ct K R n pc ls st σ k := by unfold xk_X10_boxOfBeginning exkS xe_X10_boxOfBeginning; rw [h]
theorem ev_X10_boxOfBeginning_0 {ct : Nat → Bool} {K : Kt} {R : Option AV → Hp → Prop} {n : Nat} {ls : List (Option AV)} {st : List AV} {σ : Hp} {k : Nat × Nat} : xe_X10_boxOfBeginning ct K R (n + 1) 0 ls st σ k = (lR ls 0 fun x => xk_X10_boxOfBeginning ct K R n 1 ls (vr x :: st) σ k) := exS_step.trans rfl
theorem ev_X10_boxOfBeginning_1 {ct : Nat → Bool} {K : Kt} {R : Option AV → Hp → Prop} {n : Nat} {ls : List (Option AV)} {st : List AV} {σ : Hp} {k : Nat × Nat} : xe_X10_boxOfBeginning ct K R (n + 1) 1 ls st σ k = (lI ls 1 fun x => xk_X10_boxOfBeginning ct K R n 2 ls (vi x :: st) σ k) := exS_step.trans rfl
theorem ev_X10_boxOfBeginning_2 {ct : Nat → Bool} {K : Kt} {R : Option AV → Hp → Prop} {n : Nat} {ls : List (Option AV)} {st : List AV} {σ : Hp} {k : Nat × Nat} : xe_X10_boxOfBeginning ct K R (n + 1) 2 ls st σ k = (lI ls 2 fun x => xk_X10_boxOfBeginning ct K R n 3 ls (vi x :: st) σ k) := exS_step.trans rfl
theorem ev_X10_boxOfBeginning_3 {ct : Nat → Bool} {K : Kt} {R : Option AV → Hp → Prop} {n : Nat} {ls : List (Option AV)} {st : List AV} {σ : Hp} {k : Nat × Nat} : xe_X10_boxOfBeginning ct K R (n + 1) 3 ls st σ k = (popN 3 st [] fun av rest => (catS rest ≤ 8 ∧ 2 < 4 ∧ k.1 + 0 ≤ 0 ∧ k.2 + 0 ≤ 0) ∧ (sp_X10_beginning) av σ fun v σ' => xk_X10_boxOfBeginning ct K R n 6 ls (v.toList ++ rest) σ' (k.1 + 0, k.2 + 0)) := exS_step.trans rfl
theorem ev_X10_boxOfBeginning_6 {ct : Nat → Bool} {K : Kt} {R : Option AV → Hp → Prop} {n : Nat} {ls : List (Option AV)} {st : List AV} {σ : Hp} {k : Nat × Nat} : xe_X10_boxOfBeginning ct K R (n + 1) 6 ls st σ k = (xk_X10_boxOfBeginning ct K R n 8 ls (vi (9) :: st) σ k) := exS_step.trans rfl
theorem ev_X10_boxOfBeginning_8 {ct : Nat → Bool} {K : Kt} {R : Option AV → Hp → Prop} {n : Nat} {ls : List (Option AV)} {st : List AV} {σ : Hp} {k : Nat × Nat} : xe_X10_boxOfBeginning ct K R (n + 1) 8 ls st σ k = (oI st fun y st => oI st fun x st => xk_X10_boxOfBeginning ct K R n 9 ls (vi (shrI x y) :: st) σ k) := exS_step.trans rfl
theorem ev_X10_boxOfBeginning_9 {ct : Nat → Bool} {K : Kt} {R : Option AV → Hp → Prop} {n : Nat} {ls : List (Option AV)} {st : List AV} {σ : Hp} {k : Nat × Nat} : xe_X10_boxOfBeginning ct K R (n + 1) 9 ls st σ k = (oI st fun x st => 3 < 4 ∧ xk_X10_boxOfBeginning ct K R n 10 (stL ls 3 (vi x)) st σ k) := exS_step.trans rfl
theorem ev_X10_boxOfBeginning_10 {ct : Nat → Bool} {K : Kt} {R : Option AV → Hp → Prop} {n : Nat} {ls : List (Option AV)} {st : List AV} {σ : Hp} {k : Nat × Nat} : xe_X10_boxOfBeginning ct K R (n + 1) 10 ls st σ k = (lI ls 3 fun x => xk_X10_boxOfBeginning ct K R n 11 ls (vi x :: st) σ k) := exS_step.trans rfl
theorem ev_X10_boxOfBeginning_11 {ct : Nat → Bool} {K : Kt} {R : Option AV → Hp → Prop} {n : Nat} {ls : List (Option AV)} {st : List AV} {σ : Hp} {k : Nat × Nat} : xe_X10_boxOfBeginning ct K R (n + 1) 11 ls st σ k = (oI st fun x st => (wI x < wI 0 → xk_X10_boxOfBeginning ct K R n 39 ls st σ k) ∧ (¬ (wI x < wI 0) → xk_X10_boxOfBeginning ct K R n 14 ls st σ k)) := exS_step.trans rfl
theorem ev_X10_boxOfBeginning_14 {ct : Nat → Bool} {K : Kt} {R : Option AV → Hp → Prop} {n : Nat} {ls : List (Option AV)} {st : List AV} {σ : Hp} {k : Nat × Nat} : xe_X10_boxOfBeginning ct K R (n + 1) 14 ls st σ k = (lI ls 3 fun x => xk_X10_boxOfBeginning ct K R n 15 ls (vi x :: st) σ k) := exS_step.trans rfl
theorem ev_X10_boxOfBeginning_15 {ct : Nat → Bool} {K : Kt} {R : Option AV → Hp → Prop} {n : Nat} {ls : List (Option AV)} {st : List AV} {σ : Hp} {k : Nat × Nat} : xe_X10_boxOfBeginning ct K R (n + 1) 15 ls st σ k = (lR ls 0 fun x => xk_X10_boxOfBeginning ct K R n 16 ls (vr x :: st) σ k) := exS_step.trans rfl
theorem ev_X10_boxOfBeginning_16 {ct : Nat → Bool} {K : Kt} {R : Option AV → Hp → Prop} {n : Nat} {ls : List (Option AV)} {st : List AV} {σ : Hp} {k : Nat × Nat} : xe_X10_boxOfBeginning ct K R (n + 1) 16 ls st σ k = (oR st fun x st => kd σ x = 11 ∧ xk_X10_boxOfBeginning ct K R n 19 ls (vr (fR σ 1106 x) :: st) σ k) := exS_step.trans rfl
theorem ev_X10_boxOfBeginning_19 {ct : Nat → Bool} {K : Kt} {R : Option AV → Hp → Prop} {n : Nat} {ls : List (Option AV)} {st : List AV} {σ : Hp} {k : Nat × Nat} : xe_X10_boxOfBeginning ct K R (n + 1) 19 ls st σ k = (popN 1 st [] fun av rest => (catS rest ≤ 8 ∧ 1 < 4 ∧ k.1 + 0 ≤ 0 ∧ k.2 + 0 ≤ 0) ∧ (sp_Jx4a65c_size_8abf5) av σ fun v σ' => xk_X10_boxOfBeginning ct K R n 22 ls (v.toList ++ rest) σ' (k.1 + 0, k.2 + 0)) := exS_step.trans rfl
theorem ev_X10_boxOfBeginning_22 {ct : Nat → Bool} {K : Kt} {R : Option AV → Hp → Prop} {n : Nat} {ls : List (Option AV)} {st : List AV} {σ : Hp} {k : Nat × Nat} : xe_X10_boxOfBeginning ct K R (n + 1) 22 ls st σ k = (oI st fun y st => oI st fun x st => (wI y ≤ wI x → xk_X10_boxOfBeginning ct K R n 39 ls st σ k) ∧ (¬ (wI y ≤ wI x) → xk_X10_boxOfBeginning ct K R n 25 ls st σ k)) := exS_step.trans rfl
theorem ev_X10_boxOfBeginning_25 {ct : Nat → Bool} {K : Kt} {R : Option AV → Hp → Prop} {n : Nat} {ls : List (Option AV)} {st : List AV} {σ : Hp} {k : Nat × Nat} : xe_X10_boxOfBeginning ct K R (n + 1) 25 ls st σ k = (lR ls 0 fun x => xk_X10_boxOfBeginning ct K R n 26 ls (vr x :: st) σ k) := exS_step.trans rfl
theorem ev_X10_boxOfBeginning_26 {ct : Nat → Bool} {K : Kt} {R : Option AV → Hp → Prop} {n : Nat} {ls : List (Option AV)} {st : List AV} {σ : Hp} {k : Nat × Nat} : xe_X10_boxOfBeginning ct K R (n + 1) 26 ls st σ k = (oR st fun x st => kd σ x = 11 ∧ xk_X10_boxOfBeginning ct K R n 29 ls (vr (fR σ 1106 x) :: st) σ k) := exS_step.trans rfl
theorem ev_X10_boxOfBeginning_29 {ct : Nat → Bool} {K : Kt} {R : Option AV → Hp → Prop} {n : Nat} {ls : List (Option AV)} {st : List AV} {σ : Hp} {k : Nat × Nat} : xe_X10_boxOfBeginning ct K R (n + 1) 29 ls st σ k = (lI ls 3 fun x => xk_X10_boxOfBeginning ct K R n 30 ls (vi x :: st) σ k) := exS_step.trans rfl
theorem ev_X10_boxOfBeginning_30 {ct : Nat → Bool} {K : Kt} {R : Option AV → Hp → Prop} {n : Nat} {ls : List (Option AV)} {st : List AV} {σ : Hp} {k : Nat × Nat} : xe_X10_boxOfBeginning ct K R (n + 1) 30 ls st σ k = (popN 2 st [] fun av rest => (catS rest ≤ 8 ∧ 3 < 4 ∧ k.1 + 0 ≤ 0 ∧ k.2 + 0 ≤ 0) ∧ (sp_Jx4a65c_get_915e3) av σ fun v σ' => xk_X10_boxOfBeginning ct K R n 33 ls (v.toList ++ rest) σ' (k.1 + 0, k.2 + 0)) := exS_step.trans rfl
theorem ev_X10_boxOfBeginning_33 {ct : Nat → Bool} {K : Kt} {R : Option AV → Hp → Prop} {n : Nat} {ls : List (Option AV)} {st : List AV} {σ : Hp} {k : Nat × Nat} : xe_X10_boxOfBeginning ct K R (n + 1) 33 ls st σ k = (oR st fun x st => kd σ x = 3 ∧ xk_X10_boxOfBeginning ct K R n 36 ls (vr x :: st) σ k) := exS_step.trans rfl
theorem ev_X10_boxOfBeginning_36 {ct : Nat → Bool} {K : Kt} {R : Option AV → Hp → Prop} {n : Nat} {ls : List (Option AV)} {st : List AV} {σ : Hp} {k : Nat × Nat} : xe_X10_boxOfBeginning ct K R (n + 1) 36 ls st σ k = (xk_X10_boxOfBeginning ct K R n 40 ls st σ k) := exS_step.trans rfl
theorem ev_X10_boxOfBeginning_39 {ct : Nat → Bool} {K : Kt} {R : Option AV → Hp → Prop} {n : Nat} {ls : List (Option AV)} {st : List AV} {σ : Hp} {k : Nat × Nat} : xe_X10_boxOfBeginning ct K R (n + 1) 39 ls st σ k = (xk_X10_boxOfBeginning ct K R n 40 ls (vr 0 :: st) σ k) := exS_step.trans rfl
theorem ev_X10_boxOfBeginning_40 {ct : Nat → Bool} {K : Kt} {R : Option AV → Hp → Prop} {n : Nat} {ls : List (Option AV)} {st : List AV} {σ : Hp} {k : Nat × Nat} : xe_X10_boxOfBeginning ct K R (n + 1) 40 ls st σ k = (oR st fun x st => st = [] ∧ 5 = 5 ∧ R (some (vr x)) σ) := exS_step.trans rfl
def M_X10_boxOfBeginning : Md := (yX10_boxOfBeginning, cX10_boxOfBeginning, 4, (some (FieldType.object "AlarmBoxes$Box")), 4, 0, 0, 5, false, tb_X10_boxOfBeginning, mt_X10_boxOfBeginning)
theorem mm_X10_boxOfBeginning : MMOK M_X10_boxOfBeginning := ⟨by decide +kernel, tk_X10_boxOfBeginning, mk_X10_boxOfBeginning, Or.inl ⟨_, rfl⟩, fun h => by cases h⟩
theorem go_X10_boxOfBeginning {Q : Option AV → Hp → Prop} {ct : Nat → Bool} {pc : Nat} {ls : List (Option AV)} {st : List AV} {σ : Hp} {k : Nat × Nat} (n : Nat) (h : xe_X10_boxOfBeginning ct (Go M_X10_boxOfBeginning Q) Q n pc ls st σ k) : Go M_X10_boxOfBeginning Q pc ls st σ k := Go.exS mm_X10_boxOfBeginning h

set_option maxRecDepth 20000 in
theorem c_X10_boxOfBeginning : Ct yX10_boxOfBeginning cX10_boxOfBeginning 4 ((some (FieldType.object "AlarmBoxes$Box"))) 4 0 0 sp_X10_boxOfBeginning := by
  refine Ct.go (M := M_X10_boxOfBeginning) mm_X10_boxOfBeginning fun av σ Q h0 => ?_
  obtain ⟨this, i, j, rfl, hk, h⟩ := el_X10_boxOfBeginning h0
  clear h0
  refine ⟨Nat.le_of_ble_eq_true rfl, ?_⟩
  show Go M_X10_boxOfBeginning Q 0 [some (vr this), some (vi i), some (vi j), none] [] σ (0, 0)
  obtain ⟨rfl, hC, xs, x, p, l, hKM, hi, hj, hx, hp, hl, hl3, hm, hll, hlp, hL, hpc, h⟩ := h
  have hg := lpx hC hll
  have hg1 := hg.1
  have hg2 := hg.2.1
  have hg3 := hg.2.2
  have hLe : ∃ ci, LOk σ (46 + 4 * l) ci := ⟨2, hL⟩
  have hkc : kd σ (lat σ (46 + 4 * l) (p / 300)) = 3 := hL.2.2.2.2.2 _ hpc.1 hpc.2
  have hpm := hm p (List.mem_of_getElem? hp)
  have hk13 : 0 ≤ k13 p ∧ k13 p < 8192 := by unfold k13; omega
  have e9 : shrI (k13 p) 9 = p / 300 := by
    rw [shrI_9 (by omega)]
    unfold k13
    omega
  have hn0 : 0 ≤ p / 300 ∧ p / 300 < 12 := by omega
  have hsz := hL.2.2
  have w6 : Go M_X10_boxOfBeginning Q 6 [some (vr 4), some (vi i), some (vi j), none] [vi (k13 p)] σ (0, 0) := by
    clear hKM hx hp hm hl hl3
    refine go_X10_boxOfBeginning (ct := fun p => p == 39) 40 ?_
    simp only [oI, oL, oR, o1, lI, lL, lR, popN, catS, gv, stL, stL2, swt, cnd, spObj, List.getElem?_cons_zero, List.getElem?_cons_succ, List.getD_cons_zero, List.getD_cons_succ, List.set_cons_zero, List.set_cons_succ, List.nil_append, List.cons_append, Option.toList, Bool.or_false, Bool.false_or, Bool.or_true, Bool.true_or, Nat.reduceBEq, Nat.reduceAdd, Nat.reduceLT, Nat.reduceLeDiff, Int.reduceAdd, Int.reduceToNat, true_and, and_true, Fin.isValue, Fin.val_zero, Fin.val_one, Fin.val_two, Fin.reduceFinMk, eq_self, Int.reduceNeg, imp_self, Nat.reduceMul, Nat.le_refl, not_true_eq_false, not_false_eq_true, List.getElem?_nil, reduceCtorEq, true_or, or_true, Classical.not_not, implies_true, or_self, wI_0, wI_1, wI_m1, b2i_w, b2i_eq0, b2i_eq1, b2i_bool, nor_self, nx_pI, kd_pI, ln_pI, fI_pI, fL_pI, fR_pI, aI_pI, aL_pI, aR_pI, nx_pL, kd_pL, ln_pL, fI_pL, fL_pL, fR_pL, aI_pL, aL_pL, aR_pL, nx_pR, kd_pR, ln_pR, fI_pR, fL_pR, fR_pR, aI_pR, aL_pR, aR_pR, nx_qI, kd_qI, ln_qI, fI_qI, fL_qI, fR_qI, aI_qI, aL_qI, aR_qI, nx_qL, kd_qL, ln_qL, fI_qL, fL_qL, fR_qL, aI_qL, aL_qL, aR_qL, nx_qR, kd_qR, ln_qR, fI_qR, fL_qR, fR_qR, aI_qR, aL_qR, aR_qR, nx_mk, kd_mk, ln_mk, fI_mk, fL_mk, fR_mk, aI_mk, aL_mk, aR_mk, false_and, and_false, if_false, if_true, and_self, Int.reduceEq, Nat.reduceEqDiff, ite_self, MLay_pI, MLay_pL, MLay_qI, MLay_qL, ev_X10_boxOfBeginning_6, ev_X10_boxOfBeginning_8, ev_X10_boxOfBeginning_9, ev_X10_boxOfBeginning_10, ev_X10_boxOfBeginning_11, ev_X10_boxOfBeginning_14, ev_X10_boxOfBeginning_15, ev_X10_boxOfBeginning_16, ev_X10_boxOfBeginning_19, ev_X10_boxOfBeginning_22, ev_X10_boxOfBeginning_25, ev_X10_boxOfBeginning_26, ev_X10_boxOfBeginning_29, ev_X10_boxOfBeginning_30, ev_X10_boxOfBeginning_33, ev_X10_boxOfBeginning_36, ev_X10_boxOfBeginning_39, ev_X10_boxOfBeginning_40, xt_X10_boxOfBeginning, xf_X10_boxOfBeginning, us_X10_beginning, us_Jx4a65c_size_8abf5, us_Jx4a65c_get_915e3, hk, hlp, hg1, hg2, hg3, hLe, hkc, e9, hn0, hpc]
    try simp (disch := omega) only [wI_id, dv_nn, rm_nn]
    repeat' (first | intro z | apply And.intro)
    all_goals try omega
    all_goals try contradiction
    all_goals first | exact h | omega
  clear h
  refine go_X10_boxOfBeginning (ct := fun p => p == 6) 40 ?_
  simp only [oI, oL, oR, o1, lI, lL, lR, popN, catS, gv, stL, stL2, swt, cnd, spObj, List.getElem?_cons_zero, List.getElem?_cons_succ, List.getD_cons_zero, List.getD_cons_succ, List.set_cons_zero, List.set_cons_succ, List.nil_append, List.cons_append, Option.toList, Bool.or_false, Bool.false_or, Bool.or_true, Bool.true_or, Nat.reduceBEq, Nat.reduceAdd, Nat.reduceLT, Nat.reduceLeDiff, Int.reduceAdd, Int.reduceToNat, true_and, and_true, Fin.isValue, Fin.val_zero, Fin.val_one, Fin.val_two, Fin.reduceFinMk, eq_self, Int.reduceNeg, imp_self, Nat.reduceMul, Nat.le_refl, not_true_eq_false, not_false_eq_true, List.getElem?_nil, reduceCtorEq, true_or, or_true, Classical.not_not, implies_true, or_self, wI_0, wI_1, wI_m1, b2i_w, b2i_eq0, b2i_eq1, b2i_bool, nor_self, nx_pI, kd_pI, ln_pI, fI_pI, fL_pI, fR_pI, aI_pI, aL_pI, aR_pI, nx_pL, kd_pL, ln_pL, fI_pL, fL_pL, fR_pL, aI_pL, aL_pL, aR_pL, nx_pR, kd_pR, ln_pR, fI_pR, fL_pR, fR_pR, aI_pR, aL_pR, aR_pR, nx_qI, kd_qI, ln_qI, fI_qI, fL_qI, fR_qI, aI_qI, aL_qI, aR_qI, nx_qL, kd_qL, ln_qL, fI_qL, fL_qL, fR_qL, aI_qL, aL_qL, aR_qL, nx_qR, kd_qR, ln_qR, fI_qR, fL_qR, fR_qR, aI_qR, aL_qR, aR_qR, nx_mk, kd_mk, ln_mk, fI_mk, fL_mk, fR_mk, aI_mk, aL_mk, aR_mk, false_and, and_false, if_false, if_true, and_self, Int.reduceEq, Nat.reduceEqDiff, ite_self, MLay_pI, MLay_pL, MLay_qI, MLay_qL, ev_X10_boxOfBeginning_0, ev_X10_boxOfBeginning_1, ev_X10_boxOfBeginning_2, ev_X10_boxOfBeginning_3, xt_X10_boxOfBeginning, xf_X10_boxOfBeginning, us_X10_beginning, us_Jx4a65c_size_8abf5, us_Jx4a65c_get_915e3, hk, hC]
  repeat' (first | intro z | apply And.intro)
  all_goals try omega
  all_goals try contradiction
  all_goals exact ⟨xs, x, p, hKM, hi, hj, hx, hp, hl, hl3, hm, w6⟩

def sp_X10_tickOfBeginning : Sp := fun av σ Q => oR av fun this av => oI av fun i av => oI av fun j av => av = [] ∧ kd σ this = 11 ∧ (this = 4 ∧ CLay σ ∧ ∃ (xs : List (List Int)) (x : List Int) (p : Int), KM σ (xs.map keyL) ∧ 0 ≤ i ∧ 0 ≤ j ∧ xs[i.toNat]? = some x ∧ x[j.toNat]? = some p ∧ (x.length : Int) = fI σ 1108 4 ∧ x.length ≤ 3 ∧ (∀ q ∈ x, 0 ≤ q ∧ q / 300 < 12) ∧ Q (some (vi (fI σ 1107 4 + p % 300))) σ)
theorem us_X10_tickOfBeginning (this : Int) (i : Int) (j : Int) (σ : Hp) (Q : Option AV → Hp → Prop) : sp_X10_tickOfBeginning [vr this, vi i, vi j] σ Q = (kd σ this = 11 ∧ (this = 4 ∧ CLay σ ∧ ∃ (xs : List (List Int)) (x : List Int) (p : Int), KM σ (xs.map keyL) ∧ 0 ≤ i ∧ 0 ≤ j ∧ xs[i.toNat]? = some x ∧ x[j.toNat]? = some p ∧ (x.length : Int) = fI σ 1108 4 ∧ x.length ≤ 3 ∧ (∀ q ∈ x, 0 ≤ q ∧ q / 300 < 12) ∧ Q (some (vi (fI σ 1107 4 + p % 300))) σ)) := propext ⟨fun h => h.2, fun h => ⟨rfl, h⟩⟩
theorem el_X10_tickOfBeginning {av : List AV} {σ : Hp} {Q : Option AV → Hp → Prop} (h : sp_X10_tickOfBeginning av σ Q) : ∃ (this : Int) (i : Int) (j : Int), av = [vr this, vi i, vi j] ∧ (kd σ this = 11 ∧ (this = 4 ∧ CLay σ ∧ ∃ (xs : List (List Int)) (x : List Int) (p : Int), KM σ (xs.map keyL) ∧ 0 ≤ i ∧ 0 ≤ j ∧ xs[i.toNat]? = some x ∧ x[j.toNat]? = some p ∧ (x.length : Int) = fI σ 1108 4 ∧ x.length ≤ 3 ∧ (∀ q ∈ x, 0 ≤ q ∧ q / 300 < 12) ∧ Q (some (vi (fI σ 1107 4 + p % 300))) σ)) := by
  obtain ⟨this, a0, rfl, h0⟩ := oR_s h
  obtain ⟨i, a1, rfl, h1⟩ := oI_s h0
  obtain ⟨j, a2, rfl, h2⟩ := oI_s h1
  obtain ⟨rfl, hz⟩ := h2
  exact ⟨this, i, j, rfl, hz⟩
theorem rc_X10_tickOfBeginning : ∀ (av : List AV) (σ : Hp) (Q : Option AV → Hp → Prop), sp_X10_tickOfBeginning av σ Q → ∃ r tl, av = vr r :: tl ∧ kd σ r = 10 + 1 := fun av σ Q h => by
  obtain ⟨this, i, j, rfl, hz, -⟩ := el_X10_tickOfBeginning h
  exact ⟨this, _, rfl, hz⟩

def tb_X10_tickOfBeginning : Tab := [(0, .aload_n 0, 1, (0, 0, 0, 0)), (1, .getfield 40, 3, (11, 1107, 0, 0)), (4, .aload_n 0, 1, (0, 0, 0, 0)), (5, .iload_n 1, 1, (0, 0, 0, 0)), (6, .iload_n 2, 1, (0, 0, 0, 0)), (7, .invokevirtual 137, 3, (0, 0, 0, 0)), (10, .sipush 511, 3, (0, 0, 0, 0)), (13, .iand, 1, (0, 0, 0, 0)), (14, .iadd, 1, (0, 0, 0, 0)), (15, .ireturn, 1, (0, 0, 0, 0))]
set_option maxRecDepth 100000 in
theorem tk_X10_tickOfBeginning : TOK RX10 false cX10_tickOfBeginning tb_X10_tickOfBeginning := chkT_ok ft_X10 (by decide +kernel)
def mt_X10_tickOfBeginning : List (Nat × Mt) := [(1096, 3, 0, 0, 2, sp_X10_beginning)]
theorem em_X10_tickOfBeginning : mt_X10_tickOfBeginning.lookup 1096 = some (3, 0, 0, 2, sp_X10_beginning) := rfl
theorem mk_X10_tickOfBeginning : MOK RX10 mt_X10_tickOfBeginning := by
  intro q hq
  simp only [mt_X10_tickOfBeginning, List.mem_cons, List.not_mem_nil, or_false] at hq
  rcases hq with rfl
  · exact rw_X10_1096
noncomputable def xe_X10_tickOfBeginning (ct : Nat → Bool) (K : Kt) (R : Option AV → Hp → Prop) (n : Nat) : Kt := exS 3 3 0 0 1 tb_X10_tickOfBeginning mt_X10_tickOfBeginning ct K R n
noncomputable def xk_X10_tickOfBeginning (ct : Nat → Bool) (K : Kt) (R : Option AV → Hp → Prop) (n : Nat) : Kt := exkS 3 3 0 0 1 tb_X10_tickOfBeginning mt_X10_tickOfBeginning ct K R n
theorem xt_X10_tickOfBeginning {ct : Nat → Bool} {K : Kt} {R : Option AV → Hp → Prop} {n pc : Nat} {ls : List (Option AV)} {st : List AV} {σ : Hp} {k : Nat × Nat} (h : ct pc = true) : xk_X10_tickOfBeginning ct K R n pc ls st σ k = K pc ls st σ k := by unfold xk_X10_tickOfBeginning exkS; rw [h]
theorem xf_X10_tickOfBeginning {ct : Nat → Bool} {K : Kt} {R : Option AV → Hp → Prop} {n pc : Nat} {ls : List (Option AV)} {st : List AV} {σ : Hp} {k : Nat × Nat} (h : ct pc = false) : xk_X10_tickOfBeginning ct K R n pc ls st σ k = xe_X10_tickOfBeginning ct K R n pc ls st σ k := by unfold xk_X10_tickOfBeginning exkS xe_X10_tickOfBeginning; rw [h]
theorem ev_X10_tickOfBeginning_0 {ct : Nat → Bool} {K : Kt} {R : Option AV → Hp → Prop} {n : Nat} {ls : List (Option AV)} {st : List AV} {σ : Hp} {k : Nat × Nat} : xe_X10_tickOfBeginning ct K R (n + 1) 0 ls st σ k = (lR ls 0 fun x => xk_X10_tickOfBeginning ct K R n 1 ls (vr x :: st) σ k) := exS_step.trans rfl
theorem ev_X10_tickOfBeginning_1 {ct : Nat → Bool} {K : Kt} {R : Option AV → Hp → Prop} {n : Nat} {ls : List (Option AV)} {st : List AV} {σ : Hp} {k : Nat × Nat} : xe_X10_tickOfBeginning ct K R (n + 1) 1 ls st σ k = (oR st fun x st => kd σ x = 11 ∧ xk_X10_tickOfBeginning ct K R n 4 ls (vi (fI σ 1107 x) :: st) σ k) := exS_step.trans rfl
theorem ev_X10_tickOfBeginning_4 {ct : Nat → Bool} {K : Kt} {R : Option AV → Hp → Prop} {n : Nat} {ls : List (Option AV)} {st : List AV} {σ : Hp} {k : Nat × Nat} : xe_X10_tickOfBeginning ct K R (n + 1) 4 ls st σ k = (lR ls 0 fun x => xk_X10_tickOfBeginning ct K R n 5 ls (vr x :: st) σ k) := exS_step.trans rfl
theorem ev_X10_tickOfBeginning_5 {ct : Nat → Bool} {K : Kt} {R : Option AV → Hp → Prop} {n : Nat} {ls : List (Option AV)} {st : List AV} {σ : Hp} {k : Nat × Nat} : xe_X10_tickOfBeginning ct K R (n + 1) 5 ls st σ k = (lI ls 1 fun x => xk_X10_tickOfBeginning ct K R n 6 ls (vi x :: st) σ k) := exS_step.trans rfl
theorem ev_X10_tickOfBeginning_6 {ct : Nat → Bool} {K : Kt} {R : Option AV → Hp → Prop} {n : Nat} {ls : List (Option AV)} {st : List AV} {σ : Hp} {k : Nat × Nat} : xe_X10_tickOfBeginning ct K R (n + 1) 6 ls st σ k = (lI ls 2 fun x => xk_X10_tickOfBeginning ct K R n 7 ls (vi x :: st) σ k) := exS_step.trans rfl
theorem ev_X10_tickOfBeginning_7 {ct : Nat → Bool} {K : Kt} {R : Option AV → Hp → Prop} {n : Nat} {ls : List (Option AV)} {st : List AV} {σ : Hp} {k : Nat × Nat} : xe_X10_tickOfBeginning ct K R (n + 1) 7 ls st σ k = (popN 3 st [] fun av rest => (catS rest ≤ 8 ∧ 2 < 3 ∧ k.1 + 0 ≤ 0 ∧ k.2 + 0 ≤ 0) ∧ (sp_X10_beginning) av σ fun v σ' => xk_X10_tickOfBeginning ct K R n 10 ls (v.toList ++ rest) σ' (k.1 + 0, k.2 + 0)) := exS_step.trans rfl
theorem ev_X10_tickOfBeginning_10 {ct : Nat → Bool} {K : Kt} {R : Option AV → Hp → Prop} {n : Nat} {ls : List (Option AV)} {st : List AV} {σ : Hp} {k : Nat × Nat} : xe_X10_tickOfBeginning ct K R (n + 1) 10 ls st σ k = (xk_X10_tickOfBeginning ct K R n 13 ls (vi (511) :: st) σ k) := exS_step.trans rfl
theorem ev_X10_tickOfBeginning_13 {ct : Nat → Bool} {K : Kt} {R : Option AV → Hp → Prop} {n : Nat} {ls : List (Option AV)} {st : List AV} {σ : Hp} {k : Nat × Nat} : xe_X10_tickOfBeginning ct K R (n + 1) 13 ls st σ k = (oI st fun y st => oI st fun x st => xk_X10_tickOfBeginning ct K R n 14 ls (vi (bAnd x y) :: st) σ k) := exS_step.trans rfl
theorem ev_X10_tickOfBeginning_14 {ct : Nat → Bool} {K : Kt} {R : Option AV → Hp → Prop} {n : Nat} {ls : List (Option AV)} {st : List AV} {σ : Hp} {k : Nat × Nat} : xe_X10_tickOfBeginning ct K R (n + 1) 14 ls st σ k = (oI st fun y st => oI st fun x st => xk_X10_tickOfBeginning ct K R n 15 ls (vi (x + y) :: st) σ k) := exS_step.trans rfl
theorem ev_X10_tickOfBeginning_15 {ct : Nat → Bool} {K : Kt} {R : Option AV → Hp → Prop} {n : Nat} {ls : List (Option AV)} {st : List AV} {σ : Hp} {k : Nat × Nat} : xe_X10_tickOfBeginning ct K R (n + 1) 15 ls st σ k = (oI st fun x st => st = [] ∧ True ∧ R (some (vi x)) σ) := exS_step.trans rfl
def M_X10_tickOfBeginning : Md := (yX10_tickOfBeginning, cX10_tickOfBeginning, 3, (some FieldType.int), 3, 0, 0, 1, false, tb_X10_tickOfBeginning, mt_X10_tickOfBeginning)
theorem mm_X10_tickOfBeginning : MMOK M_X10_tickOfBeginning := ⟨by decide +kernel, tk_X10_tickOfBeginning, mk_X10_tickOfBeginning, rfl, fun h => by cases h⟩
theorem go_X10_tickOfBeginning {Q : Option AV → Hp → Prop} {ct : Nat → Bool} {pc : Nat} {ls : List (Option AV)} {st : List AV} {σ : Hp} {k : Nat × Nat} (n : Nat) (h : xe_X10_tickOfBeginning ct (Go M_X10_tickOfBeginning Q) Q n pc ls st σ k) : Go M_X10_tickOfBeginning Q pc ls st σ k := Go.exS mm_X10_tickOfBeginning h

set_option maxRecDepth 20000 in
theorem c_X10_tickOfBeginning : Ct yX10_tickOfBeginning cX10_tickOfBeginning 3 ((some FieldType.int)) 3 0 0 sp_X10_tickOfBeginning := by
  refine Ct.go (M := M_X10_tickOfBeginning) mm_X10_tickOfBeginning fun av σ Q h0 => ?_
  obtain ⟨this, i, j, rfl, hk, h⟩ := el_X10_tickOfBeginning h0
  clear h0
  refine ⟨Nat.le_of_ble_eq_true rfl, ?_⟩
  show Go M_X10_tickOfBeginning Q 0 [some (vr this), some (vi i), some (vi j)] [] σ (0, 0)
  obtain ⟨rfl, hC, xs, x, p, hKM, hi, hj, hx, hp, hl, hl3, hm, h⟩ := h
  have hpm := hm p (List.mem_of_getElem? hp)
  have hk13 : 0 ≤ k13 p := by unfold k13; omega
  have e9 : bAnd (k13 p) 511 = p % 300 := by
    rw [bAnd_511 hk13]
    unfold k13
    omega
  have w10 : Go M_X10_tickOfBeginning Q 10 [some (vr 4), some (vi i), some (vi j)] [vi (k13 p), vi (fI σ 1107 4)] σ (0, 0) := by
    clear hKM hx hp hm hl hl3
    refine go_X10_tickOfBeginning (ct := fun p => p == 99) 40 ?_
    simp only [oI, oL, oR, o1, lI, lL, lR, popN, catS, gv, stL, stL2, swt, cnd, spObj, List.getElem?_cons_zero, List.getElem?_cons_succ, List.getD_cons_zero, List.getD_cons_succ, List.set_cons_zero, List.set_cons_succ, List.nil_append, List.cons_append, Option.toList, Bool.or_false, Bool.false_or, Bool.or_true, Bool.true_or, Nat.reduceBEq, Nat.reduceAdd, Nat.reduceLT, Nat.reduceLeDiff, Int.reduceAdd, Int.reduceToNat, true_and, and_true, Fin.isValue, Fin.val_zero, Fin.val_one, Fin.val_two, Fin.reduceFinMk, eq_self, Int.reduceNeg, imp_self, Nat.reduceMul, Nat.le_refl, not_true_eq_false, not_false_eq_true, List.getElem?_nil, reduceCtorEq, true_or, or_true, Classical.not_not, implies_true, or_self, wI_0, wI_1, wI_m1, b2i_w, b2i_eq0, b2i_eq1, b2i_bool, nor_self, nx_pI, kd_pI, ln_pI, fI_pI, fL_pI, fR_pI, aI_pI, aL_pI, aR_pI, nx_pL, kd_pL, ln_pL, fI_pL, fL_pL, fR_pL, aI_pL, aL_pL, aR_pL, nx_pR, kd_pR, ln_pR, fI_pR, fL_pR, fR_pR, aI_pR, aL_pR, aR_pR, nx_qI, kd_qI, ln_qI, fI_qI, fL_qI, fR_qI, aI_qI, aL_qI, aR_qI, nx_qL, kd_qL, ln_qL, fI_qL, fL_qL, fR_qL, aI_qL, aL_qL, aR_qL, nx_qR, kd_qR, ln_qR, fI_qR, fL_qR, fR_qR, aI_qR, aL_qR, aR_qR, nx_mk, kd_mk, ln_mk, fI_mk, fL_mk, fR_mk, aI_mk, aL_mk, aR_mk, false_and, and_false, if_false, if_true, and_self, Int.reduceEq, Nat.reduceEqDiff, ite_self, MLay_pI, MLay_pL, MLay_qI, MLay_qL, ev_X10_tickOfBeginning_10, ev_X10_tickOfBeginning_13, ev_X10_tickOfBeginning_14, ev_X10_tickOfBeginning_15, xt_X10_tickOfBeginning, xf_X10_tickOfBeginning, us_X10_beginning, e9]
    repeat' (first | intro z | apply And.intro)
    all_goals try omega
    all_goals try contradiction
    all_goals exact h
  clear h
  refine go_X10_tickOfBeginning (ct := fun p => p == 10) 40 ?_
  simp only [oI, oL, oR, o1, lI, lL, lR, popN, catS, gv, stL, stL2, swt, cnd, spObj, List.getElem?_cons_zero, List.getElem?_cons_succ, List.getD_cons_zero, List.getD_cons_succ, List.set_cons_zero, List.set_cons_succ, List.nil_append, List.cons_append, Option.toList, Bool.or_false, Bool.false_or, Bool.or_true, Bool.true_or, Nat.reduceBEq, Nat.reduceAdd, Nat.reduceLT, Nat.reduceLeDiff, Int.reduceAdd, Int.reduceToNat, true_and, and_true, Fin.isValue, Fin.val_zero, Fin.val_one, Fin.val_two, Fin.reduceFinMk, eq_self, Int.reduceNeg, imp_self, Nat.reduceMul, Nat.le_refl, not_true_eq_false, not_false_eq_true, List.getElem?_nil, reduceCtorEq, true_or, or_true, Classical.not_not, implies_true, or_self, wI_0, wI_1, wI_m1, b2i_w, b2i_eq0, b2i_eq1, b2i_bool, nor_self, nx_pI, kd_pI, ln_pI, fI_pI, fL_pI, fR_pI, aI_pI, aL_pI, aR_pI, nx_pL, kd_pL, ln_pL, fI_pL, fL_pL, fR_pL, aI_pL, aL_pL, aR_pL, nx_pR, kd_pR, ln_pR, fI_pR, fL_pR, fR_pR, aI_pR, aL_pR, aR_pR, nx_qI, kd_qI, ln_qI, fI_qI, fL_qI, fR_qI, aI_qI, aL_qI, aR_qI, nx_qL, kd_qL, ln_qL, fI_qL, fL_qL, fR_qL, aI_qL, aL_qL, aR_qL, nx_qR, kd_qR, ln_qR, fI_qR, fL_qR, fR_qR, aI_qR, aL_qR, aR_qR, nx_mk, kd_mk, ln_mk, fI_mk, fL_mk, fR_mk, aI_mk, aL_mk, aR_mk, false_and, and_false, if_false, if_true, and_self, Int.reduceEq, Nat.reduceEqDiff, ite_self, MLay_pI, MLay_pL, MLay_qI, MLay_qL, ev_X10_tickOfBeginning_0, ev_X10_tickOfBeginning_1, ev_X10_tickOfBeginning_4, ev_X10_tickOfBeginning_5, ev_X10_tickOfBeginning_6, ev_X10_tickOfBeginning_7, xt_X10_tickOfBeginning, xf_X10_tickOfBeginning, us_X10_beginning, hk, hC]
  repeat' (first | intro z | apply And.intro)
  all_goals try omega
  all_goals try contradiction
  all_goals exact ⟨xs, x, p, hKM, hi, hj, hx, hp, hl, hl3, hm, w10⟩
