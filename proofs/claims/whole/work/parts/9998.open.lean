/-! the class: a reading, its rows of bits -/

theorem fst_bit {x : BitVec 64} (h : ¬ x = 0#64) : ∃ k : Nat, k < 64 ∧ x.getLsbD k = true ∧ ∀ j : Nat, j < k → x.getLsbD j = false := by
  have hex : ∃ u : Int, 0 ≤ u ∧ u < ((64 : Nat) : Int) ∧ x.getLsbD u.toNat = true := by
    apply Classical.byContradiction
    intro z
    apply h
    apply BitVec.eq_of_getLsbD_eq
    intro i hi
    rw [BitVec.getLsbD_zero]
    cases e : x.getLsbD i with
    | false => rfl
    | true => exact absurd ⟨(i : Int), by omega, by omega, by rw [Int.toNat_natCast]; exact e⟩ z
  obtain ⟨f, hf, h1, h2⟩ := fst_ex 64 hex
  refine ⟨f.toNat, by omega, h1, fun j hj => ?_⟩
  have := h2 j (by omega) (by omega)
  rw [Int.toNat_natCast] at this
  exact Bool.eq_false_iff.mpr this
theorem low_and {x : BitVec 64} {k : Nat} (hk : k < 64) (h1 : x.getLsbD k = true) (h2 : ∀ j : Nat, j < k → x.getLsbD j = false) : x &&& -x = 1#64 <<< k := by
  apply BitVec.eq_of_getLsbD_eq
  intro i hi
  rw [BitVec.getLsbD_and, BitVec.getLsbD_neg, one_shl hk hi]
  by_cases c : i = k
  · subst c
    have hno : ¬ ∃ j : Nat, j < i ∧ x.getLsbD j = true := fun ⟨j, a, b⟩ => by rw [h2 j a] at b; cases b
    simp [h1, hi, hno]
  · by_cases c2 : i < k
    · simp [h2 i c2, c]
    · have hex : ∃ j : Nat, j < i ∧ x.getLsbD j = true := ⟨k, by omega, h1⟩
      simp [c, hi, hex]
theorem low_bits : ∀ k : Fin 64, (1#64 <<< k.val) - 1#64 = BitVec.ofNat 64 (2 ^ k.val - 1) := by decide +kernel
/-- row w's bit j tells of 64 w + j -/
def B64 (A : Int → BitVec 64) (P : Int → Prop) : Prop := ∀ w, 0 ≤ w → w < 5 → ∀ j : Nat, j < 64 → ((A w).getLsbD j = true ↔ P (64 * w + j))
theorem B64.at {A : Int → BitVec 64} {P : Int → Prop} (h : B64 A P) {u : Int} (hu : 0 ≤ u ∧ u < 320) : (A (u / 64)).getLsbD (u % 64).toNat = true ↔ P u := by
  have := h (u / 64) (by omega) (by omega) (u % 64).toNat (by omega)
  rw [show 64 * (u / 64) + (((u % 64).toNat : Nat) : Int) = u by omega] at this
  exact this
theorem B64.congr {A : Int → BitVec 64} {P P' : Int → Prop} (h : B64 A P) (e : ∀ u, 0 ≤ u → u < 320 → (P u ↔ P' u)) : B64 A P' := fun w a b j c => (h w a b j c).trans (e _ (by omega) (by omega))
theorem B64.zero {A : Int → BitVec 64} {P : Int → Prop} (h : B64 A P) {w : Int} (hw : 0 ≤ w ∧ w < 5) : A w = 0#64 ↔ ∀ j : Nat, j < 64 → ¬ P (64 * w + j) := by
  constructor
  · intro e j hj q
    have := (h w hw.1 hw.2 j hj).mpr q
    rw [e, BitVec.getLsbD_zero] at this
    cases this
  · intro q
    apply BitVec.eq_of_getLsbD_eq
    intro j hj
    rw [BitVec.getLsbD_zero]
    cases e : (A w).getLsbD j with
    | false => rfl
    | true => exact absurd ((h w hw.1 hw.2 j hj).mp e) (q j hj)
theorem row_at {σ : Hp} (hC : CLay σ) {d : Int} (hd : 0 ≤ d ∧ d < 4) : aR σ 7 d = 8 + d ∧ kd σ (8 + d) = 102 ∧ ln σ (8 + d) = 5 := by
  have : d = 0 ∨ d = 1 ∨ d = 2 ∨ d = 3 := by omega
  rcases this with rfl | rfl | rfl | rfl <;> simp only [hC.eqs, Int.reduceAdd, and_self]

def sp_J13_bitCount_95d88 : Sp := fun av σ Q => oL av fun v av => av = [] ∧ (∃ k : Nat, k < 64 ∧ v = BitVec.ofNat 64 (2 ^ k - 1) ∧ Q (some (vi k)) σ)
theorem us_J13_bitCount_95d88 (v : BitVec 64) (σ : Hp) (Q : Option AV → Hp → Prop) : sp_J13_bitCount_95d88 [vl v] σ Q = ((∃ k : Nat, k < 64 ∧ v = BitVec.ofNat 64 (2 ^ k - 1) ∧ Q (some (vi k)) σ)) := propext ⟨fun h => h.2, fun h => ⟨rfl, h⟩⟩
theorem el_J13_bitCount_95d88 {av : List AV} {σ : Hp} {Q : Option AV → Hp → Prop} (h : sp_J13_bitCount_95d88 av σ Q) : ∃ (v : BitVec 64), av = [vl v] ∧ ((∃ k : Nat, k < 64 ∧ v = BitVec.ofNat 64 (2 ^ k - 1) ∧ Q (some (vi k)) σ)) := by
  obtain ⟨v, a0, rfl, h0⟩ := oL_s h
  obtain ⟨rfl, hz⟩ := h0
  exact ⟨v, rfl, hz⟩

def tb_J13_bitCount_95d88 : Tab := [(0, .lload_n 0, 1, (0, 0, 0, 0)), (1, .lload_n 0, 1, (0, 0, 0, 0)), (2, .iconst 1, 1, (0, 0, 0, 0)), (3, .lushr, 1, (0, 0, 0, 0)), (4, .ldc2_w 314, 3, (1, 0, 0, 6148914691236517205)), (7, .land, 1, (0, 0, 0, 0)), (8, .lsub, 1, (0, 0, 0, 0)), (9, .lstore_n 0, 1, (0, 0, 0, 0)), (10, .lload_n 0, 1, (0, 0, 0, 0)), (11, .ldc2_w 316, 3, (1, 0, 0, 3689348814741910323)), (14, .land, 1, (0, 0, 0, 0)), (15, .lload_n 0, 1, (0, 0, 0, 0)), (16, .iconst 2, 1, (0, 0, 0, 0)), (17, .lushr, 1, (0, 0, 0, 0)), (18, .ldc2_w 316, 3, (1, 0, 0, 3689348814741910323)), (21, .land, 1, (0, 0, 0, 0)), (22, .ladd, 1, (0, 0, 0, 0)), (23, .lstore_n 0, 1, (0, 0, 0, 0)), (24, .lload_n 0, 1, (0, 0, 0, 0)), (25, .lload_n 0, 1, (0, 0, 0, 0)), (26, .iconst 4, 1, (0, 0, 0, 0)), (27, .lushr, 1, (0, 0, 0, 0)), (28, .ladd, 1, (0, 0, 0, 0)), (29, .ldc2_w 318, 3, (1, 0, 0, 1085102592571150095)), (32, .land, 1, (0, 0, 0, 0)), (33, .lstore_n 0, 1, (0, 0, 0, 0)), (34, .lload_n 0, 1, (0, 0, 0, 0)), (35, .lload_n 0, 1, (0, 0, 0, 0)), (36, .bipush 8, 2, (0, 0, 0, 0)), (38, .lushr, 1, (0, 0, 0, 0)), (39, .ladd, 1, (0, 0, 0, 0)), (40, .lstore_n 0, 1, (0, 0, 0, 0)), (41, .lload_n 0, 1, (0, 0, 0, 0)), (42, .lload_n 0, 1, (0, 0, 0, 0)), (43, .bipush 16, 2, (0, 0, 0, 0)), (45, .lushr, 1, (0, 0, 0, 0)), (46, .ladd, 1, (0, 0, 0, 0)), (47, .lstore_n 0, 1, (0, 0, 0, 0)), (48, .lload_n 0, 1, (0, 0, 0, 0)), (49, .lload_n 0, 1, (0, 0, 0, 0)), (50, .bipush 32, 2, (0, 0, 0, 0)), (52, .lushr, 1, (0, 0, 0, 0)), (53, .ladd, 1, (0, 0, 0, 0)), (54, .lstore_n 0, 1, (0, 0, 0, 0)), (55, .lload_n 0, 1, (0, 0, 0, 0)), (56, .l2i, 1, (0, 0, 0, 0)), (57, .bipush 127, 2, (0, 0, 0, 0)), (59, .iand, 1, (0, 0, 0, 0)), (60, .ireturn, 1, (0, 0, 0, 0))]
set_option maxRecDepth 100000 in
theorem tk_J13_bitCount_95d88 : TOK RJ13 false cJ13_bitCount_95d88 tb_J13_bitCount_95d88 := chkT_ok ft_J13 (by decide +kernel)
def mt_J13_bitCount_95d88 : List (Nat × Mt) := []
theorem mk_J13_bitCount_95d88 : MOK RJ13 mt_J13_bitCount_95d88 := fun q hq => by cases hq
noncomputable def xe_J13_bitCount_95d88 (ct : Nat → Bool) (K : Kt) (R : Option AV → Hp → Prop) (n : Nat) : Kt := exS 2 1 0 0 1 tb_J13_bitCount_95d88 mt_J13_bitCount_95d88 ct K R n
noncomputable def xk_J13_bitCount_95d88 (ct : Nat → Bool) (K : Kt) (R : Option AV → Hp → Prop) (n : Nat) : Kt := exkS 2 1 0 0 1 tb_J13_bitCount_95d88 mt_J13_bitCount_95d88 ct K R n
theorem xt_J13_bitCount_95d88 {ct : Nat → Bool} {K : Kt} {R : Option AV → Hp → Prop} {n pc : Nat} {ls : List (Option AV)} {st : List AV} {σ : Hp} {k : Nat × Nat} (h : ct pc = true) : xk_J13_bitCount_95d88 ct K R n pc ls st σ k = K pc ls st σ k := by unfold xk_J13_bitCount_95d88 exkS; rw [h]
theorem xf_J13_bitCount_95d88 {ct : Nat → Bool} {K : Kt} {R : Option AV → Hp → Prop} {n pc : Nat} {ls : List (Option AV)} {st : List AV} {σ : Hp} {k : Nat × Nat} (h : ct pc = false) : xk_J13_bitCount_95d88 ct K R n pc ls st σ k = xe_J13_bitCount_95d88 ct K R n pc ls st σ k := by unfold xk_J13_bitCount_95d88 exkS xe_J13_bitCount_95d88; rw [h]
theorem ev_J13_bitCount_95d88_0 {ct : Nat → Bool} {K : Kt} {R : Option AV → Hp → Prop} {n : Nat} {ls : List (Option AV)} {st : List AV} {σ : Hp} {k : Nat × Nat} : xe_J13_bitCount_95d88 ct K R (n + 1) 0 ls st σ k = (lL ls 0 fun x => xk_J13_bitCount_95d88 ct K R n 1 ls (vl x :: st) σ k) := exS_step.trans rfl
theorem ev_J13_bitCount_95d88_1 {ct : Nat → Bool} {K : Kt} {R : Option AV → Hp → Prop} {n : Nat} {ls : List (Option AV)} {st : List AV} {σ : Hp} {k : Nat × Nat} : xe_J13_bitCount_95d88 ct K R (n + 1) 1 ls st σ k = (lL ls 0 fun x => xk_J13_bitCount_95d88 ct K R n 2 ls (vl x :: st) σ k) := exS_step.trans rfl
theorem ev_J13_bitCount_95d88_2 {ct : Nat → Bool} {K : Kt} {R : Option AV → Hp → Prop} {n : Nat} {ls : List (Option AV)} {st : List AV} {σ : Hp} {k : Nat × Nat} : xe_J13_bitCount_95d88 ct K R (n + 1) 2 ls st σ k = (xk_J13_bitCount_95d88 ct K R n 3 ls (vi (1) :: st) σ k) := exS_step.trans rfl
theorem ev_J13_bitCount_95d88_3 {ct : Nat → Bool} {K : Kt} {R : Option AV → Hp → Prop} {n : Nat} {ls : List (Option AV)} {st : List AV} {σ : Hp} {k : Nat × Nat} : xe_J13_bitCount_95d88 ct K R (n + 1) 3 ls st σ k = (oI st fun y st => oL st fun x st => xk_J13_bitCount_95d88 ct K R n 4 ls (vl (x >>> (y % 64).toNat) :: st) σ k) := exS_step.trans rfl
theorem ev_J13_bitCount_95d88_4 {ct : Nat → Bool} {K : Kt} {R : Option AV → Hp → Prop} {n : Nat} {ls : List (Option AV)} {st : List AV} {σ : Hp} {k : Nat × Nat} : xe_J13_bitCount_95d88 ct K R (n + 1) 4 ls st σ k = (xk_J13_bitCount_95d88 ct K R n 7 ls (vl (BitVec.ofInt 64 (6148914691236517205)) :: st) σ k) := exS_step.trans rfl
theorem ev_J13_bitCount_95d88_7 {ct : Nat → Bool} {K : Kt} {R : Option AV → Hp → Prop} {n : Nat} {ls : List (Option AV)} {st : List AV} {σ : Hp} {k : Nat × Nat} : xe_J13_bitCount_95d88 ct K R (n + 1) 7 ls st σ k = (oL st fun y st => oL st fun x st => xk_J13_bitCount_95d88 ct K R n 8 ls (vl (x &&& y) :: st) σ k) := exS_step.trans rfl
theorem ev_J13_bitCount_95d88_8 {ct : Nat → Bool} {K : Kt} {R : Option AV → Hp → Prop} {n : Nat} {ls : List (Option AV)} {st : List AV} {σ : Hp} {k : Nat × Nat} : xe_J13_bitCount_95d88 ct K R (n + 1) 8 ls st σ k = (oL st fun y st => oL st fun x st => xk_J13_bitCount_95d88 ct K R n 9 ls (vl (x - y) :: st) σ k) := exS_step.trans rfl
theorem ev_J13_bitCount_95d88_9 {ct : Nat → Bool} {K : Kt} {R : Option AV → Hp → Prop} {n : Nat} {ls : List (Option AV)} {st : List AV} {σ : Hp} {k : Nat × Nat} : xe_J13_bitCount_95d88 ct K R (n + 1) 9 ls st σ k = (oL st fun x st => 0 + 1 < 2 ∧ xk_J13_bitCount_95d88 ct K R n 10 (stL2 ls 0 (vl x)) st σ k) := exS_step.trans rfl
theorem ev_J13_bitCount_95d88_10 {ct : Nat → Bool} {K : Kt} {R : Option AV → Hp → Prop} {n : Nat} {ls : List (Option AV)} {st : List AV} {σ : Hp} {k : Nat × Nat} : xe_J13_bitCount_95d88 ct K R (n + 1) 10 ls st σ k = (lL ls 0 fun x => xk_J13_bitCount_95d88 ct K R n 11 ls (vl x :: st) σ k) := exS_step.trans rfl
theorem ev_J13_bitCount_95d88_11 {ct : Nat → Bool} {K : Kt} {R : Option AV → Hp → Prop} {n : Nat} {ls : List (Option AV)} {st : List AV} {σ : Hp} {k : Nat × Nat} : xe_J13_bitCount_95d88 ct K R (n + 1) 11 ls st σ k = (xk_J13_bitCount_95d88 ct K R n 14 ls (vl (BitVec.ofInt 64 (3689348814741910323)) :: st) σ k) := exS_step.trans rfl
theorem ev_J13_bitCount_95d88_14 {ct : Nat → Bool} {K : Kt} {R : Option AV → Hp → Prop} {n : Nat} {ls : List (Option AV)} {st : List AV} {σ : Hp} {k : Nat × Nat} : xe_J13_bitCount_95d88 ct K R (n + 1) 14 ls st σ k = (oL st fun y st => oL st fun x st => xk_J13_bitCount_95d88 ct K R n 15 ls (vl (x &&& y) :: st) σ k) := exS_step.trans rfl
theorem ev_J13_bitCount_95d88_15 {ct : Nat → Bool} {K : Kt} {R : Option AV → Hp → Prop} {n : Nat} {ls : List (Option AV)} {st : List AV} {σ : Hp} {k : Nat × Nat} : xe_J13_bitCount_95d88 ct K R (n + 1) 15 ls st σ k = (lL ls 0 fun x => xk_J13_bitCount_95d88 ct K R n 16 ls (vl x :: st) σ k) := exS_step.trans rfl
theorem ev_J13_bitCount_95d88_16 {ct : Nat → Bool} {K : Kt} {R : Option AV → Hp → Prop} {n : Nat} {ls : List (Option AV)} {st : List AV} {σ : Hp} {k : Nat × Nat} : xe_J13_bitCount_95d88 ct K R (n + 1) 16 ls st σ k = (xk_J13_bitCount_95d88 ct K R n 17 ls (vi (2) :: st) σ k) := exS_step.trans rfl
theorem ev_J13_bitCount_95d88_17 {ct : Nat → Bool} {K : Kt} {R : Option AV → Hp → Prop} {n : Nat} {ls : List (Option AV)} {st : List AV} {σ : Hp} {k : Nat × Nat} : xe_J13_bitCount_95d88 ct K R (n + 1) 17 ls st σ k = (oI st fun y st => oL st fun x st => xk_J13_bitCount_95d88 ct K R n 18 ls (vl (x >>> (y % 64).toNat) :: st) σ k) := exS_step.trans rfl
theorem ev_J13_bitCount_95d88_18 {ct : Nat → Bool} {K : Kt} {R : Option AV → Hp → Prop} {n : Nat} {ls : List (Option AV)} {st : List AV} {σ : Hp} {k : Nat × Nat} : xe_J13_bitCount_95d88 ct K R (n + 1) 18 ls st σ k = (xk_J13_bitCount_95d88 ct K R n 21 ls (vl (BitVec.ofInt 64 (3689348814741910323)) :: st) σ k) := exS_step.trans rfl
theorem ev_J13_bitCount_95d88_21 {ct : Nat → Bool} {K : Kt} {R : Option AV → Hp → Prop} {n : Nat} {ls : List (Option AV)} {st : List AV} {σ : Hp} {k : Nat × Nat} : xe_J13_bitCount_95d88 ct K R (n + 1) 21 ls st σ k = (oL st fun y st => oL st fun x st => xk_J13_bitCount_95d88 ct K R n 22 ls (vl (x &&& y) :: st) σ k) := exS_step.trans rfl
theorem ev_J13_bitCount_95d88_22 {ct : Nat → Bool} {K : Kt} {R : Option AV → Hp → Prop} {n : Nat} {ls : List (Option AV)} {st : List AV} {σ : Hp} {k : Nat × Nat} : xe_J13_bitCount_95d88 ct K R (n + 1) 22 ls st σ k = (oL st fun y st => oL st fun x st => xk_J13_bitCount_95d88 ct K R n 23 ls (vl (x + y) :: st) σ k) := exS_step.trans rfl
theorem ev_J13_bitCount_95d88_23 {ct : Nat → Bool} {K : Kt} {R : Option AV → Hp → Prop} {n : Nat} {ls : List (Option AV)} {st : List AV} {σ : Hp} {k : Nat × Nat} : xe_J13_bitCount_95d88 ct K R (n + 1) 23 ls st σ k = (oL st fun x st => 0 + 1 < 2 ∧ xk_J13_bitCount_95d88 ct K R n 24 (stL2 ls 0 (vl x)) st σ k) := exS_step.trans rfl
theorem ev_J13_bitCount_95d88_24 {ct : Nat → Bool} {K : Kt} {R : Option AV → Hp → Prop} {n : Nat} {ls : List (Option AV)} {st : List AV} {σ : Hp} {k : Nat × Nat} : xe_J13_bitCount_95d88 ct K R (n + 1) 24 ls st σ k = (lL ls 0 fun x => xk_J13_bitCount_95d88 ct K R n 25 ls (vl x :: st) σ k) := exS_step.trans rfl
theorem ev_J13_bitCount_95d88_25 {ct : Nat → Bool} {K : Kt} {R : Option AV → Hp → Prop} {n : Nat} {ls : List (Option AV)} {st : List AV} {σ : Hp} {k : Nat × Nat} : xe_J13_bitCount_95d88 ct K R (n + 1) 25 ls st σ k = (lL ls 0 fun x => xk_J13_bitCount_95d88 ct K R n 26 ls (vl x :: st) σ k) := exS_step.trans rfl
theorem ev_J13_bitCount_95d88_26 {ct : Nat → Bool} {K : Kt} {R : Option AV → Hp → Prop} {n : Nat} {ls : List (Option AV)} {st : List AV} {σ : Hp} {k : Nat × Nat} : xe_J13_bitCount_95d88 ct K R (n + 1) 26 ls st σ k = (xk_J13_bitCount_95d88 ct K R n 27 ls (vi (4) :: st) σ k) := exS_step.trans rfl
theorem ev_J13_bitCount_95d88_27 {ct : Nat → Bool} {K : Kt} {R : Option AV → Hp → Prop} {n : Nat} {ls : List (Option AV)} {st : List AV} {σ : Hp} {k : Nat × Nat} : xe_J13_bitCount_95d88 ct K R (n + 1) 27 ls st σ k = (oI st fun y st => oL st fun x st => xk_J13_bitCount_95d88 ct K R n 28 ls (vl (x >>> (y % 64).toNat) :: st) σ k) := exS_step.trans rfl
theorem ev_J13_bitCount_95d88_28 {ct : Nat → Bool} {K : Kt} {R : Option AV → Hp → Prop} {n : Nat} {ls : List (Option AV)} {st : List AV} {σ : Hp} {k : Nat × Nat} : xe_J13_bitCount_95d88 ct K R (n + 1) 28 ls st σ k = (oL st fun y st => oL st fun x st => xk_J13_bitCount_95d88 ct K R n 29 ls (vl (x + y) :: st) σ k) := exS_step.trans rfl
theorem ev_J13_bitCount_95d88_29 {ct : Nat → Bool} {K : Kt} {R : Option AV → Hp → Prop} {n : Nat} {ls : List (Option AV)} {st : List AV} {σ : Hp} {k : Nat × Nat} : xe_J13_bitCount_95d88 ct K R (n + 1) 29 ls st σ k = (xk_J13_bitCount_95d88 ct K R n 32 ls (vl (BitVec.ofInt 64 (1085102592571150095)) :: st) σ k) := exS_step.trans rfl
theorem ev_J13_bitCount_95d88_32 {ct : Nat → Bool} {K : Kt} {R : Option AV → Hp → Prop} {n : Nat} {ls : List (Option AV)} {st : List AV} {σ : Hp} {k : Nat × Nat} : xe_J13_bitCount_95d88 ct K R (n + 1) 32 ls st σ k = (oL st fun y st => oL st fun x st => xk_J13_bitCount_95d88 ct K R n 33 ls (vl (x &&& y) :: st) σ k) := exS_step.trans rfl
theorem ev_J13_bitCount_95d88_33 {ct : Nat → Bool} {K : Kt} {R : Option AV → Hp → Prop} {n : Nat} {ls : List (Option AV)} {st : List AV} {σ : Hp} {k : Nat × Nat} : xe_J13_bitCount_95d88 ct K R (n + 1) 33 ls st σ k = (oL st fun x st => 0 + 1 < 2 ∧ xk_J13_bitCount_95d88 ct K R n 34 (stL2 ls 0 (vl x)) st σ k) := exS_step.trans rfl
theorem ev_J13_bitCount_95d88_34 {ct : Nat → Bool} {K : Kt} {R : Option AV → Hp → Prop} {n : Nat} {ls : List (Option AV)} {st : List AV} {σ : Hp} {k : Nat × Nat} : xe_J13_bitCount_95d88 ct K R (n + 1) 34 ls st σ k = (lL ls 0 fun x => xk_J13_bitCount_95d88 ct K R n 35 ls (vl x :: st) σ k) := exS_step.trans rfl
theorem ev_J13_bitCount_95d88_35 {ct : Nat → Bool} {K : Kt} {R : Option AV → Hp → Prop} {n : Nat} {ls : List (Option AV)} {st : List AV} {σ : Hp} {k : Nat × Nat} : xe_J13_bitCount_95d88 ct K R (n + 1) 35 ls st σ k = (lL ls 0 fun x => xk_J13_bitCount_95d88 ct K R n 36 ls (vl x :: st) σ k) := exS_step.trans rfl
theorem ev_J13_bitCount_95d88_36 {ct : Nat → Bool} {K : Kt} {R : Option AV → Hp → Prop} {n : Nat} {ls : List (Option AV)} {st : List AV} {σ : Hp} {k : Nat × Nat} : xe_J13_bitCount_95d88 ct K R (n + 1) 36 ls st σ k = (xk_J13_bitCount_95d88 ct K R n 38 ls (vi (8) :: st) σ k) := exS_step.trans rfl
theorem ev_J13_bitCount_95d88_38 {ct : Nat → Bool} {K : Kt} {R : Option AV → Hp → Prop} {n : Nat} {ls : List (Option AV)} {st : List AV} {σ : Hp} {k : Nat × Nat} : xe_J13_bitCount_95d88 ct K R (n + 1) 38 ls st σ k = (oI st fun y st => oL st fun x st => xk_J13_bitCount_95d88 ct K R n 39 ls (vl (x >>> (y % 64).toNat) :: st) σ k) := exS_step.trans rfl
theorem ev_J13_bitCount_95d88_39 {ct : Nat → Bool} {K : Kt} {R : Option AV → Hp → Prop} {n : Nat} {ls : List (Option AV)} {st : List AV} {σ : Hp} {k : Nat × Nat} : xe_J13_bitCount_95d88 ct K R (n + 1) 39 ls st σ k = (oL st fun y st => oL st fun x st => xk_J13_bitCount_95d88 ct K R n 40 ls (vl (x + y) :: st) σ k) := exS_step.trans rfl
theorem ev_J13_bitCount_95d88_40 {ct : Nat → Bool} {K : Kt} {R : Option AV → Hp → Prop} {n : Nat} {ls : List (Option AV)} {st : List AV} {σ : Hp} {k : Nat × Nat} : xe_J13_bitCount_95d88 ct K R (n + 1) 40 ls st σ k = (oL st fun x st => 0 + 1 < 2 ∧ xk_J13_bitCount_95d88 ct K R n 41 (stL2 ls 0 (vl x)) st σ k) := exS_step.trans rfl
theorem ev_J13_bitCount_95d88_41 {ct : Nat → Bool} {K : Kt} {R : Option AV → Hp → Prop} {n : Nat} {ls : List (Option AV)} {st : List AV} {σ : Hp} {k : Nat × Nat} : xe_J13_bitCount_95d88 ct K R (n + 1) 41 ls st σ k = (lL ls 0 fun x => xk_J13_bitCount_95d88 ct K R n 42 ls (vl x :: st) σ k) := exS_step.trans rfl
theorem ev_J13_bitCount_95d88_42 {ct : Nat → Bool} {K : Kt} {R : Option AV → Hp → Prop} {n : Nat} {ls : List (Option AV)} {st : List AV} {σ : Hp} {k : Nat × Nat} : xe_J13_bitCount_95d88 ct K R (n + 1) 42 ls st σ k = (lL ls 0 fun x => xk_J13_bitCount_95d88 ct K R n 43 ls (vl x :: st) σ k) := exS_step.trans rfl
theorem ev_J13_bitCount_95d88_43 {ct : Nat → Bool} {K : Kt} {R : Option AV → Hp → Prop} {n : Nat} {ls : List (Option AV)} {st : List AV} {σ : Hp} {k : Nat × Nat} : xe_J13_bitCount_95d88 ct K R (n + 1) 43 ls st σ k = (xk_J13_bitCount_95d88 ct K R n 45 ls (vi (16) :: st) σ k) := exS_step.trans rfl
theorem ev_J13_bitCount_95d88_45 {ct : Nat → Bool} {K : Kt} {R : Option AV → Hp → Prop} {n : Nat} {ls : List (Option AV)} {st : List AV} {σ : Hp} {k : Nat × Nat} : xe_J13_bitCount_95d88 ct K R (n + 1) 45 ls st σ k = (oI st fun y st => oL st fun x st => xk_J13_bitCount_95d88 ct K R n 46 ls (vl (x >>> (y % 64).toNat) :: st) σ k) := exS_step.trans rfl
theorem ev_J13_bitCount_95d88_46 {ct : Nat → Bool} {K : Kt} {R : Option AV → Hp → Prop} {n : Nat} {ls : List (Option AV)} {st : List AV} {σ : Hp} {k : Nat × Nat} : xe_J13_bitCount_95d88 ct K R (n + 1) 46 ls st σ k = (oL st fun y st => oL st fun x st => xk_J13_bitCount_95d88 ct K R n 47 ls (vl (x + y) :: st) σ k) := exS_step.trans rfl
theorem ev_J13_bitCount_95d88_47 {ct : Nat → Bool} {K : Kt} {R : Option AV → Hp → Prop} {n : Nat} {ls : List (Option AV)} {st : List AV} {σ : Hp} {k : Nat × Nat} : xe_J13_bitCount_95d88 ct K R (n + 1) 47 ls st σ k = (oL st fun x st => 0 + 1 < 2 ∧ xk_J13_bitCount_95d88 ct K R n 48 (stL2 ls 0 (vl x)) st σ k) := exS_step.trans rfl
theorem ev_J13_bitCount_95d88_48 {ct : Nat → Bool} {K : Kt} {R : Option AV → Hp → Prop} {n : Nat} {ls : List (Option AV)} {st : List AV} {σ : Hp} {k : Nat × Nat} : xe_J13_bitCount_95d88 ct K R (n + 1) 48 ls st σ k = (lL ls 0 fun x => xk_J13_bitCount_95d88 ct K R n 49 ls (vl x :: st) σ k) := exS_step.trans rfl
theorem ev_J13_bitCount_95d88_49 {ct : Nat → Bool} {K : Kt} {R : Option AV → Hp → Prop} {n : Nat} {ls : List (Option AV)} {st : List AV} {σ : Hp} {k : Nat × Nat} : xe_J13_bitCount_95d88 ct K R (n + 1) 49 ls st σ k = (lL ls 0 fun x => xk_J13_bitCount_95d88 ct K R n 50 ls (vl x :: st) σ k) := exS_step.trans rfl
theorem ev_J13_bitCount_95d88_50 {ct : Nat → Bool} {K : Kt} {R : Option AV → Hp → Prop} {n : Nat} {ls : List (Option AV)} {st : List AV} {σ : Hp} {k : Nat × Nat} : xe_J13_bitCount_95d88 ct K R (n + 1) 50 ls st σ k = (xk_J13_bitCount_95d88 ct K R n 52 ls (vi (32) :: st) σ k) := exS_step.trans rfl
theorem ev_J13_bitCount_95d88_52 {ct : Nat → Bool} {K : Kt} {R : Option AV → Hp → Prop} {n : Nat} {ls : List (Option AV)} {st : List AV} {σ : Hp} {k : Nat × Nat} : xe_J13_bitCount_95d88 ct K R (n + 1) 52 ls st σ k = (oI st fun y st => oL st fun x st => xk_J13_bitCount_95d88 ct K R n 53 ls (vl (x >>> (y % 64).toNat) :: st) σ k) := exS_step.trans rfl
theorem ev_J13_bitCount_95d88_53 {ct : Nat → Bool} {K : Kt} {R : Option AV → Hp → Prop} {n : Nat} {ls : List (Option AV)} {st : List AV} {σ : Hp} {k : Nat × Nat} : xe_J13_bitCount_95d88 ct K R (n + 1) 53 ls st σ k = (oL st fun y st => oL st fun x st => xk_J13_bitCount_95d88 ct K R n 54 ls (vl (x + y) :: st) σ k) := exS_step.trans rfl
theorem ev_J13_bitCount_95d88_54 {ct : Nat → Bool} {K : Kt} {R : Option AV → Hp → Prop} {n : Nat} {ls : List (Option AV)} {st : List AV} {σ : Hp} {k : Nat × Nat} : xe_J13_bitCount_95d88 ct K R (n + 1) 54 ls st σ k = (oL st fun x st => 0 + 1 < 2 ∧ xk_J13_bitCount_95d88 ct K R n 55 (stL2 ls 0 (vl x)) st σ k) := exS_step.trans rfl
theorem ev_J13_bitCount_95d88_55 {ct : Nat → Bool} {K : Kt} {R : Option AV → Hp → Prop} {n : Nat} {ls : List (Option AV)} {st : List AV} {σ : Hp} {k : Nat × Nat} : xe_J13_bitCount_95d88 ct K R (n + 1) 55 ls st σ k = (lL ls 0 fun x => xk_J13_bitCount_95d88 ct K R n 56 ls (vl x :: st) σ k) := exS_step.trans rfl
theorem ev_J13_bitCount_95d88_56 {ct : Nat → Bool} {K : Kt} {R : Option AV → Hp → Prop} {n : Nat} {ls : List (Option AV)} {st : List AV} {σ : Hp} {k : Nat × Nat} : xe_J13_bitCount_95d88 ct K R (n + 1) 56 ls st σ k = (oL st fun x st => xk_J13_bitCount_95d88 ct K R n 57 ls (vi x.toInt :: st) σ k) := exS_step.trans rfl
theorem ev_J13_bitCount_95d88_57 {ct : Nat → Bool} {K : Kt} {R : Option AV → Hp → Prop} {n : Nat} {ls : List (Option AV)} {st : List AV} {σ : Hp} {k : Nat × Nat} : xe_J13_bitCount_95d88 ct K R (n + 1) 57 ls st σ k = (xk_J13_bitCount_95d88 ct K R n 59 ls (vi (127) :: st) σ k) := exS_step.trans rfl
theorem ev_J13_bitCount_95d88_59 {ct : Nat → Bool} {K : Kt} {R : Option AV → Hp → Prop} {n : Nat} {ls : List (Option AV)} {st : List AV} {σ : Hp} {k : Nat × Nat} : xe_J13_bitCount_95d88 ct K R (n + 1) 59 ls st σ k = (oI st fun y st => oI st fun x st => xk_J13_bitCount_95d88 ct K R n 60 ls (vi (bAnd x y) :: st) σ k) := exS_step.trans rfl
theorem ev_J13_bitCount_95d88_60 {ct : Nat → Bool} {K : Kt} {R : Option AV → Hp → Prop} {n : Nat} {ls : List (Option AV)} {st : List AV} {σ : Hp} {k : Nat × Nat} : xe_J13_bitCount_95d88 ct K R (n + 1) 60 ls st σ k = (oI st fun x st => st = [] ∧ True ∧ R (some (vi x)) σ) := exS_step.trans rfl
def M_J13_bitCount_95d88 : Md := (yJ13_bitCount_95d88, cJ13_bitCount_95d88, 2, (some FieldType.int), 1, 0, 0, 1, false, tb_J13_bitCount_95d88, mt_J13_bitCount_95d88)
theorem mm_J13_bitCount_95d88 : MMOK M_J13_bitCount_95d88 := ⟨by decide +kernel, tk_J13_bitCount_95d88, mk_J13_bitCount_95d88, rfl, fun h => by cases h⟩
theorem go_J13_bitCount_95d88 {Q : Option AV → Hp → Prop} {ct : Nat → Bool} {pc : Nat} {ls : List (Option AV)} {st : List AV} {σ : Hp} {k : Nat × Nat} (n : Nat) (h : xe_J13_bitCount_95d88 ct (Go M_J13_bitCount_95d88 Q) Q n pc ls st σ k) : Go M_J13_bitCount_95d88 Q pc ls st σ k := Go.exS mm_J13_bitCount_95d88 h

def pcF (v : BitVec 64) : Int :=
  let a := v - (v >>> 1 &&& BitVec.ofInt 64 6148914691236517205)
  let b := (a &&& BitVec.ofInt 64 3689348814741910323) + (a >>> 2 &&& BitVec.ofInt 64 3689348814741910323)
  let c := (b + b >>> 4) &&& BitVec.ofInt 64 1085102592571150095
  let d := c + c >>> 8
  let e := d + d >>> 16
  let f := e + e >>> 32
  bAnd f.toInt 127
theorem pcF_ok : ∀ k : Fin 64, pcF (BitVec.ofNat 64 (2 ^ k.val - 1)) = (k.val : Int) := by decide +kernel

set_option maxRecDepth 20000 in
theorem c_J13_bitCount_95d88 : Ct yJ13_bitCount_95d88 cJ13_bitCount_95d88 2 ((some FieldType.int)) 1 0 0 sp_J13_bitCount_95d88 := by
  refine Ct.go (M := M_J13_bitCount_95d88) mm_J13_bitCount_95d88 fun av σ Q h0 => ?_
  obtain ⟨v, rfl, h⟩ := el_J13_bitCount_95d88 h0
  clear h0
  refine ⟨Nat.le_of_ble_eq_true rfl, ?_⟩
  show Go M_J13_bitCount_95d88 Q 0 [some (vl v), none] [] σ (0, 0)
  obtain ⟨k, hk, rfl, h⟩ := h
  have e := pcF_ok ⟨k, hk⟩
  dsimp only at e
  rw [← e] at h
  unfold pcF at h
  generalize BitVec.ofNat 64 (2 ^ k - 1) = v at *
  refine go_J13_bitCount_95d88 (ct := fun p => p == 99) 80 ?_
  simp only [oI, oL, oR, o1, lI, lL, lR, popN, catS, gv, stL, stL2, swt, cnd, spObj, List.getElem?_cons_zero, List.getElem?_cons_succ, List.getD_cons_zero, List.getD_cons_succ, List.set_cons_zero, List.set_cons_succ, List.nil_append, List.cons_append, Option.toList, Bool.or_false, Bool.false_or, Bool.or_true, Bool.true_or, Nat.reduceBEq, Nat.reduceAdd, Nat.reduceLT, Nat.reduceLeDiff, Int.reduceAdd, Int.reduceToNat, true_and, and_true, Fin.isValue, Fin.val_zero, Fin.val_one, Fin.val_two, Fin.reduceFinMk, eq_self, Int.reduceNeg, imp_self, Nat.reduceMul, Nat.le_refl, not_true_eq_false, not_false_eq_true, List.getElem?_nil, reduceCtorEq, true_or, or_true, Classical.not_not, implies_true, or_self, wI_0, wI_1, wI_m1, b2i_w, b2i_eq0, b2i_eq1, b2i_bool, nor_self, nx_pI, kd_pI, ln_pI, fI_pI, fL_pI, fR_pI, aI_pI, aL_pI, aR_pI, nx_pL, kd_pL, ln_pL, fI_pL, fL_pL, fR_pL, aI_pL, aL_pL, aR_pL, nx_pR, kd_pR, ln_pR, fI_pR, fL_pR, fR_pR, aI_pR, aL_pR, aR_pR, nx_qI, kd_qI, ln_qI, fI_qI, fL_qI, fR_qI, aI_qI, aL_qI, aR_qI, nx_qL, kd_qL, ln_qL, fI_qL, fL_qL, fR_qL, aI_qL, aL_qL, aR_qL, nx_qR, kd_qR, ln_qR, fI_qR, fL_qR, fR_qR, aI_qR, aL_qR, aR_qR, nx_mk, kd_mk, ln_mk, fI_mk, fL_mk, fR_mk, aI_mk, aL_mk, aR_mk, false_and, and_false, if_false, if_true, and_self, Int.reduceEq, Nat.reduceEqDiff, ite_self, MLay_pI, MLay_pL, MLay_qI, MLay_qL, ev_J13_bitCount_95d88_0, ev_J13_bitCount_95d88_1, ev_J13_bitCount_95d88_2, ev_J13_bitCount_95d88_3, ev_J13_bitCount_95d88_4, ev_J13_bitCount_95d88_7, ev_J13_bitCount_95d88_8, ev_J13_bitCount_95d88_9, ev_J13_bitCount_95d88_10, ev_J13_bitCount_95d88_11, ev_J13_bitCount_95d88_14, ev_J13_bitCount_95d88_15, ev_J13_bitCount_95d88_16, ev_J13_bitCount_95d88_17, ev_J13_bitCount_95d88_18, ev_J13_bitCount_95d88_21, ev_J13_bitCount_95d88_22, ev_J13_bitCount_95d88_23, ev_J13_bitCount_95d88_24, ev_J13_bitCount_95d88_25, ev_J13_bitCount_95d88_26, ev_J13_bitCount_95d88_27, ev_J13_bitCount_95d88_28, ev_J13_bitCount_95d88_29, ev_J13_bitCount_95d88_32, ev_J13_bitCount_95d88_33, ev_J13_bitCount_95d88_34, ev_J13_bitCount_95d88_35, ev_J13_bitCount_95d88_36, ev_J13_bitCount_95d88_38, ev_J13_bitCount_95d88_39, ev_J13_bitCount_95d88_40, ev_J13_bitCount_95d88_41, ev_J13_bitCount_95d88_42, ev_J13_bitCount_95d88_43, ev_J13_bitCount_95d88_45, ev_J13_bitCount_95d88_46, ev_J13_bitCount_95d88_47, ev_J13_bitCount_95d88_48, ev_J13_bitCount_95d88_49, ev_J13_bitCount_95d88_50, ev_J13_bitCount_95d88_52, ev_J13_bitCount_95d88_53, ev_J13_bitCount_95d88_54, ev_J13_bitCount_95d88_55, ev_J13_bitCount_95d88_56, ev_J13_bitCount_95d88_57, ev_J13_bitCount_95d88_59, ev_J13_bitCount_95d88_60, xt_J13_bitCount_95d88, xf_J13_bitCount_95d88]
  exact h
