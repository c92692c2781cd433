/-! the class: a reading: a key is kept -/

/-- the keys as they lie -/
def KM (σ : Hp) (ks : List Int) : Prop := fI σ 1109 4 = ks.length ∧ ks.length ≤ 200 ∧ ∀ (i : Nat) (k : Int), ks[i]? = some k → (0 ≤ k ∧ k < 549755813888) ∧ aL σ 14 i = BitVec.ofInt 64 k
theorem toInt_k {a : Int} (ha : 0 ≤ a ∧ a < 549755813888) : (BitVec.ofInt 64 a).toInt = a := by
  rw [BitVec.toInt_ofInt]
  show Int.bmod a 18446744073709551616 = a
  rw [Int.bmod_def]
  split <;> omega
theorem cmL_k {a b : Int} (ha : 0 ≤ a ∧ a < 549755813888) (hb : 0 ≤ b ∧ b < 549755813888) : wI (cmL (BitVec.ofInt 64 a) (BitVec.ofInt 64 b)) = if b < a then 1 else if a = b then 0 else -1 := by
  have e1 : (BitVec.ofInt 64 b).slt (BitVec.ofInt 64 a) = true ↔ b < a := by
    rw [BitVec.slt_iff_toInt_lt, toInt_k ha, toInt_k hb]
  have e2 : BitVec.ofInt 64 a = BitVec.ofInt 64 b ↔ a = b := ⟨fun h => by rw [← toInt_k ha, ← toInt_k hb, h], fun h => by rw [h]⟩
  unfold cmL
  simp only [e1, e2]
  split
  · rfl
  · split <;> rfl
theorem srt_get {ks : List Int} (h : ks.Pairwise (fun x y => x < y)) {i j : Nat} {a b : Int} (ha : ks[i]? = some a) (hb : ks[j]? = some b) (hij : i < j) : a < b := by
  obtain ⟨h1, e1⟩ := List.getElem?_eq_some_iff.mp ha
  obtain ⟨h2, e2⟩ := List.getElem?_eq_some_iff.mp hb
  have := List.pairwise_iff_getElem.mp h i j h1 h2 hij
  rw [e1, e2] at this
  exact this

def sp_X10_keepKey : Sp := fun av σ Q => oR av fun this av => oL av fun v av => av = [] ∧ kd σ this = 11 ∧ (this = 4 ∧ CLay σ ∧ ∃ (ks : List Int) (S : Int → Prop) (k : Int), KM σ ks ∧ SgK S ks ∧ (0 ≤ k ∧ k < 549755813888) ∧ v = BitVec.ofInt 64 k ∧ (∀ σ' ks', Fz [1109] noR (fun r => r = 14) σ σ' → KM σ' ks' → SgK (fun j => S j ∨ j = k) ks' → Q none σ'))
theorem us_X10_keepKey (this : Int) (v : BitVec 64) (σ : Hp) (Q : Option AV → Hp → Prop) : sp_X10_keepKey [vr this, vl v] σ Q = (kd σ this = 11 ∧ (this = 4 ∧ CLay σ ∧ ∃ (ks : List Int) (S : Int → Prop) (k : Int), KM σ ks ∧ SgK S ks ∧ (0 ≤ k ∧ k < 549755813888) ∧ v = BitVec.ofInt 64 k ∧ (∀ σ' ks', Fz [1109] noR (fun r => r = 14) σ σ' → KM σ' ks' → SgK (fun j => S j ∨ j = k) ks' → Q none σ'))) := propext ⟨fun h => h.2, fun h => ⟨rfl, h⟩⟩
theorem el_X10_keepKey {av : List AV} {σ : Hp} {Q : Option AV → Hp → Prop} (h : sp_X10_keepKey av σ Q) : ∃ (this : Int) (v : BitVec 64), av = [vr this, vl v] ∧ (kd σ this = 11 ∧ (this = 4 ∧ CLay σ ∧ ∃ (ks : List Int) (S : Int → Prop) (k : Int), KM σ ks ∧ SgK S ks ∧ (0 ≤ k ∧ k < 549755813888) ∧ v = BitVec.ofInt 64 k ∧ (∀ σ' ks', Fz [1109] noR (fun r => r = 14) σ σ' → KM σ' ks' → SgK (fun j => S j ∨ j = k) ks' → Q none σ'))) := by
  obtain ⟨this, a0, rfl, h0⟩ := oR_s h
  obtain ⟨v, a1, rfl, h1⟩ := oL_s h0
  obtain ⟨rfl, hz⟩ := h1
  exact ⟨this, v, rfl, hz⟩
theorem rc_X10_keepKey : ∀ (av : List AV) (σ : Hp) (Q : Option AV → Hp → Prop), sp_X10_keepKey av σ Q → ∃ r tl, av = vr r :: tl ∧ kd σ r = 10 + 1 := fun av σ Q h => by
  obtain ⟨this, v, rfl, hz, -⟩ := el_X10_keepKey h
  exact ⟨this, _, rfl, hz⟩

def tb_X10_keepKey : Tab := [(0, .aload_n 0, 1, (0, 0, 0, 0)), (1, .getfield 47, 3, (11, 1109, 0, 0)), (4, .istore_n 3, 1, (0, 0, 0, 0)), (5, .iload_n 3, 1, (0, 0, 0, 0)), (6, .ifCond .le 31, 3, (0, 0, 0, 0)), (9, .iload_n 3, 1, (0, 0, 0, 0)), (10, .aload_n 0, 1, (0, 0, 0, 0)), (11, .getfield 30, 3, (11, 1105, 2, 0)), (14, .arraylength, 1, (0, 0, 0, 0)), (15, .if_icmp .gt 22, 3, (0, 0, 0, 0)), (18, .aload_n 0, 1, (0, 0, 0, 0)), (19, .getfield 30, 3, (11, 1105, 2, 0)), (22, .iload_n 3, 1, (0, 0, 0, 0)), (23, .iconst 1, 1, (0, 0, 0, 0)), (24, .isub, 1, (0, 0, 0, 0)), (25, .laload, 1, (0, 0, 0, 0)), (26, .lload_n 1, 1, (0, 0, 0, 0)), (27, .lcmp, 1, (0, 0, 0, 0)), (28, .ifCond .le 9, 3, (0, 0, 0, 0)), (31, .iinc 3 (-1), 3, (0, 0, 0, 0)), (34, .goto (-29), 3, (0, 0, 0, 0)), (37, .iload_n 3, 1, (0, 0, 0, 0)), (38, .ifCond .le 29, 3, (0, 0, 0, 0)), (41, .iload_n 3, 1, (0, 0, 0, 0)), (42, .aload_n 0, 1, (0, 0, 0, 0)), (43, .getfield 30, 3, (11, 1105, 2, 0)), (46, .arraylength, 1, (0, 0, 0, 0)), (47, .if_icmp .gt 20, 3, (0, 0, 0, 0)), (50, .aload_n 0, 1, (0, 0, 0, 0)), (51, .getfield 30, 3, (11, 1105, 2, 0)), (54, .iload_n 3, 1, (0, 0, 0, 0)), (55, .iconst 1, 1, (0, 0, 0, 0)), (56, .isub, 1, (0, 0, 0, 0)), (57, .laload, 1, (0, 0, 0, 0)), (58, .lload_n 1, 1, (0, 0, 0, 0)), (59, .lcmp, 1, (0, 0, 0, 0)), (60, .ifCond .ne 7, 3, (0, 0, 0, 0)), (63, .iconst 1, 1, (0, 0, 0, 0)), (64, .goto 4, 3, (0, 0, 0, 0)), (67, .iconst 0, 1, (0, 0, 0, 0)), (68, .istore 4, 2, (0, 0, 0, 0)), (70, .iload 4, 2, (0, 0, 0, 0)), (72, .ifCond .ne 16, 3, (0, 0, 0, 0)), (75, .iload_n 3, 1, (0, 0, 0, 0)), (76, .ifCond .lt 12, 3, (0, 0, 0, 0)), (79, .iload_n 3, 1, (0, 0, 0, 0)), (80, .aload_n 0, 1, (0, 0, 0, 0)), (81, .getfield 30, 3, (11, 1105, 2, 0)), (84, .arraylength, 1, (0, 0, 0, 0)), (85, .if_icmp .lt 4, 3, (0, 0, 0, 0)), (88, .return_, 1, (0, 0, 0, 0)), (89, .aload_n 0, 1, (0, 0, 0, 0)), (90, .getfield 47, 3, (11, 1109, 0, 0)), (93, .aload_n 0, 1, (0, 0, 0, 0)), (94, .getfield 30, 3, (11, 1105, 2, 0)), (97, .arraylength, 1, (0, 0, 0, 0)), (98, .if_icmp .ge 10, 3, (0, 0, 0, 0)), (101, .aload_n 0, 1, (0, 0, 0, 0)), (102, .getfield 47, 3, (11, 1109, 0, 0)), (105, .goto 10, 3, (0, 0, 0, 0)), (108, .aload_n 0, 1, (0, 0, 0, 0)), (109, .getfield 30, 3, (11, 1105, 2, 0)), (112, .arraylength, 1, (0, 0, 0, 0)), (113, .iconst 1, 1, (0, 0, 0, 0)), (114, .isub, 1, (0, 0, 0, 0)), (115, .istore 5, 2, (0, 0, 0, 0)), (117, .iload 5, 2, (0, 0, 0, 0)), (119, .iload_n 3, 1, (0, 0, 0, 0)), (120, .if_icmp .le 25, 3, (0, 0, 0, 0)), (123, .aload_n 0, 1, (0, 0, 0, 0)), (124, .getfield 30, 3, (11, 1105, 2, 0)), (127, .iload 5, 2, (0, 0, 0, 0)), (129, .aload_n 0, 1, (0, 0, 0, 0)), (130, .getfield 30, 3, (11, 1105, 2, 0)), (133, .iload 5, 2, (0, 0, 0, 0)), (135, .iconst 1, 1, (0, 0, 0, 0)), (136, .isub, 1, (0, 0, 0, 0)), (137, .laload, 1, (0, 0, 0, 0)), (138, .lastore, 1, (0, 0, 0, 0)), (139, .iinc 5 (-1), 3, (0, 0, 0, 0)), (142, .goto (-25), 3, (0, 0, 0, 0)), (145, .aload_n 0, 1, (0, 0, 0, 0)), (146, .getfield 30, 3, (11, 1105, 2, 0)), (149, .iload_n 3, 1, (0, 0, 0, 0)), (150, .lload_n 1, 1, (0, 0, 0, 0)), (151, .lastore, 1, (0, 0, 0, 0)), (152, .aload_n 0, 1, (0, 0, 0, 0)), (153, .aload_n 0, 1, (0, 0, 0, 0)), (154, .getfield 47, 3, (11, 1109, 0, 0)), (157, .aload_n 0, 1, (0, 0, 0, 0)), (158, .getfield 30, 3, (11, 1105, 2, 0)), (161, .arraylength, 1, (0, 0, 0, 0)), (162, .if_icmp .ge 12, 3, (0, 0, 0, 0)), (165, .aload_n 0, 1, (0, 0, 0, 0)), (166, .getfield 47, 3, (11, 1109, 0, 0)), (169, .iconst 1, 1, (0, 0, 0, 0)), (170, .iadd, 1, (0, 0, 0, 0)), (171, .goto 7, 3, (0, 0, 0, 0)), (174, .aload_n 0, 1, (0, 0, 0, 0)), (175, .getfield 47, 3, (11, 1109, 0, 0)), (178, .putfield 47, 3, (11, 1109, 0, 0)), (181, .return_, 1, (0, 0, 0, 0))]
set_option maxRecDepth 100000 in
theorem tk_X10_keepKey : TOK RX10 false cX10_keepKey tb_X10_keepKey := chkT_ok ft_X10 (by decide +kernel)
def mt_X10_keepKey : List (Nat × Mt) := []
theorem mk_X10_keepKey : MOK RX10 mt_X10_keepKey := fun q hq => by cases hq
noncomputable def xe_X10_keepKey (ct : Nat → Bool) (K : Kt) (R : Option AV → Hp → Prop) (n : Nat) : Kt := exS 6 1 0 0 0 tb_X10_keepKey mt_X10_keepKey ct K R n
noncomputable def xk_X10_keepKey (ct : Nat → Bool) (K : Kt) (R : Option AV → Hp → Prop) (n : Nat) : Kt := exkS 6 1 0 0 0 tb_X10_keepKey mt_X10_keepKey ct K R n
theorem xt_X10_keepKey {ct : Nat → Bool} {K : Kt} {R : Option AV → Hp → Prop} {n pc : Nat} {ls : List (Option AV)} {st : List AV} {σ : Hp} {k : Nat × Nat} (h : ct pc = true) : xk_X10_keepKey ct K R n pc ls st σ k = K pc ls st σ k := by unfold xk_X10_keepKey exkS; rw [h]
theorem xf_X10_keepKey {ct : Nat → Bool} {K : Kt} {R : Option AV → Hp → Prop} {n pc : Nat} {ls : List (Option AV)} {st : List AV} {σ : Hp} {k : Nat × Nat} (h : ct pc = false) : xk_X10_keepKey ct K R n pc ls st σ k = xe_X10_keepKey ct K R n pc ls st σ k := by unfold xk_X10_keepKey exkS xe_X10_keepKey; rw [h]
theorem ev_X10_keepKey_0 {ct : Nat → Bool} {K : Kt} {R : Option AV → Hp → Prop} {n : Nat} {ls : List (Option AV)} {st : List AV} {σ : Hp} {k : Nat × Nat} : xe_X10_keepKey ct K R (n + 1) 0 ls st σ k = (lR ls 0 fun x => xk_X10_keepKey ct K R n 1 ls (vr x :: st) σ k) := exS_step.trans rfl
theorem ev_X10_keepKey_1 {ct : Nat → Bool} {K : Kt} {R : Option AV → Hp → Prop} {n : Nat} {ls : List (Option AV)} {st : List AV} {σ : Hp} {k : Nat × Nat} : xe_X10_keepKey ct K R (n + 1) 1 ls st σ k = (oR st fun x st => kd σ x = 11 ∧ xk_X10_keepKey ct K R n 4 ls (vi (fI σ 1109 x) :: st) σ k) := exS_step.trans rfl
theorem ev_X10_keepKey_4 {ct : Nat → Bool} {K : Kt} {R : Option AV → Hp → Prop} {n : Nat} {ls : List (Option AV)} {st : List AV} {σ : Hp} {k : Nat × Nat} : xe_X10_keepKey ct K R (n + 1) 4 ls st σ k = (oI st fun x st => 3 < 6 ∧ xk_X10_keepKey ct K R n 5 (stL ls 3 (vi x)) st σ k) := exS_step.trans rfl
theorem ev_X10_keepKey_5 {ct : Nat → Bool} {K : Kt} {R : Option AV → Hp → Prop} {n : Nat} {ls : List (Option AV)} {st : List AV} {σ : Hp} {k : Nat × Nat} : xe_X10_keepKey ct K R (n + 1) 5 ls st σ k = (lI ls 3 fun x => xk_X10_keepKey ct K R n 6 ls (vi x :: st) σ k) := exS_step.trans rfl
theorem ev_X10_keepKey_6 {ct : Nat → Bool} {K : Kt} {R : Option AV → Hp → Prop} {n : Nat} {ls : List (Option AV)} {st : List AV} {σ : Hp} {k : Nat × Nat} : xe_X10_keepKey ct K R (n + 1) 6 ls st σ k = (oI st fun x st => (wI x ≤ wI 0 → xk_X10_keepKey ct K R n 37 ls st σ k) ∧ (¬ (wI x ≤ wI 0) → xk_X10_keepKey ct K R n 9 ls st σ k)) := exS_step.trans rfl
theorem ev_X10_keepKey_9 {ct : Nat → Bool} {K : Kt} {R : Option AV → Hp → Prop} {n : Nat} {ls : List (Option AV)} {st : List AV} {σ : Hp} {k : Nat × Nat} : xe_X10_keepKey ct K R (n + 1) 9 ls st σ k = (lI ls 3 fun x => xk_X10_keepKey ct K R n 10 ls (vi x :: st) σ k) := exS_step.trans rfl
theorem ev_X10_keepKey_10 {ct : Nat → Bool} {K : Kt} {R : Option AV → Hp → Prop} {n : Nat} {ls : List (Option AV)} {st : List AV} {σ : Hp} {k : Nat × Nat} : xe_X10_keepKey ct K R (n + 1) 10 ls st σ k = (lR ls 0 fun x => xk_X10_keepKey ct K R n 11 ls (vr x :: st) σ k) := exS_step.trans rfl
theorem ev_X10_keepKey_11 {ct : Nat → Bool} {K : Kt} {R : Option AV → Hp → Prop} {n : Nat} {ls : List (Option AV)} {st : List AV} {σ : Hp} {k : Nat × Nat} : xe_X10_keepKey ct K R (n + 1) 11 ls st σ k = (oR st fun x st => kd σ x = 11 ∧ xk_X10_keepKey ct K R n 14 ls (vr (fR σ 1105 x) :: st) σ k) := exS_step.trans rfl
theorem ev_X10_keepKey_14 {ct : Nat → Bool} {K : Kt} {R : Option AV → Hp → Prop} {n : Nat} {ls : List (Option AV)} {st : List AV} {σ : Hp} {k : Nat × Nat} : xe_X10_keepKey ct K R (n + 1) 14 ls st σ k = (oR st fun x st => (101 ≤ kd σ x ∨ kd σ x = 21) ∧ xk_X10_keepKey ct K R n 15 ls (vi (ln σ x) :: st) σ k) := exS_step.trans rfl
theorem ev_X10_keepKey_15 {ct : Nat → Bool} {K : Kt} {R : Option AV → Hp → Prop} {n : Nat} {ls : List (Option AV)} {st : List AV} {σ : Hp} {k : Nat × Nat} : xe_X10_keepKey ct K R (n + 1) 15 ls st σ k = (oI st fun y st => oI st fun x st => (wI y < wI x → xk_X10_keepKey ct K R n 37 ls st σ k) ∧ (¬ (wI y < wI x) → xk_X10_keepKey ct K R n 18 ls st σ k)) := exS_step.trans rfl
theorem ev_X10_keepKey_18 {ct : Nat → Bool} {K : Kt} {R : Option AV → Hp → Prop} {n : Nat} {ls : List (Option AV)} {st : List AV} {σ : Hp} {k : Nat × Nat} : xe_X10_keepKey ct K R (n + 1) 18 ls st σ k = (lR ls 0 fun x => xk_X10_keepKey ct K R n 19 ls (vr x :: st) σ k) := exS_step.trans rfl
theorem ev_X10_keepKey_19 {ct : Nat → Bool} {K : Kt} {R : Option AV → Hp → Prop} {n : Nat} {ls : List (Option AV)} {st : List AV} {σ : Hp} {k : Nat × Nat} : xe_X10_keepKey ct K R (n + 1) 19 ls st σ k = (oR st fun x st => kd σ x = 11 ∧ xk_X10_keepKey ct K R n 22 ls (vr (fR σ 1105 x) :: st) σ k) := exS_step.trans rfl
theorem ev_X10_keepKey_22 {ct : Nat → Bool} {K : Kt} {R : Option AV → Hp → Prop} {n : Nat} {ls : List (Option AV)} {st : List AV} {σ : Hp} {k : Nat × Nat} : xe_X10_keepKey ct K R (n + 1) 22 ls st σ k = (lI ls 3 fun x => xk_X10_keepKey ct K R n 23 ls (vi x :: st) σ k) := exS_step.trans rfl
theorem ev_X10_keepKey_23 {ct : Nat → Bool} {K : Kt} {R : Option AV → Hp → Prop} {n : Nat} {ls : List (Option AV)} {st : List AV} {σ : Hp} {k : Nat × Nat} : xe_X10_keepKey ct K R (n + 1) 23 ls st σ k = (xk_X10_keepKey ct K R n 24 ls (vi (1) :: st) σ k) := exS_step.trans rfl
theorem ev_X10_keepKey_24 {ct : Nat → Bool} {K : Kt} {R : Option AV → Hp → Prop} {n : Nat} {ls : List (Option AV)} {st : List AV} {σ : Hp} {k : Nat × Nat} : xe_X10_keepKey ct K R (n + 1) 24 ls st σ k = (oI st fun y st => oI st fun x st => xk_X10_keepKey ct K R n 25 ls (vi (x - y) :: st) σ k) := exS_step.trans rfl
theorem ev_X10_keepKey_25 {ct : Nat → Bool} {K : Kt} {R : Option AV → Hp → Prop} {n : Nat} {ls : List (Option AV)} {st : List AV} {σ : Hp} {k : Nat × Nat} : xe_X10_keepKey ct K R (n + 1) 25 ls st σ k = (oI st fun j st => oR st fun x st => kd σ x = 102 ∧ (0 ≤ j ∧ j < ln σ x) ∧ xk_X10_keepKey ct K R n 26 ls (vl (aL σ x j) :: st) σ k) := exS_step.trans rfl
theorem ev_X10_keepKey_26 {ct : Nat → Bool} {K : Kt} {R : Option AV → Hp → Prop} {n : Nat} {ls : List (Option AV)} {st : List AV} {σ : Hp} {k : Nat × Nat} : xe_X10_keepKey ct K R (n + 1) 26 ls st σ k = (lL ls 1 fun x => xk_X10_keepKey ct K R n 27 ls (vl x :: st) σ k) := exS_step.trans rfl
theorem ev_X10_keepKey_27 {ct : Nat → Bool} {K : Kt} {R : Option AV → Hp → Prop} {n : Nat} {ls : List (Option AV)} {st : List AV} {σ : Hp} {k : Nat × Nat} : xe_X10_keepKey ct K R (n + 1) 27 ls st σ k = (oL st fun y st => oL st fun x st => xk_X10_keepKey ct K R n 28 ls (vi (cmL x y) :: st) σ k) := exS_step.trans rfl
theorem ev_X10_keepKey_28 {ct : Nat → Bool} {K : Kt} {R : Option AV → Hp → Prop} {n : Nat} {ls : List (Option AV)} {st : List AV} {σ : Hp} {k : Nat × Nat} : xe_X10_keepKey ct K R (n + 1) 28 ls st σ k = (oI st fun x st => (wI x ≤ wI 0 → xk_X10_keepKey ct K R n 37 ls st σ k) ∧ (¬ (wI x ≤ wI 0) → xk_X10_keepKey ct K R n 31 ls st σ k)) := exS_step.trans rfl
theorem ev_X10_keepKey_31 {ct : Nat → Bool} {K : Kt} {R : Option AV → Hp → Prop} {n : Nat} {ls : List (Option AV)} {st : List AV} {σ : Hp} {k : Nat × Nat} : xe_X10_keepKey ct K R (n + 1) 31 ls st σ k = (lI ls 3 fun x => 3 < 6 ∧ xk_X10_keepKey ct K R n 34 (stL ls 3 (vi (x + (-1)))) st σ k) := exS_step.trans rfl
theorem ev_X10_keepKey_34 {ct : Nat → Bool} {K : Kt} {R : Option AV → Hp → Prop} {n : Nat} {ls : List (Option AV)} {st : List AV} {σ : Hp} {k : Nat × Nat} : xe_X10_keepKey ct K R (n + 1) 34 ls st σ k = (xk_X10_keepKey ct K R n 5 ls st σ k) := exS_step.trans rfl
theorem ev_X10_keepKey_37 {ct : Nat → Bool} {K : Kt} {R : Option AV → Hp → Prop} {n : Nat} {ls : List (Option AV)} {st : List AV} {σ : Hp} {k : Nat × Nat} : xe_X10_keepKey ct K R (n + 1) 37 ls st σ k = (lI ls 3 fun x => xk_X10_keepKey ct K R n 38 ls (vi x :: st) σ k) := exS_step.trans rfl
theorem ev_X10_keepKey_38 {ct : Nat → Bool} {K : Kt} {R : Option AV → Hp → Prop} {n : Nat} {ls : List (Option AV)} {st : List AV} {σ : Hp} {k : Nat × Nat} : xe_X10_keepKey ct K R (n + 1) 38 ls st σ k = (oI st fun x st => (wI x ≤ wI 0 → xk_X10_keepKey ct K R n 67 ls st σ k) ∧ (¬ (wI x ≤ wI 0) → xk_X10_keepKey ct K R n 41 ls st σ k)) := exS_step.trans rfl
theorem ev_X10_keepKey_41 {ct : Nat → Bool} {K : Kt} {R : Option AV → Hp → Prop} {n : Nat} {ls : List (Option AV)} {st : List AV} {σ : Hp} {k : Nat × Nat} : xe_X10_keepKey ct K R (n + 1) 41 ls st σ k = (lI ls 3 fun x => xk_X10_keepKey ct K R n 42 ls (vi x :: st) σ k) := exS_step.trans rfl
theorem ev_X10_keepKey_42 {ct : Nat → Bool} {K : Kt} {R : Option AV → Hp → Prop} {n : Nat} {ls : List (Option AV)} {st : List AV} {σ : Hp} {k : Nat × Nat} : xe_X10_keepKey ct K R (n + 1) 42 ls st σ k = (lR ls 0 fun x => xk_X10_keepKey ct K R n 43 ls (vr x :: st) σ k) := exS_step.trans rfl
theorem ev_X10_keepKey_43 {ct : Nat → Bool} {K : Kt} {R : Option AV → Hp → Prop} {n : Nat} {ls : List (Option AV)} {st : List AV} {σ : Hp} {k : Nat × Nat} : xe_X10_keepKey ct K R (n + 1) 43 ls st σ k = (oR st fun x st => kd σ x = 11 ∧ xk_X10_keepKey ct K R n 46 ls (vr (fR σ 1105 x) :: st) σ k) := exS_step.trans rfl
theorem ev_X10_keepKey_46 {ct : Nat → Bool} {K : Kt} {R : Option AV → Hp → Prop} {n : Nat} {ls : List (Option AV)} {st : List AV} {σ : Hp} {k : Nat × Nat} : xe_X10_keepKey ct K R (n + 1) 46 ls st σ k = (oR st fun x st => (101 ≤ kd σ x ∨ kd σ x = 21) ∧ xk_X10_keepKey ct K R n 47 ls (vi (ln σ x) :: st) σ k) := exS_step.trans rfl
theorem ev_X10_keepKey_47 {ct : Nat → Bool} {K : Kt} {R : Option AV → Hp → Prop} {n : Nat} {ls : List (Option AV)} {st : List AV} {σ : Hp} {k : Nat × Nat} : xe_X10_keepKey ct K R (n + 1) 47 ls st σ k = (oI st fun y st => oI st fun x st => (wI y < wI x → xk_X10_keepKey ct K R n 67 ls st σ k) ∧ (¬ (wI y < wI x) → xk_X10_keepKey ct K R n 50 ls st σ k)) := exS_step.trans rfl
theorem ev_X10_keepKey_50 {ct : Nat → Bool} {K : Kt} {R : Option AV → Hp → Prop} {n : Nat} {ls : List (Option AV)} {st : List AV} {σ : Hp} {k : Nat × Nat} : xe_X10_keepKey ct K R (n + 1) 50 ls st σ k = (lR ls 0 fun x => xk_X10_keepKey ct K R n 51 ls (vr x :: st) σ k) := exS_step.trans rfl
theorem ev_X10_keepKey_51 {ct : Nat → Bool} {K : Kt} {R : Option AV → Hp → Prop} {n : Nat} {ls : List (Option AV)} {st : List AV} {σ : Hp} {k : Nat × Nat} : xe_X10_keepKey ct K R (n + 1) 51 ls st σ k = (oR st fun x st => kd σ x = 11 ∧ xk_X10_keepKey ct K R n 54 ls (vr (fR σ 1105 x) :: st) σ k) := exS_step.trans rfl
theorem ev_X10_keepKey_54 {ct : Nat → Bool} {K : Kt} {R : Option AV → Hp → Prop} {n : Nat} {ls : List (Option AV)} {st : List AV} {σ : Hp} {k : Nat × Nat} : xe_X10_keepKey ct K R (n + 1) 54 ls st σ k = (lI ls 3 fun x => xk_X10_keepKey ct K R n 55 ls (vi x :: st) σ k) := exS_step.trans rfl
theorem ev_X10_keepKey_55 {ct : Nat → Bool} {K : Kt} {R : Option AV → Hp → Prop} {n : Nat} {ls : List (Option AV)} {st : List AV} {σ : Hp} {k : Nat × Nat} : xe_X10_keepKey ct K R (n + 1) 55 ls st σ k = (xk_X10_keepKey ct K R n 56 ls (vi (1) :: st) σ k) := exS_step.trans rfl
theorem ev_X10_keepKey_56 {ct : Nat → Bool} {K : Kt} {R : Option AV → Hp → Prop} {n : Nat} {ls : List (Option AV)} {st : List AV} {σ : Hp} {k : Nat × Nat} : xe_X10_keepKey ct K R (n + 1) 56 ls st σ k = (oI st fun y st => oI st fun x st => xk_X10_keepKey ct K R n 57 ls (vi (x - y) :: st) σ k) := exS_step.trans rfl
theorem ev_X10_keepKey_57 {ct : Nat → Bool} {K : Kt} {R : Option AV → Hp → Prop} {n : Nat} {ls : List (Option AV)} {st : List AV} {σ : Hp} {k : Nat × Nat} : xe_X10_keepKey ct K R (n + 1) 57 ls st σ k = (oI st fun j st => oR st fun x st => kd σ x = 102 ∧ (0 ≤ j ∧ j < ln σ x) ∧ xk_X10_keepKey ct K R n 58 ls (vl (aL σ x j) :: st) σ k) := exS_step.trans rfl
theorem ev_X10_keepKey_58 {ct : Nat → Bool} {K : Kt} {R : Option AV → Hp → Prop} {n : Nat} {ls : List (Option AV)} {st : List AV} {σ : Hp} {k : Nat × Nat} : xe_X10_keepKey ct K R (n + 1) 58 ls st σ k = (lL ls 1 fun x => xk_X10_keepKey ct K R n 59 ls (vl x :: st) σ k) := exS_step.trans rfl
theorem ev_X10_keepKey_59 {ct : Nat → Bool} {K : Kt} {R : Option AV → Hp → Prop} {n : Nat} {ls : List (Option AV)} {st : List AV} {σ : Hp} {k : Nat × Nat} : xe_X10_keepKey ct K R (n + 1) 59 ls st σ k = (oL st fun y st => oL st fun x st => xk_X10_keepKey ct K R n 60 ls (vi (cmL x y) :: st) σ k) := exS_step.trans rfl
theorem ev_X10_keepKey_60 {ct : Nat → Bool} {K : Kt} {R : Option AV → Hp → Prop} {n : Nat} {ls : List (Option AV)} {st : List AV} {σ : Hp} {k : Nat × Nat} : xe_X10_keepKey ct K R (n + 1) 60 ls st σ k = (oI st fun x st => (¬ wI x = wI 0 → xk_X10_keepKey ct K R n 67 ls st σ k) ∧ (¬ (¬ wI x = wI 0) → xk_X10_keepKey ct K R n 63 ls st σ k)) := exS_step.trans rfl
theorem ev_X10_keepKey_63 {ct : Nat → Bool} {K : Kt} {R : Option AV → Hp → Prop} {n : Nat} {ls : List (Option AV)} {st : List AV} {σ : Hp} {k : Nat × Nat} : xe_X10_keepKey ct K R (n + 1) 63 ls st σ k = (xk_X10_keepKey ct K R n 64 ls (vi (1) :: st) σ k) := exS_step.trans rfl
theorem ev_X10_keepKey_64 {ct : Nat → Bool} {K : Kt} {R : Option AV → Hp → Prop} {n : Nat} {ls : List (Option AV)} {st : List AV} {σ : Hp} {k : Nat × Nat} : xe_X10_keepKey ct K R (n + 1) 64 ls st σ k = (xk_X10_keepKey ct K R n 68 ls st σ k) := exS_step.trans rfl
theorem ev_X10_keepKey_67 {ct : Nat → Bool} {K : Kt} {R : Option AV → Hp → Prop} {n : Nat} {ls : List (Option AV)} {st : List AV} {σ : Hp} {k : Nat × Nat} : xe_X10_keepKey ct K R (n + 1) 67 ls st σ k = (xk_X10_keepKey ct K R n 68 ls (vi (0) :: st) σ k) := exS_step.trans rfl
theorem ev_X10_keepKey_68 {ct : Nat → Bool} {K : Kt} {R : Option AV → Hp → Prop} {n : Nat} {ls : List (Option AV)} {st : List AV} {σ : Hp} {k : Nat × Nat} : xe_X10_keepKey ct K R (n + 1) 68 ls st σ k = (oI st fun x st => 4 < 6 ∧ xk_X10_keepKey ct K R n 70 (stL ls 4 (vi x)) st σ k) := exS_step.trans rfl
theorem ev_X10_keepKey_70 {ct : Nat → Bool} {K : Kt} {R : Option AV → Hp → Prop} {n : Nat} {ls : List (Option AV)} {st : List AV} {σ : Hp} {k : Nat × Nat} : xe_X10_keepKey ct K R (n + 1) 70 ls st σ k = (lI ls 4 fun x => xk_X10_keepKey ct K R n 72 ls (vi x :: st) σ k) := exS_step.trans rfl
theorem ev_X10_keepKey_72 {ct : Nat → Bool} {K : Kt} {R : Option AV → Hp → Prop} {n : Nat} {ls : List (Option AV)} {st : List AV} {σ : Hp} {k : Nat × Nat} : xe_X10_keepKey ct K R (n + 1) 72 ls st σ k = (oI st fun x st => (¬ wI x = wI 0 → xk_X10_keepKey ct K R n 88 ls st σ k) ∧ (¬ (¬ wI x = wI 0) → xk_X10_keepKey ct K R n 75 ls st σ k)) := exS_step.trans rfl
theorem ev_X10_keepKey_75 {ct : Nat → Bool} {K : Kt} {R : Option AV → Hp → Prop} {n : Nat} {ls : List (Option AV)} {st : List AV} {σ : Hp} {k : Nat × Nat} : xe_X10_keepKey ct K R (n + 1) 75 ls st σ k = (lI ls 3 fun x => xk_X10_keepKey ct K R n 76 ls (vi x :: st) σ k) := exS_step.trans rfl
theorem ev_X10_keepKey_76 {ct : Nat → Bool} {K : Kt} {R : Option AV → Hp → Prop} {n : Nat} {ls : List (Option AV)} {st : List AV} {σ : Hp} {k : Nat × Nat} : xe_X10_keepKey ct K R (n + 1) 76 ls st σ k = (oI st fun x st => (wI x < wI 0 → xk_X10_keepKey ct K R n 88 ls st σ k) ∧ (¬ (wI x < wI 0) → xk_X10_keepKey ct K R n 79 ls st σ k)) := exS_step.trans rfl
theorem ev_X10_keepKey_79 {ct : Nat → Bool} {K : Kt} {R : Option AV → Hp → Prop} {n : Nat} {ls : List (Option AV)} {st : List AV} {σ : Hp} {k : Nat × Nat} : xe_X10_keepKey ct K R (n + 1) 79 ls st σ k = (lI ls 3 fun x => xk_X10_keepKey ct K R n 80 ls (vi x :: st) σ k) := exS_step.trans rfl
theorem ev_X10_keepKey_80 {ct : Nat → Bool} {K : Kt} {R : Option AV → Hp → Prop} {n : Nat} {ls : List (Option AV)} {st : List AV} {σ : Hp} {k : Nat × Nat} : xe_X10_keepKey ct K R (n + 1) 80 ls st σ k = (lR ls 0 fun x => xk_X10_keepKey ct K R n 81 ls (vr x :: st) σ k) := exS_step.trans rfl
theorem ev_X10_keepKey_81 {ct : Nat → Bool} {K : Kt} {R : Option AV → Hp → Prop} {n : Nat} {ls : List (Option AV)} {st : List AV} {σ : Hp} {k : Nat × Nat} : xe_X10_keepKey ct K R (n + 1) 81 ls st σ k = (oR st fun x st => kd σ x = 11 ∧ xk_X10_keepKey ct K R n 84 ls (vr (fR σ 1105 x) :: st) σ k) := exS_step.trans rfl
theorem ev_X10_keepKey_84 {ct : Nat → Bool} {K : Kt} {R : Option AV → Hp → Prop} {n : Nat} {ls : List (Option AV)} {st : List AV} {σ : Hp} {k : Nat × Nat} : xe_X10_keepKey ct K R (n + 1) 84 ls st σ k = (oR st fun x st => (101 ≤ kd σ x ∨ kd σ x = 21) ∧ xk_X10_keepKey ct K R n 85 ls (vi (ln σ x) :: st) σ k) := exS_step.trans rfl
theorem ev_X10_keepKey_85 {ct : Nat → Bool} {K : Kt} {R : Option AV → Hp → Prop} {n : Nat} {ls : List (Option AV)} {st : List AV} {σ : Hp} {k : Nat × Nat} : xe_X10_keepKey ct K R (n + 1) 85 ls st σ k = (oI st fun y st => oI st fun x st => (wI x < wI y → xk_X10_keepKey ct K R n 89 ls st σ k) ∧ (¬ (wI x < wI y) → xk_X10_keepKey ct K R n 88 ls st σ k)) := exS_step.trans rfl
theorem ev_X10_keepKey_88 {ct : Nat → Bool} {K : Kt} {R : Option AV → Hp → Prop} {n : Nat} {ls : List (Option AV)} {st : List AV} {σ : Hp} {k : Nat × Nat} : xe_X10_keepKey ct K R (n + 1) 88 ls st σ k = (st = [] ∧ 0 = 0 ∧ R none σ) := exS_step.trans rfl
theorem ev_X10_keepKey_89 {ct : Nat → Bool} {K : Kt} {R : Option AV → Hp → Prop} {n : Nat} {ls : List (Option AV)} {st : List AV} {σ : Hp} {k : Nat × Nat} : xe_X10_keepKey ct K R (n + 1) 89 ls st σ k = (lR ls 0 fun x => xk_X10_keepKey ct K R n 90 ls (vr x :: st) σ k) := exS_step.trans rfl
theorem ev_X10_keepKey_90 {ct : Nat → Bool} {K : Kt} {R : Option AV → Hp → Prop} {n : Nat} {ls : List (Option AV)} {st : List AV} {σ : Hp} {k : Nat × Nat} : xe_X10_keepKey ct K R (n + 1) 90 ls st σ k = (oR st fun x st => kd σ x = 11 ∧ xk_X10_keepKey ct K R n 93 ls (vi (fI σ 1109 x) :: st) σ k) := exS_step.trans rfl
theorem ev_X10_keepKey_93 {ct : Nat → Bool} {K : Kt} {R : Option AV → Hp → Prop} {n : Nat} {ls : List (Option AV)} {st : List AV} {σ : Hp} {k : Nat × Nat} : xe_X10_keepKey ct K R (n + 1) 93 ls st σ k = (lR ls 0 fun x => xk_X10_keepKey ct K R n 94 ls (vr x :: st) σ k) := exS_step.trans rfl
theorem ev_X10_keepKey_94 {ct : Nat → Bool} {K : Kt} {R : Option AV → Hp → Prop} {n : Nat} {ls : List (Option AV)} {st : List AV} {σ : Hp} {k : Nat × Nat} : xe_X10_keepKey ct K R (n + 1) 94 ls st σ k = (oR st fun x st => kd σ x = 11 ∧ xk_X10_keepKey ct K R n 97 ls (vr (fR σ 1105 x) :: st) σ k) := exS_step.trans rfl
theorem ev_X10_keepKey_97 {ct : Nat → Bool} {K : Kt} {R : Option AV → Hp → Prop} {n : Nat} {ls : List (Option AV)} {st : List AV} {σ : Hp} {k : Nat × Nat} : xe_X10_keepKey ct K R (n + 1) 97 ls st σ k = (oR st fun x st => (101 ≤ kd σ x ∨ kd σ x = 21) ∧ xk_X10_keepKey ct K R n 98 ls (vi (ln σ x) :: st) σ k) := exS_step.trans rfl
theorem ev_X10_keepKey_98 {ct : Nat → Bool} {K : Kt} {R : Option AV → Hp → Prop} {n : Nat} {ls : List (Option AV)} {st : List AV} {σ : Hp} {k : Nat × Nat} : xe_X10_keepKey ct K R (n + 1) 98 ls st σ k = (oI st fun y st => oI st fun x st => (wI y ≤ wI x → xk_X10_keepKey ct K R n 108 ls st σ k) ∧ (¬ (wI y ≤ wI x) → xk_X10_keepKey ct K R n 101 ls st σ k)) := exS_step.trans rfl
theorem ev_X10_keepKey_101 {ct : Nat → Bool} {K : Kt} {R : Option AV → Hp → Prop} {n : Nat} {ls : List (Option AV)} {st : List AV} {σ : Hp} {k : Nat × Nat} : xe_X10_keepKey ct K R (n + 1) 101 ls st σ k = (lR ls 0 fun x => xk_X10_keepKey ct K R n 102 ls (vr x :: st) σ k) := exS_step.trans rfl
theorem ev_X10_keepKey_102 {ct : Nat → Bool} {K : Kt} {R : Option AV → Hp → Prop} {n : Nat} {ls : List (Option AV)} {st : List AV} {σ : Hp} {k : Nat × Nat} : xe_X10_keepKey ct K R (n + 1) 102 ls st σ k = (oR st fun x st => kd σ x = 11 ∧ xk_X10_keepKey ct K R n 105 ls (vi (fI σ 1109 x) :: st) σ k) := exS_step.trans rfl
theorem ev_X10_keepKey_105 {ct : Nat → Bool} {K : Kt} {R : Option AV → Hp → Prop} {n : Nat} {ls : List (Option AV)} {st : List AV} {σ : Hp} {k : Nat × Nat} : xe_X10_keepKey ct K R (n + 1) 105 ls st σ k = (xk_X10_keepKey ct K R n 115 ls st σ k) := exS_step.trans rfl
theorem ev_X10_keepKey_108 {ct : Nat → Bool} {K : Kt} {R : Option AV → Hp → Prop} {n : Nat} {ls : List (Option AV)} {st : List AV} {σ : Hp} {k : Nat × Nat} : xe_X10_keepKey ct K R (n + 1) 108 ls st σ k = (lR ls 0 fun x => xk_X10_keepKey ct K R n 109 ls (vr x :: st) σ k) := exS_step.trans rfl
theorem ev_X10_keepKey_109 {ct : Nat → Bool} {K : Kt} {R : Option AV → Hp → Prop} {n : Nat} {ls : List (Option AV)} {st : List AV} {σ : Hp} {k : Nat × Nat} : xe_X10_keepKey ct K R (n + 1) 109 ls st σ k = (oR st fun x st => kd σ x = 11 ∧ xk_X10_keepKey ct K R n 112 ls (vr (fR σ 1105 x) :: st) σ k) := exS_step.trans rfl
theorem ev_X10_keepKey_112 {ct : Nat → Bool} {K : Kt} {R : Option AV → Hp → Prop} {n : Nat} {ls : List (Option AV)} {st : List AV} {σ : Hp} {k : Nat × Nat} : xe_X10_keepKey ct K R (n + 1) 112 ls st σ k = (oR st fun x st => (101 ≤ kd σ x ∨ kd σ x = 21) ∧ xk_X10_keepKey ct K R n 113 ls (vi (ln σ x) :: st) σ k) := exS_step.trans rfl
theorem ev_X10_keepKey_113 {ct : Nat → Bool} {K : Kt} {R : Option AV → Hp → Prop} {n : Nat} {ls : List (Option AV)} {st : List AV} {σ : Hp} {k : Nat × Nat} : xe_X10_keepKey ct K R (n + 1) 113 ls st σ k = (xk_X10_keepKey ct K R n 114 ls (vi (1) :: st) σ k) := exS_step.trans rfl
theorem ev_X10_keepKey_114 {ct : Nat → Bool} {K : Kt} {R : Option AV → Hp → Prop} {n : Nat} {ls : List (Option AV)} {st : List AV} {σ : Hp} {k : Nat × Nat} : xe_X10_keepKey ct K R (n + 1) 114 ls st σ k = (oI st fun y st => oI st fun x st => xk_X10_keepKey ct K R n 115 ls (vi (x - y) :: st) σ k) := exS_step.trans rfl
theorem ev_X10_keepKey_115 {ct : Nat → Bool} {K : Kt} {R : Option AV → Hp → Prop} {n : Nat} {ls : List (Option AV)} {st : List AV} {σ : Hp} {k : Nat × Nat} : xe_X10_keepKey ct K R (n + 1) 115 ls st σ k = (oI st fun x st => 5 < 6 ∧ xk_X10_keepKey ct K R n 117 (stL ls 5 (vi x)) st σ k) := exS_step.trans rfl
theorem ev_X10_keepKey_117 {ct : Nat → Bool} {K : Kt} {R : Option AV → Hp → Prop} {n : Nat} {ls : List (Option AV)} {st : List AV} {σ : Hp} {k : Nat × Nat} : xe_X10_keepKey ct K R (n + 1) 117 ls st σ k = (lI ls 5 fun x => xk_X10_keepKey ct K R n 119 ls (vi x :: st) σ k) := exS_step.trans rfl
theorem ev_X10_keepKey_119 {ct : Nat → Bool} {K : Kt} {R : Option AV → Hp → Prop} {n : Nat} {ls : List (Option AV)} {st : List AV} {σ : Hp} {k : Nat × Nat} : xe_X10_keepKey ct K R (n + 1) 119 ls st σ k = (lI ls 3 fun x => xk_X10_keepKey ct K R n 120 ls (vi x :: st) σ k) := exS_step.trans rfl
theorem ev_X10_keepKey_120 {ct : Nat → Bool} {K : Kt} {R : Option AV → Hp → Prop} {n : Nat} {ls : List (Option AV)} {st : List AV} {σ : Hp} {k : Nat × Nat} : xe_X10_keepKey ct K R (n + 1) 120 ls st σ k = (oI st fun y st => oI st fun x st => (wI x ≤ wI y → xk_X10_keepKey ct K R n 145 ls st σ k) ∧ (¬ (wI x ≤ wI y) → xk_X10_keepKey ct K R n 123 ls st σ k)) := exS_step.trans rfl
theorem ev_X10_keepKey_123 {ct : Nat → Bool} {K : Kt} {R : Option AV → Hp → Prop} {n : Nat} {ls : List (Option AV)} {st : List AV} {σ : Hp} {k : Nat × Nat} : xe_X10_keepKey ct K R (n + 1) 123 ls st σ k = (lR ls 0 fun x => xk_X10_keepKey ct K R n 124 ls (vr x :: st) σ k) := exS_step.trans rfl
theorem ev_X10_keepKey_124 {ct : Nat → Bool} {K : Kt} {R : Option AV → Hp → Prop} {n : Nat} {ls : List (Option AV)} {st : List AV} {σ : Hp} {k : Nat × Nat} : xe_X10_keepKey ct K R (n + 1) 124 ls st σ k = (oR st fun x st => kd σ x = 11 ∧ xk_X10_keepKey ct K R n 127 ls (vr (fR σ 1105 x) :: st) σ k) := exS_step.trans rfl
theorem ev_X10_keepKey_127 {ct : Nat → Bool} {K : Kt} {R : Option AV → Hp → Prop} {n : Nat} {ls : List (Option AV)} {st : List AV} {σ : Hp} {k : Nat × Nat} : xe_X10_keepKey ct K R (n + 1) 127 ls st σ k = (lI ls 5 fun x => xk_X10_keepKey ct K R n 129 ls (vi x :: st) σ k) := exS_step.trans rfl
theorem ev_X10_keepKey_129 {ct : Nat → Bool} {K : Kt} {R : Option AV → Hp → Prop} {n : Nat} {ls : List (Option AV)} {st : List AV} {σ : Hp} {k : Nat × Nat} : xe_X10_keepKey ct K R (n + 1) 129 ls st σ k = (lR ls 0 fun x => xk_X10_keepKey ct K R n 130 ls (vr x :: st) σ k) := exS_step.trans rfl
theorem ev_X10_keepKey_130 {ct : Nat → Bool} {K : Kt} {R : Option AV → Hp → Prop} {n : Nat} {ls : List (Option AV)} {st : List AV} {σ : Hp} {k : Nat × Nat} : xe_X10_keepKey ct K R (n + 1) 130 ls st σ k = (oR st fun x st => kd σ x = 11 ∧ xk_X10_keepKey ct K R n 133 ls (vr (fR σ 1105 x) :: st) σ k) := exS_step.trans rfl
theorem ev_X10_keepKey_133 {ct : Nat → Bool} {K : Kt} {R : Option AV → Hp → Prop} {n : Nat} {ls : List (Option AV)} {st : List AV} {σ : Hp} {k : Nat × Nat} : xe_X10_keepKey ct K R (n + 1) 133 ls st σ k = (lI ls 5 fun x => xk_X10_keepKey ct K R n 135 ls (vi x :: st) σ k) := exS_step.trans rfl
theorem ev_X10_keepKey_135 {ct : Nat → Bool} {K : Kt} {R : Option AV → Hp → Prop} {n : Nat} {ls : List (Option AV)} {st : List AV} {σ : Hp} {k : Nat × Nat} : xe_X10_keepKey ct K R (n + 1) 135 ls st σ k = (xk_X10_keepKey ct K R n 136 ls (vi (1) :: st) σ k) := exS_step.trans rfl
theorem ev_X10_keepKey_136 {ct : Nat → Bool} {K : Kt} {R : Option AV → Hp → Prop} {n : Nat} {ls : List (Option AV)} {st : List AV} {σ : Hp} {k : Nat × Nat} : xe_X10_keepKey ct K R (n + 1) 136 ls st σ k = (oI st fun y st => oI st fun x st => xk_X10_keepKey ct K R n 137 ls (vi (x - y) :: st) σ k) := exS_step.trans rfl
theorem ev_X10_keepKey_137 {ct : Nat → Bool} {K : Kt} {R : Option AV → Hp → Prop} {n : Nat} {ls : List (Option AV)} {st : List AV} {σ : Hp} {k : Nat × Nat} : xe_X10_keepKey ct K R (n + 1) 137 ls st σ k = (oI st fun j st => oR st fun x st => kd σ x = 102 ∧ (0 ≤ j ∧ j < ln σ x) ∧ xk_X10_keepKey ct K R n 138 ls (vl (aL σ x j) :: st) σ k) := exS_step.trans rfl
theorem ev_X10_keepKey_138 {ct : Nat → Bool} {K : Kt} {R : Option AV → Hp → Prop} {n : Nat} {ls : List (Option AV)} {st : List AV} {σ : Hp} {k : Nat × Nat} : xe_X10_keepKey ct K R (n + 1) 138 ls st σ k = (oL st fun v st => oI st fun j st => oR st fun x st => kd σ x = 102 ∧ (0 ≤ j ∧ j < ln σ x) ∧ xk_X10_keepKey ct K R n 139 ls st (qL σ x j v) k) := exS_step.trans rfl
theorem ev_X10_keepKey_139 {ct : Nat → Bool} {K : Kt} {R : Option AV → Hp → Prop} {n : Nat} {ls : List (Option AV)} {st : List AV} {σ : Hp} {k : Nat × Nat} : xe_X10_keepKey ct K R (n + 1) 139 ls st σ k = (lI ls 5 fun x => 5 < 6 ∧ xk_X10_keepKey ct K R n 142 (stL ls 5 (vi (x + (-1)))) st σ k) := exS_step.trans rfl
theorem ev_X10_keepKey_142 {ct : Nat → Bool} {K : Kt} {R : Option AV → Hp → Prop} {n : Nat} {ls : List (Option AV)} {st : List AV} {σ : Hp} {k : Nat × Nat} : xe_X10_keepKey ct K R (n + 1) 142 ls st σ k = (xk_X10_keepKey ct K R n 117 ls st σ k) := exS_step.trans rfl
theorem ev_X10_keepKey_145 {ct : Nat → Bool} {K : Kt} {R : Option AV → Hp → Prop} {n : Nat} {ls : List (Option AV)} {st : List AV} {σ : Hp} {k : Nat × Nat} : xe_X10_keepKey ct K R (n + 1) 145 ls st σ k = (lR ls 0 fun x => xk_X10_keepKey ct K R n 146 ls (vr x :: st) σ k) := exS_step.trans rfl
theorem ev_X10_keepKey_146 {ct : Nat → Bool} {K : Kt} {R : Option AV → Hp → Prop} {n : Nat} {ls : List (Option AV)} {st : List AV} {σ : Hp} {k : Nat × Nat} : xe_X10_keepKey ct K R (n + 1) 146 ls st σ k = (oR st fun x st => kd σ x = 11 ∧ xk_X10_keepKey ct K R n 149 ls (vr (fR σ 1105 x) :: st) σ k) := exS_step.trans rfl
theorem ev_X10_keepKey_149 {ct : Nat → Bool} {K : Kt} {R : Option AV → Hp → Prop} {n : Nat} {ls : List (Option AV)} {st : List AV} {σ : Hp} {k : Nat × Nat} : xe_X10_keepKey ct K R (n + 1) 149 ls st σ k = (lI ls 3 fun x => xk_X10_keepKey ct K R n 150 ls (vi x :: st) σ k) := exS_step.trans rfl
theorem ev_X10_keepKey_150 {ct : Nat → Bool} {K : Kt} {R : Option AV → Hp → Prop} {n : Nat} {ls : List (Option AV)} {st : List AV} {σ : Hp} {k : Nat × Nat} : xe_X10_keepKey ct K R (n + 1) 150 ls st σ k = (lL ls 1 fun x => xk_X10_keepKey ct K R n 151 ls (vl x :: st) σ k) := exS_step.trans rfl
theorem ev_X10_keepKey_151 {ct : Nat → Bool} {K : Kt} {R : Option AV → Hp → Prop} {n : Nat} {ls : List (Option AV)} {st : List AV} {σ : Hp} {k : Nat × Nat} : xe_X10_keepKey ct K R (n + 1) 151 ls st σ k = (oL st fun v st => oI st fun j st => oR st fun x st => kd σ x = 102 ∧ (0 ≤ j ∧ j < ln σ x) ∧ xk_X10_keepKey ct K R n 152 ls st (qL σ x j v) k) := exS_step.trans rfl
theorem ev_X10_keepKey_152 {ct : Nat → Bool} {K : Kt} {R : Option AV → Hp → Prop} {n : Nat} {ls : List (Option AV)} {st : List AV} {σ : Hp} {k : Nat × Nat} : xe_X10_keepKey ct K R (n + 1) 152 ls st σ k = (lR ls 0 fun x => xk_X10_keepKey ct K R n 153 ls (vr x :: st) σ k) := exS_step.trans rfl
theorem ev_X10_keepKey_153 {ct : Nat → Bool} {K : Kt} {R : Option AV → Hp → Prop} {n : Nat} {ls : List (Option AV)} {st : List AV} {σ : Hp} {k : Nat × Nat} : xe_X10_keepKey ct K R (n + 1) 153 ls st σ k = (lR ls 0 fun x => xk_X10_keepKey ct K R n 154 ls (vr x :: st) σ k) := exS_step.trans rfl
theorem ev_X10_keepKey_154 {ct : Nat → Bool} {K : Kt} {R : Option AV → Hp → Prop} {n : Nat} {ls : List (Option AV)} {st : List AV} {σ : Hp} {k : Nat × Nat} : xe_X10_keepKey ct K R (n + 1) 154 ls st σ k = (oR st fun x st => kd σ x = 11 ∧ xk_X10_keepKey ct K R n 157 ls (vi (fI σ 1109 x) :: st) σ k) := exS_step.trans rfl
theorem ev_X10_keepKey_157 {ct : Nat → Bool} {K : Kt} {R : Option AV → Hp → Prop} {n : Nat} {ls : List (Option AV)} {st : List AV} {σ : Hp} {k : Nat × Nat} : xe_X10_keepKey ct K R (n + 1) 157 ls st σ k = (lR ls 0 fun x => xk_X10_keepKey ct K R n 158 ls (vr x :: st) σ k) := exS_step.trans rfl
theorem ev_X10_keepKey_158 {ct : Nat → Bool} {K : Kt} {R : Option AV → Hp → Prop} {n : Nat} {ls : List (Option AV)} {st : List AV} {σ : Hp} {k : Nat × Nat} : xe_X10_keepKey ct K R (n + 1) 158 ls st σ k = (oR st fun x st => kd σ x = 11 ∧ xk_X10_keepKey ct K R n 161 ls (vr (fR σ 1105 x) :: st) σ k) := exS_step.trans rfl
theorem ev_X10_keepKey_161 {ct : Nat → Bool} {K : Kt} {R : Option AV → Hp → Prop} {n : Nat} {ls : List (Option AV)} {st : List AV} {σ : Hp} {k : Nat × Nat} : xe_X10_keepKey ct K R (n + 1) 161 ls st σ k = (oR st fun x st => (101 ≤ kd σ x ∨ kd σ x = 21) ∧ xk_X10_keepKey ct K R n 162 ls (vi (ln σ x) :: st) σ k) := exS_step.trans rfl
theorem ev_X10_keepKey_162 {ct : Nat → Bool} {K : Kt} {R : Option AV → Hp → Prop} {n : Nat} {ls : List (Option AV)} {st : List AV} {σ : Hp} {k : Nat × Nat} : xe_X10_keepKey ct K R (n + 1) 162 ls st σ k = (oI st fun y st => oI st fun x st => (wI y ≤ wI x → xk_X10_keepKey ct K R n 174 ls st σ k) ∧ (¬ (wI y ≤ wI x) → xk_X10_keepKey ct K R n 165 ls st σ k)) := exS_step.trans rfl
theorem ev_X10_keepKey_165 {ct : Nat → Bool} {K : Kt} {R : Option AV → Hp → Prop} {n : Nat} {ls : List (Option AV)} {st : List AV} {σ : Hp} {k : Nat × Nat} : xe_X10_keepKey ct K R (n + 1) 165 ls st σ k = (lR ls 0 fun x => xk_X10_keepKey ct K R n 166 ls (vr x :: st) σ k) := exS_step.trans rfl
theorem ev_X10_keepKey_166 {ct : Nat → Bool} {K : Kt} {R : Option AV → Hp → Prop} {n : Nat} {ls : List (Option AV)} {st : List AV} {σ : Hp} {k : Nat × Nat} : xe_X10_keepKey ct K R (n + 1) 166 ls st σ k = (oR st fun x st => kd σ x = 11 ∧ xk_X10_keepKey ct K R n 169 ls (vi (fI σ 1109 x) :: st) σ k) := exS_step.trans rfl
theorem ev_X10_keepKey_169 {ct : Nat → Bool} {K : Kt} {R : Option AV → Hp → Prop} {n : Nat} {ls : List (Option AV)} {st : List AV} {σ : Hp} {k : Nat × Nat} : xe_X10_keepKey ct K R (n + 1) 169 ls st σ k = (xk_X10_keepKey ct K R n 170 ls (vi (1) :: st) σ k) := exS_step.trans rfl
theorem ev_X10_keepKey_170 {ct : Nat → Bool} {K : Kt} {R : Option AV → Hp → Prop} {n : Nat} {ls : List (Option AV)} {st : List AV} {σ : Hp} {k : Nat × Nat} : xe_X10_keepKey ct K R (n + 1) 170 ls st σ k = (oI st fun y st => oI st fun x st => xk_X10_keepKey ct K R n 171 ls (vi (x + y) :: st) σ k) := exS_step.trans rfl
theorem ev_X10_keepKey_171 {ct : Nat → Bool} {K : Kt} {R : Option AV → Hp → Prop} {n : Nat} {ls : List (Option AV)} {st : List AV} {σ : Hp} {k : Nat × Nat} : xe_X10_keepKey ct K R (n + 1) 171 ls st σ k = (xk_X10_keepKey ct K R n 178 ls st σ k) := exS_step.trans rfl
theorem ev_X10_keepKey_174 {ct : Nat → Bool} {K : Kt} {R : Option AV → Hp → Prop} {n : Nat} {ls : List (Option AV)} {st : List AV} {σ : Hp} {k : Nat × Nat} : xe_X10_keepKey ct K R (n + 1) 174 ls st σ k = (lR ls 0 fun x => xk_X10_keepKey ct K R n 175 ls (vr x :: st) σ k) := exS_step.trans rfl
theorem ev_X10_keepKey_175 {ct : Nat → Bool} {K : Kt} {R : Option AV → Hp → Prop} {n : Nat} {ls : List (Option AV)} {st : List AV} {σ : Hp} {k : Nat × Nat} : xe_X10_keepKey ct K R (n + 1) 175 ls st σ k = (oR st fun x st => kd σ x = 11 ∧ xk_X10_keepKey ct K R n 178 ls (vi (fI σ 1109 x) :: st) σ k) := exS_step.trans rfl
theorem ev_X10_keepKey_178 {ct : Nat → Bool} {K : Kt} {R : Option AV → Hp → Prop} {n : Nat} {ls : List (Option AV)} {st : List AV} {σ : Hp} {k : Nat × Nat} : xe_X10_keepKey ct K R (n + 1) 178 ls st σ k = (oI st fun v st => oR st fun x st => kd σ x = 11 ∧ xk_X10_keepKey ct K R n 181 ls st (pI σ 1109 x v) k) := exS_step.trans rfl
theorem ev_X10_keepKey_181 {ct : Nat → Bool} {K : Kt} {R : Option AV → Hp → Prop} {n : Nat} {ls : List (Option AV)} {st : List AV} {σ : Hp} {k : Nat × Nat} : xe_X10_keepKey ct K R (n + 1) 181 ls st σ k = (st = [] ∧ 0 = 0 ∧ R none σ) := exS_step.trans rfl
def M_X10_keepKey : Md := (yX10_keepKey, cX10_keepKey, 6, (none : Option FieldType), 1, 0, 0, 0, false, tb_X10_keepKey, mt_X10_keepKey)
theorem mm_X10_keepKey : MMOK M_X10_keepKey := ⟨by decide +kernel, tk_X10_keepKey, mk_X10_keepKey, rfl, fun h => by cases h⟩
theorem go_X10_keepKey {Q : Option AV → Hp → Prop} {ct : Nat → Bool} {pc : Nat} {ls : List (Option AV)} {st : List AV} {σ : Hp} {k : Nat × Nat} (n : Nat) (h : xe_X10_keepKey ct (Go M_X10_keepKey Q) Q n pc ls st σ k) : Go M_X10_keepKey Q pc ls st σ k := Go.exS mm_X10_keepKey h

set_option maxRecDepth 20000 in
theorem kk_113 {Q : Option AV → Hp → Prop} {σ : Hp} (hk : kd σ 4 = 11) (hC : CLay σ) {ks : List Int} {v : BitVec 64} (hM : fI σ 1109 4 = ks.length ∧ ks.length ≤ 200) {a top : Int} (ha : 0 ≤ a ∧ a ≤ top) (ht : top ≤ 199)
    (h : ∀ ρ, Fz [] noR (fun r => r = 14) σ ρ → (∀ j, aL ρ 14 j = if a < j ∧ j ≤ top then aL σ 14 (j - 1) else aL σ 14 j) → Q none (pI (qL ρ 14 a v) 1109 4 (if (ks.length : Int) < 200 then ks.length + 1 else ks.length))) : ∀ (m : Nat) (i : Int) (ρ : Hp), i = a + m → i ≤ top → Fz [] noR (fun r => r = 14) σ ρ → (∀ j, aL ρ 14 j = if i < j ∧ j ≤ top then aL σ 14 (j - 1) else aL σ 14 j) → Go M_X10_keepKey Q 117 [some (vr 4), some (vl v), none, some (vi a), some (vi 0), some (vi i)] [] ρ (0, 0) := by
  intro m
  induction m with
  | zero =>
    intro i ρ hi it z hj
    have e : i = a := by omega
    subst e
    have h := h ρ z hj
    have C := hC.fz z (by decide)
    have k2 : kd ρ 4 = 11 := by rw [z.kd]; exact hk
    have f2 : fI ρ 1109 4 = ks.length := by rw [z.fI (by decide)]; exact hM.1
    clear z hj
    by_cases c : (ks.length : Int) < 200
    · rw [if_pos c] at h
      refine go_X10_keepKey (ct := fun p => p == 123 || p == 174) 60 ?_
      simp only [oI, oL, oR, o1, lI, lL, lR, popN, catS, gv, stL, stL2, swt, cnd, spObj, List.getElem?_cons_zero, List.getElem?_cons_succ, List.getD_cons_zero, List.getD_cons_succ, List.set_cons_zero, List.set_cons_succ, List.nil_append, List.cons_append, Option.toList, Bool.or_false, Bool.false_or, Bool.or_true, Bool.true_or, Nat.reduceBEq, Nat.reduceAdd, Nat.reduceLT, Nat.reduceLeDiff, Int.reduceAdd, Int.reduceToNat, true_and, and_true, Fin.isValue, Fin.val_zero, Fin.val_one, Fin.val_two, Fin.reduceFinMk, eq_self, Int.reduceNeg, imp_self, Nat.reduceMul, Nat.le_refl, not_true_eq_false, not_false_eq_true, List.getElem?_nil, reduceCtorEq, true_or, or_true, Classical.not_not, implies_true, or_self, wI_0, wI_1, wI_m1, b2i_w, b2i_eq0, b2i_eq1, b2i_bool, nor_self, nx_pI, kd_pI, ln_pI, fI_pI, fL_pI, fR_pI, aI_pI, aL_pI, aR_pI, nx_pL, kd_pL, ln_pL, fI_pL, fL_pL, fR_pL, aI_pL, aL_pL, aR_pL, nx_pR, kd_pR, ln_pR, fI_pR, fL_pR, fR_pR, aI_pR, aL_pR, aR_pR, nx_qI, kd_qI, ln_qI, fI_qI, fL_qI, fR_qI, aI_qI, aL_qI, aR_qI, nx_qL, kd_qL, ln_qL, fI_qL, fL_qL, fR_qL, aI_qL, aL_qL, aR_qL, nx_qR, kd_qR, ln_qR, fI_qR, fL_qR, fR_qR, aI_qR, aL_qR, aR_qR, nx_mk, kd_mk, ln_mk, fI_mk, fL_mk, fR_mk, aI_mk, aL_mk, aR_mk, false_and, and_false, if_false, if_true, and_self, Int.reduceEq, Nat.reduceEqDiff, ite_self, MLay_pI, MLay_pL, MLay_qI, MLay_qL, ev_X10_keepKey_117, ev_X10_keepKey_119, ev_X10_keepKey_120, ev_X10_keepKey_145, ev_X10_keepKey_146, ev_X10_keepKey_149, ev_X10_keepKey_150, ev_X10_keepKey_151, ev_X10_keepKey_152, ev_X10_keepKey_153, ev_X10_keepKey_154, ev_X10_keepKey_157, ev_X10_keepKey_158, ev_X10_keepKey_161, ev_X10_keepKey_162, ev_X10_keepKey_165, ev_X10_keepKey_166, ev_X10_keepKey_169, ev_X10_keepKey_170, ev_X10_keepKey_171, ev_X10_keepKey_174, ev_X10_keepKey_175, ev_X10_keepKey_178, ev_X10_keepKey_181, xt_X10_keepKey, xf_X10_keepKey, k2, C.eqs, f2]
      try simp (disch := omega) only [wI_id, dv_nn, rm_nn]
      repeat' (first | intro z | apply And.intro)
      all_goals try omega
      all_goals try contradiction
      all_goals exact h
    · rw [if_neg c] at h
      refine go_X10_keepKey (ct := fun p => p == 123 || p == 165) 60 ?_
      simp only [oI, oL, oR, o1, lI, lL, lR, popN, catS, gv, stL, stL2, swt, cnd, spObj, List.getElem?_cons_zero, List.getElem?_cons_succ, List.getD_cons_zero, List.getD_cons_succ, List.set_cons_zero, List.set_cons_succ, List.nil_append, List.cons_append, Option.toList, Bool.or_false, Bool.false_or, Bool.or_true, Bool.true_or, Nat.reduceBEq, Nat.reduceAdd, Nat.reduceLT, Nat.reduceLeDiff, Int.reduceAdd, Int.reduceToNat, true_and, and_true, Fin.isValue, Fin.val_zero, Fin.val_one, Fin.val_two, Fin.reduceFinMk, eq_self, Int.reduceNeg, imp_self, Nat.reduceMul, Nat.le_refl, not_true_eq_false, not_false_eq_true, List.getElem?_nil, reduceCtorEq, true_or, or_true, Classical.not_not, implies_true, or_self, wI_0, wI_1, wI_m1, b2i_w, b2i_eq0, b2i_eq1, b2i_bool, nor_self, nx_pI, kd_pI, ln_pI, fI_pI, fL_pI, fR_pI, aI_pI, aL_pI, aR_pI, nx_pL, kd_pL, ln_pL, fI_pL, fL_pL, fR_pL, aI_pL, aL_pL, aR_pL, nx_pR, kd_pR, ln_pR, fI_pR, fL_pR, fR_pR, aI_pR, aL_pR, aR_pR, nx_qI, kd_qI, ln_qI, fI_qI, fL_qI, fR_qI, aI_qI, aL_qI, aR_qI, nx_qL, kd_qL, ln_qL, fI_qL, fL_qL, fR_qL, aI_qL, aL_qL, aR_qL, nx_qR, kd_qR, ln_qR, fI_qR, fL_qR, fR_qR, aI_qR, aL_qR, aR_qR, nx_mk, kd_mk, ln_mk, fI_mk, fL_mk, fR_mk, aI_mk, aL_mk, aR_mk, false_and, and_false, if_false, if_true, and_self, Int.reduceEq, Nat.reduceEqDiff, ite_self, MLay_pI, MLay_pL, MLay_qI, MLay_qL, ev_X10_keepKey_117, ev_X10_keepKey_119, ev_X10_keepKey_120, ev_X10_keepKey_145, ev_X10_keepKey_146, ev_X10_keepKey_149, ev_X10_keepKey_150, ev_X10_keepKey_151, ev_X10_keepKey_152, ev_X10_keepKey_153, ev_X10_keepKey_154, ev_X10_keepKey_157, ev_X10_keepKey_158, ev_X10_keepKey_161, ev_X10_keepKey_162, ev_X10_keepKey_165, ev_X10_keepKey_166, ev_X10_keepKey_169, ev_X10_keepKey_170, ev_X10_keepKey_171, ev_X10_keepKey_174, ev_X10_keepKey_175, ev_X10_keepKey_178, ev_X10_keepKey_181, xt_X10_keepKey, xf_X10_keepKey, k2, C.eqs, f2]
      try simp (disch := omega) only [wI_id, dv_nn, rm_nn]
      repeat' (first | intro z | apply And.intro)
      all_goals try omega
      all_goals try contradiction
      all_goals exact h
  | succ m ih =>
    intro i ρ hi it z hj
    have C := hC.fz z (by decide)
    have k2 : kd ρ 4 = 11 := by rw [z.kd]; exact hk
    have w := ih (i - 1) (qL ρ 14 i (aL ρ 14 (i - 1))) (by omega) (by omega) (z.tr (Fz_qL _ _ _ rfl)) (fun j => by
      rw [aL_qL]
      by_cases e : j = i
      · rw [if_pos ⟨rfl, e⟩, if_pos (by omega), hj, if_neg (by omega), e]
      · rw [if_neg (fun q => e q.2), hj]
        by_cases c : i < j ∧ j ≤ top
        · rw [if_pos c, if_pos (by omega)]
        · rw [if_neg c, if_neg (by omega)])
    clear ih h z hj
    rw [show i - 1 = i + -1 by omega] at w
    refine go_X10_keepKey (ct := fun p => p == 145 || p == 117) 60 ?_
    simp only [oI, oL, oR, o1, lI, lL, lR, popN, catS, gv, stL, stL2, swt, cnd, spObj, List.getElem?_cons_zero, List.getElem?_cons_succ, List.getD_cons_zero, List.getD_cons_succ, List.set_cons_zero, List.set_cons_succ, List.nil_append, List.cons_append, Option.toList, Bool.or_false, Bool.false_or, Bool.or_true, Bool.true_or, Nat.reduceBEq, Nat.reduceAdd, Nat.reduceLT, Nat.reduceLeDiff, Int.reduceAdd, Int.reduceToNat, true_and, and_true, Fin.isValue, Fin.val_zero, Fin.val_one, Fin.val_two, Fin.reduceFinMk, eq_self, Int.reduceNeg, imp_self, Nat.reduceMul, Nat.le_refl, not_true_eq_false, not_false_eq_true, List.getElem?_nil, reduceCtorEq, true_or, or_true, Classical.not_not, implies_true, or_self, wI_0, wI_1, wI_m1, b2i_w, b2i_eq0, b2i_eq1, b2i_bool, nor_self, nx_pI, kd_pI, ln_pI, fI_pI, fL_pI, fR_pI, aI_pI, aL_pI, aR_pI, nx_pL, kd_pL, ln_pL, fI_pL, fL_pL, fR_pL, aI_pL, aL_pL, aR_pL, nx_pR, kd_pR, ln_pR, fI_pR, fL_pR, fR_pR, aI_pR, aL_pR, aR_pR, nx_qI, kd_qI, ln_qI, fI_qI, fL_qI, fR_qI, aI_qI, aL_qI, aR_qI, nx_qL, kd_qL, ln_qL, fI_qL, fL_qL, fR_qL, aI_qL, aL_qL, aR_qL, nx_qR, kd_qR, ln_qR, fI_qR, fL_qR, fR_qR, aI_qR, aL_qR, aR_qR, nx_mk, kd_mk, ln_mk, fI_mk, fL_mk, fR_mk, aI_mk, aL_mk, aR_mk, false_and, and_false, if_false, if_true, and_self, Int.reduceEq, Nat.reduceEqDiff, ite_self, MLay_pI, MLay_pL, MLay_qI, MLay_qL, ev_X10_keepKey_117, ev_X10_keepKey_119, ev_X10_keepKey_120, ev_X10_keepKey_123, ev_X10_keepKey_124, ev_X10_keepKey_127, ev_X10_keepKey_129, ev_X10_keepKey_130, ev_X10_keepKey_133, ev_X10_keepKey_135, ev_X10_keepKey_136, ev_X10_keepKey_137, ev_X10_keepKey_138, ev_X10_keepKey_139, ev_X10_keepKey_142, xt_X10_keepKey, xf_X10_keepKey, k2, C.eqs]
    try simp (disch := omega) only [wI_id, dv_nn, rm_nn]
    repeat' (first | intro z | apply And.intro)
    all_goals try omega
    all_goals try contradiction
    all_goals first | exact w | (rw [show i - 1 = i + -1 by omega]; exact w)

set_option maxRecDepth 20000 in
theorem kk_37 {Q : Option AV → Hp → Prop} {σ : Hp} (hk : kd σ 4 = 11) (hC : CLay σ) {ks : List Int} {S : Int → Prop} {k : Int} (hM : KM σ ks) (hS : SgK S ks) (hkk : 0 ≤ k ∧ k < 549755813888) (h : ∀ σ' ks', Fz [1109] noR (fun r => r = 14) σ σ' → KM σ' ks' → SgK (fun j => S j ∨ j = k) ks' → Q none σ') (a : Nat) (ha : a ≤ ks.length) (hab : ∀ (j : Nat) (y : Int), a ≤ j → ks[j]? = some y → k < y) (hbe : ∀ (y : Int), 0 < a → ks[a - 1]? = some y → y ≤ k) : Go M_X10_keepKey Q 37 [some (vr 4), some (vl (BitVec.ofInt 64 k)), none, some (vi a), none, none] [] σ (0, 0) := by
  obtain ⟨hf, hl, hg⟩ := hM
  have hM : KM σ ks := ⟨hf, hl, hg⟩
  have hord := hS.1
  -- the key just below
  have hlow : ∀ (j : Nat) (y : Int), j < a → ks[j]? = some y → y ≤ k ∧ (y = k → j + 1 = a) := fun j y hj hy => by
    have he : ks[a - 1]? = some (ks[a - 1]'(by omega)) := List.getElem?_eq_getElem (by omega)
    have h1 := hbe _ (by omega) he
    by_cases e : j = a - 1
    · rw [e, he] at hy
      cases hy
      exact ⟨h1, fun _ => by omega⟩
    · have := srt_get hord hy he (by omega)
      exact ⟨by omega, fun q => by omega⟩
  by_cases c : 0 < a ∧ ks[a - 1]? = some k
  · have h := h σ ks (Fz.rf σ) hM (hS.has (Or.inl (List.mem_of_getElem? c.2)))
    have hq := (hg _ _ c.2).2
    have e1 : (((a - 1 : Nat)) : Int) = (a : Int) - 1 := by omega
    rw [e1] at hq
    have hcm := cmL_k hkk hkk
    rw [if_neg (by omega), if_pos rfl] at hcm
    clear hM hS hab hbe hlow hg hord
    refine go_X10_keepKey (ct := fun p => p == 67 || p == 75) 60 ?_
    simp only [oI, oL, oR, o1, lI, lL, lR, popN, catS, gv, stL, stL2, swt, cnd, spObj, List.getElem?_cons_zero, List.getElem?_cons_succ, List.getD_cons_zero, List.getD_cons_succ, List.set_cons_zero, List.set_cons_succ, List.nil_append, List.cons_append, Option.toList, Bool.or_false, Bool.false_or, Bool.or_true, Bool.true_or, Nat.reduceBEq, Nat.reduceAdd, Nat.reduceLT, Nat.reduceLeDiff, Int.reduceAdd, Int.reduceToNat, true_and, and_true, Fin.isValue, Fin.val_zero, Fin.val_one, Fin.val_two, Fin.reduceFinMk, eq_self, Int.reduceNeg, imp_self, Nat.reduceMul, Nat.le_refl, not_true_eq_false, not_false_eq_true, List.getElem?_nil, reduceCtorEq, true_or, or_true, Classical.not_not, implies_true, or_self, wI_0, wI_1, wI_m1, b2i_w, b2i_eq0, b2i_eq1, b2i_bool, nor_self, nx_pI, kd_pI, ln_pI, fI_pI, fL_pI, fR_pI, aI_pI, aL_pI, aR_pI, nx_pL, kd_pL, ln_pL, fI_pL, fL_pL, fR_pL, aI_pL, aL_pL, aR_pL, nx_pR, kd_pR, ln_pR, fI_pR, fL_pR, fR_pR, aI_pR, aL_pR, aR_pR, nx_qI, kd_qI, ln_qI, fI_qI, fL_qI, fR_qI, aI_qI, aL_qI, aR_qI, nx_qL, kd_qL, ln_qL, fI_qL, fL_qL, fR_qL, aI_qL, aL_qL, aR_qL, nx_qR, kd_qR, ln_qR, fI_qR, fL_qR, fR_qR, aI_qR, aL_qR, aR_qR, nx_mk, kd_mk, ln_mk, fI_mk, fL_mk, fR_mk, aI_mk, aL_mk, aR_mk, false_and, and_false, if_false, if_true, and_self, Int.reduceEq, Nat.reduceEqDiff, ite_self, MLay_pI, MLay_pL, MLay_qI, MLay_qL, ev_X10_keepKey_37, ev_X10_keepKey_38, ev_X10_keepKey_41, ev_X10_keepKey_42, ev_X10_keepKey_43, ev_X10_keepKey_46, ev_X10_keepKey_47, ev_X10_keepKey_50, ev_X10_keepKey_51, ev_X10_keepKey_54, ev_X10_keepKey_55, ev_X10_keepKey_56, ev_X10_keepKey_57, ev_X10_keepKey_58, ev_X10_keepKey_59, ev_X10_keepKey_60, ev_X10_keepKey_63, ev_X10_keepKey_64, ev_X10_keepKey_67, ev_X10_keepKey_68, ev_X10_keepKey_70, ev_X10_keepKey_72, ev_X10_keepKey_75, ev_X10_keepKey_76, ev_X10_keepKey_79, ev_X10_keepKey_80, ev_X10_keepKey_81, ev_X10_keepKey_84, ev_X10_keepKey_85, ev_X10_keepKey_88, xt_X10_keepKey, xf_X10_keepKey, hk, hC.eqs, hq, hcm]
    try simp (disch := omega) only [wI_id, dv_nn, rm_nn]
    repeat' (first | intro z | apply And.intro)
    all_goals try omega
    all_goals try contradiction
    all_goals exact h
  have hlt : ∀ (j : Nat) (y : Int), j < a → ks[j]? = some y → y < k := fun j y hj hy => by
    have := hlow j y hj hy
    by_cases e : y = k
    · have := this.2 e
      exact absurd ⟨by omega, by rw [show a - 1 = j by omega, hy, e]⟩ c
    · omega
  have w75 : Go M_X10_keepKey Q 75 [some (vr 4), some (vl (BitVec.ofInt 64 k)), none, some (vi a), some (vi 0), none] [] σ (0, 0) := by
    by_cases c2 : a = 200
    · have h := h σ ks (Fz.rf σ) hM (hS.has (Or.inr ⟨by omega, fun y hy => by
        obtain ⟨j, hj⟩ := List.getElem?_of_mem hy
        have := (List.getElem?_eq_some_iff.mp hj).1
        exact hlt j y (by omega) hj⟩))
      clear hM hS hab hbe hlow hg hord hlt
      subst c2
      refine go_X10_keepKey (ct := fun p => p == 89) 60 ?_
      simp only [oI, oL, oR, o1, lI, lL, lR, popN, catS, gv, stL, stL2, swt, cnd, spObj, List.getElem?_cons_zero, List.getElem?_cons_succ, List.getD_cons_zero, List.getD_cons_succ, List.set_cons_zero, List.set_cons_succ, List.nil_append, List.cons_append, Option.toList, Bool.or_false, Bool.false_or, Bool.or_true, Bool.true_or, Nat.reduceBEq, Nat.reduceAdd, Nat.reduceLT, Nat.reduceLeDiff, Int.reduceAdd, Int.reduceToNat, true_and, and_true, Fin.isValue, Fin.val_zero, Fin.val_one, Fin.val_two, Fin.reduceFinMk, eq_self, Int.reduceNeg, imp_self, Nat.reduceMul, Nat.le_refl, not_true_eq_false, not_false_eq_true, List.getElem?_nil, reduceCtorEq, true_or, or_true, Classical.not_not, implies_true, or_self, wI_0, wI_1, wI_m1, b2i_w, b2i_eq0, b2i_eq1, b2i_bool, nor_self, nx_pI, kd_pI, ln_pI, fI_pI, fL_pI, fR_pI, aI_pI, aL_pI, aR_pI, nx_pL, kd_pL, ln_pL, fI_pL, fL_pL, fR_pL, aI_pL, aL_pL, aR_pL, nx_pR, kd_pR, ln_pR, fI_pR, fL_pR, fR_pR, aI_pR, aL_pR, aR_pR, nx_qI, kd_qI, ln_qI, fI_qI, fL_qI, fR_qI, aI_qI, aL_qI, aR_qI, nx_qL, kd_qL, ln_qL, fI_qL, fL_qL, fR_qL, aI_qL, aL_qL, aR_qL, nx_qR, kd_qR, ln_qR, fI_qR, fL_qR, fR_qR, aI_qR, aL_qR, aR_qR, nx_mk, kd_mk, ln_mk, fI_mk, fL_mk, fR_mk, aI_mk, aL_mk, aR_mk, false_and, and_false, if_false, if_true, and_self, Int.reduceEq, Nat.reduceEqDiff, ite_self, MLay_pI, MLay_pL, MLay_qI, MLay_qL, ev_X10_keepKey_75, ev_X10_keepKey_76, ev_X10_keepKey_79, ev_X10_keepKey_80, ev_X10_keepKey_81, ev_X10_keepKey_84, ev_X10_keepKey_85, ev_X10_keepKey_88, xt_X10_keepKey, xf_X10_keepKey, hk, hC.eqs]
      try simp (disch := omega) only [wI_id, dv_nn, rm_nn]
      repeat' (first | intro z | apply And.intro)
      all_goals try omega
      all_goals try contradiction
      all_goals exact h
    · have hS' : SgK S (ks.take a ++ ks.drop a) := by rw [List.take_append_drop]; exact hS
      have hta : (ks.take a).length = a := by rw [List.length_take]; omega
      have hins := hS'.ins (k := k) (fun y hy => by
        obtain ⟨j, hj⟩ := List.getElem?_of_mem hy
        have hj2 := (List.getElem?_eq_some_iff.mp hj).1
        rw [List.getElem?_take_of_lt (by omega)] at hj
        exact hlt j y (by omega) hj) (fun y hy => by
        obtain ⟨j, hj⟩ := List.getElem?_of_mem hy
        rw [List.getElem?_drop] at hj
        exact hab (a + j) y (by omega) hj) (by omega)
      rw [hta] at hins
      have hlen : (ks.take a ++ k :: (ks.drop a).take (199 - a)).length = if ks.length < 200 then ks.length + 1 else ks.length := by
        rw [List.length_append, List.length_cons, List.length_take, List.length_take, List.length_drop]
        split <;> omega
      have fin : ∀ ρ, Fz [] noR (fun r => r = 14) σ ρ → (∀ j, aL ρ 14 j = if (a : Int) < j ∧ j ≤ (if (ks.length : Int) < 200 then (ks.length : Int) else 199) then aL σ 14 (j - 1) else aL σ 14 j) → Q none (pI (qL ρ 14 a (BitVec.ofInt 64 k)) 1109 4 (if (ks.length : Int) < 200 then (ks.length : Int) + 1 else ks.length)) := fun ρ z hj => by
        refine h _ (ks.take a ++ k :: (ks.drop a).take (199 - a)) (((z.up (fun f q => absurd q List.not_mem_nil) (fun r q => q) (fun r q => q)).tr (Fz_qL _ _ _ rfl)).tr (Fz_pI _ _ _ (by decide))) ⟨?_, ?_, fun j y hy => ?_⟩ hins
        · rw [fI_pI, if_pos ⟨rfl, rfl⟩, hlen]
          by_cases q : ks.length < 200
          · rw [if_pos q, if_pos (by omega)]; omega
          · rw [if_neg q, if_neg (by omega)]
        · rw [hlen]; split <;> omega
        · rw [aL_pI, aL_qL]
          rw [List.getElem?_append] at hy
          by_cases q1 : j < a
          · rw [if_pos (by omega), List.getElem?_take_of_lt q1] at hy
            rw [if_neg (by omega), hj, if_neg (by omega)]
            exact hg j y hy
          · rw [if_neg (by omega), hta] at hy
            by_cases q2 : j = a
            · rw [q2, Nat.sub_self] at hy
              have hy : some k = some y := hy
              cases hy
              rw [if_pos ⟨rfl, by rw [q2]⟩]
              exact ⟨hkk, rfl⟩
            · obtain ⟨t, ht⟩ : ∃ t, j - a = t + 1 := ⟨j - a - 1, by omega⟩
              rw [ht, List.getElem?_cons_succ] at hy
              have ht2 := (List.getElem?_eq_some_iff.mp hy).1
              rw [List.length_take, List.length_drop] at ht2
              rw [List.getElem?_take_of_lt (by omega), List.getElem?_drop] at hy
              have g := hg _ _ hy
              rw [if_neg (by omega), hj, if_pos (by split <;> omega)]
              have e : (((a + t : Nat)) : Int) = (j : Int) - 1 := by omega
              rw [e] at g
              exact g
      have w113 := kk_113 hk hC (ks := ks) (v := BitVec.ofInt 64 k) ⟨hf, hl⟩ (a := a) (top := if (ks.length : Int) < 200 then (ks.length : Int) else 199) (by split <;> omega) (by split <;> omega) fin ((if (ks.length : Int) < 200 then (ks.length : Int) else 199) - a).toNat (if (ks.length : Int) < 200 then (ks.length : Int) else 199) σ (by split <;> omega) (Int.le_refl _) (Fz.rf σ) (fun j => by rw [if_neg (by omega)])
      clear h hM hS hab hbe hlow hg hord hlt hS' hins hlen fin
      by_cases c3 : (ks.length : Int) < 200
      · rw [if_pos c3] at w113
        refine go_X10_keepKey (ct := fun p => p == 88 || p == 108 || p == 117) 60 ?_
        simp only [oI, oL, oR, o1, lI, lL, lR, popN, catS, gv, stL, stL2, swt, cnd, spObj, List.getElem?_cons_zero, List.getElem?_cons_succ, List.getD_cons_zero, List.getD_cons_succ, List.set_cons_zero, List.set_cons_succ, List.nil_append, List.cons_append, Option.toList, Bool.or_false, Bool.false_or, Bool.or_true, Bool.true_or, Nat.reduceBEq, Nat.reduceAdd, Nat.reduceLT, Nat.reduceLeDiff, Int.reduceAdd, Int.reduceToNat, true_and, and_true, Fin.isValue, Fin.val_zero, Fin.val_one, Fin.val_two, Fin.reduceFinMk, eq_self, Int.reduceNeg, imp_self, Nat.reduceMul, Nat.le_refl, not_true_eq_false, not_false_eq_true, List.getElem?_nil, reduceCtorEq, true_or, or_true, Classical.not_not, implies_true, or_self, wI_0, wI_1, wI_m1, b2i_w, b2i_eq0, b2i_eq1, b2i_bool, nor_self, nx_pI, kd_pI, ln_pI, fI_pI, fL_pI, fR_pI, aI_pI, aL_pI, aR_pI, nx_pL, kd_pL, ln_pL, fI_pL, fL_pL, fR_pL, aI_pL, aL_pL, aR_pL, nx_pR, kd_pR, ln_pR, fI_pR, fL_pR, fR_pR, aI_pR, aL_pR, aR_pR, nx_qI, kd_qI, ln_qI, fI_qI, fL_qI, fR_qI, aI_qI, aL_qI, aR_qI, nx_qL, kd_qL, ln_qL, fI_qL, fL_qL, fR_qL, aI_qL, aL_qL, aR_qL, nx_qR, kd_qR, ln_qR, fI_qR, fL_qR, fR_qR, aI_qR, aL_qR, aR_qR, nx_mk, kd_mk, ln_mk, fI_mk, fL_mk, fR_mk, aI_mk, aL_mk, aR_mk, false_and, and_false, if_false, if_true, and_self, Int.reduceEq, Nat.reduceEqDiff, ite_self, MLay_pI, MLay_pL, MLay_qI, MLay_qL, ev_X10_keepKey_75, ev_X10_keepKey_76, ev_X10_keepKey_79, ev_X10_keepKey_80, ev_X10_keepKey_81, ev_X10_keepKey_84, ev_X10_keepKey_85, ev_X10_keepKey_88, ev_X10_keepKey_89, ev_X10_keepKey_90, ev_X10_keepKey_93, ev_X10_keepKey_94, ev_X10_keepKey_97, ev_X10_keepKey_98, ev_X10_keepKey_101, ev_X10_keepKey_102, ev_X10_keepKey_105, ev_X10_keepKey_108, ev_X10_keepKey_109, ev_X10_keepKey_112, ev_X10_keepKey_113, ev_X10_keepKey_114, ev_X10_keepKey_115, xt_X10_keepKey, xf_X10_keepKey, hk, hC.eqs, hf]
        try simp (disch := omega) only [wI_id, dv_nn, rm_nn]
        repeat' (first | intro z | apply And.intro)
        all_goals try omega
        all_goals try contradiction
        all_goals exact w113
      · rw [if_neg c3] at w113
        refine go_X10_keepKey (ct := fun p => p == 88 || p == 101 || p == 117) 60 ?_
        simp only [oI, oL, oR, o1, lI, lL, lR, popN, catS, gv, stL, stL2, swt, cnd, spObj, List.getElem?_cons_zero, List.getElem?_cons_succ, List.getD_cons_zero, List.getD_cons_succ, List.set_cons_zero, List.set_cons_succ, List.nil_append, List.cons_append, Option.toList, Bool.or_false, Bool.false_or, Bool.or_true, Bool.true_or, Nat.reduceBEq, Nat.reduceAdd, Nat.reduceLT, Nat.reduceLeDiff, Int.reduceAdd, Int.reduceToNat, true_and, and_true, Fin.isValue, Fin.val_zero, Fin.val_one, Fin.val_two, Fin.reduceFinMk, eq_self, Int.reduceNeg, imp_self, Nat.reduceMul, Nat.le_refl, not_true_eq_false, not_false_eq_true, List.getElem?_nil, reduceCtorEq, true_or, or_true, Classical.not_not, implies_true, or_self, wI_0, wI_1, wI_m1, b2i_w, b2i_eq0, b2i_eq1, b2i_bool, nor_self, nx_pI, kd_pI, ln_pI, fI_pI, fL_pI, fR_pI, aI_pI, aL_pI, aR_pI, nx_pL, kd_pL, ln_pL, fI_pL, fL_pL, fR_pL, aI_pL, aL_pL, aR_pL, nx_pR, kd_pR, ln_pR, fI_pR, fL_pR, fR_pR, aI_pR, aL_pR, aR_pR, nx_qI, kd_qI, ln_qI, fI_qI, fL_qI, fR_qI, aI_qI, aL_qI, aR_qI, nx_qL, kd_qL, ln_qL, fI_qL, fL_qL, fR_qL, aI_qL, aL_qL, aR_qL, nx_qR, kd_qR, ln_qR, fI_qR, fL_qR, fR_qR, aI_qR, aL_qR, aR_qR, nx_mk, kd_mk, ln_mk, fI_mk, fL_mk, fR_mk, aI_mk, aL_mk, aR_mk, false_and, and_false, if_false, if_true, and_self, Int.reduceEq, Nat.reduceEqDiff, ite_self, MLay_pI, MLay_pL, MLay_qI, MLay_qL, ev_X10_keepKey_75, ev_X10_keepKey_76, ev_X10_keepKey_79, ev_X10_keepKey_80, ev_X10_keepKey_81, ev_X10_keepKey_84, ev_X10_keepKey_85, ev_X10_keepKey_88, ev_X10_keepKey_89, ev_X10_keepKey_90, ev_X10_keepKey_93, ev_X10_keepKey_94, ev_X10_keepKey_97, ev_X10_keepKey_98, ev_X10_keepKey_101, ev_X10_keepKey_102, ev_X10_keepKey_105, ev_X10_keepKey_108, ev_X10_keepKey_109, ev_X10_keepKey_112, ev_X10_keepKey_113, ev_X10_keepKey_114, ev_X10_keepKey_115, xt_X10_keepKey, xf_X10_keepKey, hk, hC.eqs, hf]
        try simp (disch := omega) only [wI_id, dv_nn, rm_nn]
        repeat' (first | intro z | apply And.intro)
        all_goals try omega
        all_goals try contradiction
        all_goals exact w113
  by_cases c4 : 0 < a
  · have he : ks[a - 1]? = some (ks[a - 1]'(by omega)) := List.getElem?_eq_getElem (by omega)
    have hy := hg _ _ he
    have hlt2 := hlt (a - 1) _ (by omega) he
    generalize ks[a - 1]'(by omega) = y at *
    have e1 : (((a - 1 : Nat)) : Int) = (a : Int) - 1 := by omega
    rw [e1] at hy
    have hcm := cmL_k hy.1 hkk
    rw [if_neg (by omega), if_neg (by omega)] at hcm
    have hq := hy.2
    clear h hM hS hab hbe hlow hg hord hlt hy he c
    refine go_X10_keepKey (ct := fun p => p == 63 || p == 75 || p == 88) 60 ?_
    simp only [oI, oL, oR, o1, lI, lL, lR, popN, catS, gv, stL, stL2, swt, cnd, spObj, List.getElem?_cons_zero, List.getElem?_cons_succ, List.getD_cons_zero, List.getD_cons_succ, List.set_cons_zero, List.set_cons_succ, List.nil_append, List.cons_append, Option.toList, Bool.or_false, Bool.false_or, Bool.or_true, Bool.true_or, Nat.reduceBEq, Nat.reduceAdd, Nat.reduceLT, Nat.reduceLeDiff, Int.reduceAdd, Int.reduceToNat, true_and, and_true, Fin.isValue, Fin.val_zero, Fin.val_one, Fin.val_two, Fin.reduceFinMk, eq_self, Int.reduceNeg, imp_self, Nat.reduceMul, Nat.le_refl, not_true_eq_false, not_false_eq_true, List.getElem?_nil, reduceCtorEq, true_or, or_true, Classical.not_not, implies_true, or_self, wI_0, wI_1, wI_m1, b2i_w, b2i_eq0, b2i_eq1, b2i_bool, nor_self, nx_pI, kd_pI, ln_pI, fI_pI, fL_pI, fR_pI, aI_pI, aL_pI, aR_pI, nx_pL, kd_pL, ln_pL, fI_pL, fL_pL, fR_pL, aI_pL, aL_pL, aR_pL, nx_pR, kd_pR, ln_pR, fI_pR, fL_pR, fR_pR, aI_pR, aL_pR, aR_pR, nx_qI, kd_qI, ln_qI, fI_qI, fL_qI, fR_qI, aI_qI, aL_qI, aR_qI, nx_qL, kd_qL, ln_qL, fI_qL, fL_qL, fR_qL, aI_qL, aL_qL, aR_qL, nx_qR, kd_qR, ln_qR, fI_qR, fL_qR, fR_qR, aI_qR, aL_qR, aR_qR, nx_mk, kd_mk, ln_mk, fI_mk, fL_mk, fR_mk, aI_mk, aL_mk, aR_mk, false_and, and_false, if_false, if_true, and_self, Int.reduceEq, Nat.reduceEqDiff, ite_self, MLay_pI, MLay_pL, MLay_qI, MLay_qL, ev_X10_keepKey_37, ev_X10_keepKey_38, ev_X10_keepKey_41, ev_X10_keepKey_42, ev_X10_keepKey_43, ev_X10_keepKey_46, ev_X10_keepKey_47, ev_X10_keepKey_50, ev_X10_keepKey_51, ev_X10_keepKey_54, ev_X10_keepKey_55, ev_X10_keepKey_56, ev_X10_keepKey_57, ev_X10_keepKey_58, ev_X10_keepKey_59, ev_X10_keepKey_60, ev_X10_keepKey_63, ev_X10_keepKey_64, ev_X10_keepKey_67, ev_X10_keepKey_68, ev_X10_keepKey_70, ev_X10_keepKey_72, xt_X10_keepKey, xf_X10_keepKey, hk, hC.eqs, hq, hcm]
    try simp (disch := omega) only [wI_id, dv_nn, rm_nn]
    repeat' (first | intro z | apply And.intro)
    all_goals try omega
    all_goals try contradiction
    all_goals first | exact w75 | omega
  · have e0 : a = 0 := by omega
    subst e0
    clear h hM hS hab hbe hlow hg hord hlt c
    refine go_X10_keepKey (ct := fun p => p == 41 || p == 75 || p == 88) 60 ?_
    simp only [oI, oL, oR, o1, lI, lL, lR, popN, catS, gv, stL, stL2, swt, cnd, spObj, List.getElem?_cons_zero, List.getElem?_cons_succ, List.getD_cons_zero, List.getD_cons_succ, List.set_cons_zero, List.set_cons_succ, List.nil_append, List.cons_append, Option.toList, Bool.or_false, Bool.false_or, Bool.or_true, Bool.true_or, Nat.reduceBEq, Nat.reduceAdd, Nat.reduceLT, Nat.reduceLeDiff, Int.reduceAdd, Int.reduceToNat, true_and, and_true, Fin.isValue, Fin.val_zero, Fin.val_one, Fin.val_two, Fin.reduceFinMk, eq_self, Int.reduceNeg, imp_self, Nat.reduceMul, Nat.le_refl, not_true_eq_false, not_false_eq_true, List.getElem?_nil, reduceCtorEq, true_or, or_true, Classical.not_not, implies_true, or_self, wI_0, wI_1, wI_m1, b2i_w, b2i_eq0, b2i_eq1, b2i_bool, nor_self, nx_pI, kd_pI, ln_pI, fI_pI, fL_pI, fR_pI, aI_pI, aL_pI, aR_pI, nx_pL, kd_pL, ln_pL, fI_pL, fL_pL, fR_pL, aI_pL, aL_pL, aR_pL, nx_pR, kd_pR, ln_pR, fI_pR, fL_pR, fR_pR, aI_pR, aL_pR, aR_pR, nx_qI, kd_qI, ln_qI, fI_qI, fL_qI, fR_qI, aI_qI, aL_qI, aR_qI, nx_qL, kd_qL, ln_qL, fI_qL, fL_qL, fR_qL, aI_qL, aL_qL, aR_qL, nx_qR, kd_qR, ln_qR, fI_qR, fL_qR, fR_qR, aI_qR, aL_qR, aR_qR, nx_mk, kd_mk, ln_mk, fI_mk, fL_mk, fR_mk, aI_mk, aL_mk, aR_mk, false_and, and_false, if_false, if_true, and_self, Int.reduceEq, Nat.reduceEqDiff, ite_self, MLay_pI, MLay_pL, MLay_qI, MLay_qL, ev_X10_keepKey_37, ev_X10_keepKey_38, ev_X10_keepKey_41, ev_X10_keepKey_42, ev_X10_keepKey_43, ev_X10_keepKey_46, ev_X10_keepKey_47, ev_X10_keepKey_50, ev_X10_keepKey_51, ev_X10_keepKey_54, ev_X10_keepKey_55, ev_X10_keepKey_56, ev_X10_keepKey_57, ev_X10_keepKey_58, ev_X10_keepKey_59, ev_X10_keepKey_60, ev_X10_keepKey_63, ev_X10_keepKey_64, ev_X10_keepKey_67, ev_X10_keepKey_68, ev_X10_keepKey_70, ev_X10_keepKey_72, xt_X10_keepKey, xf_X10_keepKey]
    try simp (disch := omega) only [wI_id, dv_nn, rm_nn]
    repeat' (first | intro z | apply And.intro)
    all_goals try omega
    all_goals try contradiction
    all_goals first | exact w75 | omega

set_option maxRecDepth 20000 in
theorem c_X10_keepKey : Ct yX10_keepKey cX10_keepKey 6 ((none : Option FieldType)) 1 0 0 sp_X10_keepKey := by
  refine Ct.go (M := M_X10_keepKey) mm_X10_keepKey fun av σ Q h0 => ?_
  obtain ⟨this, v, rfl, hk, h⟩ := el_X10_keepKey h0
  clear h0
  refine ⟨Nat.le_of_ble_eq_true rfl, ?_⟩
  show Go M_X10_keepKey Q 0 [some (vr this), some (vl v), none, none, none, none] [] σ (0, 0)
  obtain ⟨rfl, hC, ks, S, k, hM, hS, hkk, rfl, h⟩ := h
  obtain ⟨hf, hl, hg⟩ := hM
  have hM : KM σ ks := ⟨hf, hl, hg⟩
  have loop : ∀ (a : Nat), a ≤ ks.length → (∀ (j : Nat) (y : Int), a ≤ j → ks[j]? = some y → k < y) → Go M_X10_keepKey Q 5 [some (vr 4), some (vl (BitVec.ofInt 64 k)), none, some (vi a), none, none] [] σ (0, 0) := by
    intro a
    induction a with
    | zero =>
      intro ha hab
      have w := kk_37 hk hC hM hS hkk h 0 ha hab (fun y q => absurd q (Nat.lt_irrefl _))
      clear h hM hS hab hg
      refine go_X10_keepKey (ct := fun p => p == 9 || p == 37) 20 ?_
      simp only [oI, oL, oR, o1, lI, lL, lR, popN, catS, gv, stL, stL2, swt, cnd, spObj, List.getElem?_cons_zero, List.getElem?_cons_succ, List.getD_cons_zero, List.getD_cons_succ, List.set_cons_zero, List.set_cons_succ, List.nil_append, List.cons_append, Option.toList, Bool.or_false, Bool.false_or, Bool.or_true, Bool.true_or, Nat.reduceBEq, Nat.reduceAdd, Nat.reduceLT, Nat.reduceLeDiff, Int.reduceAdd, Int.reduceToNat, true_and, and_true, Fin.isValue, Fin.val_zero, Fin.val_one, Fin.val_two, Fin.reduceFinMk, eq_self, Int.reduceNeg, imp_self, Nat.reduceMul, Nat.le_refl, not_true_eq_false, not_false_eq_true, List.getElem?_nil, reduceCtorEq, true_or, or_true, Classical.not_not, implies_true, or_self, wI_0, wI_1, wI_m1, b2i_w, b2i_eq0, b2i_eq1, b2i_bool, nor_self, nx_pI, kd_pI, ln_pI, fI_pI, fL_pI, fR_pI, aI_pI, aL_pI, aR_pI, nx_pL, kd_pL, ln_pL, fI_pL, fL_pL, fR_pL, aI_pL, aL_pL, aR_pL, nx_pR, kd_pR, ln_pR, fI_pR, fL_pR, fR_pR, aI_pR, aL_pR, aR_pR, nx_qI, kd_qI, ln_qI, fI_qI, fL_qI, fR_qI, aI_qI, aL_qI, aR_qI, nx_qL, kd_qL, ln_qL, fI_qL, fL_qL, fR_qL, aI_qL, aL_qL, aR_qL, nx_qR, kd_qR, ln_qR, fI_qR, fL_qR, fR_qR, aI_qR, aL_qR, aR_qR, nx_mk, kd_mk, ln_mk, fI_mk, fL_mk, fR_mk, aI_mk, aL_mk, aR_mk, false_and, and_false, if_false, if_true, and_self, Int.reduceEq, Nat.reduceEqDiff, ite_self, MLay_pI, MLay_pL, MLay_qI, MLay_qL, ev_X10_keepKey_5, ev_X10_keepKey_6, xt_X10_keepKey, xf_X10_keepKey]
      try simp (disch := omega) only [wI_id, dv_nn, rm_nn]
      repeat' (first | intro z | apply And.intro)
      all_goals try omega
      all_goals try contradiction
      all_goals exact w
    | succ a ih =>
      intro ha hab
      have he : ks[a]? = some (ks[a]'(by omega)) := List.getElem?_eq_getElem (by omega)
      have hy := hg _ _ he
      generalize ks[a]'(by omega) = y at *
      have hcm := cmL_k hy.1 hkk
      have hq := hy.2
      have e1 : ((a + 1 : Nat) : Int) - 1 = a := by omega
      have e2 : ((a + 1 : Nat) : Int) + -1 = a := by omega
      by_cases c : k < y
      · have w := ih (by omega) (fun j z hj hz => by
          by_cases q : j = a
          · rw [q, he] at hz
            cases hz
            exact c
          · exact hab j z (by omega) hz)
        rw [if_pos c] at hcm
        clear h hM hS hab hg ih he hy
        rw [← e1] at hq
        refine go_X10_keepKey (ct := fun p => p == 37 || p == 5) 60 ?_
        simp only [oI, oL, oR, o1, lI, lL, lR, popN, catS, gv, stL, stL2, swt, cnd, spObj, List.getElem?_cons_zero, List.getElem?_cons_succ, List.getD_cons_zero, List.getD_cons_succ, List.set_cons_zero, List.set_cons_succ, List.nil_append, List.cons_append, Option.toList, Bool.or_false, Bool.false_or, Bool.or_true, Bool.true_or, Nat.reduceBEq, Nat.reduceAdd, Nat.reduceLT, Nat.reduceLeDiff, Int.reduceAdd, Int.reduceToNat, true_and, and_true, Fin.isValue, Fin.val_zero, Fin.val_one, Fin.val_two, Fin.reduceFinMk, eq_self, Int.reduceNeg, imp_self, Nat.reduceMul, Nat.le_refl, not_true_eq_false, not_false_eq_true, List.getElem?_nil, reduceCtorEq, true_or, or_true, Classical.not_not, implies_true, or_self, wI_0, wI_1, wI_m1, b2i_w, b2i_eq0, b2i_eq1, b2i_bool, nor_self, nx_pI, kd_pI, ln_pI, fI_pI, fL_pI, fR_pI, aI_pI, aL_pI, aR_pI, nx_pL, kd_pL, ln_pL, fI_pL, fL_pL, fR_pL, aI_pL, aL_pL, aR_pL, nx_pR, kd_pR, ln_pR, fI_pR, fL_pR, fR_pR, aI_pR, aL_pR, aR_pR, nx_qI, kd_qI, ln_qI, fI_qI, fL_qI, fR_qI, aI_qI, aL_qI, aR_qI, nx_qL, kd_qL, ln_qL, fI_qL, fL_qL, fR_qL, aI_qL, aL_qL, aR_qL, nx_qR, kd_qR, ln_qR, fI_qR, fL_qR, fR_qR, aI_qR, aL_qR, aR_qR, nx_mk, kd_mk, ln_mk, fI_mk, fL_mk, fR_mk, aI_mk, aL_mk, aR_mk, false_and, and_false, if_false, if_true, and_self, Int.reduceEq, Nat.reduceEqDiff, ite_self, MLay_pI, MLay_pL, MLay_qI, MLay_qL, ev_X10_keepKey_5, ev_X10_keepKey_6, ev_X10_keepKey_9, ev_X10_keepKey_10, ev_X10_keepKey_11, ev_X10_keepKey_14, ev_X10_keepKey_15, ev_X10_keepKey_18, ev_X10_keepKey_19, ev_X10_keepKey_22, ev_X10_keepKey_23, ev_X10_keepKey_24, ev_X10_keepKey_25, ev_X10_keepKey_26, ev_X10_keepKey_27, ev_X10_keepKey_28, ev_X10_keepKey_31, ev_X10_keepKey_34, xt_X10_keepKey, xf_X10_keepKey, hk, hC.eqs, hq, hcm, e2]
        try simp (disch := omega) only [wI_id, dv_nn, rm_nn]
        repeat' (first | intro z | apply And.intro)
        all_goals try omega
        all_goals try contradiction
        all_goals first | exact w | omega
      · have w := kk_37 hk hC hM hS hkk h (a + 1) ha hab (fun z _ hz => by
          rw [Nat.add_sub_cancel, he] at hz
          cases hz
          omega)
        rw [if_neg c] at hcm
        have hcm2 : wI (cmL (BitVec.ofInt 64 y) (BitVec.ofInt 64 k)) ≤ 0 := by rw [hcm]; split <;> omega
        clear h hM hS hab hg ih he hy hcm
        rw [← e1] at hq
        refine go_X10_keepKey (ct := fun p => p == 37 || p == 31) 60 ?_
        simp only [oI, oL, oR, o1, lI, lL, lR, popN, catS, gv, stL, stL2, swt, cnd, spObj, List.getElem?_cons_zero, List.getElem?_cons_succ, List.getD_cons_zero, List.getD_cons_succ, List.set_cons_zero, List.set_cons_succ, List.nil_append, List.cons_append, Option.toList, Bool.or_false, Bool.false_or, Bool.or_true, Bool.true_or, Nat.reduceBEq, Nat.reduceAdd, Nat.reduceLT, Nat.reduceLeDiff, Int.reduceAdd, Int.reduceToNat, true_and, and_true, Fin.isValue, Fin.val_zero, Fin.val_one, Fin.val_two, Fin.reduceFinMk, eq_self, Int.reduceNeg, imp_self, Nat.reduceMul, Nat.le_refl, not_true_eq_false, not_false_eq_true, List.getElem?_nil, reduceCtorEq, true_or, or_true, Classical.not_not, implies_true, or_self, wI_0, wI_1, wI_m1, b2i_w, b2i_eq0, b2i_eq1, b2i_bool, nor_self, nx_pI, kd_pI, ln_pI, fI_pI, fL_pI, fR_pI, aI_pI, aL_pI, aR_pI, nx_pL, kd_pL, ln_pL, fI_pL, fL_pL, fR_pL, aI_pL, aL_pL, aR_pL, nx_pR, kd_pR, ln_pR, fI_pR, fL_pR, fR_pR, aI_pR, aL_pR, aR_pR, nx_qI, kd_qI, ln_qI, fI_qI, fL_qI, fR_qI, aI_qI, aL_qI, aR_qI, nx_qL, kd_qL, ln_qL, fI_qL, fL_qL, fR_qL, aI_qL, aL_qL, aR_qL, nx_qR, kd_qR, ln_qR, fI_qR, fL_qR, fR_qR, aI_qR, aL_qR, aR_qR, nx_mk, kd_mk, ln_mk, fI_mk, fL_mk, fR_mk, aI_mk, aL_mk, aR_mk, false_and, and_false, if_false, if_true, and_self, Int.reduceEq, Nat.reduceEqDiff, ite_self, MLay_pI, MLay_pL, MLay_qI, MLay_qL, ev_X10_keepKey_5, ev_X10_keepKey_6, ev_X10_keepKey_9, ev_X10_keepKey_10, ev_X10_keepKey_11, ev_X10_keepKey_14, ev_X10_keepKey_15, ev_X10_keepKey_18, ev_X10_keepKey_19, ev_X10_keepKey_22, ev_X10_keepKey_23, ev_X10_keepKey_24, ev_X10_keepKey_25, ev_X10_keepKey_26, ev_X10_keepKey_27, ev_X10_keepKey_28, ev_X10_keepKey_31, ev_X10_keepKey_34, xt_X10_keepKey, xf_X10_keepKey, hk, hC.eqs, hq]
        try simp (disch := omega) only [wI_id, dv_nn, rm_nn]
        repeat' (first | intro z | apply And.intro)
        all_goals try omega
        all_goals try contradiction
        all_goals first | exact w | omega
  have w := loop ks.length (Nat.le_refl _) (fun j y hj hy => by
    have := (List.getElem?_eq_some_iff.mp hy).1
    omega)
  clear loop h hM hS hg
  refine go_X10_keepKey (ct := fun p => p == 5) 20 ?_
  simp only [oI, oL, oR, o1, lI, lL, lR, popN, catS, gv, stL, stL2, swt, cnd, spObj, List.getElem?_cons_zero, List.getElem?_cons_succ, List.getD_cons_zero, List.getD_cons_succ, List.set_cons_zero, List.set_cons_succ, List.nil_append, List.cons_append, Option.toList, Bool.or_false, Bool.false_or, Bool.or_true, Bool.true_or, Nat.reduceBEq, Nat.reduceAdd, Nat.reduceLT, Nat.reduceLeDiff, Int.reduceAdd, Int.reduceToNat, true_and, and_true, Fin.isValue, Fin.val_zero, Fin.val_one, Fin.val_two, Fin.reduceFinMk, eq_self, Int.reduceNeg, imp_self, Nat.reduceMul, Nat.le_refl, not_true_eq_false, not_false_eq_true, List.getElem?_nil, reduceCtorEq, true_or, or_true, Classical.not_not, implies_true, or_self, wI_0, wI_1, wI_m1, b2i_w, b2i_eq0, b2i_eq1, b2i_bool, nor_self, nx_pI, kd_pI, ln_pI, fI_pI, fL_pI, fR_pI, aI_pI, aL_pI, aR_pI, nx_pL, kd_pL, ln_pL, fI_pL, fL_pL, fR_pL, aI_pL, aL_pL, aR_pL, nx_pR, kd_pR, ln_pR, fI_pR, fL_pR, fR_pR, aI_pR, aL_pR, aR_pR, nx_qI, kd_qI, ln_qI, fI_qI, fL_qI, fR_qI, aI_qI, aL_qI, aR_qI, nx_qL, kd_qL, ln_qL, fI_qL, fL_qL, fR_qL, aI_qL, aL_qL, aR_qL, nx_qR, kd_qR, ln_qR, fI_qR, fL_qR, fR_qR, aI_qR, aL_qR, aR_qR, nx_mk, kd_mk, ln_mk, fI_mk, fL_mk, fR_mk, aI_mk, aL_mk, aR_mk, false_and, and_false, if_false, if_true, and_self, Int.reduceEq, Nat.reduceEqDiff, ite_self, MLay_pI, MLay_pL, MLay_qI, MLay_qL, ev_X10_keepKey_0, ev_X10_keepKey_1, ev_X10_keepKey_4, xt_X10_keepKey, xf_X10_keepKey, hk, hf]
  repeat' (first | intro z | apply And.intro)
  all_goals try omega
  all_goals try contradiction
  all_goals exact w
