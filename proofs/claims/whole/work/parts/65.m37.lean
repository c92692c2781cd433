/-! the reference: which box to ask for -/

def mIn (σ : Hp) (b i : Int) : Prop := bE (fI σ 1323 61) fun j => aI σ 80 (3 * i + j) = b
noncomputable def mHave (σ : Hp) (b : Int) : Int := hwM (fun i => mIn σ b i) (fI σ 1322 61).toNat
noncomputable def mGrt (σ : Hp) (b : Int) : Int := if mHave σ b < fI σ 1322 61 - mHave σ b then fI σ 1322 61 - mHave σ b else mHave σ b
/-- the best of the first boxes along the loop, and its greater number -/
noncomputable def mAsk (σ : Hp) : Nat → Int × Int
  | 0 => (-1, 0)
  | k + 1 => if 0 ≤ (mAsk σ k).1 ∧ (mAsk σ k).2 ≤ mGrt σ (aI σ 75 (12 * fI σ 1321 61 + k)) then mAsk σ k else (aI σ 75 (12 * fI σ 1321 61 + k), mGrt σ (aI σ 75 (12 * fI σ 1321 61 + k)))
theorem mHave_in {σ : Hp} (hI : MI σ) (b : Int) : 0 ≤ mHave σ b ∧ mHave σ b ≤ fI σ 1322 61 := by
  have := hI.storyCount_s
  have h := hwM_in (fun i => mIn σ b i) (fI σ 1322 61).toNat
  unfold mHave
  omega
theorem mGrt_in {σ : Hp} (hI : MI σ) (b : Int) : 0 ≤ mGrt σ b ∧ mGrt σ b ≤ 200 := by
  have := hI.storyCount_s
  have h := mHave_in hI b
  unfold mGrt
  split <;> omega
theorem mAsk_in {σ : Hp} (hI : MI σ) : ∀ k : Nat, -1 ≤ (mAsk σ k).1 ∧ (mAsk σ k).1 ≤ 31 ∧ 0 ≤ (mAsk σ k).2 ∧ (mAsk σ k).2 ≤ 200
  | 0 => by unfold mAsk; decide
  | k + 1 => by
    have ih := mAsk_in hI k
    have h1 := hI.boxAt_ (12 * fI σ 1321 61 + k)
    have h2 := mGrt_in hI (aI σ 75 (12 * fI σ 1321 61 + k))
    unfold mAsk
    split
    · exact ih
    · exact ⟨by omega, by omega, by omega, by omega⟩

def sp_X12_ask : Sp := fun av σ Q => oR av fun this av => av = [] ∧ kd σ this = 13 ∧ (this = 61 ∧ MI σ ∧ (2 ≤ fI σ 1322 61 → 0 ≤ fI σ 1321 61) ∧ Q (some (vi (if 2 ≤ fI σ 1322 61 then (mAsk σ (aI σ 74 (fI σ 1321 61)).toNat).1 else -1))) (pI σ 1300 61 0))
theorem us_X12_ask (this : Int) (σ : Hp) (Q : Option AV → Hp → Prop) : sp_X12_ask [vr this] σ Q = (kd σ this = 13 ∧ (this = 61 ∧ MI σ ∧ (2 ≤ fI σ 1322 61 → 0 ≤ fI σ 1321 61) ∧ Q (some (vi (if 2 ≤ fI σ 1322 61 then (mAsk σ (aI σ 74 (fI σ 1321 61)).toNat).1 else -1))) (pI σ 1300 61 0))) := propext ⟨fun h => h.2, fun h => ⟨rfl, h⟩⟩
theorem el_X12_ask {av : List AV} {σ : Hp} {Q : Option AV → Hp → Prop} (h : sp_X12_ask av σ Q) : ∃ (this : Int), av = [vr this] ∧ (kd σ this = 13 ∧ (this = 61 ∧ MI σ ∧ (2 ≤ fI σ 1322 61 → 0 ≤ fI σ 1321 61) ∧ Q (some (vi (if 2 ≤ fI σ 1322 61 then (mAsk σ (aI σ 74 (fI σ 1321 61)).toNat).1 else -1))) (pI σ 1300 61 0))) := by
  obtain ⟨this, a0, rfl, h0⟩ := oR_s h
  obtain ⟨rfl, hz⟩ := h0
  exact ⟨this, rfl, hz⟩
theorem rc_X12_ask : ∀ (av : List AV) (σ : Hp) (Q : Option AV → Hp → Prop), sp_X12_ask av σ Q → ∃ r tl, av = vr r :: tl ∧ kd σ r = 12 + 1 := fun av σ Q h => by
  obtain ⟨this, rfl, hz, -⟩ := el_X12_ask h
  exact ⟨this, _, rfl, hz⟩

def tb_X12_ask : Tab := [(0, .aload_n 0, 1, (0, 0, 0, 0)), (1, .iconst 0, 1, (0, 0, 0, 0)), (2, .putfield 196, 3, (13, 1300, 0, 0)), (5, .aload_n 0, 1, (0, 0, 0, 0)), (6, .getfield 250, 3, (13, 1322, 0, 0)), (9, .iconst 2, 1, (0, 0, 0, 0)), (10, .if_icmp .ge 5, 3, (0, 0, 0, 0)), (13, .iconst (-1), 1, (0, 0, 0, 0)), (14, .ireturn, 1, (0, 0, 0, 0)), (15, .iconst (-1), 1, (0, 0, 0, 0)), (16, .istore_n 1, 1, (0, 0, 0, 0)), (17, .iconst 0, 1, (0, 0, 0, 0)), (18, .istore_n 2, 1, (0, 0, 0, 0)), (19, .iconst 0, 1, (0, 0, 0, 0)), (20, .istore_n 3, 1, (0, 0, 0, 0)), (21, .iload_n 3, 1, (0, 0, 0, 0)), (22, .aload_n 0, 1, (0, 0, 0, 0)), (23, .getfield 47, 3, (13, 1315, 2, 0)), (26, .aload_n 0, 1, (0, 0, 0, 0)), (27, .getfield 193, 3, (13, 1321, 0, 0)), (30, .iaload, 1, (0, 0, 0, 0)), (31, .if_icmp .ge 137, 3, (0, 0, 0, 0)), (34, .aload_n 0, 1, (0, 0, 0, 0)), (35, .getfield 50, 3, (13, 1316, 2, 0)), (38, .bipush 12, 2, (0, 0, 0, 0)), (40, .aload_n 0, 1, (0, 0, 0, 0)), (41, .getfield 193, 3, (13, 1321, 0, 0)), (44, .imul, 1, (0, 0, 0, 0)), (45, .iload_n 3, 1, (0, 0, 0, 0)), (46, .iadd, 1, (0, 0, 0, 0)), (47, .iaload, 1, (0, 0, 0, 0)), (48, .istore 4, 2, (0, 0, 0, 0)), (50, .iconst 0, 1, (0, 0, 0, 0)), (51, .istore 5, 2, (0, 0, 0, 0)), (53, .iconst 0, 1, (0, 0, 0, 0)), (54, .istore 6, 2, (0, 0, 0, 0)), (56, .iload 6, 2, (0, 0, 0, 0)), (58, .aload_n 0, 1, (0, 0, 0, 0)), (59, .getfield 250, 3, (13, 1322, 0, 0)), (62, .if_icmp .ge 67, 3, (0, 0, 0, 0)), (65, .iconst 0, 1, (0, 0, 0, 0)), (66, .istore 7, 2, (0, 0, 0, 0)), (68, .iconst 0, 1, (0, 0, 0, 0)), (69, .istore 8, 2, (0, 0, 0, 0)), (71, .iload 8, 2, (0, 0, 0, 0)), (73, .aload_n 0, 1, (0, 0, 0, 0)), (74, .getfield 273, 3, (13, 1323, 0, 0)), (77, .if_icmp .ge 38, 3, (0, 0, 0, 0)), (80, .iload 7, 2, (0, 0, 0, 0)), (82, .ifCond .ne 20, 3, (0, 0, 0, 0)), (85, .aload_n 0, 1, (0, 0, 0, 0)), (86, .getfield 65, 3, (13, 1324, 2, 0)), (89, .iconst 3, 1, (0, 0, 0, 0)), (90, .iload 6, 2, (0, 0, 0, 0)), (92, .imul, 1, (0, 0, 0, 0)), (93, .iload 8, 2, (0, 0, 0, 0)), (95, .iadd, 1, (0, 0, 0, 0)), (96, .iaload, 1, (0, 0, 0, 0)), (97, .iload 4, 2, (0, 0, 0, 0)), (99, .if_icmp .ne 7, 3, (0, 0, 0, 0)), (102, .iconst 1, 1, (0, 0, 0, 0)), (103, .goto 4, 3, (0, 0, 0, 0)), (106, .iconst 0, 1, (0, 0, 0, 0)), (107, .istore 7, 2, (0, 0, 0, 0)), (109, .iinc 8 1, 3, (0, 0, 0, 0)), (112, .goto (-41), 3, (0, 0, 0, 0)), (115, .iload 7, 2, (0, 0, 0, 0)), (117, .ifCond .eq 6, 3, (0, 0, 0, 0)), (120, .iinc 5 1, 3, (0, 0, 0, 0)), (123, .iinc 6 1, 3, (0, 0, 0, 0)), (126, .goto (-70), 3, (0, 0, 0, 0)), (129, .iload 5, 2, (0, 0, 0, 0)), (131, .aload_n 0, 1, (0, 0, 0, 0)), (132, .getfield 250, 3, (13, 1322, 0, 0)), (135, .iload 5, 2, (0, 0, 0, 0)), (137, .isub, 1, (0, 0, 0, 0)), (138, .invokestatic 285, 3, (0, 0, 0, 0)), (141, .istore 6, 2, (0, 0, 0, 0)), (143, .iload_n 1, 1, (0, 0, 0, 0)), (144, .ifCond .lt 12, 3, (0, 0, 0, 0)), (147, .iload 6, 2, (0, 0, 0, 0)), (149, .iload_n 2, 1, (0, 0, 0, 0)), (150, .if_icmp .lt 6, 3, (0, 0, 0, 0)), (153, .goto 9, 3, (0, 0, 0, 0)), (156, .iload 4, 2, (0, 0, 0, 0)), (158, .istore_n 1, 1, (0, 0, 0, 0)), (159, .iload 6, 2, (0, 0, 0, 0)), (161, .istore_n 2, 1, (0, 0, 0, 0)), (162, .iinc 3 1, 3, (0, 0, 0, 0)), (165, .goto (-144), 3, (0, 0, 0, 0)), (168, .iload_n 1, 1, (0, 0, 0, 0)), (169, .ireturn, 1, (0, 0, 0, 0))]
set_option maxRecDepth 100000 in
theorem tk_X12_ask : TOK RX12 false cX12_ask tb_X12_ask := chkT_ok ft_X12 (by decide +kernel)
theorem rw_X12_2281 : Row RX12 (.invokestatic 285) 3 2 0 0 1 sp_J9_max_7cf53 := row_S c_J9_max_7cf53 ⟨TBL_in 1875 (by decide +kernel) rfl, TBL_in 652 (by decide +kernel) rfl, TBL_in 128 (by decide +kernel) rfl, by decide +kernel, by decide⟩ (TBL_in 651 (by decide +kernel) rfl)
def mt_X12_ask : List (Nat × Mt) := [(2281, 2, 0, 0, 1, sp_J9_max_7cf53)]
theorem em_X12_ask : mt_X12_ask.lookup 2281 = some (2, 0, 0, 1, sp_J9_max_7cf53) := rfl
theorem mk_X12_ask : MOK RX12 mt_X12_ask := by
  intro q hq
  simp only [mt_X12_ask, List.mem_cons, List.not_mem_nil, or_false] at hq
  rcases hq with rfl
  · exact rw_X12_2281
noncomputable def xe_X12_ask (ct : Nat → Bool) (K : Kt) (R : Option AV → Hp → Prop) (n : Nat) : Kt := exS 9 2 0 0 1 tb_X12_ask mt_X12_ask ct K R n
noncomputable def xk_X12_ask (ct : Nat → Bool) (K : Kt) (R : Option AV → Hp → Prop) (n : Nat) : Kt := exkS 9 2 0 0 1 tb_X12_ask mt_X12_ask ct K R n
theorem xt_X12_ask {ct : Nat → Bool} {K : Kt} {R : Option AV → Hp → Prop} {n pc : Nat} {ls : List (Option AV)} {st : List AV} {σ : Hp} {k : Nat × Nat} (h : ct pc = true) : xk_X12_ask ct K R n pc ls st σ k = K pc ls st σ k := by unfold xk_X12_ask exkS; rw [h]
theorem xf_X12_ask {ct : Nat → Bool} {K : Kt} {R : Option AV → Hp → Prop} {n pc : Nat} {ls : List (Option AV)} {st : List AV} {σ : Hp} {k : Nat × Nat} (h : ct pc = false) : xk_X12_ask ct K R n pc ls st σ k = xe_X12_ask ct K R n pc ls st σ k := by unfold xk_X12_ask exkS xe_X12_ask; rw [h]
theorem ev_X12_ask_0 {ct : Nat → Bool} {K : Kt} {R : Option AV → Hp → Prop} {n : Nat} {ls : List (Option AV)} {st : List AV} {σ : Hp} {k : Nat × Nat} : xe_X12_ask ct K R (n + 1) 0 ls st σ k = (lR ls 0 fun x => xk_X12_ask ct K R n 1 ls (vr x :: st) σ k) := exS_step.trans rfl
theorem ev_X12_ask_1 {ct : Nat → Bool} {K : Kt} {R : Option AV → Hp → Prop} {n : Nat} {ls : List (Option AV)} {st : List AV} {σ : Hp} {k : Nat × Nat} : xe_X12_ask ct K R (n + 1) 1 ls st σ k = (xk_X12_ask ct K R n 2 ls (vi (0) :: st) σ k) := exS_step.trans rfl
theorem ev_X12_ask_2 {ct : Nat → Bool} {K : Kt} {R : Option AV → Hp → Prop} {n : Nat} {ls : List (Option AV)} {st : List AV} {σ : Hp} {k : Nat × Nat} : xe_X12_ask ct K R (n + 1) 2 ls st σ k = (oI st fun v st => oR st fun x st => kd σ x = 13 ∧ xk_X12_ask ct K R n 5 ls st (pI σ 1300 x v) k) := exS_step.trans rfl
theorem ev_X12_ask_5 {ct : Nat → Bool} {K : Kt} {R : Option AV → Hp → Prop} {n : Nat} {ls : List (Option AV)} {st : List AV} {σ : Hp} {k : Nat × Nat} : xe_X12_ask ct K R (n + 1) 5 ls st σ k = (lR ls 0 fun x => xk_X12_ask ct K R n 6 ls (vr x :: st) σ k) := exS_step.trans rfl
theorem ev_X12_ask_6 {ct : Nat → Bool} {K : Kt} {R : Option AV → Hp → Prop} {n : Nat} {ls : List (Option AV)} {st : List AV} {σ : Hp} {k : Nat × Nat} : xe_X12_ask ct K R (n + 1) 6 ls st σ k = (oR st fun x st => kd σ x = 13 ∧ xk_X12_ask ct K R n 9 ls (vi (fI σ 1322 x) :: st) σ k) := exS_step.trans rfl
theorem ev_X12_ask_9 {ct : Nat → Bool} {K : Kt} {R : Option AV → Hp → Prop} {n : Nat} {ls : List (Option AV)} {st : List AV} {σ : Hp} {k : Nat × Nat} : xe_X12_ask ct K R (n + 1) 9 ls st σ k = (xk_X12_ask ct K R n 10 ls (vi (2) :: st) σ k) := exS_step.trans rfl
theorem ev_X12_ask_10 {ct : Nat → Bool} {K : Kt} {R : Option AV → Hp → Prop} {n : Nat} {ls : List (Option AV)} {st : List AV} {σ : Hp} {k : Nat × Nat} : xe_X12_ask ct K R (n + 1) 10 ls st σ k = (oI st fun y st => oI st fun x st => (wI y ≤ wI x → xk_X12_ask ct K R n 15 ls st σ k) ∧ (¬ (wI y ≤ wI x) → xk_X12_ask ct K R n 13 ls st σ k)) := exS_step.trans rfl
theorem ev_X12_ask_13 {ct : Nat → Bool} {K : Kt} {R : Option AV → Hp → Prop} {n : Nat} {ls : List (Option AV)} {st : List AV} {σ : Hp} {k : Nat × Nat} : xe_X12_ask ct K R (n + 1) 13 ls st σ k = (xk_X12_ask ct K R n 14 ls (vi (-1) :: st) σ k) := exS_step.trans rfl
theorem ev_X12_ask_14 {ct : Nat → Bool} {K : Kt} {R : Option AV → Hp → Prop} {n : Nat} {ls : List (Option AV)} {st : List AV} {σ : Hp} {k : Nat × Nat} : xe_X12_ask ct K R (n + 1) 14 ls st σ k = (oI st fun x st => st = [] ∧ True ∧ R (some (vi x)) σ) := exS_step.trans rfl
theorem ev_X12_ask_15 {ct : Nat → Bool} {K : Kt} {R : Option AV → Hp → Prop} {n : Nat} {ls : List (Option AV)} {st : List AV} {σ : Hp} {k : Nat × Nat} : xe_X12_ask ct K R (n + 1) 15 ls st σ k = (xk_X12_ask ct K R n 16 ls (vi (-1) :: st) σ k) := exS_step.trans rfl
theorem ev_X12_ask_16 {ct : Nat → Bool} {K : Kt} {R : Option AV → Hp → Prop} {n : Nat} {ls : List (Option AV)} {st : List AV} {σ : Hp} {k : Nat × Nat} : xe_X12_ask ct K R (n + 1) 16 ls st σ k = (oI st fun x st => 1 < 9 ∧ xk_X12_ask ct K R n 17 (stL ls 1 (vi x)) st σ k) := exS_step.trans rfl
theorem ev_X12_ask_17 {ct : Nat → Bool} {K : Kt} {R : Option AV → Hp → Prop} {n : Nat} {ls : List (Option AV)} {st : List AV} {σ : Hp} {k : Nat × Nat} : xe_X12_ask ct K R (n + 1) 17 ls st σ k = (xk_X12_ask ct K R n 18 ls (vi (0) :: st) σ k) := exS_step.trans rfl
theorem ev_X12_ask_18 {ct : Nat → Bool} {K : Kt} {R : Option AV → Hp → Prop} {n : Nat} {ls : List (Option AV)} {st : List AV} {σ : Hp} {k : Nat × Nat} : xe_X12_ask ct K R (n + 1) 18 ls st σ k = (oI st fun x st => 2 < 9 ∧ xk_X12_ask ct K R n 19 (stL ls 2 (vi x)) st σ k) := exS_step.trans rfl
theorem ev_X12_ask_19 {ct : Nat → Bool} {K : Kt} {R : Option AV → Hp → Prop} {n : Nat} {ls : List (Option AV)} {st : List AV} {σ : Hp} {k : Nat × Nat} : xe_X12_ask ct K R (n + 1) 19 ls st σ k = (xk_X12_ask ct K R n 20 ls (vi (0) :: st) σ k) := exS_step.trans rfl
theorem ev_X12_ask_20 {ct : Nat → Bool} {K : Kt} {R : Option AV → Hp → Prop} {n : Nat} {ls : List (Option AV)} {st : List AV} {σ : Hp} {k : Nat × Nat} : xe_X12_ask ct K R (n + 1) 20 ls st σ k = (oI st fun x st => 3 < 9 ∧ xk_X12_ask ct K R n 21 (stL ls 3 (vi x)) st σ k) := exS_step.trans rfl
theorem ev_X12_ask_21 {ct : Nat → Bool} {K : Kt} {R : Option AV → Hp → Prop} {n : Nat} {ls : List (Option AV)} {st : List AV} {σ : Hp} {k : Nat × Nat} : xe_X12_ask ct K R (n + 1) 21 ls st σ k = (lI ls 3 fun x => xk_X12_ask ct K R n 22 ls (vi x :: st) σ k) := exS_step.trans rfl
theorem ev_X12_ask_22 {ct : Nat → Bool} {K : Kt} {R : Option AV → Hp → Prop} {n : Nat} {ls : List (Option AV)} {st : List AV} {σ : Hp} {k : Nat × Nat} : xe_X12_ask ct K R (n + 1) 22 ls st σ k = (lR ls 0 fun x => xk_X12_ask ct K R n 23 ls (vr x :: st) σ k) := exS_step.trans rfl
theorem ev_X12_ask_23 {ct : Nat → Bool} {K : Kt} {R : Option AV → Hp → Prop} {n : Nat} {ls : List (Option AV)} {st : List AV} {σ : Hp} {k : Nat × Nat} : xe_X12_ask ct K R (n + 1) 23 ls st σ k = (oR st fun x st => kd σ x = 13 ∧ xk_X12_ask ct K R n 26 ls (vr (fR σ 1315 x) :: st) σ k) := exS_step.trans rfl
theorem ev_X12_ask_26 {ct : Nat → Bool} {K : Kt} {R : Option AV → Hp → Prop} {n : Nat} {ls : List (Option AV)} {st : List AV} {σ : Hp} {k : Nat × Nat} : xe_X12_ask ct K R (n + 1) 26 ls st σ k = (lR ls 0 fun x => xk_X12_ask ct K R n 27 ls (vr x :: st) σ k) := exS_step.trans rfl
theorem ev_X12_ask_27 {ct : Nat → Bool} {K : Kt} {R : Option AV → Hp → Prop} {n : Nat} {ls : List (Option AV)} {st : List AV} {σ : Hp} {k : Nat × Nat} : xe_X12_ask ct K R (n + 1) 27 ls st σ k = (oR st fun x st => kd σ x = 13 ∧ xk_X12_ask ct K R n 30 ls (vi (fI σ 1321 x) :: st) σ k) := exS_step.trans rfl
theorem ev_X12_ask_30 {ct : Nat → Bool} {K : Kt} {R : Option AV → Hp → Prop} {n : Nat} {ls : List (Option AV)} {st : List AV} {σ : Hp} {k : Nat × Nat} : xe_X12_ask ct K R (n + 1) 30 ls st σ k = (oI st fun j st => oR st fun x st => (kd σ x = 101 ∨ kd σ x = 108) ∧ (0 ≤ j ∧ j < ln σ x) ∧ xk_X12_ask ct K R n 31 ls (vi (aI σ x j) :: st) σ k) := exS_step.trans rfl
theorem ev_X12_ask_31 {ct : Nat → Bool} {K : Kt} {R : Option AV → Hp → Prop} {n : Nat} {ls : List (Option AV)} {st : List AV} {σ : Hp} {k : Nat × Nat} : xe_X12_ask ct K R (n + 1) 31 ls st σ k = (oI st fun y st => oI st fun x st => (wI y ≤ wI x → xk_X12_ask ct K R n 168 ls st σ k) ∧ (¬ (wI y ≤ wI x) → xk_X12_ask ct K R n 34 ls st σ k)) := exS_step.trans rfl
theorem ev_X12_ask_34 {ct : Nat → Bool} {K : Kt} {R : Option AV → Hp → Prop} {n : Nat} {ls : List (Option AV)} {st : List AV} {σ : Hp} {k : Nat × Nat} : xe_X12_ask ct K R (n + 1) 34 ls st σ k = (lR ls 0 fun x => xk_X12_ask ct K R n 35 ls (vr x :: st) σ k) := exS_step.trans rfl
theorem ev_X12_ask_35 {ct : Nat → Bool} {K : Kt} {R : Option AV → Hp → Prop} {n : Nat} {ls : List (Option AV)} {st : List AV} {σ : Hp} {k : Nat × Nat} : xe_X12_ask ct K R (n + 1) 35 ls st σ k = (oR st fun x st => kd σ x = 13 ∧ xk_X12_ask ct K R n 38 ls (vr (fR σ 1316 x) :: st) σ k) := exS_step.trans rfl
theorem ev_X12_ask_38 {ct : Nat → Bool} {K : Kt} {R : Option AV → Hp → Prop} {n : Nat} {ls : List (Option AV)} {st : List AV} {σ : Hp} {k : Nat × Nat} : xe_X12_ask ct K R (n + 1) 38 ls st σ k = (xk_X12_ask ct K R n 40 ls (vi (12) :: st) σ k) := exS_step.trans rfl
theorem ev_X12_ask_40 {ct : Nat → Bool} {K : Kt} {R : Option AV → Hp → Prop} {n : Nat} {ls : List (Option AV)} {st : List AV} {σ : Hp} {k : Nat × Nat} : xe_X12_ask ct K R (n + 1) 40 ls st σ k = (lR ls 0 fun x => xk_X12_ask ct K R n 41 ls (vr x :: st) σ k) := exS_step.trans rfl
theorem ev_X12_ask_41 {ct : Nat → Bool} {K : Kt} {R : Option AV → Hp → Prop} {n : Nat} {ls : List (Option AV)} {st : List AV} {σ : Hp} {k : Nat × Nat} : xe_X12_ask ct K R (n + 1) 41 ls st σ k = (oR st fun x st => kd σ x = 13 ∧ xk_X12_ask ct K R n 44 ls (vi (fI σ 1321 x) :: st) σ k) := exS_step.trans rfl
theorem ev_X12_ask_44 {ct : Nat → Bool} {K : Kt} {R : Option AV → Hp → Prop} {n : Nat} {ls : List (Option AV)} {st : List AV} {σ : Hp} {k : Nat × Nat} : xe_X12_ask ct K R (n + 1) 44 ls st σ k = (oI st fun y st => oI st fun x st => xk_X12_ask ct K R n 45 ls (vi (x * y) :: st) σ k) := exS_step.trans rfl
theorem ev_X12_ask_45 {ct : Nat → Bool} {K : Kt} {R : Option AV → Hp → Prop} {n : Nat} {ls : List (Option AV)} {st : List AV} {σ : Hp} {k : Nat × Nat} : xe_X12_ask ct K R (n + 1) 45 ls st σ k = (lI ls 3 fun x => xk_X12_ask ct K R n 46 ls (vi x :: st) σ k) := exS_step.trans rfl
theorem ev_X12_ask_46 {ct : Nat → Bool} {K : Kt} {R : Option AV → Hp → Prop} {n : Nat} {ls : List (Option AV)} {st : List AV} {σ : Hp} {k : Nat × Nat} : xe_X12_ask ct K R (n + 1) 46 ls st σ k = (oI st fun y st => oI st fun x st => xk_X12_ask ct K R n 47 ls (vi (x + y) :: st) σ k) := exS_step.trans rfl
theorem ev_X12_ask_47 {ct : Nat → Bool} {K : Kt} {R : Option AV → Hp → Prop} {n : Nat} {ls : List (Option AV)} {st : List AV} {σ : Hp} {k : Nat × Nat} : xe_X12_ask ct K R (n + 1) 47 ls st σ k = (oI st fun j st => oR st fun x st => (kd σ x = 101 ∨ kd σ x = 108) ∧ (0 ≤ j ∧ j < ln σ x) ∧ xk_X12_ask ct K R n 48 ls (vi (aI σ x j) :: st) σ k) := exS_step.trans rfl
theorem ev_X12_ask_48 {ct : Nat → Bool} {K : Kt} {R : Option AV → Hp → Prop} {n : Nat} {ls : List (Option AV)} {st : List AV} {σ : Hp} {k : Nat × Nat} : xe_X12_ask ct K R (n + 1) 48 ls st σ k = (oI st fun x st => 4 < 9 ∧ xk_X12_ask ct K R n 50 (stL ls 4 (vi x)) st σ k) := exS_step.trans rfl
theorem ev_X12_ask_50 {ct : Nat → Bool} {K : Kt} {R : Option AV → Hp → Prop} {n : Nat} {ls : List (Option AV)} {st : List AV} {σ : Hp} {k : Nat × Nat} : xe_X12_ask ct K R (n + 1) 50 ls st σ k = (xk_X12_ask ct K R n 51 ls (vi (0) :: st) σ k) := exS_step.trans rfl
theorem ev_X12_ask_51 {ct : Nat → Bool} {K : Kt} {R : Option AV → Hp → Prop} {n : Nat} {ls : List (Option AV)} {st : List AV} {σ : Hp} {k : Nat × Nat} : xe_X12_ask ct K R (n + 1) 51 ls st σ k = (oI st fun x st => 5 < 9 ∧ xk_X12_ask ct K R n 53 (stL ls 5 (vi x)) st σ k) := exS_step.trans rfl
theorem ev_X12_ask_53 {ct : Nat → Bool} {K : Kt} {R : Option AV → Hp → Prop} {n : Nat} {ls : List (Option AV)} {st : List AV} {σ : Hp} {k : Nat × Nat} : xe_X12_ask ct K R (n + 1) 53 ls st σ k = (xk_X12_ask ct K R n 54 ls (vi (0) :: st) σ k) := exS_step.trans rfl
theorem ev_X12_ask_54 {ct : Nat → Bool} {K : Kt} {R : Option AV → Hp → Prop} {n : Nat} {ls : List (Option AV)} {st : List AV} {σ : Hp} {k : Nat × Nat} : xe_X12_ask ct K R (n + 1) 54 ls st σ k = (oI st fun x st => 6 < 9 ∧ xk_X12_ask ct K R n 56 (stL ls 6 (vi x)) st σ k) := exS_step.trans rfl
theorem ev_X12_ask_56 {ct : Nat → Bool} {K : Kt} {R : Option AV → Hp → Prop} {n : Nat} {ls : List (Option AV)} {st : List AV} {σ : Hp} {k : Nat × Nat} : xe_X12_ask ct K R (n + 1) 56 ls st σ k = (lI ls 6 fun x => xk_X12_ask ct K R n 58 ls (vi x :: st) σ k) := exS_step.trans rfl
theorem ev_X12_ask_58 {ct : Nat → Bool} {K : Kt} {R : Option AV → Hp → Prop} {n : Nat} {ls : List (Option AV)} {st : List AV} {σ : Hp} {k : Nat × Nat} : xe_X12_ask ct K R (n + 1) 58 ls st σ k = (lR ls 0 fun x => xk_X12_ask ct K R n 59 ls (vr x :: st) σ k) := exS_step.trans rfl
theorem ev_X12_ask_59 {ct : Nat → Bool} {K : Kt} {R : Option AV → Hp → Prop} {n : Nat} {ls : List (Option AV)} {st : List AV} {σ : Hp} {k : Nat × Nat} : xe_X12_ask ct K R (n + 1) 59 ls st σ k = (oR st fun x st => kd σ x = 13 ∧ xk_X12_ask ct K R n 62 ls (vi (fI σ 1322 x) :: st) σ k) := exS_step.trans rfl
theorem ev_X12_ask_62 {ct : Nat → Bool} {K : Kt} {R : Option AV → Hp → Prop} {n : Nat} {ls : List (Option AV)} {st : List AV} {σ : Hp} {k : Nat × Nat} : xe_X12_ask ct K R (n + 1) 62 ls st σ k = (oI st fun y st => oI st fun x st => (wI y ≤ wI x → xk_X12_ask ct K R n 129 ls st σ k) ∧ (¬ (wI y ≤ wI x) → xk_X12_ask ct K R n 65 ls st σ k)) := exS_step.trans rfl
theorem ev_X12_ask_65 {ct : Nat → Bool} {K : Kt} {R : Option AV → Hp → Prop} {n : Nat} {ls : List (Option AV)} {st : List AV} {σ : Hp} {k : Nat × Nat} : xe_X12_ask ct K R (n + 1) 65 ls st σ k = (xk_X12_ask ct K R n 66 ls (vi (0) :: st) σ k) := exS_step.trans rfl
theorem ev_X12_ask_66 {ct : Nat → Bool} {K : Kt} {R : Option AV → Hp → Prop} {n : Nat} {ls : List (Option AV)} {st : List AV} {σ : Hp} {k : Nat × Nat} : xe_X12_ask ct K R (n + 1) 66 ls st σ k = (oI st fun x st => 7 < 9 ∧ xk_X12_ask ct K R n 68 (stL ls 7 (vi x)) st σ k) := exS_step.trans rfl
theorem ev_X12_ask_68 {ct : Nat → Bool} {K : Kt} {R : Option AV → Hp → Prop} {n : Nat} {ls : List (Option AV)} {st : List AV} {σ : Hp} {k : Nat × Nat} : xe_X12_ask ct K R (n + 1) 68 ls st σ k = (xk_X12_ask ct K R n 69 ls (vi (0) :: st) σ k) := exS_step.trans rfl
theorem ev_X12_ask_69 {ct : Nat → Bool} {K : Kt} {R : Option AV → Hp → Prop} {n : Nat} {ls : List (Option AV)} {st : List AV} {σ : Hp} {k : Nat × Nat} : xe_X12_ask ct K R (n + 1) 69 ls st σ k = (oI st fun x st => 8 < 9 ∧ xk_X12_ask ct K R n 71 (stL ls 8 (vi x)) st σ k) := exS_step.trans rfl
theorem ev_X12_ask_71 {ct : Nat → Bool} {K : Kt} {R : Option AV → Hp → Prop} {n : Nat} {ls : List (Option AV)} {st : List AV} {σ : Hp} {k : Nat × Nat} : xe_X12_ask ct K R (n + 1) 71 ls st σ k = (lI ls 8 fun x => xk_X12_ask ct K R n 73 ls (vi x :: st) σ k) := exS_step.trans rfl
theorem ev_X12_ask_73 {ct : Nat → Bool} {K : Kt} {R : Option AV → Hp → Prop} {n : Nat} {ls : List (Option AV)} {st : List AV} {σ : Hp} {k : Nat × Nat} : xe_X12_ask ct K R (n + 1) 73 ls st σ k = (lR ls 0 fun x => xk_X12_ask ct K R n 74 ls (vr x :: st) σ k) := exS_step.trans rfl
theorem ev_X12_ask_74 {ct : Nat → Bool} {K : Kt} {R : Option AV → Hp → Prop} {n : Nat} {ls : List (Option AV)} {st : List AV} {σ : Hp} {k : Nat × Nat} : xe_X12_ask ct K R (n + 1) 74 ls st σ k = (oR st fun x st => kd σ x = 13 ∧ xk_X12_ask ct K R n 77 ls (vi (fI σ 1323 x) :: st) σ k) := exS_step.trans rfl
theorem ev_X12_ask_77 {ct : Nat → Bool} {K : Kt} {R : Option AV → Hp → Prop} {n : Nat} {ls : List (Option AV)} {st : List AV} {σ : Hp} {k : Nat × Nat} : xe_X12_ask ct K R (n + 1) 77 ls st σ k = (oI st fun y st => oI st fun x st => (wI y ≤ wI x → xk_X12_ask ct K R n 115 ls st σ k) ∧ (¬ (wI y ≤ wI x) → xk_X12_ask ct K R n 80 ls st σ k)) := exS_step.trans rfl
theorem ev_X12_ask_80 {ct : Nat → Bool} {K : Kt} {R : Option AV → Hp → Prop} {n : Nat} {ls : List (Option AV)} {st : List AV} {σ : Hp} {k : Nat × Nat} : xe_X12_ask ct K R (n + 1) 80 ls st σ k = (lI ls 7 fun x => xk_X12_ask ct K R n 82 ls (vi x :: st) σ k) := exS_step.trans rfl
theorem ev_X12_ask_82 {ct : Nat → Bool} {K : Kt} {R : Option AV → Hp → Prop} {n : Nat} {ls : List (Option AV)} {st : List AV} {σ : Hp} {k : Nat × Nat} : xe_X12_ask ct K R (n + 1) 82 ls st σ k = (oI st fun x st => (¬ wI x = wI 0 → xk_X12_ask ct K R n 102 ls st σ k) ∧ (¬ (¬ wI x = wI 0) → xk_X12_ask ct K R n 85 ls st σ k)) := exS_step.trans rfl
theorem ev_X12_ask_85 {ct : Nat → Bool} {K : Kt} {R : Option AV → Hp → Prop} {n : Nat} {ls : List (Option AV)} {st : List AV} {σ : Hp} {k : Nat × Nat} : xe_X12_ask ct K R (n + 1) 85 ls st σ k = (lR ls 0 fun x => xk_X12_ask ct K R n 86 ls (vr x :: st) σ k) := exS_step.trans rfl
theorem ev_X12_ask_86 {ct : Nat → Bool} {K : Kt} {R : Option AV → Hp → Prop} {n : Nat} {ls : List (Option AV)} {st : List AV} {σ : Hp} {k : Nat × Nat} : xe_X12_ask ct K R (n + 1) 86 ls st σ k = (oR st fun x st => kd σ x = 13 ∧ xk_X12_ask ct K R n 89 ls (vr (fR σ 1324 x) :: st) σ k) := exS_step.trans rfl
theorem ev_X12_ask_89 {ct : Nat → Bool} {K : Kt} {R : Option AV → Hp → Prop} {n : Nat} {ls : List (Option AV)} {st : List AV} {σ : Hp} {k : Nat × Nat} : xe_X12_ask ct K R (n + 1) 89 ls st σ k = (xk_X12_ask ct K R n 90 ls (vi (3) :: st) σ k) := exS_step.trans rfl
theorem ev_X12_ask_90 {ct : Nat → Bool} {K : Kt} {R : Option AV → Hp → Prop} {n : Nat} {ls : List (Option AV)} {st : List AV} {σ : Hp} {k : Nat × Nat} : xe_X12_ask ct K R (n + 1) 90 ls st σ k = (lI ls 6 fun x => xk_X12_ask ct K R n 92 ls (vi x :: st) σ k) := exS_step.trans rfl
theorem ev_X12_ask_92 {ct : Nat → Bool} {K : Kt} {R : Option AV → Hp → Prop} {n : Nat} {ls : List (Option AV)} {st : List AV} {σ : Hp} {k : Nat × Nat} : xe_X12_ask ct K R (n + 1) 92 ls st σ k = (oI st fun y st => oI st fun x st => xk_X12_ask ct K R n 93 ls (vi (x * y) :: st) σ k) := exS_step.trans rfl
theorem ev_X12_ask_93 {ct : Nat → Bool} {K : Kt} {R : Option AV → Hp → Prop} {n : Nat} {ls : List (Option AV)} {st : List AV} {σ : Hp} {k : Nat × Nat} : xe_X12_ask ct K R (n + 1) 93 ls st σ k = (lI ls 8 fun x => xk_X12_ask ct K R n 95 ls (vi x :: st) σ k) := exS_step.trans rfl
theorem ev_X12_ask_95 {ct : Nat → Bool} {K : Kt} {R : Option AV → Hp → Prop} {n : Nat} {ls : List (Option AV)} {st : List AV} {σ : Hp} {k : Nat × Nat} : xe_X12_ask ct K R (n + 1) 95 ls st σ k = (oI st fun y st => oI st fun x st => xk_X12_ask ct K R n 96 ls (vi (x + y) :: st) σ k) := exS_step.trans rfl
theorem ev_X12_ask_96 {ct : Nat → Bool} {K : Kt} {R : Option AV → Hp → Prop} {n : Nat} {ls : List (Option AV)} {st : List AV} {σ : Hp} {k : Nat × Nat} : xe_X12_ask ct K R (n + 1) 96 ls st σ k = (oI st fun j st => oR st fun x st => (kd σ x = 101 ∨ kd σ x = 108) ∧ (0 ≤ j ∧ j < ln σ x) ∧ xk_X12_ask ct K R n 97 ls (vi (aI σ x j) :: st) σ k) := exS_step.trans rfl
theorem ev_X12_ask_97 {ct : Nat → Bool} {K : Kt} {R : Option AV → Hp → Prop} {n : Nat} {ls : List (Option AV)} {st : List AV} {σ : Hp} {k : Nat × Nat} : xe_X12_ask ct K R (n + 1) 97 ls st σ k = (lI ls 4 fun x => xk_X12_ask ct K R n 99 ls (vi x :: st) σ k) := exS_step.trans rfl
theorem ev_X12_ask_99 {ct : Nat → Bool} {K : Kt} {R : Option AV → Hp → Prop} {n : Nat} {ls : List (Option AV)} {st : List AV} {σ : Hp} {k : Nat × Nat} : xe_X12_ask ct K R (n + 1) 99 ls st σ k = (oI st fun y st => oI st fun x st => (¬ wI x = wI y → xk_X12_ask ct K R n 106 ls st σ k) ∧ (¬ (¬ wI x = wI y) → xk_X12_ask ct K R n 102 ls st σ k)) := exS_step.trans rfl
theorem ev_X12_ask_102 {ct : Nat → Bool} {K : Kt} {R : Option AV → Hp → Prop} {n : Nat} {ls : List (Option AV)} {st : List AV} {σ : Hp} {k : Nat × Nat} : xe_X12_ask ct K R (n + 1) 102 ls st σ k = (xk_X12_ask ct K R n 103 ls (vi (1) :: st) σ k) := exS_step.trans rfl
theorem ev_X12_ask_103 {ct : Nat → Bool} {K : Kt} {R : Option AV → Hp → Prop} {n : Nat} {ls : List (Option AV)} {st : List AV} {σ : Hp} {k : Nat × Nat} : xe_X12_ask ct K R (n + 1) 103 ls st σ k = (xk_X12_ask ct K R n 107 ls st σ k) := exS_step.trans rfl
theorem ev_X12_ask_106 {ct : Nat → Bool} {K : Kt} {R : Option AV → Hp → Prop} {n : Nat} {ls : List (Option AV)} {st : List AV} {σ : Hp} {k : Nat × Nat} : xe_X12_ask ct K R (n + 1) 106 ls st σ k = (xk_X12_ask ct K R n 107 ls (vi (0) :: st) σ k) := exS_step.trans rfl
theorem ev_X12_ask_107 {ct : Nat → Bool} {K : Kt} {R : Option AV → Hp → Prop} {n : Nat} {ls : List (Option AV)} {st : List AV} {σ : Hp} {k : Nat × Nat} : xe_X12_ask ct K R (n + 1) 107 ls st σ k = (oI st fun x st => 7 < 9 ∧ xk_X12_ask ct K R n 109 (stL ls 7 (vi x)) st σ k) := exS_step.trans rfl
theorem ev_X12_ask_109 {ct : Nat → Bool} {K : Kt} {R : Option AV → Hp → Prop} {n : Nat} {ls : List (Option AV)} {st : List AV} {σ : Hp} {k : Nat × Nat} : xe_X12_ask ct K R (n + 1) 109 ls st σ k = (lI ls 8 fun x => 8 < 9 ∧ xk_X12_ask ct K R n 112 (stL ls 8 (vi (x + (1)))) st σ k) := exS_step.trans rfl
theorem ev_X12_ask_112 {ct : Nat → Bool} {K : Kt} {R : Option AV → Hp → Prop} {n : Nat} {ls : List (Option AV)} {st : List AV} {σ : Hp} {k : Nat × Nat} : xe_X12_ask ct K R (n + 1) 112 ls st σ k = (xk_X12_ask ct K R n 71 ls st σ k) := exS_step.trans rfl
theorem ev_X12_ask_115 {ct : Nat → Bool} {K : Kt} {R : Option AV → Hp → Prop} {n : Nat} {ls : List (Option AV)} {st : List AV} {σ : Hp} {k : Nat × Nat} : xe_X12_ask ct K R (n + 1) 115 ls st σ k = (lI ls 7 fun x => xk_X12_ask ct K R n 117 ls (vi x :: st) σ k) := exS_step.trans rfl
theorem ev_X12_ask_117 {ct : Nat → Bool} {K : Kt} {R : Option AV → Hp → Prop} {n : Nat} {ls : List (Option AV)} {st : List AV} {σ : Hp} {k : Nat × Nat} : xe_X12_ask ct K R (n + 1) 117 ls st σ k = (oI st fun x st => (wI x = wI 0 → xk_X12_ask ct K R n 123 ls st σ k) ∧ (¬ (wI x = wI 0) → xk_X12_ask ct K R n 120 ls st σ k)) := exS_step.trans rfl
theorem ev_X12_ask_120 {ct : Nat → Bool} {K : Kt} {R : Option AV → Hp → Prop} {n : Nat} {ls : List (Option AV)} {st : List AV} {σ : Hp} {k : Nat × Nat} : xe_X12_ask ct K R (n + 1) 120 ls st σ k = (lI ls 5 fun x => 5 < 9 ∧ xk_X12_ask ct K R n 123 (stL ls 5 (vi (x + (1)))) st σ k) := exS_step.trans rfl
theorem ev_X12_ask_123 {ct : Nat → Bool} {K : Kt} {R : Option AV → Hp → Prop} {n : Nat} {ls : List (Option AV)} {st : List AV} {σ : Hp} {k : Nat × Nat} : xe_X12_ask ct K R (n + 1) 123 ls st σ k = (lI ls 6 fun x => 6 < 9 ∧ xk_X12_ask ct K R n 126 (stL ls 6 (vi (x + (1)))) st σ k) := exS_step.trans rfl
theorem ev_X12_ask_126 {ct : Nat → Bool} {K : Kt} {R : Option AV → Hp → Prop} {n : Nat} {ls : List (Option AV)} {st : List AV} {σ : Hp} {k : Nat × Nat} : xe_X12_ask ct K R (n + 1) 126 ls st σ k = (xk_X12_ask ct K R n 56 ls st σ k) := exS_step.trans rfl
theorem ev_X12_ask_129 {ct : Nat → Bool} {K : Kt} {R : Option AV → Hp → Prop} {n : Nat} {ls : List (Option AV)} {st : List AV} {σ : Hp} {k : Nat × Nat} : xe_X12_ask ct K R (n + 1) 129 ls st σ k = (lI ls 5 fun x => xk_X12_ask ct K R n 131 ls (vi x :: st) σ k) := exS_step.trans rfl
theorem ev_X12_ask_131 {ct : Nat → Bool} {K : Kt} {R : Option AV → Hp → Prop} {n : Nat} {ls : List (Option AV)} {st : List AV} {σ : Hp} {k : Nat × Nat} : xe_X12_ask ct K R (n + 1) 131 ls st σ k = (lR ls 0 fun x => xk_X12_ask ct K R n 132 ls (vr x :: st) σ k) := exS_step.trans rfl
theorem ev_X12_ask_132 {ct : Nat → Bool} {K : Kt} {R : Option AV → Hp → Prop} {n : Nat} {ls : List (Option AV)} {st : List AV} {σ : Hp} {k : Nat × Nat} : xe_X12_ask ct K R (n + 1) 132 ls st σ k = (oR st fun x st => kd σ x = 13 ∧ xk_X12_ask ct K R n 135 ls (vi (fI σ 1322 x) :: st) σ k) := exS_step.trans rfl
theorem ev_X12_ask_135 {ct : Nat → Bool} {K : Kt} {R : Option AV → Hp → Prop} {n : Nat} {ls : List (Option AV)} {st : List AV} {σ : Hp} {k : Nat × Nat} : xe_X12_ask ct K R (n + 1) 135 ls st σ k = (lI ls 5 fun x => xk_X12_ask ct K R n 137 ls (vi x :: st) σ k) := exS_step.trans rfl
theorem ev_X12_ask_137 {ct : Nat → Bool} {K : Kt} {R : Option AV → Hp → Prop} {n : Nat} {ls : List (Option AV)} {st : List AV} {σ : Hp} {k : Nat × Nat} : xe_X12_ask ct K R (n + 1) 137 ls st σ k = (oI st fun y st => oI st fun x st => xk_X12_ask ct K R n 138 ls (vi (x - y) :: st) σ k) := exS_step.trans rfl
theorem ev_X12_ask_138 {ct : Nat → Bool} {K : Kt} {R : Option AV → Hp → Prop} {n : Nat} {ls : List (Option AV)} {st : List AV} {σ : Hp} {k : Nat × Nat} : xe_X12_ask ct K R (n + 1) 138 ls st σ k = (popN 2 st [] fun av rest => (catS rest ≤ 8 ∧ 1 < 2 ∧ k.1 + 0 ≤ 0 ∧ k.2 + 0 ≤ 0) ∧ (sp_J9_max_7cf53) av σ fun v σ' => xk_X12_ask ct K R n 141 ls (v.toList ++ rest) σ' (k.1 + 0, k.2 + 0)) := exS_step.trans rfl
theorem ev_X12_ask_141 {ct : Nat → Bool} {K : Kt} {R : Option AV → Hp → Prop} {n : Nat} {ls : List (Option AV)} {st : List AV} {σ : Hp} {k : Nat × Nat} : xe_X12_ask ct K R (n + 1) 141 ls st σ k = (oI st fun x st => 6 < 9 ∧ xk_X12_ask ct K R n 143 (stL ls 6 (vi x)) st σ k) := exS_step.trans rfl
theorem ev_X12_ask_143 {ct : Nat → Bool} {K : Kt} {R : Option AV → Hp → Prop} {n : Nat} {ls : List (Option AV)} {st : List AV} {σ : Hp} {k : Nat × Nat} : xe_X12_ask ct K R (n + 1) 143 ls st σ k = (lI ls 1 fun x => xk_X12_ask ct K R n 144 ls (vi x :: st) σ k) := exS_step.trans rfl
theorem ev_X12_ask_144 {ct : Nat → Bool} {K : Kt} {R : Option AV → Hp → Prop} {n : Nat} {ls : List (Option AV)} {st : List AV} {σ : Hp} {k : Nat × Nat} : xe_X12_ask ct K R (n + 1) 144 ls st σ k = (oI st fun x st => (wI x < wI 0 → xk_X12_ask ct K R n 156 ls st σ k) ∧ (¬ (wI x < wI 0) → xk_X12_ask ct K R n 147 ls st σ k)) := exS_step.trans rfl
theorem ev_X12_ask_147 {ct : Nat → Bool} {K : Kt} {R : Option AV → Hp → Prop} {n : Nat} {ls : List (Option AV)} {st : List AV} {σ : Hp} {k : Nat × Nat} : xe_X12_ask ct K R (n + 1) 147 ls st σ k = (lI ls 6 fun x => xk_X12_ask ct K R n 149 ls (vi x :: st) σ k) := exS_step.trans rfl
theorem ev_X12_ask_149 {ct : Nat → Bool} {K : Kt} {R : Option AV → Hp → Prop} {n : Nat} {ls : List (Option AV)} {st : List AV} {σ : Hp} {k : Nat × Nat} : xe_X12_ask ct K R (n + 1) 149 ls st σ k = (lI ls 2 fun x => xk_X12_ask ct K R n 150 ls (vi x :: st) σ k) := exS_step.trans rfl
theorem ev_X12_ask_150 {ct : Nat → Bool} {K : Kt} {R : Option AV → Hp → Prop} {n : Nat} {ls : List (Option AV)} {st : List AV} {σ : Hp} {k : Nat × Nat} : xe_X12_ask ct K R (n + 1) 150 ls st σ k = (oI st fun y st => oI st fun x st => (wI x < wI y → xk_X12_ask ct K R n 156 ls st σ k) ∧ (¬ (wI x < wI y) → xk_X12_ask ct K R n 153 ls st σ k)) := exS_step.trans rfl
theorem ev_X12_ask_153 {ct : Nat → Bool} {K : Kt} {R : Option AV → Hp → Prop} {n : Nat} {ls : List (Option AV)} {st : List AV} {σ : Hp} {k : Nat × Nat} : xe_X12_ask ct K R (n + 1) 153 ls st σ k = (xk_X12_ask ct K R n 162 ls st σ k) := exS_step.trans rfl
theorem ev_X12_ask_156 {ct : Nat → Bool} {K : Kt} {R : Option AV → Hp → Prop} {n : Nat} {ls : List (Option AV)} {st : List AV} {σ : Hp} {k : Nat × Nat} : xe_X12_ask ct K R (n + 1) 156 ls st σ k = (lI ls 4 fun x => xk_X12_ask ct K R n 158 ls (vi x :: st) σ k) := exS_step.trans rfl
theorem ev_X12_ask_158 {ct : Nat → Bool} {K : Kt} {R : Option AV → Hp → Prop} {n : Nat} {ls : List (Option AV)} {st : List AV} {σ : Hp} {k : Nat × Nat} : xe_X12_ask ct K R (n + 1) 158 ls st σ k = (oI st fun x st => 1 < 9 ∧ xk_X12_ask ct K R n 159 (stL ls 1 (vi x)) st σ k) := exS_step.trans rfl
theorem ev_X12_ask_159 {ct : Nat → Bool} {K : Kt} {R : Option AV → Hp → Prop} {n : Nat} {ls : List (Option AV)} {st : List AV} {σ : Hp} {k : Nat × Nat} : xe_X12_ask ct K R (n + 1) 159 ls st σ k = (lI ls 6 fun x => xk_X12_ask ct K R n 161 ls (vi x :: st) σ k) := exS_step.trans rfl
theorem ev_X12_ask_161 {ct : Nat → Bool} {K : Kt} {R : Option AV → Hp → Prop} {n : Nat} {ls : List (Option AV)} {st : List AV} {σ : Hp} {k : Nat × Nat} : xe_X12_ask ct K R (n + 1) 161 ls st σ k = (oI st fun x st => 2 < 9 ∧ xk_X12_ask ct K R n 162 (stL ls 2 (vi x)) st σ k) := exS_step.trans rfl
theorem ev_X12_ask_162 {ct : Nat → Bool} {K : Kt} {R : Option AV → Hp → Prop} {n : Nat} {ls : List (Option AV)} {st : List AV} {σ : Hp} {k : Nat × Nat} : xe_X12_ask ct K R (n + 1) 162 ls st σ k = (lI ls 3 fun x => 3 < 9 ∧ xk_X12_ask ct K R n 165 (stL ls 3 (vi (x + (1)))) st σ k) := exS_step.trans rfl
theorem ev_X12_ask_165 {ct : Nat → Bool} {K : Kt} {R : Option AV → Hp → Prop} {n : Nat} {ls : List (Option AV)} {st : List AV} {σ : Hp} {k : Nat × Nat} : xe_X12_ask ct K R (n + 1) 165 ls st σ k = (xk_X12_ask ct K R n 21 ls st σ k) := exS_step.trans rfl
theorem ev_X12_ask_168 {ct : Nat → Bool} {K : Kt} {R : Option AV → Hp → Prop} {n : Nat} {ls : List (Option AV)} {st : List AV} {σ : Hp} {k : Nat × Nat} : xe_X12_ask ct K R (n + 1) 168 ls st σ k = (lI ls 1 fun x => xk_X12_ask ct K R n 169 ls (vi x :: st) σ k) := exS_step.trans rfl
theorem ev_X12_ask_169 {ct : Nat → Bool} {K : Kt} {R : Option AV → Hp → Prop} {n : Nat} {ls : List (Option AV)} {st : List AV} {σ : Hp} {k : Nat × Nat} : xe_X12_ask ct K R (n + 1) 169 ls st σ k = (oI st fun x st => st = [] ∧ True ∧ R (some (vi x)) σ) := exS_step.trans rfl
def M_X12_ask : Md := (yX12_ask, cX12_ask, 9, (some FieldType.int), 2, 0, 0, 1, false, tb_X12_ask, mt_X12_ask)
theorem mm_X12_ask : MMOK M_X12_ask := ⟨by decide +kernel, tk_X12_ask, mk_X12_ask, rfl, fun h => by cases h⟩
theorem go_X12_ask {Q : Option AV → Hp → Prop} {ct : Nat → Bool} {pc : Nat} {ls : List (Option AV)} {st : List AV} {σ : Hp} {k : Nat × Nat} (n : Nat) (h : xe_X12_ask ct (Go M_X12_ask Q) Q n pc ls st σ k) : Go M_X12_ask Q pc ls st σ k := Go.exS mm_X12_ask h

set_option maxRecDepth 20000 in
theorem ask_71 {Q : Option AV → Hp → Prop} {τ : Hp} (hT : MI τ) {a1 a2 a3 : Option AV} {b h i : Int} (hb : 0 ≤ b ∧ b ≤ 31) (hi : 0 ≤ i ∧ i < fI τ 1322 61) (w : ∀ a8, Go M_X12_ask Q 115 [some (vr 61), a1, a2, a3, some (vi b), some (vi h), some (vi i), some (vi (b2i (mIn τ b i))), a8] [] τ (0, 0)) : ∀ (m : Nat) (j : Int), 0 ≤ j → j + m = fI τ 1323 61 → Go M_X12_ask Q 71 [some (vr 61), a1, a2, a3, some (vi b), some (vi h), some (vi i), some (vi (b2i (bE j fun j => aI τ 80 (3 * i + j) = b))), some (vi j)] [] τ (0, 0) := by
  have hkd : kd τ 61 = 13 := hT.lay.1
  have x1 := hT.storyCount_s
  have x2 := hT.storySize_s
  intro m
  induction m with
  | zero =>
    intro j h0 hj
    have w := w (some (vi j))
    unfold mIn at w
    have ej : fI τ 1323 61 = j := by omega
    rw [ej] at w
    generalize b2i (bE j fun j => aI τ 80 (3 * i + j) = b) = v at *
    refine go_X12_ask (ct := fun p => p == 80 || p == 115) 20 ?_
    simp only [oI, oL, oR, o1, lI, lL, lR, popN, catS, gv, stL, stL2, swt, cnd, spObj, List.getElem?_cons_zero, List.getElem?_cons_succ, List.getD_cons_zero, List.getD_cons_succ, List.set_cons_zero, List.set_cons_succ, List.nil_append, List.cons_append, Option.toList, Bool.or_false, Bool.false_or, Bool.or_true, Bool.true_or, Nat.reduceBEq, Nat.reduceAdd, Nat.reduceLT, Nat.reduceLeDiff, Int.reduceAdd, Int.reduceToNat, true_and, and_true, Fin.isValue, Fin.val_zero, Fin.val_one, Fin.val_two, Fin.reduceFinMk, eq_self, Int.reduceNeg, imp_self, Nat.reduceMul, Nat.le_refl, not_true_eq_false, not_false_eq_true, List.getElem?_nil, reduceCtorEq, true_or, or_true, Classical.not_not, implies_true, or_self, wI_0, wI_1, wI_m1, b2i_w, b2i_eq0, b2i_eq1, b2i_bool, nor_self, nx_pI, kd_pI, ln_pI, fI_pI, fL_pI, fR_pI, aI_pI, aL_pI, aR_pI, nx_pL, kd_pL, ln_pL, fI_pL, fL_pL, fR_pL, aI_pL, aL_pL, aR_pL, nx_pR, kd_pR, ln_pR, fI_pR, fL_pR, fR_pR, aI_pR, aL_pR, aR_pR, nx_qI, kd_qI, ln_qI, fI_qI, fL_qI, fR_qI, aI_qI, aL_qI, aR_qI, nx_qL, kd_qL, ln_qL, fI_qL, fL_qL, fR_qL, aI_qL, aL_qL, aR_qL, nx_qR, kd_qR, ln_qR, fI_qR, fL_qR, fR_qR, aI_qR, aL_qR, aR_qR, nx_mk, kd_mk, ln_mk, fI_mk, fL_mk, fR_mk, aI_mk, aL_mk, aR_mk, false_and, and_false, if_false, if_true, and_self, Int.reduceEq, Nat.reduceEqDiff, ite_self, MLay_pI, MLay_pL, MLay_qI, MLay_qL, ev_X12_ask_71, ev_X12_ask_73, ev_X12_ask_74, ev_X12_ask_77, xt_X12_ask, xf_X12_ask, us_J9_max_7cf53, hkd, ej]
    try simp (disch := omega) only [wI_id, dv_nn, rm_nn]
    repeat' (first | intro z | apply And.intro)
    all_goals try omega
    all_goals exact w
  | succ m ih =>
    intro j h0 hj
    have ih := ih (j + 1) (by omega) (by omega)
    have y1 := hT.storyBox_ (3 * i + j)
    have hwb : wI (aI τ 80 (3 * i + j)) = aI τ 80 (3 * i + j) := wI_id (by omega) (by omega)
    by_cases c : bE j fun j => aI τ 80 (3 * i + j) = b
    · rw [b2i_t (p := bE (j + 1) _) ((bE_s h0).mpr (Or.inl c))] at ih
      rw [b2i_t c]
      refine go_X12_ask (ct := fun p => p == 115 || p == 85 || p == 71) 30 ?_
      simp only [oI, oL, oR, o1, lI, lL, lR, popN, catS, gv, stL, stL2, swt, cnd, spObj, List.getElem?_cons_zero, List.getElem?_cons_succ, List.getD_cons_zero, List.getD_cons_succ, List.set_cons_zero, List.set_cons_succ, List.nil_append, List.cons_append, Option.toList, Bool.or_false, Bool.false_or, Bool.or_true, Bool.true_or, Nat.reduceBEq, Nat.reduceAdd, Nat.reduceLT, Nat.reduceLeDiff, Int.reduceAdd, Int.reduceToNat, true_and, and_true, Fin.isValue, Fin.val_zero, Fin.val_one, Fin.val_two, Fin.reduceFinMk, eq_self, Int.reduceNeg, imp_self, Nat.reduceMul, Nat.le_refl, not_true_eq_false, not_false_eq_true, List.getElem?_nil, reduceCtorEq, true_or, or_true, Classical.not_not, implies_true, or_self, wI_0, wI_1, wI_m1, b2i_w, b2i_eq0, b2i_eq1, b2i_bool, nor_self, nx_pI, kd_pI, ln_pI, fI_pI, fL_pI, fR_pI, aI_pI, aL_pI, aR_pI, nx_pL, kd_pL, ln_pL, fI_pL, fL_pL, fR_pL, aI_pL, aL_pL, aR_pL, nx_pR, kd_pR, ln_pR, fI_pR, fL_pR, fR_pR, aI_pR, aL_pR, aR_pR, nx_qI, kd_qI, ln_qI, fI_qI, fL_qI, fR_qI, aI_qI, aL_qI, aR_qI, nx_qL, kd_qL, ln_qL, fI_qL, fL_qL, fR_qL, aI_qL, aL_qL, aR_qL, nx_qR, kd_qR, ln_qR, fI_qR, fL_qR, fR_qR, aI_qR, aL_qR, aR_qR, nx_mk, kd_mk, ln_mk, fI_mk, fL_mk, fR_mk, aI_mk, aL_mk, aR_mk, false_and, and_false, if_false, if_true, and_self, Int.reduceEq, Nat.reduceEqDiff, ite_self, MLay_pI, MLay_pL, MLay_qI, MLay_qL, ev_X12_ask_71, ev_X12_ask_73, ev_X12_ask_74, ev_X12_ask_77, ev_X12_ask_80, ev_X12_ask_82, ev_X12_ask_85, ev_X12_ask_86, ev_X12_ask_89, ev_X12_ask_90, ev_X12_ask_92, ev_X12_ask_93, ev_X12_ask_95, ev_X12_ask_96, ev_X12_ask_97, ev_X12_ask_99, ev_X12_ask_102, ev_X12_ask_103, ev_X12_ask_106, ev_X12_ask_107, ev_X12_ask_109, ev_X12_ask_112, xt_X12_ask, xf_X12_ask, us_J9_max_7cf53, hkd, not_true_eq_false, not_false_eq_true, false_imp_iff, true_imp_iff]
      try simp (disch := omega) only [wI_id, dv_nn, rm_nn]
      repeat' (first | intro z | apply And.intro)
      all_goals try omega
      all_goals exact ih
    · rw [b2i_f c]
      by_cases d : aI τ 80 (3 * i + j) = b
      · rw [b2i_sT (P := fun j => aI τ 80 (3 * i + j) = b) h0 d] at ih
        have hwb2 : wI b = b := wI_id (by omega) (by omega)
        have dT := eq_true d
        refine go_X12_ask (ct := fun p => p == 115 || p == 106 || p == 71) 30 ?_
        simp only [oI, oL, oR, o1, lI, lL, lR, popN, catS, gv, stL, stL2, swt, cnd, spObj, List.getElem?_cons_zero, List.getElem?_cons_succ, List.getD_cons_zero, List.getD_cons_succ, List.set_cons_zero, List.set_cons_succ, List.nil_append, List.cons_append, Option.toList, Bool.or_false, Bool.false_or, Bool.or_true, Bool.true_or, Nat.reduceBEq, Nat.reduceAdd, Nat.reduceLT, Nat.reduceLeDiff, Int.reduceAdd, Int.reduceToNat, true_and, and_true, Fin.isValue, Fin.val_zero, Fin.val_one, Fin.val_two, Fin.reduceFinMk, eq_self, Int.reduceNeg, imp_self, Nat.reduceMul, Nat.le_refl, not_true_eq_false, not_false_eq_true, List.getElem?_nil, reduceCtorEq, true_or, or_true, Classical.not_not, implies_true, or_self, wI_0, wI_1, wI_m1, b2i_w, b2i_eq0, b2i_eq1, b2i_bool, nor_self, nx_pI, kd_pI, ln_pI, fI_pI, fL_pI, fR_pI, aI_pI, aL_pI, aR_pI, nx_pL, kd_pL, ln_pL, fI_pL, fL_pL, fR_pL, aI_pL, aL_pL, aR_pL, nx_pR, kd_pR, ln_pR, fI_pR, fL_pR, fR_pR, aI_pR, aL_pR, aR_pR, nx_qI, kd_qI, ln_qI, fI_qI, fL_qI, fR_qI, aI_qI, aL_qI, aR_qI, nx_qL, kd_qL, ln_qL, fI_qL, fL_qL, fR_qL, aI_qL, aL_qL, aR_qL, nx_qR, kd_qR, ln_qR, fI_qR, fL_qR, fR_qR, aI_qR, aL_qR, aR_qR, nx_mk, kd_mk, ln_mk, fI_mk, fL_mk, fR_mk, aI_mk, aL_mk, aR_mk, false_and, and_false, if_false, if_true, and_self, Int.reduceEq, Nat.reduceEqDiff, ite_self, MLay_pI, MLay_pL, MLay_qI, MLay_qL, ev_X12_ask_71, ev_X12_ask_73, ev_X12_ask_74, ev_X12_ask_77, ev_X12_ask_80, ev_X12_ask_82, ev_X12_ask_85, ev_X12_ask_86, ev_X12_ask_89, ev_X12_ask_90, ev_X12_ask_92, ev_X12_ask_93, ev_X12_ask_95, ev_X12_ask_96, ev_X12_ask_97, ev_X12_ask_99, ev_X12_ask_102, ev_X12_ask_103, ev_X12_ask_106, ev_X12_ask_107, ev_X12_ask_109, ev_X12_ask_112, xt_X12_ask, xf_X12_ask, us_J9_max_7cf53, hkd, hT.lay.eqs, hwb, hwb2, dT, not_true_eq_false, not_false_eq_true, false_imp_iff, true_imp_iff]
        try simp (disch := omega) only [wI_id, dv_nn, rm_nn]
        repeat' (first | intro z | apply And.intro)
        all_goals try omega
        all_goals exact ih
      · rw [b2i_f (p := bE (j + 1) _) (fun q => ((bE_s h0).mp q).elim c d)] at ih
        have hwb2 : wI b = b := wI_id (by omega) (by omega)
        have dF := eq_false d
        refine go_X12_ask (ct := fun p => p == 115 || p == 102 || p == 71) 30 ?_
        simp only [oI, oL, oR, o1, lI, lL, lR, popN, catS, gv, stL, stL2, swt, cnd, spObj, List.getElem?_cons_zero, List.getElem?_cons_succ, List.getD_cons_zero, List.getD_cons_succ, List.set_cons_zero, List.set_cons_succ, List.nil_append, List.cons_append, Option.toList, Bool.or_false, Bool.false_or, Bool.or_true, Bool.true_or, Nat.reduceBEq, Nat.reduceAdd, Nat.reduceLT, Nat.reduceLeDiff, Int.reduceAdd, Int.reduceToNat, true_and, and_true, Fin.isValue, Fin.val_zero, Fin.val_one, Fin.val_two, Fin.reduceFinMk, eq_self, Int.reduceNeg, imp_self, Nat.reduceMul, Nat.le_refl, not_true_eq_false, not_false_eq_true, List.getElem?_nil, reduceCtorEq, true_or, or_true, Classical.not_not, implies_true, or_self, wI_0, wI_1, wI_m1, b2i_w, b2i_eq0, b2i_eq1, b2i_bool, nor_self, nx_pI, kd_pI, ln_pI, fI_pI, fL_pI, fR_pI, aI_pI, aL_pI, aR_pI, nx_pL, kd_pL, ln_pL, fI_pL, fL_pL, fR_pL, aI_pL, aL_pL, aR_pL, nx_pR, kd_pR, ln_pR, fI_pR, fL_pR, fR_pR, aI_pR, aL_pR, aR_pR, nx_qI, kd_qI, ln_qI, fI_qI, fL_qI, fR_qI, aI_qI, aL_qI, aR_qI, nx_qL, kd_qL, ln_qL, fI_qL, fL_qL, fR_qL, aI_qL, aL_qL, aR_qL, nx_qR, kd_qR, ln_qR, fI_qR, fL_qR, fR_qR, aI_qR, aL_qR, aR_qR, nx_mk, kd_mk, ln_mk, fI_mk, fL_mk, fR_mk, aI_mk, aL_mk, aR_mk, false_and, and_false, if_false, if_true, and_self, Int.reduceEq, Nat.reduceEqDiff, ite_self, MLay_pI, MLay_pL, MLay_qI, MLay_qL, ev_X12_ask_71, ev_X12_ask_73, ev_X12_ask_74, ev_X12_ask_77, ev_X12_ask_80, ev_X12_ask_82, ev_X12_ask_85, ev_X12_ask_86, ev_X12_ask_89, ev_X12_ask_90, ev_X12_ask_92, ev_X12_ask_93, ev_X12_ask_95, ev_X12_ask_96, ev_X12_ask_97, ev_X12_ask_99, ev_X12_ask_102, ev_X12_ask_103, ev_X12_ask_106, ev_X12_ask_107, ev_X12_ask_109, ev_X12_ask_112, xt_X12_ask, xf_X12_ask, us_J9_max_7cf53, hkd, hT.lay.eqs, hwb, hwb2, dF, not_true_eq_false, not_false_eq_true, false_imp_iff, true_imp_iff]
        try simp (disch := omega) only [wI_id, dv_nn, rm_nn]
        repeat' (first | intro z | apply And.intro)
        all_goals try omega
        all_goals exact ih

set_option maxRecDepth 20000 in
theorem ask_56 {Q : Option AV → Hp → Prop} {τ : Hp} (hT : MI τ) {a1 a2 a3 : Option AV} {b : Int} (hb : 0 ≤ b ∧ b ≤ 31) (w : ∀ a6 a7 a8, Go M_X12_ask Q 129 [some (vr 61), a1, a2, a3, some (vi b), some (vi (mHave τ b)), a6, a7, a8] [] τ (0, 0)) : ∀ (m i : Nat) (a7 a8 : Option AV), (i : Int) + m = fI τ 1322 61 → Go M_X12_ask Q 56 [some (vr 61), a1, a2, a3, some (vi b), some (vi (hwM (fun i => mIn τ b i) i)), some (vi i), a7, a8] [] τ (0, 0) := by
  have hkd : kd τ 61 = 13 := hT.lay.1
  have x1 := hT.storyCount_s
  have x2 := hT.storySize_s
  intro m
  induction m with
  | zero =>
    intro i a7 a8 hi
    have w := w (some (vi i)) a7 a8
    have ei : (fI τ 1322 61).toNat = i := by omega
    unfold mHave at w
    rw [ei] at w
    refine go_X12_ask (ct := fun p => p == 65 || p == 129) 20 ?_
    simp only [oI, oL, oR, o1, lI, lL, lR, popN, catS, gv, stL, stL2, swt, cnd, spObj, List.getElem?_cons_zero, List.getElem?_cons_succ, List.getD_cons_zero, List.getD_cons_succ, List.set_cons_zero, List.set_cons_succ, List.nil_append, List.cons_append, Option.toList, Bool.or_false, Bool.false_or, Bool.or_true, Bool.true_or, Nat.reduceBEq, Nat.reduceAdd, Nat.reduceLT, Nat.reduceLeDiff, Int.reduceAdd, Int.reduceToNat, true_and, and_true, Fin.isValue, Fin.val_zero, Fin.val_one, Fin.val_two, Fin.reduceFinMk, eq_self, Int.reduceNeg, imp_self, Nat.reduceMul, Nat.le_refl, not_true_eq_false, not_false_eq_true, List.getElem?_nil, reduceCtorEq, true_or, or_true, Classical.not_not, implies_true, or_self, wI_0, wI_1, wI_m1, b2i_w, b2i_eq0, b2i_eq1, b2i_bool, nor_self, nx_pI, kd_pI, ln_pI, fI_pI, fL_pI, fR_pI, aI_pI, aL_pI, aR_pI, nx_pL, kd_pL, ln_pL, fI_pL, fL_pL, fR_pL, aI_pL, aL_pL, aR_pL, nx_pR, kd_pR, ln_pR, fI_pR, fL_pR, fR_pR, aI_pR, aL_pR, aR_pR, nx_qI, kd_qI, ln_qI, fI_qI, fL_qI, fR_qI, aI_qI, aL_qI, aR_qI, nx_qL, kd_qL, ln_qL, fI_qL, fL_qL, fR_qL, aI_qL, aL_qL, aR_qL, nx_qR, kd_qR, ln_qR, fI_qR, fL_qR, fR_qR, aI_qR, aL_qR, aR_qR, nx_mk, kd_mk, ln_mk, fI_mk, fL_mk, fR_mk, aI_mk, aL_mk, aR_mk, false_and, and_false, if_false, if_true, and_self, Int.reduceEq, Nat.reduceEqDiff, ite_self, MLay_pI, MLay_pL, MLay_qI, MLay_qL, ev_X12_ask_56, ev_X12_ask_58, ev_X12_ask_59, ev_X12_ask_62, xt_X12_ask, xf_X12_ask, us_J9_max_7cf53, hkd]
    try simp (disch := omega) only [wI_id, dv_nn, rm_nn]
    repeat' (first | intro z | apply And.intro)
    all_goals try omega
    all_goals exact w
  | succ m ih =>
    intro i a7 a8 hi
    have ih := fun a7 a8 => ih (i + 1) a7 a8 (by omega)
    simp only [Int.natCast_add, Int.cast_ofNat_Int] at ih
    have w71 := ask_71 (Q := Q) (a1 := a1) (a2 := a2) (a3 := a3) (b := b) (h := hwM (fun i => mIn τ b i) i) (i := i) hT hb (by omega) (fun a8 => by
      by_cases c : mIn τ b i
      · rw [hwM_t c] at ih
        rw [b2i_t c]
        refine go_X12_ask (ct := fun p => p == 123 || p == 56) 20 ?_
        simp only [oI, oL, oR, o1, lI, lL, lR, popN, catS, gv, stL, stL2, swt, cnd, spObj, List.getElem?_cons_zero, List.getElem?_cons_succ, List.getD_cons_zero, List.getD_cons_succ, List.set_cons_zero, List.set_cons_succ, List.nil_append, List.cons_append, Option.toList, Bool.or_false, Bool.false_or, Bool.or_true, Bool.true_or, Nat.reduceBEq, Nat.reduceAdd, Nat.reduceLT, Nat.reduceLeDiff, Int.reduceAdd, Int.reduceToNat, true_and, and_true, Fin.isValue, Fin.val_zero, Fin.val_one, Fin.val_two, Fin.reduceFinMk, eq_self, Int.reduceNeg, imp_self, Nat.reduceMul, Nat.le_refl, not_true_eq_false, not_false_eq_true, List.getElem?_nil, reduceCtorEq, true_or, or_true, Classical.not_not, implies_true, or_self, wI_0, wI_1, wI_m1, b2i_w, b2i_eq0, b2i_eq1, b2i_bool, nor_self, nx_pI, kd_pI, ln_pI, fI_pI, fL_pI, fR_pI, aI_pI, aL_pI, aR_pI, nx_pL, kd_pL, ln_pL, fI_pL, fL_pL, fR_pL, aI_pL, aL_pL, aR_pL, nx_pR, kd_pR, ln_pR, fI_pR, fL_pR, fR_pR, aI_pR, aL_pR, aR_pR, nx_qI, kd_qI, ln_qI, fI_qI, fL_qI, fR_qI, aI_qI, aL_qI, aR_qI, nx_qL, kd_qL, ln_qL, fI_qL, fL_qL, fR_qL, aI_qL, aL_qL, aR_qL, nx_qR, kd_qR, ln_qR, fI_qR, fL_qR, fR_qR, aI_qR, aL_qR, aR_qR, nx_mk, kd_mk, ln_mk, fI_mk, fL_mk, fR_mk, aI_mk, aL_mk, aR_mk, false_and, and_false, if_false, if_true, and_self, Int.reduceEq, Nat.reduceEqDiff, ite_self, MLay_pI, MLay_pL, MLay_qI, MLay_qL, ev_X12_ask_115, ev_X12_ask_117, ev_X12_ask_120, ev_X12_ask_123, ev_X12_ask_126, xt_X12_ask, xf_X12_ask, us_J9_max_7cf53, hkd, not_true_eq_false, not_false_eq_true, false_imp_iff, true_imp_iff]
        first | exact ih _ _ | skip
        refine go_X12_ask (ct := fun p => p == 56) 20 ?_
        simp only [oI, oL, oR, o1, lI, lL, lR, popN, catS, gv, stL, stL2, swt, cnd, spObj, List.getElem?_cons_zero, List.getElem?_cons_succ, List.getD_cons_zero, List.getD_cons_succ, List.set_cons_zero, List.set_cons_succ, List.nil_append, List.cons_append, Option.toList, Bool.or_false, Bool.false_or, Bool.or_true, Bool.true_or, Nat.reduceBEq, Nat.reduceAdd, Nat.reduceLT, Nat.reduceLeDiff, Int.reduceAdd, Int.reduceToNat, true_and, and_true, Fin.isValue, Fin.val_zero, Fin.val_one, Fin.val_two, Fin.reduceFinMk, eq_self, Int.reduceNeg, imp_self, Nat.reduceMul, Nat.le_refl, not_true_eq_false, not_false_eq_true, List.getElem?_nil, reduceCtorEq, true_or, or_true, Classical.not_not, implies_true, or_self, wI_0, wI_1, wI_m1, b2i_w, b2i_eq0, b2i_eq1, b2i_bool, nor_self, nx_pI, kd_pI, ln_pI, fI_pI, fL_pI, fR_pI, aI_pI, aL_pI, aR_pI, nx_pL, kd_pL, ln_pL, fI_pL, fL_pL, fR_pL, aI_pL, aL_pL, aR_pL, nx_pR, kd_pR, ln_pR, fI_pR, fL_pR, fR_pR, aI_pR, aL_pR, aR_pR, nx_qI, kd_qI, ln_qI, fI_qI, fL_qI, fR_qI, aI_qI, aL_qI, aR_qI, nx_qL, kd_qL, ln_qL, fI_qL, fL_qL, fR_qL, aI_qL, aL_qL, aR_qL, nx_qR, kd_qR, ln_qR, fI_qR, fL_qR, fR_qR, aI_qR, aL_qR, aR_qR, nx_mk, kd_mk, ln_mk, fI_mk, fL_mk, fR_mk, aI_mk, aL_mk, aR_mk, false_and, and_false, if_false, if_true, and_self, Int.reduceEq, Nat.reduceEqDiff, ite_self, MLay_pI, MLay_pL, MLay_qI, MLay_qL, ev_X12_ask_115, ev_X12_ask_117, ev_X12_ask_120, ev_X12_ask_123, ev_X12_ask_126, xt_X12_ask, xf_X12_ask, us_J9_max_7cf53, hkd]
        exact ih _ _
      · rw [hwM_f c] at ih
        rw [b2i_f c]
        refine go_X12_ask (ct := fun p => p == 120 || p == 56) 20 ?_
        simp only [oI, oL, oR, o1, lI, lL, lR, popN, catS, gv, stL, stL2, swt, cnd, spObj, List.getElem?_cons_zero, List.getElem?_cons_succ, List.getD_cons_zero, List.getD_cons_succ, List.set_cons_zero, List.set_cons_succ, List.nil_append, List.cons_append, Option.toList, Bool.or_false, Bool.false_or, Bool.or_true, Bool.true_or, Nat.reduceBEq, Nat.reduceAdd, Nat.reduceLT, Nat.reduceLeDiff, Int.reduceAdd, Int.reduceToNat, true_and, and_true, Fin.isValue, Fin.val_zero, Fin.val_one, Fin.val_two, Fin.reduceFinMk, eq_self, Int.reduceNeg, imp_self, Nat.reduceMul, Nat.le_refl, not_true_eq_false, not_false_eq_true, List.getElem?_nil, reduceCtorEq, true_or, or_true, Classical.not_not, implies_true, or_self, wI_0, wI_1, wI_m1, b2i_w, b2i_eq0, b2i_eq1, b2i_bool, nor_self, nx_pI, kd_pI, ln_pI, fI_pI, fL_pI, fR_pI, aI_pI, aL_pI, aR_pI, nx_pL, kd_pL, ln_pL, fI_pL, fL_pL, fR_pL, aI_pL, aL_pL, aR_pL, nx_pR, kd_pR, ln_pR, fI_pR, fL_pR, fR_pR, aI_pR, aL_pR, aR_pR, nx_qI, kd_qI, ln_qI, fI_qI, fL_qI, fR_qI, aI_qI, aL_qI, aR_qI, nx_qL, kd_qL, ln_qL, fI_qL, fL_qL, fR_qL, aI_qL, aL_qL, aR_qL, nx_qR, kd_qR, ln_qR, fI_qR, fL_qR, fR_qR, aI_qR, aL_qR, aR_qR, nx_mk, kd_mk, ln_mk, fI_mk, fL_mk, fR_mk, aI_mk, aL_mk, aR_mk, false_and, and_false, if_false, if_true, and_self, Int.reduceEq, Nat.reduceEqDiff, ite_self, MLay_pI, MLay_pL, MLay_qI, MLay_qL, ev_X12_ask_115, ev_X12_ask_117, ev_X12_ask_120, ev_X12_ask_123, ev_X12_ask_126, xt_X12_ask, xf_X12_ask, us_J9_max_7cf53, hkd, not_true_eq_false, not_false_eq_true, false_imp_iff, true_imp_iff]
        exact ih _ _) (fI τ 1323 61).toNat 0 (by omega) (by omega)
    rw [b2i_E0] at w71
    refine go_X12_ask (ct := fun p => p == 129 || p == 71) 20 ?_
    simp only [oI, oL, oR, o1, lI, lL, lR, popN, catS, gv, stL, stL2, swt, cnd, spObj, List.getElem?_cons_zero, List.getElem?_cons_succ, List.getD_cons_zero, List.getD_cons_succ, List.set_cons_zero, List.set_cons_succ, List.nil_append, List.cons_append, Option.toList, Bool.or_false, Bool.false_or, Bool.or_true, Bool.true_or, Nat.reduceBEq, Nat.reduceAdd, Nat.reduceLT, Nat.reduceLeDiff, Int.reduceAdd, Int.reduceToNat, true_and, and_true, Fin.isValue, Fin.val_zero, Fin.val_one, Fin.val_two, Fin.reduceFinMk, eq_self, Int.reduceNeg, imp_self, Nat.reduceMul, Nat.le_refl, not_true_eq_false, not_false_eq_true, List.getElem?_nil, reduceCtorEq, true_or, or_true, Classical.not_not, implies_true, or_self, wI_0, wI_1, wI_m1, b2i_w, b2i_eq0, b2i_eq1, b2i_bool, nor_self, nx_pI, kd_pI, ln_pI, fI_pI, fL_pI, fR_pI, aI_pI, aL_pI, aR_pI, nx_pL, kd_pL, ln_pL, fI_pL, fL_pL, fR_pL, aI_pL, aL_pL, aR_pL, nx_pR, kd_pR, ln_pR, fI_pR, fL_pR, fR_pR, aI_pR, aL_pR, aR_pR, nx_qI, kd_qI, ln_qI, fI_qI, fL_qI, fR_qI, aI_qI, aL_qI, aR_qI, nx_qL, kd_qL, ln_qL, fI_qL, fL_qL, fR_qL, aI_qL, aL_qL, aR_qL, nx_qR, kd_qR, ln_qR, fI_qR, fL_qR, fR_qR, aI_qR, aL_qR, aR_qR, nx_mk, kd_mk, ln_mk, fI_mk, fL_mk, fR_mk, aI_mk, aL_mk, aR_mk, false_and, and_false, if_false, if_true, and_self, Int.reduceEq, Nat.reduceEqDiff, ite_self, MLay_pI, MLay_pL, MLay_qI, MLay_qL, ev_X12_ask_56, ev_X12_ask_58, ev_X12_ask_59, ev_X12_ask_62, ev_X12_ask_65, ev_X12_ask_66, ev_X12_ask_68, ev_X12_ask_69, xt_X12_ask, xf_X12_ask, us_J9_max_7cf53, hkd]
    try simp (disch := omega) only [wI_id, dv_nn, rm_nn]
    repeat' (first | intro z | apply And.intro)
    all_goals try omega
    all_goals exact w71

set_option maxRecDepth 20000 in
theorem ask_21 {Q : Option AV → Hp → Prop} {τ : Hp} (hT : MI τ) (hr : 0 ≤ fI τ 1321 61) (w : Q (some (vi (mAsk τ (aI τ 74 (fI τ 1321 61)).toNat).1)) τ) : ∀ (m k : Nat) (a4 a5 a6 a7 a8 : Option AV), (k : Int) + m = aI τ 74 (fI τ 1321 61) → Go M_X12_ask Q 21 [some (vr 61), some (vi (mAsk τ k).1), some (vi (mAsk τ k).2), some (vi k), a4, a5, a6, a7, a8] [] τ (0, 0) := by
  have hkd : kd τ 61 = 13 := hT.lay.1
  have x1 := hT.storyCount_s
  have x2 := hT.readLoop_s
  have x3 := hT.many_ (fI τ 1321 61)
  intro m
  induction m with
  | zero =>
    intro k a4 a5 a6 a7 a8 hk
    have ek : (aI τ 74 (fI τ 1321 61)).toNat = k := by omega
    rw [ek] at w
    refine go_X12_ask (ct := fun p => p == 34) 20 ?_
    simp only [oI, oL, oR, o1, lI, lL, lR, popN, catS, gv, stL, stL2, swt, cnd, spObj, List.getElem?_cons_zero, List.getElem?_cons_succ, List.getD_cons_zero, List.getD_cons_succ, List.set_cons_zero, List.set_cons_succ, List.nil_append, List.cons_append, Option.toList, Bool.or_false, Bool.false_or, Bool.or_true, Bool.true_or, Nat.reduceBEq, Nat.reduceAdd, Nat.reduceLT, Nat.reduceLeDiff, Int.reduceAdd, Int.reduceToNat, true_and, and_true, Fin.isValue, Fin.val_zero, Fin.val_one, Fin.val_two, Fin.reduceFinMk, eq_self, Int.reduceNeg, imp_self, Nat.reduceMul, Nat.le_refl, not_true_eq_false, not_false_eq_true, List.getElem?_nil, reduceCtorEq, true_or, or_true, Classical.not_not, implies_true, or_self, wI_0, wI_1, wI_m1, b2i_w, b2i_eq0, b2i_eq1, b2i_bool, nor_self, nx_pI, kd_pI, ln_pI, fI_pI, fL_pI, fR_pI, aI_pI, aL_pI, aR_pI, nx_pL, kd_pL, ln_pL, fI_pL, fL_pL, fR_pL, aI_pL, aL_pL, aR_pL, nx_pR, kd_pR, ln_pR, fI_pR, fL_pR, fR_pR, aI_pR, aL_pR, aR_pR, nx_qI, kd_qI, ln_qI, fI_qI, fL_qI, fR_qI, aI_qI, aL_qI, aR_qI, nx_qL, kd_qL, ln_qL, fI_qL, fL_qL, fR_qL, aI_qL, aL_qL, aR_qL, nx_qR, kd_qR, ln_qR, fI_qR, fL_qR, fR_qR, aI_qR, aL_qR, aR_qR, nx_mk, kd_mk, ln_mk, fI_mk, fL_mk, fR_mk, aI_mk, aL_mk, aR_mk, false_and, and_false, if_false, if_true, and_self, Int.reduceEq, Nat.reduceEqDiff, ite_self, MLay_pI, MLay_pL, MLay_qI, MLay_qL, ev_X12_ask_21, ev_X12_ask_22, ev_X12_ask_23, ev_X12_ask_26, ev_X12_ask_27, ev_X12_ask_30, ev_X12_ask_31, ev_X12_ask_168, ev_X12_ask_169, xt_X12_ask, xf_X12_ask, us_J9_max_7cf53, hkd, hT.lay.eqs]
    try simp (disch := omega) only [wI_id, dv_nn, rm_nn]
    repeat' (first | intro z | apply And.intro)
    all_goals try omega
    all_goals exact w
  | succ m ih =>
    intro k a4 a5 a6 a7 a8 hk
    have ih := fun a4 a5 a6 a7 a8 => ih (k + 1) a4 a5 a6 a7 a8 (by omega)
    simp only [Int.natCast_add, Int.cast_ofNat_Int] at ih
    have hbx := hT.boxAt_ (12 * fI τ 1321 61 + k)
    have hA := mAsk_in hT k
    have eK : mAsk τ (k + 1) = if 0 ≤ (mAsk τ k).1 ∧ (mAsk τ k).2 ≤ mGrt τ (aI τ 75 (12 * fI τ 1321 61 + k)) then mAsk τ k else (aI τ 75 (12 * fI τ 1321 61 + k), mGrt τ (aI τ 75 (12 * fI τ 1321 61 + k))) := rfl
    rw [eK] at ih
    have hH := mHave_in hT (aI τ 75 (12 * fI τ 1321 61 + k))
    have hG := mGrt_in hT (aI τ 75 (12 * fI τ 1321 61 + k))
    have eG : mGrt τ (aI τ 75 (12 * fI τ 1321 61 + k)) = if mHave τ (aI τ 75 (12 * fI τ 1321 61 + k)) < fI τ 1322 61 - mHave τ (aI τ 75 (12 * fI τ 1321 61 + k)) then fI τ 1322 61 - mHave τ (aI τ 75 (12 * fI τ 1321 61 + k)) else mHave τ (aI τ 75 (12 * fI τ 1321 61 + k)) := rfl
    have w56 := ask_56 (Q := Q) (a1 := some (vi (mAsk τ k).1)) (a2 := some (vi (mAsk τ k).2)) (a3 := some (vi k)) hT hbx (fun a6 a7 a8 => by
      generalize mHave τ (aI τ 75 (12 * fI τ 1321 61 + k)) = hv at *
      generalize mGrt τ (aI τ 75 (12 * fI τ 1321 61 + k)) = g at *
      generalize aI τ 75 (12 * fI τ 1321 61 + k) = b at *
      generalize mAsk τ k = A at *
      obtain ⟨A1, A2⟩ := A
      dsimp only at *
      have hg1 : (-1000000 ≤ hv ∧ hv ≤ 1000000) ∧ (-1000000 ≤ fI τ 1322 61 - hv ∧ fI τ 1322 61 - hv ≤ 1000000) := by omega
      refine go_X12_ask (ct := fun p => p == 21) 40 ?_
      simp only [oI, oL, oR, o1, lI, lL, lR, popN, catS, gv, stL, stL2, swt, cnd, spObj, List.getElem?_cons_zero, List.getElem?_cons_succ, List.getD_cons_zero, List.getD_cons_succ, List.set_cons_zero, List.set_cons_succ, List.nil_append, List.cons_append, Option.toList, Bool.or_false, Bool.false_or, Bool.or_true, Bool.true_or, Nat.reduceBEq, Nat.reduceAdd, Nat.reduceLT, Nat.reduceLeDiff, Int.reduceAdd, Int.reduceToNat, true_and, and_true, Fin.isValue, Fin.val_zero, Fin.val_one, Fin.val_two, Fin.reduceFinMk, eq_self, Int.reduceNeg, imp_self, Nat.reduceMul, Nat.le_refl, not_true_eq_false, not_false_eq_true, List.getElem?_nil, reduceCtorEq, true_or, or_true, Classical.not_not, implies_true, or_self, wI_0, wI_1, wI_m1, b2i_w, b2i_eq0, b2i_eq1, b2i_bool, nor_self, nx_pI, kd_pI, ln_pI, fI_pI, fL_pI, fR_pI, aI_pI, aL_pI, aR_pI, nx_pL, kd_pL, ln_pL, fI_pL, fL_pL, fR_pL, aI_pL, aL_pL, aR_pL, nx_pR, kd_pR, ln_pR, fI_pR, fL_pR, fR_pR, aI_pR, aL_pR, aR_pR, nx_qI, kd_qI, ln_qI, fI_qI, fL_qI, fR_qI, aI_qI, aL_qI, aR_qI, nx_qL, kd_qL, ln_qL, fI_qL, fL_qL, fR_qL, aI_qL, aL_qL, aR_qL, nx_qR, kd_qR, ln_qR, fI_qR, fL_qR, fR_qR, aI_qR, aL_qR, aR_qR, nx_mk, kd_mk, ln_mk, fI_mk, fL_mk, fR_mk, aI_mk, aL_mk, aR_mk, false_and, and_false, if_false, if_true, and_self, Int.reduceEq, Nat.reduceEqDiff, ite_self, MLay_pI, MLay_pL, MLay_qI, MLay_qL, ev_X12_ask_129, ev_X12_ask_131, ev_X12_ask_132, ev_X12_ask_135, ev_X12_ask_137, ev_X12_ask_138, ev_X12_ask_141, ev_X12_ask_143, ev_X12_ask_144, ev_X12_ask_147, ev_X12_ask_149, ev_X12_ask_150, ev_X12_ask_153, ev_X12_ask_156, ev_X12_ask_158, ev_X12_ask_159, ev_X12_ask_161, ev_X12_ask_162, ev_X12_ask_165, xt_X12_ask, xf_X12_ask, us_J9_max_7cf53, hkd, hg1, ← eG]
      try simp (disch := omega) only [wI_id, dv_nn, rm_nn]
      repeat' (first | intro z | apply And.intro)
      all_goals try omega
      all_goals first
        | (rw [if_neg (by omega)] at ih; exact ih _ _ _ _ _)
        | (rw [if_pos ⟨by omega, by omega⟩] at ih; exact ih _ _ _ _ _)) (fI τ 1322 61).toNat 0 a7 a8 (by omega)
    simp only [hwM, Int.cast_ofNat_Int] at w56
    refine go_X12_ask (ct := fun p => p == 56 || p == 168) 40 ?_
    simp only [oI, oL, oR, o1, lI, lL, lR, popN, catS, gv, stL, stL2, swt, cnd, spObj, List.getElem?_cons_zero, List.getElem?_cons_succ, List.getD_cons_zero, List.getD_cons_succ, List.set_cons_zero, List.set_cons_succ, List.nil_append, List.cons_append, Option.toList, Bool.or_false, Bool.false_or, Bool.or_true, Bool.true_or, Nat.reduceBEq, Nat.reduceAdd, Nat.reduceLT, Nat.reduceLeDiff, Int.reduceAdd, Int.reduceToNat, true_and, and_true, Fin.isValue, Fin.val_zero, Fin.val_one, Fin.val_two, Fin.reduceFinMk, eq_self, Int.reduceNeg, imp_self, Nat.reduceMul, Nat.le_refl, not_true_eq_false, not_false_eq_true, List.getElem?_nil, reduceCtorEq, true_or, or_true, Classical.not_not, implies_true, or_self, wI_0, wI_1, wI_m1, b2i_w, b2i_eq0, b2i_eq1, b2i_bool, nor_self, nx_pI, kd_pI, ln_pI, fI_pI, fL_pI, fR_pI, aI_pI, aL_pI, aR_pI, nx_pL, kd_pL, ln_pL, fI_pL, fL_pL, fR_pL, aI_pL, aL_pL, aR_pL, nx_pR, kd_pR, ln_pR, fI_pR, fL_pR, fR_pR, aI_pR, aL_pR, aR_pR, nx_qI, kd_qI, ln_qI, fI_qI, fL_qI, fR_qI, aI_qI, aL_qI, aR_qI, nx_qL, kd_qL, ln_qL, fI_qL, fL_qL, fR_qL, aI_qL, aL_qL, aR_qL, nx_qR, kd_qR, ln_qR, fI_qR, fL_qR, fR_qR, aI_qR, aL_qR, aR_qR, nx_mk, kd_mk, ln_mk, fI_mk, fL_mk, fR_mk, aI_mk, aL_mk, aR_mk, false_and, and_false, if_false, if_true, and_self, Int.reduceEq, Nat.reduceEqDiff, ite_self, MLay_pI, MLay_pL, MLay_qI, MLay_qL, ev_X12_ask_21, ev_X12_ask_22, ev_X12_ask_23, ev_X12_ask_26, ev_X12_ask_27, ev_X12_ask_30, ev_X12_ask_31, ev_X12_ask_34, ev_X12_ask_35, ev_X12_ask_38, ev_X12_ask_40, ev_X12_ask_41, ev_X12_ask_44, ev_X12_ask_45, ev_X12_ask_46, ev_X12_ask_47, ev_X12_ask_48, ev_X12_ask_50, ev_X12_ask_51, ev_X12_ask_53, ev_X12_ask_54, xt_X12_ask, xf_X12_ask, us_J9_max_7cf53, hkd, hT.lay.eqs]
    try simp (disch := omega) only [wI_id, dv_nn, rm_nn]
    repeat' (first | intro z | apply And.intro)
    all_goals try omega
    all_goals exact w56

theorem mAsk_th (σ : Hp) (v : Int) : ∀ k, mAsk (pI σ 1300 61 v) k = mAsk σ k
  | 0 => rfl
  | k + 1 => by
    unfold mAsk
    rw [mAsk_th σ v k]
    rfl

set_option maxRecDepth 20000 in
theorem c_X12_ask : Ct yX12_ask cX12_ask 9 ((some FieldType.int)) 2 0 0 sp_X12_ask := by
  refine Ct.go (M := M_X12_ask) mm_X12_ask fun av σ Q h0 => ?_
  obtain ⟨this, rfl, hk, h⟩ := el_X12_ask h0
  clear h0
  refine ⟨Nat.le_of_ble_eq_true rfl, ?_⟩
  show Go M_X12_ask Q 0 [some (vr this), none, none, none, none, none, none, none, none] [] σ (0, 0)
  obtain ⟨rfl, hI, hr, h⟩ := h
  have hI2 : MI (pI σ 1300 61 0) := MI_fre hI (by decide)
  have x1 := hI.storyCount_s
  have hw2 : wI 2 = 2 := by decide
  have hws : wI (fI σ 1322 61) = fI σ 1322 61 := wI_id (by omega) (by omega)
  by_cases c : 2 ≤ fI σ 1322 61
  · rw [if_pos c] at h
    have x3 := hI.many_ (fI σ 1321 61)
    have w := ask_21 (Q := Q) hI2 (hr c) (by rw [mAsk_th]; exact h) (aI σ 74 (fI σ 1321 61)).toNat 0 none none none none none (by rw [show aI (pI σ 1300 61 0) 74 = aI σ 74 from rfl, show fI (pI σ 1300 61 0) 1321 61 = fI σ 1321 61 from rfl]; omega)
    have cT := eq_true c
    refine go_X12_ask (ct := fun p => p == 13 || p == 21) 30 ?_
    simp only [oI, oL, oR, o1, lI, lL, lR, popN, catS, gv, stL, stL2, swt, cnd, spObj, List.getElem?_cons_zero, List.getElem?_cons_succ, List.getD_cons_zero, List.getD_cons_succ, List.set_cons_zero, List.set_cons_succ, List.nil_append, List.cons_append, Option.toList, Bool.or_false, Bool.false_or, Bool.or_true, Bool.true_or, Nat.reduceBEq, Nat.reduceAdd, Nat.reduceLT, Nat.reduceLeDiff, Int.reduceAdd, Int.reduceToNat, true_and, and_true, Fin.isValue, Fin.val_zero, Fin.val_one, Fin.val_two, Fin.reduceFinMk, eq_self, Int.reduceNeg, imp_self, Nat.reduceMul, Nat.le_refl, not_true_eq_false, not_false_eq_true, List.getElem?_nil, reduceCtorEq, true_or, or_true, Classical.not_not, implies_true, or_self, wI_0, wI_1, wI_m1, b2i_w, b2i_eq0, b2i_eq1, b2i_bool, nor_self, nx_pI, kd_pI, ln_pI, fI_pI, fL_pI, fR_pI, aI_pI, aL_pI, aR_pI, nx_pL, kd_pL, ln_pL, fI_pL, fL_pL, fR_pL, aI_pL, aL_pL, aR_pL, nx_pR, kd_pR, ln_pR, fI_pR, fL_pR, fR_pR, aI_pR, aL_pR, aR_pR, nx_qI, kd_qI, ln_qI, fI_qI, fL_qI, fR_qI, aI_qI, aL_qI, aR_qI, nx_qL, kd_qL, ln_qL, fI_qL, fL_qL, fR_qL, aI_qL, aL_qL, aR_qL, nx_qR, kd_qR, ln_qR, fI_qR, fL_qR, fR_qR, aI_qR, aL_qR, aR_qR, nx_mk, kd_mk, ln_mk, fI_mk, fL_mk, fR_mk, aI_mk, aL_mk, aR_mk, false_and, and_false, if_false, if_true, and_self, Int.reduceEq, Nat.reduceEqDiff, ite_self, MLay_pI, MLay_pL, MLay_qI, MLay_qL, ev_X12_ask_0, ev_X12_ask_1, ev_X12_ask_2, ev_X12_ask_5, ev_X12_ask_6, ev_X12_ask_9, ev_X12_ask_10, ev_X12_ask_13, ev_X12_ask_14, ev_X12_ask_15, ev_X12_ask_16, ev_X12_ask_17, ev_X12_ask_18, ev_X12_ask_19, ev_X12_ask_20, xt_X12_ask, xf_X12_ask, us_J9_max_7cf53, hk, hw2, hws, cT, not_true_eq_false, not_false_eq_true, false_imp_iff, true_imp_iff]
    exact w
  · rw [if_neg c] at h
    have cF := eq_false c
    refine go_X12_ask (ct := fun p => p == 15) 30 ?_
    simp only [oI, oL, oR, o1, lI, lL, lR, popN, catS, gv, stL, stL2, swt, cnd, spObj, List.getElem?_cons_zero, List.getElem?_cons_succ, List.getD_cons_zero, List.getD_cons_succ, List.set_cons_zero, List.set_cons_succ, List.nil_append, List.cons_append, Option.toList, Bool.or_false, Bool.false_or, Bool.or_true, Bool.true_or, Nat.reduceBEq, Nat.reduceAdd, Nat.reduceLT, Nat.reduceLeDiff, Int.reduceAdd, Int.reduceToNat, true_and, and_true, Fin.isValue, Fin.val_zero, Fin.val_one, Fin.val_two, Fin.reduceFinMk, eq_self, Int.reduceNeg, imp_self, Nat.reduceMul, Nat.le_refl, not_true_eq_false, not_false_eq_true, List.getElem?_nil, reduceCtorEq, true_or, or_true, Classical.not_not, implies_true, or_self, wI_0, wI_1, wI_m1, b2i_w, b2i_eq0, b2i_eq1, b2i_bool, nor_self, nx_pI, kd_pI, ln_pI, fI_pI, fL_pI, fR_pI, aI_pI, aL_pI, aR_pI, nx_pL, kd_pL, ln_pL, fI_pL, fL_pL, fR_pL, aI_pL, aL_pL, aR_pL, nx_pR, kd_pR, ln_pR, fI_pR, fL_pR, fR_pR, aI_pR, aL_pR, aR_pR, nx_qI, kd_qI, ln_qI, fI_qI, fL_qI, fR_qI, aI_qI, aL_qI, aR_qI, nx_qL, kd_qL, ln_qL, fI_qL, fL_qL, fR_qL, aI_qL, aL_qL, aR_qL, nx_qR, kd_qR, ln_qR, fI_qR, fL_qR, fR_qR, aI_qR, aL_qR, aR_qR, nx_mk, kd_mk, ln_mk, fI_mk, fL_mk, fR_mk, aI_mk, aL_mk, aR_mk, false_and, and_false, if_false, if_true, and_self, Int.reduceEq, Nat.reduceEqDiff, ite_self, MLay_pI, MLay_pL, MLay_qI, MLay_qL, ev_X12_ask_0, ev_X12_ask_1, ev_X12_ask_2, ev_X12_ask_5, ev_X12_ask_6, ev_X12_ask_9, ev_X12_ask_10, ev_X12_ask_13, ev_X12_ask_14, ev_X12_ask_15, ev_X12_ask_16, ev_X12_ask_17, ev_X12_ask_18, ev_X12_ask_19, ev_X12_ask_20, xt_X12_ask, xf_X12_ask, us_J9_max_7cf53, hk, hw2, hws, cF, not_true_eq_false, not_false_eq_true, false_imp_iff, true_imp_iff]
    exact h
