/-! the class: which box to ask for -/

theorem hwM_cgb {P P' : Int → Prop} : ∀ n : Nat, (∀ j : Int, 0 ≤ j → j < n → (P' j ↔ P j)) → hwM P' n = hwM P n
  | 0, _ => rfl
  | n + 1, h => by
    rw [hwM_s, hwM_s, hwM_cgb n (fun j a b => h j a (by omega)), b2i_congr (h n (by omega) (by omega))]
/-- the i-th story has a beginning of the box at k -/
def hasK (xs : List (List Int)) (k : Int) (i : Int) : Prop := ∃ x, xs[i.toNat]? = some x ∧ ∃ p ∈ x, p / 300 = k
def xsOk (xs : List (List Int)) (sz : Int) : Prop := ∀ x ∈ xs, (x.length : Int) = sz ∧ (∀ q ∈ x, 0 ≤ q ∧ q / 300 < 12) ∧ x.Pairwise (fun p q => p / 300 < q / 300)

def sp_X10_countHaving : Sp := fun av σ Q => oR av fun this av => oI av fun k av => av = [] ∧ kd σ this = 11 ∧ (this = 4 ∧ CLay σ ∧ (0 ≤ k ∧ k < 12) ∧ ∃ (xs : List (List Int)), KM σ (xs.map keyL) ∧ (0 ≤ fI σ 1108 4 ∧ fI σ 1108 4 ≤ 3) ∧ xsOk xs (fI σ 1108 4) ∧ Q (some (vi (hwM (hasK xs k) xs.length))) σ)
theorem us_X10_countHaving (this : Int) (k : Int) (σ : Hp) (Q : Option AV → Hp → Prop) : sp_X10_countHaving [vr this, vi k] σ Q = (kd σ this = 11 ∧ (this = 4 ∧ CLay σ ∧ (0 ≤ k ∧ k < 12) ∧ ∃ (xs : List (List Int)), KM σ (xs.map keyL) ∧ (0 ≤ fI σ 1108 4 ∧ fI σ 1108 4 ≤ 3) ∧ xsOk xs (fI σ 1108 4) ∧ Q (some (vi (hwM (hasK xs k) xs.length))) σ)) := propext ⟨fun h => h.2, fun h => ⟨rfl, h⟩⟩
theorem el_X10_countHaving {av : List AV} {σ : Hp} {Q : Option AV → Hp → Prop} (h : sp_X10_countHaving av σ Q) : ∃ (this : Int) (k : Int), av = [vr this, vi k] ∧ (kd σ this = 11 ∧ (this = 4 ∧ CLay σ ∧ (0 ≤ k ∧ k < 12) ∧ ∃ (xs : List (List Int)), KM σ (xs.map keyL) ∧ (0 ≤ fI σ 1108 4 ∧ fI σ 1108 4 ≤ 3) ∧ xsOk xs (fI σ 1108 4) ∧ Q (some (vi (hwM (hasK xs k) xs.length))) σ)) := by
  obtain ⟨this, a0, rfl, h0⟩ := oR_s h
  obtain ⟨k, a1, rfl, h1⟩ := oI_s h0
  obtain ⟨rfl, hz⟩ := h1
  exact ⟨this, k, rfl, hz⟩
theorem rc_X10_countHaving : ∀ (av : List AV) (σ : Hp) (Q : Option AV → Hp → Prop), sp_X10_countHaving av σ Q → ∃ r tl, av = vr r :: tl ∧ kd σ r = 10 + 1 := fun av σ Q h => by
  obtain ⟨this, k, rfl, hz, -⟩ := el_X10_countHaving h
  exact ⟨this, _, rfl, hz⟩

def tb_X10_countHaving : Tab := [(0, .iconst 0, 1, (0, 0, 0, 0)), (1, .istore_n 2, 1, (0, 0, 0, 0)), (2, .iconst 0, 1, (0, 0, 0, 0)), (3, .istore_n 3, 1, (0, 0, 0, 0)), (4, .iload_n 3, 1, (0, 0, 0, 0)), (5, .aload_n 0, 1, (0, 0, 0, 0)), (6, .getfield 47, 3, (11, 1109, 0, 0)), (9, .if_icmp .ge 49, 3, (0, 0, 0, 0)), (12, .iconst 0, 1, (0, 0, 0, 0)), (13, .istore 4, 2, (0, 0, 0, 0)), (15, .iload 4, 2, (0, 0, 0, 0)), (17, .aload_n 0, 1, (0, 0, 0, 0)), (18, .getfield 44, 3, (11, 1108, 0, 0)), (21, .if_icmp .ge 31, 3, (0, 0, 0, 0)), (24, .iload_n 2, 1, (0, 0, 0, 0)), (25, .aload_n 0, 1, (0, 0, 0, 0)), (26, .iload_n 3, 1, (0, 0, 0, 0)), (27, .iload 4, 2, (0, 0, 0, 0)), (29, .invokevirtual 137, 3, (0, 0, 0, 0)), (32, .bipush 9, 2, (0, 0, 0, 0)), (34, .ishr, 1, (0, 0, 0, 0)), (35, .iload_n 1, 1, (0, 0, 0, 0)), (36, .if_icmp .ne 7, 3, (0, 0, 0, 0)), (39, .iconst 1, 1, (0, 0, 0, 0)), (40, .goto 4, 3, (0, 0, 0, 0)), (43, .iconst 0, 1, (0, 0, 0, 0)), (44, .iadd, 1, (0, 0, 0, 0)), (45, .istore_n 2, 1, (0, 0, 0, 0)), (46, .iinc 4 1, 3, (0, 0, 0, 0)), (49, .goto (-34), 3, (0, 0, 0, 0)), (52, .iinc 3 1, 3, (0, 0, 0, 0)), (55, .goto (-51), 3, (0, 0, 0, 0)), (58, .iload_n 2, 1, (0, 0, 0, 0)), (59, .ireturn, 1, (0, 0, 0, 0))]
set_option maxRecDepth 100000 in
theorem tk_X10_countHaving : TOK RX10 false cX10_countHaving tb_X10_countHaving := chkT_ok ft_X10 (by decide +kernel)
def mt_X10_countHaving : List (Nat × Mt) := [(1096, 3, 0, 0, 2, sp_X10_beginning)]
theorem em_X10_countHaving : mt_X10_countHaving.lookup 1096 = some (3, 0, 0, 2, sp_X10_beginning) := rfl
theorem mk_X10_countHaving : MOK RX10 mt_X10_countHaving := by
  intro q hq
  simp only [mt_X10_countHaving, List.mem_cons, List.not_mem_nil, or_false] at hq
  rcases hq with rfl
  · exact rw_X10_1096
noncomputable def xe_X10_countHaving (ct : Nat → Bool) (K : Kt) (R : Option AV → Hp → Prop) (n : Nat) : Kt := exS 5 3 0 0 1 tb_X10_countHaving mt_X10_countHaving ct K R n
noncomputable def xk_X10_countHaving (ct : Nat → Bool) (K : Kt) (R : Option AV → Hp → Prop) (n : Nat) : Kt := exkS 5 3 0 0 1 tb_X10_countHaving mt_X10_countHaving ct K R n
theorem xt_X10_countHaving {ct : Nat → Bool} {K : Kt} {R : Option AV → Hp → Prop} {n pc : Nat} {ls : List (Option AV)} {st : List AV} {σ : Hp} {k : Nat × Nat} (h : ct pc = true) : xk_X10_countHaving ct K R n pc ls st σ k = K pc ls st σ k := by unfold xk_X10_countHaving exkS; rw [h]
theorem xf_X10_countHaving {ct : Nat → Bool} {K : Kt} {R : Option AV → Hp → Prop} {n pc : Nat} {ls : List (Option AV)} {st : List AV} {σ : Hp} {k : Nat × Nat} (h : ct pc = false) : xk_X10_countHaving ct K R n pc ls st σ k = xe_X10_countHaving ct K R n pc ls st σ k := by unfold xk_X10_countHaving exkS xe_X10_countHaving; rw [h]
theorem ev_X10_countHaving_0 {ct : Nat → Bool} {K : Kt} {R : Option AV → Hp → Prop} {n : Nat} {ls : List (Option AV)} {st : List AV} {σ : Hp} {k : Nat × Nat} : xe_X10_countHaving ct K R (n + 1) 0 ls st σ k = (xk_X10_countHaving ct K R n 1 ls (vi (0) :: st) σ k) := exS_step.trans rfl
theorem ev_X10_countHaving_1 {ct : Nat → Bool} {K : Kt} {R : Option AV → Hp → Prop} {n : Nat} {ls : List (Option AV)} {st : List AV} {σ : Hp} {k : Nat × Nat} : xe_X10_countHaving ct K R (n + 1) 1 ls st σ k = (oI st fun x st => 2 < 5 ∧ xk_X10_countHaving ct K R n 2 (stL ls 2 (vi x)) st σ k) := exS_step.trans rfl
theorem ev_X10_countHaving_2 {ct : Nat → Bool} {K : Kt} {R : Option AV → Hp → Prop} {n : Nat} {ls : List (Option AV)} {st : List AV} {σ : Hp} {k : Nat × Nat} : xe_X10_countHaving ct K R (n + 1) 2 ls st σ k = (xk_X10_countHaving ct K R n 3 ls (vi (0) :: st) σ k) := exS_step.trans rfl
theorem ev_X10_countHaving_3 {ct : Nat → Bool} {K : Kt} {R : Option AV → Hp → Prop} {n : Nat} {ls : List (Option AV)} {st : List AV} {σ : Hp} {k : Nat × Nat} : xe_X10_countHaving ct K R (n + 1) 3 ls st σ k = (oI st fun x st => 3 < 5 ∧ xk_X10_countHaving ct K R n 4 (stL ls 3 (vi x)) st σ k) := exS_step.trans rfl
theorem ev_X10_countHaving_4 {ct : Nat → Bool} {K : Kt} {R : Option AV → Hp → Prop} {n : Nat} {ls : List (Option AV)} {st : List AV} {σ : Hp} {k : Nat × Nat} : xe_X10_countHaving ct K R (n + 1) 4 ls st σ k = (lI ls 3 fun x => xk_X10_countHaving ct K R n 5 ls (vi x :: st) σ k) := exS_step.trans rfl
theorem ev_X10_countHaving_5 {ct : Nat → Bool} {K : Kt} {R : Option AV → Hp → Prop} {n : Nat} {ls : List (Option AV)} {st : List AV} {σ : Hp} {k : Nat × Nat} : xe_X10_countHaving ct K R (n + 1) 5 ls st σ k = (lR ls 0 fun x => xk_X10_countHaving ct K R n 6 ls (vr x :: st) σ k) := exS_step.trans rfl
theorem ev_X10_countHaving_6 {ct : Nat → Bool} {K : Kt} {R : Option AV → Hp → Prop} {n : Nat} {ls : List (Option AV)} {st : List AV} {σ : Hp} {k : Nat × Nat} : xe_X10_countHaving ct K R (n + 1) 6 ls st σ k = (oR st fun x st => kd σ x = 11 ∧ xk_X10_countHaving ct K R n 9 ls (vi (fI σ 1109 x) :: st) σ k) := exS_step.trans rfl
theorem ev_X10_countHaving_9 {ct : Nat → Bool} {K : Kt} {R : Option AV → Hp → Prop} {n : Nat} {ls : List (Option AV)} {st : List AV} {σ : Hp} {k : Nat × Nat} : xe_X10_countHaving ct K R (n + 1) 9 ls st σ k = (oI st fun y st => oI st fun x st => (wI y ≤ wI x → xk_X10_countHaving ct K R n 58 ls st σ k) ∧ (¬ (wI y ≤ wI x) → xk_X10_countHaving ct K R n 12 ls st σ k)) := exS_step.trans rfl
theorem ev_X10_countHaving_12 {ct : Nat → Bool} {K : Kt} {R : Option AV → Hp → Prop} {n : Nat} {ls : List (Option AV)} {st : List AV} {σ : Hp} {k : Nat × Nat} : xe_X10_countHaving ct K R (n + 1) 12 ls st σ k = (xk_X10_countHaving ct K R n 13 ls (vi (0) :: st) σ k) := exS_step.trans rfl
theorem ev_X10_countHaving_13 {ct : Nat → Bool} {K : Kt} {R : Option AV → Hp → Prop} {n : Nat} {ls : List (Option AV)} {st : List AV} {σ : Hp} {k : Nat × Nat} : xe_X10_countHaving ct K R (n + 1) 13 ls st σ k = (oI st fun x st => 4 < 5 ∧ xk_X10_countHaving ct K R n 15 (stL ls 4 (vi x)) st σ k) := exS_step.trans rfl
theorem ev_X10_countHaving_15 {ct : Nat → Bool} {K : Kt} {R : Option AV → Hp → Prop} {n : Nat} {ls : List (Option AV)} {st : List AV} {σ : Hp} {k : Nat × Nat} : xe_X10_countHaving ct K R (n + 1) 15 ls st σ k = (lI ls 4 fun x => xk_X10_countHaving ct K R n 17 ls (vi x :: st) σ k) := exS_step.trans rfl
theorem ev_X10_countHaving_17 {ct : Nat → Bool} {K : Kt} {R : Option AV → Hp → Prop} {n : Nat} {ls : List (Option AV)} {st : List AV} {σ : Hp} {k : Nat × Nat} : xe_X10_countHaving ct K R (n + 1) 17 ls st σ k = (lR ls 0 fun x => xk_X10_countHaving ct K R n 18 ls (vr x :: st) σ k) := exS_step.trans rfl
theorem ev_X10_countHaving_18 {ct : Nat → Bool} {K : Kt} {R : Option AV → Hp → Prop} {n : Nat} {ls : List (Option AV)} {st : List AV} {σ : Hp} {k : Nat × Nat} : xe_X10_countHaving ct K R (n + 1) 18 ls st σ k = (oR st fun x st => kd σ x = 11 ∧ xk_X10_countHaving ct K R n 21 ls (vi (fI σ 1108 x) :: st) σ k) := exS_step.trans rfl
theorem ev_X10_countHaving_21 {ct : Nat → Bool} {K : Kt} {R : Option AV → Hp → Prop} {n : Nat} {ls : List (Option AV)} {st : List AV} {σ : Hp} {k : Nat × Nat} : xe_X10_countHaving ct K R (n + 1) 21 ls st σ k = (oI st fun y st => oI st fun x st => (wI y ≤ wI x → xk_X10_countHaving ct K R n 52 ls st σ k) ∧ (¬ (wI y ≤ wI x) → xk_X10_countHaving ct K R n 24 ls st σ k)) := exS_step.trans rfl
theorem ev_X10_countHaving_24 {ct : Nat → Bool} {K : Kt} {R : Option AV → Hp → Prop} {n : Nat} {ls : List (Option AV)} {st : List AV} {σ : Hp} {k : Nat × Nat} : xe_X10_countHaving ct K R (n + 1) 24 ls st σ k = (lI ls 2 fun x => xk_X10_countHaving ct K R n 25 ls (vi x :: st) σ k) := exS_step.trans rfl
theorem ev_X10_countHaving_25 {ct : Nat → Bool} {K : Kt} {R : Option AV → Hp → Prop} {n : Nat} {ls : List (Option AV)} {st : List AV} {σ : Hp} {k : Nat × Nat} : xe_X10_countHaving ct K R (n + 1) 25 ls st σ k = (lR ls 0 fun x => xk_X10_countHaving ct K R n 26 ls (vr x :: st) σ k) := exS_step.trans rfl
theorem ev_X10_countHaving_26 {ct : Nat → Bool} {K : Kt} {R : Option AV → Hp → Prop} {n : Nat} {ls : List (Option AV)} {st : List AV} {σ : Hp} {k : Nat × Nat} : xe_X10_countHaving ct K R (n + 1) 26 ls st σ k = (lI ls 3 fun x => xk_X10_countHaving ct K R n 27 ls (vi x :: st) σ k) := exS_step.trans rfl
theorem ev_X10_countHaving_27 {ct : Nat → Bool} {K : Kt} {R : Option AV → Hp → Prop} {n : Nat} {ls : List (Option AV)} {st : List AV} {σ : Hp} {k : Nat × Nat} : xe_X10_countHaving ct K R (n + 1) 27 ls st σ k = (lI ls 4 fun x => xk_X10_countHaving ct K R n 29 ls (vi x :: st) σ k) := exS_step.trans rfl
theorem ev_X10_countHaving_29 {ct : Nat → Bool} {K : Kt} {R : Option AV → Hp → Prop} {n : Nat} {ls : List (Option AV)} {st : List AV} {σ : Hp} {k : Nat × Nat} : xe_X10_countHaving ct K R (n + 1) 29 ls st σ k = (popN 3 st [] fun av rest => (catS rest ≤ 8 ∧ 2 < 3 ∧ k.1 + 0 ≤ 0 ∧ k.2 + 0 ≤ 0) ∧ (sp_X10_beginning) av σ fun v σ' => xk_X10_countHaving ct K R n 32 ls (v.toList ++ rest) σ' (k.1 + 0, k.2 + 0)) := exS_step.trans rfl
theorem ev_X10_countHaving_32 {ct : Nat → Bool} {K : Kt} {R : Option AV → Hp → Prop} {n : Nat} {ls : List (Option AV)} {st : List AV} {σ : Hp} {k : Nat × Nat} : xe_X10_countHaving ct K R (n + 1) 32 ls st σ k = (xk_X10_countHaving ct K R n 34 ls (vi (9) :: st) σ k) := exS_step.trans rfl
theorem ev_X10_countHaving_34 {ct : Nat → Bool} {K : Kt} {R : Option AV → Hp → Prop} {n : Nat} {ls : List (Option AV)} {st : List AV} {σ : Hp} {k : Nat × Nat} : xe_X10_countHaving ct K R (n + 1) 34 ls st σ k = (oI st fun y st => oI st fun x st => xk_X10_countHaving ct K R n 35 ls (vi (shrI x y) :: st) σ k) := exS_step.trans rfl
theorem ev_X10_countHaving_35 {ct : Nat → Bool} {K : Kt} {R : Option AV → Hp → Prop} {n : Nat} {ls : List (Option AV)} {st : List AV} {σ : Hp} {k : Nat × Nat} : xe_X10_countHaving ct K R (n + 1) 35 ls st σ k = (lI ls 1 fun x => xk_X10_countHaving ct K R n 36 ls (vi x :: st) σ k) := exS_step.trans rfl
theorem ev_X10_countHaving_36 {ct : Nat → Bool} {K : Kt} {R : Option AV → Hp → Prop} {n : Nat} {ls : List (Option AV)} {st : List AV} {σ : Hp} {k : Nat × Nat} : xe_X10_countHaving ct K R (n + 1) 36 ls st σ k = (oI st fun y st => oI st fun x st => (¬ wI x = wI y → xk_X10_countHaving ct K R n 43 ls st σ k) ∧ (¬ (¬ wI x = wI y) → xk_X10_countHaving ct K R n 39 ls st σ k)) := exS_step.trans rfl
theorem ev_X10_countHaving_39 {ct : Nat → Bool} {K : Kt} {R : Option AV → Hp → Prop} {n : Nat} {ls : List (Option AV)} {st : List AV} {σ : Hp} {k : Nat × Nat} : xe_X10_countHaving ct K R (n + 1) 39 ls st σ k = (xk_X10_countHaving ct K R n 40 ls (vi (1) :: st) σ k) := exS_step.trans rfl
theorem ev_X10_countHaving_40 {ct : Nat → Bool} {K : Kt} {R : Option AV → Hp → Prop} {n : Nat} {ls : List (Option AV)} {st : List AV} {σ : Hp} {k : Nat × Nat} : xe_X10_countHaving ct K R (n + 1) 40 ls st σ k = (xk_X10_countHaving ct K R n 44 ls st σ k) := exS_step.trans rfl
theorem ev_X10_countHaving_43 {ct : Nat → Bool} {K : Kt} {R : Option AV → Hp → Prop} {n : Nat} {ls : List (Option AV)} {st : List AV} {σ : Hp} {k : Nat × Nat} : xe_X10_countHaving ct K R (n + 1) 43 ls st σ k = (xk_X10_countHaving ct K R n 44 ls (vi (0) :: st) σ k) := exS_step.trans rfl
theorem ev_X10_countHaving_44 {ct : Nat → Bool} {K : Kt} {R : Option AV → Hp → Prop} {n : Nat} {ls : List (Option AV)} {st : List AV} {σ : Hp} {k : Nat × Nat} : xe_X10_countHaving ct K R (n + 1) 44 ls st σ k = (oI st fun y st => oI st fun x st => xk_X10_countHaving ct K R n 45 ls (vi (x + y) :: st) σ k) := exS_step.trans rfl
theorem ev_X10_countHaving_45 {ct : Nat → Bool} {K : Kt} {R : Option AV → Hp → Prop} {n : Nat} {ls : List (Option AV)} {st : List AV} {σ : Hp} {k : Nat × Nat} : xe_X10_countHaving ct K R (n + 1) 45 ls st σ k = (oI st fun x st => 2 < 5 ∧ xk_X10_countHaving ct K R n 46 (stL ls 2 (vi x)) st σ k) := exS_step.trans rfl
theorem ev_X10_countHaving_46 {ct : Nat → Bool} {K : Kt} {R : Option AV → Hp → Prop} {n : Nat} {ls : List (Option AV)} {st : List AV} {σ : Hp} {k : Nat × Nat} : xe_X10_countHaving ct K R (n + 1) 46 ls st σ k = (lI ls 4 fun x => 4 < 5 ∧ xk_X10_countHaving ct K R n 49 (stL ls 4 (vi (x + (1)))) st σ k) := exS_step.trans rfl
theorem ev_X10_countHaving_49 {ct : Nat → Bool} {K : Kt} {R : Option AV → Hp → Prop} {n : Nat} {ls : List (Option AV)} {st : List AV} {σ : Hp} {k : Nat × Nat} : xe_X10_countHaving ct K R (n + 1) 49 ls st σ k = (xk_X10_countHaving ct K R n 15 ls st σ k) := exS_step.trans rfl
theorem ev_X10_countHaving_52 {ct : Nat → Bool} {K : Kt} {R : Option AV → Hp → Prop} {n : Nat} {ls : List (Option AV)} {st : List AV} {σ : Hp} {k : Nat × Nat} : xe_X10_countHaving ct K R (n + 1) 52 ls st σ k = (lI ls 3 fun x => 3 < 5 ∧ xk_X10_countHaving ct K R n 55 (stL ls 3 (vi (x + (1)))) st σ k) := exS_step.trans rfl
theorem ev_X10_countHaving_55 {ct : Nat → Bool} {K : Kt} {R : Option AV → Hp → Prop} {n : Nat} {ls : List (Option AV)} {st : List AV} {σ : Hp} {k : Nat × Nat} : xe_X10_countHaving ct K R (n + 1) 55 ls st σ k = (xk_X10_countHaving ct K R n 4 ls st σ k) := exS_step.trans rfl
theorem ev_X10_countHaving_58 {ct : Nat → Bool} {K : Kt} {R : Option AV → Hp → Prop} {n : Nat} {ls : List (Option AV)} {st : List AV} {σ : Hp} {k : Nat × Nat} : xe_X10_countHaving ct K R (n + 1) 58 ls st σ k = (lI ls 2 fun x => xk_X10_countHaving ct K R n 59 ls (vi x :: st) σ k) := exS_step.trans rfl
theorem ev_X10_countHaving_59 {ct : Nat → Bool} {K : Kt} {R : Option AV → Hp → Prop} {n : Nat} {ls : List (Option AV)} {st : List AV} {σ : Hp} {k : Nat × Nat} : xe_X10_countHaving ct K R (n + 1) 59 ls st σ k = (oI st fun x st => st = [] ∧ True ∧ R (some (vi x)) σ) := exS_step.trans rfl
def M_X10_countHaving : Md := (yX10_countHaving, cX10_countHaving, 5, (some FieldType.int), 3, 0, 0, 1, false, tb_X10_countHaving, mt_X10_countHaving)
theorem mm_X10_countHaving : MMOK M_X10_countHaving := ⟨by decide +kernel, tk_X10_countHaving, mk_X10_countHaving, rfl, fun h => by cases h⟩
theorem go_X10_countHaving {Q : Option AV → Hp → Prop} {ct : Nat → Bool} {pc : Nat} {ls : List (Option AV)} {st : List AV} {σ : Hp} {k : Nat × Nat} (n : Nat) (h : xe_X10_countHaving ct (Go M_X10_countHaving Q) Q n pc ls st σ k) : Go M_X10_countHaving Q pc ls st σ k := Go.exS mm_X10_countHaving h

set_option maxRecDepth 20000 in
theorem ch_15 {Q : Option AV → Hp → Prop} {σ : Hp} {k : Int} (hk : kd σ 4 = 11) (hC : CLay σ) (hkk : 0 ≤ k ∧ k < 12) {xs : List (List Int)} (hKM : KM σ (xs.map keyL)) (hs : 0 ≤ fI σ 1108 4 ∧ fI σ 1108 4 ≤ 3) (hok : xsOk xs (fI σ 1108 4)) {i : Nat} {x : List Int} (hx : xs[i]? = some x) {n : Int} (w52 : ∀ a4 : Option AV, Go M_X10_countHaving Q 52 [some (vr 4), some (vi k), some (vi (n + b2i (∃ p ∈ x, p / 300 = k))), some (vi i), a4] [] σ (0, 0)) : ∀ (m j : Nat), j + m = x.length → Go M_X10_countHaving Q 15 [some (vr 4), some (vi k), some (vi (n + b2i (∃ p ∈ x.take j, p / 300 = k))), some (vi i), some (vi j)] [] σ (0, 0) := by
  have ho := hok x (List.mem_of_getElem? hx)
  intro m
  induction m with
  | zero =>
    intro j hj
    have e : x.take j = x := List.take_of_length_le (by omega)
    rw [e]
    have w := w52 (some (vi j))
    have hj2 : (j : Int) = fI σ 1108 4 := by omega
    clear w52 hKM hok ho
    generalize b2i (∃ p ∈ x, p / 300 = k) = y at *
    refine go_X10_countHaving (ct := fun p => p == 24 || p == 52) 20 ?_
    simp only [oI, oL, oR, o1, lI, lL, lR, popN, catS, gv, stL, stL2, swt, cnd, spObj, List.getElem?_cons_zero, List.getElem?_cons_succ, List.getD_cons_zero, List.getD_cons_succ, List.set_cons_zero, List.set_cons_succ, List.nil_append, List.cons_append, Option.toList, Bool.or_false, Bool.false_or, Bool.or_true, Bool.true_or, Nat.reduceBEq, Nat.reduceAdd, Nat.reduceLT, Nat.reduceLeDiff, Int.reduceAdd, Int.reduceToNat, true_and, and_true, Fin.isValue, Fin.val_zero, Fin.val_one, Fin.val_two, Fin.reduceFinMk, eq_self, Int.reduceNeg, imp_self, Nat.reduceMul, Nat.le_refl, not_true_eq_false, not_false_eq_true, List.getElem?_nil, reduceCtorEq, true_or, or_true, Classical.not_not, implies_true, or_self, wI_0, wI_1, wI_m1, b2i_w, b2i_eq0, b2i_eq1, b2i_bool, nor_self, nx_pI, kd_pI, ln_pI, fI_pI, fL_pI, fR_pI, aI_pI, aL_pI, aR_pI, nx_pL, kd_pL, ln_pL, fI_pL, fL_pL, fR_pL, aI_pL, aL_pL, aR_pL, nx_pR, kd_pR, ln_pR, fI_pR, fL_pR, fR_pR, aI_pR, aL_pR, aR_pR, nx_qI, kd_qI, ln_qI, fI_qI, fL_qI, fR_qI, aI_qI, aL_qI, aR_qI, nx_qL, kd_qL, ln_qL, fI_qL, fL_qL, fR_qL, aI_qL, aL_qL, aR_qL, nx_qR, kd_qR, ln_qR, fI_qR, fL_qR, fR_qR, aI_qR, aL_qR, aR_qR, nx_mk, kd_mk, ln_mk, fI_mk, fL_mk, fR_mk, aI_mk, aL_mk, aR_mk, false_and, and_false, if_false, if_true, and_self, Int.reduceEq, Nat.reduceEqDiff, ite_self, MLay_pI, MLay_pL, MLay_qI, MLay_qL, ev_X10_countHaving_15, ev_X10_countHaving_17, ev_X10_countHaving_18, ev_X10_countHaving_21, xt_X10_countHaving, xf_X10_countHaving, us_X10_beginning, hk]
    try simp (disch := omega) only [wI_id, dv_nn, rm_nn]
    repeat' (first | intro z | apply And.intro)
    all_goals try omega
    all_goals try contradiction
    all_goals exact w
  | succ m ih =>
    intro j hj
    have w := ih (j + 1) (by omega)
    obtain ⟨p, hp⟩ : ∃ p, x[j]? = some p := ⟨x[j]'(by omega), List.getElem?_eq_getElem (by omega)⟩
    have hpm := ho.2.1 p (List.mem_of_getElem? hp)
    have hk13 : 0 ≤ k13 p ∧ k13 p < 8192 := by unfold k13; omega
    have e9 : shrI (k13 p) 9 = p / 300 := by
      rw [shrI_9 (by omega)]
      unfold k13
      omega
    rw [take_snoc hp, Int.natCast_add] at w
    have hx2 : xs[((i : Int)).toNat]? = some x := by rw [Int.toNat_natCast]; exact hx
    have hp2 : x[((j : Int)).toNat]? = some p := by rw [Int.toNat_natCast]; exact hp
    have hl3 : x.length ≤ 3 := by omega
    have w32 : Go M_X10_countHaving Q 32 [some (vr 4), some (vi k), some (vi (n + b2i (∃ p ∈ x.take j, p / 300 = k))), some (vi i), some (vi j)] [vi (k13 p), vi (n + b2i (∃ p ∈ x.take j, p / 300 = k))] σ (0, 0) := by
      by_cases c : p / 300 = k
      · have h0 : ¬ ∃ p ∈ x.take j, p / 300 = k := by
          rintro ⟨q, hq, e⟩
          have hs := ho.2.2
          have e2 : x = x.take j ++ x.drop j := (List.take_append_drop _ _).symm
          rw [e2] at hs
          have hd : p ∈ x.drop j := by
            have : (x.drop j)[0]? = some p := by rw [List.getElem?_drop]; exact hp
            exact List.mem_of_getElem? this
          have := (List.pairwise_append.mp hs).2.2 q hq p hd
          omega
        have h1 : ∃ q ∈ x.take j ++ [p], q / 300 = k := ⟨p, List.mem_append_right _ List.mem_cons_self, c⟩
        rw [b2i_t h1] at w
        rw [b2i_f h0]
        rw [show n + 1 = n + 0 + 1 by omega] at w
        clear ih w52 hKM hok ho h0 h1 hx hx2 hp hp2
        refine go_X10_countHaving (ct := fun p => p == 43 || p == 15) 20 ?_
        simp only [oI, oL, oR, o1, lI, lL, lR, popN, catS, gv, stL, stL2, swt, cnd, spObj, List.getElem?_cons_zero, List.getElem?_cons_succ, List.getD_cons_zero, List.getD_cons_succ, List.set_cons_zero, List.set_cons_succ, List.nil_append, List.cons_append, Option.toList, Bool.or_false, Bool.false_or, Bool.or_true, Bool.true_or, Nat.reduceBEq, Nat.reduceAdd, Nat.reduceLT, Nat.reduceLeDiff, Int.reduceAdd, Int.reduceToNat, true_and, and_true, Fin.isValue, Fin.val_zero, Fin.val_one, Fin.val_two, Fin.reduceFinMk, eq_self, Int.reduceNeg, imp_self, Nat.reduceMul, Nat.le_refl, not_true_eq_false, not_false_eq_true, List.getElem?_nil, reduceCtorEq, true_or, or_true, Classical.not_not, implies_true, or_self, wI_0, wI_1, wI_m1, b2i_w, b2i_eq0, b2i_eq1, b2i_bool, nor_self, nx_pI, kd_pI, ln_pI, fI_pI, fL_pI, fR_pI, aI_pI, aL_pI, aR_pI, nx_pL, kd_pL, ln_pL, fI_pL, fL_pL, fR_pL, aI_pL, aL_pL, aR_pL, nx_pR, kd_pR, ln_pR, fI_pR, fL_pR, fR_pR, aI_pR, aL_pR, aR_pR, nx_qI, kd_qI, ln_qI, fI_qI, fL_qI, fR_qI, aI_qI, aL_qI, aR_qI, nx_qL, kd_qL, ln_qL, fI_qL, fL_qL, fR_qL, aI_qL, aL_qL, aR_qL, nx_qR, kd_qR, ln_qR, fI_qR, fL_qR, fR_qR, aI_qR, aL_qR, aR_qR, nx_mk, kd_mk, ln_mk, fI_mk, fL_mk, fR_mk, aI_mk, aL_mk, aR_mk, false_and, and_false, if_false, if_true, and_self, Int.reduceEq, Nat.reduceEqDiff, ite_self, MLay_pI, MLay_pL, MLay_qI, MLay_qL, ev_X10_countHaving_32, ev_X10_countHaving_34, ev_X10_countHaving_35, ev_X10_countHaving_36, ev_X10_countHaving_39, ev_X10_countHaving_40, ev_X10_countHaving_43, ev_X10_countHaving_44, ev_X10_countHaving_45, ev_X10_countHaving_46, ev_X10_countHaving_49, xt_X10_countHaving, xf_X10_countHaving, us_X10_beginning, e9, c]
        try simp (disch := omega) only [wI_id, dv_nn, rm_nn]
        repeat' (first | intro z | apply And.intro)
        all_goals try omega
        all_goals try contradiction
        all_goals first | exact w | exact (‹False›).elim
      · have h1 : (∃ q ∈ x.take j ++ [p], q / 300 = k) ↔ ∃ q ∈ x.take j, q / 300 = k := by
          constructor
          · rintro ⟨q, hq, e⟩
            rcases List.mem_append.mp hq with z | z
            · exact ⟨q, z, e⟩
            · rw [List.mem_singleton.mp z] at e; exact absurd e c
          · rintro ⟨q, hq, e⟩
            exact ⟨q, List.mem_append_left _ hq, e⟩
        rw [b2i_congr h1] at w
        generalize n + b2i (∃ p ∈ x.take j, p / 300 = k) = y at *
        rw [show y = y + 0 by omega] at w
        have hpk : 0 ≤ p / 300 ∧ p / 300 < 12 := by omega
        clear ih w52 hKM hok ho h1 hx hx2 hp hp2
        refine go_X10_countHaving (ct := fun p => p == 39 || p == 15) 20 ?_
        simp only [oI, oL, oR, o1, lI, lL, lR, popN, catS, gv, stL, stL2, swt, cnd, spObj, List.getElem?_cons_zero, List.getElem?_cons_succ, List.getD_cons_zero, List.getD_cons_succ, List.set_cons_zero, List.set_cons_succ, List.nil_append, List.cons_append, Option.toList, Bool.or_false, Bool.false_or, Bool.or_true, Bool.true_or, Nat.reduceBEq, Nat.reduceAdd, Nat.reduceLT, Nat.reduceLeDiff, Int.reduceAdd, Int.reduceToNat, true_and, and_true, Fin.isValue, Fin.val_zero, Fin.val_one, Fin.val_two, Fin.reduceFinMk, eq_self, Int.reduceNeg, imp_self, Nat.reduceMul, Nat.le_refl, not_true_eq_false, not_false_eq_true, List.getElem?_nil, reduceCtorEq, true_or, or_true, Classical.not_not, implies_true, or_self, wI_0, wI_1, wI_m1, b2i_w, b2i_eq0, b2i_eq1, b2i_bool, nor_self, nx_pI, kd_pI, ln_pI, fI_pI, fL_pI, fR_pI, aI_pI, aL_pI, aR_pI, nx_pL, kd_pL, ln_pL, fI_pL, fL_pL, fR_pL, aI_pL, aL_pL, aR_pL, nx_pR, kd_pR, ln_pR, fI_pR, fL_pR, fR_pR, aI_pR, aL_pR, aR_pR, nx_qI, kd_qI, ln_qI, fI_qI, fL_qI, fR_qI, aI_qI, aL_qI, aR_qI, nx_qL, kd_qL, ln_qL, fI_qL, fL_qL, fR_qL, aI_qL, aL_qL, aR_qL, nx_qR, kd_qR, ln_qR, fI_qR, fL_qR, fR_qR, aI_qR, aL_qR, aR_qR, nx_mk, kd_mk, ln_mk, fI_mk, fL_mk, fR_mk, aI_mk, aL_mk, aR_mk, false_and, and_false, if_false, if_true, and_self, Int.reduceEq, Nat.reduceEqDiff, ite_self, MLay_pI, MLay_pL, MLay_qI, MLay_qL, ev_X10_countHaving_32, ev_X10_countHaving_34, ev_X10_countHaving_35, ev_X10_countHaving_36, ev_X10_countHaving_39, ev_X10_countHaving_40, ev_X10_countHaving_43, ev_X10_countHaving_44, ev_X10_countHaving_45, ev_X10_countHaving_46, ev_X10_countHaving_49, xt_X10_countHaving, xf_X10_countHaving, us_X10_beginning, e9]
        try simp (disch := omega) only [wI_id, dv_nn, rm_nn]
        repeat' (first | intro z | apply And.intro)
        all_goals try omega
        all_goals try contradiction
        all_goals exact w
    have hj2 : (j : Int) < fI σ 1108 4 ∧ fI σ 1108 4 = x.length := by omega
    have hlen : (x.length : Int) = fI σ 1108 4 := ho.1
    have hmem := ho.2.1
    clear ih w52 hok ho w
    generalize n + b2i (∃ p ∈ x.take j, p / 300 = k) = y at *
    refine go_X10_countHaving (ct := fun p => p == 32 || p == 52) 20 ?_
    simp only [oI, oL, oR, o1, lI, lL, lR, popN, catS, gv, stL, stL2, swt, cnd, spObj, List.getElem?_cons_zero, List.getElem?_cons_succ, List.getD_cons_zero, List.getD_cons_succ, List.set_cons_zero, List.set_cons_succ, List.nil_append, List.cons_append, Option.toList, Bool.or_false, Bool.false_or, Bool.or_true, Bool.true_or, Nat.reduceBEq, Nat.reduceAdd, Nat.reduceLT, Nat.reduceLeDiff, Int.reduceAdd, Int.reduceToNat, true_and, and_true, Fin.isValue, Fin.val_zero, Fin.val_one, Fin.val_two, Fin.reduceFinMk, eq_self, Int.reduceNeg, imp_self, Nat.reduceMul, Nat.le_refl, not_true_eq_false, not_false_eq_true, List.getElem?_nil, reduceCtorEq, true_or, or_true, Classical.not_not, implies_true, or_self, wI_0, wI_1, wI_m1, b2i_w, b2i_eq0, b2i_eq1, b2i_bool, nor_self, nx_pI, kd_pI, ln_pI, fI_pI, fL_pI, fR_pI, aI_pI, aL_pI, aR_pI, nx_pL, kd_pL, ln_pL, fI_pL, fL_pL, fR_pL, aI_pL, aL_pL, aR_pL, nx_pR, kd_pR, ln_pR, fI_pR, fL_pR, fR_pR, aI_pR, aL_pR, aR_pR, nx_qI, kd_qI, ln_qI, fI_qI, fL_qI, fR_qI, aI_qI, aL_qI, aR_qI, nx_qL, kd_qL, ln_qL, fI_qL, fL_qL, fR_qL, aI_qL, aL_qL, aR_qL, nx_qR, kd_qR, ln_qR, fI_qR, fL_qR, fR_qR, aI_qR, aL_qR, aR_qR, nx_mk, kd_mk, ln_mk, fI_mk, fL_mk, fR_mk, aI_mk, aL_mk, aR_mk, false_and, and_false, if_false, if_true, and_self, Int.reduceEq, Nat.reduceEqDiff, ite_self, MLay_pI, MLay_pL, MLay_qI, MLay_qL, ev_X10_countHaving_15, ev_X10_countHaving_17, ev_X10_countHaving_18, ev_X10_countHaving_21, ev_X10_countHaving_24, ev_X10_countHaving_25, ev_X10_countHaving_26, ev_X10_countHaving_27, ev_X10_countHaving_29, xt_X10_countHaving, xf_X10_countHaving, us_X10_beginning, hk, hC]
    try simp (disch := omega) only [wI_id, dv_nn, rm_nn]
    repeat' (first | intro z | apply And.intro)
    all_goals try omega
    all_goals try contradiction
    all_goals first | exact ⟨xs, x, p, hKM, by omega, by omega, hx2, hp2, hlen, hl3, hmem, w32⟩ | omega

set_option maxRecDepth 20000 in
theorem c_X10_countHaving : Ct yX10_countHaving cX10_countHaving 5 ((some FieldType.int)) 3 0 0 sp_X10_countHaving := by
  refine Ct.go (M := M_X10_countHaving) mm_X10_countHaving fun av σ Q h0 => ?_
  obtain ⟨this, k, rfl, hk, h⟩ := el_X10_countHaving h0
  clear h0
  refine ⟨Nat.le_of_ble_eq_true rfl, ?_⟩
  show Go M_X10_countHaving Q 0 [some (vr this), some (vi k), none, none, none] [] σ (0, 0)
  obtain ⟨rfl, hC, hkk, xs, hKM, hs, hok, h⟩ := h
  have hf := hKM.1
  have hl := hKM.2.1
  rw [List.length_map] at hf hl
  have loop : ∀ (m i : Nat) (a4 : Option AV), i + m = xs.length → Go M_X10_countHaving Q 4 [some (vr 4), some (vi k), some (vi (hwM (hasK xs k) i)), some (vi i), a4] [] σ (0, 0) := by
    intro m
    induction m with
    | zero =>
      intro i a4 hi
      have e : i = xs.length := by omega
      subst e
      generalize hwM (hasK xs k) xs.length = y at *
      clear hKM hok
      refine go_X10_countHaving (ct := fun p => p == 12) 20 ?_
      simp only [oI, oL, oR, o1, lI, lL, lR, popN, catS, gv, stL, stL2, swt, cnd, spObj, List.getElem?_cons_zero, List.getElem?_cons_succ, List.getD_cons_zero, List.getD_cons_succ, List.set_cons_zero, List.set_cons_succ, List.nil_append, List.cons_append, Option.toList, Bool.or_false, Bool.false_or, Bool.or_true, Bool.true_or, Nat.reduceBEq, Nat.reduceAdd, Nat.reduceLT, Nat.reduceLeDiff, Int.reduceAdd, Int.reduceToNat, true_and, and_true, Fin.isValue, Fin.val_zero, Fin.val_one, Fin.val_two, Fin.reduceFinMk, eq_self, Int.reduceNeg, imp_self, Nat.reduceMul, Nat.le_refl, not_true_eq_false, not_false_eq_true, List.getElem?_nil, reduceCtorEq, true_or, or_true, Classical.not_not, implies_true, or_self, wI_0, wI_1, wI_m1, b2i_w, b2i_eq0, b2i_eq1, b2i_bool, nor_self, nx_pI, kd_pI, ln_pI, fI_pI, fL_pI, fR_pI, aI_pI, aL_pI, aR_pI, nx_pL, kd_pL, ln_pL, fI_pL, fL_pL, fR_pL, aI_pL, aL_pL, aR_pL, nx_pR, kd_pR, ln_pR, fI_pR, fL_pR, fR_pR, aI_pR, aL_pR, aR_pR, nx_qI, kd_qI, ln_qI, fI_qI, fL_qI, fR_qI, aI_qI, aL_qI, aR_qI, nx_qL, kd_qL, ln_qL, fI_qL, fL_qL, fR_qL, aI_qL, aL_qL, aR_qL, nx_qR, kd_qR, ln_qR, fI_qR, fL_qR, fR_qR, aI_qR, aL_qR, aR_qR, nx_mk, kd_mk, ln_mk, fI_mk, fL_mk, fR_mk, aI_mk, aL_mk, aR_mk, false_and, and_false, if_false, if_true, and_self, Int.reduceEq, Nat.reduceEqDiff, ite_self, MLay_pI, MLay_pL, MLay_qI, MLay_qL, ev_X10_countHaving_4, ev_X10_countHaving_5, ev_X10_countHaving_6, ev_X10_countHaving_9, ev_X10_countHaving_58, ev_X10_countHaving_59, xt_X10_countHaving, xf_X10_countHaving, us_X10_beginning, hk, hf]
      try simp (disch := omega) only [wI_id, dv_nn, rm_nn]
      repeat' (first | intro z | apply And.intro)
      all_goals try omega
      all_goals try contradiction
      all_goals exact h
    | succ m ih =>
      intro i a4 hi
      obtain ⟨x, hx⟩ : ∃ x, xs[i]? = some x := ⟨xs[i]'(by omega), List.getElem?_eq_getElem (by omega)⟩
      have e1 : hwM (hasK xs k) (i + 1) = hwM (hasK xs k) i + b2i (∃ p ∈ x, p / 300 = k) := by
        rw [hwM_s]
        congr 1
        apply b2i_congr
        unfold hasK
        rw [Int.toNat_natCast, hx]
        exact ⟨fun ⟨y, e, q⟩ => by cases e; exact q, fun q => ⟨x, rfl, q⟩⟩
      have w52 : ∀ a4 : Option AV, Go M_X10_countHaving Q 52 [some (vr 4), some (vi k), some (vi (hwM (hasK xs k) i + b2i (∃ p ∈ x, p / 300 = k))), some (vi i), a4] [] σ (0, 0) := fun a4 => by
        have w := ih (i + 1) a4 (by omega)
        rw [e1, Int.natCast_add] at w
        generalize hwM (hasK xs k) i + b2i (∃ p ∈ x, p / 300 = k) = y at *
        clear ih h hKM hok
        refine go_X10_countHaving (ct := fun p => p == 4) 20 ?_
        simp only [oI, oL, oR, o1, lI, lL, lR, popN, catS, gv, stL, stL2, swt, cnd, spObj, List.getElem?_cons_zero, List.getElem?_cons_succ, List.getD_cons_zero, List.getD_cons_succ, List.set_cons_zero, List.set_cons_succ, List.nil_append, List.cons_append, Option.toList, Bool.or_false, Bool.false_or, Bool.or_true, Bool.true_or, Nat.reduceBEq, Nat.reduceAdd, Nat.reduceLT, Nat.reduceLeDiff, Int.reduceAdd, Int.reduceToNat, true_and, and_true, Fin.isValue, Fin.val_zero, Fin.val_one, Fin.val_two, Fin.reduceFinMk, eq_self, Int.reduceNeg, imp_self, Nat.reduceMul, Nat.le_refl, not_true_eq_false, not_false_eq_true, List.getElem?_nil, reduceCtorEq, true_or, or_true, Classical.not_not, implies_true, or_self, wI_0, wI_1, wI_m1, b2i_w, b2i_eq0, b2i_eq1, b2i_bool, nor_self, nx_pI, kd_pI, ln_pI, fI_pI, fL_pI, fR_pI, aI_pI, aL_pI, aR_pI, nx_pL, kd_pL, ln_pL, fI_pL, fL_pL, fR_pL, aI_pL, aL_pL, aR_pL, nx_pR, kd_pR, ln_pR, fI_pR, fL_pR, fR_pR, aI_pR, aL_pR, aR_pR, nx_qI, kd_qI, ln_qI, fI_qI, fL_qI, fR_qI, aI_qI, aL_qI, aR_qI, nx_qL, kd_qL, ln_qL, fI_qL, fL_qL, fR_qL, aI_qL, aL_qL, aR_qL, nx_qR, kd_qR, ln_qR, fI_qR, fL_qR, fR_qR, aI_qR, aL_qR, aR_qR, nx_mk, kd_mk, ln_mk, fI_mk, fL_mk, fR_mk, aI_mk, aL_mk, aR_mk, false_and, and_false, if_false, if_true, and_self, Int.reduceEq, Nat.reduceEqDiff, ite_self, MLay_pI, MLay_pL, MLay_qI, MLay_qL, ev_X10_countHaving_52, ev_X10_countHaving_55, xt_X10_countHaving, xf_X10_countHaving, us_X10_beginning]
        exact w
      have w := ch_15 hk hC hkk hKM hs hok hx w52 x.length 0 (by omega)
      have e0 : b2i (∃ p ∈ x.take 0, p / 300 = k) = 0 := b2i_f (fun ⟨p, hp, _⟩ => by rw [List.take_zero] at hp; exact absurd hp List.not_mem_nil)
      rw [e0, Int.add_zero] at w
      clear ih h hKM hok w52
      generalize hwM (hasK xs k) i = y at *
      refine go_X10_countHaving (ct := fun p => p == 15 || p == 58) 20 ?_
      simp only [oI, oL, oR, o1, lI, lL, lR, popN, catS, gv, stL, stL2, swt, cnd, spObj, List.getElem?_cons_zero, List.getElem?_cons_succ, List.getD_cons_zero, List.getD_cons_succ, List.set_cons_zero, List.set_cons_succ, List.nil_append, List.cons_append, Option.toList, Bool.or_false, Bool.false_or, Bool.or_true, Bool.true_or, Nat.reduceBEq, Nat.reduceAdd, Nat.reduceLT, Nat.reduceLeDiff, Int.reduceAdd, Int.reduceToNat, true_and, and_true, Fin.isValue, Fin.val_zero, Fin.val_one, Fin.val_two, Fin.reduceFinMk, eq_self, Int.reduceNeg, imp_self, Nat.reduceMul, Nat.le_refl, not_true_eq_false, not_false_eq_true, List.getElem?_nil, reduceCtorEq, true_or, or_true, Classical.not_not, implies_true, or_self, wI_0, wI_1, wI_m1, b2i_w, b2i_eq0, b2i_eq1, b2i_bool, nor_self, nx_pI, kd_pI, ln_pI, fI_pI, fL_pI, fR_pI, aI_pI, aL_pI, aR_pI, nx_pL, kd_pL, ln_pL, fI_pL, fL_pL, fR_pL, aI_pL, aL_pL, aR_pL, nx_pR, kd_pR, ln_pR, fI_pR, fL_pR, fR_pR, aI_pR, aL_pR, aR_pR, nx_qI, kd_qI, ln_qI, fI_qI, fL_qI, fR_qI, aI_qI, aL_qI, aR_qI, nx_qL, kd_qL, ln_qL, fI_qL, fL_qL, fR_qL, aI_qL, aL_qL, aR_qL, nx_qR, kd_qR, ln_qR, fI_qR, fL_qR, fR_qR, aI_qR, aL_qR, aR_qR, nx_mk, kd_mk, ln_mk, fI_mk, fL_mk, fR_mk, aI_mk, aL_mk, aR_mk, false_and, and_false, if_false, if_true, and_self, Int.reduceEq, Nat.reduceEqDiff, ite_self, MLay_pI, MLay_pL, MLay_qI, MLay_qL, ev_X10_countHaving_4, ev_X10_countHaving_5, ev_X10_countHaving_6, ev_X10_countHaving_9, ev_X10_countHaving_12, ev_X10_countHaving_13, xt_X10_countHaving, xf_X10_countHaving, us_X10_beginning, hk, hf]
      try simp (disch := omega) only [wI_id, dv_nn, rm_nn]
      repeat' (first | intro z | apply And.intro)
      all_goals try omega
      all_goals try contradiction
      all_goals exact w
  have w := loop xs.length 0 none (by omega)
  have e : hwM (hasK xs k) 0 = 0 := rfl
  rw [e] at w
  clear loop h hKM hok
  refine go_X10_countHaving (ct := fun p => p == 4) 20 ?_
  simp only [oI, oL, oR, o1, lI, lL, lR, popN, catS, gv, stL, stL2, swt, cnd, spObj, List.getElem?_cons_zero, List.getElem?_cons_succ, List.getD_cons_zero, List.getD_cons_succ, List.set_cons_zero, List.set_cons_succ, List.nil_append, List.cons_append, Option.toList, Bool.or_false, Bool.false_or, Bool.or_true, Bool.true_or, Nat.reduceBEq, Nat.reduceAdd, Nat.reduceLT, Nat.reduceLeDiff, Int.reduceAdd, Int.reduceToNat, true_and, and_true, Fin.isValue, Fin.val_zero, Fin.val_one, Fin.val_two, Fin.reduceFinMk, eq_self, Int.reduceNeg, imp_self, Nat.reduceMul, Nat.le_refl, not_true_eq_false, not_false_eq_true, List.getElem?_nil, reduceCtorEq, true_or, or_true, Classical.not_not, implies_true, or_self, wI_0, wI_1, wI_m1, b2i_w, b2i_eq0, b2i_eq1, b2i_bool, nor_self, nx_pI, kd_pI, ln_pI, fI_pI, fL_pI, fR_pI, aI_pI, aL_pI, aR_pI, nx_pL, kd_pL, ln_pL, fI_pL, fL_pL, fR_pL, aI_pL, aL_pL, aR_pL, nx_pR, kd_pR, ln_pR, fI_pR, fL_pR, fR_pR, aI_pR, aL_pR, aR_pR, nx_qI, kd_qI, ln_qI, fI_qI, fL_qI, fR_qI, aI_qI, aL_qI, aR_qI, nx_qL, kd_qL, ln_qL, fI_qL, fL_qL, fR_qL, aI_qL, aL_qL, aR_qL, nx_qR, kd_qR, ln_qR, fI_qR, fL_qR, fR_qR, aI_qR, aL_qR, aR_qR, nx_mk, kd_mk, ln_mk, fI_mk, fL_mk, fR_mk, aI_mk, aL_mk, aR_mk, false_and, and_false, if_false, if_true, and_self, Int.reduceEq, Nat.reduceEqDiff, ite_self, MLay_pI, MLay_pL, MLay_qI, MLay_qL, ev_X10_countHaving_0, ev_X10_countHaving_1, ev_X10_countHaving_2, ev_X10_countHaving_3, xt_X10_countHaving, xf_X10_countHaving, us_X10_beginning]
  exact w

theorem have_is {τ : Hp} {xs : List (List Int)} (hT : Told τ xs) (hB : RB τ) (hI : MI τ) (hrl : 0 ≤ fI τ 1321 61 ∧ fI τ 1321 61 ≤ 3) (hx : ∀ x ∈ xs, (x.length : Int) = fI τ 1323 61 ∧ (∀ p ∈ x, 0 ≤ p ∧ p / 300 < aI τ 74 (fI τ 1321 61))) {k : Int} (hk : 0 ≤ k ∧ k < aI τ 74 (fI τ 1321 61)) : hwM (hasK xs k) xs.length = mHave τ (aI τ 75 (12 * fI τ 1321 61 + k)) := by
  unfold mHave
  rw [hT.1, Int.toNat_natCast]
  apply Eq.symm
  apply hwM_cgb
  intro i i0 i1
  obtain ⟨n, rfl⟩ : ∃ n : Nat, i = n := ⟨i.toNat, by omega⟩
  obtain ⟨x, he⟩ : ∃ x, xs[n]? = some x := ⟨xs[n]'(by omega), List.getElem?_eq_getElem (by omega)⟩
  have g := hT.2 n x he
  have hm := hx x (List.mem_of_getElem? he)
  have inj : ∀ a, 0 ≤ a → a < aI τ 74 (fI τ 1321 61) → aI τ 75 (12 * fI τ 1321 61 + a) = aI τ 75 (12 * fI τ 1321 61 + k) → a = k := fun a a0 a1 e => by
    have h1 := (hB.1 _ a hrl.1 (by omega) a0 a1).2.2
    have h2 := (hB.1 _ k hrl.1 (by omega) hk.1 hk.2).2.2
    rw [e, h2] at h1
    omega
  unfold mIn bE hasK
  rw [Int.toNat_natCast, he]
  constructor
  · rintro ⟨j, j0, j1, e⟩
    obtain ⟨m, rfl⟩ : ∃ m : Nat, j = m := ⟨j.toNat, by omega⟩
    obtain ⟨p, hp⟩ : ∃ p, x[m]? = some p := ⟨x[m]'(by omega), List.getElem?_eq_getElem (by omega)⟩
    have g2 := (g.2 m p hp).1
    have hpm := hm.2 p (List.mem_of_getElem? hp)
    rw [e] at g2
    exact ⟨x, rfl, p, List.mem_of_getElem? hp, inj _ (by omega) hpm.2 g2.symm⟩
  · rintro ⟨y, e, p, hp, e2⟩
    cases e
    obtain ⟨m, hm2⟩ := List.getElem?_of_mem hp
    have hml := (List.getElem?_eq_some_iff.mp hm2).1
    have g2 := (g.2 m p hm2).1
    exact ⟨m, by omega, by omega, by show aI τ _ _ = _; rw [g2, e2]⟩

def sp_X10_boxToAsk : Sp := fun av σ Q => oR av fun this av => av = [] ∧ kd σ this = 11 ∧ (this = 4 ∧ CLay σ ∧ ∃ τ, RDR σ τ ∧ MI τ ∧ RB τ ∧ (∀ l, 0 ≤ l → l < 4 → LoP σ τ l) ∧ Q (some (vr (if 2 ≤ fI τ 1322 61 then (if (mAsk τ (aI τ 74 (fI τ 1321 61)).toNat).1 < 0 then 0 else lat σ 3 (mAsk τ (aI τ 74 (fI τ 1321 61)).toNat).1) else 0))) σ)
theorem us_X10_boxToAsk (this : Int) (σ : Hp) (Q : Option AV → Hp → Prop) : sp_X10_boxToAsk [vr this] σ Q = (kd σ this = 11 ∧ (this = 4 ∧ CLay σ ∧ ∃ τ, RDR σ τ ∧ MI τ ∧ RB τ ∧ (∀ l, 0 ≤ l → l < 4 → LoP σ τ l) ∧ Q (some (vr (if 2 ≤ fI τ 1322 61 then (if (mAsk τ (aI τ 74 (fI τ 1321 61)).toNat).1 < 0 then 0 else lat σ 3 (mAsk τ (aI τ 74 (fI τ 1321 61)).toNat).1) else 0))) σ)) := propext ⟨fun h => h.2, fun h => ⟨rfl, h⟩⟩
theorem el_X10_boxToAsk {av : List AV} {σ : Hp} {Q : Option AV → Hp → Prop} (h : sp_X10_boxToAsk av σ Q) : ∃ (this : Int), av = [vr this] ∧ (kd σ this = 11 ∧ (this = 4 ∧ CLay σ ∧ ∃ τ, RDR σ τ ∧ MI τ ∧ RB τ ∧ (∀ l, 0 ≤ l → l < 4 → LoP σ τ l) ∧ Q (some (vr (if 2 ≤ fI τ 1322 61 then (if (mAsk τ (aI τ 74 (fI τ 1321 61)).toNat).1 < 0 then 0 else lat σ 3 (mAsk τ (aI τ 74 (fI τ 1321 61)).toNat).1) else 0))) σ)) := by
  obtain ⟨this, a0, rfl, h0⟩ := oR_s h
  obtain ⟨rfl, hz⟩ := h0
  exact ⟨this, rfl, hz⟩
theorem rc_X10_boxToAsk : ∀ (av : List AV) (σ : Hp) (Q : Option AV → Hp → Prop), sp_X10_boxToAsk av σ Q → ∃ r tl, av = vr r :: tl ∧ kd σ r = 10 + 1 := fun av σ Q h => by
  obtain ⟨this, rfl, hz, -⟩ := el_X10_boxToAsk h
  exact ⟨this, _, rfl, hz⟩

def tb_X10_boxToAsk : Tab := [(0, .aconst_null, 1, (0, 0, 0, 0)), (1, .astore_n 1, 1, (0, 0, 0, 0)), (2, .aload_n 0, 1, (0, 0, 0, 0)), (3, .getfield 47, 3, (11, 1109, 0, 0)), (6, .iconst 1, 1, (0, 0, 0, 0)), (7, .iadd, 1, (0, 0, 0, 0)), (8, .istore_n 2, 1, (0, 0, 0, 0)), (9, .aload_n 0, 1, (0, 0, 0, 0)), (10, .getfield 47, 3, (11, 1109, 0, 0)), (13, .iconst 2, 1, (0, 0, 0, 0)), (14, .if_icmp .ge 5, 3, (0, 0, 0, 0)), (17, .aconst_null, 1, (0, 0, 0, 0)), (18, .areturn, 1, (0, 0, 0, 0)), (19, .iconst 0, 1, (0, 0, 0, 0)), (20, .istore_n 3, 1, (0, 0, 0, 0)), (21, .iload_n 3, 1, (0, 0, 0, 0)), (22, .aload_n 0, 1, (0, 0, 0, 0)), (23, .getfield 36, 3, (11, 1106, 2, 0)), (26, .invokevirtual 92, 3, (0, 0, 0, 0)), (29, .if_icmp .ge 51, 3, (0, 0, 0, 0)), (32, .aload_n 0, 1, (0, 0, 0, 0)), (33, .iload_n 3, 1, (0, 0, 0, 0)), (34, .invokevirtual 141, 3, (0, 0, 0, 0)), (37, .istore 4, 2, (0, 0, 0, 0)), (39, .iload 4, 2, (0, 0, 0, 0)), (41, .aload_n 0, 1, (0, 0, 0, 0)), (42, .getfield 47, 3, (11, 1109, 0, 0)), (45, .iload 4, 2, (0, 0, 0, 0)), (47, .isub, 1, (0, 0, 0, 0)), (48, .invokestatic 144, 3, (0, 0, 0, 0)), (51, .istore 5, 2, (0, 0, 0, 0)), (53, .iload 5, 2, (0, 0, 0, 0)), (55, .iload_n 2, 1, (0, 0, 0, 0)), (56, .if_icmp .ge 18, 3, (0, 0, 0, 0)), (59, .iload 5, 2, (0, 0, 0, 0)), (61, .istore_n 2, 1, (0, 0, 0, 0)), (62, .aload_n 0, 1, (0, 0, 0, 0)), (63, .getfield 36, 3, (11, 1106, 2, 0)), (66, .iload_n 3, 1, (0, 0, 0, 0)), (67, .invokevirtual 103, 3, (0, 0, 0, 0)), (70, .checkcast 107, 3, (3, 0, 0, 0)), (73, .astore_n 1, 1, (0, 0, 0, 0)), (74, .iinc 3 1, 3, (0, 0, 0, 0)), (77, .goto (-56), 3, (0, 0, 0, 0)), (80, .aload_n 1, 1, (0, 0, 0, 0)), (81, .areturn, 1, (0, 0, 0, 0))]
set_option maxRecDepth 100000 in
theorem tk_X10_boxToAsk : TOK RX10 false cX10_boxToAsk tb_X10_boxToAsk := chkT_ok ft_X10 (by decide +kernel)
theorem rw_X10_1128 : Row RX10 (.invokevirtual 141) 3 2 0 0 3 sp_X10_countHaving := row_V (n := 1) (ci := 10) c_X10_countHaving ⟨TBL_in 835 (by decide +kernel) rfl, TBL_in 838 (by decide +kernel) rfl, TBL_in 112 (by decide +kernel) rfl, by decide +kernel, by decide⟩ (by decide) rfl (TBL_in 837 (by decide +kernel) rfl) (TBL_in 26 (by decide +kernel) rfl) rc_X10_countHaving
theorem rw_X10_1153 : Row RX10 (.invokestatic 144) 3 2 0 0 1 sp_J9_max_7cf53 := row_S c_J9_max_7cf53 ⟨TBL_in 839 (by decide +kernel) rfl, TBL_in 652 (by decide +kernel) rfl, TBL_in 128 (by decide +kernel) rfl, by decide +kernel, by decide⟩ (TBL_in 651 (by decide +kernel) rfl)
def mt_X10_boxToAsk : List (Nat × Mt) := [(736, 1, 0, 0, 1, sp_Jx4a65c_size_8abf5), (1128, 2, 0, 0, 3, sp_X10_countHaving), (1153, 2, 0, 0, 1, sp_J9_max_7cf53), (824, 2, 0, 0, 3, sp_Jx4a65c_get_915e3)]
theorem em_X10_boxToAsk : mt_X10_boxToAsk.lookup 736 = some (1, 0, 0, 1, sp_Jx4a65c_size_8abf5) ∧ mt_X10_boxToAsk.lookup 1128 = some (2, 0, 0, 3, sp_X10_countHaving) ∧ mt_X10_boxToAsk.lookup 1153 = some (2, 0, 0, 1, sp_J9_max_7cf53) ∧ mt_X10_boxToAsk.lookup 824 = some (2, 0, 0, 3, sp_Jx4a65c_get_915e3) := ⟨rfl, rfl, rfl, rfl⟩
theorem mk_X10_boxToAsk : MOK RX10 mt_X10_boxToAsk := by
  intro q hq
  simp only [mt_X10_boxToAsk, List.mem_cons, List.not_mem_nil, or_false] at hq
  rcases hq with rfl | rfl | rfl | rfl
  · exact rw_X10_736
  · exact rw_X10_1128
  · exact rw_X10_1153
  · exact rw_X10_824
noncomputable def xe_X10_boxToAsk (ct : Nat → Bool) (K : Kt) (R : Option AV → Hp → Prop) (n : Nat) : Kt := exS 6 4 0 0 5 tb_X10_boxToAsk mt_X10_boxToAsk ct K R n
noncomputable def xk_X10_boxToAsk (ct : Nat → Bool) (K : Kt) (R : Option AV → Hp → Prop) (n : Nat) : Kt := exkS 6 4 0 0 5 tb_X10_boxToAsk mt_X10_boxToAsk ct K R n
theorem xt_X10_boxToAsk {ct : Nat → Bool} {K : Kt} {R : Option AV → Hp → Prop} {n pc : Nat} {ls : List (Option AV)} {st : List AV} {σ : Hp} {k : Nat × Nat} (h : ct pc = true) : xk_X10_boxToAsk ct K R n pc ls st σ k = K pc ls st σ k := by unfold xk_X10_boxToAsk exkS; rw [h]
theorem xf_X10_boxToAsk {ct : Nat → Bool} {K : Kt} {R : Option AV → Hp → Prop} {n pc : Nat} {ls : List (Option AV)} {st : List AV} {σ : Hp} {k : Nat × Nat} (h : ct pc = false) : xk_X10_boxToAsk ct K R n pc ls st σ k = xe_X10_boxToAsk ct K R n pc ls st σ k := by unfold xk_X10_boxToAsk exkS xe_X10_boxToAsk; rw [h]
theorem ev_X10_boxToAsk_0 {ct : Nat → Bool} {K : Kt} {R : Option AV → Hp → Prop} {n : Nat} {ls : List (Option AV)} {st : List AV} {σ : Hp} {k : Nat × Nat} : xe_X10_boxToAsk ct K R (n + 1) 0 ls st σ k = (xk_X10_boxToAsk ct K R n 1 ls (vr 0 :: st) σ k) := exS_step.trans rfl
theorem ev_X10_boxToAsk_1 {ct : Nat → Bool} {K : Kt} {R : Option AV → Hp → Prop} {n : Nat} {ls : List (Option AV)} {st : List AV} {σ : Hp} {k : Nat × Nat} : xe_X10_boxToAsk ct K R (n + 1) 1 ls st σ k = (oR st fun x st => 1 < 6 ∧ xk_X10_boxToAsk ct K R n 2 (stL ls 1 (vr x)) st σ k) := exS_step.trans rfl
theorem ev_X10_boxToAsk_2 {ct : Nat → Bool} {K : Kt} {R : Option AV → Hp → Prop} {n : Nat} {ls : List (Option AV)} {st : List AV} {σ : Hp} {k : Nat × Nat} : xe_X10_boxToAsk ct K R (n + 1) 2 ls st σ k = (lR ls 0 fun x => xk_X10_boxToAsk ct K R n 3 ls (vr x :: st) σ k) := exS_step.trans rfl
theorem ev_X10_boxToAsk_3 {ct : Nat → Bool} {K : Kt} {R : Option AV → Hp → Prop} {n : Nat} {ls : List (Option AV)} {st : List AV} {σ : Hp} {k : Nat × Nat} : xe_X10_boxToAsk ct K R (n + 1) 3 ls st σ k = (oR st fun x st => kd σ x = 11 ∧ xk_X10_boxToAsk ct K R n 6 ls (vi (fI σ 1109 x) :: st) σ k) := exS_step.trans rfl
theorem ev_X10_boxToAsk_6 {ct : Nat → Bool} {K : Kt} {R : Option AV → Hp → Prop} {n : Nat} {ls : List (Option AV)} {st : List AV} {σ : Hp} {k : Nat × Nat} : xe_X10_boxToAsk ct K R (n + 1) 6 ls st σ k = (xk_X10_boxToAsk ct K R n 7 ls (vi (1) :: st) σ k) := exS_step.trans rfl
theorem ev_X10_boxToAsk_7 {ct : Nat → Bool} {K : Kt} {R : Option AV → Hp → Prop} {n : Nat} {ls : List (Option AV)} {st : List AV} {σ : Hp} {k : Nat × Nat} : xe_X10_boxToAsk ct K R (n + 1) 7 ls st σ k = (oI st fun y st => oI st fun x st => xk_X10_boxToAsk ct K R n 8 ls (vi (x + y) :: st) σ k) := exS_step.trans rfl
theorem ev_X10_boxToAsk_8 {ct : Nat → Bool} {K : Kt} {R : Option AV → Hp → Prop} {n : Nat} {ls : List (Option AV)} {st : List AV} {σ : Hp} {k : Nat × Nat} : xe_X10_boxToAsk ct K R (n + 1) 8 ls st σ k = (oI st fun x st => 2 < 6 ∧ xk_X10_boxToAsk ct K R n 9 (stL ls 2 (vi x)) st σ k) := exS_step.trans rfl
theorem ev_X10_boxToAsk_9 {ct : Nat → Bool} {K : Kt} {R : Option AV → Hp → Prop} {n : Nat} {ls : List (Option AV)} {st : List AV} {σ : Hp} {k : Nat × Nat} : xe_X10_boxToAsk ct K R (n + 1) 9 ls st σ k = (lR ls 0 fun x => xk_X10_boxToAsk ct K R n 10 ls (vr x :: st) σ k) := exS_step.trans rfl
theorem ev_X10_boxToAsk_10 {ct : Nat → Bool} {K : Kt} {R : Option AV → Hp → Prop} {n : Nat} {ls : List (Option AV)} {st : List AV} {σ : Hp} {k : Nat × Nat} : xe_X10_boxToAsk ct K R (n + 1) 10 ls st σ k = (oR st fun x st => kd σ x = 11 ∧ xk_X10_boxToAsk ct K R n 13 ls (vi (fI σ 1109 x) :: st) σ k) := exS_step.trans rfl
theorem ev_X10_boxToAsk_13 {ct : Nat → Bool} {K : Kt} {R : Option AV → Hp → Prop} {n : Nat} {ls : List (Option AV)} {st : List AV} {σ : Hp} {k : Nat × Nat} : xe_X10_boxToAsk ct K R (n + 1) 13 ls st σ k = (xk_X10_boxToAsk ct K R n 14 ls (vi (2) :: st) σ k) := exS_step.trans rfl
theorem ev_X10_boxToAsk_14 {ct : Nat → Bool} {K : Kt} {R : Option AV → Hp → Prop} {n : Nat} {ls : List (Option AV)} {st : List AV} {σ : Hp} {k : Nat × Nat} : xe_X10_boxToAsk ct K R (n + 1) 14 ls st σ k = (oI st fun y st => oI st fun x st => (wI y ≤ wI x → xk_X10_boxToAsk ct K R n 19 ls st σ k) ∧ (¬ (wI y ≤ wI x) → xk_X10_boxToAsk ct K R n 17 ls st σ k)) := exS_step.trans rfl
theorem ev_X10_boxToAsk_17 {ct : Nat → Bool} {K : Kt} {R : Option AV → Hp → Prop} {n : Nat} {ls : List (Option AV)} {st : List AV} {σ : Hp} {k : Nat × Nat} : xe_X10_boxToAsk ct K R (n + 1) 17 ls st σ k = (xk_X10_boxToAsk ct K R n 18 ls (vr 0 :: st) σ k) := exS_step.trans rfl
theorem ev_X10_boxToAsk_18 {ct : Nat → Bool} {K : Kt} {R : Option AV → Hp → Prop} {n : Nat} {ls : List (Option AV)} {st : List AV} {σ : Hp} {k : Nat × Nat} : xe_X10_boxToAsk ct K R (n + 1) 18 ls st σ k = (oR st fun x st => st = [] ∧ 5 = 5 ∧ R (some (vr x)) σ) := exS_step.trans rfl
theorem ev_X10_boxToAsk_19 {ct : Nat → Bool} {K : Kt} {R : Option AV → Hp → Prop} {n : Nat} {ls : List (Option AV)} {st : List AV} {σ : Hp} {k : Nat × Nat} : xe_X10_boxToAsk ct K R (n + 1) 19 ls st σ k = (xk_X10_boxToAsk ct K R n 20 ls (vi (0) :: st) σ k) := exS_step.trans rfl
theorem ev_X10_boxToAsk_20 {ct : Nat → Bool} {K : Kt} {R : Option AV → Hp → Prop} {n : Nat} {ls : List (Option AV)} {st : List AV} {σ : Hp} {k : Nat × Nat} : xe_X10_boxToAsk ct K R (n + 1) 20 ls st σ k = (oI st fun x st => 3 < 6 ∧ xk_X10_boxToAsk ct K R n 21 (stL ls 3 (vi x)) st σ k) := exS_step.trans rfl
theorem ev_X10_boxToAsk_21 {ct : Nat → Bool} {K : Kt} {R : Option AV → Hp → Prop} {n : Nat} {ls : List (Option AV)} {st : List AV} {σ : Hp} {k : Nat × Nat} : xe_X10_boxToAsk ct K R (n + 1) 21 ls st σ k = (lI ls 3 fun x => xk_X10_boxToAsk ct K R n 22 ls (vi x :: st) σ k) := exS_step.trans rfl
theorem ev_X10_boxToAsk_22 {ct : Nat → Bool} {K : Kt} {R : Option AV → Hp → Prop} {n : Nat} {ls : List (Option AV)} {st : List AV} {σ : Hp} {k : Nat × Nat} : xe_X10_boxToAsk ct K R (n + 1) 22 ls st σ k = (lR ls 0 fun x => xk_X10_boxToAsk ct K R n 23 ls (vr x :: st) σ k) := exS_step.trans rfl
theorem ev_X10_boxToAsk_23 {ct : Nat → Bool} {K : Kt} {R : Option AV → Hp → Prop} {n : Nat} {ls : List (Option AV)} {st : List AV} {σ : Hp} {k : Nat × Nat} : xe_X10_boxToAsk ct K R (n + 1) 23 ls st σ k = (oR st fun x st => kd σ x = 11 ∧ xk_X10_boxToAsk ct K R n 26 ls (vr (fR σ 1106 x) :: st) σ k) := exS_step.trans rfl
theorem ev_X10_boxToAsk_26 {ct : Nat → Bool} {K : Kt} {R : Option AV → Hp → Prop} {n : Nat} {ls : List (Option AV)} {st : List AV} {σ : Hp} {k : Nat × Nat} : xe_X10_boxToAsk ct K R (n + 1) 26 ls st σ k = (popN 1 st [] fun av rest => (catS rest ≤ 8 ∧ 1 < 4 ∧ k.1 + 0 ≤ 0 ∧ k.2 + 0 ≤ 0) ∧ (sp_Jx4a65c_size_8abf5) av σ fun v σ' => xk_X10_boxToAsk ct K R n 29 ls (v.toList ++ rest) σ' (k.1 + 0, k.2 + 0)) := exS_step.trans rfl
theorem ev_X10_boxToAsk_29 {ct : Nat → Bool} {K : Kt} {R : Option AV → Hp → Prop} {n : Nat} {ls : List (Option AV)} {st : List AV} {σ : Hp} {k : Nat × Nat} : xe_X10_boxToAsk ct K R (n + 1) 29 ls st σ k = (oI st fun y st => oI st fun x st => (wI y ≤ wI x → xk_X10_boxToAsk ct K R n 80 ls st σ k) ∧ (¬ (wI y ≤ wI x) → xk_X10_boxToAsk ct K R n 32 ls st σ k)) := exS_step.trans rfl
theorem ev_X10_boxToAsk_32 {ct : Nat → Bool} {K : Kt} {R : Option AV → Hp → Prop} {n : Nat} {ls : List (Option AV)} {st : List AV} {σ : Hp} {k : Nat × Nat} : xe_X10_boxToAsk ct K R (n + 1) 32 ls st σ k = (lR ls 0 fun x => xk_X10_boxToAsk ct K R n 33 ls (vr x :: st) σ k) := exS_step.trans rfl
theorem ev_X10_boxToAsk_33 {ct : Nat → Bool} {K : Kt} {R : Option AV → Hp → Prop} {n : Nat} {ls : List (Option AV)} {st : List AV} {σ : Hp} {k : Nat × Nat} : xe_X10_boxToAsk ct K R (n + 1) 33 ls st σ k = (lI ls 3 fun x => xk_X10_boxToAsk ct K R n 34 ls (vi x :: st) σ k) := exS_step.trans rfl
theorem ev_X10_boxToAsk_34 {ct : Nat → Bool} {K : Kt} {R : Option AV → Hp → Prop} {n : Nat} {ls : List (Option AV)} {st : List AV} {σ : Hp} {k : Nat × Nat} : xe_X10_boxToAsk ct K R (n + 1) 34 ls st σ k = (popN 2 st [] fun av rest => (catS rest ≤ 8 ∧ 3 < 4 ∧ k.1 + 0 ≤ 0 ∧ k.2 + 0 ≤ 0) ∧ (sp_X10_countHaving) av σ fun v σ' => xk_X10_boxToAsk ct K R n 37 ls (v.toList ++ rest) σ' (k.1 + 0, k.2 + 0)) := exS_step.trans rfl
theorem ev_X10_boxToAsk_37 {ct : Nat → Bool} {K : Kt} {R : Option AV → Hp → Prop} {n : Nat} {ls : List (Option AV)} {st : List AV} {σ : Hp} {k : Nat × Nat} : xe_X10_boxToAsk ct K R (n + 1) 37 ls st σ k = (oI st fun x st => 4 < 6 ∧ xk_X10_boxToAsk ct K R n 39 (stL ls 4 (vi x)) st σ k) := exS_step.trans rfl
theorem ev_X10_boxToAsk_39 {ct : Nat → Bool} {K : Kt} {R : Option AV → Hp → Prop} {n : Nat} {ls : List (Option AV)} {st : List AV} {σ : Hp} {k : Nat × Nat} : xe_X10_boxToAsk ct K R (n + 1) 39 ls st σ k = (lI ls 4 fun x => xk_X10_boxToAsk ct K R n 41 ls (vi x :: st) σ k) := exS_step.trans rfl
theorem ev_X10_boxToAsk_41 {ct : Nat → Bool} {K : Kt} {R : Option AV → Hp → Prop} {n : Nat} {ls : List (Option AV)} {st : List AV} {σ : Hp} {k : Nat × Nat} : xe_X10_boxToAsk ct K R (n + 1) 41 ls st σ k = (lR ls 0 fun x => xk_X10_boxToAsk ct K R n 42 ls (vr x :: st) σ k) := exS_step.trans rfl
theorem ev_X10_boxToAsk_42 {ct : Nat → Bool} {K : Kt} {R : Option AV → Hp → Prop} {n : Nat} {ls : List (Option AV)} {st : List AV} {σ : Hp} {k : Nat × Nat} : xe_X10_boxToAsk ct K R (n + 1) 42 ls st σ k = (oR st fun x st => kd σ x = 11 ∧ xk_X10_boxToAsk ct K R n 45 ls (vi (fI σ 1109 x) :: st) σ k) := exS_step.trans rfl
theorem ev_X10_boxToAsk_45 {ct : Nat → Bool} {K : Kt} {R : Option AV → Hp → Prop} {n : Nat} {ls : List (Option AV)} {st : List AV} {σ : Hp} {k : Nat × Nat} : xe_X10_boxToAsk ct K R (n + 1) 45 ls st σ k = (lI ls 4 fun x => xk_X10_boxToAsk ct K R n 47 ls (vi x :: st) σ k) := exS_step.trans rfl
theorem ev_X10_boxToAsk_47 {ct : Nat → Bool} {K : Kt} {R : Option AV → Hp → Prop} {n : Nat} {ls : List (Option AV)} {st : List AV} {σ : Hp} {k : Nat × Nat} : xe_X10_boxToAsk ct K R (n + 1) 47 ls st σ k = (oI st fun y st => oI st fun x st => xk_X10_boxToAsk ct K R n 48 ls (vi (x - y) :: st) σ k) := exS_step.trans rfl
theorem ev_X10_boxToAsk_48 {ct : Nat → Bool} {K : Kt} {R : Option AV → Hp → Prop} {n : Nat} {ls : List (Option AV)} {st : List AV} {σ : Hp} {k : Nat × Nat} : xe_X10_boxToAsk ct K R (n + 1) 48 ls st σ k = (popN 2 st [] fun av rest => (catS rest ≤ 8 ∧ 1 < 4 ∧ k.1 + 0 ≤ 0 ∧ k.2 + 0 ≤ 0) ∧ (sp_J9_max_7cf53) av σ fun v σ' => xk_X10_boxToAsk ct K R n 51 ls (v.toList ++ rest) σ' (k.1 + 0, k.2 + 0)) := exS_step.trans rfl
theorem ev_X10_boxToAsk_51 {ct : Nat → Bool} {K : Kt} {R : Option AV → Hp → Prop} {n : Nat} {ls : List (Option AV)} {st : List AV} {σ : Hp} {k : Nat × Nat} : xe_X10_boxToAsk ct K R (n + 1) 51 ls st σ k = (oI st fun x st => 5 < 6 ∧ xk_X10_boxToAsk ct K R n 53 (stL ls 5 (vi x)) st σ k) := exS_step.trans rfl
theorem ev_X10_boxToAsk_53 {ct : Nat → Bool} {K : Kt} {R : Option AV → Hp → Prop} {n : Nat} {ls : List (Option AV)} {st : List AV} {σ : Hp} {k : Nat × Nat} : xe_X10_boxToAsk ct K R (n + 1) 53 ls st σ k = (lI ls 5 fun x => xk_X10_boxToAsk ct K R n 55 ls (vi x :: st) σ k) := exS_step.trans rfl
theorem ev_X10_boxToAsk_55 {ct : Nat → Bool} {K : Kt} {R : Option AV → Hp → Prop} {n : Nat} {ls : List (Option AV)} {st : List AV} {σ : Hp} {k : Nat × Nat} : xe_X10_boxToAsk ct K R (n + 1) 55 ls st σ k = (lI ls 2 fun x => xk_X10_boxToAsk ct K R n 56 ls (vi x :: st) σ k) := exS_step.trans rfl
theorem ev_X10_boxToAsk_56 {ct : Nat → Bool} {K : Kt} {R : Option AV → Hp → Prop} {n : Nat} {ls : List (Option AV)} {st : List AV} {σ : Hp} {k : Nat × Nat} : xe_X10_boxToAsk ct K R (n + 1) 56 ls st σ k = (oI st fun y st => oI st fun x st => (wI y ≤ wI x → xk_X10_boxToAsk ct K R n 74 ls st σ k) ∧ (¬ (wI y ≤ wI x) → xk_X10_boxToAsk ct K R n 59 ls st σ k)) := exS_step.trans rfl
theorem ev_X10_boxToAsk_59 {ct : Nat → Bool} {K : Kt} {R : Option AV → Hp → Prop} {n : Nat} {ls : List (Option AV)} {st : List AV} {σ : Hp} {k : Nat × Nat} : xe_X10_boxToAsk ct K R (n + 1) 59 ls st σ k = (lI ls 5 fun x => xk_X10_boxToAsk ct K R n 61 ls (vi x :: st) σ k) := exS_step.trans rfl
theorem ev_X10_boxToAsk_61 {ct : Nat → Bool} {K : Kt} {R : Option AV → Hp → Prop} {n : Nat} {ls : List (Option AV)} {st : List AV} {σ : Hp} {k : Nat × Nat} : xe_X10_boxToAsk ct K R (n + 1) 61 ls st σ k = (oI st fun x st => 2 < 6 ∧ xk_X10_boxToAsk ct K R n 62 (stL ls 2 (vi x)) st σ k) := exS_step.trans rfl
theorem ev_X10_boxToAsk_62 {ct : Nat → Bool} {K : Kt} {R : Option AV → Hp → Prop} {n : Nat} {ls : List (Option AV)} {st : List AV} {σ : Hp} {k : Nat × Nat} : xe_X10_boxToAsk ct K R (n + 1) 62 ls st σ k = (lR ls 0 fun x => xk_X10_boxToAsk ct K R n 63 ls (vr x :: st) σ k) := exS_step.trans rfl
theorem ev_X10_boxToAsk_63 {ct : Nat → Bool} {K : Kt} {R : Option AV → Hp → Prop} {n : Nat} {ls : List (Option AV)} {st : List AV} {σ : Hp} {k : Nat × Nat} : xe_X10_boxToAsk ct K R (n + 1) 63 ls st σ k = (oR st fun x st => kd σ x = 11 ∧ xk_X10_boxToAsk ct K R n 66 ls (vr (fR σ 1106 x) :: st) σ k) := exS_step.trans rfl
theorem ev_X10_boxToAsk_66 {ct : Nat → Bool} {K : Kt} {R : Option AV → Hp → Prop} {n : Nat} {ls : List (Option AV)} {st : List AV} {σ : Hp} {k : Nat × Nat} : xe_X10_boxToAsk ct K R (n + 1) 66 ls st σ k = (lI ls 3 fun x => xk_X10_boxToAsk ct K R n 67 ls (vi x :: st) σ k) := exS_step.trans rfl
theorem ev_X10_boxToAsk_67 {ct : Nat → Bool} {K : Kt} {R : Option AV → Hp → Prop} {n : Nat} {ls : List (Option AV)} {st : List AV} {σ : Hp} {k : Nat × Nat} : xe_X10_boxToAsk ct K R (n + 1) 67 ls st σ k = (popN 2 st [] fun av rest => (catS rest ≤ 8 ∧ 3 < 4 ∧ k.1 + 0 ≤ 0 ∧ k.2 + 0 ≤ 0) ∧ (sp_Jx4a65c_get_915e3) av σ fun v σ' => xk_X10_boxToAsk ct K R n 70 ls (v.toList ++ rest) σ' (k.1 + 0, k.2 + 0)) := exS_step.trans rfl
theorem ev_X10_boxToAsk_70 {ct : Nat → Bool} {K : Kt} {R : Option AV → Hp → Prop} {n : Nat} {ls : List (Option AV)} {st : List AV} {σ : Hp} {k : Nat × Nat} : xe_X10_boxToAsk ct K R (n + 1) 70 ls st σ k = (oR st fun x st => kd σ x = 3 ∧ xk_X10_boxToAsk ct K R n 73 ls (vr x :: st) σ k) := exS_step.trans rfl
theorem ev_X10_boxToAsk_73 {ct : Nat → Bool} {K : Kt} {R : Option AV → Hp → Prop} {n : Nat} {ls : List (Option AV)} {st : List AV} {σ : Hp} {k : Nat × Nat} : xe_X10_boxToAsk ct K R (n + 1) 73 ls st σ k = (oR st fun x st => 1 < 6 ∧ xk_X10_boxToAsk ct K R n 74 (stL ls 1 (vr x)) st σ k) := exS_step.trans rfl
theorem ev_X10_boxToAsk_74 {ct : Nat → Bool} {K : Kt} {R : Option AV → Hp → Prop} {n : Nat} {ls : List (Option AV)} {st : List AV} {σ : Hp} {k : Nat × Nat} : xe_X10_boxToAsk ct K R (n + 1) 74 ls st σ k = (lI ls 3 fun x => 3 < 6 ∧ xk_X10_boxToAsk ct K R n 77 (stL ls 3 (vi (x + (1)))) st σ k) := exS_step.trans rfl
theorem ev_X10_boxToAsk_77 {ct : Nat → Bool} {K : Kt} {R : Option AV → Hp → Prop} {n : Nat} {ls : List (Option AV)} {st : List AV} {σ : Hp} {k : Nat × Nat} : xe_X10_boxToAsk ct K R (n + 1) 77 ls st σ k = (xk_X10_boxToAsk ct K R n 21 ls st σ k) := exS_step.trans rfl
theorem ev_X10_boxToAsk_80 {ct : Nat → Bool} {K : Kt} {R : Option AV → Hp → Prop} {n : Nat} {ls : List (Option AV)} {st : List AV} {σ : Hp} {k : Nat × Nat} : xe_X10_boxToAsk ct K R (n + 1) 80 ls st σ k = (lR ls 1 fun x => xk_X10_boxToAsk ct K R n 81 ls (vr x :: st) σ k) := exS_step.trans rfl
theorem ev_X10_boxToAsk_81 {ct : Nat → Bool} {K : Kt} {R : Option AV → Hp → Prop} {n : Nat} {ls : List (Option AV)} {st : List AV} {σ : Hp} {k : Nat × Nat} : xe_X10_boxToAsk ct K R (n + 1) 81 ls st σ k = (oR st fun x st => st = [] ∧ 5 = 5 ∧ R (some (vr x)) σ) := exS_step.trans rfl
def M_X10_boxToAsk : Md := (yX10_boxToAsk, cX10_boxToAsk, 6, (some (FieldType.object "AlarmBoxes$Box")), 4, 0, 0, 5, false, tb_X10_boxToAsk, mt_X10_boxToAsk)
theorem mm_X10_boxToAsk : MMOK M_X10_boxToAsk := ⟨by decide +kernel, tk_X10_boxToAsk, mk_X10_boxToAsk, Or.inl ⟨_, rfl⟩, fun h => by cases h⟩
theorem go_X10_boxToAsk {Q : Option AV → Hp → Prop} {ct : Nat → Bool} {pc : Nat} {ls : List (Option AV)} {st : List AV} {σ : Hp} {k : Nat × Nat} (n : Nat) (h : xe_X10_boxToAsk ct (Go M_X10_boxToAsk Q) Q n pc ls st σ k) : Go M_X10_boxToAsk Q pc ls st σ k := Go.exS mm_X10_boxToAsk h

set_option maxRecDepth 20000 in
theorem c_X10_boxToAsk : Ct yX10_boxToAsk cX10_boxToAsk 6 ((some (FieldType.object "AlarmBoxes$Box"))) 4 0 0 sp_X10_boxToAsk := by
  refine Ct.go (M := M_X10_boxToAsk) mm_X10_boxToAsk fun av σ Q h0 => ?_
  obtain ⟨this, rfl, hk, h⟩ := el_X10_boxToAsk h0
  clear h0
  refine ⟨Nat.le_of_ble_eq_true rfl, ?_⟩
  show Go M_X10_boxToAsk Q 0 [some (vr this), none, none, none, none, none] [] σ (0, 0)
  obtain ⟨rfl, hC, τ, ⟨xs, hT, hKM, hsz, hx⟩, hI, hB, hL, h⟩ := h
  have hf := hKM.1
  have hl := hKM.2.1
  rw [List.length_map] at hf hl
  have hsc := hT.1
  by_cases c : 2 ≤ fI τ 1322 61
  · rw [if_pos c] at h
    have hne : xs ≠ [] := fun e => by rw [e] at hsc; simp at hsc; omega
    obtain ⟨hrl, ⟨hlp, -⟩, hx⟩ := hx hne
    rw [if_neg hne] at hsz
    have hss := hI.storySize_s
    have hLl := hL _ hrl.1 (by omega)
    obtain ⟨g1, g2, g3, -⟩ := hLl
    have hg := lpx hC (l := fI τ 1321 61) (by omega)
    have hg1 := hg.1
    have hg2 := hg.2.1
    have hg3 := hg.2.2
    have hmany := hI.many_ (fI τ 1321 61)
    have hLe : ∃ ci, LOk σ (46 + 4 * fI τ 1321 61) ci := ⟨2, g1⟩
    have hok : xsOk xs (fI σ 1108 4) := fun x q => by
      have := hx x q
      exact ⟨by rw [hsz]; exact this.1, fun p r => by have := this.2.1 p r; omega, this.2.2⟩
    have loop : ∀ (m k : Nat) (a4 a5 : Option AV), (k : Int) + m = aI τ 74 (fI τ 1321 61) → Go M_X10_boxToAsk Q 21 [some (vr 4), some (vr (if (mAsk τ k).1 < 0 then 0 else lat σ 3 (mAsk τ k).1)), some (vi (if (mAsk τ k).1 < 0 then fI τ 1322 61 + 1 else (mAsk τ k).2)), some (vi k), a4, a5] [] σ (0, 0) := by
      intro m
      induction m with
      | zero =>
        intro k a4 a5 hk2
        have e : (aI τ 74 (fI τ 1321 61)).toNat = k := by omega
        rw [e] at h
        generalize (if (mAsk τ k).1 < 0 then 0 else lat σ 3 (mAsk τ k).1) = b at *
        generalize (if (mAsk τ k).1 < 0 then fI τ 1322 61 + 1 else (mAsk τ k).2) = y at *
        clear hKM hok hx hT hB hL
        refine go_X10_boxToAsk (ct := fun p => p == 32) 20 ?_
        simp only [oI, oL, oR, o1, lI, lL, lR, popN, catS, gv, stL, stL2, swt, cnd, spObj, List.getElem?_cons_zero, List.getElem?_cons_succ, List.getD_cons_zero, List.getD_cons_succ, List.set_cons_zero, List.set_cons_succ, List.nil_append, List.cons_append, Option.toList, Bool.or_false, Bool.false_or, Bool.or_true, Bool.true_or, Nat.reduceBEq, Nat.reduceAdd, Nat.reduceLT, Nat.reduceLeDiff, Int.reduceAdd, Int.reduceToNat, true_and, and_true, Fin.isValue, Fin.val_zero, Fin.val_one, Fin.val_two, Fin.reduceFinMk, eq_self, Int.reduceNeg, imp_self, Nat.reduceMul, Nat.le_refl, not_true_eq_false, not_false_eq_true, List.getElem?_nil, reduceCtorEq, true_or, or_true, Classical.not_not, implies_true, or_self, wI_0, wI_1, wI_m1, b2i_w, b2i_eq0, b2i_eq1, b2i_bool, nor_self, nx_pI, kd_pI, ln_pI, fI_pI, fL_pI, fR_pI, aI_pI, aL_pI, aR_pI, nx_pL, kd_pL, ln_pL, fI_pL, fL_pL, fR_pL, aI_pL, aL_pL, aR_pL, nx_pR, kd_pR, ln_pR, fI_pR, fL_pR, fR_pR, aI_pR, aL_pR, aR_pR, nx_qI, kd_qI, ln_qI, fI_qI, fL_qI, fR_qI, aI_qI, aL_qI, aR_qI, nx_qL, kd_qL, ln_qL, fI_qL, fL_qL, fR_qL, aI_qL, aL_qL, aR_qL, nx_qR, kd_qR, ln_qR, fI_qR, fL_qR, fR_qR, aI_qR, aL_qR, aR_qR, nx_mk, kd_mk, ln_mk, fI_mk, fL_mk, fR_mk, aI_mk, aL_mk, aR_mk, false_and, and_false, if_false, if_true, and_self, Int.reduceEq, Nat.reduceEqDiff, ite_self, MLay_pI, MLay_pL, MLay_qI, MLay_qL, ev_X10_boxToAsk_21, ev_X10_boxToAsk_22, ev_X10_boxToAsk_23, ev_X10_boxToAsk_26, ev_X10_boxToAsk_29, ev_X10_boxToAsk_80, ev_X10_boxToAsk_81, xt_X10_boxToAsk, xf_X10_boxToAsk, us_Jx4a65c_size_8abf5, us_X10_countHaving, us_J9_max_7cf53, us_Jx4a65c_get_915e3, hk, hlp, hg1, hg2, hg3, g2]
        try simp (disch := omega) only [wI_id, dv_nn, rm_nn]
        repeat' (first | intro z | apply And.intro)
        all_goals try omega
        all_goals try contradiction
        all_goals exact h
      | succ m ih =>
        intro k a4 a5 hk2
        have ih := fun a4 a5 => ih (k + 1) a4 a5 (by omega)
        have hkk : 0 ≤ (k : Int) ∧ (k : Int) < aI τ 74 (fI τ 1321 61) := by omega
        have hv := have_is hT hB hI hrl (fun x q => ⟨(hx x q).1, (hx x q).2.1⟩) hkk
        have hin := mHave_in hI (aI τ 75 (12 * fI τ 1321 61 + k))
        have hgi := mGrt_in hI (aI τ 75 (12 * fI τ 1321 61 + k))
        have hai := mAsk_in hI k
        have hba := hI.boxAt_ (12 * fI τ 1321 61 + k)
        have hlat := g3 k hkk.1 hkk.2
        have hkc : kd σ (lat σ (46 + 4 * fI τ 1321 61) k) = 3 := g1.2.2.2.2.2 k hkk.1 (by rw [g2]; exact hkk.2)
        have e1 : mAsk τ (k + 1) = if 0 ≤ (mAsk τ k).1 ∧ (mAsk τ k).2 ≤ mGrt τ (aI τ 75 (12 * fI τ 1321 61 + k)) then mAsk τ k else (aI τ 75 (12 * fI τ 1321 61 + k), mGrt τ (aI τ 75 (12 * fI τ 1321 61 + k))) := rfl
        have eg : mGrt τ (aI τ 75 (12 * fI τ 1321 61 + k)) = if mHave τ (aI τ 75 (12 * fI τ 1321 61 + k)) < fI τ 1322 61 - mHave τ (aI τ 75 (12 * fI τ 1321 61 + k)) then fI τ 1322 61 - mHave τ (aI τ 75 (12 * fI τ 1321 61 + k)) else mHave τ (aI τ 75 (12 * fI τ 1321 61 + k)) := rfl
        have hf2 : fI σ 1109 4 = fI τ 1322 61 := by omega
        generalize hbb : aI τ 75 (12 * fI τ 1321 61 + k) = bb at *
        generalize hhv : mHave τ bb = hv0 at *
        generalize hgr : mGrt τ bb = gr at *
        have hle9 : fI τ 1322 61 ≤ 200 := by omega
        have hgs : gr ≤ fI τ 1322 61 := by rw [eg]; split <;> omega
        have w58 : Go M_X10_boxToAsk Q 51 [some (vr 4), some (vr (if (mAsk τ k).1 < 0 then 0 else lat σ 3 (mAsk τ k).1)), some (vi (if (mAsk τ k).1 < 0 then fI τ 1322 61 + 1 else (mAsk τ k).2)), some (vi k), some (vi hv0), a5] [vi gr] σ (0, 0) := by
          rw [e1] at ih
          by_cases c1 : 0 ≤ (mAsk τ k).1 ∧ (mAsk τ k).2 ≤ gr
          · have ih := ih (some (vi hv0)) (some (vi gr))
            rw [if_pos c1] at ih
            rw [if_neg (by omega), if_neg (by omega)] at ih ⊢
            rw [Int.natCast_add] at ih
            generalize (mAsk τ k).1 = ma at *
            generalize (mAsk τ k).2 = mb at *
            clear hKM hok hx hT hB hL h hv e1 eg
            refine go_X10_boxToAsk (ct := fun p => p == 59 || p == 21) 20 ?_
            simp only [oI, oL, oR, o1, lI, lL, lR, popN, catS, gv, stL, stL2, swt, cnd, spObj, List.getElem?_cons_zero, List.getElem?_cons_succ, List.getD_cons_zero, List.getD_cons_succ, List.set_cons_zero, List.set_cons_succ, List.nil_append, List.cons_append, Option.toList, Bool.or_false, Bool.false_or, Bool.or_true, Bool.true_or, Nat.reduceBEq, Nat.reduceAdd, Nat.reduceLT, Nat.reduceLeDiff, Int.reduceAdd, Int.reduceToNat, true_and, and_true, Fin.isValue, Fin.val_zero, Fin.val_one, Fin.val_two, Fin.reduceFinMk, eq_self, Int.reduceNeg, imp_self, Nat.reduceMul, Nat.le_refl, not_true_eq_false, not_false_eq_true, List.getElem?_nil, reduceCtorEq, true_or, or_true, Classical.not_not, implies_true, or_self, wI_0, wI_1, wI_m1, b2i_w, b2i_eq0, b2i_eq1, b2i_bool, nor_self, nx_pI, kd_pI, ln_pI, fI_pI, fL_pI, fR_pI, aI_pI, aL_pI, aR_pI, nx_pL, kd_pL, ln_pL, fI_pL, fL_pL, fR_pL, aI_pL, aL_pL, aR_pL, nx_pR, kd_pR, ln_pR, fI_pR, fL_pR, fR_pR, aI_pR, aL_pR, aR_pR, nx_qI, kd_qI, ln_qI, fI_qI, fL_qI, fR_qI, aI_qI, aL_qI, aR_qI, nx_qL, kd_qL, ln_qL, fI_qL, fL_qL, fR_qL, aI_qL, aL_qL, aR_qL, nx_qR, kd_qR, ln_qR, fI_qR, fL_qR, fR_qR, aI_qR, aL_qR, aR_qR, nx_mk, kd_mk, ln_mk, fI_mk, fL_mk, fR_mk, aI_mk, aL_mk, aR_mk, false_and, and_false, if_false, if_true, and_self, Int.reduceEq, Nat.reduceEqDiff, ite_self, MLay_pI, MLay_pL, MLay_qI, MLay_qL, ev_X10_boxToAsk_51, ev_X10_boxToAsk_53, ev_X10_boxToAsk_55, ev_X10_boxToAsk_56, ev_X10_boxToAsk_59, ev_X10_boxToAsk_61, ev_X10_boxToAsk_62, ev_X10_boxToAsk_63, ev_X10_boxToAsk_66, ev_X10_boxToAsk_67, ev_X10_boxToAsk_70, ev_X10_boxToAsk_73, ev_X10_boxToAsk_74, ev_X10_boxToAsk_77, xt_X10_boxToAsk, xf_X10_boxToAsk, us_Jx4a65c_size_8abf5, us_X10_countHaving, us_J9_max_7cf53, us_Jx4a65c_get_915e3]
            try simp (disch := omega) only [wI_id, dv_nn, rm_nn]
            repeat' (first | intro z | apply And.intro)
            all_goals try omega
            all_goals try contradiction
            all_goals exact ih
          · have ih := ih (some (vi hv0)) (some (vi gr))
            rw [if_neg c1] at ih
            dsimp only at ih
            rw [if_neg (by omega), if_neg (by omega), Int.natCast_add] at ih
            have hy : gr < (if (mAsk τ k).1 < 0 then fI τ 1322 61 + 1 else (mAsk τ k).2) := by split <;> omega
            have hy2 : (if (mAsk τ k).1 < 0 then fI τ 1322 61 + 1 else (mAsk τ k).2) ≤ 201 := by split <;> omega
            generalize (if (mAsk τ k).1 < 0 then fI τ 1322 61 + 1 else (mAsk τ k).2) = mb at *
            generalize (if (mAsk τ k).1 < 0 then 0 else lat σ 3 (mAsk τ k).1) = ma at *
            rw [← hlat] at ih
            have hsz2 : (k : Int) < fI σ 1402 (46 + 4 * fI τ 1321 61) := by rw [g2]; exact hkk.2
            clear hKM hok hx hT hB hL h hv e1 eg c1
            refine go_X10_boxToAsk (ct := fun p => p == 21) 40 ?_
            simp only [oI, oL, oR, o1, lI, lL, lR, popN, catS, gv, stL, stL2, swt, cnd, spObj, List.getElem?_cons_zero, List.getElem?_cons_succ, List.getD_cons_zero, List.getD_cons_succ, List.set_cons_zero, List.set_cons_succ, List.nil_append, List.cons_append, Option.toList, Bool.or_false, Bool.false_or, Bool.or_true, Bool.true_or, Nat.reduceBEq, Nat.reduceAdd, Nat.reduceLT, Nat.reduceLeDiff, Int.reduceAdd, Int.reduceToNat, true_and, and_true, Fin.isValue, Fin.val_zero, Fin.val_one, Fin.val_two, Fin.reduceFinMk, eq_self, Int.reduceNeg, imp_self, Nat.reduceMul, Nat.le_refl, not_true_eq_false, not_false_eq_true, List.getElem?_nil, reduceCtorEq, true_or, or_true, Classical.not_not, implies_true, or_self, wI_0, wI_1, wI_m1, b2i_w, b2i_eq0, b2i_eq1, b2i_bool, nor_self, nx_pI, kd_pI, ln_pI, fI_pI, fL_pI, fR_pI, aI_pI, aL_pI, aR_pI, nx_pL, kd_pL, ln_pL, fI_pL, fL_pL, fR_pL, aI_pL, aL_pL, aR_pL, nx_pR, kd_pR, ln_pR, fI_pR, fL_pR, fR_pR, aI_pR, aL_pR, aR_pR, nx_qI, kd_qI, ln_qI, fI_qI, fL_qI, fR_qI, aI_qI, aL_qI, aR_qI, nx_qL, kd_qL, ln_qL, fI_qL, fL_qL, fR_qL, aI_qL, aL_qL, aR_qL, nx_qR, kd_qR, ln_qR, fI_qR, fL_qR, fR_qR, aI_qR, aL_qR, aR_qR, nx_mk, kd_mk, ln_mk, fI_mk, fL_mk, fR_mk, aI_mk, aL_mk, aR_mk, false_and, and_false, if_false, if_true, and_self, Int.reduceEq, Nat.reduceEqDiff, ite_self, MLay_pI, MLay_pL, MLay_qI, MLay_qL, ev_X10_boxToAsk_51, ev_X10_boxToAsk_53, ev_X10_boxToAsk_55, ev_X10_boxToAsk_56, ev_X10_boxToAsk_59, ev_X10_boxToAsk_61, ev_X10_boxToAsk_62, ev_X10_boxToAsk_63, ev_X10_boxToAsk_66, ev_X10_boxToAsk_67, ev_X10_boxToAsk_70, ev_X10_boxToAsk_73, ev_X10_boxToAsk_74, ev_X10_boxToAsk_77, xt_X10_boxToAsk, xf_X10_boxToAsk, us_Jx4a65c_size_8abf5, us_X10_countHaving, us_J9_max_7cf53, us_Jx4a65c_get_915e3, hk, hlp, hg1, hg2, hg3, hLe, hkc, hsz2]
            try simp (disch := omega) only [wI_id, dv_nn, rm_nn]
            repeat' (first | intro z | apply And.intro)
            all_goals try omega
            all_goals try contradiction
            all_goals first | exact ih | omega
        have w44 : Go M_X10_boxToAsk Q 37 [some (vr 4), some (vr (if (mAsk τ k).1 < 0 then 0 else lat σ 3 (mAsk τ k).1)), some (vi (if (mAsk τ k).1 < 0 then fI τ 1322 61 + 1 else (mAsk τ k).2)), some (vi k), a4, a5] [vi hv0] σ (0, 0) := by
          generalize (if (mAsk τ k).1 < 0 then fI τ 1322 61 + 1 else (mAsk τ k).2) = mb at *
          generalize (if (mAsk τ k).1 < 0 then 0 else lat σ 3 (mAsk τ k).1) = ma at *
          rw [eg] at w58
          clear hKM hok hx hT hB hL h hv e1 eg ih
          refine go_X10_boxToAsk (ct := fun p => p == 51) 40 ?_
          simp only [oI, oL, oR, o1, lI, lL, lR, popN, catS, gv, stL, stL2, swt, cnd, spObj, List.getElem?_cons_zero, List.getElem?_cons_succ, List.getD_cons_zero, List.getD_cons_succ, List.set_cons_zero, List.set_cons_succ, List.nil_append, List.cons_append, Option.toList, Bool.or_false, Bool.false_or, Bool.or_true, Bool.true_or, Nat.reduceBEq, Nat.reduceAdd, Nat.reduceLT, Nat.reduceLeDiff, Int.reduceAdd, Int.reduceToNat, true_and, and_true, Fin.isValue, Fin.val_zero, Fin.val_one, Fin.val_two, Fin.reduceFinMk, eq_self, Int.reduceNeg, imp_self, Nat.reduceMul, Nat.le_refl, not_true_eq_false, not_false_eq_true, List.getElem?_nil, reduceCtorEq, true_or, or_true, Classical.not_not, implies_true, or_self, wI_0, wI_1, wI_m1, b2i_w, b2i_eq0, b2i_eq1, b2i_bool, nor_self, nx_pI, kd_pI, ln_pI, fI_pI, fL_pI, fR_pI, aI_pI, aL_pI, aR_pI, nx_pL, kd_pL, ln_pL, fI_pL, fL_pL, fR_pL, aI_pL, aL_pL, aR_pL, nx_pR, kd_pR, ln_pR, fI_pR, fL_pR, fR_pR, aI_pR, aL_pR, aR_pR, nx_qI, kd_qI, ln_qI, fI_qI, fL_qI, fR_qI, aI_qI, aL_qI, aR_qI, nx_qL, kd_qL, ln_qL, fI_qL, fL_qL, fR_qL, aI_qL, aL_qL, aR_qL, nx_qR, kd_qR, ln_qR, fI_qR, fL_qR, fR_qR, aI_qR, aL_qR, aR_qR, nx_mk, kd_mk, ln_mk, fI_mk, fL_mk, fR_mk, aI_mk, aL_mk, aR_mk, false_and, and_false, if_false, if_true, and_self, Int.reduceEq, Nat.reduceEqDiff, ite_self, MLay_pI, MLay_pL, MLay_qI, MLay_qL, ev_X10_boxToAsk_37, ev_X10_boxToAsk_39, ev_X10_boxToAsk_41, ev_X10_boxToAsk_42, ev_X10_boxToAsk_45, ev_X10_boxToAsk_47, ev_X10_boxToAsk_48, xt_X10_boxToAsk, xf_X10_boxToAsk, us_Jx4a65c_size_8abf5, us_X10_countHaving, us_J9_max_7cf53, us_Jx4a65c_get_915e3, hk, hf2]
          repeat' (first | intro z | apply And.intro)
          all_goals try omega
          all_goals try contradiction
          all_goals first | exact w58 | omega
        have hk12 : 0 ≤ (k : Int) ∧ (k : Int) < 12 := by omega
        have hs3 : 0 ≤ fI σ 1108 4 ∧ fI σ 1108 4 ≤ 3 := by omega
        rw [← hv] at w44
        generalize (if (mAsk τ k).1 < 0 then fI τ 1322 61 + 1 else (mAsk τ k).2) = mb at *
        generalize (if (mAsk τ k).1 < 0 then 0 else lat σ 3 (mAsk τ k).1) = ma at *
        clear hx hT hB hL h hv e1 eg ih w58
        refine go_X10_boxToAsk (ct := fun p => p == 37 || p == 80) 40 ?_
        simp only [oI, oL, oR, o1, lI, lL, lR, popN, catS, gv, stL, stL2, swt, cnd, spObj, List.getElem?_cons_zero, List.getElem?_cons_succ, List.getD_cons_zero, List.getD_cons_succ, List.set_cons_zero, List.set_cons_succ, List.nil_append, List.cons_append, Option.toList, Bool.or_false, Bool.false_or, Bool.or_true, Bool.true_or, Nat.reduceBEq, Nat.reduceAdd, Nat.reduceLT, Nat.reduceLeDiff, Int.reduceAdd, Int.reduceToNat, true_and, and_true, Fin.isValue, Fin.val_zero, Fin.val_one, Fin.val_two, Fin.reduceFinMk, eq_self, Int.reduceNeg, imp_self, Nat.reduceMul, Nat.le_refl, not_true_eq_false, not_false_eq_true, List.getElem?_nil, reduceCtorEq, true_or, or_true, Classical.not_not, implies_true, or_self, wI_0, wI_1, wI_m1, b2i_w, b2i_eq0, b2i_eq1, b2i_bool, nor_self, nx_pI, kd_pI, ln_pI, fI_pI, fL_pI, fR_pI, aI_pI, aL_pI, aR_pI, nx_pL, kd_pL, ln_pL, fI_pL, fL_pL, fR_pL, aI_pL, aL_pL, aR_pL, nx_pR, kd_pR, ln_pR, fI_pR, fL_pR, fR_pR, aI_pR, aL_pR, aR_pR, nx_qI, kd_qI, ln_qI, fI_qI, fL_qI, fR_qI, aI_qI, aL_qI, aR_qI, nx_qL, kd_qL, ln_qL, fI_qL, fL_qL, fR_qL, aI_qL, aL_qL, aR_qL, nx_qR, kd_qR, ln_qR, fI_qR, fL_qR, fR_qR, aI_qR, aL_qR, aR_qR, nx_mk, kd_mk, ln_mk, fI_mk, fL_mk, fR_mk, aI_mk, aL_mk, aR_mk, false_and, and_false, if_false, if_true, and_self, Int.reduceEq, Nat.reduceEqDiff, ite_self, MLay_pI, MLay_pL, MLay_qI, MLay_qL, ev_X10_boxToAsk_21, ev_X10_boxToAsk_22, ev_X10_boxToAsk_23, ev_X10_boxToAsk_26, ev_X10_boxToAsk_29, ev_X10_boxToAsk_32, ev_X10_boxToAsk_33, ev_X10_boxToAsk_34, xt_X10_boxToAsk, xf_X10_boxToAsk, us_Jx4a65c_size_8abf5, us_X10_countHaving, us_J9_max_7cf53, us_Jx4a65c_get_915e3, hk, hC, hlp, hg1, hg2, hg3, g2, hk12]
        try simp (disch := omega) only [wI_id, dv_nn, rm_nn]
        repeat' (first | intro z | apply And.intro)
        all_goals try omega
        all_goals try contradiction
        all_goals first | exact ⟨xs, hKM, hs3, hok, w44⟩ | omega
    have w := loop (aI τ 74 (fI τ 1321 61)).toNat 0 none none (by omega)
    have ea : (mAsk τ 0).1 = -1 := rfl
    rw [ea, if_pos (by decide), if_pos (by decide)] at w
    have hf2 : fI σ 1109 4 = fI τ 1322 61 := by omega
    have hf3 : 2 ≤ fI σ 1109 4 ∧ fI σ 1109 4 ≤ 200 := by omega
    clear loop h hKM hok hx hT hB hL
    refine go_X10_boxToAsk (ct := fun p => p == 17 || p == 21) 40 ?_
    simp only [oI, oL, oR, o1, lI, lL, lR, popN, catS, gv, stL, stL2, swt, cnd, spObj, List.getElem?_cons_zero, List.getElem?_cons_succ, List.getD_cons_zero, List.getD_cons_succ, List.set_cons_zero, List.set_cons_succ, List.nil_append, List.cons_append, Option.toList, Bool.or_false, Bool.false_or, Bool.or_true, Bool.true_or, Nat.reduceBEq, Nat.reduceAdd, Nat.reduceLT, Nat.reduceLeDiff, Int.reduceAdd, Int.reduceToNat, true_and, and_true, Fin.isValue, Fin.val_zero, Fin.val_one, Fin.val_two, Fin.reduceFinMk, eq_self, Int.reduceNeg, imp_self, Nat.reduceMul, Nat.le_refl, not_true_eq_false, not_false_eq_true, List.getElem?_nil, reduceCtorEq, true_or, or_true, Classical.not_not, implies_true, or_self, wI_0, wI_1, wI_m1, b2i_w, b2i_eq0, b2i_eq1, b2i_bool, nor_self, nx_pI, kd_pI, ln_pI, fI_pI, fL_pI, fR_pI, aI_pI, aL_pI, aR_pI, nx_pL, kd_pL, ln_pL, fI_pL, fL_pL, fR_pL, aI_pL, aL_pL, aR_pL, nx_pR, kd_pR, ln_pR, fI_pR, fL_pR, fR_pR, aI_pR, aL_pR, aR_pR, nx_qI, kd_qI, ln_qI, fI_qI, fL_qI, fR_qI, aI_qI, aL_qI, aR_qI, nx_qL, kd_qL, ln_qL, fI_qL, fL_qL, fR_qL, aI_qL, aL_qL, aR_qL, nx_qR, kd_qR, ln_qR, fI_qR, fL_qR, fR_qR, aI_qR, aL_qR, aR_qR, nx_mk, kd_mk, ln_mk, fI_mk, fL_mk, fR_mk, aI_mk, aL_mk, aR_mk, false_and, and_false, if_false, if_true, and_self, Int.reduceEq, Nat.reduceEqDiff, ite_self, MLay_pI, MLay_pL, MLay_qI, MLay_qL, ev_X10_boxToAsk_0, ev_X10_boxToAsk_1, ev_X10_boxToAsk_2, ev_X10_boxToAsk_3, ev_X10_boxToAsk_6, ev_X10_boxToAsk_7, ev_X10_boxToAsk_8, ev_X10_boxToAsk_9, ev_X10_boxToAsk_10, ev_X10_boxToAsk_13, ev_X10_boxToAsk_14, ev_X10_boxToAsk_17, ev_X10_boxToAsk_18, ev_X10_boxToAsk_19, ev_X10_boxToAsk_20, xt_X10_boxToAsk, xf_X10_boxToAsk, us_Jx4a65c_size_8abf5, us_X10_countHaving, us_J9_max_7cf53, us_Jx4a65c_get_915e3, hk, hf2]
    try simp (disch := omega) only [wI_id, dv_nn, rm_nn]
    repeat' (first | intro z | apply And.intro)
    all_goals try omega
    all_goals try contradiction
    all_goals exact w
  · rw [if_neg c] at h
    have hf3 : 0 ≤ fI σ 1109 4 ∧ fI σ 1109 4 < 2 := by omega
    clear hx hT hB hL hKM
    refine go_X10_boxToAsk (ct := fun p => p == 19) 40 ?_
    simp only [oI, oL, oR, o1, lI, lL, lR, popN, catS, gv, stL, stL2, swt, cnd, spObj, List.getElem?_cons_zero, List.getElem?_cons_succ, List.getD_cons_zero, List.getD_cons_succ, List.set_cons_zero, List.set_cons_succ, List.nil_append, List.cons_append, Option.toList, Bool.or_false, Bool.false_or, Bool.or_true, Bool.true_or, Nat.reduceBEq, Nat.reduceAdd, Nat.reduceLT, Nat.reduceLeDiff, Int.reduceAdd, Int.reduceToNat, true_and, and_true, Fin.isValue, Fin.val_zero, Fin.val_one, Fin.val_two, Fin.reduceFinMk, eq_self, Int.reduceNeg, imp_self, Nat.reduceMul, Nat.le_refl, not_true_eq_false, not_false_eq_true, List.getElem?_nil, reduceCtorEq, true_or, or_true, Classical.not_not, implies_true, or_self, wI_0, wI_1, wI_m1, b2i_w, b2i_eq0, b2i_eq1, b2i_bool, nor_self, nx_pI, kd_pI, ln_pI, fI_pI, fL_pI, fR_pI, aI_pI, aL_pI, aR_pI, nx_pL, kd_pL, ln_pL, fI_pL, fL_pL, fR_pL, aI_pL, aL_pL, aR_pL, nx_pR, kd_pR, ln_pR, fI_pR, fL_pR, fR_pR, aI_pR, aL_pR, aR_pR, nx_qI, kd_qI, ln_qI, fI_qI, fL_qI, fR_qI, aI_qI, aL_qI, aR_qI, nx_qL, kd_qL, ln_qL, fI_qL, fL_qL, fR_qL, aI_qL, aL_qL, aR_qL, nx_qR, kd_qR, ln_qR, fI_qR, fL_qR, fR_qR, aI_qR, aL_qR, aR_qR, nx_mk, kd_mk, ln_mk, fI_mk, fL_mk, fR_mk, aI_mk, aL_mk, aR_mk, false_and, and_false, if_false, if_true, and_self, Int.reduceEq, Nat.reduceEqDiff, ite_self, MLay_pI, MLay_pL, MLay_qI, MLay_qL, ev_X10_boxToAsk_0, ev_X10_boxToAsk_1, ev_X10_boxToAsk_2, ev_X10_boxToAsk_3, ev_X10_boxToAsk_6, ev_X10_boxToAsk_7, ev_X10_boxToAsk_8, ev_X10_boxToAsk_9, ev_X10_boxToAsk_10, ev_X10_boxToAsk_13, ev_X10_boxToAsk_14, ev_X10_boxToAsk_17, ev_X10_boxToAsk_18, xt_X10_boxToAsk, xf_X10_boxToAsk, us_Jx4a65c_size_8abf5, us_X10_countHaving, us_J9_max_7cf53, us_Jx4a65c_get_915e3, hk]
    try simp (disch := omega) only [wI_id, dv_nn, rm_nn]
    repeat' (first | intro z | apply And.intro)
    all_goals try omega
    all_goals try contradiction
    all_goals exact h
