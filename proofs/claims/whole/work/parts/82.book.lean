/-! the class: what the book knows; letters -/

/-- the reference: a later word is of an alarm that is over, and not of an earlier day -/
def WI (τ : Hp) : Prop := ∀ w, 0 ≤ w → w < fI τ 1380 61 → (0 ≤ aI τ 117 w ∧ aI τ 117 w < fI τ 1371 61) ∧ ¬ aI τ 112 (aI τ 117 w) = 0 ∧ aI τ 114 (aI τ 117 w) ≤ aI τ 119 w
theorem mKn_no {τ : Hp} (h : WI τ) {a d : Int} (hn : aI τ 112 a = 0 ∨ d < aI τ 114 a) : ∀ n : Nat, (n : Int) ≤ fI τ 1380 61 → mKn τ a d n = 2
  | 0, _ => by
    unfold mKn
    rcases hn with z | z
    · rw [if_pos z]
    · split
      · rfl
      · rw [if_neg (by omega)]
  | n + 1, hw => by
    unfold mKn
    have h2 := h n (by omega) (by omega)
    rw [if_neg, mKn_no h hn n (by omega)]
    rintro ⟨rfl, z⟩
    rcases hn with y | y
    · exact h2.2.1 y
    · omega
theorem mKn_yes {τ : Hp} (hI : MI τ) {a d : Int} (hn : ¬ aI τ 112 a = 0) (hd : aI τ 114 a ≤ d) : ∀ n : Nat, 0 ≤ mKn τ a d n ∧ mKn τ a d n ≤ 1
  | 0 => by
    unfold mKn
    rw [if_neg hn, if_pos hd]
    split <;> omega
  | n + 1 => by
    unfold mKn
    split
    · split <;> omega
    · exact mKn_yes hI hn hd n
theorem AL.le {σ τ : Hp} (h : AL σ τ) : ∃ ci, LOk σ 28 ci := ⟨0, h.1⟩
noncomputable def cKnw (τ : Hp) (a d : Int) : Int := if (0 ≤ a ∧ a < fI τ 1371 61) ∧ aI τ 110 a ≤ d then mKn τ a d (fI τ 1380 61).toNat else -1
theorem cKnw_in (τ : Hp) (a d : Int) : -1 ≤ cKnw τ a d ∧ cKnw τ a d ≤ 2 := by
  unfold cKnw
  split
  · have := mKn_in τ a d (fI τ 1380 61).toNat
    omega
  · omega

def sp_X1_wordOn : Sp := fun av σ Q => oR av fun this av => oI av fun a av => oI av fun d av => av = [] ∧ kd σ this = 2 ∧ (this = 27 ∧ CLay σ ∧ inR a ∧ inR d ∧ ∃ τ, AL σ τ ∧ MI τ ∧ WI τ ∧ Q (some (vi (cKnw τ a d))) σ)
theorem us_X1_wordOn (this : Int) (a : Int) (d : Int) (σ : Hp) (Q : Option AV → Hp → Prop) : sp_X1_wordOn [vr this, vi a, vi d] σ Q = (kd σ this = 2 ∧ (this = 27 ∧ CLay σ ∧ inR a ∧ inR d ∧ ∃ τ, AL σ τ ∧ MI τ ∧ WI τ ∧ Q (some (vi (cKnw τ a d))) σ)) := propext ⟨fun h => h.2, fun h => ⟨rfl, h⟩⟩
theorem el_X1_wordOn {av : List AV} {σ : Hp} {Q : Option AV → Hp → Prop} (h : sp_X1_wordOn av σ Q) : ∃ (this : Int) (a : Int) (d : Int), av = [vr this, vi a, vi d] ∧ (kd σ this = 2 ∧ (this = 27 ∧ CLay σ ∧ inR a ∧ inR d ∧ ∃ τ, AL σ τ ∧ MI τ ∧ WI τ ∧ Q (some (vi (cKnw τ a d))) σ)) := by
  obtain ⟨this, a0, rfl, h0⟩ := oR_s h
  obtain ⟨a, a1, rfl, h1⟩ := oI_s h0
  obtain ⟨d, a2, rfl, h2⟩ := oI_s h1
  obtain ⟨rfl, hz⟩ := h2
  exact ⟨this, a, d, rfl, hz⟩
theorem rc_X1_wordOn : ∀ (av : List AV) (σ : Hp) (Q : Option AV → Hp → Prop), sp_X1_wordOn av σ Q → ∃ r tl, av = vr r :: tl ∧ kd σ r = 1 + 1 := fun av σ Q h => by
  obtain ⟨this, a, d, rfl, hz, -⟩ := el_X1_wordOn h
  exact ⟨this, _, rfl, hz⟩

def tb_X1_wordOn : Tab := [(0, .aload_n 0, 1, (0, 0, 0, 0)), (1, .iload_n 1, 1, (0, 0, 0, 0)), (2, .invokevirtual 47, 3, (0, 0, 0, 0)), (5, .astore_n 3, 1, (0, 0, 0, 0)), (6, .aload_n 3, 1, (0, 0, 0, 0)), (7, .ifnull 11, 3, (0, 0, 0, 0)), (10, .aload_n 3, 1, (0, 0, 0, 0)), (11, .getfield 51, 3, (1, 101, 0, 0)), (14, .iload_n 2, 1, (0, 0, 0, 0)), (15, .if_icmp .le 5, 3, (0, 0, 0, 0)), (18, .iconst (-1), 1, (0, 0, 0, 0)), (19, .ireturn, 1, (0, 0, 0, 0)), (20, .aload_n 3, 1, (0, 0, 0, 0)), (21, .getfield 43, 3, (1, 105, 0, 0)), (24, .ifCond .eq 11, 3, (0, 0, 0, 0)), (27, .aload_n 3, 1, (0, 0, 0, 0)), (28, .getfield 54, 3, (1, 107, 0, 0)), (31, .iload_n 2, 1, (0, 0, 0, 0)), (32, .if_icmp .le 5, 3, (0, 0, 0, 0)), (35, .iconst 2, 1, (0, 0, 0, 0)), (36, .ireturn, 1, (0, 0, 0, 0)), (37, .aload_n 3, 1, (0, 0, 0, 0)), (38, .getfield 57, 3, (1, 106, 0, 0)), (41, .istore 4, 2, (0, 0, 0, 0)), (43, .iconst 0, 1, (0, 0, 0, 0)), (44, .istore 5, 2, (0, 0, 0, 0)), (46, .iload 5, 2, (0, 0, 0, 0)), (48, .aload_n 0, 1, (0, 0, 0, 0)), (49, .getfield 29, 3, (2, 204, 0, 0)), (52, .if_icmp .ge 70, 3, (0, 0, 0, 0)), (55, .iload 5, 2, (0, 0, 0, 0)), (57, .aload_n 0, 1, (0, 0, 0, 0)), (58, .getfield 18, 3, (2, 201, 2, 0)), (61, .arraylength, 1, (0, 0, 0, 0)), (62, .if_icmp .ge 60, 3, (0, 0, 0, 0)), (65, .iload 5, 2, (0, 0, 0, 0)), (67, .aload_n 0, 1, (0, 0, 0, 0)), (68, .getfield 22, 3, (2, 202, 2, 0)), (71, .arraylength, 1, (0, 0, 0, 0)), (72, .if_icmp .ge 50, 3, (0, 0, 0, 0)), (75, .iload 5, 2, (0, 0, 0, 0)), (77, .aload_n 0, 1, (0, 0, 0, 0)), (78, .getfield 25, 3, (2, 203, 2, 0)), (81, .arraylength, 1, (0, 0, 0, 0)), (82, .if_icmp .ge 40, 3, (0, 0, 0, 0)), (85, .aload_n 0, 1, (0, 0, 0, 0)), (86, .getfield 18, 3, (2, 201, 2, 0)), (89, .iload 5, 2, (0, 0, 0, 0)), (91, .iaload, 1, (0, 0, 0, 0)), (92, .iload_n 1, 1, (0, 0, 0, 0)), (93, .if_icmp .ne 23, 3, (0, 0, 0, 0)), (96, .aload_n 0, 1, (0, 0, 0, 0)), (97, .getfield 22, 3, (2, 202, 2, 0)), (100, .iload 5, 2, (0, 0, 0, 0)), (102, .iaload, 1, (0, 0, 0, 0)), (103, .iload_n 2, 1, (0, 0, 0, 0)), (104, .if_icmp .gt 12, 3, (0, 0, 0, 0)), (107, .aload_n 0, 1, (0, 0, 0, 0)), (108, .getfield 25, 3, (2, 203, 2, 0)), (111, .iload 5, 2, (0, 0, 0, 0)), (113, .baload, 1, (0, 0, 0, 0)), (114, .istore 4, 2, (0, 0, 0, 0)), (116, .iinc 5 1, 3, (0, 0, 0, 0)), (119, .goto (-73), 3, (0, 0, 0, 0)), (122, .iload 4, 2, (0, 0, 0, 0)), (124, .ifCond .eq 7, 3, (0, 0, 0, 0)), (127, .iconst 1, 1, (0, 0, 0, 0)), (128, .goto 4, 3, (0, 0, 0, 0)), (131, .iconst 0, 1, (0, 0, 0, 0)), (132, .ireturn, 1, (0, 0, 0, 0))]
set_option maxRecDepth 100000 in
theorem tk_X1_wordOn : TOK RX1 false cX1_wordOn tb_X1_wordOn := chkT_ok ft_X1 (by decide +kernel)
theorem rw_X1_376 : Row RX1 (.invokevirtual 47) 3 2 0 0 4 sp_X1_alarmOf := row_V (n := 1) (ci := 1) c_X1_alarmOf ⟨TBL_in 1202 (by decide +kernel) rfl, TBL_in 1205 (by decide +kernel) rfl, TBL_in 121 (by decide +kernel) rfl, by decide +kernel, by decide⟩ (by decide) rfl (TBL_in 1203 (by decide +kernel) rfl) (TBL_in 1204 (by decide +kernel) rfl) rc_X1_alarmOf
def mt_X1_wordOn : List (Nat × Mt) := [(376, 2, 0, 0, 4, sp_X1_alarmOf)]
theorem em_X1_wordOn : mt_X1_wordOn.lookup 376 = some (2, 0, 0, 4, sp_X1_alarmOf) := rfl
theorem mk_X1_wordOn : MOK RX1 mt_X1_wordOn := by
  intro q hq
  simp only [mt_X1_wordOn, List.mem_cons, List.not_mem_nil, or_false] at hq
  rcases hq with rfl
  · exact rw_X1_376
noncomputable def xe_X1_wordOn (ct : Nat → Bool) (K : Kt) (R : Option AV → Hp → Prop) (n : Nat) : Kt := exS 6 5 0 0 1 tb_X1_wordOn mt_X1_wordOn ct K R n
noncomputable def xk_X1_wordOn (ct : Nat → Bool) (K : Kt) (R : Option AV → Hp → Prop) (n : Nat) : Kt := exkS 6 5 0 0 1 tb_X1_wordOn mt_X1_wordOn ct K R n
theorem xt_X1_wordOn {ct : Nat → Bool} {K : Kt} {R : Option AV → Hp → Prop} {n pc : Nat} {ls : List (Option AV)} {st : List AV} {σ : Hp} {k : Nat × Nat} (h : ct pc = true) : xk_X1_wordOn ct K R n pc ls st σ k = K pc ls st σ k := by unfold xk_X1_wordOn exkS; rw [h]
theorem xf_X1_wordOn {ct : Nat → Bool} {K : Kt} {R : Option AV → Hp → Prop} {n pc : Nat} {ls : List (Option AV)} {st : List AV} {σ : Hp} {k : Nat × Nat} (h : ct pc = false) : xk_X1_wordOn ct K R n pc ls st σ k = xe_X1_wordOn ct K R n pc ls st σ k := by unfold xk_X1_wordOn exkS xe_X1_wordOn; rw [h]
theorem ev_X1_wordOn_0 {ct : Nat → Bool} {K : Kt} {R : Option AV → Hp → Prop} {n : Nat} {ls : List (Option AV)} {st : List AV} {σ : Hp} {k : Nat × Nat} : xe_X1_wordOn ct K R (n + 1) 0 ls st σ k = (lR ls 0 fun x => xk_X1_wordOn ct K R n 1 ls (vr x :: st) σ k) := exS_step.trans rfl
theorem ev_X1_wordOn_1 {ct : Nat → Bool} {K : Kt} {R : Option AV → Hp → Prop} {n : Nat} {ls : List (Option AV)} {st : List AV} {σ : Hp} {k : Nat × Nat} : xe_X1_wordOn ct K R (n + 1) 1 ls st σ k = (lI ls 1 fun x => xk_X1_wordOn ct K R n 2 ls (vi x :: st) σ k) := exS_step.trans rfl
theorem ev_X1_wordOn_2 {ct : Nat → Bool} {K : Kt} {R : Option AV → Hp → Prop} {n : Nat} {ls : List (Option AV)} {st : List AV} {σ : Hp} {k : Nat × Nat} : xe_X1_wordOn ct K R (n + 1) 2 ls st σ k = (popN 2 st [] fun av rest => (catS rest ≤ 8 ∧ 4 < 5 ∧ k.1 + 0 ≤ 0 ∧ k.2 + 0 ≤ 0) ∧ (sp_X1_alarmOf) av σ fun v σ' => xk_X1_wordOn ct K R n 5 ls (v.toList ++ rest) σ' (k.1 + 0, k.2 + 0)) := exS_step.trans rfl
theorem ev_X1_wordOn_5 {ct : Nat → Bool} {K : Kt} {R : Option AV → Hp → Prop} {n : Nat} {ls : List (Option AV)} {st : List AV} {σ : Hp} {k : Nat × Nat} : xe_X1_wordOn ct K R (n + 1) 5 ls st σ k = (oR st fun x st => 3 < 6 ∧ xk_X1_wordOn ct K R n 6 (stL ls 3 (vr x)) st σ k) := exS_step.trans rfl
theorem ev_X1_wordOn_6 {ct : Nat → Bool} {K : Kt} {R : Option AV → Hp → Prop} {n : Nat} {ls : List (Option AV)} {st : List AV} {σ : Hp} {k : Nat × Nat} : xe_X1_wordOn ct K R (n + 1) 6 ls st σ k = (lR ls 3 fun x => xk_X1_wordOn ct K R n 7 ls (vr x :: st) σ k) := exS_step.trans rfl
theorem ev_X1_wordOn_7 {ct : Nat → Bool} {K : Kt} {R : Option AV → Hp → Prop} {n : Nat} {ls : List (Option AV)} {st : List AV} {σ : Hp} {k : Nat × Nat} : xe_X1_wordOn ct K R (n + 1) 7 ls st σ k = (oR st fun x st => (x = 0 → xk_X1_wordOn ct K R n 18 ls st σ k) ∧ (¬ x = 0 → xk_X1_wordOn ct K R n 10 ls st σ k)) := exS_step.trans rfl
theorem ev_X1_wordOn_10 {ct : Nat → Bool} {K : Kt} {R : Option AV → Hp → Prop} {n : Nat} {ls : List (Option AV)} {st : List AV} {σ : Hp} {k : Nat × Nat} : xe_X1_wordOn ct K R (n + 1) 10 ls st σ k = (lR ls 3 fun x => xk_X1_wordOn ct K R n 11 ls (vr x :: st) σ k) := exS_step.trans rfl
theorem ev_X1_wordOn_11 {ct : Nat → Bool} {K : Kt} {R : Option AV → Hp → Prop} {n : Nat} {ls : List (Option AV)} {st : List AV} {σ : Hp} {k : Nat × Nat} : xe_X1_wordOn ct K R (n + 1) 11 ls st σ k = (oR st fun x st => kd σ x = 1 ∧ xk_X1_wordOn ct K R n 14 ls (vi (fI σ 101 x) :: st) σ k) := exS_step.trans rfl
theorem ev_X1_wordOn_14 {ct : Nat → Bool} {K : Kt} {R : Option AV → Hp → Prop} {n : Nat} {ls : List (Option AV)} {st : List AV} {σ : Hp} {k : Nat × Nat} : xe_X1_wordOn ct K R (n + 1) 14 ls st σ k = (lI ls 2 fun x => xk_X1_wordOn ct K R n 15 ls (vi x :: st) σ k) := exS_step.trans rfl
theorem ev_X1_wordOn_15 {ct : Nat → Bool} {K : Kt} {R : Option AV → Hp → Prop} {n : Nat} {ls : List (Option AV)} {st : List AV} {σ : Hp} {k : Nat × Nat} : xe_X1_wordOn ct K R (n + 1) 15 ls st σ k = (oI st fun y st => oI st fun x st => (wI x ≤ wI y → xk_X1_wordOn ct K R n 20 ls st σ k) ∧ (¬ (wI x ≤ wI y) → xk_X1_wordOn ct K R n 18 ls st σ k)) := exS_step.trans rfl
theorem ev_X1_wordOn_18 {ct : Nat → Bool} {K : Kt} {R : Option AV → Hp → Prop} {n : Nat} {ls : List (Option AV)} {st : List AV} {σ : Hp} {k : Nat × Nat} : xe_X1_wordOn ct K R (n + 1) 18 ls st σ k = (xk_X1_wordOn ct K R n 19 ls (vi (-1) :: st) σ k) := exS_step.trans rfl
theorem ev_X1_wordOn_19 {ct : Nat → Bool} {K : Kt} {R : Option AV → Hp → Prop} {n : Nat} {ls : List (Option AV)} {st : List AV} {σ : Hp} {k : Nat × Nat} : xe_X1_wordOn ct K R (n + 1) 19 ls st σ k = (oI st fun x st => st = [] ∧ True ∧ R (some (vi x)) σ) := exS_step.trans rfl
theorem ev_X1_wordOn_20 {ct : Nat → Bool} {K : Kt} {R : Option AV → Hp → Prop} {n : Nat} {ls : List (Option AV)} {st : List AV} {σ : Hp} {k : Nat × Nat} : xe_X1_wordOn ct K R (n + 1) 20 ls st σ k = (lR ls 3 fun x => xk_X1_wordOn ct K R n 21 ls (vr x :: st) σ k) := exS_step.trans rfl
theorem ev_X1_wordOn_21 {ct : Nat → Bool} {K : Kt} {R : Option AV → Hp → Prop} {n : Nat} {ls : List (Option AV)} {st : List AV} {σ : Hp} {k : Nat × Nat} : xe_X1_wordOn ct K R (n + 1) 21 ls st σ k = (oR st fun x st => kd σ x = 1 ∧ xk_X1_wordOn ct K R n 24 ls (vi (fI σ 105 x) :: st) σ k) := exS_step.trans rfl
theorem ev_X1_wordOn_24 {ct : Nat → Bool} {K : Kt} {R : Option AV → Hp → Prop} {n : Nat} {ls : List (Option AV)} {st : List AV} {σ : Hp} {k : Nat × Nat} : xe_X1_wordOn ct K R (n + 1) 24 ls st σ k = (oI st fun x st => (wI x = wI 0 → xk_X1_wordOn ct K R n 35 ls st σ k) ∧ (¬ (wI x = wI 0) → xk_X1_wordOn ct K R n 27 ls st σ k)) := exS_step.trans rfl
theorem ev_X1_wordOn_27 {ct : Nat → Bool} {K : Kt} {R : Option AV → Hp → Prop} {n : Nat} {ls : List (Option AV)} {st : List AV} {σ : Hp} {k : Nat × Nat} : xe_X1_wordOn ct K R (n + 1) 27 ls st σ k = (lR ls 3 fun x => xk_X1_wordOn ct K R n 28 ls (vr x :: st) σ k) := exS_step.trans rfl
theorem ev_X1_wordOn_28 {ct : Nat → Bool} {K : Kt} {R : Option AV → Hp → Prop} {n : Nat} {ls : List (Option AV)} {st : List AV} {σ : Hp} {k : Nat × Nat} : xe_X1_wordOn ct K R (n + 1) 28 ls st σ k = (oR st fun x st => kd σ x = 1 ∧ xk_X1_wordOn ct K R n 31 ls (vi (fI σ 107 x) :: st) σ k) := exS_step.trans rfl
theorem ev_X1_wordOn_31 {ct : Nat → Bool} {K : Kt} {R : Option AV → Hp → Prop} {n : Nat} {ls : List (Option AV)} {st : List AV} {σ : Hp} {k : Nat × Nat} : xe_X1_wordOn ct K R (n + 1) 31 ls st σ k = (lI ls 2 fun x => xk_X1_wordOn ct K R n 32 ls (vi x :: st) σ k) := exS_step.trans rfl
theorem ev_X1_wordOn_32 {ct : Nat → Bool} {K : Kt} {R : Option AV → Hp → Prop} {n : Nat} {ls : List (Option AV)} {st : List AV} {σ : Hp} {k : Nat × Nat} : xe_X1_wordOn ct K R (n + 1) 32 ls st σ k = (oI st fun y st => oI st fun x st => (wI x ≤ wI y → xk_X1_wordOn ct K R n 37 ls st σ k) ∧ (¬ (wI x ≤ wI y) → xk_X1_wordOn ct K R n 35 ls st σ k)) := exS_step.trans rfl
theorem ev_X1_wordOn_35 {ct : Nat → Bool} {K : Kt} {R : Option AV → Hp → Prop} {n : Nat} {ls : List (Option AV)} {st : List AV} {σ : Hp} {k : Nat × Nat} : xe_X1_wordOn ct K R (n + 1) 35 ls st σ k = (xk_X1_wordOn ct K R n 36 ls (vi (2) :: st) σ k) := exS_step.trans rfl
theorem ev_X1_wordOn_36 {ct : Nat → Bool} {K : Kt} {R : Option AV → Hp → Prop} {n : Nat} {ls : List (Option AV)} {st : List AV} {σ : Hp} {k : Nat × Nat} : xe_X1_wordOn ct K R (n + 1) 36 ls st σ k = (oI st fun x st => st = [] ∧ True ∧ R (some (vi x)) σ) := exS_step.trans rfl
theorem ev_X1_wordOn_37 {ct : Nat → Bool} {K : Kt} {R : Option AV → Hp → Prop} {n : Nat} {ls : List (Option AV)} {st : List AV} {σ : Hp} {k : Nat × Nat} : xe_X1_wordOn ct K R (n + 1) 37 ls st σ k = (lR ls 3 fun x => xk_X1_wordOn ct K R n 38 ls (vr x :: st) σ k) := exS_step.trans rfl
theorem ev_X1_wordOn_38 {ct : Nat → Bool} {K : Kt} {R : Option AV → Hp → Prop} {n : Nat} {ls : List (Option AV)} {st : List AV} {σ : Hp} {k : Nat × Nat} : xe_X1_wordOn ct K R (n + 1) 38 ls st σ k = (oR st fun x st => kd σ x = 1 ∧ xk_X1_wordOn ct K R n 41 ls (vi (fI σ 106 x) :: st) σ k) := exS_step.trans rfl
theorem ev_X1_wordOn_41 {ct : Nat → Bool} {K : Kt} {R : Option AV → Hp → Prop} {n : Nat} {ls : List (Option AV)} {st : List AV} {σ : Hp} {k : Nat × Nat} : xe_X1_wordOn ct K R (n + 1) 41 ls st σ k = (oI st fun x st => 4 < 6 ∧ xk_X1_wordOn ct K R n 43 (stL ls 4 (vi x)) st σ k) := exS_step.trans rfl
theorem ev_X1_wordOn_43 {ct : Nat → Bool} {K : Kt} {R : Option AV → Hp → Prop} {n : Nat} {ls : List (Option AV)} {st : List AV} {σ : Hp} {k : Nat × Nat} : xe_X1_wordOn ct K R (n + 1) 43 ls st σ k = (xk_X1_wordOn ct K R n 44 ls (vi (0) :: st) σ k) := exS_step.trans rfl
theorem ev_X1_wordOn_44 {ct : Nat → Bool} {K : Kt} {R : Option AV → Hp → Prop} {n : Nat} {ls : List (Option AV)} {st : List AV} {σ : Hp} {k : Nat × Nat} : xe_X1_wordOn ct K R (n + 1) 44 ls st σ k = (oI st fun x st => 5 < 6 ∧ xk_X1_wordOn ct K R n 46 (stL ls 5 (vi x)) st σ k) := exS_step.trans rfl
theorem ev_X1_wordOn_46 {ct : Nat → Bool} {K : Kt} {R : Option AV → Hp → Prop} {n : Nat} {ls : List (Option AV)} {st : List AV} {σ : Hp} {k : Nat × Nat} : xe_X1_wordOn ct K R (n + 1) 46 ls st σ k = (lI ls 5 fun x => xk_X1_wordOn ct K R n 48 ls (vi x :: st) σ k) := exS_step.trans rfl
theorem ev_X1_wordOn_48 {ct : Nat → Bool} {K : Kt} {R : Option AV → Hp → Prop} {n : Nat} {ls : List (Option AV)} {st : List AV} {σ : Hp} {k : Nat × Nat} : xe_X1_wordOn ct K R (n + 1) 48 ls st σ k = (lR ls 0 fun x => xk_X1_wordOn ct K R n 49 ls (vr x :: st) σ k) := exS_step.trans rfl
theorem ev_X1_wordOn_49 {ct : Nat → Bool} {K : Kt} {R : Option AV → Hp → Prop} {n : Nat} {ls : List (Option AV)} {st : List AV} {σ : Hp} {k : Nat × Nat} : xe_X1_wordOn ct K R (n + 1) 49 ls st σ k = (oR st fun x st => kd σ x = 2 ∧ xk_X1_wordOn ct K R n 52 ls (vi (fI σ 204 x) :: st) σ k) := exS_step.trans rfl
theorem ev_X1_wordOn_52 {ct : Nat → Bool} {K : Kt} {R : Option AV → Hp → Prop} {n : Nat} {ls : List (Option AV)} {st : List AV} {σ : Hp} {k : Nat × Nat} : xe_X1_wordOn ct K R (n + 1) 52 ls st σ k = (oI st fun y st => oI st fun x st => (wI y ≤ wI x → xk_X1_wordOn ct K R n 122 ls st σ k) ∧ (¬ (wI y ≤ wI x) → xk_X1_wordOn ct K R n 55 ls st σ k)) := exS_step.trans rfl
theorem ev_X1_wordOn_55 {ct : Nat → Bool} {K : Kt} {R : Option AV → Hp → Prop} {n : Nat} {ls : List (Option AV)} {st : List AV} {σ : Hp} {k : Nat × Nat} : xe_X1_wordOn ct K R (n + 1) 55 ls st σ k = (lI ls 5 fun x => xk_X1_wordOn ct K R n 57 ls (vi x :: st) σ k) := exS_step.trans rfl
theorem ev_X1_wordOn_57 {ct : Nat → Bool} {K : Kt} {R : Option AV → Hp → Prop} {n : Nat} {ls : List (Option AV)} {st : List AV} {σ : Hp} {k : Nat × Nat} : xe_X1_wordOn ct K R (n + 1) 57 ls st σ k = (lR ls 0 fun x => xk_X1_wordOn ct K R n 58 ls (vr x :: st) σ k) := exS_step.trans rfl
theorem ev_X1_wordOn_58 {ct : Nat → Bool} {K : Kt} {R : Option AV → Hp → Prop} {n : Nat} {ls : List (Option AV)} {st : List AV} {σ : Hp} {k : Nat × Nat} : xe_X1_wordOn ct K R (n + 1) 58 ls st σ k = (oR st fun x st => kd σ x = 2 ∧ xk_X1_wordOn ct K R n 61 ls (vr (fR σ 201 x) :: st) σ k) := exS_step.trans rfl
theorem ev_X1_wordOn_61 {ct : Nat → Bool} {K : Kt} {R : Option AV → Hp → Prop} {n : Nat} {ls : List (Option AV)} {st : List AV} {σ : Hp} {k : Nat × Nat} : xe_X1_wordOn ct K R (n + 1) 61 ls st σ k = (oR st fun x st => (101 ≤ kd σ x ∨ kd σ x = 21) ∧ xk_X1_wordOn ct K R n 62 ls (vi (ln σ x) :: st) σ k) := exS_step.trans rfl
theorem ev_X1_wordOn_62 {ct : Nat → Bool} {K : Kt} {R : Option AV → Hp → Prop} {n : Nat} {ls : List (Option AV)} {st : List AV} {σ : Hp} {k : Nat × Nat} : xe_X1_wordOn ct K R (n + 1) 62 ls st σ k = (oI st fun y st => oI st fun x st => (wI y ≤ wI x → xk_X1_wordOn ct K R n 122 ls st σ k) ∧ (¬ (wI y ≤ wI x) → xk_X1_wordOn ct K R n 65 ls st σ k)) := exS_step.trans rfl
theorem ev_X1_wordOn_65 {ct : Nat → Bool} {K : Kt} {R : Option AV → Hp → Prop} {n : Nat} {ls : List (Option AV)} {st : List AV} {σ : Hp} {k : Nat × Nat} : xe_X1_wordOn ct K R (n + 1) 65 ls st σ k = (lI ls 5 fun x => xk_X1_wordOn ct K R n 67 ls (vi x :: st) σ k) := exS_step.trans rfl
theorem ev_X1_wordOn_67 {ct : Nat → Bool} {K : Kt} {R : Option AV → Hp → Prop} {n : Nat} {ls : List (Option AV)} {st : List AV} {σ : Hp} {k : Nat × Nat} : xe_X1_wordOn ct K R (n + 1) 67 ls st σ k = (lR ls 0 fun x => xk_X1_wordOn ct K R n 68 ls (vr x :: st) σ k) := exS_step.trans rfl
theorem ev_X1_wordOn_68 {ct : Nat → Bool} {K : Kt} {R : Option AV → Hp → Prop} {n : Nat} {ls : List (Option AV)} {st : List AV} {σ : Hp} {k : Nat × Nat} : xe_X1_wordOn ct K R (n + 1) 68 ls st σ k = (oR st fun x st => kd σ x = 2 ∧ xk_X1_wordOn ct K R n 71 ls (vr (fR σ 202 x) :: st) σ k) := exS_step.trans rfl
theorem ev_X1_wordOn_71 {ct : Nat → Bool} {K : Kt} {R : Option AV → Hp → Prop} {n : Nat} {ls : List (Option AV)} {st : List AV} {σ : Hp} {k : Nat × Nat} : xe_X1_wordOn ct K R (n + 1) 71 ls st σ k = (oR st fun x st => (101 ≤ kd σ x ∨ kd σ x = 21) ∧ xk_X1_wordOn ct K R n 72 ls (vi (ln σ x) :: st) σ k) := exS_step.trans rfl
theorem ev_X1_wordOn_72 {ct : Nat → Bool} {K : Kt} {R : Option AV → Hp → Prop} {n : Nat} {ls : List (Option AV)} {st : List AV} {σ : Hp} {k : Nat × Nat} : xe_X1_wordOn ct K R (n + 1) 72 ls st σ k = (oI st fun y st => oI st fun x st => (wI y ≤ wI x → xk_X1_wordOn ct K R n 122 ls st σ k) ∧ (¬ (wI y ≤ wI x) → xk_X1_wordOn ct K R n 75 ls st σ k)) := exS_step.trans rfl
theorem ev_X1_wordOn_75 {ct : Nat → Bool} {K : Kt} {R : Option AV → Hp → Prop} {n : Nat} {ls : List (Option AV)} {st : List AV} {σ : Hp} {k : Nat × Nat} : xe_X1_wordOn ct K R (n + 1) 75 ls st σ k = (lI ls 5 fun x => xk_X1_wordOn ct K R n 77 ls (vi x :: st) σ k) := exS_step.trans rfl
theorem ev_X1_wordOn_77 {ct : Nat → Bool} {K : Kt} {R : Option AV → Hp → Prop} {n : Nat} {ls : List (Option AV)} {st : List AV} {σ : Hp} {k : Nat × Nat} : xe_X1_wordOn ct K R (n + 1) 77 ls st σ k = (lR ls 0 fun x => xk_X1_wordOn ct K R n 78 ls (vr x :: st) σ k) := exS_step.trans rfl
theorem ev_X1_wordOn_78 {ct : Nat → Bool} {K : Kt} {R : Option AV → Hp → Prop} {n : Nat} {ls : List (Option AV)} {st : List AV} {σ : Hp} {k : Nat × Nat} : xe_X1_wordOn ct K R (n + 1) 78 ls st σ k = (oR st fun x st => kd σ x = 2 ∧ xk_X1_wordOn ct K R n 81 ls (vr (fR σ 203 x) :: st) σ k) := exS_step.trans rfl
theorem ev_X1_wordOn_81 {ct : Nat → Bool} {K : Kt} {R : Option AV → Hp → Prop} {n : Nat} {ls : List (Option AV)} {st : List AV} {σ : Hp} {k : Nat × Nat} : xe_X1_wordOn ct K R (n + 1) 81 ls st σ k = (oR st fun x st => (101 ≤ kd σ x ∨ kd σ x = 21) ∧ xk_X1_wordOn ct K R n 82 ls (vi (ln σ x) :: st) σ k) := exS_step.trans rfl
theorem ev_X1_wordOn_82 {ct : Nat → Bool} {K : Kt} {R : Option AV → Hp → Prop} {n : Nat} {ls : List (Option AV)} {st : List AV} {σ : Hp} {k : Nat × Nat} : xe_X1_wordOn ct K R (n + 1) 82 ls st σ k = (oI st fun y st => oI st fun x st => (wI y ≤ wI x → xk_X1_wordOn ct K R n 122 ls st σ k) ∧ (¬ (wI y ≤ wI x) → xk_X1_wordOn ct K R n 85 ls st σ k)) := exS_step.trans rfl
theorem ev_X1_wordOn_85 {ct : Nat → Bool} {K : Kt} {R : Option AV → Hp → Prop} {n : Nat} {ls : List (Option AV)} {st : List AV} {σ : Hp} {k : Nat × Nat} : xe_X1_wordOn ct K R (n + 1) 85 ls st σ k = (lR ls 0 fun x => xk_X1_wordOn ct K R n 86 ls (vr x :: st) σ k) := exS_step.trans rfl
theorem ev_X1_wordOn_86 {ct : Nat → Bool} {K : Kt} {R : Option AV → Hp → Prop} {n : Nat} {ls : List (Option AV)} {st : List AV} {σ : Hp} {k : Nat × Nat} : xe_X1_wordOn ct K R (n + 1) 86 ls st σ k = (oR st fun x st => kd σ x = 2 ∧ xk_X1_wordOn ct K R n 89 ls (vr (fR σ 201 x) :: st) σ k) := exS_step.trans rfl
theorem ev_X1_wordOn_89 {ct : Nat → Bool} {K : Kt} {R : Option AV → Hp → Prop} {n : Nat} {ls : List (Option AV)} {st : List AV} {σ : Hp} {k : Nat × Nat} : xe_X1_wordOn ct K R (n + 1) 89 ls st σ k = (lI ls 5 fun x => xk_X1_wordOn ct K R n 91 ls (vi x :: st) σ k) := exS_step.trans rfl
theorem ev_X1_wordOn_91 {ct : Nat → Bool} {K : Kt} {R : Option AV → Hp → Prop} {n : Nat} {ls : List (Option AV)} {st : List AV} {σ : Hp} {k : Nat × Nat} : xe_X1_wordOn ct K R (n + 1) 91 ls st σ k = (oI st fun j st => oR st fun x st => (kd σ x = 101 ∨ kd σ x = 108) ∧ (0 ≤ j ∧ j < ln σ x) ∧ xk_X1_wordOn ct K R n 92 ls (vi (aI σ x j) :: st) σ k) := exS_step.trans rfl
theorem ev_X1_wordOn_92 {ct : Nat → Bool} {K : Kt} {R : Option AV → Hp → Prop} {n : Nat} {ls : List (Option AV)} {st : List AV} {σ : Hp} {k : Nat × Nat} : xe_X1_wordOn ct K R (n + 1) 92 ls st σ k = (lI ls 1 fun x => xk_X1_wordOn ct K R n 93 ls (vi x :: st) σ k) := exS_step.trans rfl
theorem ev_X1_wordOn_93 {ct : Nat → Bool} {K : Kt} {R : Option AV → Hp → Prop} {n : Nat} {ls : List (Option AV)} {st : List AV} {σ : Hp} {k : Nat × Nat} : xe_X1_wordOn ct K R (n + 1) 93 ls st σ k = (oI st fun y st => oI st fun x st => (¬ wI x = wI y → xk_X1_wordOn ct K R n 116 ls st σ k) ∧ (¬ (¬ wI x = wI y) → xk_X1_wordOn ct K R n 96 ls st σ k)) := exS_step.trans rfl
theorem ev_X1_wordOn_96 {ct : Nat → Bool} {K : Kt} {R : Option AV → Hp → Prop} {n : Nat} {ls : List (Option AV)} {st : List AV} {σ : Hp} {k : Nat × Nat} : xe_X1_wordOn ct K R (n + 1) 96 ls st σ k = (lR ls 0 fun x => xk_X1_wordOn ct K R n 97 ls (vr x :: st) σ k) := exS_step.trans rfl
theorem ev_X1_wordOn_97 {ct : Nat → Bool} {K : Kt} {R : Option AV → Hp → Prop} {n : Nat} {ls : List (Option AV)} {st : List AV} {σ : Hp} {k : Nat × Nat} : xe_X1_wordOn ct K R (n + 1) 97 ls st σ k = (oR st fun x st => kd σ x = 2 ∧ xk_X1_wordOn ct K R n 100 ls (vr (fR σ 202 x) :: st) σ k) := exS_step.trans rfl
theorem ev_X1_wordOn_100 {ct : Nat → Bool} {K : Kt} {R : Option AV → Hp → Prop} {n : Nat} {ls : List (Option AV)} {st : List AV} {σ : Hp} {k : Nat × Nat} : xe_X1_wordOn ct K R (n + 1) 100 ls st σ k = (lI ls 5 fun x => xk_X1_wordOn ct K R n 102 ls (vi x :: st) σ k) := exS_step.trans rfl
theorem ev_X1_wordOn_102 {ct : Nat → Bool} {K : Kt} {R : Option AV → Hp → Prop} {n : Nat} {ls : List (Option AV)} {st : List AV} {σ : Hp} {k : Nat × Nat} : xe_X1_wordOn ct K R (n + 1) 102 ls st σ k = (oI st fun j st => oR st fun x st => (kd σ x = 101 ∨ kd σ x = 108) ∧ (0 ≤ j ∧ j < ln σ x) ∧ xk_X1_wordOn ct K R n 103 ls (vi (aI σ x j) :: st) σ k) := exS_step.trans rfl
theorem ev_X1_wordOn_103 {ct : Nat → Bool} {K : Kt} {R : Option AV → Hp → Prop} {n : Nat} {ls : List (Option AV)} {st : List AV} {σ : Hp} {k : Nat × Nat} : xe_X1_wordOn ct K R (n + 1) 103 ls st σ k = (lI ls 2 fun x => xk_X1_wordOn ct K R n 104 ls (vi x :: st) σ k) := exS_step.trans rfl
theorem ev_X1_wordOn_104 {ct : Nat → Bool} {K : Kt} {R : Option AV → Hp → Prop} {n : Nat} {ls : List (Option AV)} {st : List AV} {σ : Hp} {k : Nat × Nat} : xe_X1_wordOn ct K R (n + 1) 104 ls st σ k = (oI st fun y st => oI st fun x st => (wI y < wI x → xk_X1_wordOn ct K R n 116 ls st σ k) ∧ (¬ (wI y < wI x) → xk_X1_wordOn ct K R n 107 ls st σ k)) := exS_step.trans rfl
theorem ev_X1_wordOn_107 {ct : Nat → Bool} {K : Kt} {R : Option AV → Hp → Prop} {n : Nat} {ls : List (Option AV)} {st : List AV} {σ : Hp} {k : Nat × Nat} : xe_X1_wordOn ct K R (n + 1) 107 ls st σ k = (lR ls 0 fun x => xk_X1_wordOn ct K R n 108 ls (vr x :: st) σ k) := exS_step.trans rfl
theorem ev_X1_wordOn_108 {ct : Nat → Bool} {K : Kt} {R : Option AV → Hp → Prop} {n : Nat} {ls : List (Option AV)} {st : List AV} {σ : Hp} {k : Nat × Nat} : xe_X1_wordOn ct K R (n + 1) 108 ls st σ k = (oR st fun x st => kd σ x = 2 ∧ xk_X1_wordOn ct K R n 111 ls (vr (fR σ 203 x) :: st) σ k) := exS_step.trans rfl
theorem ev_X1_wordOn_111 {ct : Nat → Bool} {K : Kt} {R : Option AV → Hp → Prop} {n : Nat} {ls : List (Option AV)} {st : List AV} {σ : Hp} {k : Nat × Nat} : xe_X1_wordOn ct K R (n + 1) 111 ls st σ k = (lI ls 5 fun x => xk_X1_wordOn ct K R n 113 ls (vi x :: st) σ k) := exS_step.trans rfl
theorem ev_X1_wordOn_113 {ct : Nat → Bool} {K : Kt} {R : Option AV → Hp → Prop} {n : Nat} {ls : List (Option AV)} {st : List AV} {σ : Hp} {k : Nat × Nat} : xe_X1_wordOn ct K R (n + 1) 113 ls st σ k = (oI st fun j st => oR st fun x st => (kd σ x = 103 ∨ kd σ x = 21) ∧ (0 ≤ j ∧ j < ln σ x) ∧ xk_X1_wordOn ct K R n 114 ls (vi (aI σ x j) :: st) σ k) := exS_step.trans rfl
theorem ev_X1_wordOn_114 {ct : Nat → Bool} {K : Kt} {R : Option AV → Hp → Prop} {n : Nat} {ls : List (Option AV)} {st : List AV} {σ : Hp} {k : Nat × Nat} : xe_X1_wordOn ct K R (n + 1) 114 ls st σ k = (oI st fun x st => 4 < 6 ∧ xk_X1_wordOn ct K R n 116 (stL ls 4 (vi x)) st σ k) := exS_step.trans rfl
theorem ev_X1_wordOn_116 {ct : Nat → Bool} {K : Kt} {R : Option AV → Hp → Prop} {n : Nat} {ls : List (Option AV)} {st : List AV} {σ : Hp} {k : Nat × Nat} : xe_X1_wordOn ct K R (n + 1) 116 ls st σ k = (lI ls 5 fun x => 5 < 6 ∧ xk_X1_wordOn ct K R n 119 (stL ls 5 (vi (x + (1)))) st σ k) := exS_step.trans rfl
theorem ev_X1_wordOn_119 {ct : Nat → Bool} {K : Kt} {R : Option AV → Hp → Prop} {n : Nat} {ls : List (Option AV)} {st : List AV} {σ : Hp} {k : Nat × Nat} : xe_X1_wordOn ct K R (n + 1) 119 ls st σ k = (xk_X1_wordOn ct K R n 46 ls st σ k) := exS_step.trans rfl
theorem ev_X1_wordOn_122 {ct : Nat → Bool} {K : Kt} {R : Option AV → Hp → Prop} {n : Nat} {ls : List (Option AV)} {st : List AV} {σ : Hp} {k : Nat × Nat} : xe_X1_wordOn ct K R (n + 1) 122 ls st σ k = (lI ls 4 fun x => xk_X1_wordOn ct K R n 124 ls (vi x :: st) σ k) := exS_step.trans rfl
theorem ev_X1_wordOn_124 {ct : Nat → Bool} {K : Kt} {R : Option AV → Hp → Prop} {n : Nat} {ls : List (Option AV)} {st : List AV} {σ : Hp} {k : Nat × Nat} : xe_X1_wordOn ct K R (n + 1) 124 ls st σ k = (oI st fun x st => (wI x = wI 0 → xk_X1_wordOn ct K R n 131 ls st σ k) ∧ (¬ (wI x = wI 0) → xk_X1_wordOn ct K R n 127 ls st σ k)) := exS_step.trans rfl
theorem ev_X1_wordOn_127 {ct : Nat → Bool} {K : Kt} {R : Option AV → Hp → Prop} {n : Nat} {ls : List (Option AV)} {st : List AV} {σ : Hp} {k : Nat × Nat} : xe_X1_wordOn ct K R (n + 1) 127 ls st σ k = (xk_X1_wordOn ct K R n 128 ls (vi (1) :: st) σ k) := exS_step.trans rfl
theorem ev_X1_wordOn_128 {ct : Nat → Bool} {K : Kt} {R : Option AV → Hp → Prop} {n : Nat} {ls : List (Option AV)} {st : List AV} {σ : Hp} {k : Nat × Nat} : xe_X1_wordOn ct K R (n + 1) 128 ls st σ k = (xk_X1_wordOn ct K R n 132 ls st σ k) := exS_step.trans rfl
theorem ev_X1_wordOn_131 {ct : Nat → Bool} {K : Kt} {R : Option AV → Hp → Prop} {n : Nat} {ls : List (Option AV)} {st : List AV} {σ : Hp} {k : Nat × Nat} : xe_X1_wordOn ct K R (n + 1) 131 ls st σ k = (xk_X1_wordOn ct K R n 132 ls (vi (0) :: st) σ k) := exS_step.trans rfl
theorem ev_X1_wordOn_132 {ct : Nat → Bool} {K : Kt} {R : Option AV → Hp → Prop} {n : Nat} {ls : List (Option AV)} {st : List AV} {σ : Hp} {k : Nat × Nat} : xe_X1_wordOn ct K R (n + 1) 132 ls st σ k = (oI st fun x st => st = [] ∧ True ∧ R (some (vi x)) σ) := exS_step.trans rfl
def M_X1_wordOn : Md := (yX1_wordOn, cX1_wordOn, 6, (some FieldType.int), 5, 0, 0, 1, false, tb_X1_wordOn, mt_X1_wordOn)
theorem mm_X1_wordOn : MMOK M_X1_wordOn := ⟨by decide +kernel, tk_X1_wordOn, mk_X1_wordOn, rfl, fun h => by cases h⟩
theorem go_X1_wordOn {Q : Option AV → Hp → Prop} {ct : Nat → Bool} {pc : Nat} {ls : List (Option AV)} {st : List AV} {σ : Hp} {k : Nat × Nat} (n : Nat) (h : xe_X1_wordOn ct (Go M_X1_wordOn Q) Q n pc ls st σ k) : Go M_X1_wordOn Q pc ls st σ k := Go.exS mm_X1_wordOn h

set_option maxRecDepth 20000 in
theorem c_X1_wordOn : Ct yX1_wordOn cX1_wordOn 6 ((some FieldType.int)) 5 0 0 sp_X1_wordOn := by
  refine Ct.go (M := M_X1_wordOn) mm_X1_wordOn fun av σ Q h0 => ?_
  obtain ⟨this, a, d, rfl, hk, h⟩ := el_X1_wordOn h0
  clear h0
  refine ⟨Nat.le_of_ble_eq_true rfl, ?_⟩
  show Go M_X1_wordOn Q 0 [some (vr this), some (vi a), some (vi d), none, none, none] [] σ (0, 0)
  obtain ⟨rfl, hC, hra, hrd, τ, hA, hI, hW, h⟩ := h
  have hra' := hra
  have hrd' := hrd
  unfold inR at hra' hrd'
  have hL := hA.1
  have hsz := hA.2.1
  have hs := hI.alarms_s
  have hws := hI.words_s
  have hwn := hA.2.2.2.2.2
  unfold cKnw at h
  by_cases c : 0 ≤ a ∧ a < fI τ 1371 61
  · have e := hA.2.2.1 a c.1 c.2
    obtain ⟨e0, -, e1, -, -, -, -, -, -, e2, e3, e4⟩ := e
    have ea : (if 0 ≤ a ∧ a < fI τ 1371 61 then lat σ 28 a else 0) = lat σ 28 a := if_pos c
    have hka : kd σ (lat σ 28 a) = 1 := hL.2.2.2.2.2 a c.1 (by omega)
    have hp0 : ¬ lat σ 28 a = 0 := by omega
    have r1 := hI.alarmDay_ a
    have r2 := hI.isOver_ a
    have r3 := hI.overTrue_ a
    have r4 := hI.overDay_ a
    by_cases cd : aI τ 110 a ≤ d
    · rw [if_pos ⟨c, cd⟩] at h
      by_cases cn : aI τ 112 a = 0 ∨ d < aI τ 114 a
      · rw [mKn_no hW cn _ (by omega)] at h
        clear hW hA
        refine go_X1_wordOn (ct := fun p => p == 37 || p == 18) 60 ?_
        simp only [oI, oL, oR, o1, lI, lL, lR, popN, catS, gv, stL, stL2, swt, cnd, spObj, List.getElem?_cons_zero, List.getElem?_cons_succ, List.getD_cons_zero, List.getD_cons_succ, List.set_cons_zero, List.set_cons_succ, List.nil_append, List.cons_append, Option.toList, Bool.or_false, Bool.false_or, Bool.or_true, Bool.true_or, Nat.reduceBEq, Nat.reduceAdd, Nat.reduceLT, Nat.reduceLeDiff, Int.reduceAdd, Int.reduceToNat, true_and, and_true, Fin.isValue, Fin.val_zero, Fin.val_one, Fin.val_two, Fin.reduceFinMk, eq_self, Int.reduceNeg, imp_self, Nat.reduceMul, Nat.le_refl, not_true_eq_false, not_false_eq_true, List.getElem?_nil, reduceCtorEq, true_or, or_true, Classical.not_not, implies_true, or_self, wI_0, wI_1, wI_m1, b2i_w, b2i_eq0, b2i_eq1, b2i_bool, nor_self, nx_pI, kd_pI, ln_pI, fI_pI, fL_pI, fR_pI, aI_pI, aL_pI, aR_pI, nx_pL, kd_pL, ln_pL, fI_pL, fL_pL, fR_pL, aI_pL, aL_pL, aR_pL, nx_pR, kd_pR, ln_pR, fI_pR, fL_pR, fR_pR, aI_pR, aL_pR, aR_pR, nx_qI, kd_qI, ln_qI, fI_qI, fL_qI, fR_qI, aI_qI, aL_qI, aR_qI, nx_qL, kd_qL, ln_qL, fI_qL, fL_qL, fR_qL, aI_qL, aL_qL, aR_qL, nx_qR, kd_qR, ln_qR, fI_qR, fL_qR, fR_qR, aI_qR, aL_qR, aR_qR, nx_mk, kd_mk, ln_mk, fI_mk, fL_mk, fR_mk, aI_mk, aL_mk, aR_mk, false_and, and_false, if_false, if_true, and_self, Int.reduceEq, Nat.reduceEqDiff, ite_self, MLay_pI, MLay_pL, MLay_qI, MLay_qL, ev_X1_wordOn_0, ev_X1_wordOn_1, ev_X1_wordOn_2, ev_X1_wordOn_5, ev_X1_wordOn_6, ev_X1_wordOn_7, ev_X1_wordOn_10, ev_X1_wordOn_11, ev_X1_wordOn_14, ev_X1_wordOn_15, ev_X1_wordOn_18, ev_X1_wordOn_19, ev_X1_wordOn_20, ev_X1_wordOn_21, ev_X1_wordOn_24, ev_X1_wordOn_27, ev_X1_wordOn_28, ev_X1_wordOn_31, ev_X1_wordOn_32, ev_X1_wordOn_35, ev_X1_wordOn_36, xt_X1_wordOn, xf_X1_wordOn, us_X1_alarmOf, hC.eqs, hC, hL, hra, hsz, ea, hka, hp0, e1, e2, e4]
        try simp (disch := omega) only [wI_id, dv_nn, rm_nn]
        repeat' (first | intro z | apply And.intro)
        all_goals try omega
        all_goals try contradiction
        all_goals exact h
      · have hy := mKn_yes hI (a := a) (d := d) (by omega) (by omega)
        have loop : ∀ (m k : Nat), (k : Int) + m = fI τ 1380 61 → Go M_X1_wordOn Q 46 [some (vr 27), some (vi a), some (vi d), some (vr (lat σ 28 a)), some (vi (mKn τ a d k)), some (vi k)] [] σ (0, 0) := by
          intro m
          induction m with
          | zero =>
            intro k hk2
            have ek : (fI τ 1380 61).toNat = k := by omega
            rw [ek] at h
            have hy := hy k
            by_cases v : mKn τ a d k = 0
            · rw [v] at h ⊢
              clear hy hW hA
              refine go_X1_wordOn (ct := fun p => p == 55) 40 ?_
              simp only [oI, oL, oR, o1, lI, lL, lR, popN, catS, gv, stL, stL2, swt, cnd, spObj, List.getElem?_cons_zero, List.getElem?_cons_succ, List.getD_cons_zero, List.getD_cons_succ, List.set_cons_zero, List.set_cons_succ, List.nil_append, List.cons_append, Option.toList, Bool.or_false, Bool.false_or, Bool.or_true, Bool.true_or, Nat.reduceBEq, Nat.reduceAdd, Nat.reduceLT, Nat.reduceLeDiff, Int.reduceAdd, Int.reduceToNat, true_and, and_true, Fin.isValue, Fin.val_zero, Fin.val_one, Fin.val_two, Fin.reduceFinMk, eq_self, Int.reduceNeg, imp_self, Nat.reduceMul, Nat.le_refl, not_true_eq_false, not_false_eq_true, List.getElem?_nil, reduceCtorEq, true_or, or_true, Classical.not_not, implies_true, or_self, wI_0, wI_1, wI_m1, b2i_w, b2i_eq0, b2i_eq1, b2i_bool, nor_self, nx_pI, kd_pI, ln_pI, fI_pI, fL_pI, fR_pI, aI_pI, aL_pI, aR_pI, nx_pL, kd_pL, ln_pL, fI_pL, fL_pL, fR_pL, aI_pL, aL_pL, aR_pL, nx_pR, kd_pR, ln_pR, fI_pR, fL_pR, fR_pR, aI_pR, aL_pR, aR_pR, nx_qI, kd_qI, ln_qI, fI_qI, fL_qI, fR_qI, aI_qI, aL_qI, aR_qI, nx_qL, kd_qL, ln_qL, fI_qL, fL_qL, fR_qL, aI_qL, aL_qL, aR_qL, nx_qR, kd_qR, ln_qR, fI_qR, fL_qR, fR_qR, aI_qR, aL_qR, aR_qR, nx_mk, kd_mk, ln_mk, fI_mk, fL_mk, fR_mk, aI_mk, aL_mk, aR_mk, false_and, and_false, if_false, if_true, and_self, Int.reduceEq, Nat.reduceEqDiff, ite_self, MLay_pI, MLay_pL, MLay_qI, MLay_qL, ev_X1_wordOn_46, ev_X1_wordOn_48, ev_X1_wordOn_49, ev_X1_wordOn_52, ev_X1_wordOn_122, ev_X1_wordOn_124, ev_X1_wordOn_127, ev_X1_wordOn_128, ev_X1_wordOn_131, ev_X1_wordOn_132, xt_X1_wordOn, xf_X1_wordOn, us_X1_alarmOf, hC.eqs, hwn]
              try simp (disch := omega) only [wI_id, dv_nn, rm_nn]
              repeat' (first | intro z | apply And.intro)
              all_goals try omega
              all_goals try contradiction
              all_goals exact h
            · have v1 : mKn τ a d k = 1 := by omega
              rw [v1] at h ⊢
              clear hy hW hA
              refine go_X1_wordOn (ct := fun p => p == 55) 40 ?_
              simp only [oI, oL, oR, o1, lI, lL, lR, popN, catS, gv, stL, stL2, swt, cnd, spObj, List.getElem?_cons_zero, List.getElem?_cons_succ, List.getD_cons_zero, List.getD_cons_succ, List.set_cons_zero, List.set_cons_succ, List.nil_append, List.cons_append, Option.toList, Bool.or_false, Bool.false_or, Bool.or_true, Bool.true_or, Nat.reduceBEq, Nat.reduceAdd, Nat.reduceLT, Nat.reduceLeDiff, Int.reduceAdd, Int.reduceToNat, true_and, and_true, Fin.isValue, Fin.val_zero, Fin.val_one, Fin.val_two, Fin.reduceFinMk, eq_self, Int.reduceNeg, imp_self, Nat.reduceMul, Nat.le_refl, not_true_eq_false, not_false_eq_true, List.getElem?_nil, reduceCtorEq, true_or, or_true, Classical.not_not, implies_true, or_self, wI_0, wI_1, wI_m1, b2i_w, b2i_eq0, b2i_eq1, b2i_bool, nor_self, nx_pI, kd_pI, ln_pI, fI_pI, fL_pI, fR_pI, aI_pI, aL_pI, aR_pI, nx_pL, kd_pL, ln_pL, fI_pL, fL_pL, fR_pL, aI_pL, aL_pL, aR_pL, nx_pR, kd_pR, ln_pR, fI_pR, fL_pR, fR_pR, aI_pR, aL_pR, aR_pR, nx_qI, kd_qI, ln_qI, fI_qI, fL_qI, fR_qI, aI_qI, aL_qI, aR_qI, nx_qL, kd_qL, ln_qL, fI_qL, fL_qL, fR_qL, aI_qL, aL_qL, aR_qL, nx_qR, kd_qR, ln_qR, fI_qR, fL_qR, fR_qR, aI_qR, aL_qR, aR_qR, nx_mk, kd_mk, ln_mk, fI_mk, fL_mk, fR_mk, aI_mk, aL_mk, aR_mk, false_and, and_false, if_false, if_true, and_self, Int.reduceEq, Nat.reduceEqDiff, ite_self, MLay_pI, MLay_pL, MLay_qI, MLay_qL, ev_X1_wordOn_46, ev_X1_wordOn_48, ev_X1_wordOn_49, ev_X1_wordOn_52, ev_X1_wordOn_122, ev_X1_wordOn_124, ev_X1_wordOn_127, ev_X1_wordOn_128, ev_X1_wordOn_131, ev_X1_wordOn_132, xt_X1_wordOn, xf_X1_wordOn, us_X1_alarmOf, hC.eqs, hwn]
              try simp (disch := omega) only [wI_id, dv_nn, rm_nn]
              repeat' (first | intro z | apply And.intro)
              all_goals try omega
              all_goals try contradiction
              all_goals exact h
          | succ m ih =>
            intro k hk2
            have w := ih (k + 1) (by omega)
            have g := hA.2.2.2.2.1 k
            have q1 := hI.wordAlarm_ k
            have q2 := hI.wordDay_ k
            have q3 := hI.wordTrue_ k
            simp only [mKn] at w
            have hy := hy k
            generalize mKn τ a d k = v at *
            have w116 : ∀ v, (if aI τ 117 k = a ∧ aI τ 119 k ≤ d then (if aI τ 118 k = 0 then 0 else 1) else mKn τ a d k) = v → True := fun _ _ => trivial
            clear w116 ih h hW
            obtain ⟨g1, g2, g3⟩ := g
            generalize aI τ 117 k = x1 at *
            generalize aI τ 119 k = x2 at *
            generalize aI τ 118 k = x3 at *
            by_cases y1 : x1 = a ∧ x2 ≤ d
            · have e9 : (if x1 = a ∧ x2 ≤ d then (if x3 = 0 then 0 else 1) else v) = x3 := by
                rw [if_pos y1]; split <;> omega
              rw [e9] at w
              clear e9 hA
              refine go_X1_wordOn (ct := fun p => p == 122 || p == 46) 60 ?_
              simp only [oI, oL, oR, o1, lI, lL, lR, popN, catS, gv, stL, stL2, swt, cnd, spObj, List.getElem?_cons_zero, List.getElem?_cons_succ, List.getD_cons_zero, List.getD_cons_succ, List.set_cons_zero, List.set_cons_succ, List.nil_append, List.cons_append, Option.toList, Bool.or_false, Bool.false_or, Bool.or_true, Bool.true_or, Nat.reduceBEq, Nat.reduceAdd, Nat.reduceLT, Nat.reduceLeDiff, Int.reduceAdd, Int.reduceToNat, true_and, and_true, Fin.isValue, Fin.val_zero, Fin.val_one, Fin.val_two, Fin.reduceFinMk, eq_self, Int.reduceNeg, imp_self, Nat.reduceMul, Nat.le_refl, not_true_eq_false, not_false_eq_true, List.getElem?_nil, reduceCtorEq, true_or, or_true, Classical.not_not, implies_true, or_self, wI_0, wI_1, wI_m1, b2i_w, b2i_eq0, b2i_eq1, b2i_bool, nor_self, nx_pI, kd_pI, ln_pI, fI_pI, fL_pI, fR_pI, aI_pI, aL_pI, aR_pI, nx_pL, kd_pL, ln_pL, fI_pL, fL_pL, fR_pL, aI_pL, aL_pL, aR_pL, nx_pR, kd_pR, ln_pR, fI_pR, fL_pR, fR_pR, aI_pR, aL_pR, aR_pR, nx_qI, kd_qI, ln_qI, fI_qI, fL_qI, fR_qI, aI_qI, aL_qI, aR_qI, nx_qL, kd_qL, ln_qL, fI_qL, fL_qL, fR_qL, aI_qL, aL_qL, aR_qL, nx_qR, kd_qR, ln_qR, fI_qR, fL_qR, fR_qR, aI_qR, aL_qR, aR_qR, nx_mk, kd_mk, ln_mk, fI_mk, fL_mk, fR_mk, aI_mk, aL_mk, aR_mk, false_and, and_false, if_false, if_true, and_self, Int.reduceEq, Nat.reduceEqDiff, ite_self, MLay_pI, MLay_pL, MLay_qI, MLay_qL, ev_X1_wordOn_46, ev_X1_wordOn_48, ev_X1_wordOn_49, ev_X1_wordOn_52, ev_X1_wordOn_55, ev_X1_wordOn_57, ev_X1_wordOn_58, ev_X1_wordOn_61, ev_X1_wordOn_62, ev_X1_wordOn_65, ev_X1_wordOn_67, ev_X1_wordOn_68, ev_X1_wordOn_71, ev_X1_wordOn_72, ev_X1_wordOn_75, ev_X1_wordOn_77, ev_X1_wordOn_78, ev_X1_wordOn_81, ev_X1_wordOn_82, ev_X1_wordOn_85, ev_X1_wordOn_86, ev_X1_wordOn_89, ev_X1_wordOn_91, ev_X1_wordOn_92, ev_X1_wordOn_93, ev_X1_wordOn_96, ev_X1_wordOn_97, ev_X1_wordOn_100, ev_X1_wordOn_102, ev_X1_wordOn_103, ev_X1_wordOn_104, ev_X1_wordOn_107, ev_X1_wordOn_108, ev_X1_wordOn_111, ev_X1_wordOn_113, ev_X1_wordOn_114, ev_X1_wordOn_116, ev_X1_wordOn_119, xt_X1_wordOn, xf_X1_wordOn, us_X1_alarmOf, hC.eqs, hwn, g1, g2, g3]
              try simp (disch := omega) only [wI_id, dv_nn, rm_nn]
              repeat' (first | intro z | apply And.intro)
              all_goals try omega
              all_goals try contradiction
              all_goals exact w
            · have e9 : (if x1 = a ∧ x2 ≤ d then (if x3 = 0 then 0 else 1) else v) = v := if_neg y1
              rw [e9] at w
              clear e9 hA
              refine go_X1_wordOn (ct := fun p => p == 122 || p == 46 || p == 107) 60 ?_
              simp only [oI, oL, oR, o1, lI, lL, lR, popN, catS, gv, stL, stL2, swt, cnd, spObj, List.getElem?_cons_zero, List.getElem?_cons_succ, List.getD_cons_zero, List.getD_cons_succ, List.set_cons_zero, List.set_cons_succ, List.nil_append, List.cons_append, Option.toList, Bool.or_false, Bool.false_or, Bool.or_true, Bool.true_or, Nat.reduceBEq, Nat.reduceAdd, Nat.reduceLT, Nat.reduceLeDiff, Int.reduceAdd, Int.reduceToNat, true_and, and_true, Fin.isValue, Fin.val_zero, Fin.val_one, Fin.val_two, Fin.reduceFinMk, eq_self, Int.reduceNeg, imp_self, Nat.reduceMul, Nat.le_refl, not_true_eq_false, not_false_eq_true, List.getElem?_nil, reduceCtorEq, true_or, or_true, Classical.not_not, implies_true, or_self, wI_0, wI_1, wI_m1, b2i_w, b2i_eq0, b2i_eq1, b2i_bool, nor_self, nx_pI, kd_pI, ln_pI, fI_pI, fL_pI, fR_pI, aI_pI, aL_pI, aR_pI, nx_pL, kd_pL, ln_pL, fI_pL, fL_pL, fR_pL, aI_pL, aL_pL, aR_pL, nx_pR, kd_pR, ln_pR, fI_pR, fL_pR, fR_pR, aI_pR, aL_pR, aR_pR, nx_qI, kd_qI, ln_qI, fI_qI, fL_qI, fR_qI, aI_qI, aL_qI, aR_qI, nx_qL, kd_qL, ln_qL, fI_qL, fL_qL, fR_qL, aI_qL, aL_qL, aR_qL, nx_qR, kd_qR, ln_qR, fI_qR, fL_qR, fR_qR, aI_qR, aL_qR, aR_qR, nx_mk, kd_mk, ln_mk, fI_mk, fL_mk, fR_mk, aI_mk, aL_mk, aR_mk, false_and, and_false, if_false, if_true, and_self, Int.reduceEq, Nat.reduceEqDiff, ite_self, MLay_pI, MLay_pL, MLay_qI, MLay_qL, ev_X1_wordOn_46, ev_X1_wordOn_48, ev_X1_wordOn_49, ev_X1_wordOn_52, ev_X1_wordOn_55, ev_X1_wordOn_57, ev_X1_wordOn_58, ev_X1_wordOn_61, ev_X1_wordOn_62, ev_X1_wordOn_65, ev_X1_wordOn_67, ev_X1_wordOn_68, ev_X1_wordOn_71, ev_X1_wordOn_72, ev_X1_wordOn_75, ev_X1_wordOn_77, ev_X1_wordOn_78, ev_X1_wordOn_81, ev_X1_wordOn_82, ev_X1_wordOn_85, ev_X1_wordOn_86, ev_X1_wordOn_89, ev_X1_wordOn_91, ev_X1_wordOn_92, ev_X1_wordOn_93, ev_X1_wordOn_96, ev_X1_wordOn_97, ev_X1_wordOn_100, ev_X1_wordOn_102, ev_X1_wordOn_103, ev_X1_wordOn_104, ev_X1_wordOn_107, ev_X1_wordOn_108, ev_X1_wordOn_111, ev_X1_wordOn_113, ev_X1_wordOn_114, ev_X1_wordOn_116, ev_X1_wordOn_119, xt_X1_wordOn, xf_X1_wordOn, us_X1_alarmOf, hC.eqs, hwn, g1, g2, g3]
              try simp (disch := omega) only [wI_id, dv_nn, rm_nn]
              repeat' (first | intro z | apply And.intro)
              all_goals try omega
              all_goals try contradiction
              all_goals exact w
        have w := loop (fI τ 1380 61).toNat 0 (by omega)
        have e9 : mKn τ a d 0 = aI τ 113 a := by
          unfold mKn
          rw [if_neg (by omega), if_pos (by omega)]
          split <;> omega
        rw [e9] at w
        have w : Go M_X1_wordOn Q 46 [some (vr 27), some (vi a), some (vi d), some (vr (lat σ 28 a)), some (vi (aI τ 113 a)), some (vi 0)] [] σ (0, 0) := w
        clear loop h hW hA hy e9
        refine go_X1_wordOn (ct := fun p => p == 46 || p == 18 || p == 35) 60 ?_
        simp only [oI, oL, oR, o1, lI, lL, lR, popN, catS, gv, stL, stL2, swt, cnd, spObj, List.getElem?_cons_zero, List.getElem?_cons_succ, List.getD_cons_zero, List.getD_cons_succ, List.set_cons_zero, List.set_cons_succ, List.nil_append, List.cons_append, Option.toList, Bool.or_false, Bool.false_or, Bool.or_true, Bool.true_or, Nat.reduceBEq, Nat.reduceAdd, Nat.reduceLT, Nat.reduceLeDiff, Int.reduceAdd, Int.reduceToNat, true_and, and_true, Fin.isValue, Fin.val_zero, Fin.val_one, Fin.val_two, Fin.reduceFinMk, eq_self, Int.reduceNeg, imp_self, Nat.reduceMul, Nat.le_refl, not_true_eq_false, not_false_eq_true, List.getElem?_nil, reduceCtorEq, true_or, or_true, Classical.not_not, implies_true, or_self, wI_0, wI_1, wI_m1, b2i_w, b2i_eq0, b2i_eq1, b2i_bool, nor_self, nx_pI, kd_pI, ln_pI, fI_pI, fL_pI, fR_pI, aI_pI, aL_pI, aR_pI, nx_pL, kd_pL, ln_pL, fI_pL, fL_pL, fR_pL, aI_pL, aL_pL, aR_pL, nx_pR, kd_pR, ln_pR, fI_pR, fL_pR, fR_pR, aI_pR, aL_pR, aR_pR, nx_qI, kd_qI, ln_qI, fI_qI, fL_qI, fR_qI, aI_qI, aL_qI, aR_qI, nx_qL, kd_qL, ln_qL, fI_qL, fL_qL, fR_qL, aI_qL, aL_qL, aR_qL, nx_qR, kd_qR, ln_qR, fI_qR, fL_qR, fR_qR, aI_qR, aL_qR, aR_qR, nx_mk, kd_mk, ln_mk, fI_mk, fL_mk, fR_mk, aI_mk, aL_mk, aR_mk, false_and, and_false, if_false, if_true, and_self, Int.reduceEq, Nat.reduceEqDiff, ite_self, MLay_pI, MLay_pL, MLay_qI, MLay_qL, ev_X1_wordOn_0, ev_X1_wordOn_1, ev_X1_wordOn_2, ev_X1_wordOn_5, ev_X1_wordOn_6, ev_X1_wordOn_7, ev_X1_wordOn_10, ev_X1_wordOn_11, ev_X1_wordOn_14, ev_X1_wordOn_15, ev_X1_wordOn_18, ev_X1_wordOn_19, ev_X1_wordOn_20, ev_X1_wordOn_21, ev_X1_wordOn_24, ev_X1_wordOn_27, ev_X1_wordOn_28, ev_X1_wordOn_31, ev_X1_wordOn_32, ev_X1_wordOn_35, ev_X1_wordOn_36, ev_X1_wordOn_37, ev_X1_wordOn_38, ev_X1_wordOn_41, ev_X1_wordOn_43, ev_X1_wordOn_44, xt_X1_wordOn, xf_X1_wordOn, us_X1_alarmOf, hC.eqs, hC, hL, hra, hsz, ea, hka, hp0, e1, e2, e3, e4]
        try simp (disch := omega) only [wI_id, dv_nn, rm_nn]
        repeat' (first | intro z | apply And.intro)
        all_goals try omega
        all_goals try contradiction
        all_goals exact w
    · rw [if_neg (fun z => cd z.2)] at h
      clear hW hA
      refine go_X1_wordOn (ct := fun p => p == 20) 60 ?_
      simp only [oI, oL, oR, o1, lI, lL, lR, popN, catS, gv, stL, stL2, swt, cnd, spObj, List.getElem?_cons_zero, List.getElem?_cons_succ, List.getD_cons_zero, List.getD_cons_succ, List.set_cons_zero, List.set_cons_succ, List.nil_append, List.cons_append, Option.toList, Bool.or_false, Bool.false_or, Bool.or_true, Bool.true_or, Nat.reduceBEq, Nat.reduceAdd, Nat.reduceLT, Nat.reduceLeDiff, Int.reduceAdd, Int.reduceToNat, true_and, and_true, Fin.isValue, Fin.val_zero, Fin.val_one, Fin.val_two, Fin.reduceFinMk, eq_self, Int.reduceNeg, imp_self, Nat.reduceMul, Nat.le_refl, not_true_eq_false, not_false_eq_true, List.getElem?_nil, reduceCtorEq, true_or, or_true, Classical.not_not, implies_true, or_self, wI_0, wI_1, wI_m1, b2i_w, b2i_eq0, b2i_eq1, b2i_bool, nor_self, nx_pI, kd_pI, ln_pI, fI_pI, fL_pI, fR_pI, aI_pI, aL_pI, aR_pI, nx_pL, kd_pL, ln_pL, fI_pL, fL_pL, fR_pL, aI_pL, aL_pL, aR_pL, nx_pR, kd_pR, ln_pR, fI_pR, fL_pR, fR_pR, aI_pR, aL_pR, aR_pR, nx_qI, kd_qI, ln_qI, fI_qI, fL_qI, fR_qI, aI_qI, aL_qI, aR_qI, nx_qL, kd_qL, ln_qL, fI_qL, fL_qL, fR_qL, aI_qL, aL_qL, aR_qL, nx_qR, kd_qR, ln_qR, fI_qR, fL_qR, fR_qR, aI_qR, aL_qR, aR_qR, nx_mk, kd_mk, ln_mk, fI_mk, fL_mk, fR_mk, aI_mk, aL_mk, aR_mk, false_and, and_false, if_false, if_true, and_self, Int.reduceEq, Nat.reduceEqDiff, ite_self, MLay_pI, MLay_pL, MLay_qI, MLay_qL, ev_X1_wordOn_0, ev_X1_wordOn_1, ev_X1_wordOn_2, ev_X1_wordOn_5, ev_X1_wordOn_6, ev_X1_wordOn_7, ev_X1_wordOn_10, ev_X1_wordOn_11, ev_X1_wordOn_14, ev_X1_wordOn_15, ev_X1_wordOn_18, ev_X1_wordOn_19, xt_X1_wordOn, xf_X1_wordOn, us_X1_alarmOf, hC.eqs, hC, hL, hra, hsz, ea, hka, hp0, e1, e2, e4]
      try simp (disch := omega) only [wI_id, dv_nn, rm_nn]
      repeat' (first | intro z | apply And.intro)
      all_goals try omega
      all_goals try contradiction
      all_goals exact h
  · rw [if_neg (fun z => c z.1)] at h
    have ea : (if 0 ≤ a ∧ a < fI τ 1371 61 then lat σ 28 a else 0) = 0 := if_neg c
    clear hW hA
    refine go_X1_wordOn (ct := fun p => p == 10) 60 ?_
    simp only [oI, oL, oR, o1, lI, lL, lR, popN, catS, gv, stL, stL2, swt, cnd, spObj, List.getElem?_cons_zero, List.getElem?_cons_succ, List.getD_cons_zero, List.getD_cons_succ, List.set_cons_zero, List.set_cons_succ, List.nil_append, List.cons_append, Option.toList, Bool.or_false, Bool.false_or, Bool.or_true, Bool.true_or, Nat.reduceBEq, Nat.reduceAdd, Nat.reduceLT, Nat.reduceLeDiff, Int.reduceAdd, Int.reduceToNat, true_and, and_true, Fin.isValue, Fin.val_zero, Fin.val_one, Fin.val_two, Fin.reduceFinMk, eq_self, Int.reduceNeg, imp_self, Nat.reduceMul, Nat.le_refl, not_true_eq_false, not_false_eq_true, List.getElem?_nil, reduceCtorEq, true_or, or_true, Classical.not_not, implies_true, or_self, wI_0, wI_1, wI_m1, b2i_w, b2i_eq0, b2i_eq1, b2i_bool, nor_self, nx_pI, kd_pI, ln_pI, fI_pI, fL_pI, fR_pI, aI_pI, aL_pI, aR_pI, nx_pL, kd_pL, ln_pL, fI_pL, fL_pL, fR_pL, aI_pL, aL_pL, aR_pL, nx_pR, kd_pR, ln_pR, fI_pR, fL_pR, fR_pR, aI_pR, aL_pR, aR_pR, nx_qI, kd_qI, ln_qI, fI_qI, fL_qI, fR_qI, aI_qI, aL_qI, aR_qI, nx_qL, kd_qL, ln_qL, fI_qL, fL_qL, fR_qL, aI_qL, aL_qL, aR_qL, nx_qR, kd_qR, ln_qR, fI_qR, fL_qR, fR_qR, aI_qR, aL_qR, aR_qR, nx_mk, kd_mk, ln_mk, fI_mk, fL_mk, fR_mk, aI_mk, aL_mk, aR_mk, false_and, and_false, if_false, if_true, and_self, Int.reduceEq, Nat.reduceEqDiff, ite_self, MLay_pI, MLay_pL, MLay_qI, MLay_qL, ev_X1_wordOn_0, ev_X1_wordOn_1, ev_X1_wordOn_2, ev_X1_wordOn_5, ev_X1_wordOn_6, ev_X1_wordOn_7, ev_X1_wordOn_10, ev_X1_wordOn_11, ev_X1_wordOn_14, ev_X1_wordOn_15, ev_X1_wordOn_18, ev_X1_wordOn_19, xt_X1_wordOn, xf_X1_wordOn, us_X1_alarmOf, hC.eqs, hC, hL, hra, hsz, ea]
    repeat' (first | intro z | apply And.intro)
    all_goals try omega
    all_goals try contradiction
    all_goals exact h

/-- the reference: an alarm's box is one that is -/
def AB (τ : Hp) : Prop := ∀ a, 0 ≤ a → a < fI τ 1371 61 → aI τ 109 a < fI τ 1302 61
theorem BX.inj {σ τ : Hp} (h : BX σ τ) {i j : Int} (hi : 0 ≤ i ∧ i < fI τ 1302 61) (hj : 0 ≤ j ∧ j < fI τ 1302 61) (e : lat σ 3 i = lat σ 3 j) : i = j := by
  have h1 := (h.2.2 i hi.1 hi.2).2.2.2.1
  have h2 := (h.2.2 j hj.1 hj.2).2.2.2.1
  rw [e] at h1
  omega
theorem hwM_s (P : Int → Prop) (n : Nat) : hwM P (n + 1) = hwM P n + b2i (P n) := rfl

def sp_X1_rateOn : Sp := fun av σ Q => oR av fun this av => oR av fun p av => oI av fun d av => av = [] ∧ kd σ this = 2 ∧ (this = 27 ∧ CLay σ ∧ inR d ∧ ∃ τ b, AL σ τ ∧ BX σ τ ∧ MI τ ∧ WI τ ∧ AB τ ∧ (0 ≤ b ∧ b < fI τ 1302 61) ∧ p = lat σ 3 b ∧ Q (some (vi (mRate τ b d))) σ)
theorem us_X1_rateOn (this : Int) (p : Int) (d : Int) (σ : Hp) (Q : Option AV → Hp → Prop) : sp_X1_rateOn [vr this, vr p, vi d] σ Q = (kd σ this = 2 ∧ (this = 27 ∧ CLay σ ∧ inR d ∧ ∃ τ b, AL σ τ ∧ BX σ τ ∧ MI τ ∧ WI τ ∧ AB τ ∧ (0 ≤ b ∧ b < fI τ 1302 61) ∧ p = lat σ 3 b ∧ Q (some (vi (mRate τ b d))) σ)) := propext ⟨fun h => h.2, fun h => ⟨rfl, h⟩⟩
theorem el_X1_rateOn {av : List AV} {σ : Hp} {Q : Option AV → Hp → Prop} (h : sp_X1_rateOn av σ Q) : ∃ (this : Int) (p : Int) (d : Int), av = [vr this, vr p, vi d] ∧ (kd σ this = 2 ∧ (this = 27 ∧ CLay σ ∧ inR d ∧ ∃ τ b, AL σ τ ∧ BX σ τ ∧ MI τ ∧ WI τ ∧ AB τ ∧ (0 ≤ b ∧ b < fI τ 1302 61) ∧ p = lat σ 3 b ∧ Q (some (vi (mRate τ b d))) σ)) := by
  obtain ⟨this, a0, rfl, h0⟩ := oR_s h
  obtain ⟨p, a1, rfl, h1⟩ := oR_s h0
  obtain ⟨d, a2, rfl, h2⟩ := oI_s h1
  obtain ⟨rfl, hz⟩ := h2
  exact ⟨this, p, d, rfl, hz⟩
theorem rc_X1_rateOn : ∀ (av : List AV) (σ : Hp) (Q : Option AV → Hp → Prop), sp_X1_rateOn av σ Q → ∃ r tl, av = vr r :: tl ∧ kd σ r = 1 + 1 := fun av σ Q h => by
  obtain ⟨this, p, d, rfl, hz, -⟩ := el_X1_rateOn h
  exact ⟨this, _, rfl, hz⟩

def tb_X1_rateOn : Tab := [(0, .iconst 0, 1, (0, 0, 0, 0)), (1, .istore_n 3, 1, (0, 0, 0, 0)), (2, .iconst 0, 1, (0, 0, 0, 0)), (3, .istore 4, 2, (0, 0, 0, 0)), (5, .iconst 0, 1, (0, 0, 0, 0)), (6, .istore 5, 2, (0, 0, 0, 0)), (8, .iload 5, 2, (0, 0, 0, 0)), (10, .aload_n 0, 1, (0, 0, 0, 0)), (11, .getfield 12, 3, (2, 200, 2, 0)), (14, .invokevirtual 33, 3, (0, 0, 0, 0)), (17, .if_icmp .ge 75, 3, (0, 0, 0, 0)), (20, .aload_n 0, 1, (0, 0, 0, 0)), (21, .getfield 12, 3, (2, 200, 2, 0)), (24, .iload 5, 2, (0, 0, 0, 0)), (26, .invokevirtual 37, 3, (0, 0, 0, 0)), (29, .checkcast 41, 3, (1, 0, 0, 0)), (32, .getfield 60, 3, (1, 100, 2, 0)), (35, .aload_n 1, 1, (0, 0, 0, 0)), (36, .if_acmp .ne 13, 3, (0, 0, 0, 0)), (39, .aload_n 0, 1, (0, 0, 0, 0)), (40, .iload 5, 2, (0, 0, 0, 0)), (42, .iload_n 2, 1, (0, 0, 0, 0)), (43, .invokevirtual 64, 3, (0, 0, 0, 0)), (46, .goto 4, 3, (0, 0, 0, 0)), (49, .iconst (-1), 1, (0, 0, 0, 0)), (50, .istore 6, 2, (0, 0, 0, 0)), (52, .iload_n 3, 1, (0, 0, 0, 0)), (53, .iload 6, 2, (0, 0, 0, 0)), (55, .ifCond .ne 7, 3, (0, 0, 0, 0)), (58, .iconst 1, 1, (0, 0, 0, 0)), (59, .goto 4, 3, (0, 0, 0, 0)), (62, .iconst 0, 1, (0, 0, 0, 0)), (63, .iadd, 1, (0, 0, 0, 0)), (64, .istore_n 3, 1, (0, 0, 0, 0)), (65, .iload 4, 2, (0, 0, 0, 0)), (67, .iload 6, 2, (0, 0, 0, 0)), (69, .ifCond .eq 9, 3, (0, 0, 0, 0)), (72, .iload 6, 2, (0, 0, 0, 0)), (74, .iconst 1, 1, (0, 0, 0, 0)), (75, .if_icmp .ne 7, 3, (0, 0, 0, 0)), (78, .iconst 1, 1, (0, 0, 0, 0)), (79, .goto 4, 3, (0, 0, 0, 0)), (82, .iconst 0, 1, (0, 0, 0, 0)), (83, .iadd, 1, (0, 0, 0, 0)), (84, .istore 4, 2, (0, 0, 0, 0)), (86, .iinc 5 1, 3, (0, 0, 0, 0)), (89, .goto (-81), 3, (0, 0, 0, 0)), (92, .iload 4, 2, (0, 0, 0, 0)), (94, .iconst 2, 1, (0, 0, 0, 0)), (95, .iadd, 1, (0, 0, 0, 0)), (96, .istore 5, 2, (0, 0, 0, 0)), (98, .iload 5, 2, (0, 0, 0, 0)), (100, .ifCond .le 16, 3, (0, 0, 0, 0)), (103, .sipush 1000, 3, (0, 0, 0, 0)), (106, .iload_n 3, 1, (0, 0, 0, 0)), (107, .iconst 1, 1, (0, 0, 0, 0)), (108, .iadd, 1, (0, 0, 0, 0)), (109, .imul, 1, (0, 0, 0, 0)), (110, .iload 5, 2, (0, 0, 0, 0)), (112, .idiv, 1, (0, 0, 0, 0)), (113, .goto 4, 3, (0, 0, 0, 0)), (116, .iconst (-1), 1, (0, 0, 0, 0)), (117, .ireturn, 1, (0, 0, 0, 0))]
set_option maxRecDepth 100000 in
theorem tk_X1_rateOn : TOK RX1 false cX1_rateOn tb_X1_rateOn := chkT_ok ft_X1 (by decide +kernel)
theorem rw_X1_512 : Row RX1 (.invokevirtual 64) 3 3 0 0 5 sp_X1_wordOn := row_V (n := 2) (ci := 1) c_X1_wordOn ⟨TBL_in 1198 (by decide +kernel) rfl, TBL_in 1201 (by decide +kernel) rfl, TBL_in 121 (by decide +kernel) rfl, by decide +kernel, by decide⟩ (by decide) rfl (TBL_in 1199 (by decide +kernel) rfl) (TBL_in 1200 (by decide +kernel) rfl) rc_X1_wordOn
def mt_X1_rateOn : List (Nat × Mt) := [(264, 1, 0, 0, 1, sp_Jx4a65c_size_8abf5), (296, 2, 0, 0, 3, sp_Jx4a65c_get_915e3), (512, 3, 0, 0, 5, sp_X1_wordOn)]
theorem em_X1_rateOn : mt_X1_rateOn.lookup 264 = some (1, 0, 0, 1, sp_Jx4a65c_size_8abf5) ∧ mt_X1_rateOn.lookup 296 = some (2, 0, 0, 3, sp_Jx4a65c_get_915e3) ∧ mt_X1_rateOn.lookup 512 = some (3, 0, 0, 5, sp_X1_wordOn) := ⟨rfl, rfl, rfl⟩
theorem mk_X1_rateOn : MOK RX1 mt_X1_rateOn := by
  intro q hq
  simp only [mt_X1_rateOn, List.mem_cons, List.not_mem_nil, or_false] at hq
  rcases hq with rfl | rfl | rfl
  · exact rw_X1_264
  · exact rw_X1_296
  · exact rw_X1_512
noncomputable def xe_X1_rateOn (ct : Nat → Bool) (K : Kt) (R : Option AV → Hp → Prop) (n : Nat) : Kt := exS 7 6 0 0 1 tb_X1_rateOn mt_X1_rateOn ct K R n
noncomputable def xk_X1_rateOn (ct : Nat → Bool) (K : Kt) (R : Option AV → Hp → Prop) (n : Nat) : Kt := exkS 7 6 0 0 1 tb_X1_rateOn mt_X1_rateOn ct K R n
theorem xt_X1_rateOn {ct : Nat → Bool} {K : Kt} {R : Option AV → Hp → Prop} {n pc : Nat} {ls : List (Option AV)} {st : List AV} {σ : Hp} {k : Nat × Nat} (h : ct pc = true) : xk_X1_rateOn ct K R n pc ls st σ k = K pc ls st σ k := by unfold xk_X1_rateOn exkS; rw [h]
theorem xf_X1_rateOn {ct : Nat → Bool} {K : Kt} {R : Option AV → Hp → Prop} {n pc : Nat} {ls : List (Option AV)} {st : List AV} {σ : Hp} {k : Nat × Nat} (h : ct pc = false) : xk_X1_rateOn ct K R n pc ls st σ k = xe_X1_rateOn ct K R n pc ls st σ k := by unfold xk_X1_rateOn exkS xe_X1_rateOn; rw [h]
theorem ev_X1_rateOn_0 {ct : Nat → Bool} {K : Kt} {R : Option AV → Hp → Prop} {n : Nat} {ls : List (Option AV)} {st : List AV} {σ : Hp} {k : Nat × Nat} : xe_X1_rateOn ct K R (n + 1) 0 ls st σ k = (xk_X1_rateOn ct K R n 1 ls (vi (0) :: st) σ k) := exS_step.trans rfl
theorem ev_X1_rateOn_1 {ct : Nat → Bool} {K : Kt} {R : Option AV → Hp → Prop} {n : Nat} {ls : List (Option AV)} {st : List AV} {σ : Hp} {k : Nat × Nat} : xe_X1_rateOn ct K R (n + 1) 1 ls st σ k = (oI st fun x st => 3 < 7 ∧ xk_X1_rateOn ct K R n 2 (stL ls 3 (vi x)) st σ k) := exS_step.trans rfl
theorem ev_X1_rateOn_2 {ct : Nat → Bool} {K : Kt} {R : Option AV → Hp → Prop} {n : Nat} {ls : List (Option AV)} {st : List AV} {σ : Hp} {k : Nat × Nat} : xe_X1_rateOn ct K R (n + 1) 2 ls st σ k = (xk_X1_rateOn ct K R n 3 ls (vi (0) :: st) σ k) := exS_step.trans rfl
theorem ev_X1_rateOn_3 {ct : Nat → Bool} {K : Kt} {R : Option AV → Hp → Prop} {n : Nat} {ls : List (Option AV)} {st : List AV} {σ : Hp} {k : Nat × Nat} : xe_X1_rateOn ct K R (n + 1) 3 ls st σ k = (oI st fun x st => 4 < 7 ∧ xk_X1_rateOn ct K R n 5 (stL ls 4 (vi x)) st σ k) := exS_step.trans rfl
theorem ev_X1_rateOn_5 {ct : Nat → Bool} {K : Kt} {R : Option AV → Hp → Prop} {n : Nat} {ls : List (Option AV)} {st : List AV} {σ : Hp} {k : Nat × Nat} : xe_X1_rateOn ct K R (n + 1) 5 ls st σ k = (xk_X1_rateOn ct K R n 6 ls (vi (0) :: st) σ k) := exS_step.trans rfl
theorem ev_X1_rateOn_6 {ct : Nat → Bool} {K : Kt} {R : Option AV → Hp → Prop} {n : Nat} {ls : List (Option AV)} {st : List AV} {σ : Hp} {k : Nat × Nat} : xe_X1_rateOn ct K R (n + 1) 6 ls st σ k = (oI st fun x st => 5 < 7 ∧ xk_X1_rateOn ct K R n 8 (stL ls 5 (vi x)) st σ k) := exS_step.trans rfl
theorem ev_X1_rateOn_8 {ct : Nat → Bool} {K : Kt} {R : Option AV → Hp → Prop} {n : Nat} {ls : List (Option AV)} {st : List AV} {σ : Hp} {k : Nat × Nat} : xe_X1_rateOn ct K R (n + 1) 8 ls st σ k = (lI ls 5 fun x => xk_X1_rateOn ct K R n 10 ls (vi x :: st) σ k) := exS_step.trans rfl
theorem ev_X1_rateOn_10 {ct : Nat → Bool} {K : Kt} {R : Option AV → Hp → Prop} {n : Nat} {ls : List (Option AV)} {st : List AV} {σ : Hp} {k : Nat × Nat} : xe_X1_rateOn ct K R (n + 1) 10 ls st σ k = (lR ls 0 fun x => xk_X1_rateOn ct K R n 11 ls (vr x :: st) σ k) := exS_step.trans rfl
theorem ev_X1_rateOn_11 {ct : Nat → Bool} {K : Kt} {R : Option AV → Hp → Prop} {n : Nat} {ls : List (Option AV)} {st : List AV} {σ : Hp} {k : Nat × Nat} : xe_X1_rateOn ct K R (n + 1) 11 ls st σ k = (oR st fun x st => kd σ x = 2 ∧ xk_X1_rateOn ct K R n 14 ls (vr (fR σ 200 x) :: st) σ k) := exS_step.trans rfl
theorem ev_X1_rateOn_14 {ct : Nat → Bool} {K : Kt} {R : Option AV → Hp → Prop} {n : Nat} {ls : List (Option AV)} {st : List AV} {σ : Hp} {k : Nat × Nat} : xe_X1_rateOn ct K R (n + 1) 14 ls st σ k = (popN 1 st [] fun av rest => (catS rest ≤ 8 ∧ 1 < 6 ∧ k.1 + 0 ≤ 0 ∧ k.2 + 0 ≤ 0) ∧ (sp_Jx4a65c_size_8abf5) av σ fun v σ' => xk_X1_rateOn ct K R n 17 ls (v.toList ++ rest) σ' (k.1 + 0, k.2 + 0)) := exS_step.trans rfl
theorem ev_X1_rateOn_17 {ct : Nat → Bool} {K : Kt} {R : Option AV → Hp → Prop} {n : Nat} {ls : List (Option AV)} {st : List AV} {σ : Hp} {k : Nat × Nat} : xe_X1_rateOn ct K R (n + 1) 17 ls st σ k = (oI st fun y st => oI st fun x st => (wI y ≤ wI x → xk_X1_rateOn ct K R n 92 ls st σ k) ∧ (¬ (wI y ≤ wI x) → xk_X1_rateOn ct K R n 20 ls st σ k)) := exS_step.trans rfl
theorem ev_X1_rateOn_20 {ct : Nat → Bool} {K : Kt} {R : Option AV → Hp → Prop} {n : Nat} {ls : List (Option AV)} {st : List AV} {σ : Hp} {k : Nat × Nat} : xe_X1_rateOn ct K R (n + 1) 20 ls st σ k = (lR ls 0 fun x => xk_X1_rateOn ct K R n 21 ls (vr x :: st) σ k) := exS_step.trans rfl
theorem ev_X1_rateOn_21 {ct : Nat → Bool} {K : Kt} {R : Option AV → Hp → Prop} {n : Nat} {ls : List (Option AV)} {st : List AV} {σ : Hp} {k : Nat × Nat} : xe_X1_rateOn ct K R (n + 1) 21 ls st σ k = (oR st fun x st => kd σ x = 2 ∧ xk_X1_rateOn ct K R n 24 ls (vr (fR σ 200 x) :: st) σ k) := exS_step.trans rfl
theorem ev_X1_rateOn_24 {ct : Nat → Bool} {K : Kt} {R : Option AV → Hp → Prop} {n : Nat} {ls : List (Option AV)} {st : List AV} {σ : Hp} {k : Nat × Nat} : xe_X1_rateOn ct K R (n + 1) 24 ls st σ k = (lI ls 5 fun x => xk_X1_rateOn ct K R n 26 ls (vi x :: st) σ k) := exS_step.trans rfl
theorem ev_X1_rateOn_26 {ct : Nat → Bool} {K : Kt} {R : Option AV → Hp → Prop} {n : Nat} {ls : List (Option AV)} {st : List AV} {σ : Hp} {k : Nat × Nat} : xe_X1_rateOn ct K R (n + 1) 26 ls st σ k = (popN 2 st [] fun av rest => (catS rest ≤ 8 ∧ 3 < 6 ∧ k.1 + 0 ≤ 0 ∧ k.2 + 0 ≤ 0) ∧ (sp_Jx4a65c_get_915e3) av σ fun v σ' => xk_X1_rateOn ct K R n 29 ls (v.toList ++ rest) σ' (k.1 + 0, k.2 + 0)) := exS_step.trans rfl
theorem ev_X1_rateOn_29 {ct : Nat → Bool} {K : Kt} {R : Option AV → Hp → Prop} {n : Nat} {ls : List (Option AV)} {st : List AV} {σ : Hp} {k : Nat × Nat} : xe_X1_rateOn ct K R (n + 1) 29 ls st σ k = (oR st fun x st => kd σ x = 1 ∧ xk_X1_rateOn ct K R n 32 ls (vr x :: st) σ k) := exS_step.trans rfl
theorem ev_X1_rateOn_32 {ct : Nat → Bool} {K : Kt} {R : Option AV → Hp → Prop} {n : Nat} {ls : List (Option AV)} {st : List AV} {σ : Hp} {k : Nat × Nat} : xe_X1_rateOn ct K R (n + 1) 32 ls st σ k = (oR st fun x st => kd σ x = 1 ∧ xk_X1_rateOn ct K R n 35 ls (vr (fR σ 100 x) :: st) σ k) := exS_step.trans rfl
theorem ev_X1_rateOn_35 {ct : Nat → Bool} {K : Kt} {R : Option AV → Hp → Prop} {n : Nat} {ls : List (Option AV)} {st : List AV} {σ : Hp} {k : Nat × Nat} : xe_X1_rateOn ct K R (n + 1) 35 ls st σ k = (lR ls 1 fun x => xk_X1_rateOn ct K R n 36 ls (vr x :: st) σ k) := exS_step.trans rfl
theorem ev_X1_rateOn_36 {ct : Nat → Bool} {K : Kt} {R : Option AV → Hp → Prop} {n : Nat} {ls : List (Option AV)} {st : List AV} {σ : Hp} {k : Nat × Nat} : xe_X1_rateOn ct K R (n + 1) 36 ls st σ k = (oR st fun y st => oR st fun x st => (0 ≤ x ∧ 0 ≤ y) ∧ (¬ x = y → xk_X1_rateOn ct K R n 49 ls st σ k) ∧ (x = y → xk_X1_rateOn ct K R n 39 ls st σ k)) := exS_step.trans rfl
theorem ev_X1_rateOn_39 {ct : Nat → Bool} {K : Kt} {R : Option AV → Hp → Prop} {n : Nat} {ls : List (Option AV)} {st : List AV} {σ : Hp} {k : Nat × Nat} : xe_X1_rateOn ct K R (n + 1) 39 ls st σ k = (lR ls 0 fun x => xk_X1_rateOn ct K R n 40 ls (vr x :: st) σ k) := exS_step.trans rfl
theorem ev_X1_rateOn_40 {ct : Nat → Bool} {K : Kt} {R : Option AV → Hp → Prop} {n : Nat} {ls : List (Option AV)} {st : List AV} {σ : Hp} {k : Nat × Nat} : xe_X1_rateOn ct K R (n + 1) 40 ls st σ k = (lI ls 5 fun x => xk_X1_rateOn ct K R n 42 ls (vi x :: st) σ k) := exS_step.trans rfl
theorem ev_X1_rateOn_42 {ct : Nat → Bool} {K : Kt} {R : Option AV → Hp → Prop} {n : Nat} {ls : List (Option AV)} {st : List AV} {σ : Hp} {k : Nat × Nat} : xe_X1_rateOn ct K R (n + 1) 42 ls st σ k = (lI ls 2 fun x => xk_X1_rateOn ct K R n 43 ls (vi x :: st) σ k) := exS_step.trans rfl
theorem ev_X1_rateOn_43 {ct : Nat → Bool} {K : Kt} {R : Option AV → Hp → Prop} {n : Nat} {ls : List (Option AV)} {st : List AV} {σ : Hp} {k : Nat × Nat} : xe_X1_rateOn ct K R (n + 1) 43 ls st σ k = (popN 3 st [] fun av rest => (catS rest ≤ 8 ∧ 5 < 6 ∧ k.1 + 0 ≤ 0 ∧ k.2 + 0 ≤ 0) ∧ (sp_X1_wordOn) av σ fun v σ' => xk_X1_rateOn ct K R n 46 ls (v.toList ++ rest) σ' (k.1 + 0, k.2 + 0)) := exS_step.trans rfl
theorem ev_X1_rateOn_46 {ct : Nat → Bool} {K : Kt} {R : Option AV → Hp → Prop} {n : Nat} {ls : List (Option AV)} {st : List AV} {σ : Hp} {k : Nat × Nat} : xe_X1_rateOn ct K R (n + 1) 46 ls st σ k = (xk_X1_rateOn ct K R n 50 ls st σ k) := exS_step.trans rfl
theorem ev_X1_rateOn_49 {ct : Nat → Bool} {K : Kt} {R : Option AV → Hp → Prop} {n : Nat} {ls : List (Option AV)} {st : List AV} {σ : Hp} {k : Nat × Nat} : xe_X1_rateOn ct K R (n + 1) 49 ls st σ k = (xk_X1_rateOn ct K R n 50 ls (vi (-1) :: st) σ k) := exS_step.trans rfl
theorem ev_X1_rateOn_50 {ct : Nat → Bool} {K : Kt} {R : Option AV → Hp → Prop} {n : Nat} {ls : List (Option AV)} {st : List AV} {σ : Hp} {k : Nat × Nat} : xe_X1_rateOn ct K R (n + 1) 50 ls st σ k = (oI st fun x st => 6 < 7 ∧ xk_X1_rateOn ct K R n 52 (stL ls 6 (vi x)) st σ k) := exS_step.trans rfl
theorem ev_X1_rateOn_52 {ct : Nat → Bool} {K : Kt} {R : Option AV → Hp → Prop} {n : Nat} {ls : List (Option AV)} {st : List AV} {σ : Hp} {k : Nat × Nat} : xe_X1_rateOn ct K R (n + 1) 52 ls st σ k = (lI ls 3 fun x => xk_X1_rateOn ct K R n 53 ls (vi x :: st) σ k) := exS_step.trans rfl
theorem ev_X1_rateOn_53 {ct : Nat → Bool} {K : Kt} {R : Option AV → Hp → Prop} {n : Nat} {ls : List (Option AV)} {st : List AV} {σ : Hp} {k : Nat × Nat} : xe_X1_rateOn ct K R (n + 1) 53 ls st σ k = (lI ls 6 fun x => xk_X1_rateOn ct K R n 55 ls (vi x :: st) σ k) := exS_step.trans rfl
theorem ev_X1_rateOn_55 {ct : Nat → Bool} {K : Kt} {R : Option AV → Hp → Prop} {n : Nat} {ls : List (Option AV)} {st : List AV} {σ : Hp} {k : Nat × Nat} : xe_X1_rateOn ct K R (n + 1) 55 ls st σ k = (oI st fun x st => (¬ wI x = wI 0 → xk_X1_rateOn ct K R n 62 ls st σ k) ∧ (¬ (¬ wI x = wI 0) → xk_X1_rateOn ct K R n 58 ls st σ k)) := exS_step.trans rfl
theorem ev_X1_rateOn_58 {ct : Nat → Bool} {K : Kt} {R : Option AV → Hp → Prop} {n : Nat} {ls : List (Option AV)} {st : List AV} {σ : Hp} {k : Nat × Nat} : xe_X1_rateOn ct K R (n + 1) 58 ls st σ k = (xk_X1_rateOn ct K R n 59 ls (vi (1) :: st) σ k) := exS_step.trans rfl
theorem ev_X1_rateOn_59 {ct : Nat → Bool} {K : Kt} {R : Option AV → Hp → Prop} {n : Nat} {ls : List (Option AV)} {st : List AV} {σ : Hp} {k : Nat × Nat} : xe_X1_rateOn ct K R (n + 1) 59 ls st σ k = (xk_X1_rateOn ct K R n 63 ls st σ k) := exS_step.trans rfl
theorem ev_X1_rateOn_62 {ct : Nat → Bool} {K : Kt} {R : Option AV → Hp → Prop} {n : Nat} {ls : List (Option AV)} {st : List AV} {σ : Hp} {k : Nat × Nat} : xe_X1_rateOn ct K R (n + 1) 62 ls st σ k = (xk_X1_rateOn ct K R n 63 ls (vi (0) :: st) σ k) := exS_step.trans rfl
theorem ev_X1_rateOn_63 {ct : Nat → Bool} {K : Kt} {R : Option AV → Hp → Prop} {n : Nat} {ls : List (Option AV)} {st : List AV} {σ : Hp} {k : Nat × Nat} : xe_X1_rateOn ct K R (n + 1) 63 ls st σ k = (oI st fun y st => oI st fun x st => xk_X1_rateOn ct K R n 64 ls (vi (x + y) :: st) σ k) := exS_step.trans rfl
theorem ev_X1_rateOn_64 {ct : Nat → Bool} {K : Kt} {R : Option AV → Hp → Prop} {n : Nat} {ls : List (Option AV)} {st : List AV} {σ : Hp} {k : Nat × Nat} : xe_X1_rateOn ct K R (n + 1) 64 ls st σ k = (oI st fun x st => 3 < 7 ∧ xk_X1_rateOn ct K R n 65 (stL ls 3 (vi x)) st σ k) := exS_step.trans rfl
theorem ev_X1_rateOn_65 {ct : Nat → Bool} {K : Kt} {R : Option AV → Hp → Prop} {n : Nat} {ls : List (Option AV)} {st : List AV} {σ : Hp} {k : Nat × Nat} : xe_X1_rateOn ct K R (n + 1) 65 ls st σ k = (lI ls 4 fun x => xk_X1_rateOn ct K R n 67 ls (vi x :: st) σ k) := exS_step.trans rfl
theorem ev_X1_rateOn_67 {ct : Nat → Bool} {K : Kt} {R : Option AV → Hp → Prop} {n : Nat} {ls : List (Option AV)} {st : List AV} {σ : Hp} {k : Nat × Nat} : xe_X1_rateOn ct K R (n + 1) 67 ls st σ k = (lI ls 6 fun x => xk_X1_rateOn ct K R n 69 ls (vi x :: st) σ k) := exS_step.trans rfl
theorem ev_X1_rateOn_69 {ct : Nat → Bool} {K : Kt} {R : Option AV → Hp → Prop} {n : Nat} {ls : List (Option AV)} {st : List AV} {σ : Hp} {k : Nat × Nat} : xe_X1_rateOn ct K R (n + 1) 69 ls st σ k = (oI st fun x st => (wI x = wI 0 → xk_X1_rateOn ct K R n 78 ls st σ k) ∧ (¬ (wI x = wI 0) → xk_X1_rateOn ct K R n 72 ls st σ k)) := exS_step.trans rfl
theorem ev_X1_rateOn_72 {ct : Nat → Bool} {K : Kt} {R : Option AV → Hp → Prop} {n : Nat} {ls : List (Option AV)} {st : List AV} {σ : Hp} {k : Nat × Nat} : xe_X1_rateOn ct K R (n + 1) 72 ls st σ k = (lI ls 6 fun x => xk_X1_rateOn ct K R n 74 ls (vi x :: st) σ k) := exS_step.trans rfl
theorem ev_X1_rateOn_74 {ct : Nat → Bool} {K : Kt} {R : Option AV → Hp → Prop} {n : Nat} {ls : List (Option AV)} {st : List AV} {σ : Hp} {k : Nat × Nat} : xe_X1_rateOn ct K R (n + 1) 74 ls st σ k = (xk_X1_rateOn ct K R n 75 ls (vi (1) :: st) σ k) := exS_step.trans rfl
theorem ev_X1_rateOn_75 {ct : Nat → Bool} {K : Kt} {R : Option AV → Hp → Prop} {n : Nat} {ls : List (Option AV)} {st : List AV} {σ : Hp} {k : Nat × Nat} : xe_X1_rateOn ct K R (n + 1) 75 ls st σ k = (oI st fun y st => oI st fun x st => (¬ wI x = wI y → xk_X1_rateOn ct K R n 82 ls st σ k) ∧ (¬ (¬ wI x = wI y) → xk_X1_rateOn ct K R n 78 ls st σ k)) := exS_step.trans rfl
theorem ev_X1_rateOn_78 {ct : Nat → Bool} {K : Kt} {R : Option AV → Hp → Prop} {n : Nat} {ls : List (Option AV)} {st : List AV} {σ : Hp} {k : Nat × Nat} : xe_X1_rateOn ct K R (n + 1) 78 ls st σ k = (xk_X1_rateOn ct K R n 79 ls (vi (1) :: st) σ k) := exS_step.trans rfl
theorem ev_X1_rateOn_79 {ct : Nat → Bool} {K : Kt} {R : Option AV → Hp → Prop} {n : Nat} {ls : List (Option AV)} {st : List AV} {σ : Hp} {k : Nat × Nat} : xe_X1_rateOn ct K R (n + 1) 79 ls st σ k = (xk_X1_rateOn ct K R n 83 ls st σ k) := exS_step.trans rfl
theorem ev_X1_rateOn_82 {ct : Nat → Bool} {K : Kt} {R : Option AV → Hp → Prop} {n : Nat} {ls : List (Option AV)} {st : List AV} {σ : Hp} {k : Nat × Nat} : xe_X1_rateOn ct K R (n + 1) 82 ls st σ k = (xk_X1_rateOn ct K R n 83 ls (vi (0) :: st) σ k) := exS_step.trans rfl
theorem ev_X1_rateOn_83 {ct : Nat → Bool} {K : Kt} {R : Option AV → Hp → Prop} {n : Nat} {ls : List (Option AV)} {st : List AV} {σ : Hp} {k : Nat × Nat} : xe_X1_rateOn ct K R (n + 1) 83 ls st σ k = (oI st fun y st => oI st fun x st => xk_X1_rateOn ct K R n 84 ls (vi (x + y) :: st) σ k) := exS_step.trans rfl
theorem ev_X1_rateOn_84 {ct : Nat → Bool} {K : Kt} {R : Option AV → Hp → Prop} {n : Nat} {ls : List (Option AV)} {st : List AV} {σ : Hp} {k : Nat × Nat} : xe_X1_rateOn ct K R (n + 1) 84 ls st σ k = (oI st fun x st => 4 < 7 ∧ xk_X1_rateOn ct K R n 86 (stL ls 4 (vi x)) st σ k) := exS_step.trans rfl
theorem ev_X1_rateOn_86 {ct : Nat → Bool} {K : Kt} {R : Option AV → Hp → Prop} {n : Nat} {ls : List (Option AV)} {st : List AV} {σ : Hp} {k : Nat × Nat} : xe_X1_rateOn ct K R (n + 1) 86 ls st σ k = (lI ls 5 fun x => 5 < 7 ∧ xk_X1_rateOn ct K R n 89 (stL ls 5 (vi (x + (1)))) st σ k) := exS_step.trans rfl
theorem ev_X1_rateOn_89 {ct : Nat → Bool} {K : Kt} {R : Option AV → Hp → Prop} {n : Nat} {ls : List (Option AV)} {st : List AV} {σ : Hp} {k : Nat × Nat} : xe_X1_rateOn ct K R (n + 1) 89 ls st σ k = (xk_X1_rateOn ct K R n 8 ls st σ k) := exS_step.trans rfl
theorem ev_X1_rateOn_92 {ct : Nat → Bool} {K : Kt} {R : Option AV → Hp → Prop} {n : Nat} {ls : List (Option AV)} {st : List AV} {σ : Hp} {k : Nat × Nat} : xe_X1_rateOn ct K R (n + 1) 92 ls st σ k = (lI ls 4 fun x => xk_X1_rateOn ct K R n 94 ls (vi x :: st) σ k) := exS_step.trans rfl
theorem ev_X1_rateOn_94 {ct : Nat → Bool} {K : Kt} {R : Option AV → Hp → Prop} {n : Nat} {ls : List (Option AV)} {st : List AV} {σ : Hp} {k : Nat × Nat} : xe_X1_rateOn ct K R (n + 1) 94 ls st σ k = (xk_X1_rateOn ct K R n 95 ls (vi (2) :: st) σ k) := exS_step.trans rfl
theorem ev_X1_rateOn_95 {ct : Nat → Bool} {K : Kt} {R : Option AV → Hp → Prop} {n : Nat} {ls : List (Option AV)} {st : List AV} {σ : Hp} {k : Nat × Nat} : xe_X1_rateOn ct K R (n + 1) 95 ls st σ k = (oI st fun y st => oI st fun x st => xk_X1_rateOn ct K R n 96 ls (vi (x + y) :: st) σ k) := exS_step.trans rfl
theorem ev_X1_rateOn_96 {ct : Nat → Bool} {K : Kt} {R : Option AV → Hp → Prop} {n : Nat} {ls : List (Option AV)} {st : List AV} {σ : Hp} {k : Nat × Nat} : xe_X1_rateOn ct K R (n + 1) 96 ls st σ k = (oI st fun x st => 5 < 7 ∧ xk_X1_rateOn ct K R n 98 (stL ls 5 (vi x)) st σ k) := exS_step.trans rfl
theorem ev_X1_rateOn_98 {ct : Nat → Bool} {K : Kt} {R : Option AV → Hp → Prop} {n : Nat} {ls : List (Option AV)} {st : List AV} {σ : Hp} {k : Nat × Nat} : xe_X1_rateOn ct K R (n + 1) 98 ls st σ k = (lI ls 5 fun x => xk_X1_rateOn ct K R n 100 ls (vi x :: st) σ k) := exS_step.trans rfl
theorem ev_X1_rateOn_100 {ct : Nat → Bool} {K : Kt} {R : Option AV → Hp → Prop} {n : Nat} {ls : List (Option AV)} {st : List AV} {σ : Hp} {k : Nat × Nat} : xe_X1_rateOn ct K R (n + 1) 100 ls st σ k = (oI st fun x st => (wI x ≤ wI 0 → xk_X1_rateOn ct K R n 116 ls st σ k) ∧ (¬ (wI x ≤ wI 0) → xk_X1_rateOn ct K R n 103 ls st σ k)) := exS_step.trans rfl
theorem ev_X1_rateOn_103 {ct : Nat → Bool} {K : Kt} {R : Option AV → Hp → Prop} {n : Nat} {ls : List (Option AV)} {st : List AV} {σ : Hp} {k : Nat × Nat} : xe_X1_rateOn ct K R (n + 1) 103 ls st σ k = (xk_X1_rateOn ct K R n 106 ls (vi (1000) :: st) σ k) := exS_step.trans rfl
theorem ev_X1_rateOn_106 {ct : Nat → Bool} {K : Kt} {R : Option AV → Hp → Prop} {n : Nat} {ls : List (Option AV)} {st : List AV} {σ : Hp} {k : Nat × Nat} : xe_X1_rateOn ct K R (n + 1) 106 ls st σ k = (lI ls 3 fun x => xk_X1_rateOn ct K R n 107 ls (vi x :: st) σ k) := exS_step.trans rfl
theorem ev_X1_rateOn_107 {ct : Nat → Bool} {K : Kt} {R : Option AV → Hp → Prop} {n : Nat} {ls : List (Option AV)} {st : List AV} {σ : Hp} {k : Nat × Nat} : xe_X1_rateOn ct K R (n + 1) 107 ls st σ k = (xk_X1_rateOn ct K R n 108 ls (vi (1) :: st) σ k) := exS_step.trans rfl
theorem ev_X1_rateOn_108 {ct : Nat → Bool} {K : Kt} {R : Option AV → Hp → Prop} {n : Nat} {ls : List (Option AV)} {st : List AV} {σ : Hp} {k : Nat × Nat} : xe_X1_rateOn ct K R (n + 1) 108 ls st σ k = (oI st fun y st => oI st fun x st => xk_X1_rateOn ct K R n 109 ls (vi (x + y) :: st) σ k) := exS_step.trans rfl
theorem ev_X1_rateOn_109 {ct : Nat → Bool} {K : Kt} {R : Option AV → Hp → Prop} {n : Nat} {ls : List (Option AV)} {st : List AV} {σ : Hp} {k : Nat × Nat} : xe_X1_rateOn ct K R (n + 1) 109 ls st σ k = (oI st fun y st => oI st fun x st => xk_X1_rateOn ct K R n 110 ls (vi (x * y) :: st) σ k) := exS_step.trans rfl
theorem ev_X1_rateOn_110 {ct : Nat → Bool} {K : Kt} {R : Option AV → Hp → Prop} {n : Nat} {ls : List (Option AV)} {st : List AV} {σ : Hp} {k : Nat × Nat} : xe_X1_rateOn ct K R (n + 1) 110 ls st σ k = (lI ls 5 fun x => xk_X1_rateOn ct K R n 112 ls (vi x :: st) σ k) := exS_step.trans rfl
theorem ev_X1_rateOn_112 {ct : Nat → Bool} {K : Kt} {R : Option AV → Hp → Prop} {n : Nat} {ls : List (Option AV)} {st : List AV} {σ : Hp} {k : Nat × Nat} : xe_X1_rateOn ct K R (n + 1) 112 ls st σ k = (oI st fun y st => oI st fun x st => ¬ wI y = 0 ∧ xk_X1_rateOn ct K R n 113 ls (vi (dvI x y) :: st) σ k) := exS_step.trans rfl
theorem ev_X1_rateOn_113 {ct : Nat → Bool} {K : Kt} {R : Option AV → Hp → Prop} {n : Nat} {ls : List (Option AV)} {st : List AV} {σ : Hp} {k : Nat × Nat} : xe_X1_rateOn ct K R (n + 1) 113 ls st σ k = (xk_X1_rateOn ct K R n 117 ls st σ k) := exS_step.trans rfl
theorem ev_X1_rateOn_116 {ct : Nat → Bool} {K : Kt} {R : Option AV → Hp → Prop} {n : Nat} {ls : List (Option AV)} {st : List AV} {σ : Hp} {k : Nat × Nat} : xe_X1_rateOn ct K R (n + 1) 116 ls st σ k = (xk_X1_rateOn ct K R n 117 ls (vi (-1) :: st) σ k) := exS_step.trans rfl
theorem ev_X1_rateOn_117 {ct : Nat → Bool} {K : Kt} {R : Option AV → Hp → Prop} {n : Nat} {ls : List (Option AV)} {st : List AV} {σ : Hp} {k : Nat × Nat} : xe_X1_rateOn ct K R (n + 1) 117 ls st σ k = (oI st fun x st => st = [] ∧ True ∧ R (some (vi x)) σ) := exS_step.trans rfl
def M_X1_rateOn : Md := (yX1_rateOn, cX1_rateOn, 7, (some FieldType.int), 6, 0, 0, 1, false, tb_X1_rateOn, mt_X1_rateOn)
theorem mm_X1_rateOn : MMOK M_X1_rateOn := ⟨by decide +kernel, tk_X1_rateOn, mk_X1_rateOn, rfl, fun h => by cases h⟩
theorem go_X1_rateOn {Q : Option AV → Hp → Prop} {ct : Nat → Bool} {pc : Nat} {ls : List (Option AV)} {st : List AV} {σ : Hp} {k : Nat × Nat} (n : Nat) (h : xe_X1_rateOn ct (Go M_X1_rateOn Q) Q n pc ls st σ k) : Go M_X1_rateOn Q pc ls st σ k := Go.exS mm_X1_rateOn h

set_option maxRecDepth 20000 in
theorem rate_50 {Q : Option AV → Hp → Prop} {σ : Hp} {p d w l i v : Int} {a6 : Option AV} (hv : -1 ≤ v ∧ v ≤ 2)
    (h : Go M_X1_rateOn Q 8 [some (vr 27), some (vr p), some (vi d), some (vi (w + if v = 0 then 1 else 0)), some (vi (l + if v = 0 ∨ v = 1 then 1 else 0)), some (vi (i + 1)), some (vi v)] [] σ (0, 0)) : Go M_X1_rateOn Q 50 [some (vr 27), some (vr p), some (vi d), some (vi w), some (vi l), some (vi i), a6] [vi v] σ (0, 0) := by
  by_cases v0 : v = 0
  · subst v0
    rw [if_pos rfl, if_pos (Or.inl rfl)] at h
    refine go_X1_rateOn (ct := fun p => p == 8 || p == 62 || p == 72) 40 ?_
    simp only [oI, oL, oR, o1, lI, lL, lR, popN, catS, gv, stL, stL2, swt, cnd, spObj, List.getElem?_cons_zero, List.getElem?_cons_succ, List.getD_cons_zero, List.getD_cons_succ, List.set_cons_zero, List.set_cons_succ, List.nil_append, List.cons_append, Option.toList, Bool.or_false, Bool.false_or, Bool.or_true, Bool.true_or, Nat.reduceBEq, Nat.reduceAdd, Nat.reduceLT, Nat.reduceLeDiff, Int.reduceAdd, Int.reduceToNat, true_and, and_true, Fin.isValue, Fin.val_zero, Fin.val_one, Fin.val_two, Fin.reduceFinMk, eq_self, Int.reduceNeg, imp_self, Nat.reduceMul, Nat.le_refl, not_true_eq_false, not_false_eq_true, List.getElem?_nil, reduceCtorEq, true_or, or_true, Classical.not_not, implies_true, or_self, wI_0, wI_1, wI_m1, b2i_w, b2i_eq0, b2i_eq1, b2i_bool, nor_self, nx_pI, kd_pI, ln_pI, fI_pI, fL_pI, fR_pI, aI_pI, aL_pI, aR_pI, nx_pL, kd_pL, ln_pL, fI_pL, fL_pL, fR_pL, aI_pL, aL_pL, aR_pL, nx_pR, kd_pR, ln_pR, fI_pR, fL_pR, fR_pR, aI_pR, aL_pR, aR_pR, nx_qI, kd_qI, ln_qI, fI_qI, fL_qI, fR_qI, aI_qI, aL_qI, aR_qI, nx_qL, kd_qL, ln_qL, fI_qL, fL_qL, fR_qL, aI_qL, aL_qL, aR_qL, nx_qR, kd_qR, ln_qR, fI_qR, fL_qR, fR_qR, aI_qR, aL_qR, aR_qR, nx_mk, kd_mk, ln_mk, fI_mk, fL_mk, fR_mk, aI_mk, aL_mk, aR_mk, false_and, and_false, if_false, if_true, and_self, Int.reduceEq, Nat.reduceEqDiff, ite_self, MLay_pI, MLay_pL, MLay_qI, MLay_qL, ev_X1_rateOn_50, ev_X1_rateOn_52, ev_X1_rateOn_53, ev_X1_rateOn_55, ev_X1_rateOn_58, ev_X1_rateOn_59, ev_X1_rateOn_62, ev_X1_rateOn_63, ev_X1_rateOn_64, ev_X1_rateOn_65, ev_X1_rateOn_67, ev_X1_rateOn_69, ev_X1_rateOn_72, ev_X1_rateOn_74, ev_X1_rateOn_75, ev_X1_rateOn_78, ev_X1_rateOn_79, ev_X1_rateOn_82, ev_X1_rateOn_83, ev_X1_rateOn_84, ev_X1_rateOn_86, ev_X1_rateOn_89, xt_X1_rateOn, xf_X1_rateOn, us_Jx4a65c_size_8abf5, us_Jx4a65c_get_915e3, us_X1_wordOn]
    repeat' (first | intro z | apply And.intro)
    all_goals try omega
    all_goals try contradiction
    all_goals exact h
  · rw [if_neg v0] at h
    by_cases v1 : v = 1
    · subst v1
      rw [if_pos (Or.inr rfl)] at h
      refine go_X1_rateOn (ct := fun p => p == 8 || p == 58) 40 ?_
      simp only [oI, oL, oR, o1, lI, lL, lR, popN, catS, gv, stL, stL2, swt, cnd, spObj, List.getElem?_cons_zero, List.getElem?_cons_succ, List.getD_cons_zero, List.getD_cons_succ, List.set_cons_zero, List.set_cons_succ, List.nil_append, List.cons_append, Option.toList, Bool.or_false, Bool.false_or, Bool.or_true, Bool.true_or, Nat.reduceBEq, Nat.reduceAdd, Nat.reduceLT, Nat.reduceLeDiff, Int.reduceAdd, Int.reduceToNat, true_and, and_true, Fin.isValue, Fin.val_zero, Fin.val_one, Fin.val_two, Fin.reduceFinMk, eq_self, Int.reduceNeg, imp_self, Nat.reduceMul, Nat.le_refl, not_true_eq_false, not_false_eq_true, List.getElem?_nil, reduceCtorEq, true_or, or_true, Classical.not_not, implies_true, or_self, wI_0, wI_1, wI_m1, b2i_w, b2i_eq0, b2i_eq1, b2i_bool, nor_self, nx_pI, kd_pI, ln_pI, fI_pI, fL_pI, fR_pI, aI_pI, aL_pI, aR_pI, nx_pL, kd_pL, ln_pL, fI_pL, fL_pL, fR_pL, aI_pL, aL_pL, aR_pL, nx_pR, kd_pR, ln_pR, fI_pR, fL_pR, fR_pR, aI_pR, aL_pR, aR_pR, nx_qI, kd_qI, ln_qI, fI_qI, fL_qI, fR_qI, aI_qI, aL_qI, aR_qI, nx_qL, kd_qL, ln_qL, fI_qL, fL_qL, fR_qL, aI_qL, aL_qL, aR_qL, nx_qR, kd_qR, ln_qR, fI_qR, fL_qR, fR_qR, aI_qR, aL_qR, aR_qR, nx_mk, kd_mk, ln_mk, fI_mk, fL_mk, fR_mk, aI_mk, aL_mk, aR_mk, false_and, and_false, if_false, if_true, and_self, Int.reduceEq, Nat.reduceEqDiff, ite_self, MLay_pI, MLay_pL, MLay_qI, MLay_qL, ev_X1_rateOn_50, ev_X1_rateOn_52, ev_X1_rateOn_53, ev_X1_rateOn_55, ev_X1_rateOn_58, ev_X1_rateOn_59, ev_X1_rateOn_62, ev_X1_rateOn_63, ev_X1_rateOn_64, ev_X1_rateOn_65, ev_X1_rateOn_67, ev_X1_rateOn_69, ev_X1_rateOn_72, ev_X1_rateOn_74, ev_X1_rateOn_75, ev_X1_rateOn_78, ev_X1_rateOn_79, ev_X1_rateOn_82, ev_X1_rateOn_83, ev_X1_rateOn_84, ev_X1_rateOn_86, ev_X1_rateOn_89, xt_X1_rateOn, xf_X1_rateOn, us_Jx4a65c_size_8abf5, us_Jx4a65c_get_915e3, us_X1_wordOn]
      try simp (disch := omega) only [wI_id, dv_nn, rm_nn]
      repeat' (first | intro z | apply And.intro)
      all_goals try omega
      all_goals try contradiction
      all_goals exact h
    · rw [if_neg (by omega)] at h
      refine go_X1_rateOn (ct := fun p => p == 8 || p == 58 || p == 78) 40 ?_
      simp only [oI, oL, oR, o1, lI, lL, lR, popN, catS, gv, stL, stL2, swt, cnd, spObj, List.getElem?_cons_zero, List.getElem?_cons_succ, List.getD_cons_zero, List.getD_cons_succ, List.set_cons_zero, List.set_cons_succ, List.nil_append, List.cons_append, Option.toList, Bool.or_false, Bool.false_or, Bool.or_true, Bool.true_or, Nat.reduceBEq, Nat.reduceAdd, Nat.reduceLT, Nat.reduceLeDiff, Int.reduceAdd, Int.reduceToNat, true_and, and_true, Fin.isValue, Fin.val_zero, Fin.val_one, Fin.val_two, Fin.reduceFinMk, eq_self, Int.reduceNeg, imp_self, Nat.reduceMul, Nat.le_refl, not_true_eq_false, not_false_eq_true, List.getElem?_nil, reduceCtorEq, true_or, or_true, Classical.not_not, implies_true, or_self, wI_0, wI_1, wI_m1, b2i_w, b2i_eq0, b2i_eq1, b2i_bool, nor_self, nx_pI, kd_pI, ln_pI, fI_pI, fL_pI, fR_pI, aI_pI, aL_pI, aR_pI, nx_pL, kd_pL, ln_pL, fI_pL, fL_pL, fR_pL, aI_pL, aL_pL, aR_pL, nx_pR, kd_pR, ln_pR, fI_pR, fL_pR, fR_pR, aI_pR, aL_pR, aR_pR, nx_qI, kd_qI, ln_qI, fI_qI, fL_qI, fR_qI, aI_qI, aL_qI, aR_qI, nx_qL, kd_qL, ln_qL, fI_qL, fL_qL, fR_qL, aI_qL, aL_qL, aR_qL, nx_qR, kd_qR, ln_qR, fI_qR, fL_qR, fR_qR, aI_qR, aL_qR, aR_qR, nx_mk, kd_mk, ln_mk, fI_mk, fL_mk, fR_mk, aI_mk, aL_mk, aR_mk, false_and, and_false, if_false, if_true, and_self, Int.reduceEq, Nat.reduceEqDiff, ite_self, MLay_pI, MLay_pL, MLay_qI, MLay_qL, ev_X1_rateOn_50, ev_X1_rateOn_52, ev_X1_rateOn_53, ev_X1_rateOn_55, ev_X1_rateOn_58, ev_X1_rateOn_59, ev_X1_rateOn_62, ev_X1_rateOn_63, ev_X1_rateOn_64, ev_X1_rateOn_65, ev_X1_rateOn_67, ev_X1_rateOn_69, ev_X1_rateOn_72, ev_X1_rateOn_74, ev_X1_rateOn_75, ev_X1_rateOn_78, ev_X1_rateOn_79, ev_X1_rateOn_82, ev_X1_rateOn_83, ev_X1_rateOn_84, ev_X1_rateOn_86, ev_X1_rateOn_89, xt_X1_rateOn, xf_X1_rateOn, us_Jx4a65c_size_8abf5, us_Jx4a65c_get_915e3, us_X1_wordOn]
      try simp (disch := omega) only [wI_id, dv_nn, rm_nn]
      repeat' (first | intro z | apply And.intro)
      all_goals try omega
      all_goals try contradiction
      all_goals exact h

set_option maxRecDepth 20000 in
theorem c_X1_rateOn : Ct yX1_rateOn cX1_rateOn 7 ((some FieldType.int)) 6 0 0 sp_X1_rateOn := by
  refine Ct.go (M := M_X1_rateOn) mm_X1_rateOn fun av σ Q h0 => ?_
  obtain ⟨this, p, d, rfl, hk, h⟩ := el_X1_rateOn h0
  clear h0
  refine ⟨Nat.le_of_ble_eq_true rfl, ?_⟩
  show Go M_X1_rateOn Q 0 [some (vr this), some (vr p), some (vi d), none, none, none, none] [] σ (0, 0)
  obtain ⟨rfl, hC, hrd, τ, b, hA, hB, hI, hW, hAB, hb, rfl, h⟩ := h
  have hrd' := hrd
  unfold inR at hrd'
  have hL := hA.1
  have hLe := hA.le
  have hsz := hA.2.1
  have hs := hI.alarms_s
  have wl : ∀ k : Nat, hwM (mRt τ b d (fun v => v = 0)) k ≤ k ∧ 0 ≤ hwM (mRt τ b d (fun v => v = 0)) k ∧ hwM (mRt τ b d (fun v => v < 2)) k ≤ k ∧ 0 ≤ hwM (mRt τ b d (fun v => v < 2)) k := fun k => by
    have h1 := hwM_in (mRt τ b d (fun v => v = 0)) k
    have h2 := hwM_in (mRt τ b d (fun v => v < 2)) k
    exact ⟨h1.2, h1.1, h2.2, h2.1⟩
  have loop : ∀ (m k : Nat) (a6 : Option AV), (k : Int) + m = fI τ 1371 61 → Go M_X1_rateOn Q 8 [some (vr 27), some (vr (lat σ 3 b)), some (vi d), some (vi (hwM (mRt τ b d (fun v => v = 0)) k)), some (vi (hwM (mRt τ b d (fun v => v < 2)) k)), some (vi k), a6] [] σ (0, 0) := by
    intro m
    induction m with
    | zero =>
      intro k a6 hk2
      have ek : (fI τ 1371 61).toNat = k := by omega
      unfold mRate at h
      rw [ek] at h
      have wl := wl k
      generalize hwM (mRt τ b d (fun v => v = 0)) k = x1 at *
      generalize hwM (mRt τ b d (fun v => v < 2)) k = x2 at *
      clear hA hB hI hW hAB
      refine go_X1_rateOn (ct := fun p => p == 20 || p == 116) 60 ?_
      simp only [oI, oL, oR, o1, lI, lL, lR, popN, catS, gv, stL, stL2, swt, cnd, spObj, List.getElem?_cons_zero, List.getElem?_cons_succ, List.getD_cons_zero, List.getD_cons_succ, List.set_cons_zero, List.set_cons_succ, List.nil_append, List.cons_append, Option.toList, Bool.or_false, Bool.false_or, Bool.or_true, Bool.true_or, Nat.reduceBEq, Nat.reduceAdd, Nat.reduceLT, Nat.reduceLeDiff, Int.reduceAdd, Int.reduceToNat, true_and, and_true, Fin.isValue, Fin.val_zero, Fin.val_one, Fin.val_two, Fin.reduceFinMk, eq_self, Int.reduceNeg, imp_self, Nat.reduceMul, Nat.le_refl, not_true_eq_false, not_false_eq_true, List.getElem?_nil, reduceCtorEq, true_or, or_true, Classical.not_not, implies_true, or_self, wI_0, wI_1, wI_m1, b2i_w, b2i_eq0, b2i_eq1, b2i_bool, nor_self, nx_pI, kd_pI, ln_pI, fI_pI, fL_pI, fR_pI, aI_pI, aL_pI, aR_pI, nx_pL, kd_pL, ln_pL, fI_pL, fL_pL, fR_pL, aI_pL, aL_pL, aR_pL, nx_pR, kd_pR, ln_pR, fI_pR, fL_pR, fR_pR, aI_pR, aL_pR, aR_pR, nx_qI, kd_qI, ln_qI, fI_qI, fL_qI, fR_qI, aI_qI, aL_qI, aR_qI, nx_qL, kd_qL, ln_qL, fI_qL, fL_qL, fR_qL, aI_qL, aL_qL, aR_qL, nx_qR, kd_qR, ln_qR, fI_qR, fL_qR, fR_qR, aI_qR, aL_qR, aR_qR, nx_mk, kd_mk, ln_mk, fI_mk, fL_mk, fR_mk, aI_mk, aL_mk, aR_mk, false_and, and_false, if_false, if_true, and_self, Int.reduceEq, Nat.reduceEqDiff, ite_self, MLay_pI, MLay_pL, MLay_qI, MLay_qL, ev_X1_rateOn_8, ev_X1_rateOn_10, ev_X1_rateOn_11, ev_X1_rateOn_14, ev_X1_rateOn_17, ev_X1_rateOn_92, ev_X1_rateOn_94, ev_X1_rateOn_95, ev_X1_rateOn_96, ev_X1_rateOn_98, ev_X1_rateOn_100, ev_X1_rateOn_103, ev_X1_rateOn_106, ev_X1_rateOn_107, ev_X1_rateOn_108, ev_X1_rateOn_109, ev_X1_rateOn_110, ev_X1_rateOn_112, ev_X1_rateOn_113, ev_X1_rateOn_117, xt_X1_rateOn, xf_X1_rateOn, us_Jx4a65c_size_8abf5, us_Jx4a65c_get_915e3, us_X1_wordOn, hC.eqs, hsz]
      try simp (disch := omega) only [wI_id, dv_nn, rm_nn]
      repeat' (first | intro z | apply And.intro)
      all_goals try omega
      all_goals try contradiction
      all_goals exact h
    | succ m ih =>
      intro k a6 hk2
      have w := fun a6 => ih (k + 1) a6 (by omega)
      have e := hA.2.2.1 k (by omega) (by omega)
      obtain ⟨e0, e1, -⟩ := e
      have hka : kd σ (lat σ 28 k) = 1 := hL.2.2.2.2.2 k (by omega) (by omega)
      have hbx := hB.2.2 b hb.1 hb.2
      have hab := hAB k (by omega) (by omega)
      have hab0 := hI.alarmBox_ k
      have hbx2 := hB.2.2 _ hab0.1 hab
      have hp1 := hbx.1
      have hp2 := hbx2.1
      have hrk : inR k := by unfold inR; omega
      have hv := cKnw_in τ k d
      have hkn := mKn_in τ k d (fI τ 1380 61).toNat
      simp only [hwM_s] at w
      by_cases cb : aI τ 109 k = b
      · have w2 : Go M_X1_rateOn Q 50 [some (vr 27), some (vr (lat σ 3 b)), some (vi d), some (vi (hwM (mRt τ b d (fun v => v = 0)) k)), some (vi (hwM (mRt τ b d (fun v => v < 2)) k)), some (vi k), a6] [vi (cKnw τ k d)] σ (0, 0) := by
          refine rate_50 hv ?_
          have z1 : (if cKnw τ k d = 0 then 1 else 0) = b2i (mRt τ b d (fun v => v = 0) k) := by
            unfold mRt
            by_cases y : aI τ 110 k ≤ d
            · have ec : cKnw τ k d = mKn τ k d (fI τ 1380 61).toNat := if_pos ⟨⟨by omega, by omega⟩, y⟩
              rw [ec]
              by_cases y2 : mKn τ k d (fI τ 1380 61).toNat = 0
              · rw [if_pos y2, b2i_t ⟨cb, y, y2⟩]
              · rw [if_neg y2, b2i_f (fun z => y2 z.2.2)]
            · have ec : cKnw τ k d = -1 := if_neg (fun z => y z.2)
              rw [ec, if_neg (by decide), b2i_f (fun z => y z.2.1)]
          have z2 : (if cKnw τ k d = 0 ∨ cKnw τ k d = 1 then 1 else 0) = b2i (mRt τ b d (fun v => v < 2) k) := by
            unfold mRt
            by_cases y : aI τ 110 k ≤ d
            · have ec : cKnw τ k d = mKn τ k d (fI τ 1380 61).toNat := if_pos ⟨⟨by omega, by omega⟩, y⟩
              rw [ec]
              by_cases y2 : mKn τ k d (fI τ 1380 61).toNat < 2
              · rw [if_pos (by omega), b2i_t ⟨cb, y, y2⟩]
              · rw [if_neg (by omega), b2i_f (fun z => y2 z.2.2)]
            · have ec : cKnw τ k d = -1 := if_neg (fun z => y z.2)
              rw [ec, if_neg (by decide), b2i_f (fun z => y z.2.1)]
          rw [z1, z2]
          exact w _
        have hwd : ∃ τ, AL σ τ ∧ MI τ ∧ WI τ ∧ True := ⟨τ, hA, hI, hW, trivial⟩
        have e1' : fR σ 100 (lat σ 28 k) = lat σ 3 b := by rw [e1, cb]
        have w43 : Go M_X1_rateOn Q 43 [some (vr 27), some (vr (lat σ 3 b)), some (vi d), some (vi (hwM (mRt τ b d (fun v => v = 0)) k)), some (vi (hwM (mRt τ b d (fun v => v < 2)) k)), some (vi k), a6] [vi d, vi k, vr 27] σ (0, 0) := by
          refine go_X1_rateOn (ct := fun p => p == 50) 60 ?_
          simp only [oI, oL, oR, o1, lI, lL, lR, popN, catS, gv, stL, stL2, swt, cnd, spObj, List.getElem?_cons_zero, List.getElem?_cons_succ, List.getD_cons_zero, List.getD_cons_succ, List.set_cons_zero, List.set_cons_succ, List.nil_append, List.cons_append, Option.toList, Bool.or_false, Bool.false_or, Bool.or_true, Bool.true_or, Nat.reduceBEq, Nat.reduceAdd, Nat.reduceLT, Nat.reduceLeDiff, Int.reduceAdd, Int.reduceToNat, true_and, and_true, Fin.isValue, Fin.val_zero, Fin.val_one, Fin.val_two, Fin.reduceFinMk, eq_self, Int.reduceNeg, imp_self, Nat.reduceMul, Nat.le_refl, not_true_eq_false, not_false_eq_true, List.getElem?_nil, reduceCtorEq, true_or, or_true, Classical.not_not, implies_true, or_self, wI_0, wI_1, wI_m1, b2i_w, b2i_eq0, b2i_eq1, b2i_bool, nor_self, nx_pI, kd_pI, ln_pI, fI_pI, fL_pI, fR_pI, aI_pI, aL_pI, aR_pI, nx_pL, kd_pL, ln_pL, fI_pL, fL_pL, fR_pL, aI_pL, aL_pL, aR_pL, nx_pR, kd_pR, ln_pR, fI_pR, fL_pR, fR_pR, aI_pR, aL_pR, aR_pR, nx_qI, kd_qI, ln_qI, fI_qI, fL_qI, fR_qI, aI_qI, aL_qI, aR_qI, nx_qL, kd_qL, ln_qL, fI_qL, fL_qL, fR_qL, aI_qL, aL_qL, aR_qL, nx_qR, kd_qR, ln_qR, fI_qR, fL_qR, fR_qR, aI_qR, aL_qR, aR_qR, nx_mk, kd_mk, ln_mk, fI_mk, fL_mk, fR_mk, aI_mk, aL_mk, aR_mk, false_and, and_false, if_false, if_true, and_self, Int.reduceEq, Nat.reduceEqDiff, ite_self, MLay_pI, MLay_pL, MLay_qI, MLay_qL, ev_X1_rateOn_43, ev_X1_rateOn_46, xt_X1_rateOn, xf_X1_rateOn, us_Jx4a65c_size_8abf5, us_Jx4a65c_get_915e3, us_X1_wordOn, hC.eqs, hC, hrk, hrd]
          repeat' (first | intro z | apply And.intro)
          all_goals try omega
          all_goals try contradiction
          exact ⟨τ, hA, hI, hW, w2⟩
        clear w w2 h wl hwd ih hbx hbx2
        generalize hwM (mRt τ b d (fun v => v = 0)) k = x1 at *
        generalize hwM (mRt τ b d (fun v => v < 2)) k = x2 at *
        refine go_X1_rateOn (ct := fun p => p == 92 || p == 43 || p == 49) 60 ?_
        simp only [oI, oL, oR, o1, lI, lL, lR, popN, catS, gv, stL, stL2, swt, cnd, spObj, List.getElem?_cons_zero, List.getElem?_cons_succ, List.getD_cons_zero, List.getD_cons_succ, List.set_cons_zero, List.set_cons_succ, List.nil_append, List.cons_append, Option.toList, Bool.or_false, Bool.false_or, Bool.or_true, Bool.true_or, Nat.reduceBEq, Nat.reduceAdd, Nat.reduceLT, Nat.reduceLeDiff, Int.reduceAdd, Int.reduceToNat, true_and, and_true, Fin.isValue, Fin.val_zero, Fin.val_one, Fin.val_two, Fin.reduceFinMk, eq_self, Int.reduceNeg, imp_self, Nat.reduceMul, Nat.le_refl, not_true_eq_false, not_false_eq_true, List.getElem?_nil, reduceCtorEq, true_or, or_true, Classical.not_not, implies_true, or_self, wI_0, wI_1, wI_m1, b2i_w, b2i_eq0, b2i_eq1, b2i_bool, nor_self, nx_pI, kd_pI, ln_pI, fI_pI, fL_pI, fR_pI, aI_pI, aL_pI, aR_pI, nx_pL, kd_pL, ln_pL, fI_pL, fL_pL, fR_pL, aI_pL, aL_pL, aR_pL, nx_pR, kd_pR, ln_pR, fI_pR, fL_pR, fR_pR, aI_pR, aL_pR, aR_pR, nx_qI, kd_qI, ln_qI, fI_qI, fL_qI, fR_qI, aI_qI, aL_qI, aR_qI, nx_qL, kd_qL, ln_qL, fI_qL, fL_qL, fR_qL, aI_qL, aL_qL, aR_qL, nx_qR, kd_qR, ln_qR, fI_qR, fL_qR, fR_qR, aI_qR, aL_qR, aR_qR, nx_mk, kd_mk, ln_mk, fI_mk, fL_mk, fR_mk, aI_mk, aL_mk, aR_mk, false_and, and_false, if_false, if_true, and_self, Int.reduceEq, Nat.reduceEqDiff, ite_self, MLay_pI, MLay_pL, MLay_qI, MLay_qL, ev_X1_rateOn_8, ev_X1_rateOn_10, ev_X1_rateOn_11, ev_X1_rateOn_14, ev_X1_rateOn_17, ev_X1_rateOn_20, ev_X1_rateOn_21, ev_X1_rateOn_24, ev_X1_rateOn_26, ev_X1_rateOn_29, ev_X1_rateOn_32, ev_X1_rateOn_35, ev_X1_rateOn_36, ev_X1_rateOn_39, ev_X1_rateOn_40, ev_X1_rateOn_42, xt_X1_rateOn, xf_X1_rateOn, us_Jx4a65c_size_8abf5, us_Jx4a65c_get_915e3, us_X1_wordOn, hC.eqs, hsz, hLe, hka, e1']
        try simp (disch := omega) only [wI_id, dv_nn, rm_nn]
        repeat' (first | intro z | apply And.intro)
        all_goals try omega
        all_goals try contradiction
        all_goals exact w43
      · have hne : ¬ lat σ 3 (aI τ 109 k) = lat σ 3 b := fun z => cb (hB.inj ⟨hab0.1, hab⟩ hb z)
        have w2 : Go M_X1_rateOn Q 50 [some (vr 27), some (vr (lat σ 3 b)), some (vi d), some (vi (hwM (mRt τ b d (fun v => v = 0)) k)), some (vi (hwM (mRt τ b d (fun v => v < 2)) k)), some (vi k), a6] [vi (-1)] σ (0, 0) := by
          refine rate_50 (by omega) ?_
          have w := w (some (vi (-1)))
          rw [b2i_f (fun z => cb z.1), b2i_f (fun z => cb z.1)] at w
          exact w
        clear w h wl ih hbx hbx2 hA hB hW hAB
        generalize hwM (mRt τ b d (fun v => v = 0)) k = x1 at *
        generalize hwM (mRt τ b d (fun v => v < 2)) k = x2 at *
        refine go_X1_rateOn (ct := fun p => p == 92 || p == 39 || p == 50) 60 ?_
        simp only [oI, oL, oR, o1, lI, lL, lR, popN, catS, gv, stL, stL2, swt, cnd, spObj, List.getElem?_cons_zero, List.getElem?_cons_succ, List.getD_cons_zero, List.getD_cons_succ, List.set_cons_zero, List.set_cons_succ, List.nil_append, List.cons_append, Option.toList, Bool.or_false, Bool.false_or, Bool.or_true, Bool.true_or, Nat.reduceBEq, Nat.reduceAdd, Nat.reduceLT, Nat.reduceLeDiff, Int.reduceAdd, Int.reduceToNat, true_and, and_true, Fin.isValue, Fin.val_zero, Fin.val_one, Fin.val_two, Fin.reduceFinMk, eq_self, Int.reduceNeg, imp_self, Nat.reduceMul, Nat.le_refl, not_true_eq_false, not_false_eq_true, List.getElem?_nil, reduceCtorEq, true_or, or_true, Classical.not_not, implies_true, or_self, wI_0, wI_1, wI_m1, b2i_w, b2i_eq0, b2i_eq1, b2i_bool, nor_self, nx_pI, kd_pI, ln_pI, fI_pI, fL_pI, fR_pI, aI_pI, aL_pI, aR_pI, nx_pL, kd_pL, ln_pL, fI_pL, fL_pL, fR_pL, aI_pL, aL_pL, aR_pL, nx_pR, kd_pR, ln_pR, fI_pR, fL_pR, fR_pR, aI_pR, aL_pR, aR_pR, nx_qI, kd_qI, ln_qI, fI_qI, fL_qI, fR_qI, aI_qI, aL_qI, aR_qI, nx_qL, kd_qL, ln_qL, fI_qL, fL_qL, fR_qL, aI_qL, aL_qL, aR_qL, nx_qR, kd_qR, ln_qR, fI_qR, fL_qR, fR_qR, aI_qR, aL_qR, aR_qR, nx_mk, kd_mk, ln_mk, fI_mk, fL_mk, fR_mk, aI_mk, aL_mk, aR_mk, false_and, and_false, if_false, if_true, and_self, Int.reduceEq, Nat.reduceEqDiff, ite_self, MLay_pI, MLay_pL, MLay_qI, MLay_qL, ev_X1_rateOn_8, ev_X1_rateOn_10, ev_X1_rateOn_11, ev_X1_rateOn_14, ev_X1_rateOn_17, ev_X1_rateOn_20, ev_X1_rateOn_21, ev_X1_rateOn_24, ev_X1_rateOn_26, ev_X1_rateOn_29, ev_X1_rateOn_32, ev_X1_rateOn_35, ev_X1_rateOn_36, ev_X1_rateOn_49, xt_X1_rateOn, xf_X1_rateOn, us_Jx4a65c_size_8abf5, us_Jx4a65c_get_915e3, us_X1_wordOn, hC.eqs, hsz, hLe, hka, e1, hne]
        try simp (disch := omega) only [wI_id, dv_nn, rm_nn]
        repeat' (first | intro z | apply And.intro)
        all_goals try omega
        all_goals try contradiction
        all_goals exact w2
  have w := loop (fI τ 1371 61).toNat 0 none (by omega)
  have w : Go M_X1_rateOn Q 8 [some (vr 27), some (vr (lat σ 3 b)), some (vi d), some (vi 0), some (vi 0), some (vi 0), none] [] σ (0, 0) := w
  clear loop h hA hB hI hW hAB
  refine go_X1_rateOn (ct := fun p => p == 8) 40 ?_
  simp only [oI, oL, oR, o1, lI, lL, lR, popN, catS, gv, stL, stL2, swt, cnd, spObj, List.getElem?_cons_zero, List.getElem?_cons_succ, List.getD_cons_zero, List.getD_cons_succ, List.set_cons_zero, List.set_cons_succ, List.nil_append, List.cons_append, Option.toList, Bool.or_false, Bool.false_or, Bool.or_true, Bool.true_or, Nat.reduceBEq, Nat.reduceAdd, Nat.reduceLT, Nat.reduceLeDiff, Int.reduceAdd, Int.reduceToNat, true_and, and_true, Fin.isValue, Fin.val_zero, Fin.val_one, Fin.val_two, Fin.reduceFinMk, eq_self, Int.reduceNeg, imp_self, Nat.reduceMul, Nat.le_refl, not_true_eq_false, not_false_eq_true, List.getElem?_nil, reduceCtorEq, true_or, or_true, Classical.not_not, implies_true, or_self, wI_0, wI_1, wI_m1, b2i_w, b2i_eq0, b2i_eq1, b2i_bool, nor_self, nx_pI, kd_pI, ln_pI, fI_pI, fL_pI, fR_pI, aI_pI, aL_pI, aR_pI, nx_pL, kd_pL, ln_pL, fI_pL, fL_pL, fR_pL, aI_pL, aL_pL, aR_pL, nx_pR, kd_pR, ln_pR, fI_pR, fL_pR, fR_pR, aI_pR, aL_pR, aR_pR, nx_qI, kd_qI, ln_qI, fI_qI, fL_qI, fR_qI, aI_qI, aL_qI, aR_qI, nx_qL, kd_qL, ln_qL, fI_qL, fL_qL, fR_qL, aI_qL, aL_qL, aR_qL, nx_qR, kd_qR, ln_qR, fI_qR, fL_qR, fR_qR, aI_qR, aL_qR, aR_qR, nx_mk, kd_mk, ln_mk, fI_mk, fL_mk, fR_mk, aI_mk, aL_mk, aR_mk, false_and, and_false, if_false, if_true, and_self, Int.reduceEq, Nat.reduceEqDiff, ite_self, MLay_pI, MLay_pL, MLay_qI, MLay_qL, ev_X1_rateOn_0, ev_X1_rateOn_1, ev_X1_rateOn_2, ev_X1_rateOn_3, ev_X1_rateOn_5, ev_X1_rateOn_6, xt_X1_rateOn, xf_X1_rateOn, us_Jx4a65c_size_8abf5, us_Jx4a65c_get_915e3, us_X1_wordOn]
  exact w

/-- a sign on the tape of letters -/
def cSg (σ : Hp) (c : Int) : Hp := if (c = 10 ∨ (32 ≤ c ∧ c ≤ 126)) ∧ fI σ 901 24 < 1000 then pI (qI σ 25 (fI σ 901 24) c) 901 24 (fI σ 901 24 + 1) else σ

def sp_X8_takeSign : Sp := fun av σ Q => oR av fun this av => oI av fun c av => av = [] ∧ kd σ this = 9 ∧ (this = 24 ∧ CLay σ ∧ (0 ≤ c ∧ c < 65536) ∧ (0 ≤ fI σ 901 24 ∧ fI σ 901 24 ≤ 1000) ∧ Q none (cSg σ c))
theorem us_X8_takeSign (this : Int) (c : Int) (σ : Hp) (Q : Option AV → Hp → Prop) : sp_X8_takeSign [vr this, vi c] σ Q = (kd σ this = 9 ∧ (this = 24 ∧ CLay σ ∧ (0 ≤ c ∧ c < 65536) ∧ (0 ≤ fI σ 901 24 ∧ fI σ 901 24 ≤ 1000) ∧ Q none (cSg σ c))) := propext ⟨fun h => h.2, fun h => ⟨rfl, h⟩⟩
theorem el_X8_takeSign {av : List AV} {σ : Hp} {Q : Option AV → Hp → Prop} (h : sp_X8_takeSign av σ Q) : ∃ (this : Int) (c : Int), av = [vr this, vi c] ∧ (kd σ this = 9 ∧ (this = 24 ∧ CLay σ ∧ (0 ≤ c ∧ c < 65536) ∧ (0 ≤ fI σ 901 24 ∧ fI σ 901 24 ≤ 1000) ∧ Q none (cSg σ c))) := by
  obtain ⟨this, a0, rfl, h0⟩ := oR_s h
  obtain ⟨c, a1, rfl, h1⟩ := oI_s h0
  obtain ⟨rfl, hz⟩ := h1
  exact ⟨this, c, rfl, hz⟩
theorem rc_X8_takeSign : ∀ (av : List AV) (σ : Hp) (Q : Option AV → Hp → Prop), sp_X8_takeSign av σ Q → ∃ r tl, av = vr r :: tl ∧ kd σ r = 8 + 1 := fun av σ Q h => by
  obtain ⟨this, c, rfl, hz, -⟩ := el_X8_takeSign h
  exact ⟨this, _, rfl, hz⟩

def tb_X8_takeSign : Tab := [(0, .iload_n 1, 1, (0, 0, 0, 0)), (1, .bipush 10, 2, (0, 0, 0, 0)), (3, .if_icmp .eq 15, 3, (0, 0, 0, 0)), (6, .iload_n 1, 1, (0, 0, 0, 0)), (7, .bipush 32, 2, (0, 0, 0, 0)), (9, .if_icmp .lt 13, 3, (0, 0, 0, 0)), (12, .iload_n 1, 1, (0, 0, 0, 0)), (13, .bipush 126, 2, (0, 0, 0, 0)), (15, .if_icmp .gt 7, 3, (0, 0, 0, 0)), (18, .iconst 1, 1, (0, 0, 0, 0)), (19, .goto 4, 3, (0, 0, 0, 0)), (22, .iconst 0, 1, (0, 0, 0, 0)), (23, .istore_n 2, 1, (0, 0, 0, 0)), (24, .iload_n 2, 1, (0, 0, 0, 0)), (25, .ifCond .eq 42, 3, (0, 0, 0, 0)), (28, .aload_n 0, 1, (0, 0, 0, 0)), (29, .getfield 15, 3, (9, 901, 0, 0)), (32, .ifCond .lt 35, 3, (0, 0, 0, 0)), (35, .aload_n 0, 1, (0, 0, 0, 0)), (36, .getfield 15, 3, (9, 901, 0, 0)), (39, .aload_n 0, 1, (0, 0, 0, 0)), (40, .getfield 9, 3, (9, 900, 2, 0)), (43, .arraylength, 1, (0, 0, 0, 0)), (44, .if_icmp .ge 23, 3, (0, 0, 0, 0)), (47, .aload_n 0, 1, (0, 0, 0, 0)), (48, .getfield 9, 3, (9, 900, 2, 0)), (51, .aload_n 0, 1, (0, 0, 0, 0)), (52, .getfield 15, 3, (9, 901, 0, 0)), (55, .iload_n 1, 1, (0, 0, 0, 0)), (56, .castore, 1, (0, 0, 0, 0)), (57, .aload_n 0, 1, (0, 0, 0, 0)), (58, .dup, 1, (0, 0, 0, 0)), (59, .getfield 15, 3, (9, 901, 0, 0)), (62, .iconst 1, 1, (0, 0, 0, 0)), (63, .iadd, 1, (0, 0, 0, 0)), (64, .putfield 15, 3, (9, 901, 0, 0)), (67, .return_, 1, (0, 0, 0, 0))]
set_option maxRecDepth 100000 in
theorem tk_X8_takeSign : TOK RX8 false cX8_takeSign tb_X8_takeSign := chkT_ok ft_X8 (by decide +kernel)
def mt_X8_takeSign : List (Nat × Mt) := []
theorem mk_X8_takeSign : MOK RX8 mt_X8_takeSign := fun q hq => by cases hq
noncomputable def xe_X8_takeSign (ct : Nat → Bool) (K : Kt) (R : Option AV → Hp → Prop) (n : Nat) : Kt := exS 3 1 0 0 0 tb_X8_takeSign mt_X8_takeSign ct K R n
noncomputable def xk_X8_takeSign (ct : Nat → Bool) (K : Kt) (R : Option AV → Hp → Prop) (n : Nat) : Kt := exkS 3 1 0 0 0 tb_X8_takeSign mt_X8_takeSign ct K R n
theorem xt_X8_takeSign {ct : Nat → Bool} {K : Kt} {R : Option AV → Hp → Prop} {n pc : Nat} {ls : List (Option AV)} {st : List AV} {σ : Hp} {k : Nat × Nat} (h : ct pc = true) : xk_X8_takeSign ct K R n pc ls st σ k = K pc ls st σ k := by unfold xk_X8_takeSign exkS; rw [h]
theorem xf_X8_takeSign {ct : Nat → Bool} {K : Kt} {R : Option AV → Hp → Prop} {n pc : Nat} {ls : List (Option AV)} {st : List AV} {σ : Hp} {k : Nat × Nat} (h : ct pc = false) : xk_X8_takeSign ct K R n pc ls st σ k = xe_X8_takeSign ct K R n pc ls st σ k := by unfold xk_X8_takeSign exkS xe_X8_takeSign; rw [h]
theorem ev_X8_takeSign_0 {ct : Nat → Bool} {K : Kt} {R : Option AV → Hp → Prop} {n : Nat} {ls : List (Option AV)} {st : List AV} {σ : Hp} {k : Nat × Nat} : xe_X8_takeSign ct K R (n + 1) 0 ls st σ k = (lI ls 1 fun x => xk_X8_takeSign ct K R n 1 ls (vi x :: st) σ k) := exS_step.trans rfl
theorem ev_X8_takeSign_1 {ct : Nat → Bool} {K : Kt} {R : Option AV → Hp → Prop} {n : Nat} {ls : List (Option AV)} {st : List AV} {σ : Hp} {k : Nat × Nat} : xe_X8_takeSign ct K R (n + 1) 1 ls st σ k = (xk_X8_takeSign ct K R n 3 ls (vi (10) :: st) σ k) := exS_step.trans rfl
theorem ev_X8_takeSign_3 {ct : Nat → Bool} {K : Kt} {R : Option AV → Hp → Prop} {n : Nat} {ls : List (Option AV)} {st : List AV} {σ : Hp} {k : Nat × Nat} : xe_X8_takeSign ct K R (n + 1) 3 ls st σ k = (oI st fun y st => oI st fun x st => (wI x = wI y → xk_X8_takeSign ct K R n 18 ls st σ k) ∧ (¬ (wI x = wI y) → xk_X8_takeSign ct K R n 6 ls st σ k)) := exS_step.trans rfl
theorem ev_X8_takeSign_6 {ct : Nat → Bool} {K : Kt} {R : Option AV → Hp → Prop} {n : Nat} {ls : List (Option AV)} {st : List AV} {σ : Hp} {k : Nat × Nat} : xe_X8_takeSign ct K R (n + 1) 6 ls st σ k = (lI ls 1 fun x => xk_X8_takeSign ct K R n 7 ls (vi x :: st) σ k) := exS_step.trans rfl
theorem ev_X8_takeSign_7 {ct : Nat → Bool} {K : Kt} {R : Option AV → Hp → Prop} {n : Nat} {ls : List (Option AV)} {st : List AV} {σ : Hp} {k : Nat × Nat} : xe_X8_takeSign ct K R (n + 1) 7 ls st σ k = (xk_X8_takeSign ct K R n 9 ls (vi (32) :: st) σ k) := exS_step.trans rfl
theorem ev_X8_takeSign_9 {ct : Nat → Bool} {K : Kt} {R : Option AV → Hp → Prop} {n : Nat} {ls : List (Option AV)} {st : List AV} {σ : Hp} {k : Nat × Nat} : xe_X8_takeSign ct K R (n + 1) 9 ls st σ k = (oI st fun y st => oI st fun x st => (wI x < wI y → xk_X8_takeSign ct K R n 22 ls st σ k) ∧ (¬ (wI x < wI y) → xk_X8_takeSign ct K R n 12 ls st σ k)) := exS_step.trans rfl
theorem ev_X8_takeSign_12 {ct : Nat → Bool} {K : Kt} {R : Option AV → Hp → Prop} {n : Nat} {ls : List (Option AV)} {st : List AV} {σ : Hp} {k : Nat × Nat} : xe_X8_takeSign ct K R (n + 1) 12 ls st σ k = (lI ls 1 fun x => xk_X8_takeSign ct K R n 13 ls (vi x :: st) σ k) := exS_step.trans rfl
theorem ev_X8_takeSign_13 {ct : Nat → Bool} {K : Kt} {R : Option AV → Hp → Prop} {n : Nat} {ls : List (Option AV)} {st : List AV} {σ : Hp} {k : Nat × Nat} : xe_X8_takeSign ct K R (n + 1) 13 ls st σ k = (xk_X8_takeSign ct K R n 15 ls (vi (126) :: st) σ k) := exS_step.trans rfl
theorem ev_X8_takeSign_15 {ct : Nat → Bool} {K : Kt} {R : Option AV → Hp → Prop} {n : Nat} {ls : List (Option AV)} {st : List AV} {σ : Hp} {k : Nat × Nat} : xe_X8_takeSign ct K R (n + 1) 15 ls st σ k = (oI st fun y st => oI st fun x st => (wI y < wI x → xk_X8_takeSign ct K R n 22 ls st σ k) ∧ (¬ (wI y < wI x) → xk_X8_takeSign ct K R n 18 ls st σ k)) := exS_step.trans rfl
theorem ev_X8_takeSign_18 {ct : Nat → Bool} {K : Kt} {R : Option AV → Hp → Prop} {n : Nat} {ls : List (Option AV)} {st : List AV} {σ : Hp} {k : Nat × Nat} : xe_X8_takeSign ct K R (n + 1) 18 ls st σ k = (xk_X8_takeSign ct K R n 19 ls (vi (1) :: st) σ k) := exS_step.trans rfl
theorem ev_X8_takeSign_19 {ct : Nat → Bool} {K : Kt} {R : Option AV → Hp → Prop} {n : Nat} {ls : List (Option AV)} {st : List AV} {σ : Hp} {k : Nat × Nat} : xe_X8_takeSign ct K R (n + 1) 19 ls st σ k = (xk_X8_takeSign ct K R n 23 ls st σ k) := exS_step.trans rfl
theorem ev_X8_takeSign_22 {ct : Nat → Bool} {K : Kt} {R : Option AV → Hp → Prop} {n : Nat} {ls : List (Option AV)} {st : List AV} {σ : Hp} {k : Nat × Nat} : xe_X8_takeSign ct K R (n + 1) 22 ls st σ k = (xk_X8_takeSign ct K R n 23 ls (vi (0) :: st) σ k) := exS_step.trans rfl
theorem ev_X8_takeSign_23 {ct : Nat → Bool} {K : Kt} {R : Option AV → Hp → Prop} {n : Nat} {ls : List (Option AV)} {st : List AV} {σ : Hp} {k : Nat × Nat} : xe_X8_takeSign ct K R (n + 1) 23 ls st σ k = (oI st fun x st => 2 < 3 ∧ xk_X8_takeSign ct K R n 24 (stL ls 2 (vi x)) st σ k) := exS_step.trans rfl
theorem ev_X8_takeSign_24 {ct : Nat → Bool} {K : Kt} {R : Option AV → Hp → Prop} {n : Nat} {ls : List (Option AV)} {st : List AV} {σ : Hp} {k : Nat × Nat} : xe_X8_takeSign ct K R (n + 1) 24 ls st σ k = (lI ls 2 fun x => xk_X8_takeSign ct K R n 25 ls (vi x :: st) σ k) := exS_step.trans rfl
theorem ev_X8_takeSign_25 {ct : Nat → Bool} {K : Kt} {R : Option AV → Hp → Prop} {n : Nat} {ls : List (Option AV)} {st : List AV} {σ : Hp} {k : Nat × Nat} : xe_X8_takeSign ct K R (n + 1) 25 ls st σ k = (oI st fun x st => (wI x = wI 0 → xk_X8_takeSign ct K R n 67 ls st σ k) ∧ (¬ (wI x = wI 0) → xk_X8_takeSign ct K R n 28 ls st σ k)) := exS_step.trans rfl
theorem ev_X8_takeSign_28 {ct : Nat → Bool} {K : Kt} {R : Option AV → Hp → Prop} {n : Nat} {ls : List (Option AV)} {st : List AV} {σ : Hp} {k : Nat × Nat} : xe_X8_takeSign ct K R (n + 1) 28 ls st σ k = (lR ls 0 fun x => xk_X8_takeSign ct K R n 29 ls (vr x :: st) σ k) := exS_step.trans rfl
theorem ev_X8_takeSign_29 {ct : Nat → Bool} {K : Kt} {R : Option AV → Hp → Prop} {n : Nat} {ls : List (Option AV)} {st : List AV} {σ : Hp} {k : Nat × Nat} : xe_X8_takeSign ct K R (n + 1) 29 ls st σ k = (oR st fun x st => kd σ x = 9 ∧ xk_X8_takeSign ct K R n 32 ls (vi (fI σ 901 x) :: st) σ k) := exS_step.trans rfl
theorem ev_X8_takeSign_32 {ct : Nat → Bool} {K : Kt} {R : Option AV → Hp → Prop} {n : Nat} {ls : List (Option AV)} {st : List AV} {σ : Hp} {k : Nat × Nat} : xe_X8_takeSign ct K R (n + 1) 32 ls st σ k = (oI st fun x st => (wI x < wI 0 → xk_X8_takeSign ct K R n 67 ls st σ k) ∧ (¬ (wI x < wI 0) → xk_X8_takeSign ct K R n 35 ls st σ k)) := exS_step.trans rfl
theorem ev_X8_takeSign_35 {ct : Nat → Bool} {K : Kt} {R : Option AV → Hp → Prop} {n : Nat} {ls : List (Option AV)} {st : List AV} {σ : Hp} {k : Nat × Nat} : xe_X8_takeSign ct K R (n + 1) 35 ls st σ k = (lR ls 0 fun x => xk_X8_takeSign ct K R n 36 ls (vr x :: st) σ k) := exS_step.trans rfl
theorem ev_X8_takeSign_36 {ct : Nat → Bool} {K : Kt} {R : Option AV → Hp → Prop} {n : Nat} {ls : List (Option AV)} {st : List AV} {σ : Hp} {k : Nat × Nat} : xe_X8_takeSign ct K R (n + 1) 36 ls st σ k = (oR st fun x st => kd σ x = 9 ∧ xk_X8_takeSign ct K R n 39 ls (vi (fI σ 901 x) :: st) σ k) := exS_step.trans rfl
theorem ev_X8_takeSign_39 {ct : Nat → Bool} {K : Kt} {R : Option AV → Hp → Prop} {n : Nat} {ls : List (Option AV)} {st : List AV} {σ : Hp} {k : Nat × Nat} : xe_X8_takeSign ct K R (n + 1) 39 ls st σ k = (lR ls 0 fun x => xk_X8_takeSign ct K R n 40 ls (vr x :: st) σ k) := exS_step.trans rfl
theorem ev_X8_takeSign_40 {ct : Nat → Bool} {K : Kt} {R : Option AV → Hp → Prop} {n : Nat} {ls : List (Option AV)} {st : List AV} {σ : Hp} {k : Nat × Nat} : xe_X8_takeSign ct K R (n + 1) 40 ls st σ k = (oR st fun x st => kd σ x = 9 ∧ xk_X8_takeSign ct K R n 43 ls (vr (fR σ 900 x) :: st) σ k) := exS_step.trans rfl
theorem ev_X8_takeSign_43 {ct : Nat → Bool} {K : Kt} {R : Option AV → Hp → Prop} {n : Nat} {ls : List (Option AV)} {st : List AV} {σ : Hp} {k : Nat × Nat} : xe_X8_takeSign ct K R (n + 1) 43 ls st σ k = (oR st fun x st => (101 ≤ kd σ x ∨ kd σ x = 21) ∧ xk_X8_takeSign ct K R n 44 ls (vi (ln σ x) :: st) σ k) := exS_step.trans rfl
theorem ev_X8_takeSign_44 {ct : Nat → Bool} {K : Kt} {R : Option AV → Hp → Prop} {n : Nat} {ls : List (Option AV)} {st : List AV} {σ : Hp} {k : Nat × Nat} : xe_X8_takeSign ct K R (n + 1) 44 ls st σ k = (oI st fun y st => oI st fun x st => (wI y ≤ wI x → xk_X8_takeSign ct K R n 67 ls st σ k) ∧ (¬ (wI y ≤ wI x) → xk_X8_takeSign ct K R n 47 ls st σ k)) := exS_step.trans rfl
theorem ev_X8_takeSign_47 {ct : Nat → Bool} {K : Kt} {R : Option AV → Hp → Prop} {n : Nat} {ls : List (Option AV)} {st : List AV} {σ : Hp} {k : Nat × Nat} : xe_X8_takeSign ct K R (n + 1) 47 ls st σ k = (lR ls 0 fun x => xk_X8_takeSign ct K R n 48 ls (vr x :: st) σ k) := exS_step.trans rfl
theorem ev_X8_takeSign_48 {ct : Nat → Bool} {K : Kt} {R : Option AV → Hp → Prop} {n : Nat} {ls : List (Option AV)} {st : List AV} {σ : Hp} {k : Nat × Nat} : xe_X8_takeSign ct K R (n + 1) 48 ls st σ k = (oR st fun x st => kd σ x = 9 ∧ xk_X8_takeSign ct K R n 51 ls (vr (fR σ 900 x) :: st) σ k) := exS_step.trans rfl
theorem ev_X8_takeSign_51 {ct : Nat → Bool} {K : Kt} {R : Option AV → Hp → Prop} {n : Nat} {ls : List (Option AV)} {st : List AV} {σ : Hp} {k : Nat × Nat} : xe_X8_takeSign ct K R (n + 1) 51 ls st σ k = (lR ls 0 fun x => xk_X8_takeSign ct K R n 52 ls (vr x :: st) σ k) := exS_step.trans rfl
theorem ev_X8_takeSign_52 {ct : Nat → Bool} {K : Kt} {R : Option AV → Hp → Prop} {n : Nat} {ls : List (Option AV)} {st : List AV} {σ : Hp} {k : Nat × Nat} : xe_X8_takeSign ct K R (n + 1) 52 ls st σ k = (oR st fun x st => kd σ x = 9 ∧ xk_X8_takeSign ct K R n 55 ls (vi (fI σ 901 x) :: st) σ k) := exS_step.trans rfl
theorem ev_X8_takeSign_55 {ct : Nat → Bool} {K : Kt} {R : Option AV → Hp → Prop} {n : Nat} {ls : List (Option AV)} {st : List AV} {σ : Hp} {k : Nat × Nat} : xe_X8_takeSign ct K R (n + 1) 55 ls st σ k = (lI ls 1 fun x => xk_X8_takeSign ct K R n 56 ls (vi x :: st) σ k) := exS_step.trans rfl
theorem ev_X8_takeSign_56 {ct : Nat → Bool} {K : Kt} {R : Option AV → Hp → Prop} {n : Nat} {ls : List (Option AV)} {st : List AV} {σ : Hp} {k : Nat × Nat} : xe_X8_takeSign ct K R (n + 1) 56 ls st σ k = (oI st fun v st => oI st fun j st => oR st fun x st => kd σ x = 104 ∧ (0 ≤ j ∧ j < ln σ x) ∧ (0 ≤ v ∧ v < 65536) ∧ xk_X8_takeSign ct K R n 57 ls st (qI σ x j v) k) := exS_step.trans rfl
theorem ev_X8_takeSign_57 {ct : Nat → Bool} {K : Kt} {R : Option AV → Hp → Prop} {n : Nat} {ls : List (Option AV)} {st : List AV} {σ : Hp} {k : Nat × Nat} : xe_X8_takeSign ct K R (n + 1) 57 ls st σ k = (lR ls 0 fun x => xk_X8_takeSign ct K R n 58 ls (vr x :: st) σ k) := exS_step.trans rfl
theorem ev_X8_takeSign_58 {ct : Nat → Bool} {K : Kt} {R : Option AV → Hp → Prop} {n : Nat} {ls : List (Option AV)} {st : List AV} {σ : Hp} {k : Nat × Nat} : xe_X8_takeSign ct K R (n + 1) 58 ls st σ k = (o1 st fun v st => xk_X8_takeSign ct K R n 59 ls (v :: v :: st) σ k) := exS_step.trans rfl
theorem ev_X8_takeSign_59 {ct : Nat → Bool} {K : Kt} {R : Option AV → Hp → Prop} {n : Nat} {ls : List (Option AV)} {st : List AV} {σ : Hp} {k : Nat × Nat} : xe_X8_takeSign ct K R (n + 1) 59 ls st σ k = (oR st fun x st => kd σ x = 9 ∧ xk_X8_takeSign ct K R n 62 ls (vi (fI σ 901 x) :: st) σ k) := exS_step.trans rfl
theorem ev_X8_takeSign_62 {ct : Nat → Bool} {K : Kt} {R : Option AV → Hp → Prop} {n : Nat} {ls : List (Option AV)} {st : List AV} {σ : Hp} {k : Nat × Nat} : xe_X8_takeSign ct K R (n + 1) 62 ls st σ k = (xk_X8_takeSign ct K R n 63 ls (vi (1) :: st) σ k) := exS_step.trans rfl
theorem ev_X8_takeSign_63 {ct : Nat → Bool} {K : Kt} {R : Option AV → Hp → Prop} {n : Nat} {ls : List (Option AV)} {st : List AV} {σ : Hp} {k : Nat × Nat} : xe_X8_takeSign ct K R (n + 1) 63 ls st σ k = (oI st fun y st => oI st fun x st => xk_X8_takeSign ct K R n 64 ls (vi (x + y) :: st) σ k) := exS_step.trans rfl
theorem ev_X8_takeSign_64 {ct : Nat → Bool} {K : Kt} {R : Option AV → Hp → Prop} {n : Nat} {ls : List (Option AV)} {st : List AV} {σ : Hp} {k : Nat × Nat} : xe_X8_takeSign ct K R (n + 1) 64 ls st σ k = (oI st fun v st => oR st fun x st => kd σ x = 9 ∧ xk_X8_takeSign ct K R n 67 ls st (pI σ 901 x v) k) := exS_step.trans rfl
theorem ev_X8_takeSign_67 {ct : Nat → Bool} {K : Kt} {R : Option AV → Hp → Prop} {n : Nat} {ls : List (Option AV)} {st : List AV} {σ : Hp} {k : Nat × Nat} : xe_X8_takeSign ct K R (n + 1) 67 ls st σ k = (st = [] ∧ 0 = 0 ∧ R none σ) := exS_step.trans rfl
def M_X8_takeSign : Md := (yX8_takeSign, cX8_takeSign, 3, (none : Option FieldType), 1, 0, 0, 0, false, tb_X8_takeSign, mt_X8_takeSign)
theorem mm_X8_takeSign : MMOK M_X8_takeSign := ⟨by decide +kernel, tk_X8_takeSign, mk_X8_takeSign, rfl, fun h => by cases h⟩
theorem go_X8_takeSign {Q : Option AV → Hp → Prop} {ct : Nat → Bool} {pc : Nat} {ls : List (Option AV)} {st : List AV} {σ : Hp} {k : Nat × Nat} (n : Nat) (h : xe_X8_takeSign ct (Go M_X8_takeSign Q) Q n pc ls st σ k) : Go M_X8_takeSign Q pc ls st σ k := Go.exS mm_X8_takeSign h

set_option maxRecDepth 20000 in
theorem c_X8_takeSign : Ct yX8_takeSign cX8_takeSign 3 ((none : Option FieldType)) 1 0 0 sp_X8_takeSign := by
  refine Ct.go (M := M_X8_takeSign) mm_X8_takeSign fun av σ Q h0 => ?_
  obtain ⟨this, c, rfl, hk, h⟩ := el_X8_takeSign h0
  clear h0
  refine ⟨Nat.le_of_ble_eq_true rfl, ?_⟩
  show Go M_X8_takeSign Q 0 [some (vr this), some (vi c), none] [] σ (0, 0)
  obtain ⟨rfl, hC, hc, hh, h⟩ := h
  unfold cSg at h
  have w24 : ∀ b : Int, (b = if c = 10 ∨ (32 ≤ c ∧ c ≤ 126) then 1 else 0) → Go M_X8_takeSign Q 24 [some (vr 24), some (vi c), some (vi b)] [] σ (0, 0) := fun b hb => by
    by_cases y : c = 10 ∨ (32 ≤ c ∧ c ≤ 126)
    · rw [if_pos y] at hb
      subst hb
      by_cases y2 : fI σ 901 24 < 1000
      · rw [if_pos ⟨y, y2⟩] at h
        refine go_X8_takeSign (ct := fun p => p == 0) 60 ?_
        simp only [oI, oL, oR, o1, lI, lL, lR, popN, catS, gv, stL, stL2, swt, cnd, spObj, List.getElem?_cons_zero, List.getElem?_cons_succ, List.getD_cons_zero, List.getD_cons_succ, List.set_cons_zero, List.set_cons_succ, List.nil_append, List.cons_append, Option.toList, Bool.or_false, Bool.false_or, Bool.or_true, Bool.true_or, Nat.reduceBEq, Nat.reduceAdd, Nat.reduceLT, Nat.reduceLeDiff, Int.reduceAdd, Int.reduceToNat, true_and, and_true, Fin.isValue, Fin.val_zero, Fin.val_one, Fin.val_two, Fin.reduceFinMk, eq_self, Int.reduceNeg, imp_self, Nat.reduceMul, Nat.le_refl, not_true_eq_false, not_false_eq_true, List.getElem?_nil, reduceCtorEq, true_or, or_true, Classical.not_not, implies_true, or_self, wI_0, wI_1, wI_m1, b2i_w, b2i_eq0, b2i_eq1, b2i_bool, nor_self, nx_pI, kd_pI, ln_pI, fI_pI, fL_pI, fR_pI, aI_pI, aL_pI, aR_pI, nx_pL, kd_pL, ln_pL, fI_pL, fL_pL, fR_pL, aI_pL, aL_pL, aR_pL, nx_pR, kd_pR, ln_pR, fI_pR, fL_pR, fR_pR, aI_pR, aL_pR, aR_pR, nx_qI, kd_qI, ln_qI, fI_qI, fL_qI, fR_qI, aI_qI, aL_qI, aR_qI, nx_qL, kd_qL, ln_qL, fI_qL, fL_qL, fR_qL, aI_qL, aL_qL, aR_qL, nx_qR, kd_qR, ln_qR, fI_qR, fL_qR, fR_qR, aI_qR, aL_qR, aR_qR, nx_mk, kd_mk, ln_mk, fI_mk, fL_mk, fR_mk, aI_mk, aL_mk, aR_mk, false_and, and_false, if_false, if_true, and_self, Int.reduceEq, Nat.reduceEqDiff, ite_self, MLay_pI, MLay_pL, MLay_qI, MLay_qL, ev_X8_takeSign_24, ev_X8_takeSign_25, ev_X8_takeSign_28, ev_X8_takeSign_29, ev_X8_takeSign_32, ev_X8_takeSign_35, ev_X8_takeSign_36, ev_X8_takeSign_39, ev_X8_takeSign_40, ev_X8_takeSign_43, ev_X8_takeSign_44, ev_X8_takeSign_47, ev_X8_takeSign_48, ev_X8_takeSign_51, ev_X8_takeSign_52, ev_X8_takeSign_55, ev_X8_takeSign_56, ev_X8_takeSign_57, ev_X8_takeSign_58, ev_X8_takeSign_59, ev_X8_takeSign_62, ev_X8_takeSign_63, ev_X8_takeSign_64, ev_X8_takeSign_67, xt_X8_takeSign, xf_X8_takeSign, hC.eqs]
        try simp (disch := omega) only [wI_id, dv_nn, rm_nn]
        repeat' (first | intro z | apply And.intro)
        all_goals try omega
        all_goals try contradiction
        all_goals exact h
      · rw [if_neg (fun z => y2 z.2)] at h
        refine go_X8_takeSign (ct := fun p => p == 47) 60 ?_
        simp only [oI, oL, oR, o1, lI, lL, lR, popN, catS, gv, stL, stL2, swt, cnd, spObj, List.getElem?_cons_zero, List.getElem?_cons_succ, List.getD_cons_zero, List.getD_cons_succ, List.set_cons_zero, List.set_cons_succ, List.nil_append, List.cons_append, Option.toList, Bool.or_false, Bool.false_or, Bool.or_true, Bool.true_or, Nat.reduceBEq, Nat.reduceAdd, Nat.reduceLT, Nat.reduceLeDiff, Int.reduceAdd, Int.reduceToNat, true_and, and_true, Fin.isValue, Fin.val_zero, Fin.val_one, Fin.val_two, Fin.reduceFinMk, eq_self, Int.reduceNeg, imp_self, Nat.reduceMul, Nat.le_refl, not_true_eq_false, not_false_eq_true, List.getElem?_nil, reduceCtorEq, true_or, or_true, Classical.not_not, implies_true, or_self, wI_0, wI_1, wI_m1, b2i_w, b2i_eq0, b2i_eq1, b2i_bool, nor_self, nx_pI, kd_pI, ln_pI, fI_pI, fL_pI, fR_pI, aI_pI, aL_pI, aR_pI, nx_pL, kd_pL, ln_pL, fI_pL, fL_pL, fR_pL, aI_pL, aL_pL, aR_pL, nx_pR, kd_pR, ln_pR, fI_pR, fL_pR, fR_pR, aI_pR, aL_pR, aR_pR, nx_qI, kd_qI, ln_qI, fI_qI, fL_qI, fR_qI, aI_qI, aL_qI, aR_qI, nx_qL, kd_qL, ln_qL, fI_qL, fL_qL, fR_qL, aI_qL, aL_qL, aR_qL, nx_qR, kd_qR, ln_qR, fI_qR, fL_qR, fR_qR, aI_qR, aL_qR, aR_qR, nx_mk, kd_mk, ln_mk, fI_mk, fL_mk, fR_mk, aI_mk, aL_mk, aR_mk, false_and, and_false, if_false, if_true, and_self, Int.reduceEq, Nat.reduceEqDiff, ite_self, MLay_pI, MLay_pL, MLay_qI, MLay_qL, ev_X8_takeSign_24, ev_X8_takeSign_25, ev_X8_takeSign_28, ev_X8_takeSign_29, ev_X8_takeSign_32, ev_X8_takeSign_35, ev_X8_takeSign_36, ev_X8_takeSign_39, ev_X8_takeSign_40, ev_X8_takeSign_43, ev_X8_takeSign_44, ev_X8_takeSign_47, ev_X8_takeSign_48, ev_X8_takeSign_51, ev_X8_takeSign_52, ev_X8_takeSign_55, ev_X8_takeSign_56, ev_X8_takeSign_57, ev_X8_takeSign_58, ev_X8_takeSign_59, ev_X8_takeSign_62, ev_X8_takeSign_63, ev_X8_takeSign_64, ev_X8_takeSign_67, xt_X8_takeSign, xf_X8_takeSign, hC.eqs]
        try simp (disch := omega) only [wI_id, dv_nn, rm_nn]
        repeat' (first | intro z | apply And.intro)
        all_goals try omega
        all_goals try contradiction
        all_goals exact h
    · rw [if_neg (fun z => y z.1)] at h
      rw [if_neg y] at hb
      subst hb
      refine go_X8_takeSign (ct := fun p => p == 28) 60 ?_
      simp only [oI, oL, oR, o1, lI, lL, lR, popN, catS, gv, stL, stL2, swt, cnd, spObj, List.getElem?_cons_zero, List.getElem?_cons_succ, List.getD_cons_zero, List.getD_cons_succ, List.set_cons_zero, List.set_cons_succ, List.nil_append, List.cons_append, Option.toList, Bool.or_false, Bool.false_or, Bool.or_true, Bool.true_or, Nat.reduceBEq, Nat.reduceAdd, Nat.reduceLT, Nat.reduceLeDiff, Int.reduceAdd, Int.reduceToNat, true_and, and_true, Fin.isValue, Fin.val_zero, Fin.val_one, Fin.val_two, Fin.reduceFinMk, eq_self, Int.reduceNeg, imp_self, Nat.reduceMul, Nat.le_refl, not_true_eq_false, not_false_eq_true, List.getElem?_nil, reduceCtorEq, true_or, or_true, Classical.not_not, implies_true, or_self, wI_0, wI_1, wI_m1, b2i_w, b2i_eq0, b2i_eq1, b2i_bool, nor_self, nx_pI, kd_pI, ln_pI, fI_pI, fL_pI, fR_pI, aI_pI, aL_pI, aR_pI, nx_pL, kd_pL, ln_pL, fI_pL, fL_pL, fR_pL, aI_pL, aL_pL, aR_pL, nx_pR, kd_pR, ln_pR, fI_pR, fL_pR, fR_pR, aI_pR, aL_pR, aR_pR, nx_qI, kd_qI, ln_qI, fI_qI, fL_qI, fR_qI, aI_qI, aL_qI, aR_qI, nx_qL, kd_qL, ln_qL, fI_qL, fL_qL, fR_qL, aI_qL, aL_qL, aR_qL, nx_qR, kd_qR, ln_qR, fI_qR, fL_qR, fR_qR, aI_qR, aL_qR, aR_qR, nx_mk, kd_mk, ln_mk, fI_mk, fL_mk, fR_mk, aI_mk, aL_mk, aR_mk, false_and, and_false, if_false, if_true, and_self, Int.reduceEq, Nat.reduceEqDiff, ite_self, MLay_pI, MLay_pL, MLay_qI, MLay_qL, ev_X8_takeSign_24, ev_X8_takeSign_25, ev_X8_takeSign_28, ev_X8_takeSign_29, ev_X8_takeSign_32, ev_X8_takeSign_35, ev_X8_takeSign_36, ev_X8_takeSign_39, ev_X8_takeSign_40, ev_X8_takeSign_43, ev_X8_takeSign_44, ev_X8_takeSign_47, ev_X8_takeSign_48, ev_X8_takeSign_51, ev_X8_takeSign_52, ev_X8_takeSign_55, ev_X8_takeSign_56, ev_X8_takeSign_57, ev_X8_takeSign_58, ev_X8_takeSign_59, ev_X8_takeSign_62, ev_X8_takeSign_63, ev_X8_takeSign_64, ev_X8_takeSign_67, xt_X8_takeSign, xf_X8_takeSign]
      repeat' (first | intro z | apply And.intro)
      all_goals try omega
      all_goals try contradiction
      all_goals exact h
  clear h
  by_cases y : c = 10 ∨ (32 ≤ c ∧ c ≤ 126)
  · have w := w24 1 (by rw [if_pos y])
    clear w24
    refine go_X8_takeSign (ct := fun p => p == 24 || p == 22) 60 ?_
    simp only [oI, oL, oR, o1, lI, lL, lR, popN, catS, gv, stL, stL2, swt, cnd, spObj, List.getElem?_cons_zero, List.getElem?_cons_succ, List.getD_cons_zero, List.getD_cons_succ, List.set_cons_zero, List.set_cons_succ, List.nil_append, List.cons_append, Option.toList, Bool.or_false, Bool.false_or, Bool.or_true, Bool.true_or, Nat.reduceBEq, Nat.reduceAdd, Nat.reduceLT, Nat.reduceLeDiff, Int.reduceAdd, Int.reduceToNat, true_and, and_true, Fin.isValue, Fin.val_zero, Fin.val_one, Fin.val_two, Fin.reduceFinMk, eq_self, Int.reduceNeg, imp_self, Nat.reduceMul, Nat.le_refl, not_true_eq_false, not_false_eq_true, List.getElem?_nil, reduceCtorEq, true_or, or_true, Classical.not_not, implies_true, or_self, wI_0, wI_1, wI_m1, b2i_w, b2i_eq0, b2i_eq1, b2i_bool, nor_self, nx_pI, kd_pI, ln_pI, fI_pI, fL_pI, fR_pI, aI_pI, aL_pI, aR_pI, nx_pL, kd_pL, ln_pL, fI_pL, fL_pL, fR_pL, aI_pL, aL_pL, aR_pL, nx_pR, kd_pR, ln_pR, fI_pR, fL_pR, fR_pR, aI_pR, aL_pR, aR_pR, nx_qI, kd_qI, ln_qI, fI_qI, fL_qI, fR_qI, aI_qI, aL_qI, aR_qI, nx_qL, kd_qL, ln_qL, fI_qL, fL_qL, fR_qL, aI_qL, aL_qL, aR_qL, nx_qR, kd_qR, ln_qR, fI_qR, fL_qR, fR_qR, aI_qR, aL_qR, aR_qR, nx_mk, kd_mk, ln_mk, fI_mk, fL_mk, fR_mk, aI_mk, aL_mk, aR_mk, false_and, and_false, if_false, if_true, and_self, Int.reduceEq, Nat.reduceEqDiff, ite_self, MLay_pI, MLay_pL, MLay_qI, MLay_qL, ev_X8_takeSign_0, ev_X8_takeSign_1, ev_X8_takeSign_3, ev_X8_takeSign_6, ev_X8_takeSign_7, ev_X8_takeSign_9, ev_X8_takeSign_12, ev_X8_takeSign_13, ev_X8_takeSign_15, ev_X8_takeSign_18, ev_X8_takeSign_19, ev_X8_takeSign_22, ev_X8_takeSign_23, xt_X8_takeSign, xf_X8_takeSign]
    try simp (disch := omega) only [wI_id, dv_nn, rm_nn]
    repeat' (first | intro z | apply And.intro)
    all_goals try omega
    all_goals try contradiction
    all_goals exact w
  · have w := w24 0 (by rw [if_neg y])
    clear w24
    refine go_X8_takeSign (ct := fun p => p == 24 || p == 18) 60 ?_
    simp only [oI, oL, oR, o1, lI, lL, lR, popN, catS, gv, stL, stL2, swt, cnd, spObj, List.getElem?_cons_zero, List.getElem?_cons_succ, List.getD_cons_zero, List.getD_cons_succ, List.set_cons_zero, List.set_cons_succ, List.nil_append, List.cons_append, Option.toList, Bool.or_false, Bool.false_or, Bool.or_true, Bool.true_or, Nat.reduceBEq, Nat.reduceAdd, Nat.reduceLT, Nat.reduceLeDiff, Int.reduceAdd, Int.reduceToNat, true_and, and_true, Fin.isValue, Fin.val_zero, Fin.val_one, Fin.val_two, Fin.reduceFinMk, eq_self, Int.reduceNeg, imp_self, Nat.reduceMul, Nat.le_refl, not_true_eq_false, not_false_eq_true, List.getElem?_nil, reduceCtorEq, true_or, or_true, Classical.not_not, implies_true, or_self, wI_0, wI_1, wI_m1, b2i_w, b2i_eq0, b2i_eq1, b2i_bool, nor_self, nx_pI, kd_pI, ln_pI, fI_pI, fL_pI, fR_pI, aI_pI, aL_pI, aR_pI, nx_pL, kd_pL, ln_pL, fI_pL, fL_pL, fR_pL, aI_pL, aL_pL, aR_pL, nx_pR, kd_pR, ln_pR, fI_pR, fL_pR, fR_pR, aI_pR, aL_pR, aR_pR, nx_qI, kd_qI, ln_qI, fI_qI, fL_qI, fR_qI, aI_qI, aL_qI, aR_qI, nx_qL, kd_qL, ln_qL, fI_qL, fL_qL, fR_qL, aI_qL, aL_qL, aR_qL, nx_qR, kd_qR, ln_qR, fI_qR, fL_qR, fR_qR, aI_qR, aL_qR, aR_qR, nx_mk, kd_mk, ln_mk, fI_mk, fL_mk, fR_mk, aI_mk, aL_mk, aR_mk, false_and, and_false, if_false, if_true, and_self, Int.reduceEq, Nat.reduceEqDiff, ite_self, MLay_pI, MLay_pL, MLay_qI, MLay_qL, ev_X8_takeSign_0, ev_X8_takeSign_1, ev_X8_takeSign_3, ev_X8_takeSign_6, ev_X8_takeSign_7, ev_X8_takeSign_9, ev_X8_takeSign_12, ev_X8_takeSign_13, ev_X8_takeSign_15, ev_X8_takeSign_18, ev_X8_takeSign_19, ev_X8_takeSign_22, ev_X8_takeSign_23, xt_X8_takeSign, xf_X8_takeSign]
    try simp (disch := omega) only [wI_id, dv_nn, rm_nn]
    repeat' (first | intro z | apply And.intro)
    all_goals try omega
    all_goals try contradiction
    all_goals exact w

def sp_X8_signAt : Sp := fun av σ Q => oR av fun this av => oI av fun i av => av = [] ∧ kd σ this = 9 ∧ (this = 24 ∧ CLay σ ∧ inR i ∧ (0 ≤ fI σ 901 24 ∧ fI σ 901 24 ≤ 1000) ∧ (∀ j, 0 ≤ aI σ 25 j ∧ aI σ 25 j ≤ 255) ∧ Q (some (vi (if 0 ≤ i ∧ i < fI σ 901 24 then aI σ 25 i else 0))) σ)
theorem us_X8_signAt (this : Int) (i : Int) (σ : Hp) (Q : Option AV → Hp → Prop) : sp_X8_signAt [vr this, vi i] σ Q = (kd σ this = 9 ∧ (this = 24 ∧ CLay σ ∧ inR i ∧ (0 ≤ fI σ 901 24 ∧ fI σ 901 24 ≤ 1000) ∧ (∀ j, 0 ≤ aI σ 25 j ∧ aI σ 25 j ≤ 255) ∧ Q (some (vi (if 0 ≤ i ∧ i < fI σ 901 24 then aI σ 25 i else 0))) σ)) := propext ⟨fun h => h.2, fun h => ⟨rfl, h⟩⟩
theorem el_X8_signAt {av : List AV} {σ : Hp} {Q : Option AV → Hp → Prop} (h : sp_X8_signAt av σ Q) : ∃ (this : Int) (i : Int), av = [vr this, vi i] ∧ (kd σ this = 9 ∧ (this = 24 ∧ CLay σ ∧ inR i ∧ (0 ≤ fI σ 901 24 ∧ fI σ 901 24 ≤ 1000) ∧ (∀ j, 0 ≤ aI σ 25 j ∧ aI σ 25 j ≤ 255) ∧ Q (some (vi (if 0 ≤ i ∧ i < fI σ 901 24 then aI σ 25 i else 0))) σ)) := by
  obtain ⟨this, a0, rfl, h0⟩ := oR_s h
  obtain ⟨i, a1, rfl, h1⟩ := oI_s h0
  obtain ⟨rfl, hz⟩ := h1
  exact ⟨this, i, rfl, hz⟩
theorem rc_X8_signAt : ∀ (av : List AV) (σ : Hp) (Q : Option AV → Hp → Prop), sp_X8_signAt av σ Q → ∃ r tl, av = vr r :: tl ∧ kd σ r = 8 + 1 := fun av σ Q h => by
  obtain ⟨this, i, rfl, hz, -⟩ := el_X8_signAt h
  exact ⟨this, _, rfl, hz⟩

def tb_X8_signAt : Tab := [(0, .iload_n 1, 1, (0, 0, 0, 0)), (1, .ifCond .lt 29, 3, (0, 0, 0, 0)), (4, .iload_n 1, 1, (0, 0, 0, 0)), (5, .aload_n 0, 1, (0, 0, 0, 0)), (6, .getfield 15, 3, (9, 901, 0, 0)), (9, .if_icmp .ge 21, 3, (0, 0, 0, 0)), (12, .iload_n 1, 1, (0, 0, 0, 0)), (13, .aload_n 0, 1, (0, 0, 0, 0)), (14, .getfield 9, 3, (9, 900, 2, 0)), (17, .arraylength, 1, (0, 0, 0, 0)), (18, .if_icmp .ge 12, 3, (0, 0, 0, 0)), (21, .aload_n 0, 1, (0, 0, 0, 0)), (22, .getfield 9, 3, (9, 900, 2, 0)), (25, .iload_n 1, 1, (0, 0, 0, 0)), (26, .caload, 1, (0, 0, 0, 0)), (27, .goto 4, 3, (0, 0, 0, 0)), (30, .iconst 0, 1, (0, 0, 0, 0)), (31, .ireturn, 1, (0, 0, 0, 0))]
set_option maxRecDepth 100000 in
theorem tk_X8_signAt : TOK RX8 false cX8_signAt tb_X8_signAt := chkT_ok ft_X8 (by decide +kernel)
def mt_X8_signAt : List (Nat × Mt) := []
theorem mk_X8_signAt : MOK RX8 mt_X8_signAt := fun q hq => by cases hq
noncomputable def xe_X8_signAt (ct : Nat → Bool) (K : Kt) (R : Option AV → Hp → Prop) (n : Nat) : Kt := exS 2 1 0 0 3 tb_X8_signAt mt_X8_signAt ct K R n
noncomputable def xk_X8_signAt (ct : Nat → Bool) (K : Kt) (R : Option AV → Hp → Prop) (n : Nat) : Kt := exkS 2 1 0 0 3 tb_X8_signAt mt_X8_signAt ct K R n
theorem xt_X8_signAt {ct : Nat → Bool} {K : Kt} {R : Option AV → Hp → Prop} {n pc : Nat} {ls : List (Option AV)} {st : List AV} {σ : Hp} {k : Nat × Nat} (h : ct pc = true) : xk_X8_signAt ct K R n pc ls st σ k = K pc ls st σ k := by unfold xk_X8_signAt exkS; rw [h]
theorem xf_X8_signAt {ct : Nat → Bool} {K : Kt} {R : Option AV → Hp → Prop} {n pc : Nat} {ls : List (Option AV)} {st : List AV} {σ : Hp} {k : Nat × Nat} (h : ct pc = false) : xk_X8_signAt ct K R n pc ls st σ k = xe_X8_signAt ct K R n pc ls st σ k := by unfold xk_X8_signAt exkS xe_X8_signAt; rw [h]
theorem ev_X8_signAt_0 {ct : Nat → Bool} {K : Kt} {R : Option AV → Hp → Prop} {n : Nat} {ls : List (Option AV)} {st : List AV} {σ : Hp} {k : Nat × Nat} : xe_X8_signAt ct K R (n + 1) 0 ls st σ k = (lI ls 1 fun x => xk_X8_signAt ct K R n 1 ls (vi x :: st) σ k) := exS_step.trans rfl
theorem ev_X8_signAt_1 {ct : Nat → Bool} {K : Kt} {R : Option AV → Hp → Prop} {n : Nat} {ls : List (Option AV)} {st : List AV} {σ : Hp} {k : Nat × Nat} : xe_X8_signAt ct K R (n + 1) 1 ls st σ k = (oI st fun x st => (wI x < wI 0 → xk_X8_signAt ct K R n 30 ls st σ k) ∧ (¬ (wI x < wI 0) → xk_X8_signAt ct K R n 4 ls st σ k)) := exS_step.trans rfl
theorem ev_X8_signAt_4 {ct : Nat → Bool} {K : Kt} {R : Option AV → Hp → Prop} {n : Nat} {ls : List (Option AV)} {st : List AV} {σ : Hp} {k : Nat × Nat} : xe_X8_signAt ct K R (n + 1) 4 ls st σ k = (lI ls 1 fun x => xk_X8_signAt ct K R n 5 ls (vi x :: st) σ k) := exS_step.trans rfl
theorem ev_X8_signAt_5 {ct : Nat → Bool} {K : Kt} {R : Option AV → Hp → Prop} {n : Nat} {ls : List (Option AV)} {st : List AV} {σ : Hp} {k : Nat × Nat} : xe_X8_signAt ct K R (n + 1) 5 ls st σ k = (lR ls 0 fun x => xk_X8_signAt ct K R n 6 ls (vr x :: st) σ k) := exS_step.trans rfl
theorem ev_X8_signAt_6 {ct : Nat → Bool} {K : Kt} {R : Option AV → Hp → Prop} {n : Nat} {ls : List (Option AV)} {st : List AV} {σ : Hp} {k : Nat × Nat} : xe_X8_signAt ct K R (n + 1) 6 ls st σ k = (oR st fun x st => kd σ x = 9 ∧ xk_X8_signAt ct K R n 9 ls (vi (fI σ 901 x) :: st) σ k) := exS_step.trans rfl
theorem ev_X8_signAt_9 {ct : Nat → Bool} {K : Kt} {R : Option AV → Hp → Prop} {n : Nat} {ls : List (Option AV)} {st : List AV} {σ : Hp} {k : Nat × Nat} : xe_X8_signAt ct K R (n + 1) 9 ls st σ k = (oI st fun y st => oI st fun x st => (wI y ≤ wI x → xk_X8_signAt ct K R n 30 ls st σ k) ∧ (¬ (wI y ≤ wI x) → xk_X8_signAt ct K R n 12 ls st σ k)) := exS_step.trans rfl
theorem ev_X8_signAt_12 {ct : Nat → Bool} {K : Kt} {R : Option AV → Hp → Prop} {n : Nat} {ls : List (Option AV)} {st : List AV} {σ : Hp} {k : Nat × Nat} : xe_X8_signAt ct K R (n + 1) 12 ls st σ k = (lI ls 1 fun x => xk_X8_signAt ct K R n 13 ls (vi x :: st) σ k) := exS_step.trans rfl
theorem ev_X8_signAt_13 {ct : Nat → Bool} {K : Kt} {R : Option AV → Hp → Prop} {n : Nat} {ls : List (Option AV)} {st : List AV} {σ : Hp} {k : Nat × Nat} : xe_X8_signAt ct K R (n + 1) 13 ls st σ k = (lR ls 0 fun x => xk_X8_signAt ct K R n 14 ls (vr x :: st) σ k) := exS_step.trans rfl
theorem ev_X8_signAt_14 {ct : Nat → Bool} {K : Kt} {R : Option AV → Hp → Prop} {n : Nat} {ls : List (Option AV)} {st : List AV} {σ : Hp} {k : Nat × Nat} : xe_X8_signAt ct K R (n + 1) 14 ls st σ k = (oR st fun x st => kd σ x = 9 ∧ xk_X8_signAt ct K R n 17 ls (vr (fR σ 900 x) :: st) σ k) := exS_step.trans rfl
theorem ev_X8_signAt_17 {ct : Nat → Bool} {K : Kt} {R : Option AV → Hp → Prop} {n : Nat} {ls : List (Option AV)} {st : List AV} {σ : Hp} {k : Nat × Nat} : xe_X8_signAt ct K R (n + 1) 17 ls st σ k = (oR st fun x st => (101 ≤ kd σ x ∨ kd σ x = 21) ∧ xk_X8_signAt ct K R n 18 ls (vi (ln σ x) :: st) σ k) := exS_step.trans rfl
theorem ev_X8_signAt_18 {ct : Nat → Bool} {K : Kt} {R : Option AV → Hp → Prop} {n : Nat} {ls : List (Option AV)} {st : List AV} {σ : Hp} {k : Nat × Nat} : xe_X8_signAt ct K R (n + 1) 18 ls st σ k = (oI st fun y st => oI st fun x st => (wI y ≤ wI x → xk_X8_signAt ct K R n 30 ls st σ k) ∧ (¬ (wI y ≤ wI x) → xk_X8_signAt ct K R n 21 ls st σ k)) := exS_step.trans rfl
theorem ev_X8_signAt_21 {ct : Nat → Bool} {K : Kt} {R : Option AV → Hp → Prop} {n : Nat} {ls : List (Option AV)} {st : List AV} {σ : Hp} {k : Nat × Nat} : xe_X8_signAt ct K R (n + 1) 21 ls st σ k = (lR ls 0 fun x => xk_X8_signAt ct K R n 22 ls (vr x :: st) σ k) := exS_step.trans rfl
theorem ev_X8_signAt_22 {ct : Nat → Bool} {K : Kt} {R : Option AV → Hp → Prop} {n : Nat} {ls : List (Option AV)} {st : List AV} {σ : Hp} {k : Nat × Nat} : xe_X8_signAt ct K R (n + 1) 22 ls st σ k = (oR st fun x st => kd σ x = 9 ∧ xk_X8_signAt ct K R n 25 ls (vr (fR σ 900 x) :: st) σ k) := exS_step.trans rfl
theorem ev_X8_signAt_25 {ct : Nat → Bool} {K : Kt} {R : Option AV → Hp → Prop} {n : Nat} {ls : List (Option AV)} {st : List AV} {σ : Hp} {k : Nat × Nat} : xe_X8_signAt ct K R (n + 1) 25 ls st σ k = (lI ls 1 fun x => xk_X8_signAt ct K R n 26 ls (vi x :: st) σ k) := exS_step.trans rfl
theorem ev_X8_signAt_26 {ct : Nat → Bool} {K : Kt} {R : Option AV → Hp → Prop} {n : Nat} {ls : List (Option AV)} {st : List AV} {σ : Hp} {k : Nat × Nat} : xe_X8_signAt ct K R (n + 1) 26 ls st σ k = (oI st fun j st => oR st fun x st => kd σ x = 104 ∧ (0 ≤ j ∧ j < ln σ x) ∧ xk_X8_signAt ct K R n 27 ls (vi (aI σ x j) :: st) σ k) := exS_step.trans rfl
theorem ev_X8_signAt_27 {ct : Nat → Bool} {K : Kt} {R : Option AV → Hp → Prop} {n : Nat} {ls : List (Option AV)} {st : List AV} {σ : Hp} {k : Nat × Nat} : xe_X8_signAt ct K R (n + 1) 27 ls st σ k = (xk_X8_signAt ct K R n 31 ls st σ k) := exS_step.trans rfl
theorem ev_X8_signAt_30 {ct : Nat → Bool} {K : Kt} {R : Option AV → Hp → Prop} {n : Nat} {ls : List (Option AV)} {st : List AV} {σ : Hp} {k : Nat × Nat} : xe_X8_signAt ct K R (n + 1) 30 ls st σ k = (xk_X8_signAt ct K R n 31 ls (vi (0) :: st) σ k) := exS_step.trans rfl
theorem ev_X8_signAt_31 {ct : Nat → Bool} {K : Kt} {R : Option AV → Hp → Prop} {n : Nat} {ls : List (Option AV)} {st : List AV} {σ : Hp} {k : Nat × Nat} : xe_X8_signAt ct K R (n + 1) 31 ls st σ k = (oI st fun x st => st = [] ∧ (0 ≤ x ∧ x < 65536) ∧ R (some (vi x)) σ) := exS_step.trans rfl
def M_X8_signAt : Md := (yX8_signAt, cX8_signAt, 2, (some FieldType.char), 1, 0, 0, 3, false, tb_X8_signAt, mt_X8_signAt)
theorem mm_X8_signAt : MMOK M_X8_signAt := ⟨by decide +kernel, tk_X8_signAt, mk_X8_signAt, rfl, fun h => by cases h⟩
theorem go_X8_signAt {Q : Option AV → Hp → Prop} {ct : Nat → Bool} {pc : Nat} {ls : List (Option AV)} {st : List AV} {σ : Hp} {k : Nat × Nat} (n : Nat) (h : xe_X8_signAt ct (Go M_X8_signAt Q) Q n pc ls st σ k) : Go M_X8_signAt Q pc ls st σ k := Go.exS mm_X8_signAt h

set_option maxRecDepth 20000 in
theorem c_X8_signAt : Ct yX8_signAt cX8_signAt 2 ((some FieldType.char)) 1 0 0 sp_X8_signAt := by
  refine Ct.go (M := M_X8_signAt) mm_X8_signAt fun av σ Q h0 => ?_
  obtain ⟨this, i, rfl, hk, h⟩ := el_X8_signAt h0
  clear h0
  refine ⟨Nat.le_of_ble_eq_true rfl, ?_⟩
  show Go M_X8_signAt Q 0 [some (vr this), some (vi i)] [] σ (0, 0)
  obtain ⟨rfl, hC, hi, hh, hs, h⟩ := h
  unfold inR at hi
  have hs := hs i
  by_cases c : 0 ≤ i ∧ i < fI σ 901 24
  · rw [if_pos c] at h
    refine go_X8_signAt (ct := fun p => p == 30) 60 ?_
    simp only [oI, oL, oR, o1, lI, lL, lR, popN, catS, gv, stL, stL2, swt, cnd, spObj, List.getElem?_cons_zero, List.getElem?_cons_succ, List.getD_cons_zero, List.getD_cons_succ, List.set_cons_zero, List.set_cons_succ, List.nil_append, List.cons_append, Option.toList, Bool.or_false, Bool.false_or, Bool.or_true, Bool.true_or, Nat.reduceBEq, Nat.reduceAdd, Nat.reduceLT, Nat.reduceLeDiff, Int.reduceAdd, Int.reduceToNat, true_and, and_true, Fin.isValue, Fin.val_zero, Fin.val_one, Fin.val_two, Fin.reduceFinMk, eq_self, Int.reduceNeg, imp_self, Nat.reduceMul, Nat.le_refl, not_true_eq_false, not_false_eq_true, List.getElem?_nil, reduceCtorEq, true_or, or_true, Classical.not_not, implies_true, or_self, wI_0, wI_1, wI_m1, b2i_w, b2i_eq0, b2i_eq1, b2i_bool, nor_self, nx_pI, kd_pI, ln_pI, fI_pI, fL_pI, fR_pI, aI_pI, aL_pI, aR_pI, nx_pL, kd_pL, ln_pL, fI_pL, fL_pL, fR_pL, aI_pL, aL_pL, aR_pL, nx_pR, kd_pR, ln_pR, fI_pR, fL_pR, fR_pR, aI_pR, aL_pR, aR_pR, nx_qI, kd_qI, ln_qI, fI_qI, fL_qI, fR_qI, aI_qI, aL_qI, aR_qI, nx_qL, kd_qL, ln_qL, fI_qL, fL_qL, fR_qL, aI_qL, aL_qL, aR_qL, nx_qR, kd_qR, ln_qR, fI_qR, fL_qR, fR_qR, aI_qR, aL_qR, aR_qR, nx_mk, kd_mk, ln_mk, fI_mk, fL_mk, fR_mk, aI_mk, aL_mk, aR_mk, false_and, and_false, if_false, if_true, and_self, Int.reduceEq, Nat.reduceEqDiff, ite_self, MLay_pI, MLay_pL, MLay_qI, MLay_qL, ev_X8_signAt_0, ev_X8_signAt_1, ev_X8_signAt_4, ev_X8_signAt_5, ev_X8_signAt_6, ev_X8_signAt_9, ev_X8_signAt_12, ev_X8_signAt_13, ev_X8_signAt_14, ev_X8_signAt_17, ev_X8_signAt_18, ev_X8_signAt_21, ev_X8_signAt_22, ev_X8_signAt_25, ev_X8_signAt_26, ev_X8_signAt_27, ev_X8_signAt_30, ev_X8_signAt_31, xt_X8_signAt, xf_X8_signAt, hC.eqs]
    try simp (disch := omega) only [wI_id, dv_nn, rm_nn]
    repeat' (first | intro z | apply And.intro)
    all_goals try omega
    all_goals try contradiction
    all_goals exact h
  · rw [if_neg c] at h
    refine go_X8_signAt (ct := fun p => p == 12) 60 ?_
    simp only [oI, oL, oR, o1, lI, lL, lR, popN, catS, gv, stL, stL2, swt, cnd, spObj, List.getElem?_cons_zero, List.getElem?_cons_succ, List.getD_cons_zero, List.getD_cons_succ, List.set_cons_zero, List.set_cons_succ, List.nil_append, List.cons_append, Option.toList, Bool.or_false, Bool.false_or, Bool.or_true, Bool.true_or, Nat.reduceBEq, Nat.reduceAdd, Nat.reduceLT, Nat.reduceLeDiff, Int.reduceAdd, Int.reduceToNat, true_and, and_true, Fin.isValue, Fin.val_zero, Fin.val_one, Fin.val_two, Fin.reduceFinMk, eq_self, Int.reduceNeg, imp_self, Nat.reduceMul, Nat.le_refl, not_true_eq_false, not_false_eq_true, List.getElem?_nil, reduceCtorEq, true_or, or_true, Classical.not_not, implies_true, or_self, wI_0, wI_1, wI_m1, b2i_w, b2i_eq0, b2i_eq1, b2i_bool, nor_self, nx_pI, kd_pI, ln_pI, fI_pI, fL_pI, fR_pI, aI_pI, aL_pI, aR_pI, nx_pL, kd_pL, ln_pL, fI_pL, fL_pL, fR_pL, aI_pL, aL_pL, aR_pL, nx_pR, kd_pR, ln_pR, fI_pR, fL_pR, fR_pR, aI_pR, aL_pR, aR_pR, nx_qI, kd_qI, ln_qI, fI_qI, fL_qI, fR_qI, aI_qI, aL_qI, aR_qI, nx_qL, kd_qL, ln_qL, fI_qL, fL_qL, fR_qL, aI_qL, aL_qL, aR_qL, nx_qR, kd_qR, ln_qR, fI_qR, fL_qR, fR_qR, aI_qR, aL_qR, aR_qR, nx_mk, kd_mk, ln_mk, fI_mk, fL_mk, fR_mk, aI_mk, aL_mk, aR_mk, false_and, and_false, if_false, if_true, and_self, Int.reduceEq, Nat.reduceEqDiff, ite_self, MLay_pI, MLay_pL, MLay_qI, MLay_qL, ev_X8_signAt_0, ev_X8_signAt_1, ev_X8_signAt_4, ev_X8_signAt_5, ev_X8_signAt_6, ev_X8_signAt_9, ev_X8_signAt_12, ev_X8_signAt_13, ev_X8_signAt_14, ev_X8_signAt_17, ev_X8_signAt_18, ev_X8_signAt_21, ev_X8_signAt_22, ev_X8_signAt_25, ev_X8_signAt_26, ev_X8_signAt_27, ev_X8_signAt_30, ev_X8_signAt_31, xt_X8_signAt, xf_X8_signAt, hC.eqs]
    try simp (disch := omega) only [wI_id, dv_nn, rm_nn]
    repeat' (first | intro z | apply And.intro)
    all_goals try omega
    all_goals try contradiction
    all_goals exact h

def cBt (v : BitVec 64) (k : Int) : Int := (((v >>> (56 - 8 * k).toNat) &&& 255#64).toNat : Int)
def cBs (σ : Hp) (v : BitVec 64) : Nat → Hp
  | 0 => σ
  | k + 1 => cSg (cBs σ v k) (cBt v k)
theorem cBt_in (v : BitVec 64) (k : Int) : 0 ≤ cBt v k ∧ cBt v k ≤ 255 := by
  unfold cBt
  have : (v >>> (56 - 8 * k).toNat &&& 255#64).toNat ≤ 255 := by
    rw [BitVec.toNat_and]
    exact Nat.and_le_right
  omega
theorem toInt_255 (v : BitVec 64) : (v &&& 255#64).toInt % 65536 = ((v &&& 255#64).toNat : Int) := by
  have : (v &&& 255#64).toNat ≤ 255 := by
    rw [BitVec.toNat_and]
    exact Nat.and_le_right
  rw [BitVec.toInt_eq_toNat_cond]
  split <;> omega
theorem cSg_s (σ : Hp) (c : Int) : Fz [901] (fun r => r = 25) noR σ (cSg σ c) ∧ ((0 ≤ fI σ 901 24 ∧ fI σ 901 24 ≤ 1000) → 0 ≤ fI (cSg σ c) 901 24 ∧ fI (cSg σ c) 901 24 ≤ 1000) := by
  unfold cSg
  split
  · refine ⟨Fz.tr (Fz_qI (fs := [901]) _ _ _ rfl) (Fz_pI (fs := [901]) (f := 901) _ _ _ (by decide)), fun h => ?_⟩
    rw [fI_pI, if_pos ⟨rfl, rfl⟩]
    omega
  · exact ⟨Fz.rf σ, id⟩
theorem cBs_s (σ : Hp) (v : BitVec 64) : ∀ n, Fz [901] (fun r => r = 25) noR σ (cBs σ v n) ∧ ((0 ≤ fI σ 901 24 ∧ fI σ 901 24 ≤ 1000) → 0 ≤ fI (cBs σ v n) 901 24 ∧ fI (cBs σ v n) 901 24 ≤ 1000)
  | 0 => ⟨Fz.rf σ, id⟩
  | n + 1 => ⟨(cBs_s σ v n).1.tr (cSg_s _ _).1, fun h => (cSg_s _ _).2 ((cBs_s σ v n).2 h)⟩

def sp_X8_takeBytes : Sp := fun av σ Q => oR av fun this av => oL av fun v av => av = [] ∧ kd σ this = 9 ∧ (this = 24 ∧ CLay σ ∧ (0 ≤ fI σ 901 24 ∧ fI σ 901 24 ≤ 1000) ∧ Q none (cBs σ v 8))
theorem us_X8_takeBytes (this : Int) (v : BitVec 64) (σ : Hp) (Q : Option AV → Hp → Prop) : sp_X8_takeBytes [vr this, vl v] σ Q = (kd σ this = 9 ∧ (this = 24 ∧ CLay σ ∧ (0 ≤ fI σ 901 24 ∧ fI σ 901 24 ≤ 1000) ∧ Q none (cBs σ v 8))) := propext ⟨fun h => h.2, fun h => ⟨rfl, h⟩⟩
theorem el_X8_takeBytes {av : List AV} {σ : Hp} {Q : Option AV → Hp → Prop} (h : sp_X8_takeBytes av σ Q) : ∃ (this : Int) (v : BitVec 64), av = [vr this, vl v] ∧ (kd σ this = 9 ∧ (this = 24 ∧ CLay σ ∧ (0 ≤ fI σ 901 24 ∧ fI σ 901 24 ≤ 1000) ∧ Q none (cBs σ v 8))) := by
  obtain ⟨this, a0, rfl, h0⟩ := oR_s h
  obtain ⟨v, a1, rfl, h1⟩ := oL_s h0
  obtain ⟨rfl, hz⟩ := h1
  exact ⟨this, v, rfl, hz⟩
theorem rc_X8_takeBytes : ∀ (av : List AV) (σ : Hp) (Q : Option AV → Hp → Prop), sp_X8_takeBytes av σ Q → ∃ r tl, av = vr r :: tl ∧ kd σ r = 8 + 1 := fun av σ Q h => by
  obtain ⟨this, v, rfl, hz, -⟩ := el_X8_takeBytes h
  exact ⟨this, _, rfl, hz⟩

def tb_X8_takeBytes : Tab := [(0, .bipush 56, 2, (0, 0, 0, 0)), (2, .istore_n 3, 1, (0, 0, 0, 0)), (3, .iload_n 3, 1, (0, 0, 0, 0)), (4, .ifCond .lt 22, 3, (0, 0, 0, 0)), (7, .aload_n 0, 1, (0, 0, 0, 0)), (8, .lload_n 1, 1, (0, 0, 0, 0)), (9, .iload_n 3, 1, (0, 0, 0, 0)), (10, .lushr, 1, (0, 0, 0, 0)), (11, .ldc2_w 19, 3, (1, 0, 0, 255)), (14, .land, 1, (0, 0, 0, 0)), (15, .l2i, 1, (0, 0, 0, 0)), (16, .i2c, 1, (0, 0, 0, 0)), (17, .invokevirtual 21, 3, (0, 0, 0, 0)), (20, .iinc 3 (-8), 3, (0, 0, 0, 0)), (23, .goto (-20), 3, (0, 0, 0, 0)), (26, .return_, 1, (0, 0, 0, 0))]
set_option maxRecDepth 100000 in
theorem tk_X8_takeBytes : TOK RX8 false cX8_takeBytes tb_X8_takeBytes := chkT_ok ft_X8 (by decide +kernel)
theorem rw_X8_168 : Row RX8 (.invokevirtual 21) 3 2 0 0 1 sp_X8_takeSign := row_V (n := 1) (ci := 8) c_X8_takeSign ⟨TBL_in 901 (by decide +kernel) rfl, TBL_in 904 (by decide +kernel) rfl, TBL_in 119 (by decide +kernel) rfl, by decide +kernel, by decide⟩ (by decide) rfl (TBL_in 903 (by decide +kernel) rfl) (TBL_in 27 (by decide +kernel) rfl) rc_X8_takeSign
def mt_X8_takeBytes : List (Nat × Mt) := [(168, 2, 0, 0, 1, sp_X8_takeSign)]
theorem em_X8_takeBytes : mt_X8_takeBytes.lookup 168 = some (2, 0, 0, 1, sp_X8_takeSign) := rfl
theorem mk_X8_takeBytes : MOK RX8 mt_X8_takeBytes := by
  intro q hq
  simp only [mt_X8_takeBytes, List.mem_cons, List.not_mem_nil, or_false] at hq
  rcases hq with rfl
  · exact rw_X8_168
noncomputable def xe_X8_takeBytes (ct : Nat → Bool) (K : Kt) (R : Option AV → Hp → Prop) (n : Nat) : Kt := exS 4 2 0 0 0 tb_X8_takeBytes mt_X8_takeBytes ct K R n
noncomputable def xk_X8_takeBytes (ct : Nat → Bool) (K : Kt) (R : Option AV → Hp → Prop) (n : Nat) : Kt := exkS 4 2 0 0 0 tb_X8_takeBytes mt_X8_takeBytes ct K R n
theorem xt_X8_takeBytes {ct : Nat → Bool} {K : Kt} {R : Option AV → Hp → Prop} {n pc : Nat} {ls : List (Option AV)} {st : List AV} {σ : Hp} {k : Nat × Nat} (h : ct pc = true) : xk_X8_takeBytes ct K R n pc ls st σ k = K pc ls st σ k := by unfold xk_X8_takeBytes exkS; rw [h]
theorem xf_X8_takeBytes {ct : Nat → Bool} {K : Kt} {R : Option AV → Hp → Prop} {n pc : Nat} {ls : List (Option AV)} {st : List AV} {σ : Hp} {k : Nat × Nat} (h : ct pc = false) : xk_X8_takeBytes ct K R n pc ls st σ k = xe_X8_takeBytes ct K R n pc ls st σ k := by unfold xk_X8_takeBytes exkS xe_X8_takeBytes; rw [h]
theorem ev_X8_takeBytes_0 {ct : Nat → Bool} {K : Kt} {R : Option AV → Hp → Prop} {n : Nat} {ls : List (Option AV)} {st : List AV} {σ : Hp} {k : Nat × Nat} : xe_X8_takeBytes ct K R (n + 1) 0 ls st σ k = (xk_X8_takeBytes ct K R n 2 ls (vi (56) :: st) σ k) := exS_step.trans rfl
theorem ev_X8_takeBytes_2 {ct : Nat → Bool} {K : Kt} {R : Option AV → Hp → Prop} {n : Nat} {ls : List (Option AV)} {st : List AV} {σ : Hp} {k : Nat × Nat} : xe_X8_takeBytes ct K R (n + 1) 2 ls st σ k = (oI st fun x st => 3 < 4 ∧ xk_X8_takeBytes ct K R n 3 (stL ls 3 (vi x)) st σ k) := exS_step.trans rfl
theorem ev_X8_takeBytes_3 {ct : Nat → Bool} {K : Kt} {R : Option AV → Hp → Prop} {n : Nat} {ls : List (Option AV)} {st : List AV} {σ : Hp} {k : Nat × Nat} : xe_X8_takeBytes ct K R (n + 1) 3 ls st σ k = (lI ls 3 fun x => xk_X8_takeBytes ct K R n 4 ls (vi x :: st) σ k) := exS_step.trans rfl
theorem ev_X8_takeBytes_4 {ct : Nat → Bool} {K : Kt} {R : Option AV → Hp → Prop} {n : Nat} {ls : List (Option AV)} {st : List AV} {σ : Hp} {k : Nat × Nat} : xe_X8_takeBytes ct K R (n + 1) 4 ls st σ k = (oI st fun x st => (wI x < wI 0 → xk_X8_takeBytes ct K R n 26 ls st σ k) ∧ (¬ (wI x < wI 0) → xk_X8_takeBytes ct K R n 7 ls st σ k)) := exS_step.trans rfl
theorem ev_X8_takeBytes_7 {ct : Nat → Bool} {K : Kt} {R : Option AV → Hp → Prop} {n : Nat} {ls : List (Option AV)} {st : List AV} {σ : Hp} {k : Nat × Nat} : xe_X8_takeBytes ct K R (n + 1) 7 ls st σ k = (lR ls 0 fun x => xk_X8_takeBytes ct K R n 8 ls (vr x :: st) σ k) := exS_step.trans rfl
theorem ev_X8_takeBytes_8 {ct : Nat → Bool} {K : Kt} {R : Option AV → Hp → Prop} {n : Nat} {ls : List (Option AV)} {st : List AV} {σ : Hp} {k : Nat × Nat} : xe_X8_takeBytes ct K R (n + 1) 8 ls st σ k = (lL ls 1 fun x => xk_X8_takeBytes ct K R n 9 ls (vl x :: st) σ k) := exS_step.trans rfl
theorem ev_X8_takeBytes_9 {ct : Nat → Bool} {K : Kt} {R : Option AV → Hp → Prop} {n : Nat} {ls : List (Option AV)} {st : List AV} {σ : Hp} {k : Nat × Nat} : xe_X8_takeBytes ct K R (n + 1) 9 ls st σ k = (lI ls 3 fun x => xk_X8_takeBytes ct K R n 10 ls (vi x :: st) σ k) := exS_step.trans rfl
theorem ev_X8_takeBytes_10 {ct : Nat → Bool} {K : Kt} {R : Option AV → Hp → Prop} {n : Nat} {ls : List (Option AV)} {st : List AV} {σ : Hp} {k : Nat × Nat} : xe_X8_takeBytes ct K R (n + 1) 10 ls st σ k = (oI st fun y st => oL st fun x st => xk_X8_takeBytes ct K R n 11 ls (vl (x >>> (y % 64).toNat) :: st) σ k) := exS_step.trans rfl
theorem ev_X8_takeBytes_11 {ct : Nat → Bool} {K : Kt} {R : Option AV → Hp → Prop} {n : Nat} {ls : List (Option AV)} {st : List AV} {σ : Hp} {k : Nat × Nat} : xe_X8_takeBytes ct K R (n + 1) 11 ls st σ k = (xk_X8_takeBytes ct K R n 14 ls (vl (BitVec.ofInt 64 (255)) :: st) σ k) := exS_step.trans rfl
theorem ev_X8_takeBytes_14 {ct : Nat → Bool} {K : Kt} {R : Option AV → Hp → Prop} {n : Nat} {ls : List (Option AV)} {st : List AV} {σ : Hp} {k : Nat × Nat} : xe_X8_takeBytes ct K R (n + 1) 14 ls st σ k = (oL st fun y st => oL st fun x st => xk_X8_takeBytes ct K R n 15 ls (vl (x &&& y) :: st) σ k) := exS_step.trans rfl
theorem ev_X8_takeBytes_15 {ct : Nat → Bool} {K : Kt} {R : Option AV → Hp → Prop} {n : Nat} {ls : List (Option AV)} {st : List AV} {σ : Hp} {k : Nat × Nat} : xe_X8_takeBytes ct K R (n + 1) 15 ls st σ k = (oL st fun x st => xk_X8_takeBytes ct K R n 16 ls (vi x.toInt :: st) σ k) := exS_step.trans rfl
theorem ev_X8_takeBytes_16 {ct : Nat → Bool} {K : Kt} {R : Option AV → Hp → Prop} {n : Nat} {ls : List (Option AV)} {st : List AV} {σ : Hp} {k : Nat × Nat} : xe_X8_takeBytes ct K R (n + 1) 16 ls st σ k = (oI st fun x st => xk_X8_takeBytes ct K R n 17 ls (vi (x % 65536) :: st) σ k) := exS_step.trans rfl
theorem ev_X8_takeBytes_17 {ct : Nat → Bool} {K : Kt} {R : Option AV → Hp → Prop} {n : Nat} {ls : List (Option AV)} {st : List AV} {σ : Hp} {k : Nat × Nat} : xe_X8_takeBytes ct K R (n + 1) 17 ls st σ k = (popN 2 st [] fun av rest => (catS rest ≤ 8 ∧ 1 < 2 ∧ k.1 + 0 ≤ 0 ∧ k.2 + 0 ≤ 0) ∧ (sp_X8_takeSign) av σ fun v σ' => xk_X8_takeBytes ct K R n 20 ls (v.toList ++ rest) σ' (k.1 + 0, k.2 + 0)) := exS_step.trans rfl
theorem ev_X8_takeBytes_20 {ct : Nat → Bool} {K : Kt} {R : Option AV → Hp → Prop} {n : Nat} {ls : List (Option AV)} {st : List AV} {σ : Hp} {k : Nat × Nat} : xe_X8_takeBytes ct K R (n + 1) 20 ls st σ k = (lI ls 3 fun x => 3 < 4 ∧ xk_X8_takeBytes ct K R n 23 (stL ls 3 (vi (x + (-8)))) st σ k) := exS_step.trans rfl
theorem ev_X8_takeBytes_23 {ct : Nat → Bool} {K : Kt} {R : Option AV → Hp → Prop} {n : Nat} {ls : List (Option AV)} {st : List AV} {σ : Hp} {k : Nat × Nat} : xe_X8_takeBytes ct K R (n + 1) 23 ls st σ k = (xk_X8_takeBytes ct K R n 3 ls st σ k) := exS_step.trans rfl
theorem ev_X8_takeBytes_26 {ct : Nat → Bool} {K : Kt} {R : Option AV → Hp → Prop} {n : Nat} {ls : List (Option AV)} {st : List AV} {σ : Hp} {k : Nat × Nat} : xe_X8_takeBytes ct K R (n + 1) 26 ls st σ k = (st = [] ∧ 0 = 0 ∧ R none σ) := exS_step.trans rfl
def M_X8_takeBytes : Md := (yX8_takeBytes, cX8_takeBytes, 4, (none : Option FieldType), 2, 0, 0, 0, false, tb_X8_takeBytes, mt_X8_takeBytes)
theorem mm_X8_takeBytes : MMOK M_X8_takeBytes := ⟨by decide +kernel, tk_X8_takeBytes, mk_X8_takeBytes, rfl, fun h => by cases h⟩
theorem go_X8_takeBytes {Q : Option AV → Hp → Prop} {ct : Nat → Bool} {pc : Nat} {ls : List (Option AV)} {st : List AV} {σ : Hp} {k : Nat × Nat} (n : Nat) (h : xe_X8_takeBytes ct (Go M_X8_takeBytes Q) Q n pc ls st σ k) : Go M_X8_takeBytes Q pc ls st σ k := Go.exS mm_X8_takeBytes h

set_option maxRecDepth 20000 in
theorem c_X8_takeBytes : Ct yX8_takeBytes cX8_takeBytes 4 ((none : Option FieldType)) 2 0 0 sp_X8_takeBytes := by
  refine Ct.go (M := M_X8_takeBytes) mm_X8_takeBytes fun av σ Q h0 => ?_
  obtain ⟨this, v, rfl, hk, h⟩ := el_X8_takeBytes h0
  clear h0
  refine ⟨Nat.le_of_ble_eq_true rfl, ?_⟩
  show Go M_X8_takeBytes Q 0 [some (vr this), some (vl v), none, none] [] σ (0, 0)
  obtain ⟨rfl, hC, hh, h⟩ := h
  have loop : ∀ (m k : Nat), k + m = 8 → Go M_X8_takeBytes Q 3 [some (vr 24), some (vl v), none, some (vi (56 - 8 * k))] [] (cBs σ v k) (0, 0) := by
    intro m
    induction m with
    | zero =>
      intro k hk2
      have e : k = 8 := by omega
      subst e
      refine go_X8_takeBytes (ct := fun p => p == 7) 20 ?_
      simp only [oI, oL, oR, o1, lI, lL, lR, popN, catS, gv, stL, stL2, swt, cnd, spObj, List.getElem?_cons_zero, List.getElem?_cons_succ, List.getD_cons_zero, List.getD_cons_succ, List.set_cons_zero, List.set_cons_succ, List.nil_append, List.cons_append, Option.toList, Bool.or_false, Bool.false_or, Bool.or_true, Bool.true_or, Nat.reduceBEq, Nat.reduceAdd, Nat.reduceLT, Nat.reduceLeDiff, Int.reduceAdd, Int.reduceToNat, true_and, and_true, Fin.isValue, Fin.val_zero, Fin.val_one, Fin.val_two, Fin.reduceFinMk, eq_self, Int.reduceNeg, imp_self, Nat.reduceMul, Nat.le_refl, not_true_eq_false, not_false_eq_true, List.getElem?_nil, reduceCtorEq, true_or, or_true, Classical.not_not, implies_true, or_self, wI_0, wI_1, wI_m1, b2i_w, b2i_eq0, b2i_eq1, b2i_bool, nor_self, nx_pI, kd_pI, ln_pI, fI_pI, fL_pI, fR_pI, aI_pI, aL_pI, aR_pI, nx_pL, kd_pL, ln_pL, fI_pL, fL_pL, fR_pL, aI_pL, aL_pL, aR_pL, nx_pR, kd_pR, ln_pR, fI_pR, fL_pR, fR_pR, aI_pR, aL_pR, aR_pR, nx_qI, kd_qI, ln_qI, fI_qI, fL_qI, fR_qI, aI_qI, aL_qI, aR_qI, nx_qL, kd_qL, ln_qL, fI_qL, fL_qL, fR_qL, aI_qL, aL_qL, aR_qL, nx_qR, kd_qR, ln_qR, fI_qR, fL_qR, fR_qR, aI_qR, aL_qR, aR_qR, nx_mk, kd_mk, ln_mk, fI_mk, fL_mk, fR_mk, aI_mk, aL_mk, aR_mk, false_and, and_false, if_false, if_true, and_self, Int.reduceEq, Nat.reduceEqDiff, ite_self, MLay_pI, MLay_pL, MLay_qI, MLay_qL, ev_X8_takeBytes_3, ev_X8_takeBytes_4, ev_X8_takeBytes_26, xt_X8_takeBytes, xf_X8_takeBytes, us_X8_takeSign]
      try simp (disch := omega) only [wI_id, dv_nn, rm_nn]
      repeat' (first | intro z | apply And.intro)
      all_goals try omega
      all_goals try contradiction
      all_goals exact h
    | succ m ih =>
      intro k hk2
      have w := ih (k + 1) (by omega)
      rw [show (56 : Int) - 8 * ((k + 1 : Nat) : Int) = 56 - 8 * k + -8 by omega] at w
      have e : cBs σ v (k + 1) = cSg (cBs σ v k) (cBt v k) := rfl
      rw [e] at w
      have hz := cBs_s σ v k
      have hC2 := hC.fz hz.1 (by decide)
      have hh2 := hz.2 hh
      generalize cBs σ v k = ρ at *
      have hk9 : kd ρ 24 = 9 := by simp only [hC2.eqs]
      have hb := cBt_in v k
      have e2 : ((56 - 8 * (k : Int)) % 64).toNat = (56 - 8 * (k : Int)).toNat := by omega
      have e3 : (v >>> (56 - 8 * (k : Int)).toNat &&& 255#64).toInt % 65536 = cBt v k := toInt_255 _
      have e4 : BitVec.ofInt 64 255 = 255#64 := by decide
      clear ih h hz e
      refine go_X8_takeBytes (ct := fun p => p == 26 || p == 3) 40 ?_
      simp only [oI, oL, oR, o1, lI, lL, lR, popN, catS, gv, stL, stL2, swt, cnd, spObj, List.getElem?_cons_zero, List.getElem?_cons_succ, List.getD_cons_zero, List.getD_cons_succ, List.set_cons_zero, List.set_cons_succ, List.nil_append, List.cons_append, Option.toList, Bool.or_false, Bool.false_or, Bool.or_true, Bool.true_or, Nat.reduceBEq, Nat.reduceAdd, Nat.reduceLT, Nat.reduceLeDiff, Int.reduceAdd, Int.reduceToNat, true_and, and_true, Fin.isValue, Fin.val_zero, Fin.val_one, Fin.val_two, Fin.reduceFinMk, eq_self, Int.reduceNeg, imp_self, Nat.reduceMul, Nat.le_refl, not_true_eq_false, not_false_eq_true, List.getElem?_nil, reduceCtorEq, true_or, or_true, Classical.not_not, implies_true, or_self, wI_0, wI_1, wI_m1, b2i_w, b2i_eq0, b2i_eq1, b2i_bool, nor_self, nx_pI, kd_pI, ln_pI, fI_pI, fL_pI, fR_pI, aI_pI, aL_pI, aR_pI, nx_pL, kd_pL, ln_pL, fI_pL, fL_pL, fR_pL, aI_pL, aL_pL, aR_pL, nx_pR, kd_pR, ln_pR, fI_pR, fL_pR, fR_pR, aI_pR, aL_pR, aR_pR, nx_qI, kd_qI, ln_qI, fI_qI, fL_qI, fR_qI, aI_qI, aL_qI, aR_qI, nx_qL, kd_qL, ln_qL, fI_qL, fL_qL, fR_qL, aI_qL, aL_qL, aR_qL, nx_qR, kd_qR, ln_qR, fI_qR, fL_qR, fR_qR, aI_qR, aL_qR, aR_qR, nx_mk, kd_mk, ln_mk, fI_mk, fL_mk, fR_mk, aI_mk, aL_mk, aR_mk, false_and, and_false, if_false, if_true, and_self, Int.reduceEq, Nat.reduceEqDiff, ite_self, MLay_pI, MLay_pL, MLay_qI, MLay_qL, ev_X8_takeBytes_3, ev_X8_takeBytes_4, ev_X8_takeBytes_7, ev_X8_takeBytes_8, ev_X8_takeBytes_9, ev_X8_takeBytes_10, ev_X8_takeBytes_11, ev_X8_takeBytes_14, ev_X8_takeBytes_15, ev_X8_takeBytes_16, ev_X8_takeBytes_17, ev_X8_takeBytes_20, ev_X8_takeBytes_23, xt_X8_takeBytes, xf_X8_takeBytes, us_X8_takeSign, hk9, hC2, hh2, e2, e4, e3]
      try simp (disch := omega) only [wI_id, dv_nn, rm_nn]
      repeat' (first | intro z | apply And.intro)
      all_goals try omega
      all_goals try contradiction
      all_goals exact w
  have w := loop 8 0 rfl
  refine go_X8_takeBytes (ct := fun p => p == 3) 20 ?_
  simp only [oI, oL, oR, o1, lI, lL, lR, popN, catS, gv, stL, stL2, swt, cnd, spObj, List.getElem?_cons_zero, List.getElem?_cons_succ, List.getD_cons_zero, List.getD_cons_succ, List.set_cons_zero, List.set_cons_succ, List.nil_append, List.cons_append, Option.toList, Bool.or_false, Bool.false_or, Bool.or_true, Bool.true_or, Nat.reduceBEq, Nat.reduceAdd, Nat.reduceLT, Nat.reduceLeDiff, Int.reduceAdd, Int.reduceToNat, true_and, and_true, Fin.isValue, Fin.val_zero, Fin.val_one, Fin.val_two, Fin.reduceFinMk, eq_self, Int.reduceNeg, imp_self, Nat.reduceMul, Nat.le_refl, not_true_eq_false, not_false_eq_true, List.getElem?_nil, reduceCtorEq, true_or, or_true, Classical.not_not, implies_true, or_self, wI_0, wI_1, wI_m1, b2i_w, b2i_eq0, b2i_eq1, b2i_bool, nor_self, nx_pI, kd_pI, ln_pI, fI_pI, fL_pI, fR_pI, aI_pI, aL_pI, aR_pI, nx_pL, kd_pL, ln_pL, fI_pL, fL_pL, fR_pL, aI_pL, aL_pL, aR_pL, nx_pR, kd_pR, ln_pR, fI_pR, fL_pR, fR_pR, aI_pR, aL_pR, aR_pR, nx_qI, kd_qI, ln_qI, fI_qI, fL_qI, fR_qI, aI_qI, aL_qI, aR_qI, nx_qL, kd_qL, ln_qL, fI_qL, fL_qL, fR_qL, aI_qL, aL_qL, aR_qL, nx_qR, kd_qR, ln_qR, fI_qR, fL_qR, fR_qR, aI_qR, aL_qR, aR_qR, nx_mk, kd_mk, ln_mk, fI_mk, fL_mk, fR_mk, aI_mk, aL_mk, aR_mk, false_and, and_false, if_false, if_true, and_self, Int.reduceEq, Nat.reduceEqDiff, ite_self, MLay_pI, MLay_pL, MLay_qI, MLay_qL, ev_X8_takeBytes_0, ev_X8_takeBytes_2, xt_X8_takeBytes, xf_X8_takeBytes, us_X8_takeSign]
  exact w
