/-! the reference: stories of two beginnings -/

set_option maxRecDepth 20000 in
theorem c_X12_ones : Ct yX12_ones cX12_ones 3 ((none : Option FieldType)) 3 0 0 sp_X12_ones := by
  refine Ct.go (M := M_X12_ones) mm_X12_ones fun av σ Q h0 => ?_
  obtain ⟨this, m, rfl, hk, h⟩ := el_X12_ones h0
  clear h0
  refine ⟨Nat.le_of_ble_eq_true rfl, ?_⟩
  show Go M_X12_ones Q 0 [some (vr this), some (vi m), none] [] σ (0, 0)
  obtain ⟨rfl, hI, hc, H, K, sp, e, hP, h⟩ := h
  have hn := hP.1
  have w := on_2 (Q := Q) hP h (300 * m).toNat 0 σ [] (by omega) (by omega) ⟨hI, Uv.refl _ _ _ _⟩ ⟨hc, fun i x hx => by cases hx⟩ (SgB.nil _ fun x hx => by
    obtain ⟨p, rfl⟩ := len1 hx.2
    rw [keyL_1]
    have hv := (ST1.mp hx.1).1
    have e0 : k13 0 = 0 := by decide
    by_cases c : p = 0
    · subst c; exact Int.le_refl _
    · have := k13_mono (show 0 < p by omega); omega)
  refine go_X12_ones (ct := fun p => p == 2) 20 ?_
  simp only [oI, oL, oR, o1, lI, lL, lR, popN, catS, gv, stL, stL2, swt, cnd, spObj, List.getElem?_cons_zero, List.getElem?_cons_succ, List.getD_cons_zero, List.getD_cons_succ, List.set_cons_zero, List.set_cons_succ, List.nil_append, List.cons_append, Option.toList, Bool.or_false, Bool.false_or, Bool.or_true, Bool.true_or, Nat.reduceBEq, Nat.reduceAdd, Nat.reduceLT, Nat.reduceLeDiff, Int.reduceAdd, Int.reduceToNat, true_and, and_true, Fin.isValue, Fin.val_zero, Fin.val_one, Fin.val_two, Fin.reduceFinMk, eq_self, Int.reduceNeg, imp_self, Nat.reduceMul, Nat.le_refl, not_true_eq_false, not_false_eq_true, List.getElem?_nil, reduceCtorEq, true_or, or_true, Classical.not_not, implies_true, or_self, wI_0, wI_1, wI_m1, b2i_w, b2i_eq0, b2i_eq1, b2i_bool, nor_self, nx_pI, kd_pI, ln_pI, fI_pI, fL_pI, fR_pI, aI_pI, aL_pI, aR_pI, nx_pL, kd_pL, ln_pL, fI_pL, fL_pL, fR_pL, aI_pL, aL_pL, aR_pL, nx_pR, kd_pR, ln_pR, fI_pR, fL_pR, fR_pR, aI_pR, aL_pR, aR_pR, nx_qI, kd_qI, ln_qI, fI_qI, fL_qI, fR_qI, aI_qI, aL_qI, aR_qI, nx_qL, kd_qL, ln_qL, fI_qL, fL_qL, fR_qL, aI_qL, aL_qL, aR_qL, nx_qR, kd_qR, ln_qR, fI_qR, fL_qR, fR_qR, aI_qR, aL_qR, aR_qR, nx_mk, kd_mk, ln_mk, fI_mk, fL_mk, fR_mk, aI_mk, aL_mk, aR_mk, false_and, and_false, if_false, if_true, and_self, Int.reduceEq, Nat.reduceEqDiff, ite_self, MLay_pI, MLay_pL, MLay_qI, MLay_qL, ev_X12_ones_0, ev_X12_ones_1, xt_X12_ones, xf_X12_ones, us_X12_areAll, us_X12_tells]
  exact w

def sp_X12_twos : Sp := fun av σ Q => oR av fun this av => oI av fun m av => av = [] ∧ kd σ this = 13 ∧ (this = 61 ∧ MI σ ∧ fI σ 1322 61 = 0 ∧ ∃ H K sp e, Pc σ H K m sp e ∧ ∀ τ xs, Wt σ τ → Told τ xs → Sg (Sm H K m sp 2) xs → Q none τ)
theorem us_X12_twos (this : Int) (m : Int) (σ : Hp) (Q : Option AV → Hp → Prop) : sp_X12_twos [vr this, vi m] σ Q = (kd σ this = 13 ∧ (this = 61 ∧ MI σ ∧ fI σ 1322 61 = 0 ∧ ∃ H K sp e, Pc σ H K m sp e ∧ ∀ τ xs, Wt σ τ → Told τ xs → Sg (Sm H K m sp 2) xs → Q none τ)) := propext ⟨fun h => h.2, fun h => ⟨rfl, h⟩⟩
theorem el_X12_twos {av : List AV} {σ : Hp} {Q : Option AV → Hp → Prop} (h : sp_X12_twos av σ Q) : ∃ (this : Int) (m : Int), av = [vr this, vi m] ∧ (kd σ this = 13 ∧ (this = 61 ∧ MI σ ∧ fI σ 1322 61 = 0 ∧ ∃ H K sp e, Pc σ H K m sp e ∧ ∀ τ xs, Wt σ τ → Told τ xs → Sg (Sm H K m sp 2) xs → Q none τ)) := by
  obtain ⟨this, a0, rfl, h0⟩ := oR_s h
  obtain ⟨m, a1, rfl, h1⟩ := oI_s h0
  obtain ⟨rfl, hz⟩ := h1
  exact ⟨this, m, rfl, hz⟩
theorem rc_X12_twos : ∀ (av : List AV) (σ : Hp) (Q : Option AV → Hp → Prop), sp_X12_twos av σ Q → ∃ r tl, av = vr r :: tl ∧ kd σ r = 12 + 1 := fun av σ Q h => by
  obtain ⟨this, m, rfl, hz, -⟩ := el_X12_twos h
  exact ⟨this, _, rfl, hz⟩

def tb_X12_twos : Tab := [(0, .iconst 0, 1, (0, 0, 0, 0)), (1, .istore_n 2, 1, (0, 0, 0, 0)), (2, .iload_n 2, 1, (0, 0, 0, 0)), (3, .sipush 300, 3, (0, 0, 0, 0)), (6, .iload_n 1, 1, (0, 0, 0, 0)), (7, .imul, 1, (0, 0, 0, 0)), (8, .if_icmp .ge 117, 3, (0, 0, 0, 0)), (11, .iload_n 2, 1, (0, 0, 0, 0)), (12, .sipush 300, 3, (0, 0, 0, 0)), (15, .irem, 1, (0, 0, 0, 0)), (16, .aload_n 0, 1, (0, 0, 0, 0)), (17, .getfield 241, 3, (13, 1329, 0, 0)), (20, .if_icmp .ge 99, 3, (0, 0, 0, 0)), (23, .aload_n 0, 1, (0, 0, 0, 0)), (24, .getfield 71, 3, (13, 1326, 2, 0)), (27, .iload_n 2, 1, (0, 0, 0, 0)), (28, .baload, 1, (0, 0, 0, 0)), (29, .ifCond .ne 6, 3, (0, 0, 0, 0)), (32, .goto 87, 3, (0, 0, 0, 0)), (35, .sipush 300, 3, (0, 0, 0, 0)), (38, .iload_n 2, 1, (0, 0, 0, 0)), (39, .sipush 300, 3, (0, 0, 0, 0)), (42, .idiv, 1, (0, 0, 0, 0)), (43, .iconst 1, 1, (0, 0, 0, 0)), (44, .iadd, 1, (0, 0, 0, 0)), (45, .imul, 1, (0, 0, 0, 0)), (46, .istore_n 3, 1, (0, 0, 0, 0)), (47, .iload_n 3, 1, (0, 0, 0, 0)), (48, .sipush 300, 3, (0, 0, 0, 0)), (51, .iload_n 1, 1, (0, 0, 0, 0)), (52, .imul, 1, (0, 0, 0, 0)), (53, .if_icmp .ge 66, 3, (0, 0, 0, 0)), (56, .iload_n 3, 1, (0, 0, 0, 0)), (57, .sipush 300, 3, (0, 0, 0, 0)), (60, .irem, 1, (0, 0, 0, 0)), (61, .aload_n 0, 1, (0, 0, 0, 0)), (62, .getfield 241, 3, (13, 1329, 0, 0)), (65, .if_icmp .ge 48, 3, (0, 0, 0, 0)), (68, .aload_n 0, 1, (0, 0, 0, 0)), (69, .getfield 71, 3, (13, 1326, 2, 0)), (72, .iload_n 3, 1, (0, 0, 0, 0)), (73, .baload, 1, (0, 0, 0, 0)), (74, .ifCond .eq 39, 3, (0, 0, 0, 0)), (77, .aload_n 0, 1, (0, 0, 0, 0)), (78, .iload_n 2, 1, (0, 0, 0, 0)), (79, .invokevirtual 267, 3, (0, 0, 0, 0)), (82, .ifCond .ne 14, 3, (0, 0, 0, 0)), (85, .aload_n 0, 1, (0, 0, 0, 0)), (86, .iload_n 3, 1, (0, 0, 0, 0)), (87, .invokevirtual 267, 3, (0, 0, 0, 0)), (90, .ifCond .ne 6, 3, (0, 0, 0, 0)), (93, .goto 20, 3, (0, 0, 0, 0)), (96, .aload_n 0, 1, (0, 0, 0, 0)), (97, .iload_n 2, 1, (0, 0, 0, 0)), (98, .iload_n 3, 1, (0, 0, 0, 0)), (99, .iconst (-1), 1, (0, 0, 0, 0)), (100, .invokevirtual 260, 3, (0, 0, 0, 0)), (103, .ifCond .eq 10, 3, (0, 0, 0, 0)), (106, .aload_n 0, 1, (0, 0, 0, 0)), (107, .iload_n 2, 1, (0, 0, 0, 0)), (108, .iload_n 3, 1, (0, 0, 0, 0)), (109, .iconst (-1), 1, (0, 0, 0, 0)), (110, .invokevirtual 263, 3, (0, 0, 0, 0)), (113, .iinc 3 1, 3, (0, 0, 0, 0)), (116, .goto (-69), 3, (0, 0, 0, 0)), (119, .iinc 2 1, 3, (0, 0, 0, 0)), (122, .goto (-120), 3, (0, 0, 0, 0)), (125, .return_, 1, (0, 0, 0, 0))]
set_option maxRecDepth 100000 in
theorem tk_X12_twos : TOK RX12 false cX12_twos tb_X12_twos := chkT_ok ft_X12 (by decide +kernel)
theorem rw_X12_2136 : Row RX12 (.invokevirtual 267) 3 2 0 0 1 sp_X12_isFirst := row_V (n := 1) (ci := 12) c_X12_isFirst ⟨TBL_in 1855 (by decide +kernel) rfl, TBL_in 1858 (by decide +kernel) rfl, TBL_in 123 (by decide +kernel) rfl, by decide +kernel, by decide⟩ (by decide) rfl (TBL_in 1857 (by decide +kernel) rfl) (TBL_in 77 (by decide +kernel) rfl) rc_X12_isFirst
def mt_X12_twos : List (Nat × Mt) := [(2136, 2, 0, 0, 1, sp_X12_isFirst), (2080, 4, 0, 0, 1, sp_X12_areAll), (2104, 4, 0, 0, 2, sp_X12_tells)]
theorem em_X12_twos : mt_X12_twos.lookup 2136 = some (2, 0, 0, 1, sp_X12_isFirst) ∧ mt_X12_twos.lookup 2080 = some (4, 0, 0, 1, sp_X12_areAll) ∧ mt_X12_twos.lookup 2104 = some (4, 0, 0, 2, sp_X12_tells) := ⟨rfl, rfl, rfl⟩
theorem mk_X12_twos : MOK RX12 mt_X12_twos := by
  intro q hq
  simp only [mt_X12_twos, List.mem_cons, List.not_mem_nil, or_false] at hq
  rcases hq with rfl | rfl | rfl
  · exact rw_X12_2136
  · exact rw_X12_2080
  · exact rw_X12_2104
noncomputable def xe_X12_twos (ct : Nat → Bool) (K : Kt) (R : Option AV → Hp → Prop) (n : Nat) : Kt := exS 4 3 0 0 0 tb_X12_twos mt_X12_twos ct K R n
noncomputable def xk_X12_twos (ct : Nat → Bool) (K : Kt) (R : Option AV → Hp → Prop) (n : Nat) : Kt := exkS 4 3 0 0 0 tb_X12_twos mt_X12_twos ct K R n
theorem xt_X12_twos {ct : Nat → Bool} {K : Kt} {R : Option AV → Hp → Prop} {n pc : Nat} {ls : List (Option AV)} {st : List AV} {σ : Hp} {k : Nat × Nat} (h : ct pc = true) : xk_X12_twos ct K R n pc ls st σ k = K pc ls st σ k := by unfold xk_X12_twos exkS; rw [h]
theorem xf_X12_twos {ct : Nat → Bool} {K : Kt} {R : Option AV → Hp → Prop} {n pc : Nat} {ls : List (Option AV)} {st : List AV} {σ : Hp} {k : Nat × Nat} (h : ct pc = false) : xk_X12_twos ct K R n pc ls st σ k = xe_X12_twos ct K R n pc ls st σ k := by unfold xk_X12_twos exkS xe_X12_twos; rw [h]
theorem ev_X12_twos_0 {ct : Nat → Bool} {K : Kt} {R : Option AV → Hp → Prop} {n : Nat} {ls : List (Option AV)} {st : List AV} {σ : Hp} {k : Nat × Nat} : xe_X12_twos ct K R (n + 1) 0 ls st σ k = (xk_X12_twos ct K R n 1 ls (vi (0) :: st) σ k) := exS_step.trans rfl
theorem ev_X12_twos_1 {ct : Nat → Bool} {K : Kt} {R : Option AV → Hp → Prop} {n : Nat} {ls : List (Option AV)} {st : List AV} {σ : Hp} {k : Nat × Nat} : xe_X12_twos ct K R (n + 1) 1 ls st σ k = (oI st fun x st => 2 < 4 ∧ xk_X12_twos ct K R n 2 (stL ls 2 (vi x)) st σ k) := exS_step.trans rfl
theorem ev_X12_twos_2 {ct : Nat → Bool} {K : Kt} {R : Option AV → Hp → Prop} {n : Nat} {ls : List (Option AV)} {st : List AV} {σ : Hp} {k : Nat × Nat} : xe_X12_twos ct K R (n + 1) 2 ls st σ k = (lI ls 2 fun x => xk_X12_twos ct K R n 3 ls (vi x :: st) σ k) := exS_step.trans rfl
theorem ev_X12_twos_3 {ct : Nat → Bool} {K : Kt} {R : Option AV → Hp → Prop} {n : Nat} {ls : List (Option AV)} {st : List AV} {σ : Hp} {k : Nat × Nat} : xe_X12_twos ct K R (n + 1) 3 ls st σ k = (xk_X12_twos ct K R n 6 ls (vi (300) :: st) σ k) := exS_step.trans rfl
theorem ev_X12_twos_6 {ct : Nat → Bool} {K : Kt} {R : Option AV → Hp → Prop} {n : Nat} {ls : List (Option AV)} {st : List AV} {σ : Hp} {k : Nat × Nat} : xe_X12_twos ct K R (n + 1) 6 ls st σ k = (lI ls 1 fun x => xk_X12_twos ct K R n 7 ls (vi x :: st) σ k) := exS_step.trans rfl
theorem ev_X12_twos_7 {ct : Nat → Bool} {K : Kt} {R : Option AV → Hp → Prop} {n : Nat} {ls : List (Option AV)} {st : List AV} {σ : Hp} {k : Nat × Nat} : xe_X12_twos ct K R (n + 1) 7 ls st σ k = (oI st fun y st => oI st fun x st => xk_X12_twos ct K R n 8 ls (vi (x * y) :: st) σ k) := exS_step.trans rfl
theorem ev_X12_twos_8 {ct : Nat → Bool} {K : Kt} {R : Option AV → Hp → Prop} {n : Nat} {ls : List (Option AV)} {st : List AV} {σ : Hp} {k : Nat × Nat} : xe_X12_twos ct K R (n + 1) 8 ls st σ k = (oI st fun y st => oI st fun x st => (wI y ≤ wI x → xk_X12_twos ct K R n 125 ls st σ k) ∧ (¬ (wI y ≤ wI x) → xk_X12_twos ct K R n 11 ls st σ k)) := exS_step.trans rfl
theorem ev_X12_twos_11 {ct : Nat → Bool} {K : Kt} {R : Option AV → Hp → Prop} {n : Nat} {ls : List (Option AV)} {st : List AV} {σ : Hp} {k : Nat × Nat} : xe_X12_twos ct K R (n + 1) 11 ls st σ k = (lI ls 2 fun x => xk_X12_twos ct K R n 12 ls (vi x :: st) σ k) := exS_step.trans rfl
theorem ev_X12_twos_12 {ct : Nat → Bool} {K : Kt} {R : Option AV → Hp → Prop} {n : Nat} {ls : List (Option AV)} {st : List AV} {σ : Hp} {k : Nat × Nat} : xe_X12_twos ct K R (n + 1) 12 ls st σ k = (xk_X12_twos ct K R n 15 ls (vi (300) :: st) σ k) := exS_step.trans rfl
theorem ev_X12_twos_15 {ct : Nat → Bool} {K : Kt} {R : Option AV → Hp → Prop} {n : Nat} {ls : List (Option AV)} {st : List AV} {σ : Hp} {k : Nat × Nat} : xe_X12_twos ct K R (n + 1) 15 ls st σ k = (oI st fun y st => oI st fun x st => ¬ wI y = 0 ∧ xk_X12_twos ct K R n 16 ls (vi (rmI x y) :: st) σ k) := exS_step.trans rfl
theorem ev_X12_twos_16 {ct : Nat → Bool} {K : Kt} {R : Option AV → Hp → Prop} {n : Nat} {ls : List (Option AV)} {st : List AV} {σ : Hp} {k : Nat × Nat} : xe_X12_twos ct K R (n + 1) 16 ls st σ k = (lR ls 0 fun x => xk_X12_twos ct K R n 17 ls (vr x :: st) σ k) := exS_step.trans rfl
theorem ev_X12_twos_17 {ct : Nat → Bool} {K : Kt} {R : Option AV → Hp → Prop} {n : Nat} {ls : List (Option AV)} {st : List AV} {σ : Hp} {k : Nat × Nat} : xe_X12_twos ct K R (n + 1) 17 ls st σ k = (oR st fun x st => kd σ x = 13 ∧ xk_X12_twos ct K R n 20 ls (vi (fI σ 1329 x) :: st) σ k) := exS_step.trans rfl
theorem ev_X12_twos_20 {ct : Nat → Bool} {K : Kt} {R : Option AV → Hp → Prop} {n : Nat} {ls : List (Option AV)} {st : List AV} {σ : Hp} {k : Nat × Nat} : xe_X12_twos ct K R (n + 1) 20 ls st σ k = (oI st fun y st => oI st fun x st => (wI y ≤ wI x → xk_X12_twos ct K R n 119 ls st σ k) ∧ (¬ (wI y ≤ wI x) → xk_X12_twos ct K R n 23 ls st σ k)) := exS_step.trans rfl
theorem ev_X12_twos_23 {ct : Nat → Bool} {K : Kt} {R : Option AV → Hp → Prop} {n : Nat} {ls : List (Option AV)} {st : List AV} {σ : Hp} {k : Nat × Nat} : xe_X12_twos ct K R (n + 1) 23 ls st σ k = (lR ls 0 fun x => xk_X12_twos ct K R n 24 ls (vr x :: st) σ k) := exS_step.trans rfl
theorem ev_X12_twos_24 {ct : Nat → Bool} {K : Kt} {R : Option AV → Hp → Prop} {n : Nat} {ls : List (Option AV)} {st : List AV} {σ : Hp} {k : Nat × Nat} : xe_X12_twos ct K R (n + 1) 24 ls st σ k = (oR st fun x st => kd σ x = 13 ∧ xk_X12_twos ct K R n 27 ls (vr (fR σ 1326 x) :: st) σ k) := exS_step.trans rfl
theorem ev_X12_twos_27 {ct : Nat → Bool} {K : Kt} {R : Option AV → Hp → Prop} {n : Nat} {ls : List (Option AV)} {st : List AV} {σ : Hp} {k : Nat × Nat} : xe_X12_twos ct K R (n + 1) 27 ls st σ k = (lI ls 2 fun x => xk_X12_twos ct K R n 28 ls (vi x :: st) σ k) := exS_step.trans rfl
theorem ev_X12_twos_28 {ct : Nat → Bool} {K : Kt} {R : Option AV → Hp → Prop} {n : Nat} {ls : List (Option AV)} {st : List AV} {σ : Hp} {k : Nat × Nat} : xe_X12_twos ct K R (n + 1) 28 ls st σ k = (oI st fun j st => oR st fun x st => (kd σ x = 103 ∨ kd σ x = 21) ∧ (0 ≤ j ∧ j < ln σ x) ∧ xk_X12_twos ct K R n 29 ls (vi (aI σ x j) :: st) σ k) := exS_step.trans rfl
theorem ev_X12_twos_29 {ct : Nat → Bool} {K : Kt} {R : Option AV → Hp → Prop} {n : Nat} {ls : List (Option AV)} {st : List AV} {σ : Hp} {k : Nat × Nat} : xe_X12_twos ct K R (n + 1) 29 ls st σ k = (oI st fun x st => (¬ wI x = wI 0 → xk_X12_twos ct K R n 35 ls st σ k) ∧ (¬ (¬ wI x = wI 0) → xk_X12_twos ct K R n 32 ls st σ k)) := exS_step.trans rfl
theorem ev_X12_twos_32 {ct : Nat → Bool} {K : Kt} {R : Option AV → Hp → Prop} {n : Nat} {ls : List (Option AV)} {st : List AV} {σ : Hp} {k : Nat × Nat} : xe_X12_twos ct K R (n + 1) 32 ls st σ k = (xk_X12_twos ct K R n 119 ls st σ k) := exS_step.trans rfl
theorem ev_X12_twos_35 {ct : Nat → Bool} {K : Kt} {R : Option AV → Hp → Prop} {n : Nat} {ls : List (Option AV)} {st : List AV} {σ : Hp} {k : Nat × Nat} : xe_X12_twos ct K R (n + 1) 35 ls st σ k = (xk_X12_twos ct K R n 38 ls (vi (300) :: st) σ k) := exS_step.trans rfl
theorem ev_X12_twos_38 {ct : Nat → Bool} {K : Kt} {R : Option AV → Hp → Prop} {n : Nat} {ls : List (Option AV)} {st : List AV} {σ : Hp} {k : Nat × Nat} : xe_X12_twos ct K R (n + 1) 38 ls st σ k = (lI ls 2 fun x => xk_X12_twos ct K R n 39 ls (vi x :: st) σ k) := exS_step.trans rfl
theorem ev_X12_twos_39 {ct : Nat → Bool} {K : Kt} {R : Option AV → Hp → Prop} {n : Nat} {ls : List (Option AV)} {st : List AV} {σ : Hp} {k : Nat × Nat} : xe_X12_twos ct K R (n + 1) 39 ls st σ k = (xk_X12_twos ct K R n 42 ls (vi (300) :: st) σ k) := exS_step.trans rfl
theorem ev_X12_twos_42 {ct : Nat → Bool} {K : Kt} {R : Option AV → Hp → Prop} {n : Nat} {ls : List (Option AV)} {st : List AV} {σ : Hp} {k : Nat × Nat} : xe_X12_twos ct K R (n + 1) 42 ls st σ k = (oI st fun y st => oI st fun x st => ¬ wI y = 0 ∧ xk_X12_twos ct K R n 43 ls (vi (dvI x y) :: st) σ k) := exS_step.trans rfl
theorem ev_X12_twos_43 {ct : Nat → Bool} {K : Kt} {R : Option AV → Hp → Prop} {n : Nat} {ls : List (Option AV)} {st : List AV} {σ : Hp} {k : Nat × Nat} : xe_X12_twos ct K R (n + 1) 43 ls st σ k = (xk_X12_twos ct K R n 44 ls (vi (1) :: st) σ k) := exS_step.trans rfl
theorem ev_X12_twos_44 {ct : Nat → Bool} {K : Kt} {R : Option AV → Hp → Prop} {n : Nat} {ls : List (Option AV)} {st : List AV} {σ : Hp} {k : Nat × Nat} : xe_X12_twos ct K R (n + 1) 44 ls st σ k = (oI st fun y st => oI st fun x st => xk_X12_twos ct K R n 45 ls (vi (x + y) :: st) σ k) := exS_step.trans rfl
theorem ev_X12_twos_45 {ct : Nat → Bool} {K : Kt} {R : Option AV → Hp → Prop} {n : Nat} {ls : List (Option AV)} {st : List AV} {σ : Hp} {k : Nat × Nat} : xe_X12_twos ct K R (n + 1) 45 ls st σ k = (oI st fun y st => oI st fun x st => xk_X12_twos ct K R n 46 ls (vi (x * y) :: st) σ k) := exS_step.trans rfl
theorem ev_X12_twos_46 {ct : Nat → Bool} {K : Kt} {R : Option AV → Hp → Prop} {n : Nat} {ls : List (Option AV)} {st : List AV} {σ : Hp} {k : Nat × Nat} : xe_X12_twos ct K R (n + 1) 46 ls st σ k = (oI st fun x st => 3 < 4 ∧ xk_X12_twos ct K R n 47 (stL ls 3 (vi x)) st σ k) := exS_step.trans rfl
theorem ev_X12_twos_47 {ct : Nat → Bool} {K : Kt} {R : Option AV → Hp → Prop} {n : Nat} {ls : List (Option AV)} {st : List AV} {σ : Hp} {k : Nat × Nat} : xe_X12_twos ct K R (n + 1) 47 ls st σ k = (lI ls 3 fun x => xk_X12_twos ct K R n 48 ls (vi x :: st) σ k) := exS_step.trans rfl
theorem ev_X12_twos_48 {ct : Nat → Bool} {K : Kt} {R : Option AV → Hp → Prop} {n : Nat} {ls : List (Option AV)} {st : List AV} {σ : Hp} {k : Nat × Nat} : xe_X12_twos ct K R (n + 1) 48 ls st σ k = (xk_X12_twos ct K R n 51 ls (vi (300) :: st) σ k) := exS_step.trans rfl
theorem ev_X12_twos_51 {ct : Nat → Bool} {K : Kt} {R : Option AV → Hp → Prop} {n : Nat} {ls : List (Option AV)} {st : List AV} {σ : Hp} {k : Nat × Nat} : xe_X12_twos ct K R (n + 1) 51 ls st σ k = (lI ls 1 fun x => xk_X12_twos ct K R n 52 ls (vi x :: st) σ k) := exS_step.trans rfl
theorem ev_X12_twos_52 {ct : Nat → Bool} {K : Kt} {R : Option AV → Hp → Prop} {n : Nat} {ls : List (Option AV)} {st : List AV} {σ : Hp} {k : Nat × Nat} : xe_X12_twos ct K R (n + 1) 52 ls st σ k = (oI st fun y st => oI st fun x st => xk_X12_twos ct K R n 53 ls (vi (x * y) :: st) σ k) := exS_step.trans rfl
theorem ev_X12_twos_53 {ct : Nat → Bool} {K : Kt} {R : Option AV → Hp → Prop} {n : Nat} {ls : List (Option AV)} {st : List AV} {σ : Hp} {k : Nat × Nat} : xe_X12_twos ct K R (n + 1) 53 ls st σ k = (oI st fun y st => oI st fun x st => (wI y ≤ wI x → xk_X12_twos ct K R n 119 ls st σ k) ∧ (¬ (wI y ≤ wI x) → xk_X12_twos ct K R n 56 ls st σ k)) := exS_step.trans rfl
theorem ev_X12_twos_56 {ct : Nat → Bool} {K : Kt} {R : Option AV → Hp → Prop} {n : Nat} {ls : List (Option AV)} {st : List AV} {σ : Hp} {k : Nat × Nat} : xe_X12_twos ct K R (n + 1) 56 ls st σ k = (lI ls 3 fun x => xk_X12_twos ct K R n 57 ls (vi x :: st) σ k) := exS_step.trans rfl
theorem ev_X12_twos_57 {ct : Nat → Bool} {K : Kt} {R : Option AV → Hp → Prop} {n : Nat} {ls : List (Option AV)} {st : List AV} {σ : Hp} {k : Nat × Nat} : xe_X12_twos ct K R (n + 1) 57 ls st σ k = (xk_X12_twos ct K R n 60 ls (vi (300) :: st) σ k) := exS_step.trans rfl
theorem ev_X12_twos_60 {ct : Nat → Bool} {K : Kt} {R : Option AV → Hp → Prop} {n : Nat} {ls : List (Option AV)} {st : List AV} {σ : Hp} {k : Nat × Nat} : xe_X12_twos ct K R (n + 1) 60 ls st σ k = (oI st fun y st => oI st fun x st => ¬ wI y = 0 ∧ xk_X12_twos ct K R n 61 ls (vi (rmI x y) :: st) σ k) := exS_step.trans rfl
theorem ev_X12_twos_61 {ct : Nat → Bool} {K : Kt} {R : Option AV → Hp → Prop} {n : Nat} {ls : List (Option AV)} {st : List AV} {σ : Hp} {k : Nat × Nat} : xe_X12_twos ct K R (n + 1) 61 ls st σ k = (lR ls 0 fun x => xk_X12_twos ct K R n 62 ls (vr x :: st) σ k) := exS_step.trans rfl
theorem ev_X12_twos_62 {ct : Nat → Bool} {K : Kt} {R : Option AV → Hp → Prop} {n : Nat} {ls : List (Option AV)} {st : List AV} {σ : Hp} {k : Nat × Nat} : xe_X12_twos ct K R (n + 1) 62 ls st σ k = (oR st fun x st => kd σ x = 13 ∧ xk_X12_twos ct K R n 65 ls (vi (fI σ 1329 x) :: st) σ k) := exS_step.trans rfl
theorem ev_X12_twos_65 {ct : Nat → Bool} {K : Kt} {R : Option AV → Hp → Prop} {n : Nat} {ls : List (Option AV)} {st : List AV} {σ : Hp} {k : Nat × Nat} : xe_X12_twos ct K R (n + 1) 65 ls st σ k = (oI st fun y st => oI st fun x st => (wI y ≤ wI x → xk_X12_twos ct K R n 113 ls st σ k) ∧ (¬ (wI y ≤ wI x) → xk_X12_twos ct K R n 68 ls st σ k)) := exS_step.trans rfl
theorem ev_X12_twos_68 {ct : Nat → Bool} {K : Kt} {R : Option AV → Hp → Prop} {n : Nat} {ls : List (Option AV)} {st : List AV} {σ : Hp} {k : Nat × Nat} : xe_X12_twos ct K R (n + 1) 68 ls st σ k = (lR ls 0 fun x => xk_X12_twos ct K R n 69 ls (vr x :: st) σ k) := exS_step.trans rfl
theorem ev_X12_twos_69 {ct : Nat → Bool} {K : Kt} {R : Option AV → Hp → Prop} {n : Nat} {ls : List (Option AV)} {st : List AV} {σ : Hp} {k : Nat × Nat} : xe_X12_twos ct K R (n + 1) 69 ls st σ k = (oR st fun x st => kd σ x = 13 ∧ xk_X12_twos ct K R n 72 ls (vr (fR σ 1326 x) :: st) σ k) := exS_step.trans rfl
theorem ev_X12_twos_72 {ct : Nat → Bool} {K : Kt} {R : Option AV → Hp → Prop} {n : Nat} {ls : List (Option AV)} {st : List AV} {σ : Hp} {k : Nat × Nat} : xe_X12_twos ct K R (n + 1) 72 ls st σ k = (lI ls 3 fun x => xk_X12_twos ct K R n 73 ls (vi x :: st) σ k) := exS_step.trans rfl
theorem ev_X12_twos_73 {ct : Nat → Bool} {K : Kt} {R : Option AV → Hp → Prop} {n : Nat} {ls : List (Option AV)} {st : List AV} {σ : Hp} {k : Nat × Nat} : xe_X12_twos ct K R (n + 1) 73 ls st σ k = (oI st fun j st => oR st fun x st => (kd σ x = 103 ∨ kd σ x = 21) ∧ (0 ≤ j ∧ j < ln σ x) ∧ xk_X12_twos ct K R n 74 ls (vi (aI σ x j) :: st) σ k) := exS_step.trans rfl
theorem ev_X12_twos_74 {ct : Nat → Bool} {K : Kt} {R : Option AV → Hp → Prop} {n : Nat} {ls : List (Option AV)} {st : List AV} {σ : Hp} {k : Nat × Nat} : xe_X12_twos ct K R (n + 1) 74 ls st σ k = (oI st fun x st => (wI x = wI 0 → xk_X12_twos ct K R n 113 ls st σ k) ∧ (¬ (wI x = wI 0) → xk_X12_twos ct K R n 77 ls st σ k)) := exS_step.trans rfl
theorem ev_X12_twos_77 {ct : Nat → Bool} {K : Kt} {R : Option AV → Hp → Prop} {n : Nat} {ls : List (Option AV)} {st : List AV} {σ : Hp} {k : Nat × Nat} : xe_X12_twos ct K R (n + 1) 77 ls st σ k = (lR ls 0 fun x => xk_X12_twos ct K R n 78 ls (vr x :: st) σ k) := exS_step.trans rfl
theorem ev_X12_twos_78 {ct : Nat → Bool} {K : Kt} {R : Option AV → Hp → Prop} {n : Nat} {ls : List (Option AV)} {st : List AV} {σ : Hp} {k : Nat × Nat} : xe_X12_twos ct K R (n + 1) 78 ls st σ k = (lI ls 2 fun x => xk_X12_twos ct K R n 79 ls (vi x :: st) σ k) := exS_step.trans rfl
theorem ev_X12_twos_79 {ct : Nat → Bool} {K : Kt} {R : Option AV → Hp → Prop} {n : Nat} {ls : List (Option AV)} {st : List AV} {σ : Hp} {k : Nat × Nat} : xe_X12_twos ct K R (n + 1) 79 ls st σ k = (popN 2 st [] fun av rest => (catS rest ≤ 8 ∧ 1 < 3 ∧ k.1 + 0 ≤ 0 ∧ k.2 + 0 ≤ 0) ∧ (sp_X12_isFirst) av σ fun v σ' => xk_X12_twos ct K R n 82 ls (v.toList ++ rest) σ' (k.1 + 0, k.2 + 0)) := exS_step.trans rfl
theorem ev_X12_twos_82 {ct : Nat → Bool} {K : Kt} {R : Option AV → Hp → Prop} {n : Nat} {ls : List (Option AV)} {st : List AV} {σ : Hp} {k : Nat × Nat} : xe_X12_twos ct K R (n + 1) 82 ls st σ k = (oI st fun x st => (¬ wI x = wI 0 → xk_X12_twos ct K R n 96 ls st σ k) ∧ (¬ (¬ wI x = wI 0) → xk_X12_twos ct K R n 85 ls st σ k)) := exS_step.trans rfl
theorem ev_X12_twos_85 {ct : Nat → Bool} {K : Kt} {R : Option AV → Hp → Prop} {n : Nat} {ls : List (Option AV)} {st : List AV} {σ : Hp} {k : Nat × Nat} : xe_X12_twos ct K R (n + 1) 85 ls st σ k = (lR ls 0 fun x => xk_X12_twos ct K R n 86 ls (vr x :: st) σ k) := exS_step.trans rfl
theorem ev_X12_twos_86 {ct : Nat → Bool} {K : Kt} {R : Option AV → Hp → Prop} {n : Nat} {ls : List (Option AV)} {st : List AV} {σ : Hp} {k : Nat × Nat} : xe_X12_twos ct K R (n + 1) 86 ls st σ k = (lI ls 3 fun x => xk_X12_twos ct K R n 87 ls (vi x :: st) σ k) := exS_step.trans rfl
theorem ev_X12_twos_87 {ct : Nat → Bool} {K : Kt} {R : Option AV → Hp → Prop} {n : Nat} {ls : List (Option AV)} {st : List AV} {σ : Hp} {k : Nat × Nat} : xe_X12_twos ct K R (n + 1) 87 ls st σ k = (popN 2 st [] fun av rest => (catS rest ≤ 8 ∧ 1 < 3 ∧ k.1 + 0 ≤ 0 ∧ k.2 + 0 ≤ 0) ∧ (sp_X12_isFirst) av σ fun v σ' => xk_X12_twos ct K R n 90 ls (v.toList ++ rest) σ' (k.1 + 0, k.2 + 0)) := exS_step.trans rfl
theorem ev_X12_twos_90 {ct : Nat → Bool} {K : Kt} {R : Option AV → Hp → Prop} {n : Nat} {ls : List (Option AV)} {st : List AV} {σ : Hp} {k : Nat × Nat} : xe_X12_twos ct K R (n + 1) 90 ls st σ k = (oI st fun x st => (¬ wI x = wI 0 → xk_X12_twos ct K R n 96 ls st σ k) ∧ (¬ (¬ wI x = wI 0) → xk_X12_twos ct K R n 93 ls st σ k)) := exS_step.trans rfl
theorem ev_X12_twos_93 {ct : Nat → Bool} {K : Kt} {R : Option AV → Hp → Prop} {n : Nat} {ls : List (Option AV)} {st : List AV} {σ : Hp} {k : Nat × Nat} : xe_X12_twos ct K R (n + 1) 93 ls st σ k = (xk_X12_twos ct K R n 113 ls st σ k) := exS_step.trans rfl
theorem ev_X12_twos_96 {ct : Nat → Bool} {K : Kt} {R : Option AV → Hp → Prop} {n : Nat} {ls : List (Option AV)} {st : List AV} {σ : Hp} {k : Nat × Nat} : xe_X12_twos ct K R (n + 1) 96 ls st σ k = (lR ls 0 fun x => xk_X12_twos ct K R n 97 ls (vr x :: st) σ k) := exS_step.trans rfl
theorem ev_X12_twos_97 {ct : Nat → Bool} {K : Kt} {R : Option AV → Hp → Prop} {n : Nat} {ls : List (Option AV)} {st : List AV} {σ : Hp} {k : Nat × Nat} : xe_X12_twos ct K R (n + 1) 97 ls st σ k = (lI ls 2 fun x => xk_X12_twos ct K R n 98 ls (vi x :: st) σ k) := exS_step.trans rfl
theorem ev_X12_twos_98 {ct : Nat → Bool} {K : Kt} {R : Option AV → Hp → Prop} {n : Nat} {ls : List (Option AV)} {st : List AV} {σ : Hp} {k : Nat × Nat} : xe_X12_twos ct K R (n + 1) 98 ls st σ k = (lI ls 3 fun x => xk_X12_twos ct K R n 99 ls (vi x :: st) σ k) := exS_step.trans rfl
theorem ev_X12_twos_99 {ct : Nat → Bool} {K : Kt} {R : Option AV → Hp → Prop} {n : Nat} {ls : List (Option AV)} {st : List AV} {σ : Hp} {k : Nat × Nat} : xe_X12_twos ct K R (n + 1) 99 ls st σ k = (xk_X12_twos ct K R n 100 ls (vi (-1) :: st) σ k) := exS_step.trans rfl
theorem ev_X12_twos_100 {ct : Nat → Bool} {K : Kt} {R : Option AV → Hp → Prop} {n : Nat} {ls : List (Option AV)} {st : List AV} {σ : Hp} {k : Nat × Nat} : xe_X12_twos ct K R (n + 1) 100 ls st σ k = (popN 4 st [] fun av rest => (catS rest ≤ 8 ∧ 1 < 3 ∧ k.1 + 0 ≤ 0 ∧ k.2 + 0 ≤ 0) ∧ (sp_X12_areAll) av σ fun v σ' => xk_X12_twos ct K R n 103 ls (v.toList ++ rest) σ' (k.1 + 0, k.2 + 0)) := exS_step.trans rfl
theorem ev_X12_twos_103 {ct : Nat → Bool} {K : Kt} {R : Option AV → Hp → Prop} {n : Nat} {ls : List (Option AV)} {st : List AV} {σ : Hp} {k : Nat × Nat} : xe_X12_twos ct K R (n + 1) 103 ls st σ k = (oI st fun x st => (wI x = wI 0 → xk_X12_twos ct K R n 113 ls st σ k) ∧ (¬ (wI x = wI 0) → xk_X12_twos ct K R n 106 ls st σ k)) := exS_step.trans rfl
theorem ev_X12_twos_106 {ct : Nat → Bool} {K : Kt} {R : Option AV → Hp → Prop} {n : Nat} {ls : List (Option AV)} {st : List AV} {σ : Hp} {k : Nat × Nat} : xe_X12_twos ct K R (n + 1) 106 ls st σ k = (lR ls 0 fun x => xk_X12_twos ct K R n 107 ls (vr x :: st) σ k) := exS_step.trans rfl
theorem ev_X12_twos_107 {ct : Nat → Bool} {K : Kt} {R : Option AV → Hp → Prop} {n : Nat} {ls : List (Option AV)} {st : List AV} {σ : Hp} {k : Nat × Nat} : xe_X12_twos ct K R (n + 1) 107 ls st σ k = (lI ls 2 fun x => xk_X12_twos ct K R n 108 ls (vi x :: st) σ k) := exS_step.trans rfl
theorem ev_X12_twos_108 {ct : Nat → Bool} {K : Kt} {R : Option AV → Hp → Prop} {n : Nat} {ls : List (Option AV)} {st : List AV} {σ : Hp} {k : Nat × Nat} : xe_X12_twos ct K R (n + 1) 108 ls st σ k = (lI ls 3 fun x => xk_X12_twos ct K R n 109 ls (vi x :: st) σ k) := exS_step.trans rfl
theorem ev_X12_twos_109 {ct : Nat → Bool} {K : Kt} {R : Option AV → Hp → Prop} {n : Nat} {ls : List (Option AV)} {st : List AV} {σ : Hp} {k : Nat × Nat} : xe_X12_twos ct K R (n + 1) 109 ls st σ k = (xk_X12_twos ct K R n 110 ls (vi (-1) :: st) σ k) := exS_step.trans rfl
theorem ev_X12_twos_110 {ct : Nat → Bool} {K : Kt} {R : Option AV → Hp → Prop} {n : Nat} {ls : List (Option AV)} {st : List AV} {σ : Hp} {k : Nat × Nat} : xe_X12_twos ct K R (n + 1) 110 ls st σ k = (popN 4 st [] fun av rest => (catS rest ≤ 8 ∧ 2 < 3 ∧ k.1 + 0 ≤ 0 ∧ k.2 + 0 ≤ 0) ∧ (sp_X12_tells) av σ fun v σ' => xk_X12_twos ct K R n 113 ls (v.toList ++ rest) σ' (k.1 + 0, k.2 + 0)) := exS_step.trans rfl
theorem ev_X12_twos_113 {ct : Nat → Bool} {K : Kt} {R : Option AV → Hp → Prop} {n : Nat} {ls : List (Option AV)} {st : List AV} {σ : Hp} {k : Nat × Nat} : xe_X12_twos ct K R (n + 1) 113 ls st σ k = (lI ls 3 fun x => 3 < 4 ∧ xk_X12_twos ct K R n 116 (stL ls 3 (vi (x + (1)))) st σ k) := exS_step.trans rfl
theorem ev_X12_twos_116 {ct : Nat → Bool} {K : Kt} {R : Option AV → Hp → Prop} {n : Nat} {ls : List (Option AV)} {st : List AV} {σ : Hp} {k : Nat × Nat} : xe_X12_twos ct K R (n + 1) 116 ls st σ k = (xk_X12_twos ct K R n 47 ls st σ k) := exS_step.trans rfl
theorem ev_X12_twos_119 {ct : Nat → Bool} {K : Kt} {R : Option AV → Hp → Prop} {n : Nat} {ls : List (Option AV)} {st : List AV} {σ : Hp} {k : Nat × Nat} : xe_X12_twos ct K R (n + 1) 119 ls st σ k = (lI ls 2 fun x => 2 < 4 ∧ xk_X12_twos ct K R n 122 (stL ls 2 (vi (x + (1)))) st σ k) := exS_step.trans rfl
theorem ev_X12_twos_122 {ct : Nat → Bool} {K : Kt} {R : Option AV → Hp → Prop} {n : Nat} {ls : List (Option AV)} {st : List AV} {σ : Hp} {k : Nat × Nat} : xe_X12_twos ct K R (n + 1) 122 ls st σ k = (xk_X12_twos ct K R n 2 ls st σ k) := exS_step.trans rfl
theorem ev_X12_twos_125 {ct : Nat → Bool} {K : Kt} {R : Option AV → Hp → Prop} {n : Nat} {ls : List (Option AV)} {st : List AV} {σ : Hp} {k : Nat × Nat} : xe_X12_twos ct K R (n + 1) 125 ls st σ k = (st = [] ∧ 0 = 0 ∧ R none σ) := exS_step.trans rfl
def M_X12_twos : Md := (yX12_twos, cX12_twos, 4, (none : Option FieldType), 3, 0, 0, 0, false, tb_X12_twos, mt_X12_twos)
theorem mm_X12_twos : MMOK M_X12_twos := ⟨by decide +kernel, tk_X12_twos, mk_X12_twos, rfl, fun h => by cases h⟩
theorem go_X12_twos {Q : Option AV → Hp → Prop} {ct : Nat → Bool} {pc : Nat} {ls : List (Option AV)} {st : List AV} {σ : Hp} {k : Nat × Nat} (n : Nat) (h : xe_X12_twos ct (Go M_X12_twos Q) Q n pc ls st σ k) : Go M_X12_twos Q pc ls st σ k := Go.exS mm_X12_twos h

section TW
variable {Q : Option AV → Hp → Prop} {τ0 : Hp} {H : Int → Prop} {K : Int → Int → Prop} {n sp e : Int}
theorem k13_b {p n : Int} (h : 0 ≤ p ∧ p / 300 < n) (hn : n ≤ 12) : 0 ≤ k13 p ∧ k13 p < 6144 := by unfold k13; omega
theorem k13_le {p q : Int} (h : p ≤ q) : k13 p ≤ k13 q := by
  by_cases c : p = q
  · subst c; exact Int.le_refl _
  · have := k13_mono (show p < q by omega); omega
theorem k13_lt {p q : Int} (h : k13 p < k13 q) : p < q := by
  by_cases c : p < q
  · exact c
  · have := k13_le (show q ≤ p by omega); omega
/-- between the keys of a and a + 1 -/
theorem k2_a {a p q n : Int} (hn : n ≤ 12) (hq : 0 ≤ q ∧ q / 300 < n) (h1 : k13 a * 8192 ≤ k13 p * 8192 + k13 q) (h2 : k13 p * 8192 + k13 q < k13 (a + 1) * 8192) : p = a := by
  have := k13_b hq hn
  by_cases c : p < a
  · have := k13_mono c; omega
  · by_cases d : a + 1 ≤ p
    · have := k13_le d; omega
    · omega
theorem k2_ab {a b p q n : Int} (hn : n ≤ 12) (hq : 0 ≤ q ∧ q / 300 < n) (hb : 0 ≤ b ∧ b / 300 < n) (h1 : k13 a * 8192 + k13 b ≤ k13 p * 8192 + k13 q) (h2 : k13 p * 8192 + k13 q < k13 a * 8192 + k13 (b + 1)) : p = a ∧ q = b := by
  have x1 := k13_b hq hn
  have x2 := k13_b hb hn
  have x3 : k13 (b + 1) ≤ 6144 + 8 := by unfold k13; omega
  have e : p = a := by
    by_cases c : p < a
    · have := k13_mono c; omega
    · by_cases d : a + 1 ≤ p
      · have := k13_mono (show a < p by omega); omega
      · omega
  subst e
  exact ⟨rfl, k13_bt (by omega) (by omega)⟩
/-- whoever begins with the tape's first tick -/
theorem is_first {τ : Hp} (hP : Pc τ H K n sp e) {x : List Int} (hx : ST H K n sp x) : ∃ p ∈ x, p % 300 = e := by
  obtain ⟨h1, h2, h3, h4, h5, h6, h7, h8, h9, h10, h11, h12, h13⟩ := hP
  obtain ⟨p, hp, hk⟩ := (hx.2.2 e h5.1 h5.2).mp h6
  have hv : VP n sp p := hx.1 p hp
  refine ⟨p, hp, ?_⟩
  have a := h11 p e hv hk
  have b : H (p % 300) := (hx.2.2 _ (by omega) hv.2.2).mpr ⟨p, hp, h10 p hv⟩
  by_cases c : p % 300 < e
  · exact absurd b (h7 _ (by omega) c)
  · omega
theorem may_1 {τ : Hp} (hP : Pc τ H K n sp e) {x : List Int} (hx : ST H K n sp x) {p : Int} (hp : p ∈ x) : aI τ 82 p = 1 := by
  rw [(hP.2.2.2.2.2.2.2.2.1 p (hx.1 p hp)).2]
  exact b2i_t fun u q1 q2 q3 => (hx.2.2 u q1 q2).mpr ⟨p, hp, q3⟩

set_option maxRecDepth 20000 in
theorem tw_47 (h0 : Pc τ0 H K n sp e) {a : Int} (ha : VP n sp a) (w : ∀ b τ xs, Wt τ0 τ → Told τ xs → SgB (Sm H K n sp 2) (k13 (a + 1) * 8192) xs → Go M_X12_twos Q 119 [some (vr 61), some (vi n), some (vi a), some (vi b)] [] τ (0, 0)) : ∀ (m : Nat) (b : Int) (τ : Hp) (xs : List (List Int)), 300 * (a / 300 + 1) ≤ b → b + m = 300 * n → Wt τ0 τ → Told τ xs → SgB (Sm H K n sp 2) (k13 a * 8192 + k13 b) xs → Go M_X12_twos Q 47 [some (vr 61), some (vi n), some (vi a), some (vi b)] [] τ (0, 0) := by
  have hn := h0.1
  have hsp := h0.2.2.1
  unfold VP at ha
  intro m
  induction m with
  | zero =>
    intro b τ xs hb hm hW hTd hS
    have hkd : kd τ 61 = 13 := hW.1.lay.1
    have eb : b = 300 * n := by omega
    have xa := k13_mono (show a < a + 1 by omega)
    have xb : k13 b ≤ 6144 := by rw [eb]; unfold k13; omega
    have w := w b τ xs hW hTd (hS.skip (by omega) (fun x hx q1 q2 => by
      obtain ⟨p, q, rfl⟩ := len2 hx.2
      rw [keyL_2] at q1 q2
      have hx1 := ST2.mp hx.1
      have xb0 : 0 ≤ k13 b := by rw [eb]; unfold k13; omega
      have ep := k2_a (a := a) (p := p) (q := q) hn.2 ⟨hx1.1.2.1, hx1.1.2.2.1⟩ (by omega) q2
      subst ep
      have := k13_mono (show q < b by omega)
      omega))
    rw [eb] at w ⊢
    refine go_X12_twos (ct := fun p => p == 56 || p == 119) 20 ?_
    simp only [oI, oL, oR, o1, lI, lL, lR, popN, catS, gv, stL, stL2, swt, cnd, spObj, List.getElem?_cons_zero, List.getElem?_cons_succ, List.getD_cons_zero, List.getD_cons_succ, List.set_cons_zero, List.set_cons_succ, List.nil_append, List.cons_append, Option.toList, Bool.or_false, Bool.false_or, Bool.or_true, Bool.true_or, Nat.reduceBEq, Nat.reduceAdd, Nat.reduceLT, Nat.reduceLeDiff, Int.reduceAdd, Int.reduceToNat, true_and, and_true, Fin.isValue, Fin.val_zero, Fin.val_one, Fin.val_two, Fin.reduceFinMk, eq_self, Int.reduceNeg, imp_self, Nat.reduceMul, Nat.le_refl, not_true_eq_false, not_false_eq_true, List.getElem?_nil, reduceCtorEq, true_or, or_true, Classical.not_not, implies_true, or_self, wI_0, wI_1, wI_m1, b2i_w, b2i_eq0, b2i_eq1, b2i_bool, nor_self, nx_pI, kd_pI, ln_pI, fI_pI, fL_pI, fR_pI, aI_pI, aL_pI, aR_pI, nx_pL, kd_pL, ln_pL, fI_pL, fL_pL, fR_pL, aI_pL, aL_pL, aR_pL, nx_pR, kd_pR, ln_pR, fI_pR, fL_pR, fR_pR, aI_pR, aL_pR, aR_pR, nx_qI, kd_qI, ln_qI, fI_qI, fL_qI, fR_qI, aI_qI, aL_qI, aR_qI, nx_qL, kd_qL, ln_qL, fI_qL, fL_qL, fR_qL, aI_qL, aL_qL, aR_qL, nx_qR, kd_qR, ln_qR, fI_qR, fL_qR, fR_qR, aI_qR, aL_qR, aR_qR, nx_mk, kd_mk, ln_mk, fI_mk, fL_mk, fR_mk, aI_mk, aL_mk, aR_mk, false_and, and_false, if_false, if_true, and_self, Int.reduceEq, Nat.reduceEqDiff, ite_self, MLay_pI, MLay_pL, MLay_qI, MLay_qL, ev_X12_twos_47, ev_X12_twos_48, ev_X12_twos_51, ev_X12_twos_52, ev_X12_twos_53, xt_X12_twos, xf_X12_twos, us_X12_isFirst, us_X12_areAll, us_X12_tells, hkd]
    try simp (disch := omega) only [wI_id, dv_nn, rm_nn]
    repeat' (first | intro z | apply And.intro)
    all_goals try omega
    all_goals exact w
  | succ m ih =>
    intro b τ xs hb hm hW hTd hS
    have hT := hW.1
    have hkd : kd τ 61 = 13 := hT.lay.1
    have hP := h0.keep hW
    have es := hP.2.1
    have ee := hP.2.2.2.1
    have hmy := hT.may_ b
    have hwm : wI (aI τ 82 b) = aI τ 82 b := wI_id (by omega) (by omega)
    have hrm : rmI b 300 = b % 300 := rm_nn (by omega) (by omega) (by omega) (by omega)
    have xb := k13_mono (show b < b + 1 by omega)
    have noS : ¬ ST H K n sp [a, b] → Go M_X12_twos Q 47 [some (vr 61), some (vi n), some (vi a), some (vi (b + 1))] [] τ (0, 0) := fun c => ih (b + 1) τ xs (by omega) (by omega) hW hTd (hS.skip (by omega) fun x hx q1 q2 => by
      obtain ⟨p, q, rfl⟩ := len2 hx.2
      rw [keyL_2] at q1 q2
      have hx1 := ST2.mp hx.1
      have := k2_ab hn.2 ⟨hx1.1.2.1, hx1.1.2.2.1⟩ (by omega) q1 q2
      rw [this.1, this.2] at hx
      exact c hx.1)
    by_cases c2 : b % 300 < sp
    · have hv : VP n sp b := ⟨by omega, by omega, c2⟩
      by_cases c1 : aI τ 82 b = 0
      · have w := noS (fun q => by have := may_1 hP q (p := b) (by simp); omega)
        refine go_X12_twos (ct := fun p => p == 77 || p == 47) 30 ?_
        simp only [oI, oL, oR, o1, lI, lL, lR, popN, catS, gv, stL, stL2, swt, cnd, spObj, List.getElem?_cons_zero, List.getElem?_cons_succ, List.getD_cons_zero, List.getD_cons_succ, List.set_cons_zero, List.set_cons_succ, List.nil_append, List.cons_append, Option.toList, Bool.or_false, Bool.false_or, Bool.or_true, Bool.true_or, Nat.reduceBEq, Nat.reduceAdd, Nat.reduceLT, Nat.reduceLeDiff, Int.reduceAdd, Int.reduceToNat, true_and, and_true, Fin.isValue, Fin.val_zero, Fin.val_one, Fin.val_two, Fin.reduceFinMk, eq_self, Int.reduceNeg, imp_self, Nat.reduceMul, Nat.le_refl, not_true_eq_false, not_false_eq_true, List.getElem?_nil, reduceCtorEq, true_or, or_true, Classical.not_not, implies_true, or_self, wI_0, wI_1, wI_m1, b2i_w, b2i_eq0, b2i_eq1, b2i_bool, nor_self, nx_pI, kd_pI, ln_pI, fI_pI, fL_pI, fR_pI, aI_pI, aL_pI, aR_pI, nx_pL, kd_pL, ln_pL, fI_pL, fL_pL, fR_pL, aI_pL, aL_pL, aR_pL, nx_pR, kd_pR, ln_pR, fI_pR, fL_pR, fR_pR, aI_pR, aL_pR, aR_pR, nx_qI, kd_qI, ln_qI, fI_qI, fL_qI, fR_qI, aI_qI, aL_qI, aR_qI, nx_qL, kd_qL, ln_qL, fI_qL, fL_qL, fR_qL, aI_qL, aL_qL, aR_qL, nx_qR, kd_qR, ln_qR, fI_qR, fL_qR, fR_qR, aI_qR, aL_qR, aR_qR, nx_mk, kd_mk, ln_mk, fI_mk, fL_mk, fR_mk, aI_mk, aL_mk, aR_mk, false_and, and_false, if_false, if_true, and_self, Int.reduceEq, Nat.reduceEqDiff, ite_self, MLay_pI, MLay_pL, MLay_qI, MLay_qL, ev_X12_twos_47, ev_X12_twos_48, ev_X12_twos_51, ev_X12_twos_52, ev_X12_twos_53, ev_X12_twos_56, ev_X12_twos_57, ev_X12_twos_60, ev_X12_twos_61, ev_X12_twos_62, ev_X12_twos_65, ev_X12_twos_68, ev_X12_twos_69, ev_X12_twos_72, ev_X12_twos_73, ev_X12_twos_74, ev_X12_twos_113, ev_X12_twos_116, xt_X12_twos, xf_X12_twos, us_X12_isFirst, us_X12_areAll, us_X12_tells, hkd, hT.lay.eqs, es, hrm, c1, not_true_eq_false, not_false_eq_true, false_imp_iff, true_imp_iff]
        try simp (disch := omega) only [wI_id, dv_nn, rm_nn]
        repeat' (first | intro z | apply And.intro)
        all_goals try omega
        all_goals exact w
      · have b1 : 0 ≤ a ∧ a < 3600 := by omega
        have b2 : 0 ≤ b ∧ b < 3600 := by omega
        by_cases c3 : a % 300 = e ∨ b % 300 = e
        · have w96 : Go M_X12_twos Q 96 [some (vr 61), some (vi n), some (vi a), some (vi b)] [] τ (0, 0) := by
            have hA := are2 hP (a := a) (b := b) ha hv
            have b3 : -1 ≤ a ∧ a < 3600 := by omega
            have b4 : -1 ≤ b ∧ b < 3600 := by omega
            have b5 : (-1 : Int) ≤ -1 ∧ (-1 : Int) < 3600 := by decide
            by_cases c4 : mAre τ a b (-1)
            · have hst : ST H K n sp [a, b] := ST2.mpr ⟨⟨ha, hv⟩, by omega, hA.mp c4⟩
              have hst9 := hP.2.2.2.2.2.2.2.2.2.2.2.2
              have hW2 := hW.tells (a := a) (b := b) (c := -1) (fun _ => by omega) (fun _ => by omega) (fun q => absurd q (by decide))
              have hT2 := told_tells hTd hS.2.2.1 (a := a) (b := b) (c := -1) (fun q => by omega) (fun _ => by decide)
              have eL : toL a b (-1) = [a, b] := by unfold toL; rw [if_neg (by omega), if_neg (by omega)]; rfl
              rw [eL] at hT2
              have w := ih (b + 1) _ _ (by omega) (by omega) hW2 hT2 (hS.add (x0 := [a, b]) ⟨hst, rfl⟩ (by rw [keyL_2]; exact Int.le_refl _) (by rw [keyL_2]; omega) (fun x hx q1 q2 => by
                obtain ⟨p, q, rfl⟩ := len2 hx.2
                rw [keyL_2] at q1 q2
                have hx1 := ST2.mp hx.1
                have := k2_ab hn.2 ⟨hx1.1.2.1, hx1.1.2.2.1⟩ (by omega) q1 q2
                rw [this.1, this.2]))
              have hr := hP.2.2.2.2.2.2.2.2.2.2.2.1
              have hst2 : fI τ 1331 61 ≤ 999700 + (300 - sp) := hst9
              have z1 : (0 ≤ a → a % 300 < sp) = True := eq_true (fun _ => ha.2.2)
              have z3 : (0 ≤ b → b % 300 < sp) = True := eq_true (fun _ => c2)
              have z2 : ((0 : Int) ≤ -1 → -1 % 300 < sp) = True := eq_true (fun q => absurd q (by decide))
              have cT := eq_true c4
              refine go_X12_twos (ct := fun p => p == 47) 60 ?_
              simp only [oI, oL, oR, o1, lI, lL, lR, popN, catS, gv, stL, stL2, swt, cnd, spObj, List.getElem?_cons_zero, List.getElem?_cons_succ, List.getD_cons_zero, List.getD_cons_succ, List.set_cons_zero, List.set_cons_succ, List.nil_append, List.cons_append, Option.toList, Bool.or_false, Bool.false_or, Bool.or_true, Bool.true_or, Nat.reduceBEq, Nat.reduceAdd, Nat.reduceLT, Nat.reduceLeDiff, Int.reduceAdd, Int.reduceToNat, true_and, and_true, Fin.isValue, Fin.val_zero, Fin.val_one, Fin.val_two, Fin.reduceFinMk, eq_self, Int.reduceNeg, imp_self, Nat.reduceMul, Nat.le_refl, not_true_eq_false, not_false_eq_true, List.getElem?_nil, reduceCtorEq, true_or, or_true, Classical.not_not, implies_true, or_self, wI_0, wI_1, wI_m1, b2i_w, b2i_eq0, b2i_eq1, b2i_bool, nor_self, nx_pI, kd_pI, ln_pI, fI_pI, fL_pI, fR_pI, aI_pI, aL_pI, aR_pI, nx_pL, kd_pL, ln_pL, fI_pL, fL_pL, fR_pL, aI_pL, aL_pL, aR_pL, nx_pR, kd_pR, ln_pR, fI_pR, fL_pR, fR_pR, aI_pR, aL_pR, aR_pR, nx_qI, kd_qI, ln_qI, fI_qI, fL_qI, fR_qI, aI_qI, aL_qI, aR_qI, nx_qL, kd_qL, ln_qL, fI_qL, fL_qL, fR_qL, aI_qL, aL_qL, aR_qL, nx_qR, kd_qR, ln_qR, fI_qR, fL_qR, fR_qR, aI_qR, aL_qR, aR_qR, nx_mk, kd_mk, ln_mk, fI_mk, fL_mk, fR_mk, aI_mk, aL_mk, aR_mk, false_and, and_false, if_false, if_true, and_self, Int.reduceEq, Nat.reduceEqDiff, ite_self, MLay_pI, MLay_pL, MLay_qI, MLay_qL, ev_X12_twos_96, ev_X12_twos_97, ev_X12_twos_98, ev_X12_twos_99, ev_X12_twos_100, ev_X12_twos_103, ev_X12_twos_106, ev_X12_twos_107, ev_X12_twos_108, ev_X12_twos_109, ev_X12_twos_110, ev_X12_twos_113, ev_X12_twos_116, xt_X12_twos, xf_X12_twos, us_X12_isFirst, us_X12_areAll, us_X12_tells, hkd, hT, es, cT, b3, b4, b5, b2i_T, hr, hst2, z1, z2, z3, not_true_eq_false, not_false_eq_true, false_imp_iff, true_imp_iff]
              try simp (disch := omega) only [wI_id, dv_nn, rm_nn]
              repeat' (first | intro z | apply And.intro)
              all_goals try omega
              all_goals exact w
            · have w := noS (fun q => c4 (hA.mpr (ST2.mp q).2.2))
              have cF := eq_false c4
              refine go_X12_twos (ct := fun p => p == 106 || p == 47) 40 ?_
              simp only [oI, oL, oR, o1, lI, lL, lR, popN, catS, gv, stL, stL2, swt, cnd, spObj, List.getElem?_cons_zero, List.getElem?_cons_succ, List.getD_cons_zero, List.getD_cons_succ, List.set_cons_zero, List.set_cons_succ, List.nil_append, List.cons_append, Option.toList, Bool.or_false, Bool.false_or, Bool.or_true, Bool.true_or, Nat.reduceBEq, Nat.reduceAdd, Nat.reduceLT, Nat.reduceLeDiff, Int.reduceAdd, Int.reduceToNat, true_and, and_true, Fin.isValue, Fin.val_zero, Fin.val_one, Fin.val_two, Fin.reduceFinMk, eq_self, Int.reduceNeg, imp_self, Nat.reduceMul, Nat.le_refl, not_true_eq_false, not_false_eq_true, List.getElem?_nil, reduceCtorEq, true_or, or_true, Classical.not_not, implies_true, or_self, wI_0, wI_1, wI_m1, b2i_w, b2i_eq0, b2i_eq1, b2i_bool, nor_self, nx_pI, kd_pI, ln_pI, fI_pI, fL_pI, fR_pI, aI_pI, aL_pI, aR_pI, nx_pL, kd_pL, ln_pL, fI_pL, fL_pL, fR_pL, aI_pL, aL_pL, aR_pL, nx_pR, kd_pR, ln_pR, fI_pR, fL_pR, fR_pR, aI_pR, aL_pR, aR_pR, nx_qI, kd_qI, ln_qI, fI_qI, fL_qI, fR_qI, aI_qI, aL_qI, aR_qI, nx_qL, kd_qL, ln_qL, fI_qL, fL_qL, fR_qL, aI_qL, aL_qL, aR_qL, nx_qR, kd_qR, ln_qR, fI_qR, fL_qR, fR_qR, aI_qR, aL_qR, aR_qR, nx_mk, kd_mk, ln_mk, fI_mk, fL_mk, fR_mk, aI_mk, aL_mk, aR_mk, false_and, and_false, if_false, if_true, and_self, Int.reduceEq, Nat.reduceEqDiff, ite_self, MLay_pI, MLay_pL, MLay_qI, MLay_qL, ev_X12_twos_96, ev_X12_twos_97, ev_X12_twos_98, ev_X12_twos_99, ev_X12_twos_100, ev_X12_twos_103, ev_X12_twos_106, ev_X12_twos_107, ev_X12_twos_108, ev_X12_twos_109, ev_X12_twos_110, ev_X12_twos_113, ev_X12_twos_116, xt_X12_twos, xf_X12_twos, us_X12_isFirst, us_X12_areAll, us_X12_tells, hkd, hT, es, cF, b3, b4, b5, b2i_F, not_true_eq_false, not_false_eq_true, false_imp_iff, true_imp_iff]
              try simp (disch := omega) only [wI_id, dv_nn, rm_nn]
              repeat' (first | intro z | apply And.intro)
              all_goals try omega
              all_goals exact w
          by_cases c5 : a % 300 = e
          · have cT := eq_true c5
            refine go_X12_twos (ct := fun p => p == 113 || p == 85 || p == 96) 40 ?_
            simp only [oI, oL, oR, o1, lI, lL, lR, popN, catS, gv, stL, stL2, swt, cnd, spObj, List.getElem?_cons_zero, List.getElem?_cons_succ, List.getD_cons_zero, List.getD_cons_succ, List.set_cons_zero, List.set_cons_succ, List.nil_append, List.cons_append, Option.toList, Bool.or_false, Bool.false_or, Bool.or_true, Bool.true_or, Nat.reduceBEq, Nat.reduceAdd, Nat.reduceLT, Nat.reduceLeDiff, Int.reduceAdd, Int.reduceToNat, true_and, and_true, Fin.isValue, Fin.val_zero, Fin.val_one, Fin.val_two, Fin.reduceFinMk, eq_self, Int.reduceNeg, imp_self, Nat.reduceMul, Nat.le_refl, not_true_eq_false, not_false_eq_true, List.getElem?_nil, reduceCtorEq, true_or, or_true, Classical.not_not, implies_true, or_self, wI_0, wI_1, wI_m1, b2i_w, b2i_eq0, b2i_eq1, b2i_bool, nor_self, nx_pI, kd_pI, ln_pI, fI_pI, fL_pI, fR_pI, aI_pI, aL_pI, aR_pI, nx_pL, kd_pL, ln_pL, fI_pL, fL_pL, fR_pL, aI_pL, aL_pL, aR_pL, nx_pR, kd_pR, ln_pR, fI_pR, fL_pR, fR_pR, aI_pR, aL_pR, aR_pR, nx_qI, kd_qI, ln_qI, fI_qI, fL_qI, fR_qI, aI_qI, aL_qI, aR_qI, nx_qL, kd_qL, ln_qL, fI_qL, fL_qL, fR_qL, aI_qL, aL_qL, aR_qL, nx_qR, kd_qR, ln_qR, fI_qR, fL_qR, fR_qR, aI_qR, aL_qR, aR_qR, nx_mk, kd_mk, ln_mk, fI_mk, fL_mk, fR_mk, aI_mk, aL_mk, aR_mk, false_and, and_false, if_false, if_true, and_self, Int.reduceEq, Nat.reduceEqDiff, ite_self, MLay_pI, MLay_pL, MLay_qI, MLay_qL, ev_X12_twos_47, ev_X12_twos_48, ev_X12_twos_51, ev_X12_twos_52, ev_X12_twos_53, ev_X12_twos_56, ev_X12_twos_57, ev_X12_twos_60, ev_X12_twos_61, ev_X12_twos_62, ev_X12_twos_65, ev_X12_twos_68, ev_X12_twos_69, ev_X12_twos_72, ev_X12_twos_73, ev_X12_twos_74, ev_X12_twos_77, ev_X12_twos_78, ev_X12_twos_79, ev_X12_twos_82, ev_X12_twos_85, ev_X12_twos_86, ev_X12_twos_87, ev_X12_twos_90, ev_X12_twos_93, xt_X12_twos, xf_X12_twos, us_X12_isFirst, us_X12_areAll, us_X12_tells, hkd, hT, hT.lay.eqs, es, ee, hrm, hwm, c1, cT, b1, b2, b2i_T, not_true_eq_false, not_false_eq_true, false_imp_iff, true_imp_iff]
            try simp (disch := omega) only [wI_id, dv_nn, rm_nn]
            repeat' (first | intro z | apply And.intro)
            all_goals try omega
            all_goals exact w96
          · have cF := eq_false c5
            have cT := eq_true (c3.resolve_left c5)
            refine go_X12_twos (ct := fun p => p == 113 || p == 96) 40 ?_
            simp only [oI, oL, oR, o1, lI, lL, lR, popN, catS, gv, stL, stL2, swt, cnd, spObj, List.getElem?_cons_zero, List.getElem?_cons_succ, List.getD_cons_zero, List.getD_cons_succ, List.set_cons_zero, List.set_cons_succ, List.nil_append, List.cons_append, Option.toList, Bool.or_false, Bool.false_or, Bool.or_true, Bool.true_or, Nat.reduceBEq, Nat.reduceAdd, Nat.reduceLT, Nat.reduceLeDiff, Int.reduceAdd, Int.reduceToNat, true_and, and_true, Fin.isValue, Fin.val_zero, Fin.val_one, Fin.val_two, Fin.reduceFinMk, eq_self, Int.reduceNeg, imp_self, Nat.reduceMul, Nat.le_refl, not_true_eq_false, not_false_eq_true, List.getElem?_nil, reduceCtorEq, true_or, or_true, Classical.not_not, implies_true, or_self, wI_0, wI_1, wI_m1, b2i_w, b2i_eq0, b2i_eq1, b2i_bool, nor_self, nx_pI, kd_pI, ln_pI, fI_pI, fL_pI, fR_pI, aI_pI, aL_pI, aR_pI, nx_pL, kd_pL, ln_pL, fI_pL, fL_pL, fR_pL, aI_pL, aL_pL, aR_pL, nx_pR, kd_pR, ln_pR, fI_pR, fL_pR, fR_pR, aI_pR, aL_pR, aR_pR, nx_qI, kd_qI, ln_qI, fI_qI, fL_qI, fR_qI, aI_qI, aL_qI, aR_qI, nx_qL, kd_qL, ln_qL, fI_qL, fL_qL, fR_qL, aI_qL, aL_qL, aR_qL, nx_qR, kd_qR, ln_qR, fI_qR, fL_qR, fR_qR, aI_qR, aL_qR, aR_qR, nx_mk, kd_mk, ln_mk, fI_mk, fL_mk, fR_mk, aI_mk, aL_mk, aR_mk, false_and, and_false, if_false, if_true, and_self, Int.reduceEq, Nat.reduceEqDiff, ite_self, MLay_pI, MLay_pL, MLay_qI, MLay_qL, ev_X12_twos_47, ev_X12_twos_48, ev_X12_twos_51, ev_X12_twos_52, ev_X12_twos_53, ev_X12_twos_56, ev_X12_twos_57, ev_X12_twos_60, ev_X12_twos_61, ev_X12_twos_62, ev_X12_twos_65, ev_X12_twos_68, ev_X12_twos_69, ev_X12_twos_72, ev_X12_twos_73, ev_X12_twos_74, ev_X12_twos_77, ev_X12_twos_78, ev_X12_twos_79, ev_X12_twos_82, ev_X12_twos_85, ev_X12_twos_86, ev_X12_twos_87, ev_X12_twos_90, ev_X12_twos_93, xt_X12_twos, xf_X12_twos, us_X12_isFirst, us_X12_areAll, us_X12_tells, hkd, hT, hT.lay.eqs, es, ee, hrm, hwm, c1, cT, cF, b1, b2, b2i_T, b2i_F, not_true_eq_false, not_false_eq_true, false_imp_iff, true_imp_iff]
            try simp (disch := omega) only [wI_id, dv_nn, rm_nn]
            repeat' (first | intro z | apply And.intro)
            all_goals try omega
            all_goals exact w96
        · have w := noS (fun q => by
            obtain ⟨p, hp, h9⟩ := is_first hP q
            rcases List.mem_cons.mp hp with z | z
            · subst z; exact c3 (Or.inl h9)
            · rw [List.mem_singleton.mp z] at h9; exact c3 (Or.inr h9))
          have cF := eq_false (fun q => c3 (Or.inl q))
          have cG := eq_false (fun q => c3 (Or.inr q))
          refine go_X12_twos (ct := fun p => p == 96 || p == 47) 40 ?_
          simp only [oI, oL, oR, o1, lI, lL, lR, popN, catS, gv, stL, stL2, swt, cnd, spObj, List.getElem?_cons_zero, List.getElem?_cons_succ, List.getD_cons_zero, List.getD_cons_succ, List.set_cons_zero, List.set_cons_succ, List.nil_append, List.cons_append, Option.toList, Bool.or_false, Bool.false_or, Bool.or_true, Bool.true_or, Nat.reduceBEq, Nat.reduceAdd, Nat.reduceLT, Nat.reduceLeDiff, Int.reduceAdd, Int.reduceToNat, true_and, and_true, Fin.isValue, Fin.val_zero, Fin.val_one, Fin.val_two, Fin.reduceFinMk, eq_self, Int.reduceNeg, imp_self, Nat.reduceMul, Nat.le_refl, not_true_eq_false, not_false_eq_true, List.getElem?_nil, reduceCtorEq, true_or, or_true, Classical.not_not, implies_true, or_self, wI_0, wI_1, wI_m1, b2i_w, b2i_eq0, b2i_eq1, b2i_bool, nor_self, nx_pI, kd_pI, ln_pI, fI_pI, fL_pI, fR_pI, aI_pI, aL_pI, aR_pI, nx_pL, kd_pL, ln_pL, fI_pL, fL_pL, fR_pL, aI_pL, aL_pL, aR_pL, nx_pR, kd_pR, ln_pR, fI_pR, fL_pR, fR_pR, aI_pR, aL_pR, aR_pR, nx_qI, kd_qI, ln_qI, fI_qI, fL_qI, fR_qI, aI_qI, aL_qI, aR_qI, nx_qL, kd_qL, ln_qL, fI_qL, fL_qL, fR_qL, aI_qL, aL_qL, aR_qL, nx_qR, kd_qR, ln_qR, fI_qR, fL_qR, fR_qR, aI_qR, aL_qR, aR_qR, nx_mk, kd_mk, ln_mk, fI_mk, fL_mk, fR_mk, aI_mk, aL_mk, aR_mk, false_and, and_false, if_false, if_true, and_self, Int.reduceEq, Nat.reduceEqDiff, ite_self, MLay_pI, MLay_pL, MLay_qI, MLay_qL, ev_X12_twos_47, ev_X12_twos_48, ev_X12_twos_51, ev_X12_twos_52, ev_X12_twos_53, ev_X12_twos_56, ev_X12_twos_57, ev_X12_twos_60, ev_X12_twos_61, ev_X12_twos_62, ev_X12_twos_65, ev_X12_twos_68, ev_X12_twos_69, ev_X12_twos_72, ev_X12_twos_73, ev_X12_twos_74, ev_X12_twos_77, ev_X12_twos_78, ev_X12_twos_79, ev_X12_twos_82, ev_X12_twos_85, ev_X12_twos_86, ev_X12_twos_87, ev_X12_twos_90, ev_X12_twos_93, ev_X12_twos_113, ev_X12_twos_116, xt_X12_twos, xf_X12_twos, us_X12_isFirst, us_X12_areAll, us_X12_tells, hkd, hT, hT.lay.eqs, es, ee, hrm, hwm, c1, cF, cG, b1, b2, b2i_F, not_true_eq_false, not_false_eq_true, false_imp_iff, true_imp_iff]
          try simp (disch := omega) only [wI_id, dv_nn, rm_nn]
          repeat' (first | intro z | apply And.intro)
          all_goals try omega
          all_goals exact w
    · have w := noS (fun q => c2 (ST2.mp q).1.2.2.2)
      refine go_X12_twos (ct := fun p => p == 68 || p == 47) 30 ?_
      simp only [oI, oL, oR, o1, lI, lL, lR, popN, catS, gv, stL, stL2, swt, cnd, spObj, List.getElem?_cons_zero, List.getElem?_cons_succ, List.getD_cons_zero, List.getD_cons_succ, List.set_cons_zero, List.set_cons_succ, List.nil_append, List.cons_append, Option.toList, Bool.or_false, Bool.false_or, Bool.or_true, Bool.true_or, Nat.reduceBEq, Nat.reduceAdd, Nat.reduceLT, Nat.reduceLeDiff, Int.reduceAdd, Int.reduceToNat, true_and, and_true, Fin.isValue, Fin.val_zero, Fin.val_one, Fin.val_two, Fin.reduceFinMk, eq_self, Int.reduceNeg, imp_self, Nat.reduceMul, Nat.le_refl, not_true_eq_false, not_false_eq_true, List.getElem?_nil, reduceCtorEq, true_or, or_true, Classical.not_not, implies_true, or_self, wI_0, wI_1, wI_m1, b2i_w, b2i_eq0, b2i_eq1, b2i_bool, nor_self, nx_pI, kd_pI, ln_pI, fI_pI, fL_pI, fR_pI, aI_pI, aL_pI, aR_pI, nx_pL, kd_pL, ln_pL, fI_pL, fL_pL, fR_pL, aI_pL, aL_pL, aR_pL, nx_pR, kd_pR, ln_pR, fI_pR, fL_pR, fR_pR, aI_pR, aL_pR, aR_pR, nx_qI, kd_qI, ln_qI, fI_qI, fL_qI, fR_qI, aI_qI, aL_qI, aR_qI, nx_qL, kd_qL, ln_qL, fI_qL, fL_qL, fR_qL, aI_qL, aL_qL, aR_qL, nx_qR, kd_qR, ln_qR, fI_qR, fL_qR, fR_qR, aI_qR, aL_qR, aR_qR, nx_mk, kd_mk, ln_mk, fI_mk, fL_mk, fR_mk, aI_mk, aL_mk, aR_mk, false_and, and_false, if_false, if_true, and_self, Int.reduceEq, Nat.reduceEqDiff, ite_self, MLay_pI, MLay_pL, MLay_qI, MLay_qL, ev_X12_twos_47, ev_X12_twos_48, ev_X12_twos_51, ev_X12_twos_52, ev_X12_twos_53, ev_X12_twos_56, ev_X12_twos_57, ev_X12_twos_60, ev_X12_twos_61, ev_X12_twos_62, ev_X12_twos_65, ev_X12_twos_68, ev_X12_twos_69, ev_X12_twos_72, ev_X12_twos_73, ev_X12_twos_74, ev_X12_twos_113, ev_X12_twos_116, xt_X12_twos, xf_X12_twos, us_X12_isFirst, us_X12_areAll, us_X12_tells, hkd, hT.lay.eqs, es, hrm, not_true_eq_false, not_false_eq_true, false_imp_iff, true_imp_iff]
      try simp (disch := omega) only [wI_id, dv_nn, rm_nn]
      repeat' (first | intro z | apply And.intro)
      all_goals try omega
      all_goals exact w

end TW
