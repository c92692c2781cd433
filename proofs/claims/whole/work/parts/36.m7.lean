/-! the reference: moves, the end of an alarm -/

theorem mFew_n {σ : Hp} {n A a B b : Int} (h : mFew σ n A a B b) : -1 ≤ n ∧ n ≤ 2 := by
  rcases h.2 with h | ⟨_, h | ⟨_, h | h⟩⟩ <;> have := h.1 <;> omega
theorem mFew_1 {σ : Hp} {n A a B b : Int} (h : mFew σ n A a B b) (hn : 0 < n) : 0 ≤ A := by
  rcases h.2 with h | ⟨_, h | ⟨_, h | h⟩⟩
  · have := h.1; omega
  · exact h.2.1.1.1
  · exact h.2.1.1.1
  · have := h.1; omega
theorem mFew_2 {σ : Hp} {n A a B b : Int} (h : mFew σ n A a B b) (hn : 1 < n) : 0 ≤ B := by
  rcases h.2 with h | ⟨_, h | ⟨_, h | h⟩⟩
  · have := h.1; omega
  · have := h.1; omega
  · have := h.2.1.1; omega
  · have := h.1; omega

def sp_X12_moves : Sp := fun av σ Q => oR av fun this av => av = [] ∧ kd σ this = 13 ∧ (this = 61 ∧ MI σ ∧ ∀ n A a B b, mFew (pI σ 1300 61 0) n A a B b → Q (some (vi n)) (mv (pI σ 1300 61 0) A a B b))
theorem us_X12_moves (this : Int) (σ : Hp) (Q : Option AV → Hp → Prop) : sp_X12_moves [vr this] σ Q = (kd σ this = 13 ∧ (this = 61 ∧ MI σ ∧ ∀ n A a B b, mFew (pI σ 1300 61 0) n A a B b → Q (some (vi n)) (mv (pI σ 1300 61 0) A a B b))) := propext ⟨fun h => h.2, fun h => ⟨rfl, h⟩⟩
theorem el_X12_moves {av : List AV} {σ : Hp} {Q : Option AV → Hp → Prop} (h : sp_X12_moves av σ Q) : ∃ (this : Int), av = [vr this] ∧ (kd σ this = 13 ∧ (this = 61 ∧ MI σ ∧ ∀ n A a B b, mFew (pI σ 1300 61 0) n A a B b → Q (some (vi n)) (mv (pI σ 1300 61 0) A a B b))) := by
  obtain ⟨this, a0, rfl, h0⟩ := oR_s h
  obtain ⟨rfl, hz⟩ := h0
  exact ⟨this, rfl, hz⟩
theorem rc_X12_moves : ∀ (av : List AV) (σ : Hp) (Q : Option AV → Hp → Prop), sp_X12_moves av σ Q → ∃ r tl, av = vr r :: tl ∧ kd σ r = 12 + 1 := fun av σ Q h => by
  obtain ⟨this, rfl, hz, -⟩ := el_X12_moves h
  exact ⟨this, _, rfl, hz⟩

def tb_X12_moves : Tab := [(0, .aload_n 0, 1, (0, 0, 0, 0)), (1, .iconst 0, 1, (0, 0, 0, 0)), (2, .putfield 196, 3, (13, 1300, 0, 0)), (5, .aload_n 0, 1, (0, 0, 0, 0)), (6, .invokevirtual 466, 3, (0, 0, 0, 0)), (9, .ireturn, 1, (0, 0, 0, 0))]
set_option maxRecDepth 100000 in
theorem tk_X12_moves : TOK RX12 false cX12_moves tb_X12_moves := chkT_ok ft_X12 (by decide +kernel)
theorem rw_X12_3728 : Row RX12 (.invokevirtual 466) 3 1 0 0 5 sp_X12_fewest := row_V (n := 0) (ci := 12) c_X12_fewest ⟨TBL_in 2047 (by decide +kernel) rfl, TBL_in 2050 (by decide +kernel) rfl, TBL_in 123 (by decide +kernel) rfl, by decide +kernel, by decide⟩ (by decide) rfl (TBL_in 2049 (by decide +kernel) rfl) (TBL_in 104 (by decide +kernel) rfl) rc_X12_fewest
def mt_X12_moves : List (Nat × Mt) := [(3728, 1, 0, 0, 5, sp_X12_fewest)]
theorem em_X12_moves : mt_X12_moves.lookup 3728 = some (1, 0, 0, 5, sp_X12_fewest) := rfl
theorem mk_X12_moves : MOK RX12 mt_X12_moves := by
  intro q hq
  simp only [mt_X12_moves, List.mem_cons, List.not_mem_nil, or_false] at hq
  rcases hq with rfl
  · exact rw_X12_3728
noncomputable def xe_X12_moves (ct : Nat → Bool) (K : Kt) (R : Option AV → Hp → Prop) (n : Nat) : Kt := exS 1 6 0 0 1 tb_X12_moves mt_X12_moves ct K R n
noncomputable def xk_X12_moves (ct : Nat → Bool) (K : Kt) (R : Option AV → Hp → Prop) (n : Nat) : Kt := exkS 1 6 0 0 1 tb_X12_moves mt_X12_moves ct K R n
theorem xt_X12_moves {ct : Nat → Bool} {K : Kt} {R : Option AV → Hp → Prop} {n pc : Nat} {ls : List (Option AV)} {st : List AV} {σ : Hp} {k : Nat × Nat} (h : ct pc = true) : xk_X12_moves ct K R n pc ls st σ k = K pc ls st σ k := by unfold xk_X12_moves exkS; rw [h]
theorem xf_X12_moves {ct : Nat → Bool} {K : Kt} {R : Option AV → Hp → Prop} {n pc : Nat} {ls : List (Option AV)} {st : List AV} {σ : Hp} {k : Nat × Nat} (h : ct pc = false) : xk_X12_moves ct K R n pc ls st σ k = xe_X12_moves ct K R n pc ls st σ k := by unfold xk_X12_moves exkS xe_X12_moves; rw [h]
theorem ev_X12_moves {ct : Nat → Bool} {K : Kt} {R : Option AV → Hp → Prop} {n : Nat} {ls : List (Option AV)} {st : List AV} {σ : Hp} {k : Nat × Nat} :
  xe_X12_moves ct K R (n + 1) 0 ls st σ k = (lR ls 0 fun x => xk_X12_moves ct K R n 1 ls (vr x :: st) σ k) ∧
  xe_X12_moves ct K R (n + 1) 1 ls st σ k = (xk_X12_moves ct K R n 2 ls (vi (0) :: st) σ k) ∧
  xe_X12_moves ct K R (n + 1) 2 ls st σ k = (oI st fun v st => oR st fun x st => kd σ x = 13 ∧ xk_X12_moves ct K R n 5 ls st (pI σ 1300 x v) k) ∧
  xe_X12_moves ct K R (n + 1) 5 ls st σ k = (lR ls 0 fun x => xk_X12_moves ct K R n 6 ls (vr x :: st) σ k) ∧
  xe_X12_moves ct K R (n + 1) 6 ls st σ k = (popN 1 st [] fun av rest => (catS rest ≤ 8 ∧ 5 < 6 ∧ k.1 + 0 ≤ 0 ∧ k.2 + 0 ≤ 0) ∧ (sp_X12_fewest) av σ fun v σ' => xk_X12_moves ct K R n 9 ls (v.toList ++ rest) σ' (k.1 + 0, k.2 + 0)) ∧
  xe_X12_moves ct K R (n + 1) 9 ls st σ k = (oI st fun x st => st = [] ∧ True ∧ R (some (vi x)) σ) :=
  ⟨exS_step.trans rfl, exS_step.trans rfl, exS_step.trans rfl, exS_step.trans rfl, exS_step.trans rfl, exS_step.trans rfl⟩
def M_X12_moves : Md := (yX12_moves, cX12_moves, 1, (some FieldType.int), 6, 0, 0, 1, false, tb_X12_moves, mt_X12_moves)
theorem mm_X12_moves : MMOK M_X12_moves := ⟨by decide +kernel, tk_X12_moves, mk_X12_moves, rfl, fun h => by cases h⟩
theorem go_X12_moves {Q : Option AV → Hp → Prop} {ct : Nat → Bool} {pc : Nat} {ls : List (Option AV)} {st : List AV} {σ : Hp} {k : Nat × Nat} (n : Nat) (h : xe_X12_moves ct (Go M_X12_moves Q) Q n pc ls st σ k) : Go M_X12_moves Q pc ls st σ k := Go.exS mm_X12_moves h

set_option maxRecDepth 20000 in
theorem c_X12_moves : Ct yX12_moves cX12_moves 1 ((some FieldType.int)) 6 0 0 sp_X12_moves := by
  refine Ct.go (M := M_X12_moves) mm_X12_moves fun av σ Q h0 => ?_
  obtain ⟨this, rfl, hk, h⟩ := el_X12_moves h0
  clear h0
  refine ⟨Nat.le_of_ble_eq_true rfl, ?_⟩
  show Go M_X12_moves Q 0 [some (vr this)] [] σ (0, 0)
  obtain ⟨rfl, hI, h⟩ := h
  have hI2 : MI (pI σ 1300 61 0) := MI_fre hI (by decide)
  refine go_X12_moves (ct := fun p => false) 40 ?_
  simp only [oI, oL, oR, o1, lI, lL, lR, popN, catS, gv, stL, stL2, swt, cnd, spObj, List.getElem?_cons_zero, List.getElem?_cons_succ, List.getD_cons_zero, List.getD_cons_succ, List.set_cons_zero, List.set_cons_succ, List.nil_append, List.cons_append, Option.toList, Bool.or_false, Bool.false_or, Bool.or_true, Bool.true_or, Nat.reduceBEq, Nat.reduceAdd, Nat.reduceLT, Nat.reduceLeDiff, Int.reduceAdd, Int.reduceToNat, true_and, and_true, Fin.isValue, Fin.val_zero, Fin.val_one, Fin.val_two, Fin.reduceFinMk, eq_self, Int.reduceNeg, imp_self, Nat.reduceMul, Nat.le_refl, not_true_eq_false, not_false_eq_true, List.getElem?_nil, reduceCtorEq, true_or, or_true, Classical.not_not, implies_true, or_self, wI_0, wI_1, wI_m1, b2i_w, b2i_eq0, b2i_eq1, b2i_bool, nor_self, nx_pI, kd_pI, ln_pI, fI_pI, fL_pI, fR_pI, aI_pI, aL_pI, aR_pI, nx_pL, kd_pL, ln_pL, fI_pL, fL_pL, fR_pL, aI_pL, aL_pL, aR_pL, nx_pR, kd_pR, ln_pR, fI_pR, fL_pR, fR_pR, aI_pR, aL_pR, aR_pR, nx_qI, kd_qI, ln_qI, fI_qI, fL_qI, fR_qI, aI_qI, aL_qI, aR_qI, nx_qL, kd_qL, ln_qL, fI_qL, fL_qL, fR_qL, aI_qL, aL_qL, aR_qL, nx_qR, kd_qR, ln_qR, fI_qR, fL_qR, fR_qR, aI_qR, aL_qR, aR_qR, nx_mk, kd_mk, ln_mk, fI_mk, fL_mk, fR_mk, aI_mk, aL_mk, aR_mk, false_and, and_false, if_false, if_true, and_self, Int.reduceEq, Nat.reduceEqDiff, ite_self, MLay_pI, MLay_pL, MLay_qI, MLay_qL, ev_X12_moves, xt_X12_moves, xf_X12_moves, us_X12_fewest, hk, hI2]
  exact h

def sp_X12_move : Sp := fun av σ Q => oR av fun this av => oI av fun i av => oI av fun w av => av = [] ∧ kd σ this = 13 ∧ (this = 61 ∧ MI σ ∧ inR i ∧ inR w ∧ (¬ (0 ≤ w ∧ w ≤ 1) → Q (some (vi (-1))) (pI σ 1300 61 0)) ∧ ((0 ≤ w ∧ w ≤ 1) → ∀ n A a B b, mFew (pI σ 1300 61 0) n A a B b → (¬ (0 ≤ i ∧ i < n) → Q (some (vi (-1))) (mv (pI σ 1300 61 0) A a B b)) ∧ ((0 ≤ i ∧ i < n) → Q (some (vi (if w = 0 then (if i = 0 then A else B) else (if i = 0 then a else b)))) (mv (pI σ 1300 61 0) A a B b))))
theorem us_X12_move (this : Int) (i : Int) (w : Int) (σ : Hp) (Q : Option AV → Hp → Prop) : sp_X12_move [vr this, vi i, vi w] σ Q = (kd σ this = 13 ∧ (this = 61 ∧ MI σ ∧ inR i ∧ inR w ∧ (¬ (0 ≤ w ∧ w ≤ 1) → Q (some (vi (-1))) (pI σ 1300 61 0)) ∧ ((0 ≤ w ∧ w ≤ 1) → ∀ n A a B b, mFew (pI σ 1300 61 0) n A a B b → (¬ (0 ≤ i ∧ i < n) → Q (some (vi (-1))) (mv (pI σ 1300 61 0) A a B b)) ∧ ((0 ≤ i ∧ i < n) → Q (some (vi (if w = 0 then (if i = 0 then A else B) else (if i = 0 then a else b)))) (mv (pI σ 1300 61 0) A a B b))))) := propext ⟨fun h => h.2, fun h => ⟨rfl, h⟩⟩
theorem el_X12_move {av : List AV} {σ : Hp} {Q : Option AV → Hp → Prop} (h : sp_X12_move av σ Q) : ∃ (this : Int) (i : Int) (w : Int), av = [vr this, vi i, vi w] ∧ (kd σ this = 13 ∧ (this = 61 ∧ MI σ ∧ inR i ∧ inR w ∧ (¬ (0 ≤ w ∧ w ≤ 1) → Q (some (vi (-1))) (pI σ 1300 61 0)) ∧ ((0 ≤ w ∧ w ≤ 1) → ∀ n A a B b, mFew (pI σ 1300 61 0) n A a B b → (¬ (0 ≤ i ∧ i < n) → Q (some (vi (-1))) (mv (pI σ 1300 61 0) A a B b)) ∧ ((0 ≤ i ∧ i < n) → Q (some (vi (if w = 0 then (if i = 0 then A else B) else (if i = 0 then a else b)))) (mv (pI σ 1300 61 0) A a B b))))) := by
  obtain ⟨this, a0, rfl, h0⟩ := oR_s h
  obtain ⟨i, a1, rfl, h1⟩ := oI_s h0
  obtain ⟨w, a2, rfl, h2⟩ := oI_s h1
  obtain ⟨rfl, hz⟩ := h2
  exact ⟨this, i, w, rfl, hz⟩
theorem rc_X12_move : ∀ (av : List AV) (σ : Hp) (Q : Option AV → Hp → Prop), sp_X12_move av σ Q → ∃ r tl, av = vr r :: tl ∧ kd σ r = 12 + 1 := fun av σ Q h => by
  obtain ⟨this, i, w, rfl, hz, -⟩ := el_X12_move h
  exact ⟨this, _, rfl, hz⟩

def tb_X12_move : Tab := [(0, .aload_n 0, 1, (0, 0, 0, 0)), (1, .iconst 0, 1, (0, 0, 0, 0)), (2, .putfield 196, 3, (13, 1300, 0, 0)), (5, .iload_n 2, 1, (0, 0, 0, 0)), (6, .iconst 0, 1, (0, 0, 0, 0)), (7, .iconst 1, 1, (0, 0, 0, 0)), (8, .invokestatic 202, 3, (0, 0, 0, 0)), (11, .ifCond .ne 5, 3, (0, 0, 0, 0)), (14, .iconst (-1), 1, (0, 0, 0, 0)), (15, .ireturn, 1, (0, 0, 0, 0)), (16, .aload_n 0, 1, (0, 0, 0, 0)), (17, .invokevirtual 466, 3, (0, 0, 0, 0)), (20, .istore_n 3, 1, (0, 0, 0, 0)), (21, .iload_n 1, 1, (0, 0, 0, 0)), (22, .iconst 0, 1, (0, 0, 0, 0)), (23, .iload_n 3, 1, (0, 0, 0, 0)), (24, .iconst 1, 1, (0, 0, 0, 0)), (25, .isub, 1, (0, 0, 0, 0)), (26, .invokestatic 202, 3, (0, 0, 0, 0)), (29, .ifCond .ne 5, 3, (0, 0, 0, 0)), (32, .iconst (-1), 1, (0, 0, 0, 0)), (33, .ireturn, 1, (0, 0, 0, 0)), (34, .iload_n 2, 1, (0, 0, 0, 0)), (35, .ifCond .ne 21, 3, (0, 0, 0, 0)), (38, .iload_n 1, 1, (0, 0, 0, 0)), (39, .ifCond .ne 10, 3, (0, 0, 0, 0)), (42, .aload_n 0, 1, (0, 0, 0, 0)), (43, .getfield 433, 3, (13, 1384, 0, 0)), (46, .goto 25, 3, (0, 0, 0, 0)), (49, .aload_n 0, 1, (0, 0, 0, 0)), (50, .getfield 439, 3, (13, 1386, 0, 0)), (53, .goto 18, 3, (0, 0, 0, 0)), (56, .iload_n 1, 1, (0, 0, 0, 0)), (57, .ifCond .ne 10, 3, (0, 0, 0, 0)), (60, .aload_n 0, 1, (0, 0, 0, 0)), (61, .getfield 436, 3, (13, 1385, 0, 0)), (64, .goto 7, 3, (0, 0, 0, 0)), (67, .aload_n 0, 1, (0, 0, 0, 0)), (68, .getfield 442, 3, (13, 1387, 0, 0)), (71, .ireturn, 1, (0, 0, 0, 0))]
set_option maxRecDepth 100000 in
theorem tk_X12_move : TOK RX12 false cX12_move tb_X12_move := chkT_ok ft_X12 (by decide +kernel)
def mt_X12_move : List (Nat × Mt) := [(1617, 3, 0, 0, 1, sp_X12_within), (3728, 1, 0, 0, 5, sp_X12_fewest)]
theorem em_X12_move : mt_X12_move.lookup 1617 = some (3, 0, 0, 1, sp_X12_within) ∧ mt_X12_move.lookup 3728 = some (1, 0, 0, 5, sp_X12_fewest) := ⟨rfl, rfl⟩
theorem mk_X12_move : MOK RX12 mt_X12_move := by
  intro q hq
  simp only [mt_X12_move, List.mem_cons, List.not_mem_nil, or_false] at hq
  rcases hq with rfl | rfl
  · exact rw_X12_1617
  · exact rw_X12_3728
noncomputable def xe_X12_move (ct : Nat → Bool) (K : Kt) (R : Option AV → Hp → Prop) (n : Nat) : Kt := exS 4 6 0 0 1 tb_X12_move mt_X12_move ct K R n
noncomputable def xk_X12_move (ct : Nat → Bool) (K : Kt) (R : Option AV → Hp → Prop) (n : Nat) : Kt := exkS 4 6 0 0 1 tb_X12_move mt_X12_move ct K R n
theorem xt_X12_move {ct : Nat → Bool} {K : Kt} {R : Option AV → Hp → Prop} {n pc : Nat} {ls : List (Option AV)} {st : List AV} {σ : Hp} {k : Nat × Nat} (h : ct pc = true) : xk_X12_move ct K R n pc ls st σ k = K pc ls st σ k := by unfold xk_X12_move exkS; rw [h]
theorem xf_X12_move {ct : Nat → Bool} {K : Kt} {R : Option AV → Hp → Prop} {n pc : Nat} {ls : List (Option AV)} {st : List AV} {σ : Hp} {k : Nat × Nat} (h : ct pc = false) : xk_X12_move ct K R n pc ls st σ k = xe_X12_move ct K R n pc ls st σ k := by unfold xk_X12_move exkS xe_X12_move; rw [h]
theorem ev_X12_move {ct : Nat → Bool} {K : Kt} {R : Option AV → Hp → Prop} {n : Nat} {ls : List (Option AV)} {st : List AV} {σ : Hp} {k : Nat × Nat} :
  xe_X12_move ct K R (n + 1) 0 ls st σ k = (lR ls 0 fun x => xk_X12_move ct K R n 1 ls (vr x :: st) σ k) ∧
  xe_X12_move ct K R (n + 1) 1 ls st σ k = (xk_X12_move ct K R n 2 ls (vi (0) :: st) σ k) ∧
  xe_X12_move ct K R (n + 1) 2 ls st σ k = (oI st fun v st => oR st fun x st => kd σ x = 13 ∧ xk_X12_move ct K R n 5 ls st (pI σ 1300 x v) k) ∧
  xe_X12_move ct K R (n + 1) 5 ls st σ k = (lI ls 2 fun x => xk_X12_move ct K R n 6 ls (vi x :: st) σ k) ∧
  xe_X12_move ct K R (n + 1) 6 ls st σ k = (xk_X12_move ct K R n 7 ls (vi (0) :: st) σ k) ∧
  xe_X12_move ct K R (n + 1) 7 ls st σ k = (xk_X12_move ct K R n 8 ls (vi (1) :: st) σ k) ∧
  xe_X12_move ct K R (n + 1) 8 ls st σ k = (popN 3 st [] fun av rest => (catS rest ≤ 8 ∧ 1 < 6 ∧ k.1 + 0 ≤ 0 ∧ k.2 + 0 ≤ 0) ∧ (sp_X12_within) av σ fun v σ' => xk_X12_move ct K R n 11 ls (v.toList ++ rest) σ' (k.1 + 0, k.2 + 0)) ∧
  xe_X12_move ct K R (n + 1) 11 ls st σ k = (oI st fun x st => (¬ wI x = wI 0 → xk_X12_move ct K R n 16 ls st σ k) ∧ (¬ (¬ wI x = wI 0) → xk_X12_move ct K R n 14 ls st σ k)) ∧
  xe_X12_move ct K R (n + 1) 14 ls st σ k = (xk_X12_move ct K R n 15 ls (vi (-1) :: st) σ k) ∧
  xe_X12_move ct K R (n + 1) 15 ls st σ k = (oI st fun x st => st = [] ∧ True ∧ R (some (vi x)) σ) ∧
  xe_X12_move ct K R (n + 1) 16 ls st σ k = (lR ls 0 fun x => xk_X12_move ct K R n 17 ls (vr x :: st) σ k) ∧
  xe_X12_move ct K R (n + 1) 17 ls st σ k = (popN 1 st [] fun av rest => (catS rest ≤ 8 ∧ 5 < 6 ∧ k.1 + 0 ≤ 0 ∧ k.2 + 0 ≤ 0) ∧ (sp_X12_fewest) av σ fun v σ' => xk_X12_move ct K R n 20 ls (v.toList ++ rest) σ' (k.1 + 0, k.2 + 0)) ∧
  xe_X12_move ct K R (n + 1) 20 ls st σ k = (oI st fun x st => 3 < 4 ∧ xk_X12_move ct K R n 21 (stL ls 3 (vi x)) st σ k) ∧
  xe_X12_move ct K R (n + 1) 21 ls st σ k = (lI ls 1 fun x => xk_X12_move ct K R n 22 ls (vi x :: st) σ k) ∧
  xe_X12_move ct K R (n + 1) 22 ls st σ k = (xk_X12_move ct K R n 23 ls (vi (0) :: st) σ k) ∧
  xe_X12_move ct K R (n + 1) 23 ls st σ k = (lI ls 3 fun x => xk_X12_move ct K R n 24 ls (vi x :: st) σ k) ∧
  xe_X12_move ct K R (n + 1) 24 ls st σ k = (xk_X12_move ct K R n 25 ls (vi (1) :: st) σ k) ∧
  xe_X12_move ct K R (n + 1) 25 ls st σ k = (oI st fun y st => oI st fun x st => xk_X12_move ct K R n 26 ls (vi (x - y) :: st) σ k) ∧
  xe_X12_move ct K R (n + 1) 26 ls st σ k = (popN 3 st [] fun av rest => (catS rest ≤ 8 ∧ 1 < 6 ∧ k.1 + 0 ≤ 0 ∧ k.2 + 0 ≤ 0) ∧ (sp_X12_within) av σ fun v σ' => xk_X12_move ct K R n 29 ls (v.toList ++ rest) σ' (k.1 + 0, k.2 + 0)) ∧
  xe_X12_move ct K R (n + 1) 29 ls st σ k = (oI st fun x st => (¬ wI x = wI 0 → xk_X12_move ct K R n 34 ls st σ k) ∧ (¬ (¬ wI x = wI 0) → xk_X12_move ct K R n 32 ls st σ k)) ∧
  xe_X12_move ct K R (n + 1) 32 ls st σ k = (xk_X12_move ct K R n 33 ls (vi (-1) :: st) σ k) ∧
  xe_X12_move ct K R (n + 1) 33 ls st σ k = (oI st fun x st => st = [] ∧ True ∧ R (some (vi x)) σ) ∧
  xe_X12_move ct K R (n + 1) 34 ls st σ k = (lI ls 2 fun x => xk_X12_move ct K R n 35 ls (vi x :: st) σ k) ∧
  xe_X12_move ct K R (n + 1) 35 ls st σ k = (oI st fun x st => (¬ wI x = wI 0 → xk_X12_move ct K R n 56 ls st σ k) ∧ (¬ (¬ wI x = wI 0) → xk_X12_move ct K R n 38 ls st σ k)) ∧
  xe_X12_move ct K R (n + 1) 38 ls st σ k = (lI ls 1 fun x => xk_X12_move ct K R n 39 ls (vi x :: st) σ k) ∧
  xe_X12_move ct K R (n + 1) 39 ls st σ k = (oI st fun x st => (¬ wI x = wI 0 → xk_X12_move ct K R n 49 ls st σ k) ∧ (¬ (¬ wI x = wI 0) → xk_X12_move ct K R n 42 ls st σ k)) ∧
  xe_X12_move ct K R (n + 1) 42 ls st σ k = (lR ls 0 fun x => xk_X12_move ct K R n 43 ls (vr x :: st) σ k) ∧
  xe_X12_move ct K R (n + 1) 43 ls st σ k = (oR st fun x st => kd σ x = 13 ∧ xk_X12_move ct K R n 46 ls (vi (fI σ 1384 x) :: st) σ k) ∧
  xe_X12_move ct K R (n + 1) 46 ls st σ k = (xk_X12_move ct K R n 71 ls st σ k) ∧
  xe_X12_move ct K R (n + 1) 49 ls st σ k = (lR ls 0 fun x => xk_X12_move ct K R n 50 ls (vr x :: st) σ k) ∧
  xe_X12_move ct K R (n + 1) 50 ls st σ k = (oR st fun x st => kd σ x = 13 ∧ xk_X12_move ct K R n 53 ls (vi (fI σ 1386 x) :: st) σ k) ∧
  xe_X12_move ct K R (n + 1) 53 ls st σ k = (xk_X12_move ct K R n 71 ls st σ k) ∧
  xe_X12_move ct K R (n + 1) 56 ls st σ k = (lI ls 1 fun x => xk_X12_move ct K R n 57 ls (vi x :: st) σ k) ∧
  xe_X12_move ct K R (n + 1) 57 ls st σ k = (oI st fun x st => (¬ wI x = wI 0 → xk_X12_move ct K R n 67 ls st σ k) ∧ (¬ (¬ wI x = wI 0) → xk_X12_move ct K R n 60 ls st σ k)) ∧
  xe_X12_move ct K R (n + 1) 60 ls st σ k = (lR ls 0 fun x => xk_X12_move ct K R n 61 ls (vr x :: st) σ k) ∧
  xe_X12_move ct K R (n + 1) 61 ls st σ k = (oR st fun x st => kd σ x = 13 ∧ xk_X12_move ct K R n 64 ls (vi (fI σ 1385 x) :: st) σ k) ∧
  xe_X12_move ct K R (n + 1) 64 ls st σ k = (xk_X12_move ct K R n 71 ls st σ k) ∧
  xe_X12_move ct K R (n + 1) 67 ls st σ k = (lR ls 0 fun x => xk_X12_move ct K R n 68 ls (vr x :: st) σ k) ∧
  xe_X12_move ct K R (n + 1) 68 ls st σ k = (oR st fun x st => kd σ x = 13 ∧ xk_X12_move ct K R n 71 ls (vi (fI σ 1387 x) :: st) σ k) ∧
  xe_X12_move ct K R (n + 1) 71 ls st σ k = (oI st fun x st => st = [] ∧ True ∧ R (some (vi x)) σ) :=
  ⟨exS_step.trans rfl, exS_step.trans rfl, exS_step.trans rfl, exS_step.trans rfl, exS_step.trans rfl, exS_step.trans rfl, exS_step.trans rfl, exS_step.trans rfl, exS_step.trans rfl, exS_step.trans rfl, exS_step.trans rfl, exS_step.trans rfl, exS_step.trans rfl, exS_step.trans rfl, exS_step.trans rfl, exS_step.trans rfl, exS_step.trans rfl, exS_step.trans rfl, exS_step.trans rfl, exS_step.trans rfl, exS_step.trans rfl, exS_step.trans rfl, exS_step.trans rfl, exS_step.trans rfl, exS_step.trans rfl, exS_step.trans rfl, exS_step.trans rfl, exS_step.trans rfl, exS_step.trans rfl, exS_step.trans rfl, exS_step.trans rfl, exS_step.trans rfl, exS_step.trans rfl, exS_step.trans rfl, exS_step.trans rfl, exS_step.trans rfl, exS_step.trans rfl, exS_step.trans rfl, exS_step.trans rfl, exS_step.trans rfl⟩
def M_X12_move : Md := (yX12_move, cX12_move, 4, (some FieldType.int), 6, 0, 0, 1, false, tb_X12_move, mt_X12_move)
theorem mm_X12_move : MMOK M_X12_move := ⟨by decide +kernel, tk_X12_move, mk_X12_move, rfl, fun h => by cases h⟩
theorem go_X12_move {Q : Option AV → Hp → Prop} {ct : Nat → Bool} {pc : Nat} {ls : List (Option AV)} {st : List AV} {σ : Hp} {k : Nat × Nat} (n : Nat) (h : xe_X12_move ct (Go M_X12_move Q) Q n pc ls st σ k) : Go M_X12_move Q pc ls st σ k := Go.exS mm_X12_move h

set_option maxRecDepth 20000 in
theorem c_X12_move : Ct yX12_move cX12_move 4 ((some FieldType.int)) 6 0 0 sp_X12_move := by
  refine Ct.go (M := M_X12_move) mm_X12_move fun av σ Q h0 => ?_
  obtain ⟨this, i, w, rfl, hk, h⟩ := el_X12_move h0
  clear h0
  refine ⟨Nat.le_of_ble_eq_true rfl, ?_⟩
  show Go M_X12_move Q 0 [some (vr this), some (vi i), some (vi w), none] [] σ (0, 0)
  obtain ⟨rfl, hI, hi, hw, h1, h2⟩ := h
  have hI2 : MI (pI σ 1300 61 0) := MI_fre hI (by decide)
  unfold inR at hi hw
  have eA : ∀ A a B b, fI (mv (pI σ 1300 61 0) A a B b) 1384 61 = A := fun _ _ _ _ => rfl
  have ea : ∀ A a B b, fI (mv (pI σ 1300 61 0) A a B b) 1385 61 = a := fun _ _ _ _ => rfl
  have eB : ∀ A a B b, fI (mv (pI σ 1300 61 0) A a B b) 1386 61 = B := fun _ _ _ _ => rfl
  have eb : ∀ A a B b, fI (mv (pI σ 1300 61 0) A a B b) 1387 61 = b := fun _ _ _ _ => rfl
  refine go_X12_move (ct := fun p => false) 40 ?_
  simp only [oI, oL, oR, o1, lI, lL, lR, popN, catS, gv, stL, stL2, swt, cnd, spObj, List.getElem?_cons_zero, List.getElem?_cons_succ, List.getD_cons_zero, List.getD_cons_succ, List.set_cons_zero, List.set_cons_succ, List.nil_append, List.cons_append, Option.toList, Bool.or_false, Bool.false_or, Bool.or_true, Bool.true_or, Nat.reduceBEq, Nat.reduceAdd, Nat.reduceLT, Nat.reduceLeDiff, Int.reduceAdd, Int.reduceToNat, true_and, and_true, Fin.isValue, Fin.val_zero, Fin.val_one, Fin.val_two, Fin.reduceFinMk, eq_self, Int.reduceNeg, imp_self, Nat.reduceMul, Nat.le_refl, not_true_eq_false, not_false_eq_true, List.getElem?_nil, reduceCtorEq, true_or, or_true, Classical.not_not, implies_true, or_self, wI_0, wI_1, wI_m1, b2i_w, b2i_eq0, b2i_eq1, b2i_bool, nor_self, nx_pI, kd_pI, ln_pI, fI_pI, fL_pI, fR_pI, aI_pI, aL_pI, aR_pI, nx_pL, kd_pL, ln_pL, fI_pL, fL_pL, fR_pL, aI_pL, aL_pL, aR_pL, nx_pR, kd_pR, ln_pR, fI_pR, fL_pR, fR_pR, aI_pR, aL_pR, aR_pR, nx_qI, kd_qI, ln_qI, fI_qI, fL_qI, fR_qI, aI_qI, aL_qI, aR_qI, nx_qL, kd_qL, ln_qL, fI_qL, fL_qL, fR_qL, aI_qL, aL_qL, aR_qL, nx_qR, kd_qR, ln_qR, fI_qR, fL_qR, fR_qR, aI_qR, aL_qR, aR_qR, nx_mk, kd_mk, ln_mk, fI_mk, fL_mk, fR_mk, aI_mk, aL_mk, aR_mk, false_and, and_false, if_false, if_true, and_self, Int.reduceEq, Nat.reduceEqDiff, ite_self, MLay_pI, MLay_pL, MLay_qI, MLay_qL, ev_X12_move, xt_X12_move, xf_X12_move, us_X12_within, us_X12_fewest, hk, hI2, kd_mv, eA, ea, eB, eb]
  try simp (disch := omega) only [wI_id, dv_nn, rm_nn]
  refine ⟨fun z => ?_, fun z => h1 z⟩
  intro n A a B b hf
  have hn := mFew_n hf
  obtain ⟨h3, h4⟩ := h2 z n A a B b hf
  try simp (disch := omega) only [wI_id, dv_nn, rm_nn]
  repeat' (first | intro z | apply And.intro)
  all_goals try omega
  all_goals first
    | exact h3 (by omega)
    | (have h4 := h4 (by omega); clear h1 h2 h3; grind)

def sp_X12_done : Sp := fun av σ Q => oR av fun this av => av = [] ∧ kd σ this = 13 ∧ (this = 61 ∧ MI σ ∧ ∀ n A a B b, mFew (pI σ 1300 61 0) n A a B b → (¬ 0 < n → Q (some (vi n)) (mv (pI σ 1300 61 0) A a B b)) ∧ (n = 1 → Q (some (vi n)) (qI (mv (pI σ 1300 61 0) A a B b) 89 A a)) ∧ (n = 2 → Q (some (vi n)) (qI (qI (mv (pI σ 1300 61 0) A a B b) 89 A a) 89 B b)))
theorem us_X12_done (this : Int) (σ : Hp) (Q : Option AV → Hp → Prop) : sp_X12_done [vr this] σ Q = (kd σ this = 13 ∧ (this = 61 ∧ MI σ ∧ ∀ n A a B b, mFew (pI σ 1300 61 0) n A a B b → (¬ 0 < n → Q (some (vi n)) (mv (pI σ 1300 61 0) A a B b)) ∧ (n = 1 → Q (some (vi n)) (qI (mv (pI σ 1300 61 0) A a B b) 89 A a)) ∧ (n = 2 → Q (some (vi n)) (qI (qI (mv (pI σ 1300 61 0) A a B b) 89 A a) 89 B b)))) := propext ⟨fun h => h.2, fun h => ⟨rfl, h⟩⟩
theorem el_X12_done {av : List AV} {σ : Hp} {Q : Option AV → Hp → Prop} (h : sp_X12_done av σ Q) : ∃ (this : Int), av = [vr this] ∧ (kd σ this = 13 ∧ (this = 61 ∧ MI σ ∧ ∀ n A a B b, mFew (pI σ 1300 61 0) n A a B b → (¬ 0 < n → Q (some (vi n)) (mv (pI σ 1300 61 0) A a B b)) ∧ (n = 1 → Q (some (vi n)) (qI (mv (pI σ 1300 61 0) A a B b) 89 A a)) ∧ (n = 2 → Q (some (vi n)) (qI (qI (mv (pI σ 1300 61 0) A a B b) 89 A a) 89 B b)))) := by
  obtain ⟨this, a0, rfl, h0⟩ := oR_s h
  obtain ⟨rfl, hz⟩ := h0
  exact ⟨this, rfl, hz⟩
theorem rc_X12_done : ∀ (av : List AV) (σ : Hp) (Q : Option AV → Hp → Prop), sp_X12_done av σ Q → ∃ r tl, av = vr r :: tl ∧ kd σ r = 12 + 1 := fun av σ Q h => by
  obtain ⟨this, rfl, hz, -⟩ := el_X12_done h
  exact ⟨this, _, rfl, hz⟩

def tb_X12_done : Tab := [(0, .aload_n 0, 1, (0, 0, 0, 0)), (1, .iconst 0, 1, (0, 0, 0, 0)), (2, .putfield 196, 3, (13, 1300, 0, 0)), (5, .aload_n 0, 1, (0, 0, 0, 0)), (6, .invokevirtual 466, 3, (0, 0, 0, 0)), (9, .istore_n 1, 1, (0, 0, 0, 0)), (10, .iload_n 1, 1, (0, 0, 0, 0)), (11, .ifCond .le 16, 3, (0, 0, 0, 0)), (14, .aload_n 0, 1, (0, 0, 0, 0)), (15, .getfield 93, 3, (13, 1338, 2, 0)), (18, .aload_n 0, 1, (0, 0, 0, 0)), (19, .getfield 433, 3, (13, 1384, 0, 0)), (22, .aload_n 0, 1, (0, 0, 0, 0)), (23, .getfield 436, 3, (13, 1385, 0, 0)), (26, .iastore, 1, (0, 0, 0, 0)), (27, .iload_n 1, 1, (0, 0, 0, 0)), (28, .iconst 1, 1, (0, 0, 0, 0)), (29, .if_icmp .le 16, 3, (0, 0, 0, 0)), (32, .aload_n 0, 1, (0, 0, 0, 0)), (33, .getfield 93, 3, (13, 1338, 2, 0)), (36, .aload_n 0, 1, (0, 0, 0, 0)), (37, .getfield 439, 3, (13, 1386, 0, 0)), (40, .aload_n 0, 1, (0, 0, 0, 0)), (41, .getfield 442, 3, (13, 1387, 0, 0)), (44, .iastore, 1, (0, 0, 0, 0)), (45, .iload_n 1, 1, (0, 0, 0, 0)), (46, .ireturn, 1, (0, 0, 0, 0))]
set_option maxRecDepth 100000 in
theorem tk_X12_done : TOK RX12 false cX12_done tb_X12_done := chkT_ok ft_X12 (by decide +kernel)
def mt_X12_done : List (Nat × Mt) := [(3728, 1, 0, 0, 5, sp_X12_fewest)]
theorem em_X12_done : mt_X12_done.lookup 3728 = some (1, 0, 0, 5, sp_X12_fewest) := rfl
theorem mk_X12_done : MOK RX12 mt_X12_done := by
  intro q hq
  simp only [mt_X12_done, List.mem_cons, List.not_mem_nil, or_false] at hq
  rcases hq with rfl
  · exact rw_X12_3728
noncomputable def xe_X12_done (ct : Nat → Bool) (K : Kt) (R : Option AV → Hp → Prop) (n : Nat) : Kt := exS 2 6 0 0 1 tb_X12_done mt_X12_done ct K R n
noncomputable def xk_X12_done (ct : Nat → Bool) (K : Kt) (R : Option AV → Hp → Prop) (n : Nat) : Kt := exkS 2 6 0 0 1 tb_X12_done mt_X12_done ct K R n
theorem xt_X12_done {ct : Nat → Bool} {K : Kt} {R : Option AV → Hp → Prop} {n pc : Nat} {ls : List (Option AV)} {st : List AV} {σ : Hp} {k : Nat × Nat} (h : ct pc = true) : xk_X12_done ct K R n pc ls st σ k = K pc ls st σ k := by unfold xk_X12_done exkS; rw [h]
theorem xf_X12_done {ct : Nat → Bool} {K : Kt} {R : Option AV → Hp → Prop} {n pc : Nat} {ls : List (Option AV)} {st : List AV} {σ : Hp} {k : Nat × Nat} (h : ct pc = false) : xk_X12_done ct K R n pc ls st σ k = xe_X12_done ct K R n pc ls st σ k := by unfold xk_X12_done exkS xe_X12_done; rw [h]
theorem ev_X12_done {ct : Nat → Bool} {K : Kt} {R : Option AV → Hp → Prop} {n : Nat} {ls : List (Option AV)} {st : List AV} {σ : Hp} {k : Nat × Nat} :
  xe_X12_done ct K R (n + 1) 0 ls st σ k = (lR ls 0 fun x => xk_X12_done ct K R n 1 ls (vr x :: st) σ k) ∧
  xe_X12_done ct K R (n + 1) 1 ls st σ k = (xk_X12_done ct K R n 2 ls (vi (0) :: st) σ k) ∧
  xe_X12_done ct K R (n + 1) 2 ls st σ k = (oI st fun v st => oR st fun x st => kd σ x = 13 ∧ xk_X12_done ct K R n 5 ls st (pI σ 1300 x v) k) ∧
  xe_X12_done ct K R (n + 1) 5 ls st σ k = (lR ls 0 fun x => xk_X12_done ct K R n 6 ls (vr x :: st) σ k) ∧
  xe_X12_done ct K R (n + 1) 6 ls st σ k = (popN 1 st [] fun av rest => (catS rest ≤ 8 ∧ 5 < 6 ∧ k.1 + 0 ≤ 0 ∧ k.2 + 0 ≤ 0) ∧ (sp_X12_fewest) av σ fun v σ' => xk_X12_done ct K R n 9 ls (v.toList ++ rest) σ' (k.1 + 0, k.2 + 0)) ∧
  xe_X12_done ct K R (n + 1) 9 ls st σ k = (oI st fun x st => 1 < 2 ∧ xk_X12_done ct K R n 10 (stL ls 1 (vi x)) st σ k) ∧
  xe_X12_done ct K R (n + 1) 10 ls st σ k = (lI ls 1 fun x => xk_X12_done ct K R n 11 ls (vi x :: st) σ k) ∧
  xe_X12_done ct K R (n + 1) 11 ls st σ k = (oI st fun x st => (wI x ≤ wI 0 → xk_X12_done ct K R n 27 ls st σ k) ∧ (¬ (wI x ≤ wI 0) → xk_X12_done ct K R n 14 ls st σ k)) ∧
  xe_X12_done ct K R (n + 1) 14 ls st σ k = (lR ls 0 fun x => xk_X12_done ct K R n 15 ls (vr x :: st) σ k) ∧
  xe_X12_done ct K R (n + 1) 15 ls st σ k = (oR st fun x st => kd σ x = 13 ∧ xk_X12_done ct K R n 18 ls (vr (fR σ 1338 x) :: st) σ k) ∧
  xe_X12_done ct K R (n + 1) 18 ls st σ k = (lR ls 0 fun x => xk_X12_done ct K R n 19 ls (vr x :: st) σ k) ∧
  xe_X12_done ct K R (n + 1) 19 ls st σ k = (oR st fun x st => kd σ x = 13 ∧ xk_X12_done ct K R n 22 ls (vi (fI σ 1384 x) :: st) σ k) ∧
  xe_X12_done ct K R (n + 1) 22 ls st σ k = (lR ls 0 fun x => xk_X12_done ct K R n 23 ls (vr x :: st) σ k) ∧
  xe_X12_done ct K R (n + 1) 23 ls st σ k = (oR st fun x st => kd σ x = 13 ∧ xk_X12_done ct K R n 26 ls (vi (fI σ 1385 x) :: st) σ k) ∧
  xe_X12_done ct K R (n + 1) 26 ls st σ k = (oI st fun v st => oI st fun j st => oR st fun x st => kd σ x = 101 ∧ (0 ≤ j ∧ j < ln σ x) ∧ xk_X12_done ct K R n 27 ls st (qI σ x j v) k) ∧
  xe_X12_done ct K R (n + 1) 27 ls st σ k = (lI ls 1 fun x => xk_X12_done ct K R n 28 ls (vi x :: st) σ k) ∧
  xe_X12_done ct K R (n + 1) 28 ls st σ k = (xk_X12_done ct K R n 29 ls (vi (1) :: st) σ k) ∧
  xe_X12_done ct K R (n + 1) 29 ls st σ k = (oI st fun y st => oI st fun x st => (wI x ≤ wI y → xk_X12_done ct K R n 45 ls st σ k) ∧ (¬ (wI x ≤ wI y) → xk_X12_done ct K R n 32 ls st σ k)) ∧
  xe_X12_done ct K R (n + 1) 32 ls st σ k = (lR ls 0 fun x => xk_X12_done ct K R n 33 ls (vr x :: st) σ k) ∧
  xe_X12_done ct K R (n + 1) 33 ls st σ k = (oR st fun x st => kd σ x = 13 ∧ xk_X12_done ct K R n 36 ls (vr (fR σ 1338 x) :: st) σ k) ∧
  xe_X12_done ct K R (n + 1) 36 ls st σ k = (lR ls 0 fun x => xk_X12_done ct K R n 37 ls (vr x :: st) σ k) ∧
  xe_X12_done ct K R (n + 1) 37 ls st σ k = (oR st fun x st => kd σ x = 13 ∧ xk_X12_done ct K R n 40 ls (vi (fI σ 1386 x) :: st) σ k) ∧
  xe_X12_done ct K R (n + 1) 40 ls st σ k = (lR ls 0 fun x => xk_X12_done ct K R n 41 ls (vr x :: st) σ k) ∧
  xe_X12_done ct K R (n + 1) 41 ls st σ k = (oR st fun x st => kd σ x = 13 ∧ xk_X12_done ct K R n 44 ls (vi (fI σ 1387 x) :: st) σ k) ∧
  xe_X12_done ct K R (n + 1) 44 ls st σ k = (oI st fun v st => oI st fun j st => oR st fun x st => kd σ x = 101 ∧ (0 ≤ j ∧ j < ln σ x) ∧ xk_X12_done ct K R n 45 ls st (qI σ x j v) k) ∧
  xe_X12_done ct K R (n + 1) 45 ls st σ k = (lI ls 1 fun x => xk_X12_done ct K R n 46 ls (vi x :: st) σ k) ∧
  xe_X12_done ct K R (n + 1) 46 ls st σ k = (oI st fun x st => st = [] ∧ True ∧ R (some (vi x)) σ) :=
  ⟨exS_step.trans rfl, exS_step.trans rfl, exS_step.trans rfl, exS_step.trans rfl, exS_step.trans rfl, exS_step.trans rfl, exS_step.trans rfl, exS_step.trans rfl, exS_step.trans rfl, exS_step.trans rfl, exS_step.trans rfl, exS_step.trans rfl, exS_step.trans rfl, exS_step.trans rfl, exS_step.trans rfl, exS_step.trans rfl, exS_step.trans rfl, exS_step.trans rfl, exS_step.trans rfl, exS_step.trans rfl, exS_step.trans rfl, exS_step.trans rfl, exS_step.trans rfl, exS_step.trans rfl, exS_step.trans rfl, exS_step.trans rfl, exS_step.trans rfl⟩
def M_X12_done : Md := (yX12_done, cX12_done, 2, (some FieldType.int), 6, 0, 0, 1, false, tb_X12_done, mt_X12_done)
theorem mm_X12_done : MMOK M_X12_done := ⟨by decide +kernel, tk_X12_done, mk_X12_done, rfl, fun h => by cases h⟩
theorem go_X12_done {Q : Option AV → Hp → Prop} {ct : Nat → Bool} {pc : Nat} {ls : List (Option AV)} {st : List AV} {σ : Hp} {k : Nat × Nat} (n : Nat) (h : xe_X12_done ct (Go M_X12_done Q) Q n pc ls st σ k) : Go M_X12_done Q pc ls st σ k := Go.exS mm_X12_done h

set_option maxRecDepth 20000 in
theorem c_X12_done : Ct yX12_done cX12_done 2 ((some FieldType.int)) 6 0 0 sp_X12_done := by
  refine Ct.go (M := M_X12_done) mm_X12_done fun av σ Q h0 => ?_
  obtain ⟨this, rfl, hk, h⟩ := el_X12_done h0
  clear h0
  refine ⟨Nat.le_of_ble_eq_true rfl, ?_⟩
  show Go M_X12_done Q 0 [some (vr this), none] [] σ (0, 0)
  obtain ⟨rfl, hI, h⟩ := h
  have hI2 : MI (pI σ 1300 61 0) := MI_fre hI (by decide)
  have eA : ∀ A a B b, fI (mv (pI σ 1300 61 0) A a B b) 1384 61 = A := fun _ _ _ _ => rfl
  have ea : ∀ A a B b, fI (mv (pI σ 1300 61 0) A a B b) 1385 61 = a := fun _ _ _ _ => rfl
  have eB : ∀ A a B b, fI (mv (pI σ 1300 61 0) A a B b) 1386 61 = B := fun _ _ _ _ => rfl
  have eb : ∀ A a B b, fI (mv (pI σ 1300 61 0) A a B b) 1387 61 = b := fun _ _ _ _ => rfl
  have eR : ∀ A a B b f, fR (mv (pI σ 1300 61 0) A a B b) f = fR σ f := fun _ _ _ _ _ => rfl
  have eL : ∀ A a B b f, ln (mv (pI σ 1300 61 0) A a B b) f = ln σ f := fun _ _ _ _ _ => rfl
  refine go_X12_done (ct := fun p => false) 40 ?_
  simp only [oI, oL, oR, o1, lI, lL, lR, popN, catS, gv, stL, stL2, swt, cnd, spObj, List.getElem?_cons_zero, List.getElem?_cons_succ, List.getD_cons_zero, List.getD_cons_succ, List.set_cons_zero, List.set_cons_succ, List.nil_append, List.cons_append, Option.toList, Bool.or_false, Bool.false_or, Bool.or_true, Bool.true_or, Nat.reduceBEq, Nat.reduceAdd, Nat.reduceLT, Nat.reduceLeDiff, Int.reduceAdd, Int.reduceToNat, true_and, and_true, Fin.isValue, Fin.val_zero, Fin.val_one, Fin.val_two, Fin.reduceFinMk, eq_self, Int.reduceNeg, imp_self, Nat.reduceMul, Nat.le_refl, not_true_eq_false, not_false_eq_true, List.getElem?_nil, reduceCtorEq, true_or, or_true, Classical.not_not, implies_true, or_self, wI_0, wI_1, wI_m1, b2i_w, b2i_eq0, b2i_eq1, b2i_bool, nor_self, nx_pI, kd_pI, ln_pI, fI_pI, fL_pI, fR_pI, aI_pI, aL_pI, aR_pI, nx_pL, kd_pL, ln_pL, fI_pL, fL_pL, fR_pL, aI_pL, aL_pL, aR_pL, nx_pR, kd_pR, ln_pR, fI_pR, fL_pR, fR_pR, aI_pR, aL_pR, aR_pR, nx_qI, kd_qI, ln_qI, fI_qI, fL_qI, fR_qI, aI_qI, aL_qI, aR_qI, nx_qL, kd_qL, ln_qL, fI_qL, fL_qL, fR_qL, aI_qL, aL_qL, aR_qL, nx_qR, kd_qR, ln_qR, fI_qR, fL_qR, fR_qR, aI_qR, aL_qR, aR_qR, nx_mk, kd_mk, ln_mk, fI_mk, fL_mk, fR_mk, aI_mk, aL_mk, aR_mk, false_and, and_false, if_false, if_true, and_self, Int.reduceEq, Nat.reduceEqDiff, ite_self, MLay_pI, MLay_pL, MLay_qI, MLay_qL, ev_X12_done, xt_X12_done, xf_X12_done, us_X12_fewest, hk, hI2, kd_mv, eA, ea, eB, eb, eR, eL, hI.lay.eqs]
  intro n A a B b hf
  have hn := mFew_n hf
  have g1 := mFew_1 hf
  have g2 := mFew_2 hf
  have hr := hf.1
  unfold mR at hr
  obtain ⟨h3, h4, h5⟩ := h n A a B b hf
  try simp (disch := omega) only [wI_id, dv_nn, rm_nn]
  repeat' (first | intro z | apply And.intro)
  all_goals try omega
  all_goals first
    | exact h3 (by omega)
    | exact h4 (by omega)
    | exact h5 (by omega)

/-- the companies of an alarm go home, the first -/
noncomputable def mHome (σ : Hp) (a : Int) : Nat → Hp
  | 0 => σ
  | n + 1 => if aI (mHome σ a n) 89 n < 0 ∧ aI (mHome σ a n) 90 n = a then qI (mHome σ a n) 89 n (aI (mHome σ a n) 88 n) else mHome σ a n
theorem MI_mHome {σ : Hp} (h : MI σ) (a : Int) : ∀ n, MI (mHome σ a n)
  | 0 => h
  | n + 1 => by
    have ih := MI_mHome h a n
    have := ih.own_ n
    unfold mHome
    split
    · exact MI_isAt_q ih (by omega)
    · exact ih
theorem fI_mHome (σ : Hp) (a : Int) : ∀ n, fI (mHome σ a n) = fI σ
  | 0 => rfl
  | n + 1 => by
    have ih := fI_mHome σ a n
    unfold mHome
    split
    · exact ih
    · exact ih
theorem mHome_a (σ : Hp) (a : Int) {r : Int} (hr : r ≠ 89) (j : Int) : ∀ n, aI (mHome σ a n) r j = aI σ r j
  | 0 => rfl
  | n + 1 => by
    have ih := mHome_a σ a hr j n
    unfold mHome
    split
    · rw [aI_qI, if_neg (fun q => hr q.1)]; exact ih
    · exact ih
theorem mHome_j (σ : Hp) (a : Int) (j : Int) : ∀ n : Nat, aI (mHome σ a n) 89 j = if (0 ≤ j ∧ j < n) ∧ aI σ 89 j < 0 ∧ aI σ 90 j = a then aI σ 88 j else aI σ 89 j
  | 0 => by rw [if_neg (by omega)]; rfl
  | n + 1 => by
    have ih := mHome_j σ a j n
    have ih2 := mHome_j σ a n n
    have e1 := mHome_a σ a (show (90 : Int) ≠ 89 by decide) n n
    have e2 := mHome_a σ a (show (88 : Int) ≠ 89 by decide) n n
    rw [if_neg (by omega)] at ih2
    unfold mHome
    rw [ih2, e1, e2]
    by_cases e : j = n
    · subst e
      split
      · rw [aI_qI, if_pos ⟨rfl, rfl⟩, if_pos ⟨by omega, by assumption⟩]
      · rw [ih2, if_neg (fun q => absurd q.2 (by assumption))]
    · split
      · rw [aI_qI, if_neg (fun q => e q.2), ih]
        repeat' (first | rfl | omega | split)
      · rw [ih]
        repeat' (first | rfl | omega | split)
noncomputable def mOv (σ : Hp) (a v : Int) : Hp := mHome (qI (qI (qI (pI σ 1300 61 0) 112 a 1) 113 a v) 114 a (fI σ 1301 61 / 86400)) a (fI σ 1335 61).toNat

def sp_X12_over : Sp := fun av σ Q => oR av fun this av => oI av fun a av => oI av fun v av => av = [] ∧ kd σ this = 13 ∧ (this = 61 ∧ MI σ ∧ inR a ∧ (v = 0 ∨ v = 1) ∧ (((0 ≤ a ∧ a < fI σ 1371 61) ∧ aI σ 112 a = 0) → Q (some (vi 1)) (mOv σ a v)) ∧ (¬ ((0 ≤ a ∧ a < fI σ 1371 61) ∧ aI σ 112 a = 0) → Q (some (vi 0)) (pI σ 1300 61 0)))
theorem us_X12_over (this : Int) (a : Int) (v : Int) (σ : Hp) (Q : Option AV → Hp → Prop) : sp_X12_over [vr this, vi a, vi v] σ Q = (kd σ this = 13 ∧ (this = 61 ∧ MI σ ∧ inR a ∧ (v = 0 ∨ v = 1) ∧ (((0 ≤ a ∧ a < fI σ 1371 61) ∧ aI σ 112 a = 0) → Q (some (vi 1)) (mOv σ a v)) ∧ (¬ ((0 ≤ a ∧ a < fI σ 1371 61) ∧ aI σ 112 a = 0) → Q (some (vi 0)) (pI σ 1300 61 0)))) := propext ⟨fun h => h.2, fun h => ⟨rfl, h⟩⟩
theorem el_X12_over {av : List AV} {σ : Hp} {Q : Option AV → Hp → Prop} (h : sp_X12_over av σ Q) : ∃ (this : Int) (a : Int) (v : Int), av = [vr this, vi a, vi v] ∧ (kd σ this = 13 ∧ (this = 61 ∧ MI σ ∧ inR a ∧ (v = 0 ∨ v = 1) ∧ (((0 ≤ a ∧ a < fI σ 1371 61) ∧ aI σ 112 a = 0) → Q (some (vi 1)) (mOv σ a v)) ∧ (¬ ((0 ≤ a ∧ a < fI σ 1371 61) ∧ aI σ 112 a = 0) → Q (some (vi 0)) (pI σ 1300 61 0)))) := by
  obtain ⟨this, a0, rfl, h0⟩ := oR_s h
  obtain ⟨a, a1, rfl, h1⟩ := oI_s h0
  obtain ⟨v, a2, rfl, h2⟩ := oI_s h1
  obtain ⟨rfl, hz⟩ := h2
  exact ⟨this, a, v, rfl, hz⟩
theorem rc_X12_over : ∀ (av : List AV) (σ : Hp) (Q : Option AV → Hp → Prop), sp_X12_over av σ Q → ∃ r tl, av = vr r :: tl ∧ kd σ r = 12 + 1 := fun av σ Q h => by
  obtain ⟨this, a, v, rfl, hz, -⟩ := el_X12_over h
  exact ⟨this, _, rfl, hz⟩

def tb_X12_over : Tab := [(0, .aload_n 0, 1, (0, 0, 0, 0)), (1, .iconst 0, 1, (0, 0, 0, 0)), (2, .putfield 196, 3, (13, 1300, 0, 0)), (5, .aload_n 0, 1, (0, 0, 0, 0)), (6, .iload_n 1, 1, (0, 0, 0, 0)), (7, .invokevirtual 427, 3, (0, 0, 0, 0)), (10, .ifCond .eq 12, 3, (0, 0, 0, 0)), (13, .aload_n 0, 1, (0, 0, 0, 0)), (14, .getfield 162, 3, (13, 1375, 2, 0)), (17, .iload_n 1, 1, (0, 0, 0, 0)), (18, .baload, 1, (0, 0, 0, 0)), (19, .ifCond .eq 5, 3, (0, 0, 0, 0)), (22, .iconst 0, 1, (0, 0, 0, 0)), (23, .ireturn, 1, (0, 0, 0, 0)), (24, .aload_n 0, 1, (0, 0, 0, 0)), (25, .getfield 162, 3, (13, 1375, 2, 0)), (28, .iload_n 1, 1, (0, 0, 0, 0)), (29, .iconst 1, 1, (0, 0, 0, 0)), (30, .bastore, 1, (0, 0, 0, 0)), (31, .aload_n 0, 1, (0, 0, 0, 0)), (32, .getfield 165, 3, (13, 1376, 2, 0)), (35, .iload_n 1, 1, (0, 0, 0, 0)), (36, .iload_n 2, 1, (0, 0, 0, 0)), (37, .bastore, 1, (0, 0, 0, 0)), (38, .aload_n 0, 1, (0, 0, 0, 0)), (39, .getfield 168, 3, (13, 1377, 2, 0)), (42, .iload_n 1, 1, (0, 0, 0, 0)), (43, .aload_n 0, 1, (0, 0, 0, 0)), (44, .getfield 217, 3, (13, 1301, 0, 0)), (47, .ldc_w 414, 3, (1, 0, 0, 86400)), (50, .idiv, 1, (0, 0, 0, 0)), (51, .iastore, 1, (0, 0, 0, 0)), (52, .iconst 0, 1, (0, 0, 0, 0)), (53, .istore_n 3, 1, (0, 0, 0, 0)), (54, .iload_n 3, 1, (0, 0, 0, 0)), (55, .aload_n 0, 1, (0, 0, 0, 0)), (56, .getfield 293, 3, (13, 1335, 0, 0)), (59, .if_icmp .ge 40, 3, (0, 0, 0, 0)), (62, .aload_n 0, 1, (0, 0, 0, 0)), (63, .getfield 93, 3, (13, 1338, 2, 0)), (66, .iload_n 3, 1, (0, 0, 0, 0)), (67, .iaload, 1, (0, 0, 0, 0)), (68, .ifCond .ge 25, 3, (0, 0, 0, 0)), (71, .aload_n 0, 1, (0, 0, 0, 0)), (72, .getfield 96, 3, (13, 1339, 2, 0)), (75, .iload_n 3, 1, (0, 0, 0, 0)), (76, .iaload, 1, (0, 0, 0, 0)), (77, .iload_n 1, 1, (0, 0, 0, 0)), (78, .if_icmp .ne 15, 3, (0, 0, 0, 0)), (81, .aload_n 0, 1, (0, 0, 0, 0)), (82, .getfield 93, 3, (13, 1338, 2, 0)), (85, .iload_n 3, 1, (0, 0, 0, 0)), (86, .aload_n 0, 1, (0, 0, 0, 0)), (87, .getfield 90, 3, (13, 1337, 2, 0)), (90, .iload_n 3, 1, (0, 0, 0, 0)), (91, .iaload, 1, (0, 0, 0, 0)), (92, .iastore, 1, (0, 0, 0, 0)), (93, .iinc 3 1, 3, (0, 0, 0, 0)), (96, .goto (-42), 3, (0, 0, 0, 0)), (99, .iconst 1, 1, (0, 0, 0, 0)), (100, .ireturn, 1, (0, 0, 0, 0))]
set_option maxRecDepth 100000 in
theorem tk_X12_over : TOK RX12 false cX12_over tb_X12_over := chkT_ok ft_X12 (by decide +kernel)
def mt_X12_over : List (Nat × Mt) := [(3416, 2, 0, 0, 2, sp_X12_isAlarm)]
theorem em_X12_over : mt_X12_over.lookup 3416 = some (2, 0, 0, 2, sp_X12_isAlarm) := rfl
theorem mk_X12_over : MOK RX12 mt_X12_over := by
  intro q hq
  simp only [mt_X12_over, List.mem_cons, List.not_mem_nil, or_false] at hq
  rcases hq with rfl
  · exact rw_X12_3416
noncomputable def xe_X12_over (ct : Nat → Bool) (K : Kt) (R : Option AV → Hp → Prop) (n : Nat) : Kt := exS 4 3 0 0 2 tb_X12_over mt_X12_over ct K R n
noncomputable def xk_X12_over (ct : Nat → Bool) (K : Kt) (R : Option AV → Hp → Prop) (n : Nat) : Kt := exkS 4 3 0 0 2 tb_X12_over mt_X12_over ct K R n
theorem xt_X12_over {ct : Nat → Bool} {K : Kt} {R : Option AV → Hp → Prop} {n pc : Nat} {ls : List (Option AV)} {st : List AV} {σ : Hp} {k : Nat × Nat} (h : ct pc = true) : xk_X12_over ct K R n pc ls st σ k = K pc ls st σ k := by unfold xk_X12_over exkS; rw [h]
theorem xf_X12_over {ct : Nat → Bool} {K : Kt} {R : Option AV → Hp → Prop} {n pc : Nat} {ls : List (Option AV)} {st : List AV} {σ : Hp} {k : Nat × Nat} (h : ct pc = false) : xk_X12_over ct K R n pc ls st σ k = xe_X12_over ct K R n pc ls st σ k := by unfold xk_X12_over exkS xe_X12_over; rw [h]
theorem ev_X12_over {ct : Nat → Bool} {K : Kt} {R : Option AV → Hp → Prop} {n : Nat} {ls : List (Option AV)} {st : List AV} {σ : Hp} {k : Nat × Nat} :
  xe_X12_over ct K R (n + 1) 0 ls st σ k = (lR ls 0 fun x => xk_X12_over ct K R n 1 ls (vr x :: st) σ k) ∧
  xe_X12_over ct K R (n + 1) 1 ls st σ k = (xk_X12_over ct K R n 2 ls (vi (0) :: st) σ k) ∧
  xe_X12_over ct K R (n + 1) 2 ls st σ k = (oI st fun v st => oR st fun x st => kd σ x = 13 ∧ xk_X12_over ct K R n 5 ls st (pI σ 1300 x v) k) ∧
  xe_X12_over ct K R (n + 1) 5 ls st σ k = (lR ls 0 fun x => xk_X12_over ct K R n 6 ls (vr x :: st) σ k) ∧
  xe_X12_over ct K R (n + 1) 6 ls st σ k = (lI ls 1 fun x => xk_X12_over ct K R n 7 ls (vi x :: st) σ k) ∧
  xe_X12_over ct K R (n + 1) 7 ls st σ k = (popN 2 st [] fun av rest => (catS rest ≤ 8 ∧ 2 < 3 ∧ k.1 + 0 ≤ 0 ∧ k.2 + 0 ≤ 0) ∧ (sp_X12_isAlarm) av σ fun v σ' => xk_X12_over ct K R n 10 ls (v.toList ++ rest) σ' (k.1 + 0, k.2 + 0)) ∧
  xe_X12_over ct K R (n + 1) 10 ls st σ k = (oI st fun x st => (wI x = wI 0 → xk_X12_over ct K R n 22 ls st σ k) ∧ (¬ (wI x = wI 0) → xk_X12_over ct K R n 13 ls st σ k)) ∧
  xe_X12_over ct K R (n + 1) 13 ls st σ k = (lR ls 0 fun x => xk_X12_over ct K R n 14 ls (vr x :: st) σ k) ∧
  xe_X12_over ct K R (n + 1) 14 ls st σ k = (oR st fun x st => kd σ x = 13 ∧ xk_X12_over ct K R n 17 ls (vr (fR σ 1375 x) :: st) σ k) ∧
  xe_X12_over ct K R (n + 1) 17 ls st σ k = (lI ls 1 fun x => xk_X12_over ct K R n 18 ls (vi x :: st) σ k) ∧
  xe_X12_over ct K R (n + 1) 18 ls st σ k = (oI st fun j st => oR st fun x st => (kd σ x = 103 ∨ kd σ x = 21) ∧ (0 ≤ j ∧ j < ln σ x) ∧ xk_X12_over ct K R n 19 ls (vi (aI σ x j) :: st) σ k) ∧
  xe_X12_over ct K R (n + 1) 19 ls st σ k = (oI st fun x st => (wI x = wI 0 → xk_X12_over ct K R n 24 ls st σ k) ∧ (¬ (wI x = wI 0) → xk_X12_over ct K R n 22 ls st σ k)) ∧
  xe_X12_over ct K R (n + 1) 22 ls st σ k = (xk_X12_over ct K R n 23 ls (vi (0) :: st) σ k) ∧
  xe_X12_over ct K R (n + 1) 23 ls st σ k = (oI st fun x st => st = [] ∧ (x = 0 ∨ x = 1) ∧ R (some (vi x)) σ) ∧
  xe_X12_over ct K R (n + 1) 24 ls st σ k = (lR ls 0 fun x => xk_X12_over ct K R n 25 ls (vr x :: st) σ k) ∧
  xe_X12_over ct K R (n + 1) 25 ls st σ k = (oR st fun x st => kd σ x = 13 ∧ xk_X12_over ct K R n 28 ls (vr (fR σ 1375 x) :: st) σ k) ∧
  xe_X12_over ct K R (n + 1) 28 ls st σ k = (lI ls 1 fun x => xk_X12_over ct K R n 29 ls (vi x :: st) σ k) ∧
  xe_X12_over ct K R (n + 1) 29 ls st σ k = (xk_X12_over ct K R n 30 ls (vi (1) :: st) σ k) ∧
  xe_X12_over ct K R (n + 1) 30 ls st σ k = (oI st fun v st => oI st fun j st => oR st fun x st => kd σ x = 103 ∧ (0 ≤ j ∧ j < ln σ x) ∧ (v = 0 ∨ v = 1) ∧ xk_X12_over ct K R n 31 ls st (qI σ x j v) k) ∧
  xe_X12_over ct K R (n + 1) 31 ls st σ k = (lR ls 0 fun x => xk_X12_over ct K R n 32 ls (vr x :: st) σ k) ∧
  xe_X12_over ct K R (n + 1) 32 ls st σ k = (oR st fun x st => kd σ x = 13 ∧ xk_X12_over ct K R n 35 ls (vr (fR σ 1376 x) :: st) σ k) ∧
  xe_X12_over ct K R (n + 1) 35 ls st σ k = (lI ls 1 fun x => xk_X12_over ct K R n 36 ls (vi x :: st) σ k) ∧
  xe_X12_over ct K R (n + 1) 36 ls st σ k = (lI ls 2 fun x => xk_X12_over ct K R n 37 ls (vi x :: st) σ k) ∧
  xe_X12_over ct K R (n + 1) 37 ls st σ k = (oI st fun v st => oI st fun j st => oR st fun x st => kd σ x = 103 ∧ (0 ≤ j ∧ j < ln σ x) ∧ (v = 0 ∨ v = 1) ∧ xk_X12_over ct K R n 38 ls st (qI σ x j v) k) ∧
  xe_X12_over ct K R (n + 1) 38 ls st σ k = (lR ls 0 fun x => xk_X12_over ct K R n 39 ls (vr x :: st) σ k) ∧
  xe_X12_over ct K R (n + 1) 39 ls st σ k = (oR st fun x st => kd σ x = 13 ∧ xk_X12_over ct K R n 42 ls (vr (fR σ 1377 x) :: st) σ k) ∧
  xe_X12_over ct K R (n + 1) 42 ls st σ k = (lI ls 1 fun x => xk_X12_over ct K R n 43 ls (vi x :: st) σ k) ∧
  xe_X12_over ct K R (n + 1) 43 ls st σ k = (lR ls 0 fun x => xk_X12_over ct K R n 44 ls (vr x :: st) σ k) ∧
  xe_X12_over ct K R (n + 1) 44 ls st σ k = (oR st fun x st => kd σ x = 13 ∧ xk_X12_over ct K R n 47 ls (vi (fI σ 1301 x) :: st) σ k) ∧
  xe_X12_over ct K R (n + 1) 47 ls st σ k = (xk_X12_over ct K R n 50 ls (vi (86400) :: st) σ k) ∧
  xe_X12_over ct K R (n + 1) 50 ls st σ k = (oI st fun y st => oI st fun x st => ¬ wI y = 0 ∧ xk_X12_over ct K R n 51 ls (vi (dvI x y) :: st) σ k) ∧
  xe_X12_over ct K R (n + 1) 51 ls st σ k = (oI st fun v st => oI st fun j st => oR st fun x st => kd σ x = 101 ∧ (0 ≤ j ∧ j < ln σ x) ∧ xk_X12_over ct K R n 52 ls st (qI σ x j v) k) ∧
  xe_X12_over ct K R (n + 1) 52 ls st σ k = (xk_X12_over ct K R n 53 ls (vi (0) :: st) σ k) ∧
  xe_X12_over ct K R (n + 1) 53 ls st σ k = (oI st fun x st => 3 < 4 ∧ xk_X12_over ct K R n 54 (stL ls 3 (vi x)) st σ k) ∧
  xe_X12_over ct K R (n + 1) 54 ls st σ k = (lI ls 3 fun x => xk_X12_over ct K R n 55 ls (vi x :: st) σ k) ∧
  xe_X12_over ct K R (n + 1) 55 ls st σ k = (lR ls 0 fun x => xk_X12_over ct K R n 56 ls (vr x :: st) σ k) ∧
  xe_X12_over ct K R (n + 1) 56 ls st σ k = (oR st fun x st => kd σ x = 13 ∧ xk_X12_over ct K R n 59 ls (vi (fI σ 1335 x) :: st) σ k) ∧
  xe_X12_over ct K R (n + 1) 59 ls st σ k = (oI st fun y st => oI st fun x st => (wI y ≤ wI x → xk_X12_over ct K R n 99 ls st σ k) ∧ (¬ (wI y ≤ wI x) → xk_X12_over ct K R n 62 ls st σ k)) ∧
  xe_X12_over ct K R (n + 1) 62 ls st σ k = (lR ls 0 fun x => xk_X12_over ct K R n 63 ls (vr x :: st) σ k) ∧
  xe_X12_over ct K R (n + 1) 63 ls st σ k = (oR st fun x st => kd σ x = 13 ∧ xk_X12_over ct K R n 66 ls (vr (fR σ 1338 x) :: st) σ k) ∧
  xe_X12_over ct K R (n + 1) 66 ls st σ k = (lI ls 3 fun x => xk_X12_over ct K R n 67 ls (vi x :: st) σ k) ∧
  xe_X12_over ct K R (n + 1) 67 ls st σ k = (oI st fun j st => oR st fun x st => (kd σ x = 101 ∨ kd σ x = 108) ∧ (0 ≤ j ∧ j < ln σ x) ∧ xk_X12_over ct K R n 68 ls (vi (aI σ x j) :: st) σ k) ∧
  xe_X12_over ct K R (n + 1) 68 ls st σ k = (oI st fun x st => (wI 0 ≤ wI x → xk_X12_over ct K R n 93 ls st σ k) ∧ (¬ (wI 0 ≤ wI x) → xk_X12_over ct K R n 71 ls st σ k)) ∧
  xe_X12_over ct K R (n + 1) 71 ls st σ k = (lR ls 0 fun x => xk_X12_over ct K R n 72 ls (vr x :: st) σ k) ∧
  xe_X12_over ct K R (n + 1) 72 ls st σ k = (oR st fun x st => kd σ x = 13 ∧ xk_X12_over ct K R n 75 ls (vr (fR σ 1339 x) :: st) σ k) ∧
  xe_X12_over ct K R (n + 1) 75 ls st σ k = (lI ls 3 fun x => xk_X12_over ct K R n 76 ls (vi x :: st) σ k) ∧
  xe_X12_over ct K R (n + 1) 76 ls st σ k = (oI st fun j st => oR st fun x st => (kd σ x = 101 ∨ kd σ x = 108) ∧ (0 ≤ j ∧ j < ln σ x) ∧ xk_X12_over ct K R n 77 ls (vi (aI σ x j) :: st) σ k) ∧
  xe_X12_over ct K R (n + 1) 77 ls st σ k = (lI ls 1 fun x => xk_X12_over ct K R n 78 ls (vi x :: st) σ k) ∧
  xe_X12_over ct K R (n + 1) 78 ls st σ k = (oI st fun y st => oI st fun x st => (¬ wI x = wI y → xk_X12_over ct K R n 93 ls st σ k) ∧ (¬ (¬ wI x = wI y) → xk_X12_over ct K R n 81 ls st σ k)) ∧
  xe_X12_over ct K R (n + 1) 81 ls st σ k = (lR ls 0 fun x => xk_X12_over ct K R n 82 ls (vr x :: st) σ k) ∧
  xe_X12_over ct K R (n + 1) 82 ls st σ k = (oR st fun x st => kd σ x = 13 ∧ xk_X12_over ct K R n 85 ls (vr (fR σ 1338 x) :: st) σ k) ∧
  xe_X12_over ct K R (n + 1) 85 ls st σ k = (lI ls 3 fun x => xk_X12_over ct K R n 86 ls (vi x :: st) σ k) ∧
  xe_X12_over ct K R (n + 1) 86 ls st σ k = (lR ls 0 fun x => xk_X12_over ct K R n 87 ls (vr x :: st) σ k) ∧
  xe_X12_over ct K R (n + 1) 87 ls st σ k = (oR st fun x st => kd σ x = 13 ∧ xk_X12_over ct K R n 90 ls (vr (fR σ 1337 x) :: st) σ k) ∧
  xe_X12_over ct K R (n + 1) 90 ls st σ k = (lI ls 3 fun x => xk_X12_over ct K R n 91 ls (vi x :: st) σ k) ∧
  xe_X12_over ct K R (n + 1) 91 ls st σ k = (oI st fun j st => oR st fun x st => (kd σ x = 101 ∨ kd σ x = 108) ∧ (0 ≤ j ∧ j < ln σ x) ∧ xk_X12_over ct K R n 92 ls (vi (aI σ x j) :: st) σ k) ∧
  xe_X12_over ct K R (n + 1) 92 ls st σ k = (oI st fun v st => oI st fun j st => oR st fun x st => kd σ x = 101 ∧ (0 ≤ j ∧ j < ln σ x) ∧ xk_X12_over ct K R n 93 ls st (qI σ x j v) k) ∧
  xe_X12_over ct K R (n + 1) 93 ls st σ k = (lI ls 3 fun x => 3 < 4 ∧ xk_X12_over ct K R n 96 (stL ls 3 (vi (x + (1)))) st σ k) ∧
  xe_X12_over ct K R (n + 1) 96 ls st σ k = (xk_X12_over ct K R n 54 ls st σ k) ∧
  xe_X12_over ct K R (n + 1) 99 ls st σ k = (xk_X12_over ct K R n 100 ls (vi (1) :: st) σ k) ∧
  xe_X12_over ct K R (n + 1) 100 ls st σ k = (oI st fun x st => st = [] ∧ (x = 0 ∨ x = 1) ∧ R (some (vi x)) σ) :=
  ⟨exS_step.trans rfl, exS_step.trans rfl, exS_step.trans rfl, exS_step.trans rfl, exS_step.trans rfl, exS_step.trans rfl, exS_step.trans rfl, exS_step.trans rfl, exS_step.trans rfl, exS_step.trans rfl, exS_step.trans rfl, exS_step.trans rfl, exS_step.trans rfl, exS_step.trans rfl, exS_step.trans rfl, exS_step.trans rfl, exS_step.trans rfl, exS_step.trans rfl, exS_step.trans rfl, exS_step.trans rfl, exS_step.trans rfl, exS_step.trans rfl, exS_step.trans rfl, exS_step.trans rfl, exS_step.trans rfl, exS_step.trans rfl, exS_step.trans rfl, exS_step.trans rfl, exS_step.trans rfl, exS_step.trans rfl, exS_step.trans rfl, exS_step.trans rfl, exS_step.trans rfl, exS_step.trans rfl, exS_step.trans rfl, exS_step.trans rfl, exS_step.trans rfl, exS_step.trans rfl, exS_step.trans rfl, exS_step.trans rfl, exS_step.trans rfl, exS_step.trans rfl, exS_step.trans rfl, exS_step.trans rfl, exS_step.trans rfl, exS_step.trans rfl, exS_step.trans rfl, exS_step.trans rfl, exS_step.trans rfl, exS_step.trans rfl, exS_step.trans rfl, exS_step.trans rfl, exS_step.trans rfl, exS_step.trans rfl, exS_step.trans rfl, exS_step.trans rfl, exS_step.trans rfl, exS_step.trans rfl, exS_step.trans rfl, exS_step.trans rfl, exS_step.trans rfl⟩
def M_X12_over : Md := (yX12_over, cX12_over, 4, (some FieldType.boolean), 3, 0, 0, 2, false, tb_X12_over, mt_X12_over)
theorem mm_X12_over : MMOK M_X12_over := ⟨by decide +kernel, tk_X12_over, mk_X12_over, rfl, fun h => by cases h⟩
theorem go_X12_over {Q : Option AV → Hp → Prop} {ct : Nat → Bool} {pc : Nat} {ls : List (Option AV)} {st : List AV} {σ : Hp} {k : Nat × Nat} (n : Nat) (h : xe_X12_over ct (Go M_X12_over Q) Q n pc ls st σ k) : Go M_X12_over Q pc ls st σ k := Go.exS mm_X12_over h

set_option maxRecDepth 20000 in
theorem c_X12_over : Ct yX12_over cX12_over 4 ((some FieldType.boolean)) 3 0 0 sp_X12_over := by
  refine Ct.go (M := M_X12_over) mm_X12_over fun av σ Q h0 => ?_
  obtain ⟨this, a, v, rfl, hk, h⟩ := el_X12_over h0
  clear h0
  refine ⟨Nat.le_of_ble_eq_true rfl, ?_⟩
  show Go M_X12_over Q 0 [some (vr this), some (vi a), some (vi v), none] [] σ (0, 0)
  obtain ⟨rfl, hI, ha, hv, h1, h2⟩ := h
  have hI2 : MI (pI σ 1300 61 0) := MI_fre hI (by decide)
  have hn := hI.alarms_s
  have hc := hI.companies_s
  have ht := hI.now_s
  have hx := hI.isOver_ a
  have hr := ha
  unfold inR at hr
  let τ := qI (qI (qI (pI σ 1300 61 0) 112 a 1) 113 a v) 114 a (fI σ 1301 61 / 86400)
  have hT : MI τ := MI_overDay_q (MI_overTrue_q (MI_isOver_q hI2 (by omega)) (by omega)) (by omega)
  have loop : Q (some (vi 1)) (mOv σ a v) → ∀ (n c : Nat), (c : Int) + n = fI σ 1335 61 → Go M_X12_over Q 54 [some (vr 61), some (vi a), some (vi v), some (vi c)] [] (mHome τ a c) (0, 0) := by
    intro hq n
    induction n with
    | zero =>
      intro c hc2
      have hM := MI_mHome hT a c
      have hk : kd (mHome τ a c) 61 = 13 := hM.lay.1
      have ef : fI (mHome τ a c) 1335 61 = fI σ 1335 61 := by rw [fI_mHome]; rfl
      have e : (fI σ 1335 61).toNat = c := by omega
      unfold mOv at hq
      rw [e] at hq
      refine go_X12_over (ct := fun p => p == 54) 40 ?_
      simp only [oI, oL, oR, o1, lI, lL, lR, popN, catS, gv, stL, stL2, swt, cnd, spObj, List.getElem?_cons_zero, List.getElem?_cons_succ, List.getD_cons_zero, List.getD_cons_succ, List.set_cons_zero, List.set_cons_succ, List.nil_append, List.cons_append, Option.toList, Bool.or_false, Bool.false_or, Bool.or_true, Bool.true_or, Nat.reduceBEq, Nat.reduceAdd, Nat.reduceLT, Nat.reduceLeDiff, Int.reduceAdd, Int.reduceToNat, true_and, and_true, Fin.isValue, Fin.val_zero, Fin.val_one, Fin.val_two, Fin.reduceFinMk, eq_self, Int.reduceNeg, imp_self, Nat.reduceMul, Nat.le_refl, not_true_eq_false, not_false_eq_true, List.getElem?_nil, reduceCtorEq, true_or, or_true, Classical.not_not, implies_true, or_self, wI_0, wI_1, wI_m1, b2i_w, b2i_eq0, b2i_eq1, b2i_bool, nor_self, nx_pI, kd_pI, ln_pI, fI_pI, fL_pI, fR_pI, aI_pI, aL_pI, aR_pI, nx_pL, kd_pL, ln_pL, fI_pL, fL_pL, fR_pL, aI_pL, aL_pL, aR_pL, nx_pR, kd_pR, ln_pR, fI_pR, fL_pR, fR_pR, aI_pR, aL_pR, aR_pR, nx_qI, kd_qI, ln_qI, fI_qI, fL_qI, fR_qI, aI_qI, aL_qI, aR_qI, nx_qL, kd_qL, ln_qL, fI_qL, fL_qL, fR_qL, aI_qL, aL_qL, aR_qL, nx_qR, kd_qR, ln_qR, fI_qR, fL_qR, fR_qR, aI_qR, aL_qR, aR_qR, nx_mk, kd_mk, ln_mk, fI_mk, fL_mk, fR_mk, aI_mk, aL_mk, aR_mk, false_and, and_false, if_false, if_true, and_self, Int.reduceEq, Nat.reduceEqDiff, ite_self, MLay_pI, MLay_pL, MLay_qI, MLay_qL, ev_X12_over, xt_X12_over, xf_X12_over, us_X12_isAlarm, hk, ef]
      try simp (disch := omega) only [wI_id, dv_nn, rm_nn]
      exact ⟨fun _ => hq, fun z => absurd z (by omega)⟩
    | succ n ih =>
      intro c hc2
      have hM := MI_mHome hT a c
      have hk : kd (mHome τ a c) 61 = 13 := hM.lay.1
      have ef : fI (mHome τ a c) 1335 61 = fI σ 1335 61 := by rw [fI_mHome]; rfl
      have ih := ih (c + 1) (by omega)
      simp only [mHome, Int.natCast_add, Int.cast_ofNat_Int] at ih
      have h3 := hM.isAt_ c
      have h4 := hM.sentTo_ c
      refine go_X12_over (ct := fun p => p == 54) 40 ?_
      simp only [oI, oL, oR, o1, lI, lL, lR, popN, catS, gv, stL, stL2, swt, cnd, spObj, List.getElem?_cons_zero, List.getElem?_cons_succ, List.getD_cons_zero, List.getD_cons_succ, List.set_cons_zero, List.set_cons_succ, List.nil_append, List.cons_append, Option.toList, Bool.or_false, Bool.false_or, Bool.or_true, Bool.true_or, Nat.reduceBEq, Nat.reduceAdd, Nat.reduceLT, Nat.reduceLeDiff, Int.reduceAdd, Int.reduceToNat, true_and, and_true, Fin.isValue, Fin.val_zero, Fin.val_one, Fin.val_two, Fin.reduceFinMk, eq_self, Int.reduceNeg, imp_self, Nat.reduceMul, Nat.le_refl, not_true_eq_false, not_false_eq_true, List.getElem?_nil, reduceCtorEq, true_or, or_true, Classical.not_not, implies_true, or_self, wI_0, wI_1, wI_m1, b2i_w, b2i_eq0, b2i_eq1, b2i_bool, nor_self, nx_pI, kd_pI, ln_pI, fI_pI, fL_pI, fR_pI, aI_pI, aL_pI, aR_pI, nx_pL, kd_pL, ln_pL, fI_pL, fL_pL, fR_pL, aI_pL, aL_pL, aR_pL, nx_pR, kd_pR, ln_pR, fI_pR, fL_pR, fR_pR, aI_pR, aL_pR, aR_pR, nx_qI, kd_qI, ln_qI, fI_qI, fL_qI, fR_qI, aI_qI, aL_qI, aR_qI, nx_qL, kd_qL, ln_qL, fI_qL, fL_qL, fR_qL, aI_qL, aL_qL, aR_qL, nx_qR, kd_qR, ln_qR, fI_qR, fL_qR, fR_qR, aI_qR, aL_qR, aR_qR, nx_mk, kd_mk, ln_mk, fI_mk, fL_mk, fR_mk, aI_mk, aL_mk, aR_mk, false_and, and_false, if_false, if_true, and_self, Int.reduceEq, Nat.reduceEqDiff, ite_self, MLay_pI, MLay_pL, MLay_qI, MLay_qL, ev_X12_over, xt_X12_over, xf_X12_over, us_X12_isAlarm, hk, ef, hM.lay.eqs]
      try simp (disch := omega) only [wI_id, dv_nn, rm_nn]
      repeat' (first | intro z | apply And.intro)
      all_goals try omega
      · rw [if_neg (by omega)] at ih; exact ih
      · rw [if_neg (by omega)] at ih; exact ih
      · rw [if_pos (by omega)] at ih; exact ih
  refine go_X12_over (ct := fun p => p == 54) 40 ?_
  simp only [oI, oL, oR, o1, lI, lL, lR, popN, catS, gv, stL, stL2, swt, cnd, spObj, List.getElem?_cons_zero, List.getElem?_cons_succ, List.getD_cons_zero, List.getD_cons_succ, List.set_cons_zero, List.set_cons_succ, List.nil_append, List.cons_append, Option.toList, Bool.or_false, Bool.false_or, Bool.or_true, Bool.true_or, Nat.reduceBEq, Nat.reduceAdd, Nat.reduceLT, Nat.reduceLeDiff, Int.reduceAdd, Int.reduceToNat, true_and, and_true, Fin.isValue, Fin.val_zero, Fin.val_one, Fin.val_two, Fin.reduceFinMk, eq_self, Int.reduceNeg, imp_self, Nat.reduceMul, Nat.le_refl, not_true_eq_false, not_false_eq_true, List.getElem?_nil, reduceCtorEq, true_or, or_true, Classical.not_not, implies_true, or_self, wI_0, wI_1, wI_m1, b2i_w, b2i_eq0, b2i_eq1, b2i_bool, nor_self, nx_pI, kd_pI, ln_pI, fI_pI, fL_pI, fR_pI, aI_pI, aL_pI, aR_pI, nx_pL, kd_pL, ln_pL, fI_pL, fL_pL, fR_pL, aI_pL, aL_pL, aR_pL, nx_pR, kd_pR, ln_pR, fI_pR, fL_pR, fR_pR, aI_pR, aL_pR, aR_pR, nx_qI, kd_qI, ln_qI, fI_qI, fL_qI, fR_qI, aI_qI, aL_qI, aR_qI, nx_qL, kd_qL, ln_qL, fI_qL, fL_qL, fR_qL, aI_qL, aL_qL, aR_qL, nx_qR, kd_qR, ln_qR, fI_qR, fL_qR, fR_qR, aI_qR, aL_qR, aR_qR, nx_mk, kd_mk, ln_mk, fI_mk, fL_mk, fR_mk, aI_mk, aL_mk, aR_mk, false_and, and_false, if_false, if_true, and_self, Int.reduceEq, Nat.reduceEqDiff, ite_self, MLay_pI, MLay_pL, MLay_qI, MLay_qL, ev_X12_over, xt_X12_over, xf_X12_over, us_X12_isAlarm, hk, hI.lay.eqs, hI2, ha]
  try simp (disch := omega) only [wI_id, dv_nn, rm_nn]
  repeat' (first | intro z | apply And.intro)
  all_goals try omega
  all_goals first
    | exact h2 (by omega)
    | exact loop (h1 ⟨by omega, by omega⟩) (fI σ 1335 61).toNat 0 (by omega)
