/-! the class: a loop -/

/-- a loop as an object -/
def LpO (σ : Hp) (q : Int) : Prop := kd σ q = 10 ∧ LOk σ ((fR σ 1000 q)) 2 ∧ (fI σ 1402 (fR σ 1000 q)) ≤ 12 ∧ (∀ k, 0 ≤ k → k < (fI σ 1402 (fR σ 1000 q)) → BxR σ ((lat σ (fR σ 1000 q) k))) ∧
  (kd σ (fR σ 1001 q) = 103 ∧ ln σ (fR σ 1001 q) = 13) ∧ (kd σ (fR σ 1002 q) = 101 ∧ ln σ (fR σ 1002 q) = 500) ∧ (∀ w, 0 ≤ aI σ (fR σ 1001 q) w ∧ aI σ (fR σ 1001 q) w ≤ 1) ∧ (∀ w, 0 ≤ aI σ (fR σ 1002 q) w ∧ aI σ (fR σ 1002 q) w ≤ 999999) ∧
  (0 ≤ fI σ 1003 q ∧ fI σ 1003 q ≤ 500) ∧ (0 ≤ fI σ 1004 q ∧ fI σ 1004 q < 500) ∧ (-7 ≤ fI σ 1005 q ∧ fI σ 1005 q ≤ 999999) ∧ (-1 ≤ fI σ 1006 q ∧ fI σ 1006 q ≤ 12) ∧ (-1 ≤ fI σ 1007 q ∧ fI σ 1007 q ≤ 12)
theorem LpO.k {σ : Hp} {q : Int} (h : LpO σ q) : kd σ q = 10 := h.1
theorem LpO.l {σ : Hp} {q : Int} (h : LpO σ q) : LOk σ (fR σ 1000 q) 2 := h.2.1
theorem LpO.lk {σ : Hp} {q : Int} (h : LpO σ q) : kd σ (fR σ 1000 q) = 14 := h.2.1.1
theorem LpO.le {σ : Hp} {q : Int} (h : LpO σ q) : ∃ ci, LOk σ (fR σ 1000 q) ci := ⟨2, h.2.1⟩
theorem LpO.n {σ : Hp} {q : Int} (h : LpO σ q) : 0 ≤ fI σ 1402 (fR σ 1000 q) ∧ fI σ 1402 (fR σ 1000 q) ≤ 12 := ⟨h.2.1.2.2.1.1, h.2.2.1⟩
theorem LpO.b {σ : Hp} {q : Int} (h : LpO σ q) {k : Int} (a : 0 ≤ k) (b : k < fI σ 1402 (fR σ 1000 q)) : BxR σ (lat σ (fR σ 1000 q) k) := h.2.2.2.1 k a b
theorem LpO.bk {σ : Hp} {q : Int} (h : LpO σ q) {k : Int} (a : 0 ≤ k) (b : k < fI σ 1402 (fR σ 1000 q)) : kd σ (lat σ (fR σ 1000 q) k) = 3 := (h.b a b).1

def sp_X9_hasRoomFor : Sp := fun av σ Q => oR av fun this av => oI av fun n av => av = [] ∧ kd σ this = 10 ∧ (LpO σ this ∧ inR n ∧ Q (some (vi (b2i (¬ (bE ((fI σ 1402 (fR σ 1000 this))) fun k => fI σ 300 ((lat σ (fR σ 1000 this) k)) = n) ∧ (fI σ 1402 (fR σ 1000 this)) < 12)))) σ)
theorem us_X9_hasRoomFor (this : Int) (n : Int) (σ : Hp) (Q : Option AV → Hp → Prop) : sp_X9_hasRoomFor [vr this, vi n] σ Q = (kd σ this = 10 ∧ (LpO σ this ∧ inR n ∧ Q (some (vi (b2i (¬ (bE ((fI σ 1402 (fR σ 1000 this))) fun k => fI σ 300 ((lat σ (fR σ 1000 this) k)) = n) ∧ (fI σ 1402 (fR σ 1000 this)) < 12)))) σ)) := propext ⟨fun h => h.2, fun h => ⟨rfl, h⟩⟩
theorem el_X9_hasRoomFor {av : List AV} {σ : Hp} {Q : Option AV → Hp → Prop} (h : sp_X9_hasRoomFor av σ Q) : ∃ (this : Int) (n : Int), av = [vr this, vi n] ∧ (kd σ this = 10 ∧ (LpO σ this ∧ inR n ∧ Q (some (vi (b2i (¬ (bE ((fI σ 1402 (fR σ 1000 this))) fun k => fI σ 300 ((lat σ (fR σ 1000 this) k)) = n) ∧ (fI σ 1402 (fR σ 1000 this)) < 12)))) σ)) := by
  obtain ⟨this, a0, rfl, h0⟩ := oR_s h
  obtain ⟨n, a1, rfl, h1⟩ := oI_s h0
  obtain ⟨rfl, hz⟩ := h1
  exact ⟨this, n, rfl, hz⟩
theorem rc_X9_hasRoomFor : ∀ (av : List AV) (σ : Hp) (Q : Option AV → Hp → Prop), sp_X9_hasRoomFor av σ Q → ∃ r tl, av = vr r :: tl ∧ kd σ r = 9 + 1 := fun av σ Q h => by
  obtain ⟨this, n, rfl, hz, -⟩ := el_X9_hasRoomFor h
  exact ⟨this, _, rfl, hz⟩

def tb_X9_hasRoomFor : Tab := [(0, .iconst 0, 1, (0, 0, 0, 0)), (1, .istore_n 2, 1, (0, 0, 0, 0)), (2, .iload_n 2, 1, (0, 0, 0, 0)), (3, .aload_n 0, 1, (0, 0, 0, 0)), (4, .getfield 12, 3, (10, 1000, 2, 0)), (7, .invokevirtual 42, 3, (0, 0, 0, 0)), (10, .if_icmp .ge 29, 3, (0, 0, 0, 0)), (13, .aload_n 0, 1, (0, 0, 0, 0)), (14, .getfield 12, 3, (10, 1000, 2, 0)), (17, .iload_n 2, 1, (0, 0, 0, 0)), (18, .invokevirtual 46, 3, (0, 0, 0, 0)), (21, .checkcast 50, 3, (3, 0, 0, 0)), (24, .getfield 52, 3, (3, 300, 0, 0)), (27, .iload_n 1, 1, (0, 0, 0, 0)), (28, .if_icmp .ne 5, 3, (0, 0, 0, 0)), (31, .iconst 0, 1, (0, 0, 0, 0)), (32, .ireturn, 1, (0, 0, 0, 0)), (33, .iinc 2 1, 3, (0, 0, 0, 0)), (36, .goto (-34), 3, (0, 0, 0, 0)), (39, .aload_n 0, 1, (0, 0, 0, 0)), (40, .getfield 12, 3, (10, 1000, 2, 0)), (43, .invokevirtual 42, 3, (0, 0, 0, 0)), (46, .bipush 12, 2, (0, 0, 0, 0)), (48, .if_icmp .ge 7, 3, (0, 0, 0, 0)), (51, .iconst 1, 1, (0, 0, 0, 0)), (52, .goto 4, 3, (0, 0, 0, 0)), (55, .iconst 0, 1, (0, 0, 0, 0)), (56, .ireturn, 1, (0, 0, 0, 0))]
set_option maxRecDepth 100000 in
theorem tk_X9_hasRoomFor : TOK RX9 false cX9_hasRoomFor tb_X9_hasRoomFor := chkT_ok ft_X9 (by decide +kernel)
theorem rw_X9_336 : Row RX9 (.invokevirtual 42) 3 1 0 0 1 sp_Jx4a65c_size_8abf5 := row_V (n := 0) (ci := 13) c_Jx4a65c_size_8abf5 ⟨TBL_in 482 (by decide +kernel) rfl, TBL_in 485 (by decide +kernel) rfl, TBL_in 115 (by decide +kernel) rfl, by decide +kernel, by decide⟩ (by decide) rfl (TBL_in 483 (by decide +kernel) rfl) (TBL_in 484 (by decide +kernel) rfl) rc_Jx4a65c_size_8abf5
theorem rw_X9_368 : Row RX9 (.invokevirtual 46) 3 2 0 0 3 sp_Jx4a65c_get_915e3 := row_V (n := 1) (ci := 13) c_Jx4a65c_get_915e3 ⟨TBL_in 486 (by decide +kernel) rfl, TBL_in 489 (by decide +kernel) rfl, TBL_in 115 (by decide +kernel) rfl, by decide +kernel, by decide⟩ (by decide) rfl (TBL_in 487 (by decide +kernel) rfl) (TBL_in 488 (by decide +kernel) rfl) rc_Jx4a65c_get_915e3
def mt_X9_hasRoomFor : List (Nat × Mt) := [(336, 1, 0, 0, 1, sp_Jx4a65c_size_8abf5), (368, 2, 0, 0, 3, sp_Jx4a65c_get_915e3)]
theorem em_X9_hasRoomFor : mt_X9_hasRoomFor.lookup 336 = some (1, 0, 0, 1, sp_Jx4a65c_size_8abf5) ∧ mt_X9_hasRoomFor.lookup 368 = some (2, 0, 0, 3, sp_Jx4a65c_get_915e3) := ⟨rfl, rfl⟩
theorem mk_X9_hasRoomFor : MOK RX9 mt_X9_hasRoomFor := by
  intro q hq
  simp only [mt_X9_hasRoomFor, List.mem_cons, List.not_mem_nil, or_false] at hq
  rcases hq with rfl | rfl
  · exact rw_X9_336
  · exact rw_X9_368
noncomputable def xe_X9_hasRoomFor (ct : Nat → Bool) (K : Kt) (R : Option AV → Hp → Prop) (n : Nat) : Kt := exS 3 4 0 0 2 tb_X9_hasRoomFor mt_X9_hasRoomFor ct K R n
noncomputable def xk_X9_hasRoomFor (ct : Nat → Bool) (K : Kt) (R : Option AV → Hp → Prop) (n : Nat) : Kt := exkS 3 4 0 0 2 tb_X9_hasRoomFor mt_X9_hasRoomFor ct K R n
theorem xt_X9_hasRoomFor {ct : Nat → Bool} {K : Kt} {R : Option AV → Hp → Prop} {n pc : Nat} {ls : List (Option AV)} {st : List AV} {σ : Hp} {k : Nat × Nat} (h : ct pc = true) : xk_X9_hasRoomFor ct K R n pc ls st σ k = K pc ls st σ k := by unfold xk_X9_hasRoomFor exkS; rw [h]
theorem xf_X9_hasRoomFor {ct : Nat → Bool} {K : Kt} {R : Option AV → Hp → Prop} {n pc : Nat} {ls : List (Option AV)} {st : List AV} {σ : Hp} {k : Nat × Nat} (h : ct pc = false) : xk_X9_hasRoomFor ct K R n pc ls st σ k = xe_X9_hasRoomFor ct K R n pc ls st σ k := by unfold xk_X9_hasRoomFor exkS xe_X9_hasRoomFor; rw [h]
theorem ev_X9_hasRoomFor_0 {ct : Nat → Bool} {K : Kt} {R : Option AV → Hp → Prop} {n : Nat} {ls : List (Option AV)} {st : List AV} {σ : Hp} {k : Nat × Nat} : xe_X9_hasRoomFor ct K R (n + 1) 0 ls st σ k = (xk_X9_hasRoomFor ct K R n 1 ls (vi (0) :: st) σ k) := exS_step.trans rfl
theorem ev_X9_hasRoomFor_1 {ct : Nat → Bool} {K : Kt} {R : Option AV → Hp → Prop} {n : Nat} {ls : List (Option AV)} {st : List AV} {σ : Hp} {k : Nat × Nat} : xe_X9_hasRoomFor ct K R (n + 1) 1 ls st σ k = (oI st fun x st => 2 < 3 ∧ xk_X9_hasRoomFor ct K R n 2 (stL ls 2 (vi x)) st σ k) := exS_step.trans rfl
theorem ev_X9_hasRoomFor_2 {ct : Nat → Bool} {K : Kt} {R : Option AV → Hp → Prop} {n : Nat} {ls : List (Option AV)} {st : List AV} {σ : Hp} {k : Nat × Nat} : xe_X9_hasRoomFor ct K R (n + 1) 2 ls st σ k = (lI ls 2 fun x => xk_X9_hasRoomFor ct K R n 3 ls (vi x :: st) σ k) := exS_step.trans rfl
theorem ev_X9_hasRoomFor_3 {ct : Nat → Bool} {K : Kt} {R : Option AV → Hp → Prop} {n : Nat} {ls : List (Option AV)} {st : List AV} {σ : Hp} {k : Nat × Nat} : xe_X9_hasRoomFor ct K R (n + 1) 3 ls st σ k = (lR ls 0 fun x => xk_X9_hasRoomFor ct K R n 4 ls (vr x :: st) σ k) := exS_step.trans rfl
theorem ev_X9_hasRoomFor_4 {ct : Nat → Bool} {K : Kt} {R : Option AV → Hp → Prop} {n : Nat} {ls : List (Option AV)} {st : List AV} {σ : Hp} {k : Nat × Nat} : xe_X9_hasRoomFor ct K R (n + 1) 4 ls st σ k = (oR st fun x st => kd σ x = 10 ∧ xk_X9_hasRoomFor ct K R n 7 ls (vr (fR σ 1000 x) :: st) σ k) := exS_step.trans rfl
theorem ev_X9_hasRoomFor_7 {ct : Nat → Bool} {K : Kt} {R : Option AV → Hp → Prop} {n : Nat} {ls : List (Option AV)} {st : List AV} {σ : Hp} {k : Nat × Nat} : xe_X9_hasRoomFor ct K R (n + 1) 7 ls st σ k = (popN 1 st [] fun av rest => (catS rest ≤ 8 ∧ 1 < 4 ∧ k.1 + 0 ≤ 0 ∧ k.2 + 0 ≤ 0) ∧ (sp_Jx4a65c_size_8abf5) av σ fun v σ' => xk_X9_hasRoomFor ct K R n 10 ls (v.toList ++ rest) σ' (k.1 + 0, k.2 + 0)) := exS_step.trans rfl
theorem ev_X9_hasRoomFor_10 {ct : Nat → Bool} {K : Kt} {R : Option AV → Hp → Prop} {n : Nat} {ls : List (Option AV)} {st : List AV} {σ : Hp} {k : Nat × Nat} : xe_X9_hasRoomFor ct K R (n + 1) 10 ls st σ k = (oI st fun y st => oI st fun x st => (wI y ≤ wI x → xk_X9_hasRoomFor ct K R n 39 ls st σ k) ∧ (¬ (wI y ≤ wI x) → xk_X9_hasRoomFor ct K R n 13 ls st σ k)) := exS_step.trans rfl
theorem ev_X9_hasRoomFor_13 {ct : Nat → Bool} {K : Kt} {R : Option AV → Hp → Prop} {n : Nat} {ls : List (Option AV)} {st : List AV} {σ : Hp} {k : Nat × Nat} : xe_X9_hasRoomFor ct K R (n + 1) 13 ls st σ k = (lR ls 0 fun x => xk_X9_hasRoomFor ct K R n 14 ls (vr x :: st) σ k) := exS_step.trans rfl
theorem ev_X9_hasRoomFor_14 {ct : Nat → Bool} {K : Kt} {R : Option AV → Hp → Prop} {n : Nat} {ls : List (Option AV)} {st : List AV} {σ : Hp} {k : Nat × Nat} : xe_X9_hasRoomFor ct K R (n + 1) 14 ls st σ k = (oR st fun x st => kd σ x = 10 ∧ xk_X9_hasRoomFor ct K R n 17 ls (vr (fR σ 1000 x) :: st) σ k) := exS_step.trans rfl
theorem ev_X9_hasRoomFor_17 {ct : Nat → Bool} {K : Kt} {R : Option AV → Hp → Prop} {n : Nat} {ls : List (Option AV)} {st : List AV} {σ : Hp} {k : Nat × Nat} : xe_X9_hasRoomFor ct K R (n + 1) 17 ls st σ k = (lI ls 2 fun x => xk_X9_hasRoomFor ct K R n 18 ls (vi x :: st) σ k) := exS_step.trans rfl
theorem ev_X9_hasRoomFor_18 {ct : Nat → Bool} {K : Kt} {R : Option AV → Hp → Prop} {n : Nat} {ls : List (Option AV)} {st : List AV} {σ : Hp} {k : Nat × Nat} : xe_X9_hasRoomFor ct K R (n + 1) 18 ls st σ k = (popN 2 st [] fun av rest => (catS rest ≤ 8 ∧ 3 < 4 ∧ k.1 + 0 ≤ 0 ∧ k.2 + 0 ≤ 0) ∧ (sp_Jx4a65c_get_915e3) av σ fun v σ' => xk_X9_hasRoomFor ct K R n 21 ls (v.toList ++ rest) σ' (k.1 + 0, k.2 + 0)) := exS_step.trans rfl
theorem ev_X9_hasRoomFor_21 {ct : Nat → Bool} {K : Kt} {R : Option AV → Hp → Prop} {n : Nat} {ls : List (Option AV)} {st : List AV} {σ : Hp} {k : Nat × Nat} : xe_X9_hasRoomFor ct K R (n + 1) 21 ls st σ k = (oR st fun x st => kd σ x = 3 ∧ xk_X9_hasRoomFor ct K R n 24 ls (vr x :: st) σ k) := exS_step.trans rfl
theorem ev_X9_hasRoomFor_24 {ct : Nat → Bool} {K : Kt} {R : Option AV → Hp → Prop} {n : Nat} {ls : List (Option AV)} {st : List AV} {σ : Hp} {k : Nat × Nat} : xe_X9_hasRoomFor ct K R (n + 1) 24 ls st σ k = (oR st fun x st => kd σ x = 3 ∧ xk_X9_hasRoomFor ct K R n 27 ls (vi (fI σ 300 x) :: st) σ k) := exS_step.trans rfl
theorem ev_X9_hasRoomFor_27 {ct : Nat → Bool} {K : Kt} {R : Option AV → Hp → Prop} {n : Nat} {ls : List (Option AV)} {st : List AV} {σ : Hp} {k : Nat × Nat} : xe_X9_hasRoomFor ct K R (n + 1) 27 ls st σ k = (lI ls 1 fun x => xk_X9_hasRoomFor ct K R n 28 ls (vi x :: st) σ k) := exS_step.trans rfl
theorem ev_X9_hasRoomFor_28 {ct : Nat → Bool} {K : Kt} {R : Option AV → Hp → Prop} {n : Nat} {ls : List (Option AV)} {st : List AV} {σ : Hp} {k : Nat × Nat} : xe_X9_hasRoomFor ct K R (n + 1) 28 ls st σ k = (oI st fun y st => oI st fun x st => (¬ wI x = wI y → xk_X9_hasRoomFor ct K R n 33 ls st σ k) ∧ (¬ (¬ wI x = wI y) → xk_X9_hasRoomFor ct K R n 31 ls st σ k)) := exS_step.trans rfl
theorem ev_X9_hasRoomFor_31 {ct : Nat → Bool} {K : Kt} {R : Option AV → Hp → Prop} {n : Nat} {ls : List (Option AV)} {st : List AV} {σ : Hp} {k : Nat × Nat} : xe_X9_hasRoomFor ct K R (n + 1) 31 ls st σ k = (xk_X9_hasRoomFor ct K R n 32 ls (vi (0) :: st) σ k) := exS_step.trans rfl
theorem ev_X9_hasRoomFor_32 {ct : Nat → Bool} {K : Kt} {R : Option AV → Hp → Prop} {n : Nat} {ls : List (Option AV)} {st : List AV} {σ : Hp} {k : Nat × Nat} : xe_X9_hasRoomFor ct K R (n + 1) 32 ls st σ k = (oI st fun x st => st = [] ∧ (x = 0 ∨ x = 1) ∧ R (some (vi x)) σ) := exS_step.trans rfl
theorem ev_X9_hasRoomFor_33 {ct : Nat → Bool} {K : Kt} {R : Option AV → Hp → Prop} {n : Nat} {ls : List (Option AV)} {st : List AV} {σ : Hp} {k : Nat × Nat} : xe_X9_hasRoomFor ct K R (n + 1) 33 ls st σ k = (lI ls 2 fun x => 2 < 3 ∧ xk_X9_hasRoomFor ct K R n 36 (stL ls 2 (vi (x + (1)))) st σ k) := exS_step.trans rfl
theorem ev_X9_hasRoomFor_36 {ct : Nat → Bool} {K : Kt} {R : Option AV → Hp → Prop} {n : Nat} {ls : List (Option AV)} {st : List AV} {σ : Hp} {k : Nat × Nat} : xe_X9_hasRoomFor ct K R (n + 1) 36 ls st σ k = (xk_X9_hasRoomFor ct K R n 2 ls st σ k) := exS_step.trans rfl
theorem ev_X9_hasRoomFor_39 {ct : Nat → Bool} {K : Kt} {R : Option AV → Hp → Prop} {n : Nat} {ls : List (Option AV)} {st : List AV} {σ : Hp} {k : Nat × Nat} : xe_X9_hasRoomFor ct K R (n + 1) 39 ls st σ k = (lR ls 0 fun x => xk_X9_hasRoomFor ct K R n 40 ls (vr x :: st) σ k) := exS_step.trans rfl
theorem ev_X9_hasRoomFor_40 {ct : Nat → Bool} {K : Kt} {R : Option AV → Hp → Prop} {n : Nat} {ls : List (Option AV)} {st : List AV} {σ : Hp} {k : Nat × Nat} : xe_X9_hasRoomFor ct K R (n + 1) 40 ls st σ k = (oR st fun x st => kd σ x = 10 ∧ xk_X9_hasRoomFor ct K R n 43 ls (vr (fR σ 1000 x) :: st) σ k) := exS_step.trans rfl
theorem ev_X9_hasRoomFor_43 {ct : Nat → Bool} {K : Kt} {R : Option AV → Hp → Prop} {n : Nat} {ls : List (Option AV)} {st : List AV} {σ : Hp} {k : Nat × Nat} : xe_X9_hasRoomFor ct K R (n + 1) 43 ls st σ k = (popN 1 st [] fun av rest => (catS rest ≤ 8 ∧ 1 < 4 ∧ k.1 + 0 ≤ 0 ∧ k.2 + 0 ≤ 0) ∧ (sp_Jx4a65c_size_8abf5) av σ fun v σ' => xk_X9_hasRoomFor ct K R n 46 ls (v.toList ++ rest) σ' (k.1 + 0, k.2 + 0)) := exS_step.trans rfl
theorem ev_X9_hasRoomFor_46 {ct : Nat → Bool} {K : Kt} {R : Option AV → Hp → Prop} {n : Nat} {ls : List (Option AV)} {st : List AV} {σ : Hp} {k : Nat × Nat} : xe_X9_hasRoomFor ct K R (n + 1) 46 ls st σ k = (xk_X9_hasRoomFor ct K R n 48 ls (vi (12) :: st) σ k) := exS_step.trans rfl
theorem ev_X9_hasRoomFor_48 {ct : Nat → Bool} {K : Kt} {R : Option AV → Hp → Prop} {n : Nat} {ls : List (Option AV)} {st : List AV} {σ : Hp} {k : Nat × Nat} : xe_X9_hasRoomFor ct K R (n + 1) 48 ls st σ k = (oI st fun y st => oI st fun x st => (wI y ≤ wI x → xk_X9_hasRoomFor ct K R n 55 ls st σ k) ∧ (¬ (wI y ≤ wI x) → xk_X9_hasRoomFor ct K R n 51 ls st σ k)) := exS_step.trans rfl
theorem ev_X9_hasRoomFor_51 {ct : Nat → Bool} {K : Kt} {R : Option AV → Hp → Prop} {n : Nat} {ls : List (Option AV)} {st : List AV} {σ : Hp} {k : Nat × Nat} : xe_X9_hasRoomFor ct K R (n + 1) 51 ls st σ k = (xk_X9_hasRoomFor ct K R n 52 ls (vi (1) :: st) σ k) := exS_step.trans rfl
theorem ev_X9_hasRoomFor_52 {ct : Nat → Bool} {K : Kt} {R : Option AV → Hp → Prop} {n : Nat} {ls : List (Option AV)} {st : List AV} {σ : Hp} {k : Nat × Nat} : xe_X9_hasRoomFor ct K R (n + 1) 52 ls st σ k = (xk_X9_hasRoomFor ct K R n 56 ls st σ k) := exS_step.trans rfl
theorem ev_X9_hasRoomFor_55 {ct : Nat → Bool} {K : Kt} {R : Option AV → Hp → Prop} {n : Nat} {ls : List (Option AV)} {st : List AV} {σ : Hp} {k : Nat × Nat} : xe_X9_hasRoomFor ct K R (n + 1) 55 ls st σ k = (xk_X9_hasRoomFor ct K R n 56 ls (vi (0) :: st) σ k) := exS_step.trans rfl
theorem ev_X9_hasRoomFor_56 {ct : Nat → Bool} {K : Kt} {R : Option AV → Hp → Prop} {n : Nat} {ls : List (Option AV)} {st : List AV} {σ : Hp} {k : Nat × Nat} : xe_X9_hasRoomFor ct K R (n + 1) 56 ls st σ k = (oI st fun x st => st = [] ∧ (x = 0 ∨ x = 1) ∧ R (some (vi x)) σ) := exS_step.trans rfl
def M_X9_hasRoomFor : Md := (yX9_hasRoomFor, cX9_hasRoomFor, 3, (some FieldType.boolean), 4, 0, 0, 2, false, tb_X9_hasRoomFor, mt_X9_hasRoomFor)
theorem mm_X9_hasRoomFor : MMOK M_X9_hasRoomFor := ⟨by decide +kernel, tk_X9_hasRoomFor, mk_X9_hasRoomFor, rfl, fun h => by cases h⟩
theorem go_X9_hasRoomFor {Q : Option AV → Hp → Prop} {ct : Nat → Bool} {pc : Nat} {ls : List (Option AV)} {st : List AV} {σ : Hp} {k : Nat × Nat} (n : Nat) (h : xe_X9_hasRoomFor ct (Go M_X9_hasRoomFor Q) Q n pc ls st σ k) : Go M_X9_hasRoomFor Q pc ls st σ k := Go.exS mm_X9_hasRoomFor h

set_option maxRecDepth 20000 in
theorem c_X9_hasRoomFor : Ct yX9_hasRoomFor cX9_hasRoomFor 3 ((some FieldType.boolean)) 4 0 0 sp_X9_hasRoomFor := by
  refine Ct.go (M := M_X9_hasRoomFor) mm_X9_hasRoomFor fun av σ Q h0 => ?_
  obtain ⟨this, n, rfl, hk, h⟩ := el_X9_hasRoomFor h0
  clear h0
  refine ⟨Nat.le_of_ble_eq_true rfl, ?_⟩
  show Go M_X9_hasRoomFor Q 0 [some (vr this), some (vi n), none] [] σ (0, 0)
  obtain ⟨hL, hn, h⟩ := h
  unfold inR at hn
  have hN := hL.n
  have loop : ∀ (m : Nat) (i : Int), 0 ≤ i → i + m = (fI σ 1402 (fR σ 1000 this)) → (∀ j, 0 ≤ j → j < i → ¬ fI σ 300 ((lat σ (fR σ 1000 this) j)) = n) → Go M_X9_hasRoomFor Q 2 [some (vr this), some (vi n), some (vi i)] [] σ (0, 0) := by
    intro m
    induction m with
    | zero =>
      intro i h0 h1 hno
      by_cases c : (fI σ 1402 (fR σ 1000 this)) < 12
      · rw [b2i_t ⟨fun ⟨j, a, b, e⟩ => hno j a (by omega) e, c⟩] at h
        refine go_X9_hasRoomFor (ct := fun p => p == 13 || p == 55) 40 ?_
        simp only [oI, oL, oR, o1, lI, lL, lR, popN, catS, gv, stL, stL2, swt, cnd, spObj, List.getElem?_cons_zero, List.getElem?_cons_succ, List.getD_cons_zero, List.getD_cons_succ, List.set_cons_zero, List.set_cons_succ, List.nil_append, List.cons_append, Option.toList, Bool.or_false, Bool.false_or, Bool.or_true, Bool.true_or, Nat.reduceBEq, Nat.reduceAdd, Nat.reduceLT, Nat.reduceLeDiff, Int.reduceAdd, Int.reduceToNat, true_and, and_true, Fin.isValue, Fin.val_zero, Fin.val_one, Fin.val_two, Fin.reduceFinMk, eq_self, Int.reduceNeg, imp_self, Nat.reduceMul, Nat.le_refl, not_true_eq_false, not_false_eq_true, List.getElem?_nil, reduceCtorEq, true_or, or_true, Classical.not_not, implies_true, or_self, wI_0, wI_1, wI_m1, b2i_w, b2i_eq0, b2i_eq1, b2i_bool, nor_self, nx_pI, kd_pI, ln_pI, fI_pI, fL_pI, fR_pI, aI_pI, aL_pI, aR_pI, nx_pL, kd_pL, ln_pL, fI_pL, fL_pL, fR_pL, aI_pL, aL_pL, aR_pL, nx_pR, kd_pR, ln_pR, fI_pR, fL_pR, fR_pR, aI_pR, aL_pR, aR_pR, nx_qI, kd_qI, ln_qI, fI_qI, fL_qI, fR_qI, aI_qI, aL_qI, aR_qI, nx_qL, kd_qL, ln_qL, fI_qL, fL_qL, fR_qL, aI_qL, aL_qL, aR_qL, nx_qR, kd_qR, ln_qR, fI_qR, fL_qR, fR_qR, aI_qR, aL_qR, aR_qR, nx_mk, kd_mk, ln_mk, fI_mk, fL_mk, fR_mk, aI_mk, aL_mk, aR_mk, false_and, and_false, if_false, if_true, and_self, Int.reduceEq, Nat.reduceEqDiff, ite_self, MLay_pI, MLay_pL, MLay_qI, MLay_qL, ev_X9_hasRoomFor_0, ev_X9_hasRoomFor_1, ev_X9_hasRoomFor_2, ev_X9_hasRoomFor_3, ev_X9_hasRoomFor_4, ev_X9_hasRoomFor_7, ev_X9_hasRoomFor_10, ev_X9_hasRoomFor_13, ev_X9_hasRoomFor_14, ev_X9_hasRoomFor_17, ev_X9_hasRoomFor_18, ev_X9_hasRoomFor_21, ev_X9_hasRoomFor_24, ev_X9_hasRoomFor_27, ev_X9_hasRoomFor_28, ev_X9_hasRoomFor_31, ev_X9_hasRoomFor_32, ev_X9_hasRoomFor_33, ev_X9_hasRoomFor_36, ev_X9_hasRoomFor_39, ev_X9_hasRoomFor_40, ev_X9_hasRoomFor_43, ev_X9_hasRoomFor_46, ev_X9_hasRoomFor_48, ev_X9_hasRoomFor_51, ev_X9_hasRoomFor_52, ev_X9_hasRoomFor_55, ev_X9_hasRoomFor_56, xt_X9_hasRoomFor, xf_X9_hasRoomFor, us_Jx4a65c_size_8abf5, us_Jx4a65c_get_915e3, hk, hL.lk]
        try simp (disch := omega) only [wI_id, dv_nn, rm_nn]
        repeat' (first | intro z | apply And.intro)
        all_goals try omega
        all_goals try contradiction
        all_goals exact h
      · rw [b2i_f (fun z => c z.2)] at h
        refine go_X9_hasRoomFor (ct := fun p => p == 13 || p == 51) 40 ?_
        simp only [oI, oL, oR, o1, lI, lL, lR, popN, catS, gv, stL, stL2, swt, cnd, spObj, List.getElem?_cons_zero, List.getElem?_cons_succ, List.getD_cons_zero, List.getD_cons_succ, List.set_cons_zero, List.set_cons_succ, List.nil_append, List.cons_append, Option.toList, Bool.or_false, Bool.false_or, Bool.or_true, Bool.true_or, Nat.reduceBEq, Nat.reduceAdd, Nat.reduceLT, Nat.reduceLeDiff, Int.reduceAdd, Int.reduceToNat, true_and, and_true, Fin.isValue, Fin.val_zero, Fin.val_one, Fin.val_two, Fin.reduceFinMk, eq_self, Int.reduceNeg, imp_self, Nat.reduceMul, Nat.le_refl, not_true_eq_false, not_false_eq_true, List.getElem?_nil, reduceCtorEq, true_or, or_true, Classical.not_not, implies_true, or_self, wI_0, wI_1, wI_m1, b2i_w, b2i_eq0, b2i_eq1, b2i_bool, nor_self, nx_pI, kd_pI, ln_pI, fI_pI, fL_pI, fR_pI, aI_pI, aL_pI, aR_pI, nx_pL, kd_pL, ln_pL, fI_pL, fL_pL, fR_pL, aI_pL, aL_pL, aR_pL, nx_pR, kd_pR, ln_pR, fI_pR, fL_pR, fR_pR, aI_pR, aL_pR, aR_pR, nx_qI, kd_qI, ln_qI, fI_qI, fL_qI, fR_qI, aI_qI, aL_qI, aR_qI, nx_qL, kd_qL, ln_qL, fI_qL, fL_qL, fR_qL, aI_qL, aL_qL, aR_qL, nx_qR, kd_qR, ln_qR, fI_qR, fL_qR, fR_qR, aI_qR, aL_qR, aR_qR, nx_mk, kd_mk, ln_mk, fI_mk, fL_mk, fR_mk, aI_mk, aL_mk, aR_mk, false_and, and_false, if_false, if_true, and_self, Int.reduceEq, Nat.reduceEqDiff, ite_self, MLay_pI, MLay_pL, MLay_qI, MLay_qL, ev_X9_hasRoomFor_0, ev_X9_hasRoomFor_1, ev_X9_hasRoomFor_2, ev_X9_hasRoomFor_3, ev_X9_hasRoomFor_4, ev_X9_hasRoomFor_7, ev_X9_hasRoomFor_10, ev_X9_hasRoomFor_13, ev_X9_hasRoomFor_14, ev_X9_hasRoomFor_17, ev_X9_hasRoomFor_18, ev_X9_hasRoomFor_21, ev_X9_hasRoomFor_24, ev_X9_hasRoomFor_27, ev_X9_hasRoomFor_28, ev_X9_hasRoomFor_31, ev_X9_hasRoomFor_32, ev_X9_hasRoomFor_33, ev_X9_hasRoomFor_36, ev_X9_hasRoomFor_39, ev_X9_hasRoomFor_40, ev_X9_hasRoomFor_43, ev_X9_hasRoomFor_46, ev_X9_hasRoomFor_48, ev_X9_hasRoomFor_51, ev_X9_hasRoomFor_52, ev_X9_hasRoomFor_55, ev_X9_hasRoomFor_56, xt_X9_hasRoomFor, xf_X9_hasRoomFor, us_Jx4a65c_size_8abf5, us_Jx4a65c_get_915e3, hk, hL.lk]
        try simp (disch := omega) only [wI_id, dv_nn, rm_nn]
        repeat' (first | intro z | apply And.intro)
        all_goals try omega
        all_goals try contradiction
        all_goals exact h
    | succ m ih =>
      intro i h0 h1 hno
      have hb := hL.b h0 (by omega)
      have hbk := hb.1
      have hbn := hb.2.1
      by_cases e : fI σ 300 ((lat σ (fR σ 1000 this) i)) = n
      · rw [b2i_f (fun z => z.1 ⟨i, h0, by omega, e⟩)] at h
        clear ih
        refine go_X9_hasRoomFor (ct := fun p => p == 39 || p == 33) 40 ?_
        simp only [oI, oL, oR, o1, lI, lL, lR, popN, catS, gv, stL, stL2, swt, cnd, spObj, List.getElem?_cons_zero, List.getElem?_cons_succ, List.getD_cons_zero, List.getD_cons_succ, List.set_cons_zero, List.set_cons_succ, List.nil_append, List.cons_append, Option.toList, Bool.or_false, Bool.false_or, Bool.or_true, Bool.true_or, Nat.reduceBEq, Nat.reduceAdd, Nat.reduceLT, Nat.reduceLeDiff, Int.reduceAdd, Int.reduceToNat, true_and, and_true, Fin.isValue, Fin.val_zero, Fin.val_one, Fin.val_two, Fin.reduceFinMk, eq_self, Int.reduceNeg, imp_self, Nat.reduceMul, Nat.le_refl, not_true_eq_false, not_false_eq_true, List.getElem?_nil, reduceCtorEq, true_or, or_true, Classical.not_not, implies_true, or_self, wI_0, wI_1, wI_m1, b2i_w, b2i_eq0, b2i_eq1, b2i_bool, nor_self, nx_pI, kd_pI, ln_pI, fI_pI, fL_pI, fR_pI, aI_pI, aL_pI, aR_pI, nx_pL, kd_pL, ln_pL, fI_pL, fL_pL, fR_pL, aI_pL, aL_pL, aR_pL, nx_pR, kd_pR, ln_pR, fI_pR, fL_pR, fR_pR, aI_pR, aL_pR, aR_pR, nx_qI, kd_qI, ln_qI, fI_qI, fL_qI, fR_qI, aI_qI, aL_qI, aR_qI, nx_qL, kd_qL, ln_qL, fI_qL, fL_qL, fR_qL, aI_qL, aL_qL, aR_qL, nx_qR, kd_qR, ln_qR, fI_qR, fL_qR, fR_qR, aI_qR, aL_qR, aR_qR, nx_mk, kd_mk, ln_mk, fI_mk, fL_mk, fR_mk, aI_mk, aL_mk, aR_mk, false_and, and_false, if_false, if_true, and_self, Int.reduceEq, Nat.reduceEqDiff, ite_self, MLay_pI, MLay_pL, MLay_qI, MLay_qL, ev_X9_hasRoomFor_0, ev_X9_hasRoomFor_1, ev_X9_hasRoomFor_2, ev_X9_hasRoomFor_3, ev_X9_hasRoomFor_4, ev_X9_hasRoomFor_7, ev_X9_hasRoomFor_10, ev_X9_hasRoomFor_13, ev_X9_hasRoomFor_14, ev_X9_hasRoomFor_17, ev_X9_hasRoomFor_18, ev_X9_hasRoomFor_21, ev_X9_hasRoomFor_24, ev_X9_hasRoomFor_27, ev_X9_hasRoomFor_28, ev_X9_hasRoomFor_31, ev_X9_hasRoomFor_32, ev_X9_hasRoomFor_33, ev_X9_hasRoomFor_36, ev_X9_hasRoomFor_39, ev_X9_hasRoomFor_40, ev_X9_hasRoomFor_43, ev_X9_hasRoomFor_46, ev_X9_hasRoomFor_48, ev_X9_hasRoomFor_51, ev_X9_hasRoomFor_52, ev_X9_hasRoomFor_55, ev_X9_hasRoomFor_56, xt_X9_hasRoomFor, xf_X9_hasRoomFor, us_Jx4a65c_size_8abf5, us_Jx4a65c_get_915e3, hk, hL.lk, hL.le, hbk]
        try simp (disch := omega) only [wI_id, dv_nn, rm_nn]
        repeat' (first | intro z | apply And.intro)
        all_goals try omega
        all_goals try contradiction
        all_goals exact h
      · have w := ih (i + 1) (by omega) (by omega) (fun j a b => by
          by_cases e2 : j = i
          · rw [e2]; exact e
          · exact hno j a (by omega))
        clear h ih
        refine go_X9_hasRoomFor (ct := fun p => p == 39 || p == 31 || p == 2) 40 ?_
        simp only [oI, oL, oR, o1, lI, lL, lR, popN, catS, gv, stL, stL2, swt, cnd, spObj, List.getElem?_cons_zero, List.getElem?_cons_succ, List.getD_cons_zero, List.getD_cons_succ, List.set_cons_zero, List.set_cons_succ, List.nil_append, List.cons_append, Option.toList, Bool.or_false, Bool.false_or, Bool.or_true, Bool.true_or, Nat.reduceBEq, Nat.reduceAdd, Nat.reduceLT, Nat.reduceLeDiff, Int.reduceAdd, Int.reduceToNat, true_and, and_true, Fin.isValue, Fin.val_zero, Fin.val_one, Fin.val_two, Fin.reduceFinMk, eq_self, Int.reduceNeg, imp_self, Nat.reduceMul, Nat.le_refl, not_true_eq_false, not_false_eq_true, List.getElem?_nil, reduceCtorEq, true_or, or_true, Classical.not_not, implies_true, or_self, wI_0, wI_1, wI_m1, b2i_w, b2i_eq0, b2i_eq1, b2i_bool, nor_self, nx_pI, kd_pI, ln_pI, fI_pI, fL_pI, fR_pI, aI_pI, aL_pI, aR_pI, nx_pL, kd_pL, ln_pL, fI_pL, fL_pL, fR_pL, aI_pL, aL_pL, aR_pL, nx_pR, kd_pR, ln_pR, fI_pR, fL_pR, fR_pR, aI_pR, aL_pR, aR_pR, nx_qI, kd_qI, ln_qI, fI_qI, fL_qI, fR_qI, aI_qI, aL_qI, aR_qI, nx_qL, kd_qL, ln_qL, fI_qL, fL_qL, fR_qL, aI_qL, aL_qL, aR_qL, nx_qR, kd_qR, ln_qR, fI_qR, fL_qR, fR_qR, aI_qR, aL_qR, aR_qR, nx_mk, kd_mk, ln_mk, fI_mk, fL_mk, fR_mk, aI_mk, aL_mk, aR_mk, false_and, and_false, if_false, if_true, and_self, Int.reduceEq, Nat.reduceEqDiff, ite_self, MLay_pI, MLay_pL, MLay_qI, MLay_qL, ev_X9_hasRoomFor_0, ev_X9_hasRoomFor_1, ev_X9_hasRoomFor_2, ev_X9_hasRoomFor_3, ev_X9_hasRoomFor_4, ev_X9_hasRoomFor_7, ev_X9_hasRoomFor_10, ev_X9_hasRoomFor_13, ev_X9_hasRoomFor_14, ev_X9_hasRoomFor_17, ev_X9_hasRoomFor_18, ev_X9_hasRoomFor_21, ev_X9_hasRoomFor_24, ev_X9_hasRoomFor_27, ev_X9_hasRoomFor_28, ev_X9_hasRoomFor_31, ev_X9_hasRoomFor_32, ev_X9_hasRoomFor_33, ev_X9_hasRoomFor_36, ev_X9_hasRoomFor_39, ev_X9_hasRoomFor_40, ev_X9_hasRoomFor_43, ev_X9_hasRoomFor_46, ev_X9_hasRoomFor_48, ev_X9_hasRoomFor_51, ev_X9_hasRoomFor_52, ev_X9_hasRoomFor_55, ev_X9_hasRoomFor_56, xt_X9_hasRoomFor, xf_X9_hasRoomFor, us_Jx4a65c_size_8abf5, us_Jx4a65c_get_915e3, hk, hL.lk, hL.le, hbk]
        try simp (disch := omega) only [wI_id, dv_nn, rm_nn]
        repeat' (first | intro z | apply And.intro)
        all_goals try omega
        all_goals try contradiction
        all_goals exact w
  have w := loop ((fI σ 1402 (fR σ 1000 this))).toNat 0 (Int.le_refl 0) (by show 0 + _ = _; omega) (fun j a b => by omega)
  refine go_X9_hasRoomFor (ct := fun p => p == 2) 10 ?_
  simp only [oI, oL, oR, o1, lI, lL, lR, popN, catS, gv, stL, stL2, swt, cnd, spObj, List.getElem?_cons_zero, List.getElem?_cons_succ, List.getD_cons_zero, List.getD_cons_succ, List.set_cons_zero, List.set_cons_succ, List.nil_append, List.cons_append, Option.toList, Bool.or_false, Bool.false_or, Bool.or_true, Bool.true_or, Nat.reduceBEq, Nat.reduceAdd, Nat.reduceLT, Nat.reduceLeDiff, Int.reduceAdd, Int.reduceToNat, true_and, and_true, Fin.isValue, Fin.val_zero, Fin.val_one, Fin.val_two, Fin.reduceFinMk, eq_self, Int.reduceNeg, imp_self, Nat.reduceMul, Nat.le_refl, not_true_eq_false, not_false_eq_true, List.getElem?_nil, reduceCtorEq, true_or, or_true, Classical.not_not, implies_true, or_self, wI_0, wI_1, wI_m1, b2i_w, b2i_eq0, b2i_eq1, b2i_bool, nor_self, nx_pI, kd_pI, ln_pI, fI_pI, fL_pI, fR_pI, aI_pI, aL_pI, aR_pI, nx_pL, kd_pL, ln_pL, fI_pL, fL_pL, fR_pL, aI_pL, aL_pL, aR_pL, nx_pR, kd_pR, ln_pR, fI_pR, fL_pR, fR_pR, aI_pR, aL_pR, aR_pR, nx_qI, kd_qI, ln_qI, fI_qI, fL_qI, fR_qI, aI_qI, aL_qI, aR_qI, nx_qL, kd_qL, ln_qL, fI_qL, fL_qL, fR_qL, aI_qL, aL_qL, aR_qL, nx_qR, kd_qR, ln_qR, fI_qR, fL_qR, fR_qR, aI_qR, aL_qR, aR_qR, nx_mk, kd_mk, ln_mk, fI_mk, fL_mk, fR_mk, aI_mk, aL_mk, aR_mk, false_and, and_false, if_false, if_true, and_self, Int.reduceEq, Nat.reduceEqDiff, ite_self, MLay_pI, MLay_pL, MLay_qI, MLay_qL, ev_X9_hasRoomFor_0, ev_X9_hasRoomFor_1, xt_X9_hasRoomFor, xf_X9_hasRoomFor, us_Jx4a65c_size_8abf5, us_Jx4a65c_get_915e3]
  repeat' (first | intro z | apply And.intro)
  all_goals try omega
  all_goals try contradiction
  all_goals exact w

def cSil (σ : Hp) (q a : Int) : Prop := ¬ fI σ 1006 q = -1 ∧ fI σ 1006 q ≤ a ∧ a < fI σ 1007 q

def sp_X9_silences : Sp := fun av σ Q => oR av fun this av => oI av fun a av => av = [] ∧ kd σ this = 10 ∧ ((-1 ≤ fI σ 1006 this ∧ fI σ 1006 this ≤ 12) ∧ (-1 ≤ fI σ 1007 this ∧ fI σ 1007 this ≤ 12) ∧ (0 ≤ a ∧ a ≤ 100) ∧ Q (some (vi (b2i (cSil σ this a)))) σ)
theorem us_X9_silences (this : Int) (a : Int) (σ : Hp) (Q : Option AV → Hp → Prop) : sp_X9_silences [vr this, vi a] σ Q = (kd σ this = 10 ∧ ((-1 ≤ fI σ 1006 this ∧ fI σ 1006 this ≤ 12) ∧ (-1 ≤ fI σ 1007 this ∧ fI σ 1007 this ≤ 12) ∧ (0 ≤ a ∧ a ≤ 100) ∧ Q (some (vi (b2i (cSil σ this a)))) σ)) := propext ⟨fun h => h.2, fun h => ⟨rfl, h⟩⟩
theorem el_X9_silences {av : List AV} {σ : Hp} {Q : Option AV → Hp → Prop} (h : sp_X9_silences av σ Q) : ∃ (this : Int) (a : Int), av = [vr this, vi a] ∧ (kd σ this = 10 ∧ ((-1 ≤ fI σ 1006 this ∧ fI σ 1006 this ≤ 12) ∧ (-1 ≤ fI σ 1007 this ∧ fI σ 1007 this ≤ 12) ∧ (0 ≤ a ∧ a ≤ 100) ∧ Q (some (vi (b2i (cSil σ this a)))) σ)) := by
  obtain ⟨this, a0, rfl, h0⟩ := oR_s h
  obtain ⟨a, a1, rfl, h1⟩ := oI_s h0
  obtain ⟨rfl, hz⟩ := h1
  exact ⟨this, a, rfl, hz⟩
theorem rc_X9_silences : ∀ (av : List AV) (σ : Hp) (Q : Option AV → Hp → Prop), sp_X9_silences av σ Q → ∃ r tl, av = vr r :: tl ∧ kd σ r = 9 + 1 := fun av σ Q h => by
  obtain ⟨this, a, rfl, hz, -⟩ := el_X9_silences h
  exact ⟨this, _, rfl, hz⟩

def tb_X9_silences : Tab := [(0, .aload_n 0, 1, (0, 0, 0, 0)), (1, .getfield 36, 3, (10, 1006, 0, 0)), (4, .iconst (-1), 1, (0, 0, 0, 0)), (5, .if_icmp .eq 23, 3, (0, 0, 0, 0)), (8, .aload_n 0, 1, (0, 0, 0, 0)), (9, .getfield 36, 3, (10, 1006, 0, 0)), (12, .iload_n 1, 1, (0, 0, 0, 0)), (13, .if_icmp .gt 15, 3, (0, 0, 0, 0)), (16, .iload_n 1, 1, (0, 0, 0, 0)), (17, .aload_n 0, 1, (0, 0, 0, 0)), (18, .getfield 39, 3, (10, 1007, 0, 0)), (21, .if_icmp .ge 7, 3, (0, 0, 0, 0)), (24, .iconst 1, 1, (0, 0, 0, 0)), (25, .goto 4, 3, (0, 0, 0, 0)), (28, .iconst 0, 1, (0, 0, 0, 0)), (29, .ireturn, 1, (0, 0, 0, 0))]
set_option maxRecDepth 100000 in
theorem tk_X9_silences : TOK RX9 false cX9_silences tb_X9_silences := chkT_ok ft_X9 (by decide +kernel)
def mt_X9_silences : List (Nat × Mt) := []
theorem mk_X9_silences : MOK RX9 mt_X9_silences := fun q hq => by cases hq
noncomputable def xe_X9_silences (ct : Nat → Bool) (K : Kt) (R : Option AV → Hp → Prop) (n : Nat) : Kt := exS 2 1 0 0 2 tb_X9_silences mt_X9_silences ct K R n
noncomputable def xk_X9_silences (ct : Nat → Bool) (K : Kt) (R : Option AV → Hp → Prop) (n : Nat) : Kt := exkS 2 1 0 0 2 tb_X9_silences mt_X9_silences ct K R n
theorem xt_X9_silences {ct : Nat → Bool} {K : Kt} {R : Option AV → Hp → Prop} {n pc : Nat} {ls : List (Option AV)} {st : List AV} {σ : Hp} {k : Nat × Nat} (h : ct pc = true) : xk_X9_silences ct K R n pc ls st σ k = K pc ls st σ k := by unfold xk_X9_silences exkS; rw [h]
theorem xf_X9_silences {ct : Nat → Bool} {K : Kt} {R : Option AV → Hp → Prop} {n pc : Nat} {ls : List (Option AV)} {st : List AV} {σ : Hp} {k : Nat × Nat} (h : ct pc = false) : xk_X9_silences ct K R n pc ls st σ k = xe_X9_silences ct K R n pc ls st σ k := by unfold xk_X9_silences exkS xe_X9_silences; rw [h]
theorem ev_X9_silences_0 {ct : Nat → Bool} {K : Kt} {R : Option AV → Hp → Prop} {n : Nat} {ls : List (Option AV)} {st : List AV} {σ : Hp} {k : Nat × Nat} : xe_X9_silences ct K R (n + 1) 0 ls st σ k = (lR ls 0 fun x => xk_X9_silences ct K R n 1 ls (vr x :: st) σ k) := exS_step.trans rfl
theorem ev_X9_silences_1 {ct : Nat → Bool} {K : Kt} {R : Option AV → Hp → Prop} {n : Nat} {ls : List (Option AV)} {st : List AV} {σ : Hp} {k : Nat × Nat} : xe_X9_silences ct K R (n + 1) 1 ls st σ k = (oR st fun x st => kd σ x = 10 ∧ xk_X9_silences ct K R n 4 ls (vi (fI σ 1006 x) :: st) σ k) := exS_step.trans rfl
theorem ev_X9_silences_4 {ct : Nat → Bool} {K : Kt} {R : Option AV → Hp → Prop} {n : Nat} {ls : List (Option AV)} {st : List AV} {σ : Hp} {k : Nat × Nat} : xe_X9_silences ct K R (n + 1) 4 ls st σ k = (xk_X9_silences ct K R n 5 ls (vi (-1) :: st) σ k) := exS_step.trans rfl
theorem ev_X9_silences_5 {ct : Nat → Bool} {K : Kt} {R : Option AV → Hp → Prop} {n : Nat} {ls : List (Option AV)} {st : List AV} {σ : Hp} {k : Nat × Nat} : xe_X9_silences ct K R (n + 1) 5 ls st σ k = (oI st fun y st => oI st fun x st => (wI x = wI y → xk_X9_silences ct K R n 28 ls st σ k) ∧ (¬ (wI x = wI y) → xk_X9_silences ct K R n 8 ls st σ k)) := exS_step.trans rfl
theorem ev_X9_silences_8 {ct : Nat → Bool} {K : Kt} {R : Option AV → Hp → Prop} {n : Nat} {ls : List (Option AV)} {st : List AV} {σ : Hp} {k : Nat × Nat} : xe_X9_silences ct K R (n + 1) 8 ls st σ k = (lR ls 0 fun x => xk_X9_silences ct K R n 9 ls (vr x :: st) σ k) := exS_step.trans rfl
theorem ev_X9_silences_9 {ct : Nat → Bool} {K : Kt} {R : Option AV → Hp → Prop} {n : Nat} {ls : List (Option AV)} {st : List AV} {σ : Hp} {k : Nat × Nat} : xe_X9_silences ct K R (n + 1) 9 ls st σ k = (oR st fun x st => kd σ x = 10 ∧ xk_X9_silences ct K R n 12 ls (vi (fI σ 1006 x) :: st) σ k) := exS_step.trans rfl
theorem ev_X9_silences_12 {ct : Nat → Bool} {K : Kt} {R : Option AV → Hp → Prop} {n : Nat} {ls : List (Option AV)} {st : List AV} {σ : Hp} {k : Nat × Nat} : xe_X9_silences ct K R (n + 1) 12 ls st σ k = (lI ls 1 fun x => xk_X9_silences ct K R n 13 ls (vi x :: st) σ k) := exS_step.trans rfl
theorem ev_X9_silences_13 {ct : Nat → Bool} {K : Kt} {R : Option AV → Hp → Prop} {n : Nat} {ls : List (Option AV)} {st : List AV} {σ : Hp} {k : Nat × Nat} : xe_X9_silences ct K R (n + 1) 13 ls st σ k = (oI st fun y st => oI st fun x st => (wI y < wI x → xk_X9_silences ct K R n 28 ls st σ k) ∧ (¬ (wI y < wI x) → xk_X9_silences ct K R n 16 ls st σ k)) := exS_step.trans rfl
theorem ev_X9_silences_16 {ct : Nat → Bool} {K : Kt} {R : Option AV → Hp → Prop} {n : Nat} {ls : List (Option AV)} {st : List AV} {σ : Hp} {k : Nat × Nat} : xe_X9_silences ct K R (n + 1) 16 ls st σ k = (lI ls 1 fun x => xk_X9_silences ct K R n 17 ls (vi x :: st) σ k) := exS_step.trans rfl
theorem ev_X9_silences_17 {ct : Nat → Bool} {K : Kt} {R : Option AV → Hp → Prop} {n : Nat} {ls : List (Option AV)} {st : List AV} {σ : Hp} {k : Nat × Nat} : xe_X9_silences ct K R (n + 1) 17 ls st σ k = (lR ls 0 fun x => xk_X9_silences ct K R n 18 ls (vr x :: st) σ k) := exS_step.trans rfl
theorem ev_X9_silences_18 {ct : Nat → Bool} {K : Kt} {R : Option AV → Hp → Prop} {n : Nat} {ls : List (Option AV)} {st : List AV} {σ : Hp} {k : Nat × Nat} : xe_X9_silences ct K R (n + 1) 18 ls st σ k = (oR st fun x st => kd σ x = 10 ∧ xk_X9_silences ct K R n 21 ls (vi (fI σ 1007 x) :: st) σ k) := exS_step.trans rfl
theorem ev_X9_silences_21 {ct : Nat → Bool} {K : Kt} {R : Option AV → Hp → Prop} {n : Nat} {ls : List (Option AV)} {st : List AV} {σ : Hp} {k : Nat × Nat} : xe_X9_silences ct K R (n + 1) 21 ls st σ k = (oI st fun y st => oI st fun x st => (wI y ≤ wI x → xk_X9_silences ct K R n 28 ls st σ k) ∧ (¬ (wI y ≤ wI x) → xk_X9_silences ct K R n 24 ls st σ k)) := exS_step.trans rfl
theorem ev_X9_silences_24 {ct : Nat → Bool} {K : Kt} {R : Option AV → Hp → Prop} {n : Nat} {ls : List (Option AV)} {st : List AV} {σ : Hp} {k : Nat × Nat} : xe_X9_silences ct K R (n + 1) 24 ls st σ k = (xk_X9_silences ct K R n 25 ls (vi (1) :: st) σ k) := exS_step.trans rfl
theorem ev_X9_silences_25 {ct : Nat → Bool} {K : Kt} {R : Option AV → Hp → Prop} {n : Nat} {ls : List (Option AV)} {st : List AV} {σ : Hp} {k : Nat × Nat} : xe_X9_silences ct K R (n + 1) 25 ls st σ k = (xk_X9_silences ct K R n 29 ls st σ k) := exS_step.trans rfl
theorem ev_X9_silences_28 {ct : Nat → Bool} {K : Kt} {R : Option AV → Hp → Prop} {n : Nat} {ls : List (Option AV)} {st : List AV} {σ : Hp} {k : Nat × Nat} : xe_X9_silences ct K R (n + 1) 28 ls st σ k = (xk_X9_silences ct K R n 29 ls (vi (0) :: st) σ k) := exS_step.trans rfl
theorem ev_X9_silences_29 {ct : Nat → Bool} {K : Kt} {R : Option AV → Hp → Prop} {n : Nat} {ls : List (Option AV)} {st : List AV} {σ : Hp} {k : Nat × Nat} : xe_X9_silences ct K R (n + 1) 29 ls st σ k = (oI st fun x st => st = [] ∧ (x = 0 ∨ x = 1) ∧ R (some (vi x)) σ) := exS_step.trans rfl
def M_X9_silences : Md := (yX9_silences, cX9_silences, 2, (some FieldType.boolean), 1, 0, 0, 2, false, tb_X9_silences, mt_X9_silences)
theorem mm_X9_silences : MMOK M_X9_silences := ⟨by decide +kernel, tk_X9_silences, mk_X9_silences, rfl, fun h => by cases h⟩
theorem go_X9_silences {Q : Option AV → Hp → Prop} {ct : Nat → Bool} {pc : Nat} {ls : List (Option AV)} {st : List AV} {σ : Hp} {k : Nat × Nat} (n : Nat) (h : xe_X9_silences ct (Go M_X9_silences Q) Q n pc ls st σ k) : Go M_X9_silences Q pc ls st σ k := Go.exS mm_X9_silences h

set_option maxRecDepth 20000 in
theorem c_X9_silences : Ct yX9_silences cX9_silences 2 ((some FieldType.boolean)) 1 0 0 sp_X9_silences := by
  refine Ct.go (M := M_X9_silences) mm_X9_silences fun av σ Q h0 => ?_
  obtain ⟨this, a, rfl, hk, h⟩ := el_X9_silences h0
  clear h0
  refine ⟨Nat.le_of_ble_eq_true rfl, ?_⟩
  show Go M_X9_silences Q 0 [some (vr this), some (vi a)] [] σ (0, 0)
  obtain ⟨h1, h2, h3, h⟩ := h
  by_cases c : cSil σ this a
  · rw [b2i_t c] at h
    unfold cSil at c
    refine go_X9_silences (ct := fun p => p == 28) 40 ?_
    simp only [oI, oL, oR, o1, lI, lL, lR, popN, catS, gv, stL, stL2, swt, cnd, spObj, List.getElem?_cons_zero, List.getElem?_cons_succ, List.getD_cons_zero, List.getD_cons_succ, List.set_cons_zero, List.set_cons_succ, List.nil_append, List.cons_append, Option.toList, Bool.or_false, Bool.false_or, Bool.or_true, Bool.true_or, Nat.reduceBEq, Nat.reduceAdd, Nat.reduceLT, Nat.reduceLeDiff, Int.reduceAdd, Int.reduceToNat, true_and, and_true, Fin.isValue, Fin.val_zero, Fin.val_one, Fin.val_two, Fin.reduceFinMk, eq_self, Int.reduceNeg, imp_self, Nat.reduceMul, Nat.le_refl, not_true_eq_false, not_false_eq_true, List.getElem?_nil, reduceCtorEq, true_or, or_true, Classical.not_not, implies_true, or_self, wI_0, wI_1, wI_m1, b2i_w, b2i_eq0, b2i_eq1, b2i_bool, nor_self, nx_pI, kd_pI, ln_pI, fI_pI, fL_pI, fR_pI, aI_pI, aL_pI, aR_pI, nx_pL, kd_pL, ln_pL, fI_pL, fL_pL, fR_pL, aI_pL, aL_pL, aR_pL, nx_pR, kd_pR, ln_pR, fI_pR, fL_pR, fR_pR, aI_pR, aL_pR, aR_pR, nx_qI, kd_qI, ln_qI, fI_qI, fL_qI, fR_qI, aI_qI, aL_qI, aR_qI, nx_qL, kd_qL, ln_qL, fI_qL, fL_qL, fR_qL, aI_qL, aL_qL, aR_qL, nx_qR, kd_qR, ln_qR, fI_qR, fL_qR, fR_qR, aI_qR, aL_qR, aR_qR, nx_mk, kd_mk, ln_mk, fI_mk, fL_mk, fR_mk, aI_mk, aL_mk, aR_mk, false_and, and_false, if_false, if_true, and_self, Int.reduceEq, Nat.reduceEqDiff, ite_self, MLay_pI, MLay_pL, MLay_qI, MLay_qL, ev_X9_silences_0, ev_X9_silences_1, ev_X9_silences_4, ev_X9_silences_5, ev_X9_silences_8, ev_X9_silences_9, ev_X9_silences_12, ev_X9_silences_13, ev_X9_silences_16, ev_X9_silences_17, ev_X9_silences_18, ev_X9_silences_21, ev_X9_silences_24, ev_X9_silences_25, ev_X9_silences_28, ev_X9_silences_29, xt_X9_silences, xf_X9_silences, hk]
    try simp (disch := omega) only [wI_id, dv_nn, rm_nn]
    repeat' (first | intro z | apply And.intro)
    all_goals try omega
    all_goals try contradiction
    all_goals exact h
  · rw [b2i_f c] at h
    unfold cSil at c
    refine go_X9_silences (ct := fun p => p == 24) 40 ?_
    simp only [oI, oL, oR, o1, lI, lL, lR, popN, catS, gv, stL, stL2, swt, cnd, spObj, List.getElem?_cons_zero, List.getElem?_cons_succ, List.getD_cons_zero, List.getD_cons_succ, List.set_cons_zero, List.set_cons_succ, List.nil_append, List.cons_append, Option.toList, Bool.or_false, Bool.false_or, Bool.or_true, Bool.true_or, Nat.reduceBEq, Nat.reduceAdd, Nat.reduceLT, Nat.reduceLeDiff, Int.reduceAdd, Int.reduceToNat, true_and, and_true, Fin.isValue, Fin.val_zero, Fin.val_one, Fin.val_two, Fin.reduceFinMk, eq_self, Int.reduceNeg, imp_self, Nat.reduceMul, Nat.le_refl, not_true_eq_false, not_false_eq_true, List.getElem?_nil, reduceCtorEq, true_or, or_true, Classical.not_not, implies_true, or_self, wI_0, wI_1, wI_m1, b2i_w, b2i_eq0, b2i_eq1, b2i_bool, nor_self, nx_pI, kd_pI, ln_pI, fI_pI, fL_pI, fR_pI, aI_pI, aL_pI, aR_pI, nx_pL, kd_pL, ln_pL, fI_pL, fL_pL, fR_pL, aI_pL, aL_pL, aR_pL, nx_pR, kd_pR, ln_pR, fI_pR, fL_pR, fR_pR, aI_pR, aL_pR, aR_pR, nx_qI, kd_qI, ln_qI, fI_qI, fL_qI, fR_qI, aI_qI, aL_qI, aR_qI, nx_qL, kd_qL, ln_qL, fI_qL, fL_qL, fR_qL, aI_qL, aL_qL, aR_qL, nx_qR, kd_qR, ln_qR, fI_qR, fL_qR, fR_qR, aI_qR, aL_qR, aR_qR, nx_mk, kd_mk, ln_mk, fI_mk, fL_mk, fR_mk, aI_mk, aL_mk, aR_mk, false_and, and_false, if_false, if_true, and_self, Int.reduceEq, Nat.reduceEqDiff, ite_self, MLay_pI, MLay_pL, MLay_qI, MLay_qL, ev_X9_silences_0, ev_X9_silences_1, ev_X9_silences_4, ev_X9_silences_5, ev_X9_silences_8, ev_X9_silences_9, ev_X9_silences_12, ev_X9_silences_13, ev_X9_silences_16, ev_X9_silences_17, ev_X9_silences_18, ev_X9_silences_21, ev_X9_silences_24, ev_X9_silences_25, ev_X9_silences_28, ev_X9_silences_29, xt_X9_silences, xf_X9_silences, hk]
    try simp (disch := omega) only [wI_id, dv_nn, rm_nn]
    repeat' (first | intro z | apply And.intro)
    all_goals try omega
    all_goals try contradiction
    all_goals exact h

def sp_X9_countCuts : Sp := fun av σ Q => oR av fun this av => av = [] ∧ kd σ this = 10 ∧ (LpO σ this ∧ Q (some (vi (hwM (fun w => ¬ aI σ (fR σ 1001 this) w = 0) 13))) σ)
theorem us_X9_countCuts (this : Int) (σ : Hp) (Q : Option AV → Hp → Prop) : sp_X9_countCuts [vr this] σ Q = (kd σ this = 10 ∧ (LpO σ this ∧ Q (some (vi (hwM (fun w => ¬ aI σ (fR σ 1001 this) w = 0) 13))) σ)) := propext ⟨fun h => h.2, fun h => ⟨rfl, h⟩⟩
theorem el_X9_countCuts {av : List AV} {σ : Hp} {Q : Option AV → Hp → Prop} (h : sp_X9_countCuts av σ Q) : ∃ (this : Int), av = [vr this] ∧ (kd σ this = 10 ∧ (LpO σ this ∧ Q (some (vi (hwM (fun w => ¬ aI σ (fR σ 1001 this) w = 0) 13))) σ)) := by
  obtain ⟨this, a0, rfl, h0⟩ := oR_s h
  obtain ⟨rfl, hz⟩ := h0
  exact ⟨this, rfl, hz⟩
theorem rc_X9_countCuts : ∀ (av : List AV) (σ : Hp) (Q : Option AV → Hp → Prop), sp_X9_countCuts av σ Q → ∃ r tl, av = vr r :: tl ∧ kd σ r = 9 + 1 := fun av σ Q h => by
  obtain ⟨this, rfl, hz, -⟩ := el_X9_countCuts h
  exact ⟨this, _, rfl, hz⟩

def tb_X9_countCuts : Tab := [(0, .iconst 0, 1, (0, 0, 0, 0)), (1, .istore_n 1, 1, (0, 0, 0, 0)), (2, .iconst 0, 1, (0, 0, 0, 0)), (3, .istore_n 2, 1, (0, 0, 0, 0)), (4, .iload_n 2, 1, (0, 0, 0, 0)), (5, .aload_n 0, 1, (0, 0, 0, 0)), (6, .getfield 18, 3, (10, 1001, 2, 0)), (9, .arraylength, 1, (0, 0, 0, 0)), (10, .if_icmp .ge 26, 3, (0, 0, 0, 0)), (13, .iload_n 1, 1, (0, 0, 0, 0)), (14, .aload_n 0, 1, (0, 0, 0, 0)), (15, .getfield 18, 3, (10, 1001, 2, 0)), (18, .iload_n 2, 1, (0, 0, 0, 0)), (19, .baload, 1, (0, 0, 0, 0)), (20, .ifCond .eq 7, 3, (0, 0, 0, 0)), (23, .iconst 1, 1, (0, 0, 0, 0)), (24, .goto 4, 3, (0, 0, 0, 0)), (27, .iconst 0, 1, (0, 0, 0, 0)), (28, .iadd, 1, (0, 0, 0, 0)), (29, .istore_n 1, 1, (0, 0, 0, 0)), (30, .iinc 2 1, 3, (0, 0, 0, 0)), (33, .goto (-29), 3, (0, 0, 0, 0)), (36, .iload_n 1, 1, (0, 0, 0, 0)), (37, .ireturn, 1, (0, 0, 0, 0))]
set_option maxRecDepth 100000 in
theorem tk_X9_countCuts : TOK RX9 false cX9_countCuts tb_X9_countCuts := chkT_ok ft_X9 (by decide +kernel)
def mt_X9_countCuts : List (Nat × Mt) := []
theorem mk_X9_countCuts : MOK RX9 mt_X9_countCuts := fun q hq => by cases hq
noncomputable def xe_X9_countCuts (ct : Nat → Bool) (K : Kt) (R : Option AV → Hp → Prop) (n : Nat) : Kt := exS 3 1 0 0 1 tb_X9_countCuts mt_X9_countCuts ct K R n
noncomputable def xk_X9_countCuts (ct : Nat → Bool) (K : Kt) (R : Option AV → Hp → Prop) (n : Nat) : Kt := exkS 3 1 0 0 1 tb_X9_countCuts mt_X9_countCuts ct K R n
theorem xt_X9_countCuts {ct : Nat → Bool} {K : Kt} {R : Option AV → Hp → Prop} {n pc : Nat} {ls : List (Option AV)} {st : List AV} {σ : Hp} {k : Nat × Nat} (h : ct pc = true) : xk_X9_countCuts ct K R n pc ls st σ k = K pc ls st σ k := by unfold xk_X9_countCuts exkS; rw [h]
theorem xf_X9_countCuts {ct : Nat → Bool} {K : Kt} {R : Option AV → Hp → Prop} {n pc : Nat} {ls : List (Option AV)} {st : List AV} {σ : Hp} {k : Nat × Nat} (h : ct pc = false) : xk_X9_countCuts ct K R n pc ls st σ k = xe_X9_countCuts ct K R n pc ls st σ k := by unfold xk_X9_countCuts exkS xe_X9_countCuts; rw [h]
theorem ev_X9_countCuts_0 {ct : Nat → Bool} {K : Kt} {R : Option AV → Hp → Prop} {n : Nat} {ls : List (Option AV)} {st : List AV} {σ : Hp} {k : Nat × Nat} : xe_X9_countCuts ct K R (n + 1) 0 ls st σ k = (xk_X9_countCuts ct K R n 1 ls (vi (0) :: st) σ k) := exS_step.trans rfl
theorem ev_X9_countCuts_1 {ct : Nat → Bool} {K : Kt} {R : Option AV → Hp → Prop} {n : Nat} {ls : List (Option AV)} {st : List AV} {σ : Hp} {k : Nat × Nat} : xe_X9_countCuts ct K R (n + 1) 1 ls st σ k = (oI st fun x st => 1 < 3 ∧ xk_X9_countCuts ct K R n 2 (stL ls 1 (vi x)) st σ k) := exS_step.trans rfl
theorem ev_X9_countCuts_2 {ct : Nat → Bool} {K : Kt} {R : Option AV → Hp → Prop} {n : Nat} {ls : List (Option AV)} {st : List AV} {σ : Hp} {k : Nat × Nat} : xe_X9_countCuts ct K R (n + 1) 2 ls st σ k = (xk_X9_countCuts ct K R n 3 ls (vi (0) :: st) σ k) := exS_step.trans rfl
theorem ev_X9_countCuts_3 {ct : Nat → Bool} {K : Kt} {R : Option AV → Hp → Prop} {n : Nat} {ls : List (Option AV)} {st : List AV} {σ : Hp} {k : Nat × Nat} : xe_X9_countCuts ct K R (n + 1) 3 ls st σ k = (oI st fun x st => 2 < 3 ∧ xk_X9_countCuts ct K R n 4 (stL ls 2 (vi x)) st σ k) := exS_step.trans rfl
theorem ev_X9_countCuts_4 {ct : Nat → Bool} {K : Kt} {R : Option AV → Hp → Prop} {n : Nat} {ls : List (Option AV)} {st : List AV} {σ : Hp} {k : Nat × Nat} : xe_X9_countCuts ct K R (n + 1) 4 ls st σ k = (lI ls 2 fun x => xk_X9_countCuts ct K R n 5 ls (vi x :: st) σ k) := exS_step.trans rfl
theorem ev_X9_countCuts_5 {ct : Nat → Bool} {K : Kt} {R : Option AV → Hp → Prop} {n : Nat} {ls : List (Option AV)} {st : List AV} {σ : Hp} {k : Nat × Nat} : xe_X9_countCuts ct K R (n + 1) 5 ls st σ k = (lR ls 0 fun x => xk_X9_countCuts ct K R n 6 ls (vr x :: st) σ k) := exS_step.trans rfl
theorem ev_X9_countCuts_6 {ct : Nat → Bool} {K : Kt} {R : Option AV → Hp → Prop} {n : Nat} {ls : List (Option AV)} {st : List AV} {σ : Hp} {k : Nat × Nat} : xe_X9_countCuts ct K R (n + 1) 6 ls st σ k = (oR st fun x st => kd σ x = 10 ∧ xk_X9_countCuts ct K R n 9 ls (vr (fR σ 1001 x) :: st) σ k) := exS_step.trans rfl
theorem ev_X9_countCuts_9 {ct : Nat → Bool} {K : Kt} {R : Option AV → Hp → Prop} {n : Nat} {ls : List (Option AV)} {st : List AV} {σ : Hp} {k : Nat × Nat} : xe_X9_countCuts ct K R (n + 1) 9 ls st σ k = (oR st fun x st => (101 ≤ kd σ x ∨ kd σ x = 21) ∧ xk_X9_countCuts ct K R n 10 ls (vi (ln σ x) :: st) σ k) := exS_step.trans rfl
theorem ev_X9_countCuts_10 {ct : Nat → Bool} {K : Kt} {R : Option AV → Hp → Prop} {n : Nat} {ls : List (Option AV)} {st : List AV} {σ : Hp} {k : Nat × Nat} : xe_X9_countCuts ct K R (n + 1) 10 ls st σ k = (oI st fun y st => oI st fun x st => (wI y ≤ wI x → xk_X9_countCuts ct K R n 36 ls st σ k) ∧ (¬ (wI y ≤ wI x) → xk_X9_countCuts ct K R n 13 ls st σ k)) := exS_step.trans rfl
theorem ev_X9_countCuts_13 {ct : Nat → Bool} {K : Kt} {R : Option AV → Hp → Prop} {n : Nat} {ls : List (Option AV)} {st : List AV} {σ : Hp} {k : Nat × Nat} : xe_X9_countCuts ct K R (n + 1) 13 ls st σ k = (lI ls 1 fun x => xk_X9_countCuts ct K R n 14 ls (vi x :: st) σ k) := exS_step.trans rfl
theorem ev_X9_countCuts_14 {ct : Nat → Bool} {K : Kt} {R : Option AV → Hp → Prop} {n : Nat} {ls : List (Option AV)} {st : List AV} {σ : Hp} {k : Nat × Nat} : xe_X9_countCuts ct K R (n + 1) 14 ls st σ k = (lR ls 0 fun x => xk_X9_countCuts ct K R n 15 ls (vr x :: st) σ k) := exS_step.trans rfl
theorem ev_X9_countCuts_15 {ct : Nat → Bool} {K : Kt} {R : Option AV → Hp → Prop} {n : Nat} {ls : List (Option AV)} {st : List AV} {σ : Hp} {k : Nat × Nat} : xe_X9_countCuts ct K R (n + 1) 15 ls st σ k = (oR st fun x st => kd σ x = 10 ∧ xk_X9_countCuts ct K R n 18 ls (vr (fR σ 1001 x) :: st) σ k) := exS_step.trans rfl
theorem ev_X9_countCuts_18 {ct : Nat → Bool} {K : Kt} {R : Option AV → Hp → Prop} {n : Nat} {ls : List (Option AV)} {st : List AV} {σ : Hp} {k : Nat × Nat} : xe_X9_countCuts ct K R (n + 1) 18 ls st σ k = (lI ls 2 fun x => xk_X9_countCuts ct K R n 19 ls (vi x :: st) σ k) := exS_step.trans rfl
theorem ev_X9_countCuts_19 {ct : Nat → Bool} {K : Kt} {R : Option AV → Hp → Prop} {n : Nat} {ls : List (Option AV)} {st : List AV} {σ : Hp} {k : Nat × Nat} : xe_X9_countCuts ct K R (n + 1) 19 ls st σ k = (oI st fun j st => oR st fun x st => (kd σ x = 103 ∨ kd σ x = 21) ∧ (0 ≤ j ∧ j < ln σ x) ∧ xk_X9_countCuts ct K R n 20 ls (vi (aI σ x j) :: st) σ k) := exS_step.trans rfl
theorem ev_X9_countCuts_20 {ct : Nat → Bool} {K : Kt} {R : Option AV → Hp → Prop} {n : Nat} {ls : List (Option AV)} {st : List AV} {σ : Hp} {k : Nat × Nat} : xe_X9_countCuts ct K R (n + 1) 20 ls st σ k = (oI st fun x st => (wI x = wI 0 → xk_X9_countCuts ct K R n 27 ls st σ k) ∧ (¬ (wI x = wI 0) → xk_X9_countCuts ct K R n 23 ls st σ k)) := exS_step.trans rfl
theorem ev_X9_countCuts_23 {ct : Nat → Bool} {K : Kt} {R : Option AV → Hp → Prop} {n : Nat} {ls : List (Option AV)} {st : List AV} {σ : Hp} {k : Nat × Nat} : xe_X9_countCuts ct K R (n + 1) 23 ls st σ k = (xk_X9_countCuts ct K R n 24 ls (vi (1) :: st) σ k) := exS_step.trans rfl
theorem ev_X9_countCuts_24 {ct : Nat → Bool} {K : Kt} {R : Option AV → Hp → Prop} {n : Nat} {ls : List (Option AV)} {st : List AV} {σ : Hp} {k : Nat × Nat} : xe_X9_countCuts ct K R (n + 1) 24 ls st σ k = (xk_X9_countCuts ct K R n 28 ls st σ k) := exS_step.trans rfl
theorem ev_X9_countCuts_27 {ct : Nat → Bool} {K : Kt} {R : Option AV → Hp → Prop} {n : Nat} {ls : List (Option AV)} {st : List AV} {σ : Hp} {k : Nat × Nat} : xe_X9_countCuts ct K R (n + 1) 27 ls st σ k = (xk_X9_countCuts ct K R n 28 ls (vi (0) :: st) σ k) := exS_step.trans rfl
theorem ev_X9_countCuts_28 {ct : Nat → Bool} {K : Kt} {R : Option AV → Hp → Prop} {n : Nat} {ls : List (Option AV)} {st : List AV} {σ : Hp} {k : Nat × Nat} : xe_X9_countCuts ct K R (n + 1) 28 ls st σ k = (oI st fun y st => oI st fun x st => xk_X9_countCuts ct K R n 29 ls (vi (x + y) :: st) σ k) := exS_step.trans rfl
theorem ev_X9_countCuts_29 {ct : Nat → Bool} {K : Kt} {R : Option AV → Hp → Prop} {n : Nat} {ls : List (Option AV)} {st : List AV} {σ : Hp} {k : Nat × Nat} : xe_X9_countCuts ct K R (n + 1) 29 ls st σ k = (oI st fun x st => 1 < 3 ∧ xk_X9_countCuts ct K R n 30 (stL ls 1 (vi x)) st σ k) := exS_step.trans rfl
theorem ev_X9_countCuts_30 {ct : Nat → Bool} {K : Kt} {R : Option AV → Hp → Prop} {n : Nat} {ls : List (Option AV)} {st : List AV} {σ : Hp} {k : Nat × Nat} : xe_X9_countCuts ct K R (n + 1) 30 ls st σ k = (lI ls 2 fun x => 2 < 3 ∧ xk_X9_countCuts ct K R n 33 (stL ls 2 (vi (x + (1)))) st σ k) := exS_step.trans rfl
theorem ev_X9_countCuts_33 {ct : Nat → Bool} {K : Kt} {R : Option AV → Hp → Prop} {n : Nat} {ls : List (Option AV)} {st : List AV} {σ : Hp} {k : Nat × Nat} : xe_X9_countCuts ct K R (n + 1) 33 ls st σ k = (xk_X9_countCuts ct K R n 4 ls st σ k) := exS_step.trans rfl
theorem ev_X9_countCuts_36 {ct : Nat → Bool} {K : Kt} {R : Option AV → Hp → Prop} {n : Nat} {ls : List (Option AV)} {st : List AV} {σ : Hp} {k : Nat × Nat} : xe_X9_countCuts ct K R (n + 1) 36 ls st σ k = (lI ls 1 fun x => xk_X9_countCuts ct K R n 37 ls (vi x :: st) σ k) := exS_step.trans rfl
theorem ev_X9_countCuts_37 {ct : Nat → Bool} {K : Kt} {R : Option AV → Hp → Prop} {n : Nat} {ls : List (Option AV)} {st : List AV} {σ : Hp} {k : Nat × Nat} : xe_X9_countCuts ct K R (n + 1) 37 ls st σ k = (oI st fun x st => st = [] ∧ True ∧ R (some (vi x)) σ) := exS_step.trans rfl
def M_X9_countCuts : Md := (yX9_countCuts, cX9_countCuts, 3, (some FieldType.int), 1, 0, 0, 1, false, tb_X9_countCuts, mt_X9_countCuts)
theorem mm_X9_countCuts : MMOK M_X9_countCuts := ⟨by decide +kernel, tk_X9_countCuts, mk_X9_countCuts, rfl, fun h => by cases h⟩
theorem go_X9_countCuts {Q : Option AV → Hp → Prop} {ct : Nat → Bool} {pc : Nat} {ls : List (Option AV)} {st : List AV} {σ : Hp} {k : Nat × Nat} (n : Nat) (h : xe_X9_countCuts ct (Go M_X9_countCuts Q) Q n pc ls st σ k) : Go M_X9_countCuts Q pc ls st σ k := Go.exS mm_X9_countCuts h

set_option maxRecDepth 20000 in
theorem c_X9_countCuts : Ct yX9_countCuts cX9_countCuts 3 ((some FieldType.int)) 1 0 0 sp_X9_countCuts := by
  refine Ct.go (M := M_X9_countCuts) mm_X9_countCuts fun av σ Q h0 => ?_
  obtain ⟨this, rfl, hk, h⟩ := el_X9_countCuts h0
  clear h0
  refine ⟨Nat.le_of_ble_eq_true rfl, ?_⟩
  show Go M_X9_countCuts Q 0 [some (vr this), none, none] [] σ (0, 0)
  obtain ⟨hL, h⟩ := h
  obtain ⟨l1, -, -, -, ⟨l5, l6⟩, -, l8, -⟩ := hL
  have loop : ∀ (m k : Nat), k + m = 13 → Go M_X9_countCuts Q 4 [some (vr this), some (vi (hwM (fun w => ¬ aI σ (fR σ 1001 this) w = 0) k)), some (vi k)] [] σ (0, 0) := by
    intro m
    induction m with
    | zero =>
      intro k hk2
      have e : k = 13 := by omega
      subst e
      have h : Go M_X9_countCuts Q 36 [some (vr this), some (vi (hwM (fun w => ¬ aI σ (fR σ 1001 this) w = 0) 13)), some (vi (13 : Nat))] [] σ (0, 0) := by
        refine go_X9_countCuts (ct := fun p => p == 0) 40 ?_
        simp only [oI, oL, oR, o1, lI, lL, lR, popN, catS, gv, stL, stL2, swt, cnd, spObj, List.getElem?_cons_zero, List.getElem?_cons_succ, List.getD_cons_zero, List.getD_cons_succ, List.set_cons_zero, List.set_cons_succ, List.nil_append, List.cons_append, Option.toList, Bool.or_false, Bool.false_or, Bool.or_true, Bool.true_or, Nat.reduceBEq, Nat.reduceAdd, Nat.reduceLT, Nat.reduceLeDiff, Int.reduceAdd, Int.reduceToNat, true_and, and_true, Fin.isValue, Fin.val_zero, Fin.val_one, Fin.val_two, Fin.reduceFinMk, eq_self, Int.reduceNeg, imp_self, Nat.reduceMul, Nat.le_refl, not_true_eq_false, not_false_eq_true, List.getElem?_nil, reduceCtorEq, true_or, or_true, Classical.not_not, implies_true, or_self, wI_0, wI_1, wI_m1, b2i_w, b2i_eq0, b2i_eq1, b2i_bool, nor_self, nx_pI, kd_pI, ln_pI, fI_pI, fL_pI, fR_pI, aI_pI, aL_pI, aR_pI, nx_pL, kd_pL, ln_pL, fI_pL, fL_pL, fR_pL, aI_pL, aL_pL, aR_pL, nx_pR, kd_pR, ln_pR, fI_pR, fL_pR, fR_pR, aI_pR, aL_pR, aR_pR, nx_qI, kd_qI, ln_qI, fI_qI, fL_qI, fR_qI, aI_qI, aL_qI, aR_qI, nx_qL, kd_qL, ln_qL, fI_qL, fL_qL, fR_qL, aI_qL, aL_qL, aR_qL, nx_qR, kd_qR, ln_qR, fI_qR, fL_qR, fR_qR, aI_qR, aL_qR, aR_qR, nx_mk, kd_mk, ln_mk, fI_mk, fL_mk, fR_mk, aI_mk, aL_mk, aR_mk, false_and, and_false, if_false, if_true, and_self, Int.reduceEq, Nat.reduceEqDiff, ite_self, MLay_pI, MLay_pL, MLay_qI, MLay_qL, ev_X9_countCuts_36, ev_X9_countCuts_37, xt_X9_countCuts, xf_X9_countCuts]
        exact h
      refine go_X9_countCuts (ct := fun p => p == 36 || p == 13) 40 ?_
      simp only [oI, oL, oR, o1, lI, lL, lR, popN, catS, gv, stL, stL2, swt, cnd, spObj, List.getElem?_cons_zero, List.getElem?_cons_succ, List.getD_cons_zero, List.getD_cons_succ, List.set_cons_zero, List.set_cons_succ, List.nil_append, List.cons_append, Option.toList, Bool.or_false, Bool.false_or, Bool.or_true, Bool.true_or, Nat.reduceBEq, Nat.reduceAdd, Nat.reduceLT, Nat.reduceLeDiff, Int.reduceAdd, Int.reduceToNat, true_and, and_true, Fin.isValue, Fin.val_zero, Fin.val_one, Fin.val_two, Fin.reduceFinMk, eq_self, Int.reduceNeg, imp_self, Nat.reduceMul, Nat.le_refl, not_true_eq_false, not_false_eq_true, List.getElem?_nil, reduceCtorEq, true_or, or_true, Classical.not_not, implies_true, or_self, wI_0, wI_1, wI_m1, b2i_w, b2i_eq0, b2i_eq1, b2i_bool, nor_self, nx_pI, kd_pI, ln_pI, fI_pI, fL_pI, fR_pI, aI_pI, aL_pI, aR_pI, nx_pL, kd_pL, ln_pL, fI_pL, fL_pL, fR_pL, aI_pL, aL_pL, aR_pL, nx_pR, kd_pR, ln_pR, fI_pR, fL_pR, fR_pR, aI_pR, aL_pR, aR_pR, nx_qI, kd_qI, ln_qI, fI_qI, fL_qI, fR_qI, aI_qI, aL_qI, aR_qI, nx_qL, kd_qL, ln_qL, fI_qL, fL_qL, fR_qL, aI_qL, aL_qL, aR_qL, nx_qR, kd_qR, ln_qR, fI_qR, fL_qR, fR_qR, aI_qR, aL_qR, aR_qR, nx_mk, kd_mk, ln_mk, fI_mk, fL_mk, fR_mk, aI_mk, aL_mk, aR_mk, false_and, and_false, if_false, if_true, and_self, Int.reduceEq, Nat.reduceEqDiff, ite_self, MLay_pI, MLay_pL, MLay_qI, MLay_qL, ev_X9_countCuts_4, ev_X9_countCuts_5, ev_X9_countCuts_6, ev_X9_countCuts_9, ev_X9_countCuts_10, xt_X9_countCuts, xf_X9_countCuts, hk, l5, l6]
      try simp (disch := omega) only [wI_id, dv_nn, rm_nn]
      exact ⟨fun _ => h, fun z => absurd z (by omega)⟩
    | succ m ih =>
      intro k hk2
      have ih := ih (k + 1) (by omega)
      have l8 := l8 k
      refine go_X9_countCuts (ct := fun p => p == 36 || p == 4) 40 ?_
      simp only [oI, oL, oR, o1, lI, lL, lR, popN, catS, gv, stL, stL2, swt, cnd, spObj, List.getElem?_cons_zero, List.getElem?_cons_succ, List.getD_cons_zero, List.getD_cons_succ, List.set_cons_zero, List.set_cons_succ, List.nil_append, List.cons_append, Option.toList, Bool.or_false, Bool.false_or, Bool.or_true, Bool.true_or, Nat.reduceBEq, Nat.reduceAdd, Nat.reduceLT, Nat.reduceLeDiff, Int.reduceAdd, Int.reduceToNat, true_and, and_true, Fin.isValue, Fin.val_zero, Fin.val_one, Fin.val_two, Fin.reduceFinMk, eq_self, Int.reduceNeg, imp_self, Nat.reduceMul, Nat.le_refl, not_true_eq_false, not_false_eq_true, List.getElem?_nil, reduceCtorEq, true_or, or_true, Classical.not_not, implies_true, or_self, wI_0, wI_1, wI_m1, b2i_w, b2i_eq0, b2i_eq1, b2i_bool, nor_self, nx_pI, kd_pI, ln_pI, fI_pI, fL_pI, fR_pI, aI_pI, aL_pI, aR_pI, nx_pL, kd_pL, ln_pL, fI_pL, fL_pL, fR_pL, aI_pL, aL_pL, aR_pL, nx_pR, kd_pR, ln_pR, fI_pR, fL_pR, fR_pR, aI_pR, aL_pR, aR_pR, nx_qI, kd_qI, ln_qI, fI_qI, fL_qI, fR_qI, aI_qI, aL_qI, aR_qI, nx_qL, kd_qL, ln_qL, fI_qL, fL_qL, fR_qL, aI_qL, aL_qL, aR_qL, nx_qR, kd_qR, ln_qR, fI_qR, fL_qR, fR_qR, aI_qR, aL_qR, aR_qR, nx_mk, kd_mk, ln_mk, fI_mk, fL_mk, fR_mk, aI_mk, aL_mk, aR_mk, false_and, and_false, if_false, if_true, and_self, Int.reduceEq, Nat.reduceEqDiff, ite_self, MLay_pI, MLay_pL, MLay_qI, MLay_qL, ev_X9_countCuts_0, ev_X9_countCuts_1, ev_X9_countCuts_2, ev_X9_countCuts_3, ev_X9_countCuts_4, ev_X9_countCuts_5, ev_X9_countCuts_6, ev_X9_countCuts_9, ev_X9_countCuts_10, ev_X9_countCuts_13, ev_X9_countCuts_14, ev_X9_countCuts_15, ev_X9_countCuts_18, ev_X9_countCuts_19, ev_X9_countCuts_20, ev_X9_countCuts_23, ev_X9_countCuts_24, ev_X9_countCuts_27, ev_X9_countCuts_28, ev_X9_countCuts_29, ev_X9_countCuts_30, ev_X9_countCuts_33, ev_X9_countCuts_36, ev_X9_countCuts_37, xt_X9_countCuts, xf_X9_countCuts, hk, l5, l6]
      try simp (disch := omega) only [wI_id, dv_nn, rm_nn]
      repeat' (first | intro z | apply And.intro)
      all_goals try omega
      all_goals try contradiction
      · rw [hwM_f (by omega)] at ih; rw [Int.add_zero]; exact ih
      · rw [hwM_t (by omega)] at ih; exact ih
  refine go_X9_countCuts (ct := fun p => p == 4) 40 ?_
  simp only [oI, oL, oR, o1, lI, lL, lR, popN, catS, gv, stL, stL2, swt, cnd, spObj, List.getElem?_cons_zero, List.getElem?_cons_succ, List.getD_cons_zero, List.getD_cons_succ, List.set_cons_zero, List.set_cons_succ, List.nil_append, List.cons_append, Option.toList, Bool.or_false, Bool.false_or, Bool.or_true, Bool.true_or, Nat.reduceBEq, Nat.reduceAdd, Nat.reduceLT, Nat.reduceLeDiff, Int.reduceAdd, Int.reduceToNat, true_and, and_true, Fin.isValue, Fin.val_zero, Fin.val_one, Fin.val_two, Fin.reduceFinMk, eq_self, Int.reduceNeg, imp_self, Nat.reduceMul, Nat.le_refl, not_true_eq_false, not_false_eq_true, List.getElem?_nil, reduceCtorEq, true_or, or_true, Classical.not_not, implies_true, or_self, wI_0, wI_1, wI_m1, b2i_w, b2i_eq0, b2i_eq1, b2i_bool, nor_self, nx_pI, kd_pI, ln_pI, fI_pI, fL_pI, fR_pI, aI_pI, aL_pI, aR_pI, nx_pL, kd_pL, ln_pL, fI_pL, fL_pL, fR_pL, aI_pL, aL_pL, aR_pL, nx_pR, kd_pR, ln_pR, fI_pR, fL_pR, fR_pR, aI_pR, aL_pR, aR_pR, nx_qI, kd_qI, ln_qI, fI_qI, fL_qI, fR_qI, aI_qI, aL_qI, aR_qI, nx_qL, kd_qL, ln_qL, fI_qL, fL_qL, fR_qL, aI_qL, aL_qL, aR_qL, nx_qR, kd_qR, ln_qR, fI_qR, fL_qR, fR_qR, aI_qR, aL_qR, aR_qR, nx_mk, kd_mk, ln_mk, fI_mk, fL_mk, fR_mk, aI_mk, aL_mk, aR_mk, false_and, and_false, if_false, if_true, and_self, Int.reduceEq, Nat.reduceEqDiff, ite_self, MLay_pI, MLay_pL, MLay_qI, MLay_qL, ev_X9_countCuts_0, ev_X9_countCuts_1, ev_X9_countCuts_2, ev_X9_countCuts_3, xt_X9_countCuts, xf_X9_countCuts]
  exact loop 13 0 (by omega)

/-- the first and the last wire cut, of the first n -/
def CutE (σ : Hp) (q n f l : Int) : Prop := (f = -1 ∧ l = -1 ∧ ∀ w, 0 ≤ w → w < n → aI σ (fR σ 1001 q) w = 0) ∨ ((0 ≤ f ∧ f ≤ l ∧ l < n) ∧ ¬ aI σ (fR σ 1001 q) f = 0 ∧ ¬ aI σ (fR σ 1001 q) l = 0 ∧ (∀ w, 0 ≤ w → w < f → aI σ (fR σ 1001 q) w = 0) ∧ ∀ w, l < w → w < n → aI σ (fR σ 1001 q) w = 0)
def E2 (σ : Hp) (q f l : Int) : Hp := pI (pI σ 1006 q f) 1007 q l
theorem pI_2 (σ : Hp) (f : Nat) (k a b : Int) : pI (pI σ f k a) f k b = pI σ f k b := by
  have e : uf (uf (fI σ) f k a) f k b = uf (fI σ) f k b := by
    funext g j
    unfold uf
    by_cases c : g = f ∧ j = k
    · rw [if_pos c, if_pos c]
    · rw [if_neg c, if_neg c, if_neg c]
  show (nx σ, kd σ, ln σ, uf (uf (fI σ) f k a) f k b, fL σ, fR σ, aI σ, aL σ, aR σ) = _
  rw [e]; rfl
theorem pI_c (σ : Hp) {f g : Nat} (k j a b : Int) (h : ¬ f = g) : pI (pI σ f k a) g j b = pI (pI σ g j b) f k a := by
  have e : uf (uf (fI σ) f k a) g j b = uf (uf (fI σ) g j b) f k a := by
    funext x y
    unfold uf
    by_cases c : x = f ∧ y = k
    · rw [if_neg (show ¬ (x = g ∧ y = j) from fun z => h (by rw [← c.1, ← z.1])), if_pos c, if_pos c]
    · rw [if_neg c, if_neg c]
  show (nx σ, kd σ, ln σ, uf (uf (fI σ) f k a) g j b, fL σ, fR σ, aI σ, aL σ, aR σ) = _
  rw [e]; rfl
theorem E2_f (σ : Hp) (q f l a : Int) : pI (E2 σ q f l) 1006 q a = E2 σ q a l := by
  unfold E2
  rw [pI_c _ _ _ _ _ (by decide), pI_2]
theorem E2_l (σ : Hp) (q f l a : Int) : pI (E2 σ q f l) 1007 q a = E2 σ q f a := by
  unfold E2
  rw [pI_2]
theorem E2_id {σ : Hp} {q f l : Int} (h1 : fI σ 1006 q = f) (h2 : fI σ 1007 q = l) : True := trivial
theorem kd_E2 (σ : Hp) (q f l : Int) : kd (E2 σ q f l) = kd σ := Eq.trans rfl rfl
theorem ln_E2 (σ : Hp) (q f l : Int) : ln (E2 σ q f l) = ln σ := Eq.trans rfl rfl
theorem fR_E2 (σ : Hp) (q f l : Int) : fR (E2 σ q f l) = fR σ := Eq.trans rfl rfl
theorem aI_E2 (σ : Hp) (q f l : Int) : aI (E2 σ q f l) = aI σ := Eq.trans rfl rfl
theorem ff_E2 (σ : Hp) (q f l : Int) : fI (E2 σ q f l) 1006 q = f := by
  unfold E2; rw [fI_pI, if_neg (fun z => absurd z.1 (by decide)), fI_pI, if_pos ⟨rfl, rfl⟩]

def sp_X9_findEnds : Sp := fun av σ Q => oR av fun this av => av = [] ∧ kd σ this = 10 ∧ ((kd σ (fR σ 1001 this) = 103 ∧ ln σ (fR σ 1001 this) = 13) ∧ (∀ w, 0 ≤ aI σ (fR σ 1001 this) w ∧ aI σ (fR σ 1001 this) w ≤ 1) ∧ (∀ f l, CutE σ this 13 f l → Q none (E2 σ this f l)))
theorem us_X9_findEnds (this : Int) (σ : Hp) (Q : Option AV → Hp → Prop) : sp_X9_findEnds [vr this] σ Q = (kd σ this = 10 ∧ ((kd σ (fR σ 1001 this) = 103 ∧ ln σ (fR σ 1001 this) = 13) ∧ (∀ w, 0 ≤ aI σ (fR σ 1001 this) w ∧ aI σ (fR σ 1001 this) w ≤ 1) ∧ (∀ f l, CutE σ this 13 f l → Q none (E2 σ this f l)))) := propext ⟨fun h => h.2, fun h => ⟨rfl, h⟩⟩
theorem el_X9_findEnds {av : List AV} {σ : Hp} {Q : Option AV → Hp → Prop} (h : sp_X9_findEnds av σ Q) : ∃ (this : Int), av = [vr this] ∧ (kd σ this = 10 ∧ ((kd σ (fR σ 1001 this) = 103 ∧ ln σ (fR σ 1001 this) = 13) ∧ (∀ w, 0 ≤ aI σ (fR σ 1001 this) w ∧ aI σ (fR σ 1001 this) w ≤ 1) ∧ (∀ f l, CutE σ this 13 f l → Q none (E2 σ this f l)))) := by
  obtain ⟨this, a0, rfl, h0⟩ := oR_s h
  obtain ⟨rfl, hz⟩ := h0
  exact ⟨this, rfl, hz⟩
theorem rc_X9_findEnds : ∀ (av : List AV) (σ : Hp) (Q : Option AV → Hp → Prop), sp_X9_findEnds av σ Q → ∃ r tl, av = vr r :: tl ∧ kd σ r = 9 + 1 := fun av σ Q h => by
  obtain ⟨this, rfl, hz, -⟩ := el_X9_findEnds h
  exact ⟨this, _, rfl, hz⟩

def tb_X9_findEnds : Tab := [(0, .aload_n 0, 1, (0, 0, 0, 0)), (1, .iconst (-1), 1, (0, 0, 0, 0)), (2, .putfield 36, 3, (10, 1006, 0, 0)), (5, .aload_n 0, 1, (0, 0, 0, 0)), (6, .iconst (-1), 1, (0, 0, 0, 0)), (7, .putfield 39, 3, (10, 1007, 0, 0)), (10, .iconst 0, 1, (0, 0, 0, 0)), (11, .istore_n 1, 1, (0, 0, 0, 0)), (12, .iload_n 1, 1, (0, 0, 0, 0)), (13, .aload_n 0, 1, (0, 0, 0, 0)), (14, .getfield 18, 3, (10, 1001, 2, 0)), (17, .arraylength, 1, (0, 0, 0, 0)), (18, .if_icmp .ge 43, 3, (0, 0, 0, 0)), (21, .aload_n 0, 1, (0, 0, 0, 0)), (22, .getfield 18, 3, (10, 1001, 2, 0)), (25, .iload_n 1, 1, (0, 0, 0, 0)), (26, .baload, 1, (0, 0, 0, 0)), (27, .ifCond .eq 28, 3, (0, 0, 0, 0)), (30, .aload_n 0, 1, (0, 0, 0, 0)), (31, .aload_n 0, 1, (0, 0, 0, 0)), (32, .getfield 36, 3, (10, 1006, 0, 0)), (35, .iconst (-1), 1, (0, 0, 0, 0)), (36, .if_icmp .ne 7, 3, (0, 0, 0, 0)), (39, .iload_n 1, 1, (0, 0, 0, 0)), (40, .goto 7, 3, (0, 0, 0, 0)), (43, .aload_n 0, 1, (0, 0, 0, 0)), (44, .getfield 36, 3, (10, 1006, 0, 0)), (47, .putfield 36, 3, (10, 1006, 0, 0)), (50, .aload_n 0, 1, (0, 0, 0, 0)), (51, .iload_n 1, 1, (0, 0, 0, 0)), (52, .putfield 39, 3, (10, 1007, 0, 0)), (55, .iinc 1 1, 3, (0, 0, 0, 0)), (58, .goto (-46), 3, (0, 0, 0, 0)), (61, .return_, 1, (0, 0, 0, 0))]
set_option maxRecDepth 100000 in
theorem tk_X9_findEnds : TOK RX9 false cX9_findEnds tb_X9_findEnds := chkT_ok ft_X9 (by decide +kernel)
def mt_X9_findEnds : List (Nat × Mt) := []
theorem mk_X9_findEnds : MOK RX9 mt_X9_findEnds := fun q hq => by cases hq
noncomputable def xe_X9_findEnds (ct : Nat → Bool) (K : Kt) (R : Option AV → Hp → Prop) (n : Nat) : Kt := exS 2 1 0 0 0 tb_X9_findEnds mt_X9_findEnds ct K R n
noncomputable def xk_X9_findEnds (ct : Nat → Bool) (K : Kt) (R : Option AV → Hp → Prop) (n : Nat) : Kt := exkS 2 1 0 0 0 tb_X9_findEnds mt_X9_findEnds ct K R n
theorem xt_X9_findEnds {ct : Nat → Bool} {K : Kt} {R : Option AV → Hp → Prop} {n pc : Nat} {ls : List (Option AV)} {st : List AV} {σ : Hp} {k : Nat × Nat} (h : ct pc = true) : xk_X9_findEnds ct K R n pc ls st σ k = K pc ls st σ k := by unfold xk_X9_findEnds exkS; rw [h]
theorem xf_X9_findEnds {ct : Nat → Bool} {K : Kt} {R : Option AV → Hp → Prop} {n pc : Nat} {ls : List (Option AV)} {st : List AV} {σ : Hp} {k : Nat × Nat} (h : ct pc = false) : xk_X9_findEnds ct K R n pc ls st σ k = xe_X9_findEnds ct K R n pc ls st σ k := by unfold xk_X9_findEnds exkS xe_X9_findEnds; rw [h]
theorem ev_X9_findEnds_0 {ct : Nat → Bool} {K : Kt} {R : Option AV → Hp → Prop} {n : Nat} {ls : List (Option AV)} {st : List AV} {σ : Hp} {k : Nat × Nat} : xe_X9_findEnds ct K R (n + 1) 0 ls st σ k = (lR ls 0 fun x => xk_X9_findEnds ct K R n 1 ls (vr x :: st) σ k) := exS_step.trans rfl
theorem ev_X9_findEnds_1 {ct : Nat → Bool} {K : Kt} {R : Option AV → Hp → Prop} {n : Nat} {ls : List (Option AV)} {st : List AV} {σ : Hp} {k : Nat × Nat} : xe_X9_findEnds ct K R (n + 1) 1 ls st σ k = (xk_X9_findEnds ct K R n 2 ls (vi (-1) :: st) σ k) := exS_step.trans rfl
theorem ev_X9_findEnds_2 {ct : Nat → Bool} {K : Kt} {R : Option AV → Hp → Prop} {n : Nat} {ls : List (Option AV)} {st : List AV} {σ : Hp} {k : Nat × Nat} : xe_X9_findEnds ct K R (n + 1) 2 ls st σ k = (oI st fun v st => oR st fun x st => kd σ x = 10 ∧ xk_X9_findEnds ct K R n 5 ls st (pI σ 1006 x v) k) := exS_step.trans rfl
theorem ev_X9_findEnds_5 {ct : Nat → Bool} {K : Kt} {R : Option AV → Hp → Prop} {n : Nat} {ls : List (Option AV)} {st : List AV} {σ : Hp} {k : Nat × Nat} : xe_X9_findEnds ct K R (n + 1) 5 ls st σ k = (lR ls 0 fun x => xk_X9_findEnds ct K R n 6 ls (vr x :: st) σ k) := exS_step.trans rfl
theorem ev_X9_findEnds_6 {ct : Nat → Bool} {K : Kt} {R : Option AV → Hp → Prop} {n : Nat} {ls : List (Option AV)} {st : List AV} {σ : Hp} {k : Nat × Nat} : xe_X9_findEnds ct K R (n + 1) 6 ls st σ k = (xk_X9_findEnds ct K R n 7 ls (vi (-1) :: st) σ k) := exS_step.trans rfl
theorem ev_X9_findEnds_7 {ct : Nat → Bool} {K : Kt} {R : Option AV → Hp → Prop} {n : Nat} {ls : List (Option AV)} {st : List AV} {σ : Hp} {k : Nat × Nat} : xe_X9_findEnds ct K R (n + 1) 7 ls st σ k = (oI st fun v st => oR st fun x st => kd σ x = 10 ∧ xk_X9_findEnds ct K R n 10 ls st (pI σ 1007 x v) k) := exS_step.trans rfl
theorem ev_X9_findEnds_10 {ct : Nat → Bool} {K : Kt} {R : Option AV → Hp → Prop} {n : Nat} {ls : List (Option AV)} {st : List AV} {σ : Hp} {k : Nat × Nat} : xe_X9_findEnds ct K R (n + 1) 10 ls st σ k = (xk_X9_findEnds ct K R n 11 ls (vi (0) :: st) σ k) := exS_step.trans rfl
theorem ev_X9_findEnds_11 {ct : Nat → Bool} {K : Kt} {R : Option AV → Hp → Prop} {n : Nat} {ls : List (Option AV)} {st : List AV} {σ : Hp} {k : Nat × Nat} : xe_X9_findEnds ct K R (n + 1) 11 ls st σ k = (oI st fun x st => 1 < 2 ∧ xk_X9_findEnds ct K R n 12 (stL ls 1 (vi x)) st σ k) := exS_step.trans rfl
theorem ev_X9_findEnds_12 {ct : Nat → Bool} {K : Kt} {R : Option AV → Hp → Prop} {n : Nat} {ls : List (Option AV)} {st : List AV} {σ : Hp} {k : Nat × Nat} : xe_X9_findEnds ct K R (n + 1) 12 ls st σ k = (lI ls 1 fun x => xk_X9_findEnds ct K R n 13 ls (vi x :: st) σ k) := exS_step.trans rfl
theorem ev_X9_findEnds_13 {ct : Nat → Bool} {K : Kt} {R : Option AV → Hp → Prop} {n : Nat} {ls : List (Option AV)} {st : List AV} {σ : Hp} {k : Nat × Nat} : xe_X9_findEnds ct K R (n + 1) 13 ls st σ k = (lR ls 0 fun x => xk_X9_findEnds ct K R n 14 ls (vr x :: st) σ k) := exS_step.trans rfl
theorem ev_X9_findEnds_14 {ct : Nat → Bool} {K : Kt} {R : Option AV → Hp → Prop} {n : Nat} {ls : List (Option AV)} {st : List AV} {σ : Hp} {k : Nat × Nat} : xe_X9_findEnds ct K R (n + 1) 14 ls st σ k = (oR st fun x st => kd σ x = 10 ∧ xk_X9_findEnds ct K R n 17 ls (vr (fR σ 1001 x) :: st) σ k) := exS_step.trans rfl
theorem ev_X9_findEnds_17 {ct : Nat → Bool} {K : Kt} {R : Option AV → Hp → Prop} {n : Nat} {ls : List (Option AV)} {st : List AV} {σ : Hp} {k : Nat × Nat} : xe_X9_findEnds ct K R (n + 1) 17 ls st σ k = (oR st fun x st => (101 ≤ kd σ x ∨ kd σ x = 21) ∧ xk_X9_findEnds ct K R n 18 ls (vi (ln σ x) :: st) σ k) := exS_step.trans rfl
theorem ev_X9_findEnds_18 {ct : Nat → Bool} {K : Kt} {R : Option AV → Hp → Prop} {n : Nat} {ls : List (Option AV)} {st : List AV} {σ : Hp} {k : Nat × Nat} : xe_X9_findEnds ct K R (n + 1) 18 ls st σ k = (oI st fun y st => oI st fun x st => (wI y ≤ wI x → xk_X9_findEnds ct K R n 61 ls st σ k) ∧ (¬ (wI y ≤ wI x) → xk_X9_findEnds ct K R n 21 ls st σ k)) := exS_step.trans rfl
theorem ev_X9_findEnds_21 {ct : Nat → Bool} {K : Kt} {R : Option AV → Hp → Prop} {n : Nat} {ls : List (Option AV)} {st : List AV} {σ : Hp} {k : Nat × Nat} : xe_X9_findEnds ct K R (n + 1) 21 ls st σ k = (lR ls 0 fun x => xk_X9_findEnds ct K R n 22 ls (vr x :: st) σ k) := exS_step.trans rfl
theorem ev_X9_findEnds_22 {ct : Nat → Bool} {K : Kt} {R : Option AV → Hp → Prop} {n : Nat} {ls : List (Option AV)} {st : List AV} {σ : Hp} {k : Nat × Nat} : xe_X9_findEnds ct K R (n + 1) 22 ls st σ k = (oR st fun x st => kd σ x = 10 ∧ xk_X9_findEnds ct K R n 25 ls (vr (fR σ 1001 x) :: st) σ k) := exS_step.trans rfl
theorem ev_X9_findEnds_25 {ct : Nat → Bool} {K : Kt} {R : Option AV → Hp → Prop} {n : Nat} {ls : List (Option AV)} {st : List AV} {σ : Hp} {k : Nat × Nat} : xe_X9_findEnds ct K R (n + 1) 25 ls st σ k = (lI ls 1 fun x => xk_X9_findEnds ct K R n 26 ls (vi x :: st) σ k) := exS_step.trans rfl
theorem ev_X9_findEnds_26 {ct : Nat → Bool} {K : Kt} {R : Option AV → Hp → Prop} {n : Nat} {ls : List (Option AV)} {st : List AV} {σ : Hp} {k : Nat × Nat} : xe_X9_findEnds ct K R (n + 1) 26 ls st σ k = (oI st fun j st => oR st fun x st => (kd σ x = 103 ∨ kd σ x = 21) ∧ (0 ≤ j ∧ j < ln σ x) ∧ xk_X9_findEnds ct K R n 27 ls (vi (aI σ x j) :: st) σ k) := exS_step.trans rfl
theorem ev_X9_findEnds_27 {ct : Nat → Bool} {K : Kt} {R : Option AV → Hp → Prop} {n : Nat} {ls : List (Option AV)} {st : List AV} {σ : Hp} {k : Nat × Nat} : xe_X9_findEnds ct K R (n + 1) 27 ls st σ k = (oI st fun x st => (wI x = wI 0 → xk_X9_findEnds ct K R n 55 ls st σ k) ∧ (¬ (wI x = wI 0) → xk_X9_findEnds ct K R n 30 ls st σ k)) := exS_step.trans rfl
theorem ev_X9_findEnds_30 {ct : Nat → Bool} {K : Kt} {R : Option AV → Hp → Prop} {n : Nat} {ls : List (Option AV)} {st : List AV} {σ : Hp} {k : Nat × Nat} : xe_X9_findEnds ct K R (n + 1) 30 ls st σ k = (lR ls 0 fun x => xk_X9_findEnds ct K R n 31 ls (vr x :: st) σ k) := exS_step.trans rfl
theorem ev_X9_findEnds_31 {ct : Nat → Bool} {K : Kt} {R : Option AV → Hp → Prop} {n : Nat} {ls : List (Option AV)} {st : List AV} {σ : Hp} {k : Nat × Nat} : xe_X9_findEnds ct K R (n + 1) 31 ls st σ k = (lR ls 0 fun x => xk_X9_findEnds ct K R n 32 ls (vr x :: st) σ k) := exS_step.trans rfl
theorem ev_X9_findEnds_32 {ct : Nat → Bool} {K : Kt} {R : Option AV → Hp → Prop} {n : Nat} {ls : List (Option AV)} {st : List AV} {σ : Hp} {k : Nat × Nat} : xe_X9_findEnds ct K R (n + 1) 32 ls st σ k = (oR st fun x st => kd σ x = 10 ∧ xk_X9_findEnds ct K R n 35 ls (vi (fI σ 1006 x) :: st) σ k) := exS_step.trans rfl
theorem ev_X9_findEnds_35 {ct : Nat → Bool} {K : Kt} {R : Option AV → Hp → Prop} {n : Nat} {ls : List (Option AV)} {st : List AV} {σ : Hp} {k : Nat × Nat} : xe_X9_findEnds ct K R (n + 1) 35 ls st σ k = (xk_X9_findEnds ct K R n 36 ls (vi (-1) :: st) σ k) := exS_step.trans rfl
theorem ev_X9_findEnds_36 {ct : Nat → Bool} {K : Kt} {R : Option AV → Hp → Prop} {n : Nat} {ls : List (Option AV)} {st : List AV} {σ : Hp} {k : Nat × Nat} : xe_X9_findEnds ct K R (n + 1) 36 ls st σ k = (oI st fun y st => oI st fun x st => (¬ wI x = wI y → xk_X9_findEnds ct K R n 43 ls st σ k) ∧ (¬ (¬ wI x = wI y) → xk_X9_findEnds ct K R n 39 ls st σ k)) := exS_step.trans rfl
theorem ev_X9_findEnds_39 {ct : Nat → Bool} {K : Kt} {R : Option AV → Hp → Prop} {n : Nat} {ls : List (Option AV)} {st : List AV} {σ : Hp} {k : Nat × Nat} : xe_X9_findEnds ct K R (n + 1) 39 ls st σ k = (lI ls 1 fun x => xk_X9_findEnds ct K R n 40 ls (vi x :: st) σ k) := exS_step.trans rfl
theorem ev_X9_findEnds_40 {ct : Nat → Bool} {K : Kt} {R : Option AV → Hp → Prop} {n : Nat} {ls : List (Option AV)} {st : List AV} {σ : Hp} {k : Nat × Nat} : xe_X9_findEnds ct K R (n + 1) 40 ls st σ k = (xk_X9_findEnds ct K R n 47 ls st σ k) := exS_step.trans rfl
theorem ev_X9_findEnds_43 {ct : Nat → Bool} {K : Kt} {R : Option AV → Hp → Prop} {n : Nat} {ls : List (Option AV)} {st : List AV} {σ : Hp} {k : Nat × Nat} : xe_X9_findEnds ct K R (n + 1) 43 ls st σ k = (lR ls 0 fun x => xk_X9_findEnds ct K R n 44 ls (vr x :: st) σ k) := exS_step.trans rfl
theorem ev_X9_findEnds_44 {ct : Nat → Bool} {K : Kt} {R : Option AV → Hp → Prop} {n : Nat} {ls : List (Option AV)} {st : List AV} {σ : Hp} {k : Nat × Nat} : xe_X9_findEnds ct K R (n + 1) 44 ls st σ k = (oR st fun x st => kd σ x = 10 ∧ xk_X9_findEnds ct K R n 47 ls (vi (fI σ 1006 x) :: st) σ k) := exS_step.trans rfl
theorem ev_X9_findEnds_47 {ct : Nat → Bool} {K : Kt} {R : Option AV → Hp → Prop} {n : Nat} {ls : List (Option AV)} {st : List AV} {σ : Hp} {k : Nat × Nat} : xe_X9_findEnds ct K R (n + 1) 47 ls st σ k = (oI st fun v st => oR st fun x st => kd σ x = 10 ∧ xk_X9_findEnds ct K R n 50 ls st (pI σ 1006 x v) k) := exS_step.trans rfl
theorem ev_X9_findEnds_50 {ct : Nat → Bool} {K : Kt} {R : Option AV → Hp → Prop} {n : Nat} {ls : List (Option AV)} {st : List AV} {σ : Hp} {k : Nat × Nat} : xe_X9_findEnds ct K R (n + 1) 50 ls st σ k = (lR ls 0 fun x => xk_X9_findEnds ct K R n 51 ls (vr x :: st) σ k) := exS_step.trans rfl
theorem ev_X9_findEnds_51 {ct : Nat → Bool} {K : Kt} {R : Option AV → Hp → Prop} {n : Nat} {ls : List (Option AV)} {st : List AV} {σ : Hp} {k : Nat × Nat} : xe_X9_findEnds ct K R (n + 1) 51 ls st σ k = (lI ls 1 fun x => xk_X9_findEnds ct K R n 52 ls (vi x :: st) σ k) := exS_step.trans rfl
theorem ev_X9_findEnds_52 {ct : Nat → Bool} {K : Kt} {R : Option AV → Hp → Prop} {n : Nat} {ls : List (Option AV)} {st : List AV} {σ : Hp} {k : Nat × Nat} : xe_X9_findEnds ct K R (n + 1) 52 ls st σ k = (oI st fun v st => oR st fun x st => kd σ x = 10 ∧ xk_X9_findEnds ct K R n 55 ls st (pI σ 1007 x v) k) := exS_step.trans rfl
theorem ev_X9_findEnds_55 {ct : Nat → Bool} {K : Kt} {R : Option AV → Hp → Prop} {n : Nat} {ls : List (Option AV)} {st : List AV} {σ : Hp} {k : Nat × Nat} : xe_X9_findEnds ct K R (n + 1) 55 ls st σ k = (lI ls 1 fun x => 1 < 2 ∧ xk_X9_findEnds ct K R n 58 (stL ls 1 (vi (x + (1)))) st σ k) := exS_step.trans rfl
theorem ev_X9_findEnds_58 {ct : Nat → Bool} {K : Kt} {R : Option AV → Hp → Prop} {n : Nat} {ls : List (Option AV)} {st : List AV} {σ : Hp} {k : Nat × Nat} : xe_X9_findEnds ct K R (n + 1) 58 ls st σ k = (xk_X9_findEnds ct K R n 12 ls st σ k) := exS_step.trans rfl
theorem ev_X9_findEnds_61 {ct : Nat → Bool} {K : Kt} {R : Option AV → Hp → Prop} {n : Nat} {ls : List (Option AV)} {st : List AV} {σ : Hp} {k : Nat × Nat} : xe_X9_findEnds ct K R (n + 1) 61 ls st σ k = (st = [] ∧ 0 = 0 ∧ R none σ) := exS_step.trans rfl
def M_X9_findEnds : Md := (yX9_findEnds, cX9_findEnds, 2, (none : Option FieldType), 1, 0, 0, 0, false, tb_X9_findEnds, mt_X9_findEnds)
theorem mm_X9_findEnds : MMOK M_X9_findEnds := ⟨by decide +kernel, tk_X9_findEnds, mk_X9_findEnds, rfl, fun h => by cases h⟩
theorem go_X9_findEnds {Q : Option AV → Hp → Prop} {ct : Nat → Bool} {pc : Nat} {ls : List (Option AV)} {st : List AV} {σ : Hp} {k : Nat × Nat} (n : Nat) (h : xe_X9_findEnds ct (Go M_X9_findEnds Q) Q n pc ls st σ k) : Go M_X9_findEnds Q pc ls st σ k := Go.exS mm_X9_findEnds h

set_option maxRecDepth 20000 in
theorem c_X9_findEnds : Ct yX9_findEnds cX9_findEnds 2 ((none : Option FieldType)) 1 0 0 sp_X9_findEnds := by
  refine Ct.go (M := M_X9_findEnds) mm_X9_findEnds fun av σ Q h0 => ?_
  obtain ⟨this, rfl, hk, h⟩ := el_X9_findEnds h0
  clear h0
  refine ⟨Nat.le_of_ble_eq_true rfl, ?_⟩
  show Go M_X9_findEnds Q 0 [some (vr this), none] [] σ (0, 0)
  obtain ⟨⟨l5, l6⟩, l8, h⟩ := h
  have loop : ∀ (m : Nat) (i f l : Int), 0 ≤ i → i + m = 13 → CutE σ this i f l → Go M_X9_findEnds Q 12 [some (vr this), some (vi i)] [] (E2 σ this f l) (0, 0) := by
    intro m
    induction m with
    | zero =>
      intro i f l h0 h1 hc
      have e : i = 13 := by omega
      subst e
      have h := h f l hc
      refine go_X9_findEnds (ct := fun p => p == 21) 40 ?_
      simp only [oI, oL, oR, o1, lI, lL, lR, popN, catS, gv, stL, stL2, swt, cnd, spObj, List.getElem?_cons_zero, List.getElem?_cons_succ, List.getD_cons_zero, List.getD_cons_succ, List.set_cons_zero, List.set_cons_succ, List.nil_append, List.cons_append, Option.toList, Bool.or_false, Bool.false_or, Bool.or_true, Bool.true_or, Nat.reduceBEq, Nat.reduceAdd, Nat.reduceLT, Nat.reduceLeDiff, Int.reduceAdd, Int.reduceToNat, true_and, and_true, Fin.isValue, Fin.val_zero, Fin.val_one, Fin.val_two, Fin.reduceFinMk, eq_self, Int.reduceNeg, imp_self, Nat.reduceMul, Nat.le_refl, not_true_eq_false, not_false_eq_true, List.getElem?_nil, reduceCtorEq, true_or, or_true, Classical.not_not, implies_true, or_self, wI_0, wI_1, wI_m1, b2i_w, b2i_eq0, b2i_eq1, b2i_bool, nor_self, nx_pI, kd_pI, ln_pI, fI_pI, fL_pI, fR_pI, aI_pI, aL_pI, aR_pI, nx_pL, kd_pL, ln_pL, fI_pL, fL_pL, fR_pL, aI_pL, aL_pL, aR_pL, nx_pR, kd_pR, ln_pR, fI_pR, fL_pR, fR_pR, aI_pR, aL_pR, aR_pR, nx_qI, kd_qI, ln_qI, fI_qI, fL_qI, fR_qI, aI_qI, aL_qI, aR_qI, nx_qL, kd_qL, ln_qL, fI_qL, fL_qL, fR_qL, aI_qL, aL_qL, aR_qL, nx_qR, kd_qR, ln_qR, fI_qR, fL_qR, fR_qR, aI_qR, aL_qR, aR_qR, nx_mk, kd_mk, ln_mk, fI_mk, fL_mk, fR_mk, aI_mk, aL_mk, aR_mk, false_and, and_false, if_false, if_true, and_self, Int.reduceEq, Nat.reduceEqDiff, ite_self, MLay_pI, MLay_pL, MLay_qI, MLay_qL, ev_X9_findEnds_12, ev_X9_findEnds_13, ev_X9_findEnds_14, ev_X9_findEnds_17, ev_X9_findEnds_18, ev_X9_findEnds_61, xt_X9_findEnds, xf_X9_findEnds, hk, l5, l6, kd_E2, ln_E2, fR_E2]
      try simp (disch := omega) only [wI_id, dv_nn, rm_nn]
      repeat' (first | intro z | apply And.intro)
      all_goals try omega
      all_goals try contradiction
      all_goals exact h
    | succ m ih =>
      intro i f l h0 h1 hc
      have l8 := l8 i
      clear h
      by_cases c : aI σ (fR σ 1001 this) i = 0
      · have w := ih (i + 1) f l (by omega) (by omega) (by
          rcases hc with ⟨a, b, d⟩ | ⟨a, b, d, e, g⟩
          · refine Or.inl ⟨a, b, fun w p q => ?_⟩
            by_cases z : w = i
            · rw [z]; exact c
            · exact d w p (by omega)
          · refine Or.inr ⟨by omega, b, d, e, fun w p q => ?_⟩
            by_cases z : w = i
            · rw [z]; exact c
            · exact g w p (by omega))
        clear ih hc
        refine go_X9_findEnds (ct := fun p => p == 61 || p == 12 || p == 30) 40 ?_
        simp only [oI, oL, oR, o1, lI, lL, lR, popN, catS, gv, stL, stL2, swt, cnd, spObj, List.getElem?_cons_zero, List.getElem?_cons_succ, List.getD_cons_zero, List.getD_cons_succ, List.set_cons_zero, List.set_cons_succ, List.nil_append, List.cons_append, Option.toList, Bool.or_false, Bool.false_or, Bool.or_true, Bool.true_or, Nat.reduceBEq, Nat.reduceAdd, Nat.reduceLT, Nat.reduceLeDiff, Int.reduceAdd, Int.reduceToNat, true_and, and_true, Fin.isValue, Fin.val_zero, Fin.val_one, Fin.val_two, Fin.reduceFinMk, eq_self, Int.reduceNeg, imp_self, Nat.reduceMul, Nat.le_refl, not_true_eq_false, not_false_eq_true, List.getElem?_nil, reduceCtorEq, true_or, or_true, Classical.not_not, implies_true, or_self, wI_0, wI_1, wI_m1, b2i_w, b2i_eq0, b2i_eq1, b2i_bool, nor_self, nx_pI, kd_pI, ln_pI, fI_pI, fL_pI, fR_pI, aI_pI, aL_pI, aR_pI, nx_pL, kd_pL, ln_pL, fI_pL, fL_pL, fR_pL, aI_pL, aL_pL, aR_pL, nx_pR, kd_pR, ln_pR, fI_pR, fL_pR, fR_pR, aI_pR, aL_pR, aR_pR, nx_qI, kd_qI, ln_qI, fI_qI, fL_qI, fR_qI, aI_qI, aL_qI, aR_qI, nx_qL, kd_qL, ln_qL, fI_qL, fL_qL, fR_qL, aI_qL, aL_qL, aR_qL, nx_qR, kd_qR, ln_qR, fI_qR, fL_qR, fR_qR, aI_qR, aL_qR, aR_qR, nx_mk, kd_mk, ln_mk, fI_mk, fL_mk, fR_mk, aI_mk, aL_mk, aR_mk, false_and, and_false, if_false, if_true, and_self, Int.reduceEq, Nat.reduceEqDiff, ite_self, MLay_pI, MLay_pL, MLay_qI, MLay_qL, ev_X9_findEnds_12, ev_X9_findEnds_13, ev_X9_findEnds_14, ev_X9_findEnds_17, ev_X9_findEnds_18, ev_X9_findEnds_21, ev_X9_findEnds_22, ev_X9_findEnds_25, ev_X9_findEnds_26, ev_X9_findEnds_27, ev_X9_findEnds_30, ev_X9_findEnds_31, ev_X9_findEnds_32, ev_X9_findEnds_35, ev_X9_findEnds_36, ev_X9_findEnds_39, ev_X9_findEnds_40, ev_X9_findEnds_43, ev_X9_findEnds_44, ev_X9_findEnds_47, ev_X9_findEnds_50, ev_X9_findEnds_51, ev_X9_findEnds_52, ev_X9_findEnds_55, ev_X9_findEnds_58, xt_X9_findEnds, xf_X9_findEnds, hk, l5, l6, kd_E2, ln_E2, fR_E2, aI_E2, c]
        try simp (disch := omega) only [wI_id, dv_nn, rm_nn]
        repeat' (first | intro z | apply And.intro)
        all_goals try omega
        all_goals try contradiction
        all_goals exact w
      · by_cases cf : f = -1
        · have w := ih (i + 1) i i (by omega) (by omega) (by
            rcases hc with ⟨a, b, d⟩ | ⟨a, b, d, e, g⟩
            · exact Or.inr ⟨by omega, c, c, d, fun w p q => by omega⟩
            · omega)
          subst cf
          rw [← E2_l σ this i l i, ← E2_f σ this (-1) l i] at w
          clear ih hc
          generalize hτ : E2 σ this (-1) l = τ at *
          have g1 : kd τ = kd σ := by rw [← hτ, kd_E2]
          have g2 : ln τ = ln σ := by rw [← hτ, ln_E2]
          have g3 : fR τ = fR σ := by rw [← hτ, fR_E2]
          have g4 : aI τ = aI σ := by rw [← hτ, aI_E2]
          have g5 : fI τ 1006 this = -1 := by rw [← hτ, ff_E2]
          clear hτ
          refine go_X9_findEnds (ct := fun p => p == 61 || p == 12 || p == 43) 40 ?_
          simp only [oI, oL, oR, o1, lI, lL, lR, popN, catS, gv, stL, stL2, swt, cnd, spObj, List.getElem?_cons_zero, List.getElem?_cons_succ, List.getD_cons_zero, List.getD_cons_succ, List.set_cons_zero, List.set_cons_succ, List.nil_append, List.cons_append, Option.toList, Bool.or_false, Bool.false_or, Bool.or_true, Bool.true_or, Nat.reduceBEq, Nat.reduceAdd, Nat.reduceLT, Nat.reduceLeDiff, Int.reduceAdd, Int.reduceToNat, true_and, and_true, Fin.isValue, Fin.val_zero, Fin.val_one, Fin.val_two, Fin.reduceFinMk, eq_self, Int.reduceNeg, imp_self, Nat.reduceMul, Nat.le_refl, not_true_eq_false, not_false_eq_true, List.getElem?_nil, reduceCtorEq, true_or, or_true, Classical.not_not, implies_true, or_self, wI_0, wI_1, wI_m1, b2i_w, b2i_eq0, b2i_eq1, b2i_bool, nor_self, nx_pI, kd_pI, ln_pI, fI_pI, fL_pI, fR_pI, aI_pI, aL_pI, aR_pI, nx_pL, kd_pL, ln_pL, fI_pL, fL_pL, fR_pL, aI_pL, aL_pL, aR_pL, nx_pR, kd_pR, ln_pR, fI_pR, fL_pR, fR_pR, aI_pR, aL_pR, aR_pR, nx_qI, kd_qI, ln_qI, fI_qI, fL_qI, fR_qI, aI_qI, aL_qI, aR_qI, nx_qL, kd_qL, ln_qL, fI_qL, fL_qL, fR_qL, aI_qL, aL_qL, aR_qL, nx_qR, kd_qR, ln_qR, fI_qR, fL_qR, fR_qR, aI_qR, aL_qR, aR_qR, nx_mk, kd_mk, ln_mk, fI_mk, fL_mk, fR_mk, aI_mk, aL_mk, aR_mk, false_and, and_false, if_false, if_true, and_self, Int.reduceEq, Nat.reduceEqDiff, ite_self, MLay_pI, MLay_pL, MLay_qI, MLay_qL, ev_X9_findEnds_12, ev_X9_findEnds_13, ev_X9_findEnds_14, ev_X9_findEnds_17, ev_X9_findEnds_18, ev_X9_findEnds_21, ev_X9_findEnds_22, ev_X9_findEnds_25, ev_X9_findEnds_26, ev_X9_findEnds_27, ev_X9_findEnds_30, ev_X9_findEnds_31, ev_X9_findEnds_32, ev_X9_findEnds_35, ev_X9_findEnds_36, ev_X9_findEnds_39, ev_X9_findEnds_40, ev_X9_findEnds_43, ev_X9_findEnds_44, ev_X9_findEnds_47, ev_X9_findEnds_50, ev_X9_findEnds_51, ev_X9_findEnds_52, ev_X9_findEnds_55, ev_X9_findEnds_58, xt_X9_findEnds, xf_X9_findEnds, hk, l5, l6, g1, g2, g3, g4, g5]
          try simp (disch := omega) only [wI_id, dv_nn, rm_nn]
          repeat' (first | intro z | apply And.intro)
          all_goals try omega
          all_goals try contradiction
          all_goals exact w
        · have hfr : -1 ≤ f ∧ f ≤ 13 := by rcases hc with ⟨a, b, d⟩ | ⟨a, b, d, e, g⟩ <;> omega
          have w := ih (i + 1) f i (by omega) (by omega) (by
            rcases hc with ⟨a, b, d⟩ | ⟨a, b, d, e, g⟩
            · exact absurd a cf
            · exact Or.inr ⟨by omega, b, c, e, fun w p q => by omega⟩)
          rw [← E2_l σ this f l i, ← E2_f σ this f l f] at w
          clear ih hc
          generalize hτ : E2 σ this f l = τ at *
          have g1 : kd τ = kd σ := by rw [← hτ, kd_E2]
          have g2 : ln τ = ln σ := by rw [← hτ, ln_E2]
          have g3 : fR τ = fR σ := by rw [← hτ, fR_E2]
          have g4 : aI τ = aI σ := by rw [← hτ, aI_E2]
          have g5 : fI τ 1006 this = f := by rw [← hτ, ff_E2]
          clear hτ
          refine go_X9_findEnds (ct := fun p => p == 61 || p == 12 || p == 39) 40 ?_
          simp only [oI, oL, oR, o1, lI, lL, lR, popN, catS, gv, stL, stL2, swt, cnd, spObj, List.getElem?_cons_zero, List.getElem?_cons_succ, List.getD_cons_zero, List.getD_cons_succ, List.set_cons_zero, List.set_cons_succ, List.nil_append, List.cons_append, Option.toList, Bool.or_false, Bool.false_or, Bool.or_true, Bool.true_or, Nat.reduceBEq, Nat.reduceAdd, Nat.reduceLT, Nat.reduceLeDiff, Int.reduceAdd, Int.reduceToNat, true_and, and_true, Fin.isValue, Fin.val_zero, Fin.val_one, Fin.val_two, Fin.reduceFinMk, eq_self, Int.reduceNeg, imp_self, Nat.reduceMul, Nat.le_refl, not_true_eq_false, not_false_eq_true, List.getElem?_nil, reduceCtorEq, true_or, or_true, Classical.not_not, implies_true, or_self, wI_0, wI_1, wI_m1, b2i_w, b2i_eq0, b2i_eq1, b2i_bool, nor_self, nx_pI, kd_pI, ln_pI, fI_pI, fL_pI, fR_pI, aI_pI, aL_pI, aR_pI, nx_pL, kd_pL, ln_pL, fI_pL, fL_pL, fR_pL, aI_pL, aL_pL, aR_pL, nx_pR, kd_pR, ln_pR, fI_pR, fL_pR, fR_pR, aI_pR, aL_pR, aR_pR, nx_qI, kd_qI, ln_qI, fI_qI, fL_qI, fR_qI, aI_qI, aL_qI, aR_qI, nx_qL, kd_qL, ln_qL, fI_qL, fL_qL, fR_qL, aI_qL, aL_qL, aR_qL, nx_qR, kd_qR, ln_qR, fI_qR, fL_qR, fR_qR, aI_qR, aL_qR, aR_qR, nx_mk, kd_mk, ln_mk, fI_mk, fL_mk, fR_mk, aI_mk, aL_mk, aR_mk, false_and, and_false, if_false, if_true, and_self, Int.reduceEq, Nat.reduceEqDiff, ite_self, MLay_pI, MLay_pL, MLay_qI, MLay_qL, ev_X9_findEnds_12, ev_X9_findEnds_13, ev_X9_findEnds_14, ev_X9_findEnds_17, ev_X9_findEnds_18, ev_X9_findEnds_21, ev_X9_findEnds_22, ev_X9_findEnds_25, ev_X9_findEnds_26, ev_X9_findEnds_27, ev_X9_findEnds_30, ev_X9_findEnds_31, ev_X9_findEnds_32, ev_X9_findEnds_35, ev_X9_findEnds_36, ev_X9_findEnds_39, ev_X9_findEnds_40, ev_X9_findEnds_43, ev_X9_findEnds_44, ev_X9_findEnds_47, ev_X9_findEnds_50, ev_X9_findEnds_51, ev_X9_findEnds_52, ev_X9_findEnds_55, ev_X9_findEnds_58, xt_X9_findEnds, xf_X9_findEnds, hk, l5, l6, g1, g2, g3, g4, g5]
          try simp (disch := omega) only [wI_id, dv_nn, rm_nn]
          repeat' (first | intro z | apply And.intro)
          all_goals try omega
          all_goals try contradiction
          all_goals exact w
  have w := loop 13 0 (-1) (-1) (Int.le_refl 0) rfl (Or.inl ⟨rfl, rfl, fun w p q => by omega⟩)
  unfold E2 at w
  clear loop h
  refine go_X9_findEnds (ct := fun p => p == 12) 40 ?_
  simp only [oI, oL, oR, o1, lI, lL, lR, popN, catS, gv, stL, stL2, swt, cnd, spObj, List.getElem?_cons_zero, List.getElem?_cons_succ, List.getD_cons_zero, List.getD_cons_succ, List.set_cons_zero, List.set_cons_succ, List.nil_append, List.cons_append, Option.toList, Bool.or_false, Bool.false_or, Bool.or_true, Bool.true_or, Nat.reduceBEq, Nat.reduceAdd, Nat.reduceLT, Nat.reduceLeDiff, Int.reduceAdd, Int.reduceToNat, true_and, and_true, Fin.isValue, Fin.val_zero, Fin.val_one, Fin.val_two, Fin.reduceFinMk, eq_self, Int.reduceNeg, imp_self, Nat.reduceMul, Nat.le_refl, not_true_eq_false, not_false_eq_true, List.getElem?_nil, reduceCtorEq, true_or, or_true, Classical.not_not, implies_true, or_self, wI_0, wI_1, wI_m1, b2i_w, b2i_eq0, b2i_eq1, b2i_bool, nor_self, nx_pI, kd_pI, ln_pI, fI_pI, fL_pI, fR_pI, aI_pI, aL_pI, aR_pI, nx_pL, kd_pL, ln_pL, fI_pL, fL_pL, fR_pL, aI_pL, aL_pL, aR_pL, nx_pR, kd_pR, ln_pR, fI_pR, fL_pR, fR_pR, aI_pR, aL_pR, aR_pR, nx_qI, kd_qI, ln_qI, fI_qI, fL_qI, fR_qI, aI_qI, aL_qI, aR_qI, nx_qL, kd_qL, ln_qL, fI_qL, fL_qL, fR_qL, aI_qL, aL_qL, aR_qL, nx_qR, kd_qR, ln_qR, fI_qR, fL_qR, fR_qR, aI_qR, aL_qR, aR_qR, nx_mk, kd_mk, ln_mk, fI_mk, fL_mk, fR_mk, aI_mk, aL_mk, aR_mk, false_and, and_false, if_false, if_true, and_self, Int.reduceEq, Nat.reduceEqDiff, ite_self, MLay_pI, MLay_pL, MLay_qI, MLay_qL, ev_X9_findEnds_0, ev_X9_findEnds_1, ev_X9_findEnds_2, ev_X9_findEnds_5, ev_X9_findEnds_6, ev_X9_findEnds_7, ev_X9_findEnds_10, ev_X9_findEnds_11, xt_X9_findEnds, xf_X9_findEnds, hk]
  exact w

def sp_X9_setWire : Sp := fun av σ Q => oR av fun this av => oI av fun w av => oI av fun y av => av = [] ∧ kd σ this = 10 ∧ (LpO σ this ∧ inR w ∧ (y = 0 ∨ y = 1) ∧ ((0 ≤ w ∧ w ≤ (fI σ 1402 (fR σ 1000 this))) → ∀ f l, CutE (qI σ (fR σ 1001 this) w y) this 13 f l → Q (some (vi 1)) (E2 (qI σ (fR σ 1001 this) w y) this f l)) ∧ (¬ (0 ≤ w ∧ w ≤ (fI σ 1402 (fR σ 1000 this))) → Q (some (vi 0)) σ))
theorem us_X9_setWire (this : Int) (w : Int) (y : Int) (σ : Hp) (Q : Option AV → Hp → Prop) : sp_X9_setWire [vr this, vi w, vi y] σ Q = (kd σ this = 10 ∧ (LpO σ this ∧ inR w ∧ (y = 0 ∨ y = 1) ∧ ((0 ≤ w ∧ w ≤ (fI σ 1402 (fR σ 1000 this))) → ∀ f l, CutE (qI σ (fR σ 1001 this) w y) this 13 f l → Q (some (vi 1)) (E2 (qI σ (fR σ 1001 this) w y) this f l)) ∧ (¬ (0 ≤ w ∧ w ≤ (fI σ 1402 (fR σ 1000 this))) → Q (some (vi 0)) σ))) := propext ⟨fun h => h.2, fun h => ⟨rfl, h⟩⟩
theorem el_X9_setWire {av : List AV} {σ : Hp} {Q : Option AV → Hp → Prop} (h : sp_X9_setWire av σ Q) : ∃ (this : Int) (w : Int) (y : Int), av = [vr this, vi w, vi y] ∧ (kd σ this = 10 ∧ (LpO σ this ∧ inR w ∧ (y = 0 ∨ y = 1) ∧ ((0 ≤ w ∧ w ≤ (fI σ 1402 (fR σ 1000 this))) → ∀ f l, CutE (qI σ (fR σ 1001 this) w y) this 13 f l → Q (some (vi 1)) (E2 (qI σ (fR σ 1001 this) w y) this f l)) ∧ (¬ (0 ≤ w ∧ w ≤ (fI σ 1402 (fR σ 1000 this))) → Q (some (vi 0)) σ))) := by
  obtain ⟨this, a0, rfl, h0⟩ := oR_s h
  obtain ⟨w, a1, rfl, h1⟩ := oI_s h0
  obtain ⟨y, a2, rfl, h2⟩ := oI_s h1
  obtain ⟨rfl, hz⟩ := h2
  exact ⟨this, w, y, rfl, hz⟩
theorem rc_X9_setWire : ∀ (av : List AV) (σ : Hp) (Q : Option AV → Hp → Prop), sp_X9_setWire av σ Q → ∃ r tl, av = vr r :: tl ∧ kd σ r = 9 + 1 := fun av σ Q h => by
  obtain ⟨this, w, y, rfl, hz, -⟩ := el_X9_setWire h
  exact ⟨this, _, rfl, hz⟩

def tb_X9_setWire : Tab := [(0, .iload_n 1, 1, (0, 0, 0, 0)), (1, .ifCond .lt 23, 3, (0, 0, 0, 0)), (4, .iload_n 1, 1, (0, 0, 0, 0)), (5, .aload_n 0, 1, (0, 0, 0, 0)), (6, .getfield 12, 3, (10, 1000, 2, 0)), (9, .invokevirtual 42, 3, (0, 0, 0, 0)), (12, .if_icmp .gt 12, 3, (0, 0, 0, 0)), (15, .iload_n 1, 1, (0, 0, 0, 0)), (16, .aload_n 0, 1, (0, 0, 0, 0)), (17, .getfield 18, 3, (10, 1001, 2, 0)), (20, .arraylength, 1, (0, 0, 0, 0)), (21, .if_icmp .lt 5, 3, (0, 0, 0, 0)), (24, .iconst 0, 1, (0, 0, 0, 0)), (25, .ireturn, 1, (0, 0, 0, 0)), (26, .aload_n 0, 1, (0, 0, 0, 0)), (27, .getfield 18, 3, (10, 1001, 2, 0)), (30, .iload_n 1, 1, (0, 0, 0, 0)), (31, .iload_n 2, 1, (0, 0, 0, 0)), (32, .bastore, 1, (0, 0, 0, 0)), (33, .aload_n 0, 1, (0, 0, 0, 0)), (34, .invokevirtual 55, 3, (0, 0, 0, 0)), (37, .iconst 1, 1, (0, 0, 0, 0)), (38, .ireturn, 1, (0, 0, 0, 0))]
set_option maxRecDepth 100000 in
theorem tk_X9_setWire : TOK RX9 false cX9_setWire tb_X9_setWire := chkT_ok ft_X9 (by decide +kernel)
theorem rw_X9_440 : Row RX9 (.invokevirtual 55) 3 1 0 0 1 sp_X9_findEnds := row_V (n := 0) (ci := 9) c_X9_findEnds ⟨TBL_in 711 (by decide +kernel) rfl, TBL_in 714 (by decide +kernel) rfl, TBL_in 122 (by decide +kernel) rfl, by decide +kernel, by decide⟩ (by decide) rfl (TBL_in 713 (by decide +kernel) rfl) (TBL_in 11 (by decide +kernel) rfl) rc_X9_findEnds
def mt_X9_setWire : List (Nat × Mt) := [(336, 1, 0, 0, 1, sp_Jx4a65c_size_8abf5), (440, 1, 0, 0, 1, sp_X9_findEnds)]
theorem em_X9_setWire : mt_X9_setWire.lookup 336 = some (1, 0, 0, 1, sp_Jx4a65c_size_8abf5) ∧ mt_X9_setWire.lookup 440 = some (1, 0, 0, 1, sp_X9_findEnds) := ⟨rfl, rfl⟩
theorem mk_X9_setWire : MOK RX9 mt_X9_setWire := by
  intro q hq
  simp only [mt_X9_setWire, List.mem_cons, List.not_mem_nil, or_false] at hq
  rcases hq with rfl | rfl
  · exact rw_X9_336
  · exact rw_X9_440
noncomputable def xe_X9_setWire (ct : Nat → Bool) (K : Kt) (R : Option AV → Hp → Prop) (n : Nat) : Kt := exS 3 2 0 0 2 tb_X9_setWire mt_X9_setWire ct K R n
noncomputable def xk_X9_setWire (ct : Nat → Bool) (K : Kt) (R : Option AV → Hp → Prop) (n : Nat) : Kt := exkS 3 2 0 0 2 tb_X9_setWire mt_X9_setWire ct K R n
theorem xt_X9_setWire {ct : Nat → Bool} {K : Kt} {R : Option AV → Hp → Prop} {n pc : Nat} {ls : List (Option AV)} {st : List AV} {σ : Hp} {k : Nat × Nat} (h : ct pc = true) : xk_X9_setWire ct K R n pc ls st σ k = K pc ls st σ k := by unfold xk_X9_setWire exkS; rw [h]
theorem xf_X9_setWire {ct : Nat → Bool} {K : Kt} {R : Option AV → Hp → Prop} {n pc : Nat} {ls : List (Option AV)} {st : List AV} {σ : Hp} {k : Nat × Nat} (h : ct pc = false) : xk_X9_setWire ct K R n pc ls st σ k = xe_X9_setWire ct K R n pc ls st σ k := by unfold xk_X9_setWire exkS xe_X9_setWire; rw [h]
theorem ev_X9_setWire_0 {ct : Nat → Bool} {K : Kt} {R : Option AV → Hp → Prop} {n : Nat} {ls : List (Option AV)} {st : List AV} {σ : Hp} {k : Nat × Nat} : xe_X9_setWire ct K R (n + 1) 0 ls st σ k = (lI ls 1 fun x => xk_X9_setWire ct K R n 1 ls (vi x :: st) σ k) := exS_step.trans rfl
theorem ev_X9_setWire_1 {ct : Nat → Bool} {K : Kt} {R : Option AV → Hp → Prop} {n : Nat} {ls : List (Option AV)} {st : List AV} {σ : Hp} {k : Nat × Nat} : xe_X9_setWire ct K R (n + 1) 1 ls st σ k = (oI st fun x st => (wI x < wI 0 → xk_X9_setWire ct K R n 24 ls st σ k) ∧ (¬ (wI x < wI 0) → xk_X9_setWire ct K R n 4 ls st σ k)) := exS_step.trans rfl
theorem ev_X9_setWire_4 {ct : Nat → Bool} {K : Kt} {R : Option AV → Hp → Prop} {n : Nat} {ls : List (Option AV)} {st : List AV} {σ : Hp} {k : Nat × Nat} : xe_X9_setWire ct K R (n + 1) 4 ls st σ k = (lI ls 1 fun x => xk_X9_setWire ct K R n 5 ls (vi x :: st) σ k) := exS_step.trans rfl
theorem ev_X9_setWire_5 {ct : Nat → Bool} {K : Kt} {R : Option AV → Hp → Prop} {n : Nat} {ls : List (Option AV)} {st : List AV} {σ : Hp} {k : Nat × Nat} : xe_X9_setWire ct K R (n + 1) 5 ls st σ k = (lR ls 0 fun x => xk_X9_setWire ct K R n 6 ls (vr x :: st) σ k) := exS_step.trans rfl
theorem ev_X9_setWire_6 {ct : Nat → Bool} {K : Kt} {R : Option AV → Hp → Prop} {n : Nat} {ls : List (Option AV)} {st : List AV} {σ : Hp} {k : Nat × Nat} : xe_X9_setWire ct K R (n + 1) 6 ls st σ k = (oR st fun x st => kd σ x = 10 ∧ xk_X9_setWire ct K R n 9 ls (vr (fR σ 1000 x) :: st) σ k) := exS_step.trans rfl
theorem ev_X9_setWire_9 {ct : Nat → Bool} {K : Kt} {R : Option AV → Hp → Prop} {n : Nat} {ls : List (Option AV)} {st : List AV} {σ : Hp} {k : Nat × Nat} : xe_X9_setWire ct K R (n + 1) 9 ls st σ k = (popN 1 st [] fun av rest => (catS rest ≤ 8 ∧ 1 < 2 ∧ k.1 + 0 ≤ 0 ∧ k.2 + 0 ≤ 0) ∧ (sp_Jx4a65c_size_8abf5) av σ fun v σ' => xk_X9_setWire ct K R n 12 ls (v.toList ++ rest) σ' (k.1 + 0, k.2 + 0)) := exS_step.trans rfl
theorem ev_X9_setWire_12 {ct : Nat → Bool} {K : Kt} {R : Option AV → Hp → Prop} {n : Nat} {ls : List (Option AV)} {st : List AV} {σ : Hp} {k : Nat × Nat} : xe_X9_setWire ct K R (n + 1) 12 ls st σ k = (oI st fun y st => oI st fun x st => (wI y < wI x → xk_X9_setWire ct K R n 24 ls st σ k) ∧ (¬ (wI y < wI x) → xk_X9_setWire ct K R n 15 ls st σ k)) := exS_step.trans rfl
theorem ev_X9_setWire_15 {ct : Nat → Bool} {K : Kt} {R : Option AV → Hp → Prop} {n : Nat} {ls : List (Option AV)} {st : List AV} {σ : Hp} {k : Nat × Nat} : xe_X9_setWire ct K R (n + 1) 15 ls st σ k = (lI ls 1 fun x => xk_X9_setWire ct K R n 16 ls (vi x :: st) σ k) := exS_step.trans rfl
theorem ev_X9_setWire_16 {ct : Nat → Bool} {K : Kt} {R : Option AV → Hp → Prop} {n : Nat} {ls : List (Option AV)} {st : List AV} {σ : Hp} {k : Nat × Nat} : xe_X9_setWire ct K R (n + 1) 16 ls st σ k = (lR ls 0 fun x => xk_X9_setWire ct K R n 17 ls (vr x :: st) σ k) := exS_step.trans rfl
theorem ev_X9_setWire_17 {ct : Nat → Bool} {K : Kt} {R : Option AV → Hp → Prop} {n : Nat} {ls : List (Option AV)} {st : List AV} {σ : Hp} {k : Nat × Nat} : xe_X9_setWire ct K R (n + 1) 17 ls st σ k = (oR st fun x st => kd σ x = 10 ∧ xk_X9_setWire ct K R n 20 ls (vr (fR σ 1001 x) :: st) σ k) := exS_step.trans rfl
theorem ev_X9_setWire_20 {ct : Nat → Bool} {K : Kt} {R : Option AV → Hp → Prop} {n : Nat} {ls : List (Option AV)} {st : List AV} {σ : Hp} {k : Nat × Nat} : xe_X9_setWire ct K R (n + 1) 20 ls st σ k = (oR st fun x st => (101 ≤ kd σ x ∨ kd σ x = 21) ∧ xk_X9_setWire ct K R n 21 ls (vi (ln σ x) :: st) σ k) := exS_step.trans rfl
theorem ev_X9_setWire_21 {ct : Nat → Bool} {K : Kt} {R : Option AV → Hp → Prop} {n : Nat} {ls : List (Option AV)} {st : List AV} {σ : Hp} {k : Nat × Nat} : xe_X9_setWire ct K R (n + 1) 21 ls st σ k = (oI st fun y st => oI st fun x st => (wI x < wI y → xk_X9_setWire ct K R n 26 ls st σ k) ∧ (¬ (wI x < wI y) → xk_X9_setWire ct K R n 24 ls st σ k)) := exS_step.trans rfl
theorem ev_X9_setWire_24 {ct : Nat → Bool} {K : Kt} {R : Option AV → Hp → Prop} {n : Nat} {ls : List (Option AV)} {st : List AV} {σ : Hp} {k : Nat × Nat} : xe_X9_setWire ct K R (n + 1) 24 ls st σ k = (xk_X9_setWire ct K R n 25 ls (vi (0) :: st) σ k) := exS_step.trans rfl
theorem ev_X9_setWire_25 {ct : Nat → Bool} {K : Kt} {R : Option AV → Hp → Prop} {n : Nat} {ls : List (Option AV)} {st : List AV} {σ : Hp} {k : Nat × Nat} : xe_X9_setWire ct K R (n + 1) 25 ls st σ k = (oI st fun x st => st = [] ∧ (x = 0 ∨ x = 1) ∧ R (some (vi x)) σ) := exS_step.trans rfl
theorem ev_X9_setWire_26 {ct : Nat → Bool} {K : Kt} {R : Option AV → Hp → Prop} {n : Nat} {ls : List (Option AV)} {st : List AV} {σ : Hp} {k : Nat × Nat} : xe_X9_setWire ct K R (n + 1) 26 ls st σ k = (lR ls 0 fun x => xk_X9_setWire ct K R n 27 ls (vr x :: st) σ k) := exS_step.trans rfl
theorem ev_X9_setWire_27 {ct : Nat → Bool} {K : Kt} {R : Option AV → Hp → Prop} {n : Nat} {ls : List (Option AV)} {st : List AV} {σ : Hp} {k : Nat × Nat} : xe_X9_setWire ct K R (n + 1) 27 ls st σ k = (oR st fun x st => kd σ x = 10 ∧ xk_X9_setWire ct K R n 30 ls (vr (fR σ 1001 x) :: st) σ k) := exS_step.trans rfl
theorem ev_X9_setWire_30 {ct : Nat → Bool} {K : Kt} {R : Option AV → Hp → Prop} {n : Nat} {ls : List (Option AV)} {st : List AV} {σ : Hp} {k : Nat × Nat} : xe_X9_setWire ct K R (n + 1) 30 ls st σ k = (lI ls 1 fun x => xk_X9_setWire ct K R n 31 ls (vi x :: st) σ k) := exS_step.trans rfl
theorem ev_X9_setWire_31 {ct : Nat → Bool} {K : Kt} {R : Option AV → Hp → Prop} {n : Nat} {ls : List (Option AV)} {st : List AV} {σ : Hp} {k : Nat × Nat} : xe_X9_setWire ct K R (n + 1) 31 ls st σ k = (lI ls 2 fun x => xk_X9_setWire ct K R n 32 ls (vi x :: st) σ k) := exS_step.trans rfl
theorem ev_X9_setWire_32 {ct : Nat → Bool} {K : Kt} {R : Option AV → Hp → Prop} {n : Nat} {ls : List (Option AV)} {st : List AV} {σ : Hp} {k : Nat × Nat} : xe_X9_setWire ct K R (n + 1) 32 ls st σ k = (oI st fun v st => oI st fun j st => oR st fun x st => kd σ x = 103 ∧ (0 ≤ j ∧ j < ln σ x) ∧ (v = 0 ∨ v = 1) ∧ xk_X9_setWire ct K R n 33 ls st (qI σ x j v) k) := exS_step.trans rfl
theorem ev_X9_setWire_33 {ct : Nat → Bool} {K : Kt} {R : Option AV → Hp → Prop} {n : Nat} {ls : List (Option AV)} {st : List AV} {σ : Hp} {k : Nat × Nat} : xe_X9_setWire ct K R (n + 1) 33 ls st σ k = (lR ls 0 fun x => xk_X9_setWire ct K R n 34 ls (vr x :: st) σ k) := exS_step.trans rfl
theorem ev_X9_setWire_34 {ct : Nat → Bool} {K : Kt} {R : Option AV → Hp → Prop} {n : Nat} {ls : List (Option AV)} {st : List AV} {σ : Hp} {k : Nat × Nat} : xe_X9_setWire ct K R (n + 1) 34 ls st σ k = (popN 1 st [] fun av rest => (catS rest ≤ 8 ∧ 1 < 2 ∧ k.1 + 0 ≤ 0 ∧ k.2 + 0 ≤ 0) ∧ (sp_X9_findEnds) av σ fun v σ' => xk_X9_setWire ct K R n 37 ls (v.toList ++ rest) σ' (k.1 + 0, k.2 + 0)) := exS_step.trans rfl
theorem ev_X9_setWire_37 {ct : Nat → Bool} {K : Kt} {R : Option AV → Hp → Prop} {n : Nat} {ls : List (Option AV)} {st : List AV} {σ : Hp} {k : Nat × Nat} : xe_X9_setWire ct K R (n + 1) 37 ls st σ k = (xk_X9_setWire ct K R n 38 ls (vi (1) :: st) σ k) := exS_step.trans rfl
theorem ev_X9_setWire_38 {ct : Nat → Bool} {K : Kt} {R : Option AV → Hp → Prop} {n : Nat} {ls : List (Option AV)} {st : List AV} {σ : Hp} {k : Nat × Nat} : xe_X9_setWire ct K R (n + 1) 38 ls st σ k = (oI st fun x st => st = [] ∧ (x = 0 ∨ x = 1) ∧ R (some (vi x)) σ) := exS_step.trans rfl
def M_X9_setWire : Md := (yX9_setWire, cX9_setWire, 3, (some FieldType.boolean), 2, 0, 0, 2, false, tb_X9_setWire, mt_X9_setWire)
theorem mm_X9_setWire : MMOK M_X9_setWire := ⟨by decide +kernel, tk_X9_setWire, mk_X9_setWire, rfl, fun h => by cases h⟩
theorem go_X9_setWire {Q : Option AV → Hp → Prop} {ct : Nat → Bool} {pc : Nat} {ls : List (Option AV)} {st : List AV} {σ : Hp} {k : Nat × Nat} (n : Nat) (h : xe_X9_setWire ct (Go M_X9_setWire Q) Q n pc ls st σ k) : Go M_X9_setWire Q pc ls st σ k := Go.exS mm_X9_setWire h

set_option maxRecDepth 20000 in
theorem c_X9_setWire : Ct yX9_setWire cX9_setWire 3 ((some FieldType.boolean)) 2 0 0 sp_X9_setWire := by
  refine Ct.go (M := M_X9_setWire) mm_X9_setWire fun av σ Q h0 => ?_
  obtain ⟨this, w, y, rfl, hk, h⟩ := el_X9_setWire h0
  clear h0
  refine ⟨Nat.le_of_ble_eq_true rfl, ?_⟩
  show Go M_X9_setWire Q 0 [some (vr this), some (vi w), some (vi y)] [] σ (0, 0)
  obtain ⟨hL, hw, hy, h1, h2⟩ := h
  have hlk := hL.lk
  have hN := hL.n
  obtain ⟨l1, -, -, -, ⟨l5, l6⟩, -, l8, -⟩ := hL
  unfold inR at hw
  by_cases c : 0 ≤ w ∧ w ≤ (fI σ 1402 (fR σ 1000 this))
  · have h1 := h1 c
    clear h2
    have hc : ∀ v, 0 ≤ aI (qI σ (fR σ 1001 this) w y) (fR σ 1001 this) v ∧ aI (qI σ (fR σ 1001 this) w y) (fR σ 1001 this) v ≤ 1 := fun v => by
      rw [aI_qI]
      have := l8 v
      split <;> omega
    generalize hs : qI σ (fR σ 1001 this) w y = τ at *
    refine go_X9_setWire (ct := fun p => p == 24 || p == 33) 40 ?_
    simp only [oI, oL, oR, o1, lI, lL, lR, popN, catS, gv, stL, stL2, swt, cnd, spObj, List.getElem?_cons_zero, List.getElem?_cons_succ, List.getD_cons_zero, List.getD_cons_succ, List.set_cons_zero, List.set_cons_succ, List.nil_append, List.cons_append, Option.toList, Bool.or_false, Bool.false_or, Bool.or_true, Bool.true_or, Nat.reduceBEq, Nat.reduceAdd, Nat.reduceLT, Nat.reduceLeDiff, Int.reduceAdd, Int.reduceToNat, true_and, and_true, Fin.isValue, Fin.val_zero, Fin.val_one, Fin.val_two, Fin.reduceFinMk, eq_self, Int.reduceNeg, imp_self, Nat.reduceMul, Nat.le_refl, not_true_eq_false, not_false_eq_true, List.getElem?_nil, reduceCtorEq, true_or, or_true, Classical.not_not, implies_true, or_self, wI_0, wI_1, wI_m1, b2i_w, b2i_eq0, b2i_eq1, b2i_bool, nor_self, nx_pI, kd_pI, ln_pI, fI_pI, fL_pI, fR_pI, aI_pI, aL_pI, aR_pI, nx_pL, kd_pL, ln_pL, fI_pL, fL_pL, fR_pL, aI_pL, aL_pL, aR_pL, nx_pR, kd_pR, ln_pR, fI_pR, fL_pR, fR_pR, aI_pR, aL_pR, aR_pR, nx_qI, kd_qI, ln_qI, fI_qI, fL_qI, fR_qI, aI_qI, aL_qI, aR_qI, nx_qL, kd_qL, ln_qL, fI_qL, fL_qL, fR_qL, aI_qL, aL_qL, aR_qL, nx_qR, kd_qR, ln_qR, fI_qR, fL_qR, fR_qR, aI_qR, aL_qR, aR_qR, nx_mk, kd_mk, ln_mk, fI_mk, fL_mk, fR_mk, aI_mk, aL_mk, aR_mk, false_and, and_false, if_false, if_true, and_self, Int.reduceEq, Nat.reduceEqDiff, ite_self, MLay_pI, MLay_pL, MLay_qI, MLay_qL, ev_X9_setWire_0, ev_X9_setWire_1, ev_X9_setWire_4, ev_X9_setWire_5, ev_X9_setWire_6, ev_X9_setWire_9, ev_X9_setWire_12, ev_X9_setWire_15, ev_X9_setWire_16, ev_X9_setWire_17, ev_X9_setWire_20, ev_X9_setWire_21, ev_X9_setWire_24, ev_X9_setWire_25, ev_X9_setWire_26, ev_X9_setWire_27, ev_X9_setWire_30, ev_X9_setWire_31, ev_X9_setWire_32, xt_X9_setWire, xf_X9_setWire, us_Jx4a65c_size_8abf5, us_X9_findEnds, hk, hlk, l5, l6, hy, hs]
    try simp (disch := omega) only [wI_id, dv_nn, rm_nn]
    have g1 : kd τ = kd σ := by rw [← hs, kd_qI]
    have g2 : ln τ = ln σ := by rw [← hs, ln_qI]
    have g3 : fR τ = fR σ := by rw [← hs, fR_qI]
    have w33 : Go M_X9_setWire Q 33 [some (vr this), some (vi w), some (vi y)] [] τ (0, 0) := by
      clear hs
      refine go_X9_setWire (ct := fun p => p == 0) 40 ?_
      simp only [oI, oL, oR, o1, lI, lL, lR, popN, catS, gv, stL, stL2, swt, cnd, spObj, List.getElem?_cons_zero, List.getElem?_cons_succ, List.getD_cons_zero, List.getD_cons_succ, List.set_cons_zero, List.set_cons_succ, List.nil_append, List.cons_append, Option.toList, Bool.or_false, Bool.false_or, Bool.or_true, Bool.true_or, Nat.reduceBEq, Nat.reduceAdd, Nat.reduceLT, Nat.reduceLeDiff, Int.reduceAdd, Int.reduceToNat, true_and, and_true, Fin.isValue, Fin.val_zero, Fin.val_one, Fin.val_two, Fin.reduceFinMk, eq_self, Int.reduceNeg, imp_self, Nat.reduceMul, Nat.le_refl, not_true_eq_false, not_false_eq_true, List.getElem?_nil, reduceCtorEq, true_or, or_true, Classical.not_not, implies_true, or_self, wI_0, wI_1, wI_m1, b2i_w, b2i_eq0, b2i_eq1, b2i_bool, nor_self, nx_pI, kd_pI, ln_pI, fI_pI, fL_pI, fR_pI, aI_pI, aL_pI, aR_pI, nx_pL, kd_pL, ln_pL, fI_pL, fL_pL, fR_pL, aI_pL, aL_pL, aR_pL, nx_pR, kd_pR, ln_pR, fI_pR, fL_pR, fR_pR, aI_pR, aL_pR, aR_pR, nx_qI, kd_qI, ln_qI, fI_qI, fL_qI, fR_qI, aI_qI, aL_qI, aR_qI, nx_qL, kd_qL, ln_qL, fI_qL, fL_qL, fR_qL, aI_qL, aL_qL, aR_qL, nx_qR, kd_qR, ln_qR, fI_qR, fL_qR, fR_qR, aI_qR, aL_qR, aR_qR, nx_mk, kd_mk, ln_mk, fI_mk, fL_mk, fR_mk, aI_mk, aL_mk, aR_mk, false_and, and_false, if_false, if_true, and_self, Int.reduceEq, Nat.reduceEqDiff, ite_self, MLay_pI, MLay_pL, MLay_qI, MLay_qL, ev_X9_setWire_33, ev_X9_setWire_34, ev_X9_setWire_37, ev_X9_setWire_38, xt_X9_setWire, xf_X9_setWire, us_Jx4a65c_size_8abf5, us_X9_findEnds, g1, g2, g3, hk, l5, l6]
      repeat' (first | intro z | apply And.intro)
      all_goals try omega
      all_goals try contradiction
      all_goals first | (exact (hc _).1) | (exact (hc _).2) | (exact h1 _ _ ‹_›)
    repeat' (first | intro z | apply And.intro)
    all_goals try omega
    all_goals try contradiction
    all_goals first | exact w33 | exact hy
  · have h2 := h2 c
    clear h1
    refine go_X9_setWire (ct := fun p => p == 26) 40 ?_
    simp only [oI, oL, oR, o1, lI, lL, lR, popN, catS, gv, stL, stL2, swt, cnd, spObj, List.getElem?_cons_zero, List.getElem?_cons_succ, List.getD_cons_zero, List.getD_cons_succ, List.set_cons_zero, List.set_cons_succ, List.nil_append, List.cons_append, Option.toList, Bool.or_false, Bool.false_or, Bool.or_true, Bool.true_or, Nat.reduceBEq, Nat.reduceAdd, Nat.reduceLT, Nat.reduceLeDiff, Int.reduceAdd, Int.reduceToNat, true_and, and_true, Fin.isValue, Fin.val_zero, Fin.val_one, Fin.val_two, Fin.reduceFinMk, eq_self, Int.reduceNeg, imp_self, Nat.reduceMul, Nat.le_refl, not_true_eq_false, not_false_eq_true, List.getElem?_nil, reduceCtorEq, true_or, or_true, Classical.not_not, implies_true, or_self, wI_0, wI_1, wI_m1, b2i_w, b2i_eq0, b2i_eq1, b2i_bool, nor_self, nx_pI, kd_pI, ln_pI, fI_pI, fL_pI, fR_pI, aI_pI, aL_pI, aR_pI, nx_pL, kd_pL, ln_pL, fI_pL, fL_pL, fR_pL, aI_pL, aL_pL, aR_pL, nx_pR, kd_pR, ln_pR, fI_pR, fL_pR, fR_pR, aI_pR, aL_pR, aR_pR, nx_qI, kd_qI, ln_qI, fI_qI, fL_qI, fR_qI, aI_qI, aL_qI, aR_qI, nx_qL, kd_qL, ln_qL, fI_qL, fL_qL, fR_qL, aI_qL, aL_qL, aR_qL, nx_qR, kd_qR, ln_qR, fI_qR, fL_qR, fR_qR, aI_qR, aL_qR, aR_qR, nx_mk, kd_mk, ln_mk, fI_mk, fL_mk, fR_mk, aI_mk, aL_mk, aR_mk, false_and, and_false, if_false, if_true, and_self, Int.reduceEq, Nat.reduceEqDiff, ite_self, MLay_pI, MLay_pL, MLay_qI, MLay_qL, ev_X9_setWire_0, ev_X9_setWire_1, ev_X9_setWire_4, ev_X9_setWire_5, ev_X9_setWire_6, ev_X9_setWire_9, ev_X9_setWire_12, ev_X9_setWire_15, ev_X9_setWire_16, ev_X9_setWire_17, ev_X9_setWire_20, ev_X9_setWire_21, ev_X9_setWire_24, ev_X9_setWire_25, xt_X9_setWire, xf_X9_setWire, us_Jx4a65c_size_8abf5, us_X9_findEnds, hk, hlk, l5, l6]
    try simp (disch := omega) only [wI_id, dv_nn, rm_nn]
    repeat' (first | intro z | apply And.intro)
    all_goals try omega
    all_goals try contradiction
    all_goals exact h2

/-- the first box along a loop that waits, of the first k; 0: none -/
def cFw (σ : Hp) (q : Int) : Nat → Int
  | 0 => 0
  | k + 1 => if cFw σ q k = 0 then (if fI σ 312 ((lat σ (fR σ 1000 q) k)) = 0 then 0 else (lat σ (fR σ 1000 q) k)) else cFw σ q k
theorem cFw_at {σ : Hp} {q : Int} {i : Nat} (h0 : cFw σ q i = 0) (h1 : ¬ fI σ 312 ((lat σ (fR σ 1000 q) i)) = 0) (h2 : ¬ (lat σ (fR σ 1000 q) i) = 0) : ∀ m : Nat, cFw σ q (i + 1 + m) = (lat σ (fR σ 1000 q) i)
  | 0 => by show (if _ then _ else _) = _; rw [if_pos h0, if_neg h1]
  | m + 1 => by
    show (if cFw σ q (i + 1 + m) = 0 then _ else cFw σ q (i + 1 + m)) = _
    rw [cFw_at h0 h1 h2 m, if_neg h2]

def sp_X9_firstWaiting : Sp := fun av σ Q => oR av fun this av => av = [] ∧ kd σ this = 10 ∧ (LpO σ this ∧ Q (some (vr (cFw σ this ((fI σ 1402 (fR σ 1000 this))).toNat))) σ)
theorem us_X9_firstWaiting (this : Int) (σ : Hp) (Q : Option AV → Hp → Prop) : sp_X9_firstWaiting [vr this] σ Q = (kd σ this = 10 ∧ (LpO σ this ∧ Q (some (vr (cFw σ this ((fI σ 1402 (fR σ 1000 this))).toNat))) σ)) := propext ⟨fun h => h.2, fun h => ⟨rfl, h⟩⟩
theorem el_X9_firstWaiting {av : List AV} {σ : Hp} {Q : Option AV → Hp → Prop} (h : sp_X9_firstWaiting av σ Q) : ∃ (this : Int), av = [vr this] ∧ (kd σ this = 10 ∧ (LpO σ this ∧ Q (some (vr (cFw σ this ((fI σ 1402 (fR σ 1000 this))).toNat))) σ)) := by
  obtain ⟨this, a0, rfl, h0⟩ := oR_s h
  obtain ⟨rfl, hz⟩ := h0
  exact ⟨this, rfl, hz⟩
theorem rc_X9_firstWaiting : ∀ (av : List AV) (σ : Hp) (Q : Option AV → Hp → Prop), sp_X9_firstWaiting av σ Q → ∃ r tl, av = vr r :: tl ∧ kd σ r = 9 + 1 := fun av σ Q h => by
  obtain ⟨this, rfl, hz, -⟩ := el_X9_firstWaiting h
  exact ⟨this, _, rfl, hz⟩

def tb_X9_firstWaiting : Tab := [(0, .iconst 0, 1, (0, 0, 0, 0)), (1, .istore_n 1, 1, (0, 0, 0, 0)), (2, .iload_n 1, 1, (0, 0, 0, 0)), (3, .aload_n 0, 1, (0, 0, 0, 0)), (4, .getfield 12, 3, (10, 1000, 2, 0)), (7, .invokevirtual 42, 3, (0, 0, 0, 0)), (10, .if_icmp .ge 38, 3, (0, 0, 0, 0)), (13, .aload_n 0, 1, (0, 0, 0, 0)), (14, .getfield 12, 3, (10, 1000, 2, 0)), (17, .iload_n 1, 1, (0, 0, 0, 0)), (18, .invokevirtual 46, 3, (0, 0, 0, 0)), (21, .checkcast 50, 3, (3, 0, 0, 0)), (24, .getfield 66, 3, (3, 312, 0, 0)), (27, .ifCond .eq 15, 3, (0, 0, 0, 0)), (30, .aload_n 0, 1, (0, 0, 0, 0)), (31, .getfield 12, 3, (10, 1000, 2, 0)), (34, .iload_n 1, 1, (0, 0, 0, 0)), (35, .invokevirtual 46, 3, (0, 0, 0, 0)), (38, .checkcast 50, 3, (3, 0, 0, 0)), (41, .areturn, 1, (0, 0, 0, 0)), (42, .iinc 1 1, 3, (0, 0, 0, 0)), (45, .goto (-43), 3, (0, 0, 0, 0)), (48, .aconst_null, 1, (0, 0, 0, 0)), (49, .areturn, 1, (0, 0, 0, 0))]
set_option maxRecDepth 100000 in
theorem tk_X9_firstWaiting : TOK RX9 false cX9_firstWaiting tb_X9_firstWaiting := chkT_ok ft_X9 (by decide +kernel)
def mt_X9_firstWaiting : List (Nat × Mt) := [(336, 1, 0, 0, 1, sp_Jx4a65c_size_8abf5), (368, 2, 0, 0, 3, sp_Jx4a65c_get_915e3)]
theorem em_X9_firstWaiting : mt_X9_firstWaiting.lookup 336 = some (1, 0, 0, 1, sp_Jx4a65c_size_8abf5) ∧ mt_X9_firstWaiting.lookup 368 = some (2, 0, 0, 3, sp_Jx4a65c_get_915e3) := ⟨rfl, rfl⟩
theorem mk_X9_firstWaiting : MOK RX9 mt_X9_firstWaiting := by
  intro q hq
  simp only [mt_X9_firstWaiting, List.mem_cons, List.not_mem_nil, or_false] at hq
  rcases hq with rfl | rfl
  · exact rw_X9_336
  · exact rw_X9_368
noncomputable def xe_X9_firstWaiting (ct : Nat → Bool) (K : Kt) (R : Option AV → Hp → Prop) (n : Nat) : Kt := exS 2 4 0 0 5 tb_X9_firstWaiting mt_X9_firstWaiting ct K R n
noncomputable def xk_X9_firstWaiting (ct : Nat → Bool) (K : Kt) (R : Option AV → Hp → Prop) (n : Nat) : Kt := exkS 2 4 0 0 5 tb_X9_firstWaiting mt_X9_firstWaiting ct K R n
theorem xt_X9_firstWaiting {ct : Nat → Bool} {K : Kt} {R : Option AV → Hp → Prop} {n pc : Nat} {ls : List (Option AV)} {st : List AV} {σ : Hp} {k : Nat × Nat} (h : ct pc = true) : xk_X9_firstWaiting ct K R n pc ls st σ k = K pc ls st σ k := by unfold xk_X9_firstWaiting exkS; rw [h]
theorem xf_X9_firstWaiting {ct : Nat → Bool} {K : Kt} {R : Option AV → Hp → Prop} {n pc : Nat} {ls : List (Option AV)} {st : List AV} {σ : Hp} {k : Nat × Nat} (h : ct pc = false) : xk_X9_firstWaiting ct K R n pc ls st σ k = xe_X9_firstWaiting ct K R n pc ls st σ k := by unfold xk_X9_firstWaiting exkS xe_X9_firstWaiting; rw [h]
theorem ev_X9_firstWaiting_0 {ct : Nat → Bool} {K : Kt} {R : Option AV → Hp → Prop} {n : Nat} {ls : List (Option AV)} {st : List AV} {σ : Hp} {k : Nat × Nat} : xe_X9_firstWaiting ct K R (n + 1) 0 ls st σ k = (xk_X9_firstWaiting ct K R n 1 ls (vi (0) :: st) σ k) := exS_step.trans rfl
theorem ev_X9_firstWaiting_1 {ct : Nat → Bool} {K : Kt} {R : Option AV → Hp → Prop} {n : Nat} {ls : List (Option AV)} {st : List AV} {σ : Hp} {k : Nat × Nat} : xe_X9_firstWaiting ct K R (n + 1) 1 ls st σ k = (oI st fun x st => 1 < 2 ∧ xk_X9_firstWaiting ct K R n 2 (stL ls 1 (vi x)) st σ k) := exS_step.trans rfl
theorem ev_X9_firstWaiting_2 {ct : Nat → Bool} {K : Kt} {R : Option AV → Hp → Prop} {n : Nat} {ls : List (Option AV)} {st : List AV} {σ : Hp} {k : Nat × Nat} : xe_X9_firstWaiting ct K R (n + 1) 2 ls st σ k = (lI ls 1 fun x => xk_X9_firstWaiting ct K R n 3 ls (vi x :: st) σ k) := exS_step.trans rfl
theorem ev_X9_firstWaiting_3 {ct : Nat → Bool} {K : Kt} {R : Option AV → Hp → Prop} {n : Nat} {ls : List (Option AV)} {st : List AV} {σ : Hp} {k : Nat × Nat} : xe_X9_firstWaiting ct K R (n + 1) 3 ls st σ k = (lR ls 0 fun x => xk_X9_firstWaiting ct K R n 4 ls (vr x :: st) σ k) := exS_step.trans rfl
theorem ev_X9_firstWaiting_4 {ct : Nat → Bool} {K : Kt} {R : Option AV → Hp → Prop} {n : Nat} {ls : List (Option AV)} {st : List AV} {σ : Hp} {k : Nat × Nat} : xe_X9_firstWaiting ct K R (n + 1) 4 ls st σ k = (oR st fun x st => kd σ x = 10 ∧ xk_X9_firstWaiting ct K R n 7 ls (vr (fR σ 1000 x) :: st) σ k) := exS_step.trans rfl
theorem ev_X9_firstWaiting_7 {ct : Nat → Bool} {K : Kt} {R : Option AV → Hp → Prop} {n : Nat} {ls : List (Option AV)} {st : List AV} {σ : Hp} {k : Nat × Nat} : xe_X9_firstWaiting ct K R (n + 1) 7 ls st σ k = (popN 1 st [] fun av rest => (catS rest ≤ 8 ∧ 1 < 4 ∧ k.1 + 0 ≤ 0 ∧ k.2 + 0 ≤ 0) ∧ (sp_Jx4a65c_size_8abf5) av σ fun v σ' => xk_X9_firstWaiting ct K R n 10 ls (v.toList ++ rest) σ' (k.1 + 0, k.2 + 0)) := exS_step.trans rfl
theorem ev_X9_firstWaiting_10 {ct : Nat → Bool} {K : Kt} {R : Option AV → Hp → Prop} {n : Nat} {ls : List (Option AV)} {st : List AV} {σ : Hp} {k : Nat × Nat} : xe_X9_firstWaiting ct K R (n + 1) 10 ls st σ k = (oI st fun y st => oI st fun x st => (wI y ≤ wI x → xk_X9_firstWaiting ct K R n 48 ls st σ k) ∧ (¬ (wI y ≤ wI x) → xk_X9_firstWaiting ct K R n 13 ls st σ k)) := exS_step.trans rfl
theorem ev_X9_firstWaiting_13 {ct : Nat → Bool} {K : Kt} {R : Option AV → Hp → Prop} {n : Nat} {ls : List (Option AV)} {st : List AV} {σ : Hp} {k : Nat × Nat} : xe_X9_firstWaiting ct K R (n + 1) 13 ls st σ k = (lR ls 0 fun x => xk_X9_firstWaiting ct K R n 14 ls (vr x :: st) σ k) := exS_step.trans rfl
theorem ev_X9_firstWaiting_14 {ct : Nat → Bool} {K : Kt} {R : Option AV → Hp → Prop} {n : Nat} {ls : List (Option AV)} {st : List AV} {σ : Hp} {k : Nat × Nat} : xe_X9_firstWaiting ct K R (n + 1) 14 ls st σ k = (oR st fun x st => kd σ x = 10 ∧ xk_X9_firstWaiting ct K R n 17 ls (vr (fR σ 1000 x) :: st) σ k) := exS_step.trans rfl
theorem ev_X9_firstWaiting_17 {ct : Nat → Bool} {K : Kt} {R : Option AV → Hp → Prop} {n : Nat} {ls : List (Option AV)} {st : List AV} {σ : Hp} {k : Nat × Nat} : xe_X9_firstWaiting ct K R (n + 1) 17 ls st σ k = (lI ls 1 fun x => xk_X9_firstWaiting ct K R n 18 ls (vi x :: st) σ k) := exS_step.trans rfl
theorem ev_X9_firstWaiting_18 {ct : Nat → Bool} {K : Kt} {R : Option AV → Hp → Prop} {n : Nat} {ls : List (Option AV)} {st : List AV} {σ : Hp} {k : Nat × Nat} : xe_X9_firstWaiting ct K R (n + 1) 18 ls st σ k = (popN 2 st [] fun av rest => (catS rest ≤ 8 ∧ 3 < 4 ∧ k.1 + 0 ≤ 0 ∧ k.2 + 0 ≤ 0) ∧ (sp_Jx4a65c_get_915e3) av σ fun v σ' => xk_X9_firstWaiting ct K R n 21 ls (v.toList ++ rest) σ' (k.1 + 0, k.2 + 0)) := exS_step.trans rfl
theorem ev_X9_firstWaiting_21 {ct : Nat → Bool} {K : Kt} {R : Option AV → Hp → Prop} {n : Nat} {ls : List (Option AV)} {st : List AV} {σ : Hp} {k : Nat × Nat} : xe_X9_firstWaiting ct K R (n + 1) 21 ls st σ k = (oR st fun x st => kd σ x = 3 ∧ xk_X9_firstWaiting ct K R n 24 ls (vr x :: st) σ k) := exS_step.trans rfl
theorem ev_X9_firstWaiting_24 {ct : Nat → Bool} {K : Kt} {R : Option AV → Hp → Prop} {n : Nat} {ls : List (Option AV)} {st : List AV} {σ : Hp} {k : Nat × Nat} : xe_X9_firstWaiting ct K R (n + 1) 24 ls st σ k = (oR st fun x st => kd σ x = 3 ∧ xk_X9_firstWaiting ct K R n 27 ls (vi (fI σ 312 x) :: st) σ k) := exS_step.trans rfl
theorem ev_X9_firstWaiting_27 {ct : Nat → Bool} {K : Kt} {R : Option AV → Hp → Prop} {n : Nat} {ls : List (Option AV)} {st : List AV} {σ : Hp} {k : Nat × Nat} : xe_X9_firstWaiting ct K R (n + 1) 27 ls st σ k = (oI st fun x st => (wI x = wI 0 → xk_X9_firstWaiting ct K R n 42 ls st σ k) ∧ (¬ (wI x = wI 0) → xk_X9_firstWaiting ct K R n 30 ls st σ k)) := exS_step.trans rfl
theorem ev_X9_firstWaiting_30 {ct : Nat → Bool} {K : Kt} {R : Option AV → Hp → Prop} {n : Nat} {ls : List (Option AV)} {st : List AV} {σ : Hp} {k : Nat × Nat} : xe_X9_firstWaiting ct K R (n + 1) 30 ls st σ k = (lR ls 0 fun x => xk_X9_firstWaiting ct K R n 31 ls (vr x :: st) σ k) := exS_step.trans rfl
theorem ev_X9_firstWaiting_31 {ct : Nat → Bool} {K : Kt} {R : Option AV → Hp → Prop} {n : Nat} {ls : List (Option AV)} {st : List AV} {σ : Hp} {k : Nat × Nat} : xe_X9_firstWaiting ct K R (n + 1) 31 ls st σ k = (oR st fun x st => kd σ x = 10 ∧ xk_X9_firstWaiting ct K R n 34 ls (vr (fR σ 1000 x) :: st) σ k) := exS_step.trans rfl
theorem ev_X9_firstWaiting_34 {ct : Nat → Bool} {K : Kt} {R : Option AV → Hp → Prop} {n : Nat} {ls : List (Option AV)} {st : List AV} {σ : Hp} {k : Nat × Nat} : xe_X9_firstWaiting ct K R (n + 1) 34 ls st σ k = (lI ls 1 fun x => xk_X9_firstWaiting ct K R n 35 ls (vi x :: st) σ k) := exS_step.trans rfl
theorem ev_X9_firstWaiting_35 {ct : Nat → Bool} {K : Kt} {R : Option AV → Hp → Prop} {n : Nat} {ls : List (Option AV)} {st : List AV} {σ : Hp} {k : Nat × Nat} : xe_X9_firstWaiting ct K R (n + 1) 35 ls st σ k = (popN 2 st [] fun av rest => (catS rest ≤ 8 ∧ 3 < 4 ∧ k.1 + 0 ≤ 0 ∧ k.2 + 0 ≤ 0) ∧ (sp_Jx4a65c_get_915e3) av σ fun v σ' => xk_X9_firstWaiting ct K R n 38 ls (v.toList ++ rest) σ' (k.1 + 0, k.2 + 0)) := exS_step.trans rfl
theorem ev_X9_firstWaiting_38 {ct : Nat → Bool} {K : Kt} {R : Option AV → Hp → Prop} {n : Nat} {ls : List (Option AV)} {st : List AV} {σ : Hp} {k : Nat × Nat} : xe_X9_firstWaiting ct K R (n + 1) 38 ls st σ k = (oR st fun x st => kd σ x = 3 ∧ xk_X9_firstWaiting ct K R n 41 ls (vr x :: st) σ k) := exS_step.trans rfl
theorem ev_X9_firstWaiting_41 {ct : Nat → Bool} {K : Kt} {R : Option AV → Hp → Prop} {n : Nat} {ls : List (Option AV)} {st : List AV} {σ : Hp} {k : Nat × Nat} : xe_X9_firstWaiting ct K R (n + 1) 41 ls st σ k = (oR st fun x st => st = [] ∧ 5 = 5 ∧ R (some (vr x)) σ) := exS_step.trans rfl
theorem ev_X9_firstWaiting_42 {ct : Nat → Bool} {K : Kt} {R : Option AV → Hp → Prop} {n : Nat} {ls : List (Option AV)} {st : List AV} {σ : Hp} {k : Nat × Nat} : xe_X9_firstWaiting ct K R (n + 1) 42 ls st σ k = (lI ls 1 fun x => 1 < 2 ∧ xk_X9_firstWaiting ct K R n 45 (stL ls 1 (vi (x + (1)))) st σ k) := exS_step.trans rfl
theorem ev_X9_firstWaiting_45 {ct : Nat → Bool} {K : Kt} {R : Option AV → Hp → Prop} {n : Nat} {ls : List (Option AV)} {st : List AV} {σ : Hp} {k : Nat × Nat} : xe_X9_firstWaiting ct K R (n + 1) 45 ls st σ k = (xk_X9_firstWaiting ct K R n 2 ls st σ k) := exS_step.trans rfl
theorem ev_X9_firstWaiting_48 {ct : Nat → Bool} {K : Kt} {R : Option AV → Hp → Prop} {n : Nat} {ls : List (Option AV)} {st : List AV} {σ : Hp} {k : Nat × Nat} : xe_X9_firstWaiting ct K R (n + 1) 48 ls st σ k = (xk_X9_firstWaiting ct K R n 49 ls (vr 0 :: st) σ k) := exS_step.trans rfl
theorem ev_X9_firstWaiting_49 {ct : Nat → Bool} {K : Kt} {R : Option AV → Hp → Prop} {n : Nat} {ls : List (Option AV)} {st : List AV} {σ : Hp} {k : Nat × Nat} : xe_X9_firstWaiting ct K R (n + 1) 49 ls st σ k = (oR st fun x st => st = [] ∧ 5 = 5 ∧ R (some (vr x)) σ) := exS_step.trans rfl
def M_X9_firstWaiting : Md := (yX9_firstWaiting, cX9_firstWaiting, 2, (some (FieldType.object "AlarmBoxes$Box")), 4, 0, 0, 5, false, tb_X9_firstWaiting, mt_X9_firstWaiting)
theorem mm_X9_firstWaiting : MMOK M_X9_firstWaiting := ⟨by decide +kernel, tk_X9_firstWaiting, mk_X9_firstWaiting, Or.inl ⟨_, rfl⟩, fun h => by cases h⟩
theorem go_X9_firstWaiting {Q : Option AV → Hp → Prop} {ct : Nat → Bool} {pc : Nat} {ls : List (Option AV)} {st : List AV} {σ : Hp} {k : Nat × Nat} (n : Nat) (h : xe_X9_firstWaiting ct (Go M_X9_firstWaiting Q) Q n pc ls st σ k) : Go M_X9_firstWaiting Q pc ls st σ k := Go.exS mm_X9_firstWaiting h

set_option maxRecDepth 20000 in
theorem c_X9_firstWaiting : Ct yX9_firstWaiting cX9_firstWaiting 2 ((some (FieldType.object "AlarmBoxes$Box"))) 4 0 0 sp_X9_firstWaiting := by
  refine Ct.go (M := M_X9_firstWaiting) mm_X9_firstWaiting fun av σ Q h0 => ?_
  obtain ⟨this, rfl, hk, h⟩ := el_X9_firstWaiting h0
  clear h0
  refine ⟨Nat.le_of_ble_eq_true rfl, ?_⟩
  show Go M_X9_firstWaiting Q 0 [some (vr this), none] [] σ (0, 0)
  obtain ⟨hL, h⟩ := h
  have hN := hL.n
  refine Go.wf fun hw => ?_
  have loop : ∀ (m i : Nat), (i : Int) + m = (fI σ 1402 (fR σ 1000 this)) → cFw σ this i = 0 → Go M_X9_firstWaiting Q 2 [some (vr this), some (vi i)] [] σ (0, 0) := by
    intro m
    induction m with
    | zero =>
      intro i h1 h2
      have e : ((fI σ 1402 (fR σ 1000 this))).toNat = i := by omega
      rw [e, h2] at h
      refine go_X9_firstWaiting (ct := fun p => p == 13) 40 ?_
      simp only [oI, oL, oR, o1, lI, lL, lR, popN, catS, gv, stL, stL2, swt, cnd, spObj, List.getElem?_cons_zero, List.getElem?_cons_succ, List.getD_cons_zero, List.getD_cons_succ, List.set_cons_zero, List.set_cons_succ, List.nil_append, List.cons_append, Option.toList, Bool.or_false, Bool.false_or, Bool.or_true, Bool.true_or, Nat.reduceBEq, Nat.reduceAdd, Nat.reduceLT, Nat.reduceLeDiff, Int.reduceAdd, Int.reduceToNat, true_and, and_true, Fin.isValue, Fin.val_zero, Fin.val_one, Fin.val_two, Fin.reduceFinMk, eq_self, Int.reduceNeg, imp_self, Nat.reduceMul, Nat.le_refl, not_true_eq_false, not_false_eq_true, List.getElem?_nil, reduceCtorEq, true_or, or_true, Classical.not_not, implies_true, or_self, wI_0, wI_1, wI_m1, b2i_w, b2i_eq0, b2i_eq1, b2i_bool, nor_self, nx_pI, kd_pI, ln_pI, fI_pI, fL_pI, fR_pI, aI_pI, aL_pI, aR_pI, nx_pL, kd_pL, ln_pL, fI_pL, fL_pL, fR_pL, aI_pL, aL_pL, aR_pL, nx_pR, kd_pR, ln_pR, fI_pR, fL_pR, fR_pR, aI_pR, aL_pR, aR_pR, nx_qI, kd_qI, ln_qI, fI_qI, fL_qI, fR_qI, aI_qI, aL_qI, aR_qI, nx_qL, kd_qL, ln_qL, fI_qL, fL_qL, fR_qL, aI_qL, aL_qL, aR_qL, nx_qR, kd_qR, ln_qR, fI_qR, fL_qR, fR_qR, aI_qR, aL_qR, aR_qR, nx_mk, kd_mk, ln_mk, fI_mk, fL_mk, fR_mk, aI_mk, aL_mk, aR_mk, false_and, and_false, if_false, if_true, and_self, Int.reduceEq, Nat.reduceEqDiff, ite_self, MLay_pI, MLay_pL, MLay_qI, MLay_qL, ev_X9_firstWaiting_0, ev_X9_firstWaiting_1, ev_X9_firstWaiting_2, ev_X9_firstWaiting_3, ev_X9_firstWaiting_4, ev_X9_firstWaiting_7, ev_X9_firstWaiting_10, ev_X9_firstWaiting_13, ev_X9_firstWaiting_14, ev_X9_firstWaiting_17, ev_X9_firstWaiting_18, ev_X9_firstWaiting_21, ev_X9_firstWaiting_24, ev_X9_firstWaiting_27, ev_X9_firstWaiting_30, ev_X9_firstWaiting_31, ev_X9_firstWaiting_34, ev_X9_firstWaiting_35, ev_X9_firstWaiting_38, ev_X9_firstWaiting_41, ev_X9_firstWaiting_42, ev_X9_firstWaiting_45, ev_X9_firstWaiting_48, ev_X9_firstWaiting_49, xt_X9_firstWaiting, xf_X9_firstWaiting, us_Jx4a65c_size_8abf5, us_Jx4a65c_get_915e3, hk, hL.lk]
      try simp (disch := omega) only [wI_id, dv_nn, rm_nn]
      repeat' (first | intro z | apply And.intro)
      all_goals try omega
      all_goals try contradiction
      all_goals exact h
    | succ m ih =>
      intro i h1 h2
      have hb := hL.b (k := i) (by omega) (by omega)
      have hbk := hb.1
      obtain ⟨-, -, -, -, -, -, -, -, -, -, -, hbw, -⟩ := hb
      have hz : ¬ (lat σ (fR σ 1000 this) i) = 0 := fun z => (hw.2.1 ((lat σ (fR σ 1000 this) i)) (by rw [show kd σ ((lat σ (fR σ 1000 this) i)) = 3 from hbk]; decide)).1 z
      by_cases c : fI σ 312 ((lat σ (fR σ 1000 this) i)) = 0
      · have w := ih (i + 1) (by omega) (by show (if _ then _ else _) = _; rw [if_pos h2, if_pos c])
        clear ih h
        refine go_X9_firstWaiting (ct := fun p => p == 48 || p == 2 || p == 30) 40 ?_
        simp only [oI, oL, oR, o1, lI, lL, lR, popN, catS, gv, stL, stL2, swt, cnd, spObj, List.getElem?_cons_zero, List.getElem?_cons_succ, List.getD_cons_zero, List.getD_cons_succ, List.set_cons_zero, List.set_cons_succ, List.nil_append, List.cons_append, Option.toList, Bool.or_false, Bool.false_or, Bool.or_true, Bool.true_or, Nat.reduceBEq, Nat.reduceAdd, Nat.reduceLT, Nat.reduceLeDiff, Int.reduceAdd, Int.reduceToNat, true_and, and_true, Fin.isValue, Fin.val_zero, Fin.val_one, Fin.val_two, Fin.reduceFinMk, eq_self, Int.reduceNeg, imp_self, Nat.reduceMul, Nat.le_refl, not_true_eq_false, not_false_eq_true, List.getElem?_nil, reduceCtorEq, true_or, or_true, Classical.not_not, implies_true, or_self, wI_0, wI_1, wI_m1, b2i_w, b2i_eq0, b2i_eq1, b2i_bool, nor_self, nx_pI, kd_pI, ln_pI, fI_pI, fL_pI, fR_pI, aI_pI, aL_pI, aR_pI, nx_pL, kd_pL, ln_pL, fI_pL, fL_pL, fR_pL, aI_pL, aL_pL, aR_pL, nx_pR, kd_pR, ln_pR, fI_pR, fL_pR, fR_pR, aI_pR, aL_pR, aR_pR, nx_qI, kd_qI, ln_qI, fI_qI, fL_qI, fR_qI, aI_qI, aL_qI, aR_qI, nx_qL, kd_qL, ln_qL, fI_qL, fL_qL, fR_qL, aI_qL, aL_qL, aR_qL, nx_qR, kd_qR, ln_qR, fI_qR, fL_qR, fR_qR, aI_qR, aL_qR, aR_qR, nx_mk, kd_mk, ln_mk, fI_mk, fL_mk, fR_mk, aI_mk, aL_mk, aR_mk, false_and, and_false, if_false, if_true, and_self, Int.reduceEq, Nat.reduceEqDiff, ite_self, MLay_pI, MLay_pL, MLay_qI, MLay_qL, ev_X9_firstWaiting_2, ev_X9_firstWaiting_3, ev_X9_firstWaiting_4, ev_X9_firstWaiting_7, ev_X9_firstWaiting_10, ev_X9_firstWaiting_13, ev_X9_firstWaiting_14, ev_X9_firstWaiting_17, ev_X9_firstWaiting_18, ev_X9_firstWaiting_21, ev_X9_firstWaiting_24, ev_X9_firstWaiting_27, ev_X9_firstWaiting_30, ev_X9_firstWaiting_31, ev_X9_firstWaiting_34, ev_X9_firstWaiting_35, ev_X9_firstWaiting_38, ev_X9_firstWaiting_41, ev_X9_firstWaiting_42, ev_X9_firstWaiting_45, xt_X9_firstWaiting, xf_X9_firstWaiting, us_Jx4a65c_size_8abf5, us_Jx4a65c_get_915e3, hk, hL.lk, hL.le, hbk]
        try simp (disch := omega) only [wI_id, dv_nn, rm_nn]
        repeat' (first | intro z | apply And.intro)
        all_goals try omega
        all_goals try contradiction
        all_goals exact w
      · have e := cFw_at h2 c hz m
        rw [show i + 1 + m = ((fI σ 1402 (fR σ 1000 this))).toNat by omega] at e
        rw [e] at h
        clear ih
        refine go_X9_firstWaiting (ct := fun p => p == 48 || p == 42) 40 ?_
        simp only [oI, oL, oR, o1, lI, lL, lR, popN, catS, gv, stL, stL2, swt, cnd, spObj, List.getElem?_cons_zero, List.getElem?_cons_succ, List.getD_cons_zero, List.getD_cons_succ, List.set_cons_zero, List.set_cons_succ, List.nil_append, List.cons_append, Option.toList, Bool.or_false, Bool.false_or, Bool.or_true, Bool.true_or, Nat.reduceBEq, Nat.reduceAdd, Nat.reduceLT, Nat.reduceLeDiff, Int.reduceAdd, Int.reduceToNat, true_and, and_true, Fin.isValue, Fin.val_zero, Fin.val_one, Fin.val_two, Fin.reduceFinMk, eq_self, Int.reduceNeg, imp_self, Nat.reduceMul, Nat.le_refl, not_true_eq_false, not_false_eq_true, List.getElem?_nil, reduceCtorEq, true_or, or_true, Classical.not_not, implies_true, or_self, wI_0, wI_1, wI_m1, b2i_w, b2i_eq0, b2i_eq1, b2i_bool, nor_self, nx_pI, kd_pI, ln_pI, fI_pI, fL_pI, fR_pI, aI_pI, aL_pI, aR_pI, nx_pL, kd_pL, ln_pL, fI_pL, fL_pL, fR_pL, aI_pL, aL_pL, aR_pL, nx_pR, kd_pR, ln_pR, fI_pR, fL_pR, fR_pR, aI_pR, aL_pR, aR_pR, nx_qI, kd_qI, ln_qI, fI_qI, fL_qI, fR_qI, aI_qI, aL_qI, aR_qI, nx_qL, kd_qL, ln_qL, fI_qL, fL_qL, fR_qL, aI_qL, aL_qL, aR_qL, nx_qR, kd_qR, ln_qR, fI_qR, fL_qR, fR_qR, aI_qR, aL_qR, aR_qR, nx_mk, kd_mk, ln_mk, fI_mk, fL_mk, fR_mk, aI_mk, aL_mk, aR_mk, false_and, and_false, if_false, if_true, and_self, Int.reduceEq, Nat.reduceEqDiff, ite_self, MLay_pI, MLay_pL, MLay_qI, MLay_qL, ev_X9_firstWaiting_2, ev_X9_firstWaiting_3, ev_X9_firstWaiting_4, ev_X9_firstWaiting_7, ev_X9_firstWaiting_10, ev_X9_firstWaiting_13, ev_X9_firstWaiting_14, ev_X9_firstWaiting_17, ev_X9_firstWaiting_18, ev_X9_firstWaiting_21, ev_X9_firstWaiting_24, ev_X9_firstWaiting_27, ev_X9_firstWaiting_30, ev_X9_firstWaiting_31, ev_X9_firstWaiting_34, ev_X9_firstWaiting_35, ev_X9_firstWaiting_38, ev_X9_firstWaiting_41, xt_X9_firstWaiting, xf_X9_firstWaiting, us_Jx4a65c_size_8abf5, us_Jx4a65c_get_915e3, hk, hL.lk, hL.le, hbk]
        try simp (disch := omega) only [wI_id, dv_nn, rm_nn]
        repeat' (first | intro z | apply And.intro)
        all_goals try omega
        all_goals try contradiction
        all_goals exact h
  have w := loop ((fI σ 1402 (fR σ 1000 this))).toNat 0 (by show ((0 : Nat) : Int) + _ = _; omega) rfl
  refine go_X9_firstWaiting (ct := fun p => p == 2) 40 ?_
  simp only [oI, oL, oR, o1, lI, lL, lR, popN, catS, gv, stL, stL2, swt, cnd, spObj, List.getElem?_cons_zero, List.getElem?_cons_succ, List.getD_cons_zero, List.getD_cons_succ, List.set_cons_zero, List.set_cons_succ, List.nil_append, List.cons_append, Option.toList, Bool.or_false, Bool.false_or, Bool.or_true, Bool.true_or, Nat.reduceBEq, Nat.reduceAdd, Nat.reduceLT, Nat.reduceLeDiff, Int.reduceAdd, Int.reduceToNat, true_and, and_true, Fin.isValue, Fin.val_zero, Fin.val_one, Fin.val_two, Fin.reduceFinMk, eq_self, Int.reduceNeg, imp_self, Nat.reduceMul, Nat.le_refl, not_true_eq_false, not_false_eq_true, List.getElem?_nil, reduceCtorEq, true_or, or_true, Classical.not_not, implies_true, or_self, wI_0, wI_1, wI_m1, b2i_w, b2i_eq0, b2i_eq1, b2i_bool, nor_self, nx_pI, kd_pI, ln_pI, fI_pI, fL_pI, fR_pI, aI_pI, aL_pI, aR_pI, nx_pL, kd_pL, ln_pL, fI_pL, fL_pL, fR_pL, aI_pL, aL_pL, aR_pL, nx_pR, kd_pR, ln_pR, fI_pR, fL_pR, fR_pR, aI_pR, aL_pR, aR_pR, nx_qI, kd_qI, ln_qI, fI_qI, fL_qI, fR_qI, aI_qI, aL_qI, aR_qI, nx_qL, kd_qL, ln_qL, fI_qL, fL_qL, fR_qL, aI_qL, aL_qL, aR_qL, nx_qR, kd_qR, ln_qR, fI_qR, fL_qR, fR_qR, aI_qR, aL_qR, aR_qR, nx_mk, kd_mk, ln_mk, fI_mk, fL_mk, fR_mk, aI_mk, aL_mk, aR_mk, false_and, and_false, if_false, if_true, and_self, Int.reduceEq, Nat.reduceEqDiff, ite_self, MLay_pI, MLay_pL, MLay_qI, MLay_qL, ev_X9_firstWaiting_0, ev_X9_firstWaiting_1, xt_X9_firstWaiting, xf_X9_firstWaiting, us_Jx4a65c_size_8abf5, us_Jx4a65c_get_915e3]
  exact w

def cBusy (σ : Hp) (q t : Int) : Prop := bE ((fI σ 1402 (fR σ 1000 q))) fun k => cGo σ ((lat σ (fR σ 1000 q) k)) t
def cHear (σ : Hp) (q t : Int) : Prop := bE ((fI σ 1402 (fR σ 1000 q))) fun k => cGo σ ((lat σ (fR σ 1000 q) k)) t ∧ whl σ ((lat σ (fR σ 1000 q) k)) (t - fI σ 313 ((lat σ (fR σ 1000 q) k))) = true ∧ ¬ cSil σ q k
theorem BxR.t {σ : Hp} {p : Int} (h : BxR σ p) : (-1 ≤ fI σ 313 p ∧ fI σ 313 p ≤ 1000000) ∧ (0 ≤ fI σ 309 p ∧ fI σ 309 p ≤ 150) ∧ (0 ≤ fI σ 312 p ∧ fI σ 312 p ≤ 1) := by
  obtain ⟨-, -, -, -, -, -, -, -, -, -, h1, h2, h3⟩ := h
  exact ⟨h3, h1, h2⟩

def sp_X9_hasOneOn : Sp := fun av σ Q => oR av fun this av => oI av fun t av => av = [] ∧ kd σ this = 10 ∧ (LpO σ this ∧ (0 ≤ t ∧ t ≤ 2000000) ∧ Q (some (vi (b2i (cBusy σ this t)))) σ)
theorem us_X9_hasOneOn (this : Int) (t : Int) (σ : Hp) (Q : Option AV → Hp → Prop) : sp_X9_hasOneOn [vr this, vi t] σ Q = (kd σ this = 10 ∧ (LpO σ this ∧ (0 ≤ t ∧ t ≤ 2000000) ∧ Q (some (vi (b2i (cBusy σ this t)))) σ)) := propext ⟨fun h => h.2, fun h => ⟨rfl, h⟩⟩
theorem el_X9_hasOneOn {av : List AV} {σ : Hp} {Q : Option AV → Hp → Prop} (h : sp_X9_hasOneOn av σ Q) : ∃ (this : Int) (t : Int), av = [vr this, vi t] ∧ (kd σ this = 10 ∧ (LpO σ this ∧ (0 ≤ t ∧ t ≤ 2000000) ∧ Q (some (vi (b2i (cBusy σ this t)))) σ)) := by
  obtain ⟨this, a0, rfl, h0⟩ := oR_s h
  obtain ⟨t, a1, rfl, h1⟩ := oI_s h0
  obtain ⟨rfl, hz⟩ := h1
  exact ⟨this, t, rfl, hz⟩
theorem rc_X9_hasOneOn : ∀ (av : List AV) (σ : Hp) (Q : Option AV → Hp → Prop), sp_X9_hasOneOn av σ Q → ∃ r tl, av = vr r :: tl ∧ kd σ r = 9 + 1 := fun av σ Q h => by
  obtain ⟨this, t, rfl, hz, -⟩ := el_X9_hasOneOn h
  exact ⟨this, _, rfl, hz⟩

def tb_X9_hasOneOn : Tab := [(0, .iconst 0, 1, (0, 0, 0, 0)), (1, .istore_n 2, 1, (0, 0, 0, 0)), (2, .iload_n 2, 1, (0, 0, 0, 0)), (3, .aload_n 0, 1, (0, 0, 0, 0)), (4, .getfield 12, 3, (10, 1000, 2, 0)), (7, .invokevirtual 42, 3, (0, 0, 0, 0)), (10, .if_icmp .ge 29, 3, (0, 0, 0, 0)), (13, .aload_n 0, 1, (0, 0, 0, 0)), (14, .getfield 12, 3, (10, 1000, 2, 0)), (17, .iload_n 2, 1, (0, 0, 0, 0)), (18, .invokevirtual 46, 3, (0, 0, 0, 0)), (21, .checkcast 50, 3, (3, 0, 0, 0)), (24, .iload_n 1, 1, (0, 0, 0, 0)), (25, .invokevirtual 80, 3, (0, 0, 0, 0)), (28, .ifCond .eq 5, 3, (0, 0, 0, 0)), (31, .iconst 1, 1, (0, 0, 0, 0)), (32, .ireturn, 1, (0, 0, 0, 0)), (33, .iinc 2 1, 3, (0, 0, 0, 0)), (36, .goto (-34), 3, (0, 0, 0, 0)), (39, .iconst 0, 1, (0, 0, 0, 0)), (40, .ireturn, 1, (0, 0, 0, 0))]
set_option maxRecDepth 100000 in
theorem tk_X9_hasOneOn : TOK RX9 false cX9_hasOneOn tb_X9_hasOneOn := chkT_ok ft_X9 (by decide +kernel)
theorem rw_X9_640 : Row RX9 (.invokevirtual 80) 3 2 0 0 1 sp_X2_goesOn := row_V (n := 1) (ci := 2) c_X2_goesOn ⟨TBL_in 505 (by decide +kernel) rfl, TBL_in 508 (by decide +kernel) rfl, TBL_in 126 (by decide +kernel) rfl, by decide +kernel, by decide⟩ (by decide) rfl (TBL_in 506 (by decide +kernel) rfl) (TBL_in 507 (by decide +kernel) rfl) rc_X2_goesOn
def mt_X9_hasOneOn : List (Nat × Mt) := [(336, 1, 0, 0, 1, sp_Jx4a65c_size_8abf5), (368, 2, 0, 0, 3, sp_Jx4a65c_get_915e3), (640, 2, 0, 0, 1, sp_X2_goesOn)]
theorem em_X9_hasOneOn : mt_X9_hasOneOn.lookup 336 = some (1, 0, 0, 1, sp_Jx4a65c_size_8abf5) ∧ mt_X9_hasOneOn.lookup 368 = some (2, 0, 0, 3, sp_Jx4a65c_get_915e3) ∧ mt_X9_hasOneOn.lookup 640 = some (2, 0, 0, 1, sp_X2_goesOn) := ⟨rfl, rfl, rfl⟩
theorem mk_X9_hasOneOn : MOK RX9 mt_X9_hasOneOn := by
  intro q hq
  simp only [mt_X9_hasOneOn, List.mem_cons, List.not_mem_nil, or_false] at hq
  rcases hq with rfl | rfl | rfl
  · exact rw_X9_336
  · exact rw_X9_368
  · exact rw_X9_640
noncomputable def xe_X9_hasOneOn (ct : Nat → Bool) (K : Kt) (R : Option AV → Hp → Prop) (n : Nat) : Kt := exS 3 4 0 0 2 tb_X9_hasOneOn mt_X9_hasOneOn ct K R n
noncomputable def xk_X9_hasOneOn (ct : Nat → Bool) (K : Kt) (R : Option AV → Hp → Prop) (n : Nat) : Kt := exkS 3 4 0 0 2 tb_X9_hasOneOn mt_X9_hasOneOn ct K R n
theorem xt_X9_hasOneOn {ct : Nat → Bool} {K : Kt} {R : Option AV → Hp → Prop} {n pc : Nat} {ls : List (Option AV)} {st : List AV} {σ : Hp} {k : Nat × Nat} (h : ct pc = true) : xk_X9_hasOneOn ct K R n pc ls st σ k = K pc ls st σ k := by unfold xk_X9_hasOneOn exkS; rw [h]
theorem xf_X9_hasOneOn {ct : Nat → Bool} {K : Kt} {R : Option AV → Hp → Prop} {n pc : Nat} {ls : List (Option AV)} {st : List AV} {σ : Hp} {k : Nat × Nat} (h : ct pc = false) : xk_X9_hasOneOn ct K R n pc ls st σ k = xe_X9_hasOneOn ct K R n pc ls st σ k := by unfold xk_X9_hasOneOn exkS xe_X9_hasOneOn; rw [h]
theorem ev_X9_hasOneOn_0 {ct : Nat → Bool} {K : Kt} {R : Option AV → Hp → Prop} {n : Nat} {ls : List (Option AV)} {st : List AV} {σ : Hp} {k : Nat × Nat} : xe_X9_hasOneOn ct K R (n + 1) 0 ls st σ k = (xk_X9_hasOneOn ct K R n 1 ls (vi (0) :: st) σ k) := exS_step.trans rfl
theorem ev_X9_hasOneOn_1 {ct : Nat → Bool} {K : Kt} {R : Option AV → Hp → Prop} {n : Nat} {ls : List (Option AV)} {st : List AV} {σ : Hp} {k : Nat × Nat} : xe_X9_hasOneOn ct K R (n + 1) 1 ls st σ k = (oI st fun x st => 2 < 3 ∧ xk_X9_hasOneOn ct K R n 2 (stL ls 2 (vi x)) st σ k) := exS_step.trans rfl
theorem ev_X9_hasOneOn_2 {ct : Nat → Bool} {K : Kt} {R : Option AV → Hp → Prop} {n : Nat} {ls : List (Option AV)} {st : List AV} {σ : Hp} {k : Nat × Nat} : xe_X9_hasOneOn ct K R (n + 1) 2 ls st σ k = (lI ls 2 fun x => xk_X9_hasOneOn ct K R n 3 ls (vi x :: st) σ k) := exS_step.trans rfl
theorem ev_X9_hasOneOn_3 {ct : Nat → Bool} {K : Kt} {R : Option AV → Hp → Prop} {n : Nat} {ls : List (Option AV)} {st : List AV} {σ : Hp} {k : Nat × Nat} : xe_X9_hasOneOn ct K R (n + 1) 3 ls st σ k = (lR ls 0 fun x => xk_X9_hasOneOn ct K R n 4 ls (vr x :: st) σ k) := exS_step.trans rfl
theorem ev_X9_hasOneOn_4 {ct : Nat → Bool} {K : Kt} {R : Option AV → Hp → Prop} {n : Nat} {ls : List (Option AV)} {st : List AV} {σ : Hp} {k : Nat × Nat} : xe_X9_hasOneOn ct K R (n + 1) 4 ls st σ k = (oR st fun x st => kd σ x = 10 ∧ xk_X9_hasOneOn ct K R n 7 ls (vr (fR σ 1000 x) :: st) σ k) := exS_step.trans rfl
theorem ev_X9_hasOneOn_7 {ct : Nat → Bool} {K : Kt} {R : Option AV → Hp → Prop} {n : Nat} {ls : List (Option AV)} {st : List AV} {σ : Hp} {k : Nat × Nat} : xe_X9_hasOneOn ct K R (n + 1) 7 ls st σ k = (popN 1 st [] fun av rest => (catS rest ≤ 8 ∧ 1 < 4 ∧ k.1 + 0 ≤ 0 ∧ k.2 + 0 ≤ 0) ∧ (sp_Jx4a65c_size_8abf5) av σ fun v σ' => xk_X9_hasOneOn ct K R n 10 ls (v.toList ++ rest) σ' (k.1 + 0, k.2 + 0)) := exS_step.trans rfl
theorem ev_X9_hasOneOn_10 {ct : Nat → Bool} {K : Kt} {R : Option AV → Hp → Prop} {n : Nat} {ls : List (Option AV)} {st : List AV} {σ : Hp} {k : Nat × Nat} : xe_X9_hasOneOn ct K R (n + 1) 10 ls st σ k = (oI st fun y st => oI st fun x st => (wI y ≤ wI x → xk_X9_hasOneOn ct K R n 39 ls st σ k) ∧ (¬ (wI y ≤ wI x) → xk_X9_hasOneOn ct K R n 13 ls st σ k)) := exS_step.trans rfl
theorem ev_X9_hasOneOn_13 {ct : Nat → Bool} {K : Kt} {R : Option AV → Hp → Prop} {n : Nat} {ls : List (Option AV)} {st : List AV} {σ : Hp} {k : Nat × Nat} : xe_X9_hasOneOn ct K R (n + 1) 13 ls st σ k = (lR ls 0 fun x => xk_X9_hasOneOn ct K R n 14 ls (vr x :: st) σ k) := exS_step.trans rfl
theorem ev_X9_hasOneOn_14 {ct : Nat → Bool} {K : Kt} {R : Option AV → Hp → Prop} {n : Nat} {ls : List (Option AV)} {st : List AV} {σ : Hp} {k : Nat × Nat} : xe_X9_hasOneOn ct K R (n + 1) 14 ls st σ k = (oR st fun x st => kd σ x = 10 ∧ xk_X9_hasOneOn ct K R n 17 ls (vr (fR σ 1000 x) :: st) σ k) := exS_step.trans rfl
theorem ev_X9_hasOneOn_17 {ct : Nat → Bool} {K : Kt} {R : Option AV → Hp → Prop} {n : Nat} {ls : List (Option AV)} {st : List AV} {σ : Hp} {k : Nat × Nat} : xe_X9_hasOneOn ct K R (n + 1) 17 ls st σ k = (lI ls 2 fun x => xk_X9_hasOneOn ct K R n 18 ls (vi x :: st) σ k) := exS_step.trans rfl
theorem ev_X9_hasOneOn_18 {ct : Nat → Bool} {K : Kt} {R : Option AV → Hp → Prop} {n : Nat} {ls : List (Option AV)} {st : List AV} {σ : Hp} {k : Nat × Nat} : xe_X9_hasOneOn ct K R (n + 1) 18 ls st σ k = (popN 2 st [] fun av rest => (catS rest ≤ 8 ∧ 3 < 4 ∧ k.1 + 0 ≤ 0 ∧ k.2 + 0 ≤ 0) ∧ (sp_Jx4a65c_get_915e3) av σ fun v σ' => xk_X9_hasOneOn ct K R n 21 ls (v.toList ++ rest) σ' (k.1 + 0, k.2 + 0)) := exS_step.trans rfl
theorem ev_X9_hasOneOn_21 {ct : Nat → Bool} {K : Kt} {R : Option AV → Hp → Prop} {n : Nat} {ls : List (Option AV)} {st : List AV} {σ : Hp} {k : Nat × Nat} : xe_X9_hasOneOn ct K R (n + 1) 21 ls st σ k = (oR st fun x st => kd σ x = 3 ∧ xk_X9_hasOneOn ct K R n 24 ls (vr x :: st) σ k) := exS_step.trans rfl
theorem ev_X9_hasOneOn_24 {ct : Nat → Bool} {K : Kt} {R : Option AV → Hp → Prop} {n : Nat} {ls : List (Option AV)} {st : List AV} {σ : Hp} {k : Nat × Nat} : xe_X9_hasOneOn ct K R (n + 1) 24 ls st σ k = (lI ls 1 fun x => xk_X9_hasOneOn ct K R n 25 ls (vi x :: st) σ k) := exS_step.trans rfl
theorem ev_X9_hasOneOn_25 {ct : Nat → Bool} {K : Kt} {R : Option AV → Hp → Prop} {n : Nat} {ls : List (Option AV)} {st : List AV} {σ : Hp} {k : Nat × Nat} : xe_X9_hasOneOn ct K R (n + 1) 25 ls st σ k = (popN 2 st [] fun av rest => (catS rest ≤ 8 ∧ 1 < 4 ∧ k.1 + 0 ≤ 0 ∧ k.2 + 0 ≤ 0) ∧ (sp_X2_goesOn) av σ fun v σ' => xk_X9_hasOneOn ct K R n 28 ls (v.toList ++ rest) σ' (k.1 + 0, k.2 + 0)) := exS_step.trans rfl
theorem ev_X9_hasOneOn_28 {ct : Nat → Bool} {K : Kt} {R : Option AV → Hp → Prop} {n : Nat} {ls : List (Option AV)} {st : List AV} {σ : Hp} {k : Nat × Nat} : xe_X9_hasOneOn ct K R (n + 1) 28 ls st σ k = (oI st fun x st => (wI x = wI 0 → xk_X9_hasOneOn ct K R n 33 ls st σ k) ∧ (¬ (wI x = wI 0) → xk_X9_hasOneOn ct K R n 31 ls st σ k)) := exS_step.trans rfl
theorem ev_X9_hasOneOn_31 {ct : Nat → Bool} {K : Kt} {R : Option AV → Hp → Prop} {n : Nat} {ls : List (Option AV)} {st : List AV} {σ : Hp} {k : Nat × Nat} : xe_X9_hasOneOn ct K R (n + 1) 31 ls st σ k = (xk_X9_hasOneOn ct K R n 32 ls (vi (1) :: st) σ k) := exS_step.trans rfl
theorem ev_X9_hasOneOn_32 {ct : Nat → Bool} {K : Kt} {R : Option AV → Hp → Prop} {n : Nat} {ls : List (Option AV)} {st : List AV} {σ : Hp} {k : Nat × Nat} : xe_X9_hasOneOn ct K R (n + 1) 32 ls st σ k = (oI st fun x st => st = [] ∧ (x = 0 ∨ x = 1) ∧ R (some (vi x)) σ) := exS_step.trans rfl
theorem ev_X9_hasOneOn_33 {ct : Nat → Bool} {K : Kt} {R : Option AV → Hp → Prop} {n : Nat} {ls : List (Option AV)} {st : List AV} {σ : Hp} {k : Nat × Nat} : xe_X9_hasOneOn ct K R (n + 1) 33 ls st σ k = (lI ls 2 fun x => 2 < 3 ∧ xk_X9_hasOneOn ct K R n 36 (stL ls 2 (vi (x + (1)))) st σ k) := exS_step.trans rfl
theorem ev_X9_hasOneOn_36 {ct : Nat → Bool} {K : Kt} {R : Option AV → Hp → Prop} {n : Nat} {ls : List (Option AV)} {st : List AV} {σ : Hp} {k : Nat × Nat} : xe_X9_hasOneOn ct K R (n + 1) 36 ls st σ k = (xk_X9_hasOneOn ct K R n 2 ls st σ k) := exS_step.trans rfl
theorem ev_X9_hasOneOn_39 {ct : Nat → Bool} {K : Kt} {R : Option AV → Hp → Prop} {n : Nat} {ls : List (Option AV)} {st : List AV} {σ : Hp} {k : Nat × Nat} : xe_X9_hasOneOn ct K R (n + 1) 39 ls st σ k = (xk_X9_hasOneOn ct K R n 40 ls (vi (0) :: st) σ k) := exS_step.trans rfl
theorem ev_X9_hasOneOn_40 {ct : Nat → Bool} {K : Kt} {R : Option AV → Hp → Prop} {n : Nat} {ls : List (Option AV)} {st : List AV} {σ : Hp} {k : Nat × Nat} : xe_X9_hasOneOn ct K R (n + 1) 40 ls st σ k = (oI st fun x st => st = [] ∧ (x = 0 ∨ x = 1) ∧ R (some (vi x)) σ) := exS_step.trans rfl
def M_X9_hasOneOn : Md := (yX9_hasOneOn, cX9_hasOneOn, 3, (some FieldType.boolean), 4, 0, 0, 2, false, tb_X9_hasOneOn, mt_X9_hasOneOn)
theorem mm_X9_hasOneOn : MMOK M_X9_hasOneOn := ⟨by decide +kernel, tk_X9_hasOneOn, mk_X9_hasOneOn, rfl, fun h => by cases h⟩
theorem go_X9_hasOneOn {Q : Option AV → Hp → Prop} {ct : Nat → Bool} {pc : Nat} {ls : List (Option AV)} {st : List AV} {σ : Hp} {k : Nat × Nat} (n : Nat) (h : xe_X9_hasOneOn ct (Go M_X9_hasOneOn Q) Q n pc ls st σ k) : Go M_X9_hasOneOn Q pc ls st σ k := Go.exS mm_X9_hasOneOn h

set_option maxRecDepth 20000 in
theorem c_X9_hasOneOn : Ct yX9_hasOneOn cX9_hasOneOn 3 ((some FieldType.boolean)) 4 0 0 sp_X9_hasOneOn := by
  refine Ct.go (M := M_X9_hasOneOn) mm_X9_hasOneOn fun av σ Q h0 => ?_
  obtain ⟨this, t, rfl, hk, h⟩ := el_X9_hasOneOn h0
  clear h0
  refine ⟨Nat.le_of_ble_eq_true rfl, ?_⟩
  show Go M_X9_hasOneOn Q 0 [some (vr this), some (vi t), none] [] σ (0, 0)
  obtain ⟨hL, ht, h⟩ := h
  have hN := hL.n
  have loop : ∀ (m : Nat) (i : Int), 0 ≤ i → i + m = (fI σ 1402 (fR σ 1000 this)) → (∀ j, 0 ≤ j → j < i → ¬ cGo σ ((lat σ (fR σ 1000 this) j)) t) → Go M_X9_hasOneOn Q 2 [some (vr this), some (vi t), some (vi i)] [] σ (0, 0) := by
    intro m
    induction m with
    | zero =>
      intro i h0 h1 hno
      rw [b2i_f (fun ⟨j, a, b, e⟩ => hno j a (by omega) e)] at h
      clear hno
      refine go_X9_hasOneOn (ct := fun p => p == 13) 40 ?_
      simp only [oI, oL, oR, o1, lI, lL, lR, popN, catS, gv, stL, stL2, swt, cnd, spObj, List.getElem?_cons_zero, List.getElem?_cons_succ, List.getD_cons_zero, List.getD_cons_succ, List.set_cons_zero, List.set_cons_succ, List.nil_append, List.cons_append, Option.toList, Bool.or_false, Bool.false_or, Bool.or_true, Bool.true_or, Nat.reduceBEq, Nat.reduceAdd, Nat.reduceLT, Nat.reduceLeDiff, Int.reduceAdd, Int.reduceToNat, true_and, and_true, Fin.isValue, Fin.val_zero, Fin.val_one, Fin.val_two, Fin.reduceFinMk, eq_self, Int.reduceNeg, imp_self, Nat.reduceMul, Nat.le_refl, not_true_eq_false, not_false_eq_true, List.getElem?_nil, reduceCtorEq, true_or, or_true, Classical.not_not, implies_true, or_self, wI_0, wI_1, wI_m1, b2i_w, b2i_eq0, b2i_eq1, b2i_bool, nor_self, nx_pI, kd_pI, ln_pI, fI_pI, fL_pI, fR_pI, aI_pI, aL_pI, aR_pI, nx_pL, kd_pL, ln_pL, fI_pL, fL_pL, fR_pL, aI_pL, aL_pL, aR_pL, nx_pR, kd_pR, ln_pR, fI_pR, fL_pR, fR_pR, aI_pR, aL_pR, aR_pR, nx_qI, kd_qI, ln_qI, fI_qI, fL_qI, fR_qI, aI_qI, aL_qI, aR_qI, nx_qL, kd_qL, ln_qL, fI_qL, fL_qL, fR_qL, aI_qL, aL_qL, aR_qL, nx_qR, kd_qR, ln_qR, fI_qR, fL_qR, fR_qR, aI_qR, aL_qR, aR_qR, nx_mk, kd_mk, ln_mk, fI_mk, fL_mk, fR_mk, aI_mk, aL_mk, aR_mk, false_and, and_false, if_false, if_true, and_self, Int.reduceEq, Nat.reduceEqDiff, ite_self, MLay_pI, MLay_pL, MLay_qI, MLay_qL, ev_X9_hasOneOn_0, ev_X9_hasOneOn_1, ev_X9_hasOneOn_2, ev_X9_hasOneOn_3, ev_X9_hasOneOn_4, ev_X9_hasOneOn_7, ev_X9_hasOneOn_10, ev_X9_hasOneOn_13, ev_X9_hasOneOn_14, ev_X9_hasOneOn_17, ev_X9_hasOneOn_18, ev_X9_hasOneOn_21, ev_X9_hasOneOn_24, ev_X9_hasOneOn_25, ev_X9_hasOneOn_28, ev_X9_hasOneOn_31, ev_X9_hasOneOn_32, ev_X9_hasOneOn_33, ev_X9_hasOneOn_36, ev_X9_hasOneOn_39, ev_X9_hasOneOn_40, xt_X9_hasOneOn, xf_X9_hasOneOn, us_Jx4a65c_size_8abf5, us_Jx4a65c_get_915e3, us_X2_goesOn, hk, hL.lk]
      try simp (disch := omega) only [wI_id, dv_nn, rm_nn]
      repeat' (first | intro z | apply And.intro)
      all_goals try omega
      all_goals try contradiction
      all_goals exact h
    | succ m ih =>
      intro i h0 h1 hno
      have hb := hL.b h0 (by omega)
      have hbk := hb.1
      have hbt := hb.t
      clear hb
      by_cases e : cGo σ ((lat σ (fR σ 1000 this) i)) t
      · rw [b2i_t ⟨i, h0, by omega, e⟩] at h
        clear ih hno
        refine go_X9_hasOneOn (ct := fun p => p == 39 || p == 33) 40 ?_
        simp only [oI, oL, oR, o1, lI, lL, lR, popN, catS, gv, stL, stL2, swt, cnd, spObj, List.getElem?_cons_zero, List.getElem?_cons_succ, List.getD_cons_zero, List.getD_cons_succ, List.set_cons_zero, List.set_cons_succ, List.nil_append, List.cons_append, Option.toList, Bool.or_false, Bool.false_or, Bool.or_true, Bool.true_or, Nat.reduceBEq, Nat.reduceAdd, Nat.reduceLT, Nat.reduceLeDiff, Int.reduceAdd, Int.reduceToNat, true_and, and_true, Fin.isValue, Fin.val_zero, Fin.val_one, Fin.val_two, Fin.reduceFinMk, eq_self, Int.reduceNeg, imp_self, Nat.reduceMul, Nat.le_refl, not_true_eq_false, not_false_eq_true, List.getElem?_nil, reduceCtorEq, true_or, or_true, Classical.not_not, implies_true, or_self, wI_0, wI_1, wI_m1, b2i_w, b2i_eq0, b2i_eq1, b2i_bool, nor_self, nx_pI, kd_pI, ln_pI, fI_pI, fL_pI, fR_pI, aI_pI, aL_pI, aR_pI, nx_pL, kd_pL, ln_pL, fI_pL, fL_pL, fR_pL, aI_pL, aL_pL, aR_pL, nx_pR, kd_pR, ln_pR, fI_pR, fL_pR, fR_pR, aI_pR, aL_pR, aR_pR, nx_qI, kd_qI, ln_qI, fI_qI, fL_qI, fR_qI, aI_qI, aL_qI, aR_qI, nx_qL, kd_qL, ln_qL, fI_qL, fL_qL, fR_qL, aI_qL, aL_qL, aR_qL, nx_qR, kd_qR, ln_qR, fI_qR, fL_qR, fR_qR, aI_qR, aL_qR, aR_qR, nx_mk, kd_mk, ln_mk, fI_mk, fL_mk, fR_mk, aI_mk, aL_mk, aR_mk, false_and, and_false, if_false, if_true, and_self, Int.reduceEq, Nat.reduceEqDiff, ite_self, MLay_pI, MLay_pL, MLay_qI, MLay_qL, ev_X9_hasOneOn_0, ev_X9_hasOneOn_1, ev_X9_hasOneOn_2, ev_X9_hasOneOn_3, ev_X9_hasOneOn_4, ev_X9_hasOneOn_7, ev_X9_hasOneOn_10, ev_X9_hasOneOn_13, ev_X9_hasOneOn_14, ev_X9_hasOneOn_17, ev_X9_hasOneOn_18, ev_X9_hasOneOn_21, ev_X9_hasOneOn_24, ev_X9_hasOneOn_25, ev_X9_hasOneOn_28, ev_X9_hasOneOn_31, ev_X9_hasOneOn_32, ev_X9_hasOneOn_33, ev_X9_hasOneOn_36, ev_X9_hasOneOn_39, ev_X9_hasOneOn_40, xt_X9_hasOneOn, xf_X9_hasOneOn, us_Jx4a65c_size_8abf5, us_Jx4a65c_get_915e3, us_X2_goesOn, hk, hL.lk, hL.le, hbk, hbt, e]
        try simp (disch := omega) only [wI_id, dv_nn, rm_nn]
        repeat' (first | intro z | apply And.intro)
        all_goals try omega
        all_goals try contradiction
        all_goals exact h
      · have w := ih (i + 1) (by omega) (by omega) (fun j a b => by
          by_cases e2 : j = i
          · rw [e2]; exact e
          · exact hno j a (by omega))
        clear h ih hno
        refine go_X9_hasOneOn (ct := fun p => p == 39 || p == 31 || p == 2) 40 ?_
        simp only [oI, oL, oR, o1, lI, lL, lR, popN, catS, gv, stL, stL2, swt, cnd, spObj, List.getElem?_cons_zero, List.getElem?_cons_succ, List.getD_cons_zero, List.getD_cons_succ, List.set_cons_zero, List.set_cons_succ, List.nil_append, List.cons_append, Option.toList, Bool.or_false, Bool.false_or, Bool.or_true, Bool.true_or, Nat.reduceBEq, Nat.reduceAdd, Nat.reduceLT, Nat.reduceLeDiff, Int.reduceAdd, Int.reduceToNat, true_and, and_true, Fin.isValue, Fin.val_zero, Fin.val_one, Fin.val_two, Fin.reduceFinMk, eq_self, Int.reduceNeg, imp_self, Nat.reduceMul, Nat.le_refl, not_true_eq_false, not_false_eq_true, List.getElem?_nil, reduceCtorEq, true_or, or_true, Classical.not_not, implies_true, or_self, wI_0, wI_1, wI_m1, b2i_w, b2i_eq0, b2i_eq1, b2i_bool, nor_self, nx_pI, kd_pI, ln_pI, fI_pI, fL_pI, fR_pI, aI_pI, aL_pI, aR_pI, nx_pL, kd_pL, ln_pL, fI_pL, fL_pL, fR_pL, aI_pL, aL_pL, aR_pL, nx_pR, kd_pR, ln_pR, fI_pR, fL_pR, fR_pR, aI_pR, aL_pR, aR_pR, nx_qI, kd_qI, ln_qI, fI_qI, fL_qI, fR_qI, aI_qI, aL_qI, aR_qI, nx_qL, kd_qL, ln_qL, fI_qL, fL_qL, fR_qL, aI_qL, aL_qL, aR_qL, nx_qR, kd_qR, ln_qR, fI_qR, fL_qR, fR_qR, aI_qR, aL_qR, aR_qR, nx_mk, kd_mk, ln_mk, fI_mk, fL_mk, fR_mk, aI_mk, aL_mk, aR_mk, false_and, and_false, if_false, if_true, and_self, Int.reduceEq, Nat.reduceEqDiff, ite_self, MLay_pI, MLay_pL, MLay_qI, MLay_qL, ev_X9_hasOneOn_0, ev_X9_hasOneOn_1, ev_X9_hasOneOn_2, ev_X9_hasOneOn_3, ev_X9_hasOneOn_4, ev_X9_hasOneOn_7, ev_X9_hasOneOn_10, ev_X9_hasOneOn_13, ev_X9_hasOneOn_14, ev_X9_hasOneOn_17, ev_X9_hasOneOn_18, ev_X9_hasOneOn_21, ev_X9_hasOneOn_24, ev_X9_hasOneOn_25, ev_X9_hasOneOn_28, ev_X9_hasOneOn_31, ev_X9_hasOneOn_32, ev_X9_hasOneOn_33, ev_X9_hasOneOn_36, ev_X9_hasOneOn_39, ev_X9_hasOneOn_40, xt_X9_hasOneOn, xf_X9_hasOneOn, us_Jx4a65c_size_8abf5, us_Jx4a65c_get_915e3, us_X2_goesOn, hk, hL.lk, hL.le, hbk, hbt, e]
        try simp (disch := omega) only [wI_id, dv_nn, rm_nn]
        repeat' (first | intro z | apply And.intro)
        all_goals try omega
        all_goals try contradiction
        all_goals exact w
  have w := loop ((fI σ 1402 (fR σ 1000 this))).toNat 0 (Int.le_refl 0) (by show 0 + _ = _; omega) (fun j a b => by omega)
  refine go_X9_hasOneOn (ct := fun p => p == 2) 10 ?_
  simp only [oI, oL, oR, o1, lI, lL, lR, popN, catS, gv, stL, stL2, swt, cnd, spObj, List.getElem?_cons_zero, List.getElem?_cons_succ, List.getD_cons_zero, List.getD_cons_succ, List.set_cons_zero, List.set_cons_succ, List.nil_append, List.cons_append, Option.toList, Bool.or_false, Bool.false_or, Bool.or_true, Bool.true_or, Nat.reduceBEq, Nat.reduceAdd, Nat.reduceLT, Nat.reduceLeDiff, Int.reduceAdd, Int.reduceToNat, true_and, and_true, Fin.isValue, Fin.val_zero, Fin.val_one, Fin.val_two, Fin.reduceFinMk, eq_self, Int.reduceNeg, imp_self, Nat.reduceMul, Nat.le_refl, not_true_eq_false, not_false_eq_true, List.getElem?_nil, reduceCtorEq, true_or, or_true, Classical.not_not, implies_true, or_self, wI_0, wI_1, wI_m1, b2i_w, b2i_eq0, b2i_eq1, b2i_bool, nor_self, nx_pI, kd_pI, ln_pI, fI_pI, fL_pI, fR_pI, aI_pI, aL_pI, aR_pI, nx_pL, kd_pL, ln_pL, fI_pL, fL_pL, fR_pL, aI_pL, aL_pL, aR_pL, nx_pR, kd_pR, ln_pR, fI_pR, fL_pR, fR_pR, aI_pR, aL_pR, aR_pR, nx_qI, kd_qI, ln_qI, fI_qI, fL_qI, fR_qI, aI_qI, aL_qI, aR_qI, nx_qL, kd_qL, ln_qL, fI_qL, fL_qL, fR_qL, aI_qL, aL_qL, aR_qL, nx_qR, kd_qR, ln_qR, fI_qR, fL_qR, fR_qR, aI_qR, aL_qR, aR_qR, nx_mk, kd_mk, ln_mk, fI_mk, fL_mk, fR_mk, aI_mk, aL_mk, aR_mk, false_and, and_false, if_false, if_true, and_self, Int.reduceEq, Nat.reduceEqDiff, ite_self, MLay_pI, MLay_pL, MLay_qI, MLay_qL, ev_X9_hasOneOn_0, ev_X9_hasOneOn_1, xt_X9_hasOneOn, xf_X9_hasOneOn, us_Jx4a65c_size_8abf5, us_Jx4a65c_get_915e3, us_X2_goesOn]
  repeat' (first | intro z | apply And.intro)
  all_goals try omega
  all_goals try contradiction
  all_goals exact w

def sp_X9_isHeard : Sp := fun av σ Q => oR av fun this av => oI av fun t av => av = [] ∧ kd σ this = 10 ∧ (LpO σ this ∧ (0 ≤ t ∧ t ≤ 2000000) ∧ Q (some (vi (b2i (cHear σ this t)))) σ)
theorem us_X9_isHeard (this : Int) (t : Int) (σ : Hp) (Q : Option AV → Hp → Prop) : sp_X9_isHeard [vr this, vi t] σ Q = (kd σ this = 10 ∧ (LpO σ this ∧ (0 ≤ t ∧ t ≤ 2000000) ∧ Q (some (vi (b2i (cHear σ this t)))) σ)) := propext ⟨fun h => h.2, fun h => ⟨rfl, h⟩⟩
theorem el_X9_isHeard {av : List AV} {σ : Hp} {Q : Option AV → Hp → Prop} (h : sp_X9_isHeard av σ Q) : ∃ (this : Int) (t : Int), av = [vr this, vi t] ∧ (kd σ this = 10 ∧ (LpO σ this ∧ (0 ≤ t ∧ t ≤ 2000000) ∧ Q (some (vi (b2i (cHear σ this t)))) σ)) := by
  obtain ⟨this, a0, rfl, h0⟩ := oR_s h
  obtain ⟨t, a1, rfl, h1⟩ := oI_s h0
  obtain ⟨rfl, hz⟩ := h1
  exact ⟨this, t, rfl, hz⟩
theorem rc_X9_isHeard : ∀ (av : List AV) (σ : Hp) (Q : Option AV → Hp → Prop), sp_X9_isHeard av σ Q → ∃ r tl, av = vr r :: tl ∧ kd σ r = 9 + 1 := fun av σ Q h => by
  obtain ⟨this, t, rfl, hz, -⟩ := el_X9_isHeard h
  exact ⟨this, _, rfl, hz⟩

def tb_X9_isHeard : Tab := [(0, .iconst 0, 1, (0, 0, 0, 0)), (1, .istore_n 2, 1, (0, 0, 0, 0)), (2, .iload_n 2, 1, (0, 0, 0, 0)), (3, .aload_n 0, 1, (0, 0, 0, 0)), (4, .getfield 12, 3, (10, 1000, 2, 0)), (7, .invokevirtual 42, 3, (0, 0, 0, 0)), (10, .if_icmp .ge 52, 3, (0, 0, 0, 0)), (13, .aload_n 0, 1, (0, 0, 0, 0)), (14, .getfield 12, 3, (10, 1000, 2, 0)), (17, .iload_n 2, 1, (0, 0, 0, 0)), (18, .invokevirtual 46, 3, (0, 0, 0, 0)), (21, .checkcast 50, 3, (3, 0, 0, 0)), (24, .astore_n 3, 1, (0, 0, 0, 0)), (25, .aload_n 3, 1, (0, 0, 0, 0)), (26, .iload_n 1, 1, (0, 0, 0, 0)), (27, .invokevirtual 80, 3, (0, 0, 0, 0)), (30, .ifCond .eq 26, 3, (0, 0, 0, 0)), (33, .aload_n 3, 1, (0, 0, 0, 0)), (34, .iload_n 1, 1, (0, 0, 0, 0)), (35, .aload_n 3, 1, (0, 0, 0, 0)), (36, .getfield 70, 3, (3, 313, 0, 0)), (39, .isub, 1, (0, 0, 0, 0)), (40, .invokevirtual 83, 3, (0, 0, 0, 0)), (43, .ifCond .eq 13, 3, (0, 0, 0, 0)), (46, .aload_n 0, 1, (0, 0, 0, 0)), (47, .iload_n 2, 1, (0, 0, 0, 0)), (48, .invokevirtual 86, 3, (0, 0, 0, 0)), (51, .ifCond .ne 5, 3, (0, 0, 0, 0)), (54, .iconst 1, 1, (0, 0, 0, 0)), (55, .ireturn, 1, (0, 0, 0, 0)), (56, .iinc 2 1, 3, (0, 0, 0, 0)), (59, .goto (-57), 3, (0, 0, 0, 0)), (62, .iconst 0, 1, (0, 0, 0, 0)), (63, .ireturn, 1, (0, 0, 0, 0))]
set_option maxRecDepth 100000 in
theorem tk_X9_isHeard : TOK RX9 false cX9_isHeard tb_X9_isHeard := chkT_ok ft_X9 (by decide +kernel)
theorem rw_X9_664 : Row RX9 (.invokevirtual 83) 3 2 0 0 1 sp_X2_knocksBehind := row_V (n := 1) (ci := 2) c_X2_knocksBehind ⟨TBL_in 513 (by decide +kernel) rfl, TBL_in 516 (by decide +kernel) rfl, TBL_in 126 (by decide +kernel) rfl, by decide +kernel, by decide⟩ (by decide) rfl (TBL_in 514 (by decide +kernel) rfl) (TBL_in 515 (by decide +kernel) rfl) rc_X2_knocksBehind
theorem rw_X9_688 : Row RX9 (.invokevirtual 86) 3 2 0 0 1 sp_X9_silences := row_V (n := 1) (ci := 9) c_X9_silences ⟨TBL_in 517 (by decide +kernel) rfl, TBL_in 520 (by decide +kernel) rfl, TBL_in 122 (by decide +kernel) rfl, by decide +kernel, by decide⟩ (by decide) rfl (TBL_in 518 (by decide +kernel) rfl) (TBL_in 519 (by decide +kernel) rfl) rc_X9_silences
def mt_X9_isHeard : List (Nat × Mt) := [(336, 1, 0, 0, 1, sp_Jx4a65c_size_8abf5), (368, 2, 0, 0, 3, sp_Jx4a65c_get_915e3), (640, 2, 0, 0, 1, sp_X2_goesOn), (664, 2, 0, 0, 1, sp_X2_knocksBehind), (688, 2, 0, 0, 1, sp_X9_silences)]
theorem em_X9_isHeard : mt_X9_isHeard.lookup 336 = some (1, 0, 0, 1, sp_Jx4a65c_size_8abf5) ∧ mt_X9_isHeard.lookup 368 = some (2, 0, 0, 3, sp_Jx4a65c_get_915e3) ∧ mt_X9_isHeard.lookup 640 = some (2, 0, 0, 1, sp_X2_goesOn) ∧ mt_X9_isHeard.lookup 664 = some (2, 0, 0, 1, sp_X2_knocksBehind) ∧ mt_X9_isHeard.lookup 688 = some (2, 0, 0, 1, sp_X9_silences) := ⟨rfl, rfl, rfl, rfl, rfl⟩
theorem mk_X9_isHeard : MOK RX9 mt_X9_isHeard := by
  intro q hq
  simp only [mt_X9_isHeard, List.mem_cons, List.not_mem_nil, or_false] at hq
  rcases hq with rfl | rfl | rfl | rfl | rfl
  · exact rw_X9_336
  · exact rw_X9_368
  · exact rw_X9_640
  · exact rw_X9_664
  · exact rw_X9_688
noncomputable def xe_X9_isHeard (ct : Nat → Bool) (K : Kt) (R : Option AV → Hp → Prop) (n : Nat) : Kt := exS 4 4 0 0 2 tb_X9_isHeard mt_X9_isHeard ct K R n
noncomputable def xk_X9_isHeard (ct : Nat → Bool) (K : Kt) (R : Option AV → Hp → Prop) (n : Nat) : Kt := exkS 4 4 0 0 2 tb_X9_isHeard mt_X9_isHeard ct K R n
theorem xt_X9_isHeard {ct : Nat → Bool} {K : Kt} {R : Option AV → Hp → Prop} {n pc : Nat} {ls : List (Option AV)} {st : List AV} {σ : Hp} {k : Nat × Nat} (h : ct pc = true) : xk_X9_isHeard ct K R n pc ls st σ k = K pc ls st σ k := by unfold xk_X9_isHeard exkS; rw [h]
theorem xf_X9_isHeard {ct : Nat → Bool} {K : Kt} {R : Option AV → Hp → Prop} {n pc : Nat} {ls : List (Option AV)} {st : List AV} {σ : Hp} {k : Nat × Nat} (h : ct pc = false) : xk_X9_isHeard ct K R n pc ls st σ k = xe_X9_isHeard ct K R n pc ls st σ k := by unfold xk_X9_isHeard exkS xe_X9_isHeard; rw [h]
theorem ev_X9_isHeard_0 {ct : Nat → Bool} {K : Kt} {R : Option AV → Hp → Prop} {n : Nat} {ls : List (Option AV)} {st : List AV} {σ : Hp} {k : Nat × Nat} : xe_X9_isHeard ct K R (n + 1) 0 ls st σ k = (xk_X9_isHeard ct K R n 1 ls (vi (0) :: st) σ k) := exS_step.trans rfl
theorem ev_X9_isHeard_1 {ct : Nat → Bool} {K : Kt} {R : Option AV → Hp → Prop} {n : Nat} {ls : List (Option AV)} {st : List AV} {σ : Hp} {k : Nat × Nat} : xe_X9_isHeard ct K R (n + 1) 1 ls st σ k = (oI st fun x st => 2 < 4 ∧ xk_X9_isHeard ct K R n 2 (stL ls 2 (vi x)) st σ k) := exS_step.trans rfl
theorem ev_X9_isHeard_2 {ct : Nat → Bool} {K : Kt} {R : Option AV → Hp → Prop} {n : Nat} {ls : List (Option AV)} {st : List AV} {σ : Hp} {k : Nat × Nat} : xe_X9_isHeard ct K R (n + 1) 2 ls st σ k = (lI ls 2 fun x => xk_X9_isHeard ct K R n 3 ls (vi x :: st) σ k) := exS_step.trans rfl
theorem ev_X9_isHeard_3 {ct : Nat → Bool} {K : Kt} {R : Option AV → Hp → Prop} {n : Nat} {ls : List (Option AV)} {st : List AV} {σ : Hp} {k : Nat × Nat} : xe_X9_isHeard ct K R (n + 1) 3 ls st σ k = (lR ls 0 fun x => xk_X9_isHeard ct K R n 4 ls (vr x :: st) σ k) := exS_step.trans rfl
theorem ev_X9_isHeard_4 {ct : Nat → Bool} {K : Kt} {R : Option AV → Hp → Prop} {n : Nat} {ls : List (Option AV)} {st : List AV} {σ : Hp} {k : Nat × Nat} : xe_X9_isHeard ct K R (n + 1) 4 ls st σ k = (oR st fun x st => kd σ x = 10 ∧ xk_X9_isHeard ct K R n 7 ls (vr (fR σ 1000 x) :: st) σ k) := exS_step.trans rfl
theorem ev_X9_isHeard_7 {ct : Nat → Bool} {K : Kt} {R : Option AV → Hp → Prop} {n : Nat} {ls : List (Option AV)} {st : List AV} {σ : Hp} {k : Nat × Nat} : xe_X9_isHeard ct K R (n + 1) 7 ls st σ k = (popN 1 st [] fun av rest => (catS rest ≤ 8 ∧ 1 < 4 ∧ k.1 + 0 ≤ 0 ∧ k.2 + 0 ≤ 0) ∧ (sp_Jx4a65c_size_8abf5) av σ fun v σ' => xk_X9_isHeard ct K R n 10 ls (v.toList ++ rest) σ' (k.1 + 0, k.2 + 0)) := exS_step.trans rfl
theorem ev_X9_isHeard_10 {ct : Nat → Bool} {K : Kt} {R : Option AV → Hp → Prop} {n : Nat} {ls : List (Option AV)} {st : List AV} {σ : Hp} {k : Nat × Nat} : xe_X9_isHeard ct K R (n + 1) 10 ls st σ k = (oI st fun y st => oI st fun x st => (wI y ≤ wI x → xk_X9_isHeard ct K R n 62 ls st σ k) ∧ (¬ (wI y ≤ wI x) → xk_X9_isHeard ct K R n 13 ls st σ k)) := exS_step.trans rfl
theorem ev_X9_isHeard_13 {ct : Nat → Bool} {K : Kt} {R : Option AV → Hp → Prop} {n : Nat} {ls : List (Option AV)} {st : List AV} {σ : Hp} {k : Nat × Nat} : xe_X9_isHeard ct K R (n + 1) 13 ls st σ k = (lR ls 0 fun x => xk_X9_isHeard ct K R n 14 ls (vr x :: st) σ k) := exS_step.trans rfl
theorem ev_X9_isHeard_14 {ct : Nat → Bool} {K : Kt} {R : Option AV → Hp → Prop} {n : Nat} {ls : List (Option AV)} {st : List AV} {σ : Hp} {k : Nat × Nat} : xe_X9_isHeard ct K R (n + 1) 14 ls st σ k = (oR st fun x st => kd σ x = 10 ∧ xk_X9_isHeard ct K R n 17 ls (vr (fR σ 1000 x) :: st) σ k) := exS_step.trans rfl
theorem ev_X9_isHeard_17 {ct : Nat → Bool} {K : Kt} {R : Option AV → Hp → Prop} {n : Nat} {ls : List (Option AV)} {st : List AV} {σ : Hp} {k : Nat × Nat} : xe_X9_isHeard ct K R (n + 1) 17 ls st σ k = (lI ls 2 fun x => xk_X9_isHeard ct K R n 18 ls (vi x :: st) σ k) := exS_step.trans rfl
theorem ev_X9_isHeard_18 {ct : Nat → Bool} {K : Kt} {R : Option AV → Hp → Prop} {n : Nat} {ls : List (Option AV)} {st : List AV} {σ : Hp} {k : Nat × Nat} : xe_X9_isHeard ct K R (n + 1) 18 ls st σ k = (popN 2 st [] fun av rest => (catS rest ≤ 8 ∧ 3 < 4 ∧ k.1 + 0 ≤ 0 ∧ k.2 + 0 ≤ 0) ∧ (sp_Jx4a65c_get_915e3) av σ fun v σ' => xk_X9_isHeard ct K R n 21 ls (v.toList ++ rest) σ' (k.1 + 0, k.2 + 0)) := exS_step.trans rfl
theorem ev_X9_isHeard_21 {ct : Nat → Bool} {K : Kt} {R : Option AV → Hp → Prop} {n : Nat} {ls : List (Option AV)} {st : List AV} {σ : Hp} {k : Nat × Nat} : xe_X9_isHeard ct K R (n + 1) 21 ls st σ k = (oR st fun x st => kd σ x = 3 ∧ xk_X9_isHeard ct K R n 24 ls (vr x :: st) σ k) := exS_step.trans rfl
theorem ev_X9_isHeard_24 {ct : Nat → Bool} {K : Kt} {R : Option AV → Hp → Prop} {n : Nat} {ls : List (Option AV)} {st : List AV} {σ : Hp} {k : Nat × Nat} : xe_X9_isHeard ct K R (n + 1) 24 ls st σ k = (oR st fun x st => 3 < 4 ∧ xk_X9_isHeard ct K R n 25 (stL ls 3 (vr x)) st σ k) := exS_step.trans rfl
theorem ev_X9_isHeard_25 {ct : Nat → Bool} {K : Kt} {R : Option AV → Hp → Prop} {n : Nat} {ls : List (Option AV)} {st : List AV} {σ : Hp} {k : Nat × Nat} : xe_X9_isHeard ct K R (n + 1) 25 ls st σ k = (lR ls 3 fun x => xk_X9_isHeard ct K R n 26 ls (vr x :: st) σ k) := exS_step.trans rfl
theorem ev_X9_isHeard_26 {ct : Nat → Bool} {K : Kt} {R : Option AV → Hp → Prop} {n : Nat} {ls : List (Option AV)} {st : List AV} {σ : Hp} {k : Nat × Nat} : xe_X9_isHeard ct K R (n + 1) 26 ls st σ k = (lI ls 1 fun x => xk_X9_isHeard ct K R n 27 ls (vi x :: st) σ k) := exS_step.trans rfl
theorem ev_X9_isHeard_27 {ct : Nat → Bool} {K : Kt} {R : Option AV → Hp → Prop} {n : Nat} {ls : List (Option AV)} {st : List AV} {σ : Hp} {k : Nat × Nat} : xe_X9_isHeard ct K R (n + 1) 27 ls st σ k = (popN 2 st [] fun av rest => (catS rest ≤ 8 ∧ 1 < 4 ∧ k.1 + 0 ≤ 0 ∧ k.2 + 0 ≤ 0) ∧ (sp_X2_goesOn) av σ fun v σ' => xk_X9_isHeard ct K R n 30 ls (v.toList ++ rest) σ' (k.1 + 0, k.2 + 0)) := exS_step.trans rfl
theorem ev_X9_isHeard_30 {ct : Nat → Bool} {K : Kt} {R : Option AV → Hp → Prop} {n : Nat} {ls : List (Option AV)} {st : List AV} {σ : Hp} {k : Nat × Nat} : xe_X9_isHeard ct K R (n + 1) 30 ls st σ k = (oI st fun x st => (wI x = wI 0 → xk_X9_isHeard ct K R n 56 ls st σ k) ∧ (¬ (wI x = wI 0) → xk_X9_isHeard ct K R n 33 ls st σ k)) := exS_step.trans rfl
theorem ev_X9_isHeard_33 {ct : Nat → Bool} {K : Kt} {R : Option AV → Hp → Prop} {n : Nat} {ls : List (Option AV)} {st : List AV} {σ : Hp} {k : Nat × Nat} : xe_X9_isHeard ct K R (n + 1) 33 ls st σ k = (lR ls 3 fun x => xk_X9_isHeard ct K R n 34 ls (vr x :: st) σ k) := exS_step.trans rfl
theorem ev_X9_isHeard_34 {ct : Nat → Bool} {K : Kt} {R : Option AV → Hp → Prop} {n : Nat} {ls : List (Option AV)} {st : List AV} {σ : Hp} {k : Nat × Nat} : xe_X9_isHeard ct K R (n + 1) 34 ls st σ k = (lI ls 1 fun x => xk_X9_isHeard ct K R n 35 ls (vi x :: st) σ k) := exS_step.trans rfl
theorem ev_X9_isHeard_35 {ct : Nat → Bool} {K : Kt} {R : Option AV → Hp → Prop} {n : Nat} {ls : List (Option AV)} {st : List AV} {σ : Hp} {k : Nat × Nat} : xe_X9_isHeard ct K R (n + 1) 35 ls st σ k = (lR ls 3 fun x => xk_X9_isHeard ct K R n 36 ls (vr x :: st) σ k) := exS_step.trans rfl
theorem ev_X9_isHeard_36 {ct : Nat → Bool} {K : Kt} {R : Option AV → Hp → Prop} {n : Nat} {ls : List (Option AV)} {st : List AV} {σ : Hp} {k : Nat × Nat} : xe_X9_isHeard ct K R (n + 1) 36 ls st σ k = (oR st fun x st => kd σ x = 3 ∧ xk_X9_isHeard ct K R n 39 ls (vi (fI σ 313 x) :: st) σ k) := exS_step.trans rfl
theorem ev_X9_isHeard_39 {ct : Nat → Bool} {K : Kt} {R : Option AV → Hp → Prop} {n : Nat} {ls : List (Option AV)} {st : List AV} {σ : Hp} {k : Nat × Nat} : xe_X9_isHeard ct K R (n + 1) 39 ls st σ k = (oI st fun y st => oI st fun x st => xk_X9_isHeard ct K R n 40 ls (vi (x - y) :: st) σ k) := exS_step.trans rfl
theorem ev_X9_isHeard_40 {ct : Nat → Bool} {K : Kt} {R : Option AV → Hp → Prop} {n : Nat} {ls : List (Option AV)} {st : List AV} {σ : Hp} {k : Nat × Nat} : xe_X9_isHeard ct K R (n + 1) 40 ls st σ k = (popN 2 st [] fun av rest => (catS rest ≤ 8 ∧ 1 < 4 ∧ k.1 + 0 ≤ 0 ∧ k.2 + 0 ≤ 0) ∧ (sp_X2_knocksBehind) av σ fun v σ' => xk_X9_isHeard ct K R n 43 ls (v.toList ++ rest) σ' (k.1 + 0, k.2 + 0)) := exS_step.trans rfl
theorem ev_X9_isHeard_43 {ct : Nat → Bool} {K : Kt} {R : Option AV → Hp → Prop} {n : Nat} {ls : List (Option AV)} {st : List AV} {σ : Hp} {k : Nat × Nat} : xe_X9_isHeard ct K R (n + 1) 43 ls st σ k = (oI st fun x st => (wI x = wI 0 → xk_X9_isHeard ct K R n 56 ls st σ k) ∧ (¬ (wI x = wI 0) → xk_X9_isHeard ct K R n 46 ls st σ k)) := exS_step.trans rfl
theorem ev_X9_isHeard_46 {ct : Nat → Bool} {K : Kt} {R : Option AV → Hp → Prop} {n : Nat} {ls : List (Option AV)} {st : List AV} {σ : Hp} {k : Nat × Nat} : xe_X9_isHeard ct K R (n + 1) 46 ls st σ k = (lR ls 0 fun x => xk_X9_isHeard ct K R n 47 ls (vr x :: st) σ k) := exS_step.trans rfl
theorem ev_X9_isHeard_47 {ct : Nat → Bool} {K : Kt} {R : Option AV → Hp → Prop} {n : Nat} {ls : List (Option AV)} {st : List AV} {σ : Hp} {k : Nat × Nat} : xe_X9_isHeard ct K R (n + 1) 47 ls st σ k = (lI ls 2 fun x => xk_X9_isHeard ct K R n 48 ls (vi x :: st) σ k) := exS_step.trans rfl
theorem ev_X9_isHeard_48 {ct : Nat → Bool} {K : Kt} {R : Option AV → Hp → Prop} {n : Nat} {ls : List (Option AV)} {st : List AV} {σ : Hp} {k : Nat × Nat} : xe_X9_isHeard ct K R (n + 1) 48 ls st σ k = (popN 2 st [] fun av rest => (catS rest ≤ 8 ∧ 1 < 4 ∧ k.1 + 0 ≤ 0 ∧ k.2 + 0 ≤ 0) ∧ (sp_X9_silences) av σ fun v σ' => xk_X9_isHeard ct K R n 51 ls (v.toList ++ rest) σ' (k.1 + 0, k.2 + 0)) := exS_step.trans rfl
theorem ev_X9_isHeard_51 {ct : Nat → Bool} {K : Kt} {R : Option AV → Hp → Prop} {n : Nat} {ls : List (Option AV)} {st : List AV} {σ : Hp} {k : Nat × Nat} : xe_X9_isHeard ct K R (n + 1) 51 ls st σ k = (oI st fun x st => (¬ wI x = wI 0 → xk_X9_isHeard ct K R n 56 ls st σ k) ∧ (¬ (¬ wI x = wI 0) → xk_X9_isHeard ct K R n 54 ls st σ k)) := exS_step.trans rfl
theorem ev_X9_isHeard_54 {ct : Nat → Bool} {K : Kt} {R : Option AV → Hp → Prop} {n : Nat} {ls : List (Option AV)} {st : List AV} {σ : Hp} {k : Nat × Nat} : xe_X9_isHeard ct K R (n + 1) 54 ls st σ k = (xk_X9_isHeard ct K R n 55 ls (vi (1) :: st) σ k) := exS_step.trans rfl
theorem ev_X9_isHeard_55 {ct : Nat → Bool} {K : Kt} {R : Option AV → Hp → Prop} {n : Nat} {ls : List (Option AV)} {st : List AV} {σ : Hp} {k : Nat × Nat} : xe_X9_isHeard ct K R (n + 1) 55 ls st σ k = (oI st fun x st => st = [] ∧ (x = 0 ∨ x = 1) ∧ R (some (vi x)) σ) := exS_step.trans rfl
theorem ev_X9_isHeard_56 {ct : Nat → Bool} {K : Kt} {R : Option AV → Hp → Prop} {n : Nat} {ls : List (Option AV)} {st : List AV} {σ : Hp} {k : Nat × Nat} : xe_X9_isHeard ct K R (n + 1) 56 ls st σ k = (lI ls 2 fun x => 2 < 4 ∧ xk_X9_isHeard ct K R n 59 (stL ls 2 (vi (x + (1)))) st σ k) := exS_step.trans rfl
theorem ev_X9_isHeard_59 {ct : Nat → Bool} {K : Kt} {R : Option AV → Hp → Prop} {n : Nat} {ls : List (Option AV)} {st : List AV} {σ : Hp} {k : Nat × Nat} : xe_X9_isHeard ct K R (n + 1) 59 ls st σ k = (xk_X9_isHeard ct K R n 2 ls st σ k) := exS_step.trans rfl
theorem ev_X9_isHeard_62 {ct : Nat → Bool} {K : Kt} {R : Option AV → Hp → Prop} {n : Nat} {ls : List (Option AV)} {st : List AV} {σ : Hp} {k : Nat × Nat} : xe_X9_isHeard ct K R (n + 1) 62 ls st σ k = (xk_X9_isHeard ct K R n 63 ls (vi (0) :: st) σ k) := exS_step.trans rfl
theorem ev_X9_isHeard_63 {ct : Nat → Bool} {K : Kt} {R : Option AV → Hp → Prop} {n : Nat} {ls : List (Option AV)} {st : List AV} {σ : Hp} {k : Nat × Nat} : xe_X9_isHeard ct K R (n + 1) 63 ls st σ k = (oI st fun x st => st = [] ∧ (x = 0 ∨ x = 1) ∧ R (some (vi x)) σ) := exS_step.trans rfl
def M_X9_isHeard : Md := (yX9_isHeard, cX9_isHeard, 4, (some FieldType.boolean), 4, 0, 0, 2, false, tb_X9_isHeard, mt_X9_isHeard)
theorem mm_X9_isHeard : MMOK M_X9_isHeard := ⟨by decide +kernel, tk_X9_isHeard, mk_X9_isHeard, rfl, fun h => by cases h⟩
theorem go_X9_isHeard {Q : Option AV → Hp → Prop} {ct : Nat → Bool} {pc : Nat} {ls : List (Option AV)} {st : List AV} {σ : Hp} {k : Nat × Nat} (n : Nat) (h : xe_X9_isHeard ct (Go M_X9_isHeard Q) Q n pc ls st σ k) : Go M_X9_isHeard Q pc ls st σ k := Go.exS mm_X9_isHeard h

set_option maxRecDepth 20000 in
theorem c_X9_isHeard : Ct yX9_isHeard cX9_isHeard 4 ((some FieldType.boolean)) 4 0 0 sp_X9_isHeard := by
  refine Ct.go (M := M_X9_isHeard) mm_X9_isHeard fun av σ Q h0 => ?_
  obtain ⟨this, t, rfl, hk, h⟩ := el_X9_isHeard h0
  clear h0
  refine ⟨Nat.le_of_ble_eq_true rfl, ?_⟩
  show Go M_X9_isHeard Q 0 [some (vr this), some (vi t), none, none] [] σ (0, 0)
  obtain ⟨hL, ht, h⟩ := h
  have hN := hL.n
  obtain ⟨-, -, -, -, -, -, -, -, -, -, -, hf, hl⟩ := id hL
  have loop : ∀ (m : Nat) (i : Int) (a3 : Option AV), 0 ≤ i → i + m = (fI σ 1402 (fR σ 1000 this)) → (∀ j, 0 ≤ j → j < i → ¬ (cGo σ ((lat σ (fR σ 1000 this) j)) t ∧ whl σ ((lat σ (fR σ 1000 this) j)) (t - fI σ 313 ((lat σ (fR σ 1000 this) j))) = true ∧ ¬ cSil σ this j)) → Go M_X9_isHeard Q 2 [some (vr this), some (vi t), some (vi i), a3] [] σ (0, 0) := by
    intro m
    induction m with
    | zero =>
      intro i a3 h0 h1 hno
      rw [b2i_f (fun ⟨j, a, b, e⟩ => hno j a (by omega) e)] at h
      clear hno
      refine go_X9_isHeard (ct := fun p => p == 13) 40 ?_
      simp only [oI, oL, oR, o1, lI, lL, lR, popN, catS, gv, stL, stL2, swt, cnd, spObj, List.getElem?_cons_zero, List.getElem?_cons_succ, List.getD_cons_zero, List.getD_cons_succ, List.set_cons_zero, List.set_cons_succ, List.nil_append, List.cons_append, Option.toList, Bool.or_false, Bool.false_or, Bool.or_true, Bool.true_or, Nat.reduceBEq, Nat.reduceAdd, Nat.reduceLT, Nat.reduceLeDiff, Int.reduceAdd, Int.reduceToNat, true_and, and_true, Fin.isValue, Fin.val_zero, Fin.val_one, Fin.val_two, Fin.reduceFinMk, eq_self, Int.reduceNeg, imp_self, Nat.reduceMul, Nat.le_refl, not_true_eq_false, not_false_eq_true, List.getElem?_nil, reduceCtorEq, true_or, or_true, Classical.not_not, implies_true, or_self, wI_0, wI_1, wI_m1, b2i_w, b2i_eq0, b2i_eq1, b2i_bool, nor_self, nx_pI, kd_pI, ln_pI, fI_pI, fL_pI, fR_pI, aI_pI, aL_pI, aR_pI, nx_pL, kd_pL, ln_pL, fI_pL, fL_pL, fR_pL, aI_pL, aL_pL, aR_pL, nx_pR, kd_pR, ln_pR, fI_pR, fL_pR, fR_pR, aI_pR, aL_pR, aR_pR, nx_qI, kd_qI, ln_qI, fI_qI, fL_qI, fR_qI, aI_qI, aL_qI, aR_qI, nx_qL, kd_qL, ln_qL, fI_qL, fL_qL, fR_qL, aI_qL, aL_qL, aR_qL, nx_qR, kd_qR, ln_qR, fI_qR, fL_qR, fR_qR, aI_qR, aL_qR, aR_qR, nx_mk, kd_mk, ln_mk, fI_mk, fL_mk, fR_mk, aI_mk, aL_mk, aR_mk, false_and, and_false, if_false, if_true, and_self, Int.reduceEq, Nat.reduceEqDiff, ite_self, MLay_pI, MLay_pL, MLay_qI, MLay_qL, ev_X9_isHeard_0, ev_X9_isHeard_1, ev_X9_isHeard_2, ev_X9_isHeard_3, ev_X9_isHeard_4, ev_X9_isHeard_7, ev_X9_isHeard_10, ev_X9_isHeard_13, ev_X9_isHeard_14, ev_X9_isHeard_17, ev_X9_isHeard_18, ev_X9_isHeard_21, ev_X9_isHeard_24, ev_X9_isHeard_25, ev_X9_isHeard_26, ev_X9_isHeard_27, ev_X9_isHeard_30, ev_X9_isHeard_33, ev_X9_isHeard_34, ev_X9_isHeard_35, ev_X9_isHeard_36, ev_X9_isHeard_39, ev_X9_isHeard_40, ev_X9_isHeard_43, ev_X9_isHeard_46, ev_X9_isHeard_47, ev_X9_isHeard_48, ev_X9_isHeard_51, ev_X9_isHeard_54, ev_X9_isHeard_55, ev_X9_isHeard_56, ev_X9_isHeard_59, ev_X9_isHeard_62, ev_X9_isHeard_63, xt_X9_isHeard, xf_X9_isHeard, us_Jx4a65c_size_8abf5, us_Jx4a65c_get_915e3, us_X2_goesOn, us_X2_knocksBehind, us_X9_silences, hk, hL.lk]
      try simp (disch := omega) only [wI_id, dv_nn, rm_nn]
      repeat' (first | intro z | apply And.intro)
      all_goals try omega
      all_goals try contradiction
      all_goals exact h
    | succ m ih =>
      intro i a3 h0 h1 hno
      have hb := hL.b h0 (by omega)
      have hbk := hb.1
      have hbt := hb.t
      clear hb
      have nxt : ¬ (cGo σ ((lat σ (fR σ 1000 this) i)) t ∧ whl σ ((lat σ (fR σ 1000 this) i)) (t - fI σ 313 ((lat σ (fR σ 1000 this) i))) = true ∧ ¬ cSil σ this i) → Go M_X9_isHeard Q 56 [some (vr this), some (vi t), some (vi i), some (vr ((lat σ (fR σ 1000 this) i)))] [] σ (0, 0) := fun e => by
        have w := ih (i + 1) (some (vr ((lat σ (fR σ 1000 this) i)))) (by omega) (by omega) (fun j a b => by
          by_cases e2 : j = i
          · rw [e2]; exact e
          · exact hno j a (by omega))
        clear h ih hno
        refine go_X9_isHeard (ct := fun p => p == 2) 40 ?_
        simp only [oI, oL, oR, o1, lI, lL, lR, popN, catS, gv, stL, stL2, swt, cnd, spObj, List.getElem?_cons_zero, List.getElem?_cons_succ, List.getD_cons_zero, List.getD_cons_succ, List.set_cons_zero, List.set_cons_succ, List.nil_append, List.cons_append, Option.toList, Bool.or_false, Bool.false_or, Bool.or_true, Bool.true_or, Nat.reduceBEq, Nat.reduceAdd, Nat.reduceLT, Nat.reduceLeDiff, Int.reduceAdd, Int.reduceToNat, true_and, and_true, Fin.isValue, Fin.val_zero, Fin.val_one, Fin.val_two, Fin.reduceFinMk, eq_self, Int.reduceNeg, imp_self, Nat.reduceMul, Nat.le_refl, not_true_eq_false, not_false_eq_true, List.getElem?_nil, reduceCtorEq, true_or, or_true, Classical.not_not, implies_true, or_self, wI_0, wI_1, wI_m1, b2i_w, b2i_eq0, b2i_eq1, b2i_bool, nor_self, nx_pI, kd_pI, ln_pI, fI_pI, fL_pI, fR_pI, aI_pI, aL_pI, aR_pI, nx_pL, kd_pL, ln_pL, fI_pL, fL_pL, fR_pL, aI_pL, aL_pL, aR_pL, nx_pR, kd_pR, ln_pR, fI_pR, fL_pR, fR_pR, aI_pR, aL_pR, aR_pR, nx_qI, kd_qI, ln_qI, fI_qI, fL_qI, fR_qI, aI_qI, aL_qI, aR_qI, nx_qL, kd_qL, ln_qL, fI_qL, fL_qL, fR_qL, aI_qL, aL_qL, aR_qL, nx_qR, kd_qR, ln_qR, fI_qR, fL_qR, fR_qR, aI_qR, aL_qR, aR_qR, nx_mk, kd_mk, ln_mk, fI_mk, fL_mk, fR_mk, aI_mk, aL_mk, aR_mk, false_and, and_false, if_false, if_true, and_self, Int.reduceEq, Nat.reduceEqDiff, ite_self, MLay_pI, MLay_pL, MLay_qI, MLay_qL, ev_X9_isHeard_56, ev_X9_isHeard_59, xt_X9_isHeard, xf_X9_isHeard, us_Jx4a65c_size_8abf5, us_Jx4a65c_get_915e3, us_X2_goesOn, us_X2_knocksBehind, us_X9_silences]
        exact w
      have yes : (cGo σ ((lat σ (fR σ 1000 this) i)) t ∧ whl σ ((lat σ (fR σ 1000 this) i)) (t - fI σ 313 ((lat σ (fR σ 1000 this) i))) = true ∧ ¬ cSil σ this i) → Go M_X9_isHeard Q 54 [some (vr this), some (vi t), some (vi i), some (vr ((lat σ (fR σ 1000 this) i)))] [] σ (0, 0) := fun e => by
        rw [b2i_t ⟨i, h0, by omega, e⟩] at h
        clear ih hno
        refine go_X9_isHeard (ct := fun p => p == 2) 40 ?_
        simp only [oI, oL, oR, o1, lI, lL, lR, popN, catS, gv, stL, stL2, swt, cnd, spObj, List.getElem?_cons_zero, List.getElem?_cons_succ, List.getD_cons_zero, List.getD_cons_succ, List.set_cons_zero, List.set_cons_succ, List.nil_append, List.cons_append, Option.toList, Bool.or_false, Bool.false_or, Bool.or_true, Bool.true_or, Nat.reduceBEq, Nat.reduceAdd, Nat.reduceLT, Nat.reduceLeDiff, Int.reduceAdd, Int.reduceToNat, true_and, and_true, Fin.isValue, Fin.val_zero, Fin.val_one, Fin.val_two, Fin.reduceFinMk, eq_self, Int.reduceNeg, imp_self, Nat.reduceMul, Nat.le_refl, not_true_eq_false, not_false_eq_true, List.getElem?_nil, reduceCtorEq, true_or, or_true, Classical.not_not, implies_true, or_self, wI_0, wI_1, wI_m1, b2i_w, b2i_eq0, b2i_eq1, b2i_bool, nor_self, nx_pI, kd_pI, ln_pI, fI_pI, fL_pI, fR_pI, aI_pI, aL_pI, aR_pI, nx_pL, kd_pL, ln_pL, fI_pL, fL_pL, fR_pL, aI_pL, aL_pL, aR_pL, nx_pR, kd_pR, ln_pR, fI_pR, fL_pR, fR_pR, aI_pR, aL_pR, aR_pR, nx_qI, kd_qI, ln_qI, fI_qI, fL_qI, fR_qI, aI_qI, aL_qI, aR_qI, nx_qL, kd_qL, ln_qL, fI_qL, fL_qL, fR_qL, aI_qL, aL_qL, aR_qL, nx_qR, kd_qR, ln_qR, fI_qR, fL_qR, fR_qR, aI_qR, aL_qR, aR_qR, nx_mk, kd_mk, ln_mk, fI_mk, fL_mk, fR_mk, aI_mk, aL_mk, aR_mk, false_and, and_false, if_false, if_true, and_self, Int.reduceEq, Nat.reduceEqDiff, ite_self, MLay_pI, MLay_pL, MLay_qI, MLay_qL, ev_X9_isHeard_54, ev_X9_isHeard_55, xt_X9_isHeard, xf_X9_isHeard, us_Jx4a65c_size_8abf5, us_Jx4a65c_get_915e3, us_X2_goesOn, us_X2_knocksBehind, us_X9_silences]
        exact h
      clear h ih hno
      refine go_X9_isHeard (ct := fun p => p == 62 || p == 56 || p == 54) 40 ?_
      simp only [oI, oL, oR, o1, lI, lL, lR, popN, catS, gv, stL, stL2, swt, cnd, spObj, List.getElem?_cons_zero, List.getElem?_cons_succ, List.getD_cons_zero, List.getD_cons_succ, List.set_cons_zero, List.set_cons_succ, List.nil_append, List.cons_append, Option.toList, Bool.or_false, Bool.false_or, Bool.or_true, Bool.true_or, Nat.reduceBEq, Nat.reduceAdd, Nat.reduceLT, Nat.reduceLeDiff, Int.reduceAdd, Int.reduceToNat, true_and, and_true, Fin.isValue, Fin.val_zero, Fin.val_one, Fin.val_two, Fin.reduceFinMk, eq_self, Int.reduceNeg, imp_self, Nat.reduceMul, Nat.le_refl, not_true_eq_false, not_false_eq_true, List.getElem?_nil, reduceCtorEq, true_or, or_true, Classical.not_not, implies_true, or_self, wI_0, wI_1, wI_m1, b2i_w, b2i_eq0, b2i_eq1, b2i_bool, nor_self, nx_pI, kd_pI, ln_pI, fI_pI, fL_pI, fR_pI, aI_pI, aL_pI, aR_pI, nx_pL, kd_pL, ln_pL, fI_pL, fL_pL, fR_pL, aI_pL, aL_pL, aR_pL, nx_pR, kd_pR, ln_pR, fI_pR, fL_pR, fR_pR, aI_pR, aL_pR, aR_pR, nx_qI, kd_qI, ln_qI, fI_qI, fL_qI, fR_qI, aI_qI, aL_qI, aR_qI, nx_qL, kd_qL, ln_qL, fI_qL, fL_qL, fR_qL, aI_qL, aL_qL, aR_qL, nx_qR, kd_qR, ln_qR, fI_qR, fL_qR, fR_qR, aI_qR, aL_qR, aR_qR, nx_mk, kd_mk, ln_mk, fI_mk, fL_mk, fR_mk, aI_mk, aL_mk, aR_mk, false_and, and_false, if_false, if_true, and_self, Int.reduceEq, Nat.reduceEqDiff, ite_self, MLay_pI, MLay_pL, MLay_qI, MLay_qL, ev_X9_isHeard_2, ev_X9_isHeard_3, ev_X9_isHeard_4, ev_X9_isHeard_7, ev_X9_isHeard_10, ev_X9_isHeard_13, ev_X9_isHeard_14, ev_X9_isHeard_17, ev_X9_isHeard_18, ev_X9_isHeard_21, ev_X9_isHeard_24, ev_X9_isHeard_25, ev_X9_isHeard_26, ev_X9_isHeard_27, ev_X9_isHeard_30, ev_X9_isHeard_33, ev_X9_isHeard_34, ev_X9_isHeard_35, ev_X9_isHeard_36, ev_X9_isHeard_39, ev_X9_isHeard_40, ev_X9_isHeard_43, ev_X9_isHeard_46, ev_X9_isHeard_47, ev_X9_isHeard_48, ev_X9_isHeard_51, xt_X9_isHeard, xf_X9_isHeard, us_Jx4a65c_size_8abf5, us_Jx4a65c_get_915e3, us_X2_goesOn, us_X2_knocksBehind, us_X9_silences, hk, hL.lk, hL.le, hbk, hbt]
      try simp (disch := omega) only [wI_id, dv_nn, rm_nn]
      repeat' (first | intro z | apply And.intro)
      all_goals try omega
      all_goals try contradiction
      all_goals first
        | exact nxt (fun z => ‹¬ cGo σ _ t› z.1)
        | exact nxt (fun z => ‹¬ whl σ _ _ = true› z.2.1)
        | exact nxt (fun z => z.2.2 ‹cSil σ this i›)
        | exact yes ⟨‹cGo σ _ t›, ‹whl σ _ _ = true›, ‹¬ cSil σ this i›⟩
  have w := loop ((fI σ 1402 (fR σ 1000 this))).toNat 0 none (Int.le_refl 0) (by show 0 + _ = _; omega) (fun j a b => by omega)
  refine go_X9_isHeard (ct := fun p => p == 2) 10 ?_
  simp only [oI, oL, oR, o1, lI, lL, lR, popN, catS, gv, stL, stL2, swt, cnd, spObj, List.getElem?_cons_zero, List.getElem?_cons_succ, List.getD_cons_zero, List.getD_cons_succ, List.set_cons_zero, List.set_cons_succ, List.nil_append, List.cons_append, Option.toList, Bool.or_false, Bool.false_or, Bool.or_true, Bool.true_or, Nat.reduceBEq, Nat.reduceAdd, Nat.reduceLT, Nat.reduceLeDiff, Int.reduceAdd, Int.reduceToNat, true_and, and_true, Fin.isValue, Fin.val_zero, Fin.val_one, Fin.val_two, Fin.reduceFinMk, eq_self, Int.reduceNeg, imp_self, Nat.reduceMul, Nat.le_refl, not_true_eq_false, not_false_eq_true, List.getElem?_nil, reduceCtorEq, true_or, or_true, Classical.not_not, implies_true, or_self, wI_0, wI_1, wI_m1, b2i_w, b2i_eq0, b2i_eq1, b2i_bool, nor_self, nx_pI, kd_pI, ln_pI, fI_pI, fL_pI, fR_pI, aI_pI, aL_pI, aR_pI, nx_pL, kd_pL, ln_pL, fI_pL, fL_pL, fR_pL, aI_pL, aL_pL, aR_pL, nx_pR, kd_pR, ln_pR, fI_pR, fL_pR, fR_pR, aI_pR, aL_pR, aR_pR, nx_qI, kd_qI, ln_qI, fI_qI, fL_qI, fR_qI, aI_qI, aL_qI, aR_qI, nx_qL, kd_qL, ln_qL, fI_qL, fL_qL, fR_qL, aI_qL, aL_qL, aR_qL, nx_qR, kd_qR, ln_qR, fI_qR, fL_qR, fR_qR, aI_qR, aL_qR, aR_qR, nx_mk, kd_mk, ln_mk, fI_mk, fL_mk, fR_mk, aI_mk, aL_mk, aR_mk, false_and, and_false, if_false, if_true, and_self, Int.reduceEq, Nat.reduceEqDiff, ite_self, MLay_pI, MLay_pL, MLay_qI, MLay_qL, ev_X9_isHeard_0, ev_X9_isHeard_1, xt_X9_isHeard, xf_X9_isHeard, us_Jx4a65c_size_8abf5, us_Jx4a65c_get_915e3, us_X2_goesOn, us_X2_knocksBehind, us_X9_silences]
  repeat' (first | intro z | apply And.intro)
  all_goals try omega
  all_goals try contradiction
  all_goals exact w

def cTp (σ : Hp) (q t : Int) : Hp := pI (pI (qI (pI σ 1005 q t) (fR σ 1002 q) (fI σ 1004 q) t) 1004 q (if fI σ 1004 q + 1 < 500 then fI σ 1004 q + 1 else 0)) 1003 q (if fI σ 1003 q < 500 then fI σ 1003 q + 1 else fI σ 1003 q)

def sp_X9_writeTape : Sp := fun av σ Q => oR av fun this av => oI av fun t av => av = [] ∧ kd σ this = 10 ∧ ((kd σ (fR σ 1002 this) = 101 ∧ ln σ (fR σ 1002 this) = 500) ∧ (0 ≤ fI σ 1003 this ∧ fI σ 1003 this ≤ 500) ∧ (0 ≤ fI σ 1004 this ∧ fI σ 1004 this < 500) ∧ Q none (cTp σ this t))
theorem us_X9_writeTape (this : Int) (t : Int) (σ : Hp) (Q : Option AV → Hp → Prop) : sp_X9_writeTape [vr this, vi t] σ Q = (kd σ this = 10 ∧ ((kd σ (fR σ 1002 this) = 101 ∧ ln σ (fR σ 1002 this) = 500) ∧ (0 ≤ fI σ 1003 this ∧ fI σ 1003 this ≤ 500) ∧ (0 ≤ fI σ 1004 this ∧ fI σ 1004 this < 500) ∧ Q none (cTp σ this t))) := propext ⟨fun h => h.2, fun h => ⟨rfl, h⟩⟩
theorem el_X9_writeTape {av : List AV} {σ : Hp} {Q : Option AV → Hp → Prop} (h : sp_X9_writeTape av σ Q) : ∃ (this : Int) (t : Int), av = [vr this, vi t] ∧ (kd σ this = 10 ∧ ((kd σ (fR σ 1002 this) = 101 ∧ ln σ (fR σ 1002 this) = 500) ∧ (0 ≤ fI σ 1003 this ∧ fI σ 1003 this ≤ 500) ∧ (0 ≤ fI σ 1004 this ∧ fI σ 1004 this < 500) ∧ Q none (cTp σ this t))) := by
  obtain ⟨this, a0, rfl, h0⟩ := oR_s h
  obtain ⟨t, a1, rfl, h1⟩ := oI_s h0
  obtain ⟨rfl, hz⟩ := h1
  exact ⟨this, t, rfl, hz⟩
theorem rc_X9_writeTape : ∀ (av : List AV) (σ : Hp) (Q : Option AV → Hp → Prop), sp_X9_writeTape av σ Q → ∃ r tl, av = vr r :: tl ∧ kd σ r = 9 + 1 := fun av σ Q h => by
  obtain ⟨this, t, rfl, hz, -⟩ := el_X9_writeTape h
  exact ⟨this, _, rfl, hz⟩

def tb_X9_writeTape : Tab := [(0, .aload_n 0, 1, (0, 0, 0, 0)), (1, .iload_n 1, 1, (0, 0, 0, 0)), (2, .putfield 33, 3, (10, 1005, 0, 0)), (5, .aload_n 0, 1, (0, 0, 0, 0)), (6, .getfield 30, 3, (10, 1004, 0, 0)), (9, .ifCond .lt 25, 3, (0, 0, 0, 0)), (12, .aload_n 0, 1, (0, 0, 0, 0)), (13, .getfield 30, 3, (10, 1004, 0, 0)), (16, .aload_n 0, 1, (0, 0, 0, 0)), (17, .getfield 22, 3, (10, 1002, 2, 0)), (20, .arraylength, 1, (0, 0, 0, 0)), (21, .if_icmp .ge 13, 3, (0, 0, 0, 0)), (24, .aload_n 0, 1, (0, 0, 0, 0)), (25, .getfield 22, 3, (10, 1002, 2, 0)), (28, .aload_n 0, 1, (0, 0, 0, 0)), (29, .getfield 30, 3, (10, 1004, 0, 0)), (32, .iload_n 1, 1, (0, 0, 0, 0)), (33, .iastore, 1, (0, 0, 0, 0)), (34, .aload_n 0, 1, (0, 0, 0, 0)), (35, .aload_n 0, 1, (0, 0, 0, 0)), (36, .getfield 30, 3, (10, 1004, 0, 0)), (39, .iconst 1, 1, (0, 0, 0, 0)), (40, .iadd, 1, (0, 0, 0, 0)), (41, .aload_n 0, 1, (0, 0, 0, 0)), (42, .getfield 22, 3, (10, 1002, 2, 0)), (45, .arraylength, 1, (0, 0, 0, 0)), (46, .if_icmp .ge 12, 3, (0, 0, 0, 0)), (49, .aload_n 0, 1, (0, 0, 0, 0)), (50, .getfield 30, 3, (10, 1004, 0, 0)), (53, .iconst 1, 1, (0, 0, 0, 0)), (54, .iadd, 1, (0, 0, 0, 0)), (55, .goto 4, 3, (0, 0, 0, 0)), (58, .iconst 0, 1, (0, 0, 0, 0)), (59, .putfield 30, 3, (10, 1004, 0, 0)), (62, .aload_n 0, 1, (0, 0, 0, 0)), (63, .aload_n 0, 1, (0, 0, 0, 0)), (64, .getfield 26, 3, (10, 1003, 0, 0)), (67, .aload_n 0, 1, (0, 0, 0, 0)), (68, .getfield 22, 3, (10, 1002, 2, 0)), (71, .arraylength, 1, (0, 0, 0, 0)), (72, .if_icmp .ge 12, 3, (0, 0, 0, 0)), (75, .aload_n 0, 1, (0, 0, 0, 0)), (76, .getfield 26, 3, (10, 1003, 0, 0)), (79, .iconst 1, 1, (0, 0, 0, 0)), (80, .iadd, 1, (0, 0, 0, 0)), (81, .goto 7, 3, (0, 0, 0, 0)), (84, .aload_n 0, 1, (0, 0, 0, 0)), (85, .getfield 26, 3, (10, 1003, 0, 0)), (88, .putfield 26, 3, (10, 1003, 0, 0)), (91, .return_, 1, (0, 0, 0, 0))]
set_option maxRecDepth 100000 in
theorem tk_X9_writeTape : TOK RX9 false cX9_writeTape tb_X9_writeTape := chkT_ok ft_X9 (by decide +kernel)
def mt_X9_writeTape : List (Nat × Mt) := []
theorem mk_X9_writeTape : MOK RX9 mt_X9_writeTape := fun q hq => by cases hq
noncomputable def xe_X9_writeTape (ct : Nat → Bool) (K : Kt) (R : Option AV → Hp → Prop) (n : Nat) : Kt := exS 2 1 0 0 0 tb_X9_writeTape mt_X9_writeTape ct K R n
noncomputable def xk_X9_writeTape (ct : Nat → Bool) (K : Kt) (R : Option AV → Hp → Prop) (n : Nat) : Kt := exkS 2 1 0 0 0 tb_X9_writeTape mt_X9_writeTape ct K R n
theorem xt_X9_writeTape {ct : Nat → Bool} {K : Kt} {R : Option AV → Hp → Prop} {n pc : Nat} {ls : List (Option AV)} {st : List AV} {σ : Hp} {k : Nat × Nat} (h : ct pc = true) : xk_X9_writeTape ct K R n pc ls st σ k = K pc ls st σ k := by unfold xk_X9_writeTape exkS; rw [h]
theorem xf_X9_writeTape {ct : Nat → Bool} {K : Kt} {R : Option AV → Hp → Prop} {n pc : Nat} {ls : List (Option AV)} {st : List AV} {σ : Hp} {k : Nat × Nat} (h : ct pc = false) : xk_X9_writeTape ct K R n pc ls st σ k = xe_X9_writeTape ct K R n pc ls st σ k := by unfold xk_X9_writeTape exkS xe_X9_writeTape; rw [h]
theorem ev_X9_writeTape_0 {ct : Nat → Bool} {K : Kt} {R : Option AV → Hp → Prop} {n : Nat} {ls : List (Option AV)} {st : List AV} {σ : Hp} {k : Nat × Nat} : xe_X9_writeTape ct K R (n + 1) 0 ls st σ k = (lR ls 0 fun x => xk_X9_writeTape ct K R n 1 ls (vr x :: st) σ k) := exS_step.trans rfl
theorem ev_X9_writeTape_1 {ct : Nat → Bool} {K : Kt} {R : Option AV → Hp → Prop} {n : Nat} {ls : List (Option AV)} {st : List AV} {σ : Hp} {k : Nat × Nat} : xe_X9_writeTape ct K R (n + 1) 1 ls st σ k = (lI ls 1 fun x => xk_X9_writeTape ct K R n 2 ls (vi x :: st) σ k) := exS_step.trans rfl
theorem ev_X9_writeTape_2 {ct : Nat → Bool} {K : Kt} {R : Option AV → Hp → Prop} {n : Nat} {ls : List (Option AV)} {st : List AV} {σ : Hp} {k : Nat × Nat} : xe_X9_writeTape ct K R (n + 1) 2 ls st σ k = (oI st fun v st => oR st fun x st => kd σ x = 10 ∧ xk_X9_writeTape ct K R n 5 ls st (pI σ 1005 x v) k) := exS_step.trans rfl
theorem ev_X9_writeTape_5 {ct : Nat → Bool} {K : Kt} {R : Option AV → Hp → Prop} {n : Nat} {ls : List (Option AV)} {st : List AV} {σ : Hp} {k : Nat × Nat} : xe_X9_writeTape ct K R (n + 1) 5 ls st σ k = (lR ls 0 fun x => xk_X9_writeTape ct K R n 6 ls (vr x :: st) σ k) := exS_step.trans rfl
theorem ev_X9_writeTape_6 {ct : Nat → Bool} {K : Kt} {R : Option AV → Hp → Prop} {n : Nat} {ls : List (Option AV)} {st : List AV} {σ : Hp} {k : Nat × Nat} : xe_X9_writeTape ct K R (n + 1) 6 ls st σ k = (oR st fun x st => kd σ x = 10 ∧ xk_X9_writeTape ct K R n 9 ls (vi (fI σ 1004 x) :: st) σ k) := exS_step.trans rfl
theorem ev_X9_writeTape_9 {ct : Nat → Bool} {K : Kt} {R : Option AV → Hp → Prop} {n : Nat} {ls : List (Option AV)} {st : List AV} {σ : Hp} {k : Nat × Nat} : xe_X9_writeTape ct K R (n + 1) 9 ls st σ k = (oI st fun x st => (wI x < wI 0 → xk_X9_writeTape ct K R n 34 ls st σ k) ∧ (¬ (wI x < wI 0) → xk_X9_writeTape ct K R n 12 ls st σ k)) := exS_step.trans rfl
theorem ev_X9_writeTape_12 {ct : Nat → Bool} {K : Kt} {R : Option AV → Hp → Prop} {n : Nat} {ls : List (Option AV)} {st : List AV} {σ : Hp} {k : Nat × Nat} : xe_X9_writeTape ct K R (n + 1) 12 ls st σ k = (lR ls 0 fun x => xk_X9_writeTape ct K R n 13 ls (vr x :: st) σ k) := exS_step.trans rfl
theorem ev_X9_writeTape_13 {ct : Nat → Bool} {K : Kt} {R : Option AV → Hp → Prop} {n : Nat} {ls : List (Option AV)} {st : List AV} {σ : Hp} {k : Nat × Nat} : xe_X9_writeTape ct K R (n + 1) 13 ls st σ k = (oR st fun x st => kd σ x = 10 ∧ xk_X9_writeTape ct K R n 16 ls (vi (fI σ 1004 x) :: st) σ k) := exS_step.trans rfl
theorem ev_X9_writeTape_16 {ct : Nat → Bool} {K : Kt} {R : Option AV → Hp → Prop} {n : Nat} {ls : List (Option AV)} {st : List AV} {σ : Hp} {k : Nat × Nat} : xe_X9_writeTape ct K R (n + 1) 16 ls st σ k = (lR ls 0 fun x => xk_X9_writeTape ct K R n 17 ls (vr x :: st) σ k) := exS_step.trans rfl
theorem ev_X9_writeTape_17 {ct : Nat → Bool} {K : Kt} {R : Option AV → Hp → Prop} {n : Nat} {ls : List (Option AV)} {st : List AV} {σ : Hp} {k : Nat × Nat} : xe_X9_writeTape ct K R (n + 1) 17 ls st σ k = (oR st fun x st => kd σ x = 10 ∧ xk_X9_writeTape ct K R n 20 ls (vr (fR σ 1002 x) :: st) σ k) := exS_step.trans rfl
theorem ev_X9_writeTape_20 {ct : Nat → Bool} {K : Kt} {R : Option AV → Hp → Prop} {n : Nat} {ls : List (Option AV)} {st : List AV} {σ : Hp} {k : Nat × Nat} : xe_X9_writeTape ct K R (n + 1) 20 ls st σ k = (oR st fun x st => (101 ≤ kd σ x ∨ kd σ x = 21) ∧ xk_X9_writeTape ct K R n 21 ls (vi (ln σ x) :: st) σ k) := exS_step.trans rfl
theorem ev_X9_writeTape_21 {ct : Nat → Bool} {K : Kt} {R : Option AV → Hp → Prop} {n : Nat} {ls : List (Option AV)} {st : List AV} {σ : Hp} {k : Nat × Nat} : xe_X9_writeTape ct K R (n + 1) 21 ls st σ k = (oI st fun y st => oI st fun x st => (wI y ≤ wI x → xk_X9_writeTape ct K R n 34 ls st σ k) ∧ (¬ (wI y ≤ wI x) → xk_X9_writeTape ct K R n 24 ls st σ k)) := exS_step.trans rfl
theorem ev_X9_writeTape_24 {ct : Nat → Bool} {K : Kt} {R : Option AV → Hp → Prop} {n : Nat} {ls : List (Option AV)} {st : List AV} {σ : Hp} {k : Nat × Nat} : xe_X9_writeTape ct K R (n + 1) 24 ls st σ k = (lR ls 0 fun x => xk_X9_writeTape ct K R n 25 ls (vr x :: st) σ k) := exS_step.trans rfl
theorem ev_X9_writeTape_25 {ct : Nat → Bool} {K : Kt} {R : Option AV → Hp → Prop} {n : Nat} {ls : List (Option AV)} {st : List AV} {σ : Hp} {k : Nat × Nat} : xe_X9_writeTape ct K R (n + 1) 25 ls st σ k = (oR st fun x st => kd σ x = 10 ∧ xk_X9_writeTape ct K R n 28 ls (vr (fR σ 1002 x) :: st) σ k) := exS_step.trans rfl
theorem ev_X9_writeTape_28 {ct : Nat → Bool} {K : Kt} {R : Option AV → Hp → Prop} {n : Nat} {ls : List (Option AV)} {st : List AV} {σ : Hp} {k : Nat × Nat} : xe_X9_writeTape ct K R (n + 1) 28 ls st σ k = (lR ls 0 fun x => xk_X9_writeTape ct K R n 29 ls (vr x :: st) σ k) := exS_step.trans rfl
theorem ev_X9_writeTape_29 {ct : Nat → Bool} {K : Kt} {R : Option AV → Hp → Prop} {n : Nat} {ls : List (Option AV)} {st : List AV} {σ : Hp} {k : Nat × Nat} : xe_X9_writeTape ct K R (n + 1) 29 ls st σ k = (oR st fun x st => kd σ x = 10 ∧ xk_X9_writeTape ct K R n 32 ls (vi (fI σ 1004 x) :: st) σ k) := exS_step.trans rfl
theorem ev_X9_writeTape_32 {ct : Nat → Bool} {K : Kt} {R : Option AV → Hp → Prop} {n : Nat} {ls : List (Option AV)} {st : List AV} {σ : Hp} {k : Nat × Nat} : xe_X9_writeTape ct K R (n + 1) 32 ls st σ k = (lI ls 1 fun x => xk_X9_writeTape ct K R n 33 ls (vi x :: st) σ k) := exS_step.trans rfl
theorem ev_X9_writeTape_33 {ct : Nat → Bool} {K : Kt} {R : Option AV → Hp → Prop} {n : Nat} {ls : List (Option AV)} {st : List AV} {σ : Hp} {k : Nat × Nat} : xe_X9_writeTape ct K R (n + 1) 33 ls st σ k = (oI st fun v st => oI st fun j st => oR st fun x st => kd σ x = 101 ∧ (0 ≤ j ∧ j < ln σ x) ∧ xk_X9_writeTape ct K R n 34 ls st (qI σ x j v) k) := exS_step.trans rfl
theorem ev_X9_writeTape_34 {ct : Nat → Bool} {K : Kt} {R : Option AV → Hp → Prop} {n : Nat} {ls : List (Option AV)} {st : List AV} {σ : Hp} {k : Nat × Nat} : xe_X9_writeTape ct K R (n + 1) 34 ls st σ k = (lR ls 0 fun x => xk_X9_writeTape ct K R n 35 ls (vr x :: st) σ k) := exS_step.trans rfl
theorem ev_X9_writeTape_35 {ct : Nat → Bool} {K : Kt} {R : Option AV → Hp → Prop} {n : Nat} {ls : List (Option AV)} {st : List AV} {σ : Hp} {k : Nat × Nat} : xe_X9_writeTape ct K R (n + 1) 35 ls st σ k = (lR ls 0 fun x => xk_X9_writeTape ct K R n 36 ls (vr x :: st) σ k) := exS_step.trans rfl
theorem ev_X9_writeTape_36 {ct : Nat → Bool} {K : Kt} {R : Option AV → Hp → Prop} {n : Nat} {ls : List (Option AV)} {st : List AV} {σ : Hp} {k : Nat × Nat} : xe_X9_writeTape ct K R (n + 1) 36 ls st σ k = (oR st fun x st => kd σ x = 10 ∧ xk_X9_writeTape ct K R n 39 ls (vi (fI σ 1004 x) :: st) σ k) := exS_step.trans rfl
theorem ev_X9_writeTape_39 {ct : Nat → Bool} {K : Kt} {R : Option AV → Hp → Prop} {n : Nat} {ls : List (Option AV)} {st : List AV} {σ : Hp} {k : Nat × Nat} : xe_X9_writeTape ct K R (n + 1) 39 ls st σ k = (xk_X9_writeTape ct K R n 40 ls (vi (1) :: st) σ k) := exS_step.trans rfl
theorem ev_X9_writeTape_40 {ct : Nat → Bool} {K : Kt} {R : Option AV → Hp → Prop} {n : Nat} {ls : List (Option AV)} {st : List AV} {σ : Hp} {k : Nat × Nat} : xe_X9_writeTape ct K R (n + 1) 40 ls st σ k = (oI st fun y st => oI st fun x st => xk_X9_writeTape ct K R n 41 ls (vi (x + y) :: st) σ k) := exS_step.trans rfl
theorem ev_X9_writeTape_41 {ct : Nat → Bool} {K : Kt} {R : Option AV → Hp → Prop} {n : Nat} {ls : List (Option AV)} {st : List AV} {σ : Hp} {k : Nat × Nat} : xe_X9_writeTape ct K R (n + 1) 41 ls st σ k = (lR ls 0 fun x => xk_X9_writeTape ct K R n 42 ls (vr x :: st) σ k) := exS_step.trans rfl
theorem ev_X9_writeTape_42 {ct : Nat → Bool} {K : Kt} {R : Option AV → Hp → Prop} {n : Nat} {ls : List (Option AV)} {st : List AV} {σ : Hp} {k : Nat × Nat} : xe_X9_writeTape ct K R (n + 1) 42 ls st σ k = (oR st fun x st => kd σ x = 10 ∧ xk_X9_writeTape ct K R n 45 ls (vr (fR σ 1002 x) :: st) σ k) := exS_step.trans rfl
theorem ev_X9_writeTape_45 {ct : Nat → Bool} {K : Kt} {R : Option AV → Hp → Prop} {n : Nat} {ls : List (Option AV)} {st : List AV} {σ : Hp} {k : Nat × Nat} : xe_X9_writeTape ct K R (n + 1) 45 ls st σ k = (oR st fun x st => (101 ≤ kd σ x ∨ kd σ x = 21) ∧ xk_X9_writeTape ct K R n 46 ls (vi (ln σ x) :: st) σ k) := exS_step.trans rfl
theorem ev_X9_writeTape_46 {ct : Nat → Bool} {K : Kt} {R : Option AV → Hp → Prop} {n : Nat} {ls : List (Option AV)} {st : List AV} {σ : Hp} {k : Nat × Nat} : xe_X9_writeTape ct K R (n + 1) 46 ls st σ k = (oI st fun y st => oI st fun x st => (wI y ≤ wI x → xk_X9_writeTape ct K R n 58 ls st σ k) ∧ (¬ (wI y ≤ wI x) → xk_X9_writeTape ct K R n 49 ls st σ k)) := exS_step.trans rfl
theorem ev_X9_writeTape_49 {ct : Nat → Bool} {K : Kt} {R : Option AV → Hp → Prop} {n : Nat} {ls : List (Option AV)} {st : List AV} {σ : Hp} {k : Nat × Nat} : xe_X9_writeTape ct K R (n + 1) 49 ls st σ k = (lR ls 0 fun x => xk_X9_writeTape ct K R n 50 ls (vr x :: st) σ k) := exS_step.trans rfl
theorem ev_X9_writeTape_50 {ct : Nat → Bool} {K : Kt} {R : Option AV → Hp → Prop} {n : Nat} {ls : List (Option AV)} {st : List AV} {σ : Hp} {k : Nat × Nat} : xe_X9_writeTape ct K R (n + 1) 50 ls st σ k = (oR st fun x st => kd σ x = 10 ∧ xk_X9_writeTape ct K R n 53 ls (vi (fI σ 1004 x) :: st) σ k) := exS_step.trans rfl
theorem ev_X9_writeTape_53 {ct : Nat → Bool} {K : Kt} {R : Option AV → Hp → Prop} {n : Nat} {ls : List (Option AV)} {st : List AV} {σ : Hp} {k : Nat × Nat} : xe_X9_writeTape ct K R (n + 1) 53 ls st σ k = (xk_X9_writeTape ct K R n 54 ls (vi (1) :: st) σ k) := exS_step.trans rfl
theorem ev_X9_writeTape_54 {ct : Nat → Bool} {K : Kt} {R : Option AV → Hp → Prop} {n : Nat} {ls : List (Option AV)} {st : List AV} {σ : Hp} {k : Nat × Nat} : xe_X9_writeTape ct K R (n + 1) 54 ls st σ k = (oI st fun y st => oI st fun x st => xk_X9_writeTape ct K R n 55 ls (vi (x + y) :: st) σ k) := exS_step.trans rfl
theorem ev_X9_writeTape_55 {ct : Nat → Bool} {K : Kt} {R : Option AV → Hp → Prop} {n : Nat} {ls : List (Option AV)} {st : List AV} {σ : Hp} {k : Nat × Nat} : xe_X9_writeTape ct K R (n + 1) 55 ls st σ k = (xk_X9_writeTape ct K R n 59 ls st σ k) := exS_step.trans rfl
theorem ev_X9_writeTape_58 {ct : Nat → Bool} {K : Kt} {R : Option AV → Hp → Prop} {n : Nat} {ls : List (Option AV)} {st : List AV} {σ : Hp} {k : Nat × Nat} : xe_X9_writeTape ct K R (n + 1) 58 ls st σ k = (xk_X9_writeTape ct K R n 59 ls (vi (0) :: st) σ k) := exS_step.trans rfl
theorem ev_X9_writeTape_59 {ct : Nat → Bool} {K : Kt} {R : Option AV → Hp → Prop} {n : Nat} {ls : List (Option AV)} {st : List AV} {σ : Hp} {k : Nat × Nat} : xe_X9_writeTape ct K R (n + 1) 59 ls st σ k = (oI st fun v st => oR st fun x st => kd σ x = 10 ∧ xk_X9_writeTape ct K R n 62 ls st (pI σ 1004 x v) k) := exS_step.trans rfl
theorem ev_X9_writeTape_62 {ct : Nat → Bool} {K : Kt} {R : Option AV → Hp → Prop} {n : Nat} {ls : List (Option AV)} {st : List AV} {σ : Hp} {k : Nat × Nat} : xe_X9_writeTape ct K R (n + 1) 62 ls st σ k = (lR ls 0 fun x => xk_X9_writeTape ct K R n 63 ls (vr x :: st) σ k) := exS_step.trans rfl
theorem ev_X9_writeTape_63 {ct : Nat → Bool} {K : Kt} {R : Option AV → Hp → Prop} {n : Nat} {ls : List (Option AV)} {st : List AV} {σ : Hp} {k : Nat × Nat} : xe_X9_writeTape ct K R (n + 1) 63 ls st σ k = (lR ls 0 fun x => xk_X9_writeTape ct K R n 64 ls (vr x :: st) σ k) := exS_step.trans rfl
theorem ev_X9_writeTape_64 {ct : Nat → Bool} {K : Kt} {R : Option AV → Hp → Prop} {n : Nat} {ls : List (Option AV)} {st : List AV} {σ : Hp} {k : Nat × Nat} : xe_X9_writeTape ct K R (n + 1) 64 ls st σ k = (oR st fun x st => kd σ x = 10 ∧ xk_X9_writeTape ct K R n 67 ls (vi (fI σ 1003 x) :: st) σ k) := exS_step.trans rfl
theorem ev_X9_writeTape_67 {ct : Nat → Bool} {K : Kt} {R : Option AV → Hp → Prop} {n : Nat} {ls : List (Option AV)} {st : List AV} {σ : Hp} {k : Nat × Nat} : xe_X9_writeTape ct K R (n + 1) 67 ls st σ k = (lR ls 0 fun x => xk_X9_writeTape ct K R n 68 ls (vr x :: st) σ k) := exS_step.trans rfl
theorem ev_X9_writeTape_68 {ct : Nat → Bool} {K : Kt} {R : Option AV → Hp → Prop} {n : Nat} {ls : List (Option AV)} {st : List AV} {σ : Hp} {k : Nat × Nat} : xe_X9_writeTape ct K R (n + 1) 68 ls st σ k = (oR st fun x st => kd σ x = 10 ∧ xk_X9_writeTape ct K R n 71 ls (vr (fR σ 1002 x) :: st) σ k) := exS_step.trans rfl
theorem ev_X9_writeTape_71 {ct : Nat → Bool} {K : Kt} {R : Option AV → Hp → Prop} {n : Nat} {ls : List (Option AV)} {st : List AV} {σ : Hp} {k : Nat × Nat} : xe_X9_writeTape ct K R (n + 1) 71 ls st σ k = (oR st fun x st => (101 ≤ kd σ x ∨ kd σ x = 21) ∧ xk_X9_writeTape ct K R n 72 ls (vi (ln σ x) :: st) σ k) := exS_step.trans rfl
theorem ev_X9_writeTape_72 {ct : Nat → Bool} {K : Kt} {R : Option AV → Hp → Prop} {n : Nat} {ls : List (Option AV)} {st : List AV} {σ : Hp} {k : Nat × Nat} : xe_X9_writeTape ct K R (n + 1) 72 ls st σ k = (oI st fun y st => oI st fun x st => (wI y ≤ wI x → xk_X9_writeTape ct K R n 84 ls st σ k) ∧ (¬ (wI y ≤ wI x) → xk_X9_writeTape ct K R n 75 ls st σ k)) := exS_step.trans rfl
theorem ev_X9_writeTape_75 {ct : Nat → Bool} {K : Kt} {R : Option AV → Hp → Prop} {n : Nat} {ls : List (Option AV)} {st : List AV} {σ : Hp} {k : Nat × Nat} : xe_X9_writeTape ct K R (n + 1) 75 ls st σ k = (lR ls 0 fun x => xk_X9_writeTape ct K R n 76 ls (vr x :: st) σ k) := exS_step.trans rfl
theorem ev_X9_writeTape_76 {ct : Nat → Bool} {K : Kt} {R : Option AV → Hp → Prop} {n : Nat} {ls : List (Option AV)} {st : List AV} {σ : Hp} {k : Nat × Nat} : xe_X9_writeTape ct K R (n + 1) 76 ls st σ k = (oR st fun x st => kd σ x = 10 ∧ xk_X9_writeTape ct K R n 79 ls (vi (fI σ 1003 x) :: st) σ k) := exS_step.trans rfl
theorem ev_X9_writeTape_79 {ct : Nat → Bool} {K : Kt} {R : Option AV → Hp → Prop} {n : Nat} {ls : List (Option AV)} {st : List AV} {σ : Hp} {k : Nat × Nat} : xe_X9_writeTape ct K R (n + 1) 79 ls st σ k = (xk_X9_writeTape ct K R n 80 ls (vi (1) :: st) σ k) := exS_step.trans rfl
theorem ev_X9_writeTape_80 {ct : Nat → Bool} {K : Kt} {R : Option AV → Hp → Prop} {n : Nat} {ls : List (Option AV)} {st : List AV} {σ : Hp} {k : Nat × Nat} : xe_X9_writeTape ct K R (n + 1) 80 ls st σ k = (oI st fun y st => oI st fun x st => xk_X9_writeTape ct K R n 81 ls (vi (x + y) :: st) σ k) := exS_step.trans rfl
theorem ev_X9_writeTape_81 {ct : Nat → Bool} {K : Kt} {R : Option AV → Hp → Prop} {n : Nat} {ls : List (Option AV)} {st : List AV} {σ : Hp} {k : Nat × Nat} : xe_X9_writeTape ct K R (n + 1) 81 ls st σ k = (xk_X9_writeTape ct K R n 88 ls st σ k) := exS_step.trans rfl
theorem ev_X9_writeTape_84 {ct : Nat → Bool} {K : Kt} {R : Option AV → Hp → Prop} {n : Nat} {ls : List (Option AV)} {st : List AV} {σ : Hp} {k : Nat × Nat} : xe_X9_writeTape ct K R (n + 1) 84 ls st σ k = (lR ls 0 fun x => xk_X9_writeTape ct K R n 85 ls (vr x :: st) σ k) := exS_step.trans rfl
theorem ev_X9_writeTape_85 {ct : Nat → Bool} {K : Kt} {R : Option AV → Hp → Prop} {n : Nat} {ls : List (Option AV)} {st : List AV} {σ : Hp} {k : Nat × Nat} : xe_X9_writeTape ct K R (n + 1) 85 ls st σ k = (oR st fun x st => kd σ x = 10 ∧ xk_X9_writeTape ct K R n 88 ls (vi (fI σ 1003 x) :: st) σ k) := exS_step.trans rfl
theorem ev_X9_writeTape_88 {ct : Nat → Bool} {K : Kt} {R : Option AV → Hp → Prop} {n : Nat} {ls : List (Option AV)} {st : List AV} {σ : Hp} {k : Nat × Nat} : xe_X9_writeTape ct K R (n + 1) 88 ls st σ k = (oI st fun v st => oR st fun x st => kd σ x = 10 ∧ xk_X9_writeTape ct K R n 91 ls st (pI σ 1003 x v) k) := exS_step.trans rfl
theorem ev_X9_writeTape_91 {ct : Nat → Bool} {K : Kt} {R : Option AV → Hp → Prop} {n : Nat} {ls : List (Option AV)} {st : List AV} {σ : Hp} {k : Nat × Nat} : xe_X9_writeTape ct K R (n + 1) 91 ls st σ k = (st = [] ∧ 0 = 0 ∧ R none σ) := exS_step.trans rfl
def M_X9_writeTape : Md := (yX9_writeTape, cX9_writeTape, 2, (none : Option FieldType), 1, 0, 0, 0, false, tb_X9_writeTape, mt_X9_writeTape)
theorem mm_X9_writeTape : MMOK M_X9_writeTape := ⟨by decide +kernel, tk_X9_writeTape, mk_X9_writeTape, rfl, fun h => by cases h⟩
theorem go_X9_writeTape {Q : Option AV → Hp → Prop} {ct : Nat → Bool} {pc : Nat} {ls : List (Option AV)} {st : List AV} {σ : Hp} {k : Nat × Nat} (n : Nat) (h : xe_X9_writeTape ct (Go M_X9_writeTape Q) Q n pc ls st σ k) : Go M_X9_writeTape Q pc ls st σ k := Go.exS mm_X9_writeTape h

set_option maxRecDepth 20000 in
theorem c_X9_writeTape : Ct yX9_writeTape cX9_writeTape 2 ((none : Option FieldType)) 1 0 0 sp_X9_writeTape := by
  refine Ct.go (M := M_X9_writeTape) mm_X9_writeTape fun av σ Q h0 => ?_
  obtain ⟨this, t, rfl, hk, h⟩ := el_X9_writeTape h0
  clear h0
  refine ⟨Nat.le_of_ble_eq_true rfl, ?_⟩
  show Go M_X9_writeTape Q 0 [some (vr this), some (vi t)] [] σ (0, 0)
  obtain ⟨⟨l1, l2⟩, l3, l4, h⟩ := h
  unfold cTp at h
  have w34 : Go M_X9_writeTape Q 34 [some (vr this), some (vi t)] [] (qI (pI σ 1005 this t) (fR σ 1002 this) (fI σ 1004 this) t) (0, 0) := by
    by_cases c1 : fI σ 1004 this + 1 < 500
    · by_cases c2 : fI σ 1003 this < 500
      · rw [if_pos c1, if_pos c2] at h
        refine go_X9_writeTape (ct := fun p => p == 58 || p == 84) 60 ?_
        simp only [oI, oL, oR, o1, lI, lL, lR, popN, catS, gv, stL, stL2, swt, cnd, spObj, List.getElem?_cons_zero, List.getElem?_cons_succ, List.getD_cons_zero, List.getD_cons_succ, List.set_cons_zero, List.set_cons_succ, List.nil_append, List.cons_append, Option.toList, Bool.or_false, Bool.false_or, Bool.or_true, Bool.true_or, Nat.reduceBEq, Nat.reduceAdd, Nat.reduceLT, Nat.reduceLeDiff, Int.reduceAdd, Int.reduceToNat, true_and, and_true, Fin.isValue, Fin.val_zero, Fin.val_one, Fin.val_two, Fin.reduceFinMk, eq_self, Int.reduceNeg, imp_self, Nat.reduceMul, Nat.le_refl, not_true_eq_false, not_false_eq_true, List.getElem?_nil, reduceCtorEq, true_or, or_true, Classical.not_not, implies_true, or_self, wI_0, wI_1, wI_m1, b2i_w, b2i_eq0, b2i_eq1, b2i_bool, nor_self, nx_pI, kd_pI, ln_pI, fI_pI, fL_pI, fR_pI, aI_pI, aL_pI, aR_pI, nx_pL, kd_pL, ln_pL, fI_pL, fL_pL, fR_pL, aI_pL, aL_pL, aR_pL, nx_pR, kd_pR, ln_pR, fI_pR, fL_pR, fR_pR, aI_pR, aL_pR, aR_pR, nx_qI, kd_qI, ln_qI, fI_qI, fL_qI, fR_qI, aI_qI, aL_qI, aR_qI, nx_qL, kd_qL, ln_qL, fI_qL, fL_qL, fR_qL, aI_qL, aL_qL, aR_qL, nx_qR, kd_qR, ln_qR, fI_qR, fL_qR, fR_qR, aI_qR, aL_qR, aR_qR, nx_mk, kd_mk, ln_mk, fI_mk, fL_mk, fR_mk, aI_mk, aL_mk, aR_mk, false_and, and_false, if_false, if_true, and_self, Int.reduceEq, Nat.reduceEqDiff, ite_self, MLay_pI, MLay_pL, MLay_qI, MLay_qL, ev_X9_writeTape_34, ev_X9_writeTape_35, ev_X9_writeTape_36, ev_X9_writeTape_39, ev_X9_writeTape_40, ev_X9_writeTape_41, ev_X9_writeTape_42, ev_X9_writeTape_45, ev_X9_writeTape_46, ev_X9_writeTape_49, ev_X9_writeTape_50, ev_X9_writeTape_53, ev_X9_writeTape_54, ev_X9_writeTape_55, ev_X9_writeTape_58, ev_X9_writeTape_59, ev_X9_writeTape_62, ev_X9_writeTape_63, ev_X9_writeTape_64, ev_X9_writeTape_67, ev_X9_writeTape_68, ev_X9_writeTape_71, ev_X9_writeTape_72, ev_X9_writeTape_75, ev_X9_writeTape_76, ev_X9_writeTape_79, ev_X9_writeTape_80, ev_X9_writeTape_81, ev_X9_writeTape_84, ev_X9_writeTape_85, ev_X9_writeTape_88, ev_X9_writeTape_91, xt_X9_writeTape, xf_X9_writeTape, hk, l1, l2]
        try simp (disch := omega) only [wI_id, dv_nn, rm_nn]
        repeat' (first | intro z | apply And.intro)
        all_goals try omega
        all_goals try contradiction
        all_goals exact h
      · rw [if_pos c1, if_neg c2] at h
        refine go_X9_writeTape (ct := fun p => p == 58 || p == 75) 60 ?_
        simp only [oI, oL, oR, o1, lI, lL, lR, popN, catS, gv, stL, stL2, swt, cnd, spObj, List.getElem?_cons_zero, List.getElem?_cons_succ, List.getD_cons_zero, List.getD_cons_succ, List.set_cons_zero, List.set_cons_succ, List.nil_append, List.cons_append, Option.toList, Bool.or_false, Bool.false_or, Bool.or_true, Bool.true_or, Nat.reduceBEq, Nat.reduceAdd, Nat.reduceLT, Nat.reduceLeDiff, Int.reduceAdd, Int.reduceToNat, true_and, and_true, Fin.isValue, Fin.val_zero, Fin.val_one, Fin.val_two, Fin.reduceFinMk, eq_self, Int.reduceNeg, imp_self, Nat.reduceMul, Nat.le_refl, not_true_eq_false, not_false_eq_true, List.getElem?_nil, reduceCtorEq, true_or, or_true, Classical.not_not, implies_true, or_self, wI_0, wI_1, wI_m1, b2i_w, b2i_eq0, b2i_eq1, b2i_bool, nor_self, nx_pI, kd_pI, ln_pI, fI_pI, fL_pI, fR_pI, aI_pI, aL_pI, aR_pI, nx_pL, kd_pL, ln_pL, fI_pL, fL_pL, fR_pL, aI_pL, aL_pL, aR_pL, nx_pR, kd_pR, ln_pR, fI_pR, fL_pR, fR_pR, aI_pR, aL_pR, aR_pR, nx_qI, kd_qI, ln_qI, fI_qI, fL_qI, fR_qI, aI_qI, aL_qI, aR_qI, nx_qL, kd_qL, ln_qL, fI_qL, fL_qL, fR_qL, aI_qL, aL_qL, aR_qL, nx_qR, kd_qR, ln_qR, fI_qR, fL_qR, fR_qR, aI_qR, aL_qR, aR_qR, nx_mk, kd_mk, ln_mk, fI_mk, fL_mk, fR_mk, aI_mk, aL_mk, aR_mk, false_and, and_false, if_false, if_true, and_self, Int.reduceEq, Nat.reduceEqDiff, ite_self, MLay_pI, MLay_pL, MLay_qI, MLay_qL, ev_X9_writeTape_34, ev_X9_writeTape_35, ev_X9_writeTape_36, ev_X9_writeTape_39, ev_X9_writeTape_40, ev_X9_writeTape_41, ev_X9_writeTape_42, ev_X9_writeTape_45, ev_X9_writeTape_46, ev_X9_writeTape_49, ev_X9_writeTape_50, ev_X9_writeTape_53, ev_X9_writeTape_54, ev_X9_writeTape_55, ev_X9_writeTape_58, ev_X9_writeTape_59, ev_X9_writeTape_62, ev_X9_writeTape_63, ev_X9_writeTape_64, ev_X9_writeTape_67, ev_X9_writeTape_68, ev_X9_writeTape_71, ev_X9_writeTape_72, ev_X9_writeTape_75, ev_X9_writeTape_76, ev_X9_writeTape_79, ev_X9_writeTape_80, ev_X9_writeTape_81, ev_X9_writeTape_84, ev_X9_writeTape_85, ev_X9_writeTape_88, ev_X9_writeTape_91, xt_X9_writeTape, xf_X9_writeTape, hk, l1, l2]
        try simp (disch := omega) only [wI_id, dv_nn, rm_nn]
        repeat' (first | intro z | apply And.intro)
        all_goals try omega
        all_goals try contradiction
        all_goals exact h
    · by_cases c2 : fI σ 1003 this < 500
      · rw [if_neg c1, if_pos c2] at h
        refine go_X9_writeTape (ct := fun p => p == 49 || p == 84) 60 ?_
        simp only [oI, oL, oR, o1, lI, lL, lR, popN, catS, gv, stL, stL2, swt, cnd, spObj, List.getElem?_cons_zero, List.getElem?_cons_succ, List.getD_cons_zero, List.getD_cons_succ, List.set_cons_zero, List.set_cons_succ, List.nil_append, List.cons_append, Option.toList, Bool.or_false, Bool.false_or, Bool.or_true, Bool.true_or, Nat.reduceBEq, Nat.reduceAdd, Nat.reduceLT, Nat.reduceLeDiff, Int.reduceAdd, Int.reduceToNat, true_and, and_true, Fin.isValue, Fin.val_zero, Fin.val_one, Fin.val_two, Fin.reduceFinMk, eq_self, Int.reduceNeg, imp_self, Nat.reduceMul, Nat.le_refl, not_true_eq_false, not_false_eq_true, List.getElem?_nil, reduceCtorEq, true_or, or_true, Classical.not_not, implies_true, or_self, wI_0, wI_1, wI_m1, b2i_w, b2i_eq0, b2i_eq1, b2i_bool, nor_self, nx_pI, kd_pI, ln_pI, fI_pI, fL_pI, fR_pI, aI_pI, aL_pI, aR_pI, nx_pL, kd_pL, ln_pL, fI_pL, fL_pL, fR_pL, aI_pL, aL_pL, aR_pL, nx_pR, kd_pR, ln_pR, fI_pR, fL_pR, fR_pR, aI_pR, aL_pR, aR_pR, nx_qI, kd_qI, ln_qI, fI_qI, fL_qI, fR_qI, aI_qI, aL_qI, aR_qI, nx_qL, kd_qL, ln_qL, fI_qL, fL_qL, fR_qL, aI_qL, aL_qL, aR_qL, nx_qR, kd_qR, ln_qR, fI_qR, fL_qR, fR_qR, aI_qR, aL_qR, aR_qR, nx_mk, kd_mk, ln_mk, fI_mk, fL_mk, fR_mk, aI_mk, aL_mk, aR_mk, false_and, and_false, if_false, if_true, and_self, Int.reduceEq, Nat.reduceEqDiff, ite_self, MLay_pI, MLay_pL, MLay_qI, MLay_qL, ev_X9_writeTape_34, ev_X9_writeTape_35, ev_X9_writeTape_36, ev_X9_writeTape_39, ev_X9_writeTape_40, ev_X9_writeTape_41, ev_X9_writeTape_42, ev_X9_writeTape_45, ev_X9_writeTape_46, ev_X9_writeTape_49, ev_X9_writeTape_50, ev_X9_writeTape_53, ev_X9_writeTape_54, ev_X9_writeTape_55, ev_X9_writeTape_58, ev_X9_writeTape_59, ev_X9_writeTape_62, ev_X9_writeTape_63, ev_X9_writeTape_64, ev_X9_writeTape_67, ev_X9_writeTape_68, ev_X9_writeTape_71, ev_X9_writeTape_72, ev_X9_writeTape_75, ev_X9_writeTape_76, ev_X9_writeTape_79, ev_X9_writeTape_80, ev_X9_writeTape_81, ev_X9_writeTape_84, ev_X9_writeTape_85, ev_X9_writeTape_88, ev_X9_writeTape_91, xt_X9_writeTape, xf_X9_writeTape, hk, l1, l2]
        try simp (disch := omega) only [wI_id, dv_nn, rm_nn]
        repeat' (first | intro z | apply And.intro)
        all_goals try omega
        all_goals try contradiction
        all_goals exact h
      · rw [if_neg c1, if_neg c2] at h
        refine go_X9_writeTape (ct := fun p => p == 49 || p == 75) 60 ?_
        simp only [oI, oL, oR, o1, lI, lL, lR, popN, catS, gv, stL, stL2, swt, cnd, spObj, List.getElem?_cons_zero, List.getElem?_cons_succ, List.getD_cons_zero, List.getD_cons_succ, List.set_cons_zero, List.set_cons_succ, List.nil_append, List.cons_append, Option.toList, Bool.or_false, Bool.false_or, Bool.or_true, Bool.true_or, Nat.reduceBEq, Nat.reduceAdd, Nat.reduceLT, Nat.reduceLeDiff, Int.reduceAdd, Int.reduceToNat, true_and, and_true, Fin.isValue, Fin.val_zero, Fin.val_one, Fin.val_two, Fin.reduceFinMk, eq_self, Int.reduceNeg, imp_self, Nat.reduceMul, Nat.le_refl, not_true_eq_false, not_false_eq_true, List.getElem?_nil, reduceCtorEq, true_or, or_true, Classical.not_not, implies_true, or_self, wI_0, wI_1, wI_m1, b2i_w, b2i_eq0, b2i_eq1, b2i_bool, nor_self, nx_pI, kd_pI, ln_pI, fI_pI, fL_pI, fR_pI, aI_pI, aL_pI, aR_pI, nx_pL, kd_pL, ln_pL, fI_pL, fL_pL, fR_pL, aI_pL, aL_pL, aR_pL, nx_pR, kd_pR, ln_pR, fI_pR, fL_pR, fR_pR, aI_pR, aL_pR, aR_pR, nx_qI, kd_qI, ln_qI, fI_qI, fL_qI, fR_qI, aI_qI, aL_qI, aR_qI, nx_qL, kd_qL, ln_qL, fI_qL, fL_qL, fR_qL, aI_qL, aL_qL, aR_qL, nx_qR, kd_qR, ln_qR, fI_qR, fL_qR, fR_qR, aI_qR, aL_qR, aR_qR, nx_mk, kd_mk, ln_mk, fI_mk, fL_mk, fR_mk, aI_mk, aL_mk, aR_mk, false_and, and_false, if_false, if_true, and_self, Int.reduceEq, Nat.reduceEqDiff, ite_self, MLay_pI, MLay_pL, MLay_qI, MLay_qL, ev_X9_writeTape_34, ev_X9_writeTape_35, ev_X9_writeTape_36, ev_X9_writeTape_39, ev_X9_writeTape_40, ev_X9_writeTape_41, ev_X9_writeTape_42, ev_X9_writeTape_45, ev_X9_writeTape_46, ev_X9_writeTape_49, ev_X9_writeTape_50, ev_X9_writeTape_53, ev_X9_writeTape_54, ev_X9_writeTape_55, ev_X9_writeTape_58, ev_X9_writeTape_59, ev_X9_writeTape_62, ev_X9_writeTape_63, ev_X9_writeTape_64, ev_X9_writeTape_67, ev_X9_writeTape_68, ev_X9_writeTape_71, ev_X9_writeTape_72, ev_X9_writeTape_75, ev_X9_writeTape_76, ev_X9_writeTape_79, ev_X9_writeTape_80, ev_X9_writeTape_81, ev_X9_writeTape_84, ev_X9_writeTape_85, ev_X9_writeTape_88, ev_X9_writeTape_91, xt_X9_writeTape, xf_X9_writeTape, hk, l1, l2]
        try simp (disch := omega) only [wI_id, dv_nn, rm_nn]
        repeat' (first | intro z | apply And.intro)
        all_goals try omega
        all_goals try contradiction
        all_goals exact h
  clear h
  refine go_X9_writeTape (ct := fun p => p == 34) 40 ?_
  simp only [oI, oL, oR, o1, lI, lL, lR, popN, catS, gv, stL, stL2, swt, cnd, spObj, List.getElem?_cons_zero, List.getElem?_cons_succ, List.getD_cons_zero, List.getD_cons_succ, List.set_cons_zero, List.set_cons_succ, List.nil_append, List.cons_append, Option.toList, Bool.or_false, Bool.false_or, Bool.or_true, Bool.true_or, Nat.reduceBEq, Nat.reduceAdd, Nat.reduceLT, Nat.reduceLeDiff, Int.reduceAdd, Int.reduceToNat, true_and, and_true, Fin.isValue, Fin.val_zero, Fin.val_one, Fin.val_two, Fin.reduceFinMk, eq_self, Int.reduceNeg, imp_self, Nat.reduceMul, Nat.le_refl, not_true_eq_false, not_false_eq_true, List.getElem?_nil, reduceCtorEq, true_or, or_true, Classical.not_not, implies_true, or_self, wI_0, wI_1, wI_m1, b2i_w, b2i_eq0, b2i_eq1, b2i_bool, nor_self, nx_pI, kd_pI, ln_pI, fI_pI, fL_pI, fR_pI, aI_pI, aL_pI, aR_pI, nx_pL, kd_pL, ln_pL, fI_pL, fL_pL, fR_pL, aI_pL, aL_pL, aR_pL, nx_pR, kd_pR, ln_pR, fI_pR, fL_pR, fR_pR, aI_pR, aL_pR, aR_pR, nx_qI, kd_qI, ln_qI, fI_qI, fL_qI, fR_qI, aI_qI, aL_qI, aR_qI, nx_qL, kd_qL, ln_qL, fI_qL, fL_qL, fR_qL, aI_qL, aL_qL, aR_qL, nx_qR, kd_qR, ln_qR, fI_qR, fL_qR, fR_qR, aI_qR, aL_qR, aR_qR, nx_mk, kd_mk, ln_mk, fI_mk, fL_mk, fR_mk, aI_mk, aL_mk, aR_mk, false_and, and_false, if_false, if_true, and_self, Int.reduceEq, Nat.reduceEqDiff, ite_self, MLay_pI, MLay_pL, MLay_qI, MLay_qL, ev_X9_writeTape_0, ev_X9_writeTape_1, ev_X9_writeTape_2, ev_X9_writeTape_5, ev_X9_writeTape_6, ev_X9_writeTape_9, ev_X9_writeTape_12, ev_X9_writeTape_13, ev_X9_writeTape_16, ev_X9_writeTape_17, ev_X9_writeTape_20, ev_X9_writeTape_21, ev_X9_writeTape_24, ev_X9_writeTape_25, ev_X9_writeTape_28, ev_X9_writeTape_29, ev_X9_writeTape_32, ev_X9_writeTape_33, xt_X9_writeTape, xf_X9_writeTape, hk, l1, l2]
  try simp (disch := omega) only [wI_id, dv_nn, rm_nn]
  repeat' (first | intro z | apply And.intro)
  all_goals try omega
  all_goals try contradiction
  all_goals exact w34

def sp_X9_hasOnTape : Sp := fun av σ Q => oR av fun this av => oI av fun t av => av = [] ∧ kd σ this = 10 ∧ ((kd σ (fR σ 1002 this) = 101 ∧ ln σ (fR σ 1002 this) = 500) ∧ (0 ≤ fI σ 1003 this ∧ fI σ 1003 this ≤ 500) ∧ (∀ w, 0 ≤ aI σ (fR σ 1002 this) w ∧ aI σ (fR σ 1002 this) w ≤ 999999) ∧ inR t ∧ Q (some (vi (b2i (bE 500 fun k => k < fI σ 1003 this ∧ aI σ (fR σ 1002 this) k = t)))) σ)
theorem us_X9_hasOnTape (this : Int) (t : Int) (σ : Hp) (Q : Option AV → Hp → Prop) : sp_X9_hasOnTape [vr this, vi t] σ Q = (kd σ this = 10 ∧ ((kd σ (fR σ 1002 this) = 101 ∧ ln σ (fR σ 1002 this) = 500) ∧ (0 ≤ fI σ 1003 this ∧ fI σ 1003 this ≤ 500) ∧ (∀ w, 0 ≤ aI σ (fR σ 1002 this) w ∧ aI σ (fR σ 1002 this) w ≤ 999999) ∧ inR t ∧ Q (some (vi (b2i (bE 500 fun k => k < fI σ 1003 this ∧ aI σ (fR σ 1002 this) k = t)))) σ)) := propext ⟨fun h => h.2, fun h => ⟨rfl, h⟩⟩
theorem el_X9_hasOnTape {av : List AV} {σ : Hp} {Q : Option AV → Hp → Prop} (h : sp_X9_hasOnTape av σ Q) : ∃ (this : Int) (t : Int), av = [vr this, vi t] ∧ (kd σ this = 10 ∧ ((kd σ (fR σ 1002 this) = 101 ∧ ln σ (fR σ 1002 this) = 500) ∧ (0 ≤ fI σ 1003 this ∧ fI σ 1003 this ≤ 500) ∧ (∀ w, 0 ≤ aI σ (fR σ 1002 this) w ∧ aI σ (fR σ 1002 this) w ≤ 999999) ∧ inR t ∧ Q (some (vi (b2i (bE 500 fun k => k < fI σ 1003 this ∧ aI σ (fR σ 1002 this) k = t)))) σ)) := by
  obtain ⟨this, a0, rfl, h0⟩ := oR_s h
  obtain ⟨t, a1, rfl, h1⟩ := oI_s h0
  obtain ⟨rfl, hz⟩ := h1
  exact ⟨this, t, rfl, hz⟩
theorem rc_X9_hasOnTape : ∀ (av : List AV) (σ : Hp) (Q : Option AV → Hp → Prop), sp_X9_hasOnTape av σ Q → ∃ r tl, av = vr r :: tl ∧ kd σ r = 9 + 1 := fun av σ Q h => by
  obtain ⟨this, t, rfl, hz, -⟩ := el_X9_hasOnTape h
  exact ⟨this, _, rfl, hz⟩

def tb_X9_hasOnTape : Tab := [(0, .iconst 0, 1, (0, 0, 0, 0)), (1, .istore_n 2, 1, (0, 0, 0, 0)), (2, .iload_n 2, 1, (0, 0, 0, 0)), (3, .aload_n 0, 1, (0, 0, 0, 0)), (4, .getfield 26, 3, (10, 1003, 0, 0)), (7, .if_icmp .ge 30, 3, (0, 0, 0, 0)), (10, .iload_n 2, 1, (0, 0, 0, 0)), (11, .aload_n 0, 1, (0, 0, 0, 0)), (12, .getfield 22, 3, (10, 1002, 2, 0)), (15, .arraylength, 1, (0, 0, 0, 0)), (16, .if_icmp .ge 21, 3, (0, 0, 0, 0)), (19, .aload_n 0, 1, (0, 0, 0, 0)), (20, .getfield 22, 3, (10, 1002, 2, 0)), (23, .iload_n 2, 1, (0, 0, 0, 0)), (24, .iaload, 1, (0, 0, 0, 0)), (25, .iload_n 1, 1, (0, 0, 0, 0)), (26, .if_icmp .ne 5, 3, (0, 0, 0, 0)), (29, .iconst 1, 1, (0, 0, 0, 0)), (30, .ireturn, 1, (0, 0, 0, 0)), (31, .iinc 2 1, 3, (0, 0, 0, 0)), (34, .goto (-32), 3, (0, 0, 0, 0)), (37, .iconst 0, 1, (0, 0, 0, 0)), (38, .ireturn, 1, (0, 0, 0, 0))]
set_option maxRecDepth 100000 in
theorem tk_X9_hasOnTape : TOK RX9 false cX9_hasOnTape tb_X9_hasOnTape := chkT_ok ft_X9 (by decide +kernel)
def mt_X9_hasOnTape : List (Nat × Mt) := []
theorem mk_X9_hasOnTape : MOK RX9 mt_X9_hasOnTape := fun q hq => by cases hq
noncomputable def xe_X9_hasOnTape (ct : Nat → Bool) (K : Kt) (R : Option AV → Hp → Prop) (n : Nat) : Kt := exS 3 1 0 0 2 tb_X9_hasOnTape mt_X9_hasOnTape ct K R n
noncomputable def xk_X9_hasOnTape (ct : Nat → Bool) (K : Kt) (R : Option AV → Hp → Prop) (n : Nat) : Kt := exkS 3 1 0 0 2 tb_X9_hasOnTape mt_X9_hasOnTape ct K R n
theorem xt_X9_hasOnTape {ct : Nat → Bool} {K : Kt} {R : Option AV → Hp → Prop} {n pc : Nat} {ls : List (Option AV)} {st : List AV} {σ : Hp} {k : Nat × Nat} (h : ct pc = true) : xk_X9_hasOnTape ct K R n pc ls st σ k = K pc ls st σ k := by unfold xk_X9_hasOnTape exkS; rw [h]
theorem xf_X9_hasOnTape {ct : Nat → Bool} {K : Kt} {R : Option AV → Hp → Prop} {n pc : Nat} {ls : List (Option AV)} {st : List AV} {σ : Hp} {k : Nat × Nat} (h : ct pc = false) : xk_X9_hasOnTape ct K R n pc ls st σ k = xe_X9_hasOnTape ct K R n pc ls st σ k := by unfold xk_X9_hasOnTape exkS xe_X9_hasOnTape; rw [h]
theorem ev_X9_hasOnTape_0 {ct : Nat → Bool} {K : Kt} {R : Option AV → Hp → Prop} {n : Nat} {ls : List (Option AV)} {st : List AV} {σ : Hp} {k : Nat × Nat} : xe_X9_hasOnTape ct K R (n + 1) 0 ls st σ k = (xk_X9_hasOnTape ct K R n 1 ls (vi (0) :: st) σ k) := exS_step.trans rfl
theorem ev_X9_hasOnTape_1 {ct : Nat → Bool} {K : Kt} {R : Option AV → Hp → Prop} {n : Nat} {ls : List (Option AV)} {st : List AV} {σ : Hp} {k : Nat × Nat} : xe_X9_hasOnTape ct K R (n + 1) 1 ls st σ k = (oI st fun x st => 2 < 3 ∧ xk_X9_hasOnTape ct K R n 2 (stL ls 2 (vi x)) st σ k) := exS_step.trans rfl
theorem ev_X9_hasOnTape_2 {ct : Nat → Bool} {K : Kt} {R : Option AV → Hp → Prop} {n : Nat} {ls : List (Option AV)} {st : List AV} {σ : Hp} {k : Nat × Nat} : xe_X9_hasOnTape ct K R (n + 1) 2 ls st σ k = (lI ls 2 fun x => xk_X9_hasOnTape ct K R n 3 ls (vi x :: st) σ k) := exS_step.trans rfl
theorem ev_X9_hasOnTape_3 {ct : Nat → Bool} {K : Kt} {R : Option AV → Hp → Prop} {n : Nat} {ls : List (Option AV)} {st : List AV} {σ : Hp} {k : Nat × Nat} : xe_X9_hasOnTape ct K R (n + 1) 3 ls st σ k = (lR ls 0 fun x => xk_X9_hasOnTape ct K R n 4 ls (vr x :: st) σ k) := exS_step.trans rfl
theorem ev_X9_hasOnTape_4 {ct : Nat → Bool} {K : Kt} {R : Option AV → Hp → Prop} {n : Nat} {ls : List (Option AV)} {st : List AV} {σ : Hp} {k : Nat × Nat} : xe_X9_hasOnTape ct K R (n + 1) 4 ls st σ k = (oR st fun x st => kd σ x = 10 ∧ xk_X9_hasOnTape ct K R n 7 ls (vi (fI σ 1003 x) :: st) σ k) := exS_step.trans rfl
theorem ev_X9_hasOnTape_7 {ct : Nat → Bool} {K : Kt} {R : Option AV → Hp → Prop} {n : Nat} {ls : List (Option AV)} {st : List AV} {σ : Hp} {k : Nat × Nat} : xe_X9_hasOnTape ct K R (n + 1) 7 ls st σ k = (oI st fun y st => oI st fun x st => (wI y ≤ wI x → xk_X9_hasOnTape ct K R n 37 ls st σ k) ∧ (¬ (wI y ≤ wI x) → xk_X9_hasOnTape ct K R n 10 ls st σ k)) := exS_step.trans rfl
theorem ev_X9_hasOnTape_10 {ct : Nat → Bool} {K : Kt} {R : Option AV → Hp → Prop} {n : Nat} {ls : List (Option AV)} {st : List AV} {σ : Hp} {k : Nat × Nat} : xe_X9_hasOnTape ct K R (n + 1) 10 ls st σ k = (lI ls 2 fun x => xk_X9_hasOnTape ct K R n 11 ls (vi x :: st) σ k) := exS_step.trans rfl
theorem ev_X9_hasOnTape_11 {ct : Nat → Bool} {K : Kt} {R : Option AV → Hp → Prop} {n : Nat} {ls : List (Option AV)} {st : List AV} {σ : Hp} {k : Nat × Nat} : xe_X9_hasOnTape ct K R (n + 1) 11 ls st σ k = (lR ls 0 fun x => xk_X9_hasOnTape ct K R n 12 ls (vr x :: st) σ k) := exS_step.trans rfl
theorem ev_X9_hasOnTape_12 {ct : Nat → Bool} {K : Kt} {R : Option AV → Hp → Prop} {n : Nat} {ls : List (Option AV)} {st : List AV} {σ : Hp} {k : Nat × Nat} : xe_X9_hasOnTape ct K R (n + 1) 12 ls st σ k = (oR st fun x st => kd σ x = 10 ∧ xk_X9_hasOnTape ct K R n 15 ls (vr (fR σ 1002 x) :: st) σ k) := exS_step.trans rfl
theorem ev_X9_hasOnTape_15 {ct : Nat → Bool} {K : Kt} {R : Option AV → Hp → Prop} {n : Nat} {ls : List (Option AV)} {st : List AV} {σ : Hp} {k : Nat × Nat} : xe_X9_hasOnTape ct K R (n + 1) 15 ls st σ k = (oR st fun x st => (101 ≤ kd σ x ∨ kd σ x = 21) ∧ xk_X9_hasOnTape ct K R n 16 ls (vi (ln σ x) :: st) σ k) := exS_step.trans rfl
theorem ev_X9_hasOnTape_16 {ct : Nat → Bool} {K : Kt} {R : Option AV → Hp → Prop} {n : Nat} {ls : List (Option AV)} {st : List AV} {σ : Hp} {k : Nat × Nat} : xe_X9_hasOnTape ct K R (n + 1) 16 ls st σ k = (oI st fun y st => oI st fun x st => (wI y ≤ wI x → xk_X9_hasOnTape ct K R n 37 ls st σ k) ∧ (¬ (wI y ≤ wI x) → xk_X9_hasOnTape ct K R n 19 ls st σ k)) := exS_step.trans rfl
theorem ev_X9_hasOnTape_19 {ct : Nat → Bool} {K : Kt} {R : Option AV → Hp → Prop} {n : Nat} {ls : List (Option AV)} {st : List AV} {σ : Hp} {k : Nat × Nat} : xe_X9_hasOnTape ct K R (n + 1) 19 ls st σ k = (lR ls 0 fun x => xk_X9_hasOnTape ct K R n 20 ls (vr x :: st) σ k) := exS_step.trans rfl
theorem ev_X9_hasOnTape_20 {ct : Nat → Bool} {K : Kt} {R : Option AV → Hp → Prop} {n : Nat} {ls : List (Option AV)} {st : List AV} {σ : Hp} {k : Nat × Nat} : xe_X9_hasOnTape ct K R (n + 1) 20 ls st σ k = (oR st fun x st => kd σ x = 10 ∧ xk_X9_hasOnTape ct K R n 23 ls (vr (fR σ 1002 x) :: st) σ k) := exS_step.trans rfl
theorem ev_X9_hasOnTape_23 {ct : Nat → Bool} {K : Kt} {R : Option AV → Hp → Prop} {n : Nat} {ls : List (Option AV)} {st : List AV} {σ : Hp} {k : Nat × Nat} : xe_X9_hasOnTape ct K R (n + 1) 23 ls st σ k = (lI ls 2 fun x => xk_X9_hasOnTape ct K R n 24 ls (vi x :: st) σ k) := exS_step.trans rfl
theorem ev_X9_hasOnTape_24 {ct : Nat → Bool} {K : Kt} {R : Option AV → Hp → Prop} {n : Nat} {ls : List (Option AV)} {st : List AV} {σ : Hp} {k : Nat × Nat} : xe_X9_hasOnTape ct K R (n + 1) 24 ls st σ k = (oI st fun j st => oR st fun x st => (kd σ x = 101 ∨ kd σ x = 108) ∧ (0 ≤ j ∧ j < ln σ x) ∧ xk_X9_hasOnTape ct K R n 25 ls (vi (aI σ x j) :: st) σ k) := exS_step.trans rfl
theorem ev_X9_hasOnTape_25 {ct : Nat → Bool} {K : Kt} {R : Option AV → Hp → Prop} {n : Nat} {ls : List (Option AV)} {st : List AV} {σ : Hp} {k : Nat × Nat} : xe_X9_hasOnTape ct K R (n + 1) 25 ls st σ k = (lI ls 1 fun x => xk_X9_hasOnTape ct K R n 26 ls (vi x :: st) σ k) := exS_step.trans rfl
theorem ev_X9_hasOnTape_26 {ct : Nat → Bool} {K : Kt} {R : Option AV → Hp → Prop} {n : Nat} {ls : List (Option AV)} {st : List AV} {σ : Hp} {k : Nat × Nat} : xe_X9_hasOnTape ct K R (n + 1) 26 ls st σ k = (oI st fun y st => oI st fun x st => (¬ wI x = wI y → xk_X9_hasOnTape ct K R n 31 ls st σ k) ∧ (¬ (¬ wI x = wI y) → xk_X9_hasOnTape ct K R n 29 ls st σ k)) := exS_step.trans rfl
theorem ev_X9_hasOnTape_29 {ct : Nat → Bool} {K : Kt} {R : Option AV → Hp → Prop} {n : Nat} {ls : List (Option AV)} {st : List AV} {σ : Hp} {k : Nat × Nat} : xe_X9_hasOnTape ct K R (n + 1) 29 ls st σ k = (xk_X9_hasOnTape ct K R n 30 ls (vi (1) :: st) σ k) := exS_step.trans rfl
theorem ev_X9_hasOnTape_30 {ct : Nat → Bool} {K : Kt} {R : Option AV → Hp → Prop} {n : Nat} {ls : List (Option AV)} {st : List AV} {σ : Hp} {k : Nat × Nat} : xe_X9_hasOnTape ct K R (n + 1) 30 ls st σ k = (oI st fun x st => st = [] ∧ (x = 0 ∨ x = 1) ∧ R (some (vi x)) σ) := exS_step.trans rfl
theorem ev_X9_hasOnTape_31 {ct : Nat → Bool} {K : Kt} {R : Option AV → Hp → Prop} {n : Nat} {ls : List (Option AV)} {st : List AV} {σ : Hp} {k : Nat × Nat} : xe_X9_hasOnTape ct K R (n + 1) 31 ls st σ k = (lI ls 2 fun x => 2 < 3 ∧ xk_X9_hasOnTape ct K R n 34 (stL ls 2 (vi (x + (1)))) st σ k) := exS_step.trans rfl
theorem ev_X9_hasOnTape_34 {ct : Nat → Bool} {K : Kt} {R : Option AV → Hp → Prop} {n : Nat} {ls : List (Option AV)} {st : List AV} {σ : Hp} {k : Nat × Nat} : xe_X9_hasOnTape ct K R (n + 1) 34 ls st σ k = (xk_X9_hasOnTape ct K R n 2 ls st σ k) := exS_step.trans rfl
theorem ev_X9_hasOnTape_37 {ct : Nat → Bool} {K : Kt} {R : Option AV → Hp → Prop} {n : Nat} {ls : List (Option AV)} {st : List AV} {σ : Hp} {k : Nat × Nat} : xe_X9_hasOnTape ct K R (n + 1) 37 ls st σ k = (xk_X9_hasOnTape ct K R n 38 ls (vi (0) :: st) σ k) := exS_step.trans rfl
theorem ev_X9_hasOnTape_38 {ct : Nat → Bool} {K : Kt} {R : Option AV → Hp → Prop} {n : Nat} {ls : List (Option AV)} {st : List AV} {σ : Hp} {k : Nat × Nat} : xe_X9_hasOnTape ct K R (n + 1) 38 ls st σ k = (oI st fun x st => st = [] ∧ (x = 0 ∨ x = 1) ∧ R (some (vi x)) σ) := exS_step.trans rfl
def M_X9_hasOnTape : Md := (yX9_hasOnTape, cX9_hasOnTape, 3, (some FieldType.boolean), 1, 0, 0, 2, false, tb_X9_hasOnTape, mt_X9_hasOnTape)
theorem mm_X9_hasOnTape : MMOK M_X9_hasOnTape := ⟨by decide +kernel, tk_X9_hasOnTape, mk_X9_hasOnTape, rfl, fun h => by cases h⟩
theorem go_X9_hasOnTape {Q : Option AV → Hp → Prop} {ct : Nat → Bool} {pc : Nat} {ls : List (Option AV)} {st : List AV} {σ : Hp} {k : Nat × Nat} (n : Nat) (h : xe_X9_hasOnTape ct (Go M_X9_hasOnTape Q) Q n pc ls st σ k) : Go M_X9_hasOnTape Q pc ls st σ k := Go.exS mm_X9_hasOnTape h

set_option maxRecDepth 20000 in
theorem c_X9_hasOnTape : Ct yX9_hasOnTape cX9_hasOnTape 3 ((some FieldType.boolean)) 1 0 0 sp_X9_hasOnTape := by
  refine Ct.go (M := M_X9_hasOnTape) mm_X9_hasOnTape fun av σ Q h0 => ?_
  obtain ⟨this, t, rfl, hk, h⟩ := el_X9_hasOnTape h0
  clear h0
  refine ⟨Nat.le_of_ble_eq_true rfl, ?_⟩
  show Go M_X9_hasOnTape Q 0 [some (vr this), some (vi t), none] [] σ (0, 0)
  obtain ⟨⟨h1, h2⟩, h3, h4, ht, h⟩ := h
  unfold inR at ht
  have loop : ∀ (n : Nat) (i : Int), 0 ≤ i → i + n = fI σ 1003 this → (∀ j, 0 ≤ j → j < i → ¬ aI σ (fR σ 1002 this) j = t) → Go M_X9_hasOnTape Q 2 [some (vr this), some (vi t), some (vi i)] [] σ (0, 0) := by
    intro n
    induction n with
    | zero =>
      intro i hi hn hno
      rw [b2i_f (by rintro ⟨j, a, b, c, d⟩; exact hno j a (by omega) d)] at h
      clear hno
      refine go_X9_hasOnTape (ct := fun p => p == 10) 40 ?_
      simp only [oI, oL, oR, o1, lI, lL, lR, popN, catS, gv, stL, stL2, swt, cnd, spObj, List.getElem?_cons_zero, List.getElem?_cons_succ, List.getD_cons_zero, List.getD_cons_succ, List.set_cons_zero, List.set_cons_succ, List.nil_append, List.cons_append, Option.toList, Bool.or_false, Bool.false_or, Bool.or_true, Bool.true_or, Nat.reduceBEq, Nat.reduceAdd, Nat.reduceLT, Nat.reduceLeDiff, Int.reduceAdd, Int.reduceToNat, true_and, and_true, Fin.isValue, Fin.val_zero, Fin.val_one, Fin.val_two, Fin.reduceFinMk, eq_self, Int.reduceNeg, imp_self, Nat.reduceMul, Nat.le_refl, not_true_eq_false, not_false_eq_true, List.getElem?_nil, reduceCtorEq, true_or, or_true, Classical.not_not, implies_true, or_self, wI_0, wI_1, wI_m1, b2i_w, b2i_eq0, b2i_eq1, b2i_bool, nor_self, nx_pI, kd_pI, ln_pI, fI_pI, fL_pI, fR_pI, aI_pI, aL_pI, aR_pI, nx_pL, kd_pL, ln_pL, fI_pL, fL_pL, fR_pL, aI_pL, aL_pL, aR_pL, nx_pR, kd_pR, ln_pR, fI_pR, fL_pR, fR_pR, aI_pR, aL_pR, aR_pR, nx_qI, kd_qI, ln_qI, fI_qI, fL_qI, fR_qI, aI_qI, aL_qI, aR_qI, nx_qL, kd_qL, ln_qL, fI_qL, fL_qL, fR_qL, aI_qL, aL_qL, aR_qL, nx_qR, kd_qR, ln_qR, fI_qR, fL_qR, fR_qR, aI_qR, aL_qR, aR_qR, nx_mk, kd_mk, ln_mk, fI_mk, fL_mk, fR_mk, aI_mk, aL_mk, aR_mk, false_and, and_false, if_false, if_true, and_self, Int.reduceEq, Nat.reduceEqDiff, ite_self, MLay_pI, MLay_pL, MLay_qI, MLay_qL, ev_X9_hasOnTape_0, ev_X9_hasOnTape_1, ev_X9_hasOnTape_2, ev_X9_hasOnTape_3, ev_X9_hasOnTape_4, ev_X9_hasOnTape_7, ev_X9_hasOnTape_10, ev_X9_hasOnTape_11, ev_X9_hasOnTape_12, ev_X9_hasOnTape_15, ev_X9_hasOnTape_16, ev_X9_hasOnTape_19, ev_X9_hasOnTape_20, ev_X9_hasOnTape_23, ev_X9_hasOnTape_24, ev_X9_hasOnTape_25, ev_X9_hasOnTape_26, ev_X9_hasOnTape_29, ev_X9_hasOnTape_30, ev_X9_hasOnTape_31, ev_X9_hasOnTape_34, ev_X9_hasOnTape_37, ev_X9_hasOnTape_38, xt_X9_hasOnTape, xf_X9_hasOnTape, hk, h1, h2]
      try simp (disch := omega) only [wI_id, dv_nn, rm_nn]
      repeat' (first | intro z | apply And.intro)
      all_goals try omega
      all_goals try contradiction
      all_goals exact h
    | succ n ih =>
      intro i hi hn hno
      have h4 := h4 i
      by_cases e : aI σ (fR σ 1002 this) i = t
      · rw [b2i_t ⟨i, hi, by omega, by omega, e⟩] at h
        clear ih hno
        refine go_X9_hasOnTape (ct := fun p => p == 37 || p == 31) 40 ?_
        simp only [oI, oL, oR, o1, lI, lL, lR, popN, catS, gv, stL, stL2, swt, cnd, spObj, List.getElem?_cons_zero, List.getElem?_cons_succ, List.getD_cons_zero, List.getD_cons_succ, List.set_cons_zero, List.set_cons_succ, List.nil_append, List.cons_append, Option.toList, Bool.or_false, Bool.false_or, Bool.or_true, Bool.true_or, Nat.reduceBEq, Nat.reduceAdd, Nat.reduceLT, Nat.reduceLeDiff, Int.reduceAdd, Int.reduceToNat, true_and, and_true, Fin.isValue, Fin.val_zero, Fin.val_one, Fin.val_two, Fin.reduceFinMk, eq_self, Int.reduceNeg, imp_self, Nat.reduceMul, Nat.le_refl, not_true_eq_false, not_false_eq_true, List.getElem?_nil, reduceCtorEq, true_or, or_true, Classical.not_not, implies_true, or_self, wI_0, wI_1, wI_m1, b2i_w, b2i_eq0, b2i_eq1, b2i_bool, nor_self, nx_pI, kd_pI, ln_pI, fI_pI, fL_pI, fR_pI, aI_pI, aL_pI, aR_pI, nx_pL, kd_pL, ln_pL, fI_pL, fL_pL, fR_pL, aI_pL, aL_pL, aR_pL, nx_pR, kd_pR, ln_pR, fI_pR, fL_pR, fR_pR, aI_pR, aL_pR, aR_pR, nx_qI, kd_qI, ln_qI, fI_qI, fL_qI, fR_qI, aI_qI, aL_qI, aR_qI, nx_qL, kd_qL, ln_qL, fI_qL, fL_qL, fR_qL, aI_qL, aL_qL, aR_qL, nx_qR, kd_qR, ln_qR, fI_qR, fL_qR, fR_qR, aI_qR, aL_qR, aR_qR, nx_mk, kd_mk, ln_mk, fI_mk, fL_mk, fR_mk, aI_mk, aL_mk, aR_mk, false_and, and_false, if_false, if_true, and_self, Int.reduceEq, Nat.reduceEqDiff, ite_self, MLay_pI, MLay_pL, MLay_qI, MLay_qL, ev_X9_hasOnTape_0, ev_X9_hasOnTape_1, ev_X9_hasOnTape_2, ev_X9_hasOnTape_3, ev_X9_hasOnTape_4, ev_X9_hasOnTape_7, ev_X9_hasOnTape_10, ev_X9_hasOnTape_11, ev_X9_hasOnTape_12, ev_X9_hasOnTape_15, ev_X9_hasOnTape_16, ev_X9_hasOnTape_19, ev_X9_hasOnTape_20, ev_X9_hasOnTape_23, ev_X9_hasOnTape_24, ev_X9_hasOnTape_25, ev_X9_hasOnTape_26, ev_X9_hasOnTape_29, ev_X9_hasOnTape_30, ev_X9_hasOnTape_31, ev_X9_hasOnTape_34, ev_X9_hasOnTape_37, ev_X9_hasOnTape_38, xt_X9_hasOnTape, xf_X9_hasOnTape, hk, h1, h2]
        try simp (disch := omega) only [wI_id, dv_nn, rm_nn]
        repeat' (first | intro z | apply And.intro)
        all_goals try omega
        all_goals try contradiction
        all_goals exact h
      · have w := ih (i + 1) (by omega) (by omega) fun j a b => by
          by_cases e2 : j = i
          · rw [e2]; exact e
          · exact hno j a (by omega)
        clear h ih hno
        refine go_X9_hasOnTape (ct := fun p => p == 37 || p == 29 || p == 2) 40 ?_
        simp only [oI, oL, oR, o1, lI, lL, lR, popN, catS, gv, stL, stL2, swt, cnd, spObj, List.getElem?_cons_zero, List.getElem?_cons_succ, List.getD_cons_zero, List.getD_cons_succ, List.set_cons_zero, List.set_cons_succ, List.nil_append, List.cons_append, Option.toList, Bool.or_false, Bool.false_or, Bool.or_true, Bool.true_or, Nat.reduceBEq, Nat.reduceAdd, Nat.reduceLT, Nat.reduceLeDiff, Int.reduceAdd, Int.reduceToNat, true_and, and_true, Fin.isValue, Fin.val_zero, Fin.val_one, Fin.val_two, Fin.reduceFinMk, eq_self, Int.reduceNeg, imp_self, Nat.reduceMul, Nat.le_refl, not_true_eq_false, not_false_eq_true, List.getElem?_nil, reduceCtorEq, true_or, or_true, Classical.not_not, implies_true, or_self, wI_0, wI_1, wI_m1, b2i_w, b2i_eq0, b2i_eq1, b2i_bool, nor_self, nx_pI, kd_pI, ln_pI, fI_pI, fL_pI, fR_pI, aI_pI, aL_pI, aR_pI, nx_pL, kd_pL, ln_pL, fI_pL, fL_pL, fR_pL, aI_pL, aL_pL, aR_pL, nx_pR, kd_pR, ln_pR, fI_pR, fL_pR, fR_pR, aI_pR, aL_pR, aR_pR, nx_qI, kd_qI, ln_qI, fI_qI, fL_qI, fR_qI, aI_qI, aL_qI, aR_qI, nx_qL, kd_qL, ln_qL, fI_qL, fL_qL, fR_qL, aI_qL, aL_qL, aR_qL, nx_qR, kd_qR, ln_qR, fI_qR, fL_qR, fR_qR, aI_qR, aL_qR, aR_qR, nx_mk, kd_mk, ln_mk, fI_mk, fL_mk, fR_mk, aI_mk, aL_mk, aR_mk, false_and, and_false, if_false, if_true, and_self, Int.reduceEq, Nat.reduceEqDiff, ite_self, MLay_pI, MLay_pL, MLay_qI, MLay_qL, ev_X9_hasOnTape_0, ev_X9_hasOnTape_1, ev_X9_hasOnTape_2, ev_X9_hasOnTape_3, ev_X9_hasOnTape_4, ev_X9_hasOnTape_7, ev_X9_hasOnTape_10, ev_X9_hasOnTape_11, ev_X9_hasOnTape_12, ev_X9_hasOnTape_15, ev_X9_hasOnTape_16, ev_X9_hasOnTape_19, ev_X9_hasOnTape_20, ev_X9_hasOnTape_23, ev_X9_hasOnTape_24, ev_X9_hasOnTape_25, ev_X9_hasOnTape_26, ev_X9_hasOnTape_29, ev_X9_hasOnTape_30, ev_X9_hasOnTape_31, ev_X9_hasOnTape_34, ev_X9_hasOnTape_37, ev_X9_hasOnTape_38, xt_X9_hasOnTape, xf_X9_hasOnTape, hk, h1, h2]
        try simp (disch := omega) only [wI_id, dv_nn, rm_nn]
        repeat' (first | intro z | apply And.intro)
        all_goals try omega
        all_goals try contradiction
        all_goals exact w
  have w := loop (fI σ 1003 this).toNat 0 (by omega) (by omega) (fun j a b => by omega)
  refine go_X9_hasOnTape (ct := fun p => p == 2) 40 ?_
  simp only [oI, oL, oR, o1, lI, lL, lR, popN, catS, gv, stL, stL2, swt, cnd, spObj, List.getElem?_cons_zero, List.getElem?_cons_succ, List.getD_cons_zero, List.getD_cons_succ, List.set_cons_zero, List.set_cons_succ, List.nil_append, List.cons_append, Option.toList, Bool.or_false, Bool.false_or, Bool.or_true, Bool.true_or, Nat.reduceBEq, Nat.reduceAdd, Nat.reduceLT, Nat.reduceLeDiff, Int.reduceAdd, Int.reduceToNat, true_and, and_true, Fin.isValue, Fin.val_zero, Fin.val_one, Fin.val_two, Fin.reduceFinMk, eq_self, Int.reduceNeg, imp_self, Nat.reduceMul, Nat.le_refl, not_true_eq_false, not_false_eq_true, List.getElem?_nil, reduceCtorEq, true_or, or_true, Classical.not_not, implies_true, or_self, wI_0, wI_1, wI_m1, b2i_w, b2i_eq0, b2i_eq1, b2i_bool, nor_self, nx_pI, kd_pI, ln_pI, fI_pI, fL_pI, fR_pI, aI_pI, aL_pI, aR_pI, nx_pL, kd_pL, ln_pL, fI_pL, fL_pL, fR_pL, aI_pL, aL_pL, aR_pL, nx_pR, kd_pR, ln_pR, fI_pR, fL_pR, fR_pR, aI_pR, aL_pR, aR_pR, nx_qI, kd_qI, ln_qI, fI_qI, fL_qI, fR_qI, aI_qI, aL_qI, aR_qI, nx_qL, kd_qL, ln_qL, fI_qL, fL_qL, fR_qL, aI_qL, aL_qL, aR_qL, nx_qR, kd_qR, ln_qR, fI_qR, fL_qR, fR_qR, aI_qR, aL_qR, aR_qR, nx_mk, kd_mk, ln_mk, fI_mk, fL_mk, fR_mk, aI_mk, aL_mk, aR_mk, false_and, and_false, if_false, if_true, and_self, Int.reduceEq, Nat.reduceEqDiff, ite_self, MLay_pI, MLay_pL, MLay_qI, MLay_qL, ev_X9_hasOnTape_0, ev_X9_hasOnTape_1, xt_X9_hasOnTape, xf_X9_hasOnTape]
  exact w
