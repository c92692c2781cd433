/-! the class's calls: worst, count, cover -/

def sp_X11_worst : Sp := fun av σ Q => oR av fun this av => oI av fun w av => av = [] ∧ kd σ this = 12 ∧ (this = 1 ∧ CLay σ ∧ inR w ∧ ∃ τ, fI σ 1210 1 = fI τ 1301 61 ∧ AL σ τ ∧ BX σ τ ∧ MI τ ∧ WI τ ∧ AB τ ∧ Q (some (vi (mWo τ w (fI τ 1302 61).toNat))) σ)
theorem us_X11_worst (this : Int) (w : Int) (σ : Hp) (Q : Option AV → Hp → Prop) : sp_X11_worst [vr this, vi w] σ Q = (kd σ this = 12 ∧ (this = 1 ∧ CLay σ ∧ inR w ∧ ∃ τ, fI σ 1210 1 = fI τ 1301 61 ∧ AL σ τ ∧ BX σ τ ∧ MI τ ∧ WI τ ∧ AB τ ∧ Q (some (vi (mWo τ w (fI τ 1302 61).toNat))) σ)) := propext ⟨fun h => h.2, fun h => ⟨rfl, h⟩⟩
theorem el_X11_worst {av : List AV} {σ : Hp} {Q : Option AV → Hp → Prop} (h : sp_X11_worst av σ Q) : ∃ (this : Int) (w : Int), av = [vr this, vi w] ∧ (kd σ this = 12 ∧ (this = 1 ∧ CLay σ ∧ inR w ∧ ∃ τ, fI σ 1210 1 = fI τ 1301 61 ∧ AL σ τ ∧ BX σ τ ∧ MI τ ∧ WI τ ∧ AB τ ∧ Q (some (vi (mWo τ w (fI τ 1302 61).toNat))) σ)) := by
  obtain ⟨this, a0, rfl, h0⟩ := oR_s h
  obtain ⟨w, a1, rfl, h1⟩ := oI_s h0
  obtain ⟨rfl, hz⟩ := h1
  exact ⟨this, w, rfl, hz⟩
theorem rc_X11_worst : ∀ (av : List AV) (σ : Hp) (Q : Option AV → Hp → Prop), sp_X11_worst av σ Q → ∃ r tl, av = vr r :: tl ∧ kd σ r = 11 + 1 := fun av σ Q h => by
  obtain ⟨this, w, rfl, hz, -⟩ := el_X11_worst h
  exact ⟨this, _, rfl, hz⟩

def tb_X11_worst : Tab := [(0, .iconst (-1), 1, (0, 0, 0, 0)), (1, .istore_n 2, 1, (0, 0, 0, 0)), (2, .iconst (-1), 1, (0, 0, 0, 0)), (3, .istore_n 3, 1, (0, 0, 0, 0)), (4, .iconst 0, 1, (0, 0, 0, 0)), (5, .istore 4, 2, (0, 0, 0, 0)), (7, .iload 4, 2, (0, 0, 0, 0)), (9, .aload_n 0, 1, (0, 0, 0, 0)), (10, .getfield 33, 3, (12, 1203, 2, 0)), (13, .invokevirtual 83, 3, (0, 0, 0, 0)), (16, .if_icmp .ge 63, 3, (0, 0, 0, 0)), (19, .aload_n 0, 1, (0, 0, 0, 0)), (20, .getfield 33, 3, (12, 1203, 2, 0)), (23, .iload 4, 2, (0, 0, 0, 0)), (25, .invokevirtual 281, 3, (0, 0, 0, 0)), (28, .checkcast 103, 3, (3, 0, 0, 0)), (31, .astore 5, 2, (0, 0, 0, 0)), (33, .aload 5, 2, (0, 0, 0, 0)), (35, .getfield 285, 3, (3, 307, 0, 0)), (38, .iload_n 1, 1, (0, 0, 0, 0)), (39, .if_icmp .ne 19, 3, (0, 0, 0, 0)), (42, .aload_n 0, 1, (0, 0, 0, 0)), (43, .getfield 54, 3, (12, 1207, 2, 0)), (46, .aload 5, 2, (0, 0, 0, 0)), (48, .aload_n 0, 1, (0, 0, 0, 0)), (49, .invokevirtual 203, 3, (0, 0, 0, 0)), (52, .invokevirtual 277, 3, (0, 0, 0, 0)), (55, .goto 4, 3, (0, 0, 0, 0)), (58, .iconst (-1), 1, (0, 0, 0, 0)), (59, .istore 6, 2, (0, 0, 0, 0)), (61, .iload 6, 2, (0, 0, 0, 0)), (63, .iload_n 3, 1, (0, 0, 0, 0)), (64, .if_icmp .le 9, 3, (0, 0, 0, 0)), (67, .iload 6, 2, (0, 0, 0, 0)), (69, .istore_n 3, 1, (0, 0, 0, 0)), (70, .iload 4, 2, (0, 0, 0, 0)), (72, .istore_n 2, 1, (0, 0, 0, 0)), (73, .iinc 4 1, 3, (0, 0, 0, 0)), (76, .goto (-69), 3, (0, 0, 0, 0)), (79, .iload_n 2, 1, (0, 0, 0, 0)), (80, .ireturn, 1, (0, 0, 0, 0))]
set_option maxRecDepth 100000 in
theorem tk_X11_worst : TOK RX11 false cX11_worst tb_X11_worst := chkT_ok ft_X11 (by decide +kernel)
def mt_X11_worst : List (Nat × Mt) := [(664, 1, 0, 0, 1, sp_Jx4a65c_size_8abf5), (2248, 2, 0, 0, 3, sp_Jx4a65c_get_915e3), (1624, 1, 0, 0, 1, sp_X11_today), (2216, 3, 0, 0, 6, sp_X1_rateOn)]
theorem em_X11_worst : mt_X11_worst.lookup 664 = some (1, 0, 0, 1, sp_Jx4a65c_size_8abf5) ∧ mt_X11_worst.lookup 2248 = some (2, 0, 0, 3, sp_Jx4a65c_get_915e3) ∧ mt_X11_worst.lookup 1624 = some (1, 0, 0, 1, sp_X11_today) ∧ mt_X11_worst.lookup 2216 = some (3, 0, 0, 6, sp_X1_rateOn) := ⟨rfl, rfl, rfl, rfl⟩
theorem mk_X11_worst : MOK RX11 mt_X11_worst := by
  intro q hq
  simp only [mt_X11_worst, List.mem_cons, List.not_mem_nil, or_false] at hq
  rcases hq with rfl | rfl | rfl | rfl
  · exact rw_X11_664
  · exact rw_X11_2248
  · exact rw_X11_1624
  · exact rw_X11_2216
noncomputable def xe_X11_worst (ct : Nat → Bool) (K : Kt) (R : Option AV → Hp → Prop) (n : Nat) : Kt := exS 7 7 0 0 1 tb_X11_worst mt_X11_worst ct K R n
noncomputable def xk_X11_worst (ct : Nat → Bool) (K : Kt) (R : Option AV → Hp → Prop) (n : Nat) : Kt := exkS 7 7 0 0 1 tb_X11_worst mt_X11_worst ct K R n
theorem xt_X11_worst {ct : Nat → Bool} {K : Kt} {R : Option AV → Hp → Prop} {n pc : Nat} {ls : List (Option AV)} {st : List AV} {σ : Hp} {k : Nat × Nat} (h : ct pc = true) : xk_X11_worst ct K R n pc ls st σ k = K pc ls st σ k := by unfold xk_X11_worst exkS; rw [h]
theorem xf_X11_worst {ct : Nat → Bool} {K : Kt} {R : Option AV → Hp → Prop} {n pc : Nat} {ls : List (Option AV)} {st : List AV} {σ : Hp} {k : Nat × Nat} (h : ct pc = false) : xk_X11_worst ct K R n pc ls st σ k = xe_X11_worst ct K R n pc ls st σ k := by unfold xk_X11_worst exkS xe_X11_worst; rw [h]
theorem ev_X11_worst_0 {ct : Nat → Bool} {K : Kt} {R : Option AV → Hp → Prop} {n : Nat} {ls : List (Option AV)} {st : List AV} {σ : Hp} {k : Nat × Nat} : xe_X11_worst ct K R (n + 1) 0 ls st σ k = (xk_X11_worst ct K R n 1 ls (vi (-1) :: st) σ k) := exS_step.trans rfl
theorem ev_X11_worst_1 {ct : Nat → Bool} {K : Kt} {R : Option AV → Hp → Prop} {n : Nat} {ls : List (Option AV)} {st : List AV} {σ : Hp} {k : Nat × Nat} : xe_X11_worst ct K R (n + 1) 1 ls st σ k = (oI st fun x st => 2 < 7 ∧ xk_X11_worst ct K R n 2 (stL ls 2 (vi x)) st σ k) := exS_step.trans rfl
theorem ev_X11_worst_2 {ct : Nat → Bool} {K : Kt} {R : Option AV → Hp → Prop} {n : Nat} {ls : List (Option AV)} {st : List AV} {σ : Hp} {k : Nat × Nat} : xe_X11_worst ct K R (n + 1) 2 ls st σ k = (xk_X11_worst ct K R n 3 ls (vi (-1) :: st) σ k) := exS_step.trans rfl
theorem ev_X11_worst_3 {ct : Nat → Bool} {K : Kt} {R : Option AV → Hp → Prop} {n : Nat} {ls : List (Option AV)} {st : List AV} {σ : Hp} {k : Nat × Nat} : xe_X11_worst ct K R (n + 1) 3 ls st σ k = (oI st fun x st => 3 < 7 ∧ xk_X11_worst ct K R n 4 (stL ls 3 (vi x)) st σ k) := exS_step.trans rfl
theorem ev_X11_worst_4 {ct : Nat → Bool} {K : Kt} {R : Option AV → Hp → Prop} {n : Nat} {ls : List (Option AV)} {st : List AV} {σ : Hp} {k : Nat × Nat} : xe_X11_worst ct K R (n + 1) 4 ls st σ k = (xk_X11_worst ct K R n 5 ls (vi (0) :: st) σ k) := exS_step.trans rfl
theorem ev_X11_worst_5 {ct : Nat → Bool} {K : Kt} {R : Option AV → Hp → Prop} {n : Nat} {ls : List (Option AV)} {st : List AV} {σ : Hp} {k : Nat × Nat} : xe_X11_worst ct K R (n + 1) 5 ls st σ k = (oI st fun x st => 4 < 7 ∧ xk_X11_worst ct K R n 7 (stL ls 4 (vi x)) st σ k) := exS_step.trans rfl
theorem ev_X11_worst_7 {ct : Nat → Bool} {K : Kt} {R : Option AV → Hp → Prop} {n : Nat} {ls : List (Option AV)} {st : List AV} {σ : Hp} {k : Nat × Nat} : xe_X11_worst ct K R (n + 1) 7 ls st σ k = (lI ls 4 fun x => xk_X11_worst ct K R n 9 ls (vi x :: st) σ k) := exS_step.trans rfl
theorem ev_X11_worst_9 {ct : Nat → Bool} {K : Kt} {R : Option AV → Hp → Prop} {n : Nat} {ls : List (Option AV)} {st : List AV} {σ : Hp} {k : Nat × Nat} : xe_X11_worst ct K R (n + 1) 9 ls st σ k = (lR ls 0 fun x => xk_X11_worst ct K R n 10 ls (vr x :: st) σ k) := exS_step.trans rfl
theorem ev_X11_worst_10 {ct : Nat → Bool} {K : Kt} {R : Option AV → Hp → Prop} {n : Nat} {ls : List (Option AV)} {st : List AV} {σ : Hp} {k : Nat × Nat} : xe_X11_worst ct K R (n + 1) 10 ls st σ k = (oR st fun x st => kd σ x = 12 ∧ xk_X11_worst ct K R n 13 ls (vr (fR σ 1203 x) :: st) σ k) := exS_step.trans rfl
theorem ev_X11_worst_13 {ct : Nat → Bool} {K : Kt} {R : Option AV → Hp → Prop} {n : Nat} {ls : List (Option AV)} {st : List AV} {σ : Hp} {k : Nat × Nat} : xe_X11_worst ct K R (n + 1) 13 ls st σ k = (popN 1 st [] fun av rest => (catS rest ≤ 8 ∧ 1 < 7 ∧ k.1 + 0 ≤ 0 ∧ k.2 + 0 ≤ 0) ∧ (sp_Jx4a65c_size_8abf5) av σ fun v σ' => xk_X11_worst ct K R n 16 ls (v.toList ++ rest) σ' (k.1 + 0, k.2 + 0)) := exS_step.trans rfl
theorem ev_X11_worst_16 {ct : Nat → Bool} {K : Kt} {R : Option AV → Hp → Prop} {n : Nat} {ls : List (Option AV)} {st : List AV} {σ : Hp} {k : Nat × Nat} : xe_X11_worst ct K R (n + 1) 16 ls st σ k = (oI st fun y st => oI st fun x st => (wI y ≤ wI x → xk_X11_worst ct K R n 79 ls st σ k) ∧ (¬ (wI y ≤ wI x) → xk_X11_worst ct K R n 19 ls st σ k)) := exS_step.trans rfl
theorem ev_X11_worst_19 {ct : Nat → Bool} {K : Kt} {R : Option AV → Hp → Prop} {n : Nat} {ls : List (Option AV)} {st : List AV} {σ : Hp} {k : Nat × Nat} : xe_X11_worst ct K R (n + 1) 19 ls st σ k = (lR ls 0 fun x => xk_X11_worst ct K R n 20 ls (vr x :: st) σ k) := exS_step.trans rfl
theorem ev_X11_worst_20 {ct : Nat → Bool} {K : Kt} {R : Option AV → Hp → Prop} {n : Nat} {ls : List (Option AV)} {st : List AV} {σ : Hp} {k : Nat × Nat} : xe_X11_worst ct K R (n + 1) 20 ls st σ k = (oR st fun x st => kd σ x = 12 ∧ xk_X11_worst ct K R n 23 ls (vr (fR σ 1203 x) :: st) σ k) := exS_step.trans rfl
theorem ev_X11_worst_23 {ct : Nat → Bool} {K : Kt} {R : Option AV → Hp → Prop} {n : Nat} {ls : List (Option AV)} {st : List AV} {σ : Hp} {k : Nat × Nat} : xe_X11_worst ct K R (n + 1) 23 ls st σ k = (lI ls 4 fun x => xk_X11_worst ct K R n 25 ls (vi x :: st) σ k) := exS_step.trans rfl
theorem ev_X11_worst_25 {ct : Nat → Bool} {K : Kt} {R : Option AV → Hp → Prop} {n : Nat} {ls : List (Option AV)} {st : List AV} {σ : Hp} {k : Nat × Nat} : xe_X11_worst ct K R (n + 1) 25 ls st σ k = (popN 2 st [] fun av rest => (catS rest ≤ 8 ∧ 3 < 7 ∧ k.1 + 0 ≤ 0 ∧ k.2 + 0 ≤ 0) ∧ (sp_Jx4a65c_get_915e3) av σ fun v σ' => xk_X11_worst ct K R n 28 ls (v.toList ++ rest) σ' (k.1 + 0, k.2 + 0)) := exS_step.trans rfl
theorem ev_X11_worst_28 {ct : Nat → Bool} {K : Kt} {R : Option AV → Hp → Prop} {n : Nat} {ls : List (Option AV)} {st : List AV} {σ : Hp} {k : Nat × Nat} : xe_X11_worst ct K R (n + 1) 28 ls st σ k = (oR st fun x st => kd σ x = 3 ∧ xk_X11_worst ct K R n 31 ls (vr x :: st) σ k) := exS_step.trans rfl
theorem ev_X11_worst_31 {ct : Nat → Bool} {K : Kt} {R : Option AV → Hp → Prop} {n : Nat} {ls : List (Option AV)} {st : List AV} {σ : Hp} {k : Nat × Nat} : xe_X11_worst ct K R (n + 1) 31 ls st σ k = (oR st fun x st => 5 < 7 ∧ xk_X11_worst ct K R n 33 (stL ls 5 (vr x)) st σ k) := exS_step.trans rfl
theorem ev_X11_worst_33 {ct : Nat → Bool} {K : Kt} {R : Option AV → Hp → Prop} {n : Nat} {ls : List (Option AV)} {st : List AV} {σ : Hp} {k : Nat × Nat} : xe_X11_worst ct K R (n + 1) 33 ls st σ k = (lR ls 5 fun x => xk_X11_worst ct K R n 35 ls (vr x :: st) σ k) := exS_step.trans rfl
theorem ev_X11_worst_35 {ct : Nat → Bool} {K : Kt} {R : Option AV → Hp → Prop} {n : Nat} {ls : List (Option AV)} {st : List AV} {σ : Hp} {k : Nat × Nat} : xe_X11_worst ct K R (n + 1) 35 ls st σ k = (oR st fun x st => kd σ x = 3 ∧ xk_X11_worst ct K R n 38 ls (vi (fI σ 307 x) :: st) σ k) := exS_step.trans rfl
theorem ev_X11_worst_38 {ct : Nat → Bool} {K : Kt} {R : Option AV → Hp → Prop} {n : Nat} {ls : List (Option AV)} {st : List AV} {σ : Hp} {k : Nat × Nat} : xe_X11_worst ct K R (n + 1) 38 ls st σ k = (lI ls 1 fun x => xk_X11_worst ct K R n 39 ls (vi x :: st) σ k) := exS_step.trans rfl
theorem ev_X11_worst_39 {ct : Nat → Bool} {K : Kt} {R : Option AV → Hp → Prop} {n : Nat} {ls : List (Option AV)} {st : List AV} {σ : Hp} {k : Nat × Nat} : xe_X11_worst ct K R (n + 1) 39 ls st σ k = (oI st fun y st => oI st fun x st => (¬ wI x = wI y → xk_X11_worst ct K R n 58 ls st σ k) ∧ (¬ (¬ wI x = wI y) → xk_X11_worst ct K R n 42 ls st σ k)) := exS_step.trans rfl
theorem ev_X11_worst_42 {ct : Nat → Bool} {K : Kt} {R : Option AV → Hp → Prop} {n : Nat} {ls : List (Option AV)} {st : List AV} {σ : Hp} {k : Nat × Nat} : xe_X11_worst ct K R (n + 1) 42 ls st σ k = (lR ls 0 fun x => xk_X11_worst ct K R n 43 ls (vr x :: st) σ k) := exS_step.trans rfl
theorem ev_X11_worst_43 {ct : Nat → Bool} {K : Kt} {R : Option AV → Hp → Prop} {n : Nat} {ls : List (Option AV)} {st : List AV} {σ : Hp} {k : Nat × Nat} : xe_X11_worst ct K R (n + 1) 43 ls st σ k = (oR st fun x st => kd σ x = 12 ∧ xk_X11_worst ct K R n 46 ls (vr (fR σ 1207 x) :: st) σ k) := exS_step.trans rfl
theorem ev_X11_worst_46 {ct : Nat → Bool} {K : Kt} {R : Option AV → Hp → Prop} {n : Nat} {ls : List (Option AV)} {st : List AV} {σ : Hp} {k : Nat × Nat} : xe_X11_worst ct K R (n + 1) 46 ls st σ k = (lR ls 5 fun x => xk_X11_worst ct K R n 48 ls (vr x :: st) σ k) := exS_step.trans rfl
theorem ev_X11_worst_48 {ct : Nat → Bool} {K : Kt} {R : Option AV → Hp → Prop} {n : Nat} {ls : List (Option AV)} {st : List AV} {σ : Hp} {k : Nat × Nat} : xe_X11_worst ct K R (n + 1) 48 ls st σ k = (lR ls 0 fun x => xk_X11_worst ct K R n 49 ls (vr x :: st) σ k) := exS_step.trans rfl
theorem ev_X11_worst_49 {ct : Nat → Bool} {K : Kt} {R : Option AV → Hp → Prop} {n : Nat} {ls : List (Option AV)} {st : List AV} {σ : Hp} {k : Nat × Nat} : xe_X11_worst ct K R (n + 1) 49 ls st σ k = (popN 1 st [] fun av rest => (catS rest ≤ 8 ∧ 1 < 7 ∧ k.1 + 0 ≤ 0 ∧ k.2 + 0 ≤ 0) ∧ (sp_X11_today) av σ fun v σ' => xk_X11_worst ct K R n 52 ls (v.toList ++ rest) σ' (k.1 + 0, k.2 + 0)) := exS_step.trans rfl
theorem ev_X11_worst_52 {ct : Nat → Bool} {K : Kt} {R : Option AV → Hp → Prop} {n : Nat} {ls : List (Option AV)} {st : List AV} {σ : Hp} {k : Nat × Nat} : xe_X11_worst ct K R (n + 1) 52 ls st σ k = (popN 3 st [] fun av rest => (catS rest ≤ 8 ∧ 6 < 7 ∧ k.1 + 0 ≤ 0 ∧ k.2 + 0 ≤ 0) ∧ (sp_X1_rateOn) av σ fun v σ' => xk_X11_worst ct K R n 55 ls (v.toList ++ rest) σ' (k.1 + 0, k.2 + 0)) := exS_step.trans rfl
theorem ev_X11_worst_55 {ct : Nat → Bool} {K : Kt} {R : Option AV → Hp → Prop} {n : Nat} {ls : List (Option AV)} {st : List AV} {σ : Hp} {k : Nat × Nat} : xe_X11_worst ct K R (n + 1) 55 ls st σ k = (xk_X11_worst ct K R n 59 ls st σ k) := exS_step.trans rfl
theorem ev_X11_worst_58 {ct : Nat → Bool} {K : Kt} {R : Option AV → Hp → Prop} {n : Nat} {ls : List (Option AV)} {st : List AV} {σ : Hp} {k : Nat × Nat} : xe_X11_worst ct K R (n + 1) 58 ls st σ k = (xk_X11_worst ct K R n 59 ls (vi (-1) :: st) σ k) := exS_step.trans rfl
theorem ev_X11_worst_59 {ct : Nat → Bool} {K : Kt} {R : Option AV → Hp → Prop} {n : Nat} {ls : List (Option AV)} {st : List AV} {σ : Hp} {k : Nat × Nat} : xe_X11_worst ct K R (n + 1) 59 ls st σ k = (oI st fun x st => 6 < 7 ∧ xk_X11_worst ct K R n 61 (stL ls 6 (vi x)) st σ k) := exS_step.trans rfl
theorem ev_X11_worst_61 {ct : Nat → Bool} {K : Kt} {R : Option AV → Hp → Prop} {n : Nat} {ls : List (Option AV)} {st : List AV} {σ : Hp} {k : Nat × Nat} : xe_X11_worst ct K R (n + 1) 61 ls st σ k = (lI ls 6 fun x => xk_X11_worst ct K R n 63 ls (vi x :: st) σ k) := exS_step.trans rfl
theorem ev_X11_worst_63 {ct : Nat → Bool} {K : Kt} {R : Option AV → Hp → Prop} {n : Nat} {ls : List (Option AV)} {st : List AV} {σ : Hp} {k : Nat × Nat} : xe_X11_worst ct K R (n + 1) 63 ls st σ k = (lI ls 3 fun x => xk_X11_worst ct K R n 64 ls (vi x :: st) σ k) := exS_step.trans rfl
theorem ev_X11_worst_64 {ct : Nat → Bool} {K : Kt} {R : Option AV → Hp → Prop} {n : Nat} {ls : List (Option AV)} {st : List AV} {σ : Hp} {k : Nat × Nat} : xe_X11_worst ct K R (n + 1) 64 ls st σ k = (oI st fun y st => oI st fun x st => (wI x ≤ wI y → xk_X11_worst ct K R n 73 ls st σ k) ∧ (¬ (wI x ≤ wI y) → xk_X11_worst ct K R n 67 ls st σ k)) := exS_step.trans rfl
theorem ev_X11_worst_67 {ct : Nat → Bool} {K : Kt} {R : Option AV → Hp → Prop} {n : Nat} {ls : List (Option AV)} {st : List AV} {σ : Hp} {k : Nat × Nat} : xe_X11_worst ct K R (n + 1) 67 ls st σ k = (lI ls 6 fun x => xk_X11_worst ct K R n 69 ls (vi x :: st) σ k) := exS_step.trans rfl
theorem ev_X11_worst_69 {ct : Nat → Bool} {K : Kt} {R : Option AV → Hp → Prop} {n : Nat} {ls : List (Option AV)} {st : List AV} {σ : Hp} {k : Nat × Nat} : xe_X11_worst ct K R (n + 1) 69 ls st σ k = (oI st fun x st => 3 < 7 ∧ xk_X11_worst ct K R n 70 (stL ls 3 (vi x)) st σ k) := exS_step.trans rfl
theorem ev_X11_worst_70 {ct : Nat → Bool} {K : Kt} {R : Option AV → Hp → Prop} {n : Nat} {ls : List (Option AV)} {st : List AV} {σ : Hp} {k : Nat × Nat} : xe_X11_worst ct K R (n + 1) 70 ls st σ k = (lI ls 4 fun x => xk_X11_worst ct K R n 72 ls (vi x :: st) σ k) := exS_step.trans rfl
theorem ev_X11_worst_72 {ct : Nat → Bool} {K : Kt} {R : Option AV → Hp → Prop} {n : Nat} {ls : List (Option AV)} {st : List AV} {σ : Hp} {k : Nat × Nat} : xe_X11_worst ct K R (n + 1) 72 ls st σ k = (oI st fun x st => 2 < 7 ∧ xk_X11_worst ct K R n 73 (stL ls 2 (vi x)) st σ k) := exS_step.trans rfl
theorem ev_X11_worst_73 {ct : Nat → Bool} {K : Kt} {R : Option AV → Hp → Prop} {n : Nat} {ls : List (Option AV)} {st : List AV} {σ : Hp} {k : Nat × Nat} : xe_X11_worst ct K R (n + 1) 73 ls st σ k = (lI ls 4 fun x => 4 < 7 ∧ xk_X11_worst ct K R n 76 (stL ls 4 (vi (x + (1)))) st σ k) := exS_step.trans rfl
theorem ev_X11_worst_76 {ct : Nat → Bool} {K : Kt} {R : Option AV → Hp → Prop} {n : Nat} {ls : List (Option AV)} {st : List AV} {σ : Hp} {k : Nat × Nat} : xe_X11_worst ct K R (n + 1) 76 ls st σ k = (xk_X11_worst ct K R n 7 ls st σ k) := exS_step.trans rfl
theorem ev_X11_worst_79 {ct : Nat → Bool} {K : Kt} {R : Option AV → Hp → Prop} {n : Nat} {ls : List (Option AV)} {st : List AV} {σ : Hp} {k : Nat × Nat} : xe_X11_worst ct K R (n + 1) 79 ls st σ k = (lI ls 2 fun x => xk_X11_worst ct K R n 80 ls (vi x :: st) σ k) := exS_step.trans rfl
theorem ev_X11_worst_80 {ct : Nat → Bool} {K : Kt} {R : Option AV → Hp → Prop} {n : Nat} {ls : List (Option AV)} {st : List AV} {σ : Hp} {k : Nat × Nat} : xe_X11_worst ct K R (n + 1) 80 ls st σ k = (oI st fun x st => st = [] ∧ True ∧ R (some (vi x)) σ) := exS_step.trans rfl
def M_X11_worst : Md := (yX11_worst, cX11_worst, 7, (some FieldType.int), 7, 0, 0, 1, false, tb_X11_worst, mt_X11_worst)
theorem mm_X11_worst : MMOK M_X11_worst := ⟨by decide +kernel, tk_X11_worst, mk_X11_worst, rfl, fun h => by cases h⟩
theorem go_X11_worst {Q : Option AV → Hp → Prop} {ct : Nat → Bool} {pc : Nat} {ls : List (Option AV)} {st : List AV} {σ : Hp} {k : Nat × Nat} (n : Nat) (h : xe_X11_worst ct (Go M_X11_worst Q) Q n pc ls st σ k) : Go M_X11_worst Q pc ls st σ k := Go.exS mm_X11_worst h

set_option maxRecDepth 20000 in
theorem worst_59 {Q : Option AV → Hp → Prop} {σ : Hp} {w x m i v p : Int} {a6 : Option AV} (hm : -1 ≤ m ∧ m ≤ 200000) (hv : -1 ≤ v ∧ v ≤ 200000)
    (h : ∀ a6, Go M_X11_worst Q 7 [some (vr 1), some (vi w), some (vi (if m < v then i else x)), some (vi (if m < v then v else m)), some (vi (i + 1)), some (vr p), a6] [] σ (0, 0)) : Go M_X11_worst Q 59 [some (vr 1), some (vi w), some (vi x), some (vi m), some (vi i), some (vr p), a6] [vi v] σ (0, 0) := by
  have h := h (some (vi v))
  by_cases c : m < v
  · rw [if_pos c, if_pos c] at h
    refine go_X11_worst (ct := fun p => p == 7) 40 ?_
    simp only [oI, oL, oR, o1, lI, lL, lR, popN, catS, gv, stL, stL2, swt, cnd, spObj, List.getElem?_cons_zero, List.getElem?_cons_succ, List.getD_cons_zero, List.getD_cons_succ, List.set_cons_zero, List.set_cons_succ, List.nil_append, List.cons_append, Option.toList, Bool.or_false, Bool.false_or, Bool.or_true, Bool.true_or, Nat.reduceBEq, Nat.reduceAdd, Nat.reduceLT, Nat.reduceLeDiff, Int.reduceAdd, Int.reduceToNat, true_and, and_true, Fin.isValue, Fin.val_zero, Fin.val_one, Fin.val_two, Fin.reduceFinMk, eq_self, Int.reduceNeg, imp_self, Nat.reduceMul, Nat.le_refl, not_true_eq_false, not_false_eq_true, List.getElem?_nil, reduceCtorEq, true_or, or_true, Classical.not_not, implies_true, or_self, wI_0, wI_1, wI_m1, b2i_w, b2i_eq0, b2i_eq1, b2i_bool, nor_self, nx_pI, kd_pI, ln_pI, fI_pI, fL_pI, fR_pI, aI_pI, aL_pI, aR_pI, nx_pL, kd_pL, ln_pL, fI_pL, fL_pL, fR_pL, aI_pL, aL_pL, aR_pL, nx_pR, kd_pR, ln_pR, fI_pR, fL_pR, fR_pR, aI_pR, aL_pR, aR_pR, nx_qI, kd_qI, ln_qI, fI_qI, fL_qI, fR_qI, aI_qI, aL_qI, aR_qI, nx_qL, kd_qL, ln_qL, fI_qL, fL_qL, fR_qL, aI_qL, aL_qL, aR_qL, nx_qR, kd_qR, ln_qR, fI_qR, fL_qR, fR_qR, aI_qR, aL_qR, aR_qR, nx_mk, kd_mk, ln_mk, fI_mk, fL_mk, fR_mk, aI_mk, aL_mk, aR_mk, false_and, and_false, if_false, if_true, and_self, Int.reduceEq, Nat.reduceEqDiff, ite_self, MLay_pI, MLay_pL, MLay_qI, MLay_qL, ev_X11_worst_59, ev_X11_worst_61, ev_X11_worst_63, ev_X11_worst_64, ev_X11_worst_67, ev_X11_worst_69, ev_X11_worst_70, ev_X11_worst_72, ev_X11_worst_73, ev_X11_worst_76, xt_X11_worst, xf_X11_worst, us_Jx4a65c_size_8abf5, us_Jx4a65c_get_915e3, us_X11_today, us_X1_rateOn]
    try simp (disch := omega) only [wI_id, dv_nn, rm_nn]
    repeat' (first | intro z | apply And.intro)
    all_goals try omega
    all_goals try contradiction
    all_goals exact h
  · rw [if_neg c, if_neg c] at h
    refine go_X11_worst (ct := fun p => p == 7 || p == 67) 40 ?_
    simp only [oI, oL, oR, o1, lI, lL, lR, popN, catS, gv, stL, stL2, swt, cnd, spObj, List.getElem?_cons_zero, List.getElem?_cons_succ, List.getD_cons_zero, List.getD_cons_succ, List.set_cons_zero, List.set_cons_succ, List.nil_append, List.cons_append, Option.toList, Bool.or_false, Bool.false_or, Bool.or_true, Bool.true_or, Nat.reduceBEq, Nat.reduceAdd, Nat.reduceLT, Nat.reduceLeDiff, Int.reduceAdd, Int.reduceToNat, true_and, and_true, Fin.isValue, Fin.val_zero, Fin.val_one, Fin.val_two, Fin.reduceFinMk, eq_self, Int.reduceNeg, imp_self, Nat.reduceMul, Nat.le_refl, not_true_eq_false, not_false_eq_true, List.getElem?_nil, reduceCtorEq, true_or, or_true, Classical.not_not, implies_true, or_self, wI_0, wI_1, wI_m1, b2i_w, b2i_eq0, b2i_eq1, b2i_bool, nor_self, nx_pI, kd_pI, ln_pI, fI_pI, fL_pI, fR_pI, aI_pI, aL_pI, aR_pI, nx_pL, kd_pL, ln_pL, fI_pL, fL_pL, fR_pL, aI_pL, aL_pL, aR_pL, nx_pR, kd_pR, ln_pR, fI_pR, fL_pR, fR_pR, aI_pR, aL_pR, aR_pR, nx_qI, kd_qI, ln_qI, fI_qI, fL_qI, fR_qI, aI_qI, aL_qI, aR_qI, nx_qL, kd_qL, ln_qL, fI_qL, fL_qL, fR_qL, aI_qL, aL_qL, aR_qL, nx_qR, kd_qR, ln_qR, fI_qR, fL_qR, fR_qR, aI_qR, aL_qR, aR_qR, nx_mk, kd_mk, ln_mk, fI_mk, fL_mk, fR_mk, aI_mk, aL_mk, aR_mk, false_and, and_false, if_false, if_true, and_self, Int.reduceEq, Nat.reduceEqDiff, ite_self, MLay_pI, MLay_pL, MLay_qI, MLay_qL, ev_X11_worst_59, ev_X11_worst_61, ev_X11_worst_63, ev_X11_worst_64, ev_X11_worst_67, ev_X11_worst_69, ev_X11_worst_70, ev_X11_worst_72, ev_X11_worst_73, ev_X11_worst_76, xt_X11_worst, xf_X11_worst, us_Jx4a65c_size_8abf5, us_Jx4a65c_get_915e3, us_X11_today, us_X1_rateOn]
    try simp (disch := omega) only [wI_id, dv_nn, rm_nn]
    repeat' (first | intro z | apply And.intro)
    all_goals try omega
    all_goals try contradiction
    all_goals exact h

set_option maxRecDepth 20000 in
theorem c_X11_worst : Ct yX11_worst cX11_worst 7 ((some FieldType.int)) 7 0 0 sp_X11_worst := by
  refine Ct.go (M := M_X11_worst) mm_X11_worst fun av σ Q h0 => ?_
  obtain ⟨this, w, rfl, hk, h⟩ := el_X11_worst h0
  clear h0
  refine ⟨Nat.le_of_ble_eq_true rfl, ?_⟩
  show Go M_X11_worst Q 0 [some (vr this), some (vi w), none, none, none, none, none] [] σ (0, 0)
  obtain ⟨rfl, hC, hw, τ, hnw, hA, hB, hI, hW, hAB, h⟩ := h
  have hw' := hw
  unfold inR at hw'
  have hsz := hB.2.1
  have hLe := hB.le
  have hs := hI.boxes_s
  have hns := hI.now_s
  have hd : inR (fI τ 1301 61 / 86400) := by unfold inR; omega
  have loop : ∀ (m k : Nat) (a5 a6 : Option AV), (k : Int) + m = fI τ 1302 61 → Go M_X11_worst Q 7 [some (vr 1), some (vi w), some (vi (mWo τ w k)), some (vi (if mWo τ w k < 0 then -1 else mRate τ (mWo τ w k) (fI τ 1301 61 / 86400))), some (vi k), a5, a6] [] σ (0, 0) := by
    intro m
    induction m with
    | zero =>
      intro k a5 a6 hk2
      have e : (fI τ 1302 61).toNat = k := by omega
      rw [e] at h
      generalize mWo τ w k = v at *
      clear hA hB hW hAB
      refine go_X11_worst (ct := fun p => p == 19) 40 ?_
      simp only [oI, oL, oR, o1, lI, lL, lR, popN, catS, gv, stL, stL2, swt, cnd, spObj, List.getElem?_cons_zero, List.getElem?_cons_succ, List.getD_cons_zero, List.getD_cons_succ, List.set_cons_zero, List.set_cons_succ, List.nil_append, List.cons_append, Option.toList, Bool.or_false, Bool.false_or, Bool.or_true, Bool.true_or, Nat.reduceBEq, Nat.reduceAdd, Nat.reduceLT, Nat.reduceLeDiff, Int.reduceAdd, Int.reduceToNat, true_and, and_true, Fin.isValue, Fin.val_zero, Fin.val_one, Fin.val_two, Fin.reduceFinMk, eq_self, Int.reduceNeg, imp_self, Nat.reduceMul, Nat.le_refl, not_true_eq_false, not_false_eq_true, List.getElem?_nil, reduceCtorEq, true_or, or_true, Classical.not_not, implies_true, or_self, wI_0, wI_1, wI_m1, b2i_w, b2i_eq0, b2i_eq1, b2i_bool, nor_self, nx_pI, kd_pI, ln_pI, fI_pI, fL_pI, fR_pI, aI_pI, aL_pI, aR_pI, nx_pL, kd_pL, ln_pL, fI_pL, fL_pL, fR_pL, aI_pL, aL_pL, aR_pL, nx_pR, kd_pR, ln_pR, fI_pR, fL_pR, fR_pR, aI_pR, aL_pR, aR_pR, nx_qI, kd_qI, ln_qI, fI_qI, fL_qI, fR_qI, aI_qI, aL_qI, aR_qI, nx_qL, kd_qL, ln_qL, fI_qL, fL_qL, fR_qL, aI_qL, aL_qL, aR_qL, nx_qR, kd_qR, ln_qR, fI_qR, fL_qR, fR_qR, aI_qR, aL_qR, aR_qR, nx_mk, kd_mk, ln_mk, fI_mk, fL_mk, fR_mk, aI_mk, aL_mk, aR_mk, false_and, and_false, if_false, if_true, and_self, Int.reduceEq, Nat.reduceEqDiff, ite_self, MLay_pI, MLay_pL, MLay_qI, MLay_qL, ev_X11_worst_7, ev_X11_worst_9, ev_X11_worst_10, ev_X11_worst_13, ev_X11_worst_16, ev_X11_worst_79, ev_X11_worst_80, xt_X11_worst, xf_X11_worst, us_Jx4a65c_size_8abf5, us_Jx4a65c_get_915e3, us_X11_today, us_X1_rateOn, hC.eqs, hsz]
      try simp (disch := omega) only [wI_id, dv_nn, rm_nn]
      repeat' (first | intro z | apply And.intro)
      all_goals try omega
      all_goals try contradiction
      all_goals exact h
    | succ m ih =>
      intro k a5 a6 hk2
      have ih := fun a5 a6 => ih (k + 1) a5 a6 (by omega)
      have hbk := hB.k (i := k) (by omega) (by omega)
      have hwd : fI σ 307 (lat σ 3 k) = aI τ 67 k := (hB.2.2 k (by omega) (by omega)).2.2.2.2.2.2.2.2.1
      have hwr := hI.ward_ k
      have hin := mWo_in τ w k
      have hr1 := mRate_in hI k (fI τ 1301 61 / 86400)
      have hr2 := mRate_in hI (mWo τ w k) (fI τ 1301 61 / 86400)
      have eB : mWo τ w (k + 1) = if aI τ 67 k = w ∧ (mWo τ w k < 0 ∨ mRate τ (mWo τ w k) (fI τ 1301 61 / 86400) < mRate τ k (fI τ 1301 61 / 86400)) then (k : Int) else mWo τ w k := rfl
      rw [eB] at ih
      clear h eB
      generalize hx : mWo τ w k = x at *
      generalize hy : (if x < 0 then -1 else mRate τ x (fI τ 1301 61 / 86400)) = y at *
      have hyr : -1 ≤ y ∧ y ≤ 200000 := by rw [← hy]; split <;> omega
      by_cases c : aI τ 67 k = w
      · have w59 : ∀ a6, Go M_X11_worst Q 59 [some (vr 1), some (vi w), some (vi x), some (vi y), some (vi k), some (vr (lat σ 3 k)), a6] [vi (mRate τ k (fI τ 1301 61 / 86400))] σ (0, 0) := fun a6 => by
          refine worst_59 hyr (by omega) fun a6 => ?_
          have wz := ih (some (vr (lat σ 3 k))) a6
          have e1 : (y < mRate τ k (fI τ 1301 61 / 86400)) ↔ (x < 0 ∨ mRate τ x (fI τ 1301 61 / 86400) < mRate τ k (fI τ 1301 61 / 86400)) := by
            rw [← hy]
            by_cases z : x < 0
            · rw [if_pos z]; exact ⟨fun _ => Or.inl z, fun _ => by omega⟩
            · rw [if_neg z]; exact ⟨Or.inr, fun q => q.resolve_left z⟩
          by_cases q : y < mRate τ k (fI τ 1301 61 / 86400)
          · rw [if_pos q, if_pos q]
            rw [if_pos ⟨c, e1.mp q⟩, if_neg (by omega)] at wz
            exact wz
          · rw [if_neg q, if_neg q]
            rw [if_neg (fun z => q (e1.mpr z.2)), hy] at wz
            exact wz
        have w52 : Go M_X11_worst Q 52 [some (vr 1), some (vi w), some (vi x), some (vi y), some (vi k), some (vr (lat σ 3 k)), a6] [vi (fI τ 1301 61 / 86400), vr (lat σ 3 k), vr 27] σ (0, 0) := by
          have w59 := w59 a6
          clear ih
          refine go_X11_worst (ct := fun p => p == 59) 40 ?_
          simp only [oI, oL, oR, o1, lI, lL, lR, popN, catS, gv, stL, stL2, swt, cnd, spObj, List.getElem?_cons_zero, List.getElem?_cons_succ, List.getD_cons_zero, List.getD_cons_succ, List.set_cons_zero, List.set_cons_succ, List.nil_append, List.cons_append, Option.toList, Bool.or_false, Bool.false_or, Bool.or_true, Bool.true_or, Nat.reduceBEq, Nat.reduceAdd, Nat.reduceLT, Nat.reduceLeDiff, Int.reduceAdd, Int.reduceToNat, true_and, and_true, Fin.isValue, Fin.val_zero, Fin.val_one, Fin.val_two, Fin.reduceFinMk, eq_self, Int.reduceNeg, imp_self, Nat.reduceMul, Nat.le_refl, not_true_eq_false, not_false_eq_true, List.getElem?_nil, reduceCtorEq, true_or, or_true, Classical.not_not, implies_true, or_self, wI_0, wI_1, wI_m1, b2i_w, b2i_eq0, b2i_eq1, b2i_bool, nor_self, nx_pI, kd_pI, ln_pI, fI_pI, fL_pI, fR_pI, aI_pI, aL_pI, aR_pI, nx_pL, kd_pL, ln_pL, fI_pL, fL_pL, fR_pL, aI_pL, aL_pL, aR_pL, nx_pR, kd_pR, ln_pR, fI_pR, fL_pR, fR_pR, aI_pR, aL_pR, aR_pR, nx_qI, kd_qI, ln_qI, fI_qI, fL_qI, fR_qI, aI_qI, aL_qI, aR_qI, nx_qL, kd_qL, ln_qL, fI_qL, fL_qL, fR_qL, aI_qL, aL_qL, aR_qL, nx_qR, kd_qR, ln_qR, fI_qR, fL_qR, fR_qR, aI_qR, aL_qR, aR_qR, nx_mk, kd_mk, ln_mk, fI_mk, fL_mk, fR_mk, aI_mk, aL_mk, aR_mk, false_and, and_false, if_false, if_true, and_self, Int.reduceEq, Nat.reduceEqDiff, ite_self, MLay_pI, MLay_pL, MLay_qI, MLay_qL, ev_X11_worst_52, ev_X11_worst_55, xt_X11_worst, xf_X11_worst, us_Jx4a65c_size_8abf5, us_Jx4a65c_get_915e3, us_X11_today, us_X1_rateOn, hC, hC.eqs, hd]
          exact ⟨τ, k, hA, hB, hI, hW, hAB, ⟨by omega, by omega⟩, rfl, w59⟩
        clear ih w59 hA hB hW hAB hx hy
        refine go_X11_worst (ct := fun p => p == 79 || p == 52 || p == 58) 60 ?_
        simp only [oI, oL, oR, o1, lI, lL, lR, popN, catS, gv, stL, stL2, swt, cnd, spObj, List.getElem?_cons_zero, List.getElem?_cons_succ, List.getD_cons_zero, List.getD_cons_succ, List.set_cons_zero, List.set_cons_succ, List.nil_append, List.cons_append, Option.toList, Bool.or_false, Bool.false_or, Bool.or_true, Bool.true_or, Nat.reduceBEq, Nat.reduceAdd, Nat.reduceLT, Nat.reduceLeDiff, Int.reduceAdd, Int.reduceToNat, true_and, and_true, Fin.isValue, Fin.val_zero, Fin.val_one, Fin.val_two, Fin.reduceFinMk, eq_self, Int.reduceNeg, imp_self, Nat.reduceMul, Nat.le_refl, not_true_eq_false, not_false_eq_true, List.getElem?_nil, reduceCtorEq, true_or, or_true, Classical.not_not, implies_true, or_self, wI_0, wI_1, wI_m1, b2i_w, b2i_eq0, b2i_eq1, b2i_bool, nor_self, nx_pI, kd_pI, ln_pI, fI_pI, fL_pI, fR_pI, aI_pI, aL_pI, aR_pI, nx_pL, kd_pL, ln_pL, fI_pL, fL_pL, fR_pL, aI_pL, aL_pL, aR_pL, nx_pR, kd_pR, ln_pR, fI_pR, fL_pR, fR_pR, aI_pR, aL_pR, aR_pR, nx_qI, kd_qI, ln_qI, fI_qI, fL_qI, fR_qI, aI_qI, aL_qI, aR_qI, nx_qL, kd_qL, ln_qL, fI_qL, fL_qL, fR_qL, aI_qL, aL_qL, aR_qL, nx_qR, kd_qR, ln_qR, fI_qR, fL_qR, fR_qR, aI_qR, aL_qR, aR_qR, nx_mk, kd_mk, ln_mk, fI_mk, fL_mk, fR_mk, aI_mk, aL_mk, aR_mk, false_and, and_false, if_false, if_true, and_self, Int.reduceEq, Nat.reduceEqDiff, ite_self, MLay_pI, MLay_pL, MLay_qI, MLay_qL, ev_X11_worst_7, ev_X11_worst_9, ev_X11_worst_10, ev_X11_worst_13, ev_X11_worst_16, ev_X11_worst_19, ev_X11_worst_20, ev_X11_worst_23, ev_X11_worst_25, ev_X11_worst_28, ev_X11_worst_31, ev_X11_worst_33, ev_X11_worst_35, ev_X11_worst_38, ev_X11_worst_39, ev_X11_worst_42, ev_X11_worst_43, ev_X11_worst_46, ev_X11_worst_48, ev_X11_worst_49, xt_X11_worst, xf_X11_worst, us_Jx4a65c_size_8abf5, us_Jx4a65c_get_915e3, us_X11_today, us_X1_rateOn, hC.eqs, hsz, hLe, hbk, hwd, hnw, hns]
        try simp (disch := omega) only [wI_id, dv_nn, rm_nn]
        repeat' (first | intro z | apply And.intro)
        all_goals try omega
        all_goals try contradiction
        all_goals exact w52
      · have w59 : ∀ a6, Go M_X11_worst Q 59 [some (vr 1), some (vi w), some (vi x), some (vi y), some (vi k), some (vr (lat σ 3 k)), a6] [vi (-1)] σ (0, 0) := fun a6 => by
          refine worst_59 hyr (by omega) fun a6 => ?_
          have wz := ih (some (vr (lat σ 3 k))) a6
          rw [if_neg (by omega), if_neg (by omega)]
          rw [if_neg (fun z => c z.1), hy] at wz
          exact wz
        have w59 := w59 a6
        clear ih hA hB hW hAB hx hy
        refine go_X11_worst (ct := fun p => p == 79 || p == 42 || p == 59) 60 ?_
        simp only [oI, oL, oR, o1, lI, lL, lR, popN, catS, gv, stL, stL2, swt, cnd, spObj, List.getElem?_cons_zero, List.getElem?_cons_succ, List.getD_cons_zero, List.getD_cons_succ, List.set_cons_zero, List.set_cons_succ, List.nil_append, List.cons_append, Option.toList, Bool.or_false, Bool.false_or, Bool.or_true, Bool.true_or, Nat.reduceBEq, Nat.reduceAdd, Nat.reduceLT, Nat.reduceLeDiff, Int.reduceAdd, Int.reduceToNat, true_and, and_true, Fin.isValue, Fin.val_zero, Fin.val_one, Fin.val_two, Fin.reduceFinMk, eq_self, Int.reduceNeg, imp_self, Nat.reduceMul, Nat.le_refl, not_true_eq_false, not_false_eq_true, List.getElem?_nil, reduceCtorEq, true_or, or_true, Classical.not_not, implies_true, or_self, wI_0, wI_1, wI_m1, b2i_w, b2i_eq0, b2i_eq1, b2i_bool, nor_self, nx_pI, kd_pI, ln_pI, fI_pI, fL_pI, fR_pI, aI_pI, aL_pI, aR_pI, nx_pL, kd_pL, ln_pL, fI_pL, fL_pL, fR_pL, aI_pL, aL_pL, aR_pL, nx_pR, kd_pR, ln_pR, fI_pR, fL_pR, fR_pR, aI_pR, aL_pR, aR_pR, nx_qI, kd_qI, ln_qI, fI_qI, fL_qI, fR_qI, aI_qI, aL_qI, aR_qI, nx_qL, kd_qL, ln_qL, fI_qL, fL_qL, fR_qL, aI_qL, aL_qL, aR_qL, nx_qR, kd_qR, ln_qR, fI_qR, fL_qR, fR_qR, aI_qR, aL_qR, aR_qR, nx_mk, kd_mk, ln_mk, fI_mk, fL_mk, fR_mk, aI_mk, aL_mk, aR_mk, false_and, and_false, if_false, if_true, and_self, Int.reduceEq, Nat.reduceEqDiff, ite_self, MLay_pI, MLay_pL, MLay_qI, MLay_qL, ev_X11_worst_7, ev_X11_worst_9, ev_X11_worst_10, ev_X11_worst_13, ev_X11_worst_16, ev_X11_worst_19, ev_X11_worst_20, ev_X11_worst_23, ev_X11_worst_25, ev_X11_worst_28, ev_X11_worst_31, ev_X11_worst_33, ev_X11_worst_35, ev_X11_worst_38, ev_X11_worst_39, ev_X11_worst_58, xt_X11_worst, xf_X11_worst, us_Jx4a65c_size_8abf5, us_Jx4a65c_get_915e3, us_X11_today, us_X1_rateOn, hC.eqs, hsz, hLe, hbk, hwd]
        try simp (disch := omega) only [wI_id, dv_nn, rm_nn]
        repeat' (first | intro z | apply And.intro)
        all_goals try omega
        all_goals try contradiction
        all_goals exact w59
  have wz := loop (fI τ 1302 61).toNat 0 none none (by omega)
  have wy : Go M_X11_worst Q 7 [some (vr 1), some (vi w), some (vi (-1)), some (vi (-1)), some (vi 0), none, none] [] σ (0, 0) := wz
  clear loop h hA hB hW hAB
  refine go_X11_worst (ct := fun p => p == 7) 20 ?_
  simp only [oI, oL, oR, o1, lI, lL, lR, popN, catS, gv, stL, stL2, swt, cnd, spObj, List.getElem?_cons_zero, List.getElem?_cons_succ, List.getD_cons_zero, List.getD_cons_succ, List.set_cons_zero, List.set_cons_succ, List.nil_append, List.cons_append, Option.toList, Bool.or_false, Bool.false_or, Bool.or_true, Bool.true_or, Nat.reduceBEq, Nat.reduceAdd, Nat.reduceLT, Nat.reduceLeDiff, Int.reduceAdd, Int.reduceToNat, true_and, and_true, Fin.isValue, Fin.val_zero, Fin.val_one, Fin.val_two, Fin.reduceFinMk, eq_self, Int.reduceNeg, imp_self, Nat.reduceMul, Nat.le_refl, not_true_eq_false, not_false_eq_true, List.getElem?_nil, reduceCtorEq, true_or, or_true, Classical.not_not, implies_true, or_self, wI_0, wI_1, wI_m1, b2i_w, b2i_eq0, b2i_eq1, b2i_bool, nor_self, nx_pI, kd_pI, ln_pI, fI_pI, fL_pI, fR_pI, aI_pI, aL_pI, aR_pI, nx_pL, kd_pL, ln_pL, fI_pL, fL_pL, fR_pL, aI_pL, aL_pL, aR_pL, nx_pR, kd_pR, ln_pR, fI_pR, fL_pR, fR_pR, aI_pR, aL_pR, aR_pR, nx_qI, kd_qI, ln_qI, fI_qI, fL_qI, fR_qI, aI_qI, aL_qI, aR_qI, nx_qL, kd_qL, ln_qL, fI_qL, fL_qL, fR_qL, aI_qL, aL_qL, aR_qL, nx_qR, kd_qR, ln_qR, fI_qR, fL_qR, fR_qR, aI_qR, aL_qR, aR_qR, nx_mk, kd_mk, ln_mk, fI_mk, fL_mk, fR_mk, aI_mk, aL_mk, aR_mk, false_and, and_false, if_false, if_true, and_self, Int.reduceEq, Nat.reduceEqDiff, ite_self, MLay_pI, MLay_pL, MLay_qI, MLay_qL, ev_X11_worst_0, ev_X11_worst_1, ev_X11_worst_2, ev_X11_worst_3, ev_X11_worst_4, ev_X11_worst_5, xt_X11_worst, xf_X11_worst, us_Jx4a65c_size_8abf5, us_Jx4a65c_get_915e3, us_X11_today, us_X1_rateOn]
  exact wy

/-- in cover's thought nothing is moved -/
theorem mNear_0 {τ : Hp} {a b i : Int} (hI : MI τ) : mNear (mv τ (-1) a (-1) b) i ↔ ∃ c, (0 ≤ c ∧ c < fI τ 1335 61) ∧ mEng τ c ∧ mWay τ (aI τ 89 c) i ≤ fI τ 1342 61 := by
  unfold mNear
  have e : ∀ c, 0 ≤ c → mHo (mv τ (-1) a (-1) b) c = aI τ 89 c := fun c hc => by
    unfold mHo
    rw [show fI (mv τ (-1) a (-1) b) 1384 61 = -1 from rfl, show fI (mv τ (-1) a (-1) b) 1386 61 = -1 from rfl, if_neg (by omega), if_neg (by omega)]
    rfl
  constructor
  · rintro ⟨c, h1, h2, h3, h4⟩
    rw [e c h1] at h4
    exact ⟨c, ⟨h1, h2⟩, h3, h4⟩
  · rintro ⟨c, h1, h2, h3⟩
    refine ⟨c, h1.1, h1.2, h2, ?_⟩
    rw [e c h1.1]
    exact h3

def sp_X11_covered : Sp := fun av σ Q => oR av fun this av => oI av fun w av => av = [] ∧ kd σ this = 12 ∧ (this = 1 ∧ CLay σ ∧ inR w ∧ ∃ τ, BX σ τ ∧ BG σ τ ∧ MI τ ∧ HIs τ ∧ (mHas τ w → ∀ σ', Fz surF surA noR σ σ' → Q (some (vi (b2i (¬ bE (fI τ 1302 61) fun b => aI τ 67 b = w ∧ ¬ ∃ c, (0 ≤ c ∧ c < fI τ 1335 61) ∧ mEng τ c ∧ mWay τ (aI τ 89 c) b ≤ fI τ 1342 61)))) σ') ∧ (¬ mHas τ w → Q (some (vi (-1))) σ))
theorem us_X11_covered (this : Int) (w : Int) (σ : Hp) (Q : Option AV → Hp → Prop) : sp_X11_covered [vr this, vi w] σ Q = (kd σ this = 12 ∧ (this = 1 ∧ CLay σ ∧ inR w ∧ ∃ τ, BX σ τ ∧ BG σ τ ∧ MI τ ∧ HIs τ ∧ (mHas τ w → ∀ σ', Fz surF surA noR σ σ' → Q (some (vi (b2i (¬ bE (fI τ 1302 61) fun b => aI τ 67 b = w ∧ ¬ ∃ c, (0 ≤ c ∧ c < fI τ 1335 61) ∧ mEng τ c ∧ mWay τ (aI τ 89 c) b ≤ fI τ 1342 61)))) σ') ∧ (¬ mHas τ w → Q (some (vi (-1))) σ))) := propext ⟨fun h => h.2, fun h => ⟨rfl, h⟩⟩
theorem el_X11_covered {av : List AV} {σ : Hp} {Q : Option AV → Hp → Prop} (h : sp_X11_covered av σ Q) : ∃ (this : Int) (w : Int), av = [vr this, vi w] ∧ (kd σ this = 12 ∧ (this = 1 ∧ CLay σ ∧ inR w ∧ ∃ τ, BX σ τ ∧ BG σ τ ∧ MI τ ∧ HIs τ ∧ (mHas τ w → ∀ σ', Fz surF surA noR σ σ' → Q (some (vi (b2i (¬ bE (fI τ 1302 61) fun b => aI τ 67 b = w ∧ ¬ ∃ c, (0 ≤ c ∧ c < fI τ 1335 61) ∧ mEng τ c ∧ mWay τ (aI τ 89 c) b ≤ fI τ 1342 61)))) σ') ∧ (¬ mHas τ w → Q (some (vi (-1))) σ))) := by
  obtain ⟨this, a0, rfl, h0⟩ := oR_s h
  obtain ⟨w, a1, rfl, h1⟩ := oI_s h0
  obtain ⟨rfl, hz⟩ := h1
  exact ⟨this, w, rfl, hz⟩
theorem rc_X11_covered : ∀ (av : List AV) (σ : Hp) (Q : Option AV → Hp → Prop), sp_X11_covered av σ Q → ∃ r tl, av = vr r :: tl ∧ kd σ r = 11 + 1 := fun av σ Q h => by
  obtain ⟨this, w, rfl, hz, -⟩ := el_X11_covered h
  exact ⟨this, _, rfl, hz⟩

def tb_X11_covered : Tab := [(0, .aload_n 0, 1, (0, 0, 0, 0)), (1, .iload_n 1, 1, (0, 0, 0, 0)), (2, .invokevirtual 251, 3, (0, 0, 0, 0)), (5, .ifCond .ne 5, 3, (0, 0, 0, 0)), (8, .iconst (-1), 1, (0, 0, 0, 0)), (9, .ireturn, 1, (0, 0, 0, 0)), (10, .aload_n 0, 1, (0, 0, 0, 0)), (11, .getfield 25, 3, (12, 1202, 2, 0)), (14, .invokevirtual 254, 3, (0, 0, 0, 0)), (17, .aload_n 0, 1, (0, 0, 0, 0)), (18, .getfield 25, 3, (12, 1202, 2, 0)), (21, .iload_n 1, 1, (0, 0, 0, 0)), (22, .invokevirtual 257, 3, (0, 0, 0, 0)), (25, .ifCond .eq 7, 3, (0, 0, 0, 0)), (28, .iconst 1, 1, (0, 0, 0, 0)), (29, .goto 4, 3, (0, 0, 0, 0)), (32, .iconst 0, 1, (0, 0, 0, 0)), (33, .ireturn, 1, (0, 0, 0, 0))]
set_option maxRecDepth 100000 in
theorem tk_X11_covered : TOK RX11 false cX11_covered tb_X11_covered := chkT_ok ft_X11 (by decide +kernel)
theorem rw_X11_2008 : Row RX11 (.invokevirtual 251) 3 2 0 0 4 sp_X11_hasBoxes := row_V (n := 1) (ci := 11) c_X11_hasBoxes ⟨TBL_in 1295 (by decide +kernel) rfl, TBL_in 1298 (by decide +kernel) rfl, TBL_in 111 (by decide +kernel) rfl, by decide +kernel, by decide⟩ (by decide) rfl (TBL_in 1297 (by decide +kernel) rfl) (TBL_in 51 (by decide +kernel) rfl) rc_X11_hasBoxes
theorem rw_X11_2032 : Row RX11 (.invokevirtual 254) 3 1 0 0 4 sp_X6_survey := row_V (n := 0) (ci := 6) c_X6_survey ⟨TBL_in 1299 (by decide +kernel) rfl, TBL_in 1302 (by decide +kernel) rfl, TBL_in 116 (by decide +kernel) rfl, by decide +kernel, by decide⟩ (by decide) rfl (TBL_in 1300 (by decide +kernel) rfl) (TBL_in 1301 (by decide +kernel) rfl) rc_X6_survey
theorem rw_X11_2056 : Row RX11 (.invokevirtual 257) 3 2 0 0 4 sp_X6_coversWard := row_V (n := 1) (ci := 6) c_X6_coversWard ⟨TBL_in 1318 (by decide +kernel) rfl, TBL_in 1321 (by decide +kernel) rfl, TBL_in 116 (by decide +kernel) rfl, by decide +kernel, by decide⟩ (by decide) rfl (TBL_in 1319 (by decide +kernel) rfl) (TBL_in 1320 (by decide +kernel) rfl) rc_X6_coversWard
def mt_X11_covered : List (Nat × Mt) := [(2008, 2, 0, 0, 4, sp_X11_hasBoxes), (2032, 1, 0, 0, 4, sp_X6_survey), (2056, 2, 0, 0, 4, sp_X6_coversWard)]
theorem em_X11_covered : mt_X11_covered.lookup 2008 = some (2, 0, 0, 4, sp_X11_hasBoxes) ∧ mt_X11_covered.lookup 2032 = some (1, 0, 0, 4, sp_X6_survey) ∧ mt_X11_covered.lookup 2056 = some (2, 0, 0, 4, sp_X6_coversWard) := ⟨rfl, rfl, rfl⟩
theorem mk_X11_covered : MOK RX11 mt_X11_covered := by
  intro q hq
  simp only [mt_X11_covered, List.mem_cons, List.not_mem_nil, or_false] at hq
  rcases hq with rfl | rfl | rfl
  · exact rw_X11_2008
  · exact rw_X11_2032
  · exact rw_X11_2056
noncomputable def xe_X11_covered (ct : Nat → Bool) (K : Kt) (R : Option AV → Hp → Prop) (n : Nat) : Kt := exS 2 5 0 0 1 tb_X11_covered mt_X11_covered ct K R n
noncomputable def xk_X11_covered (ct : Nat → Bool) (K : Kt) (R : Option AV → Hp → Prop) (n : Nat) : Kt := exkS 2 5 0 0 1 tb_X11_covered mt_X11_covered ct K R n
theorem xt_X11_covered {ct : Nat → Bool} {K : Kt} {R : Option AV → Hp → Prop} {n pc : Nat} {ls : List (Option AV)} {st : List AV} {σ : Hp} {k : Nat × Nat} (h : ct pc = true) : xk_X11_covered ct K R n pc ls st σ k = K pc ls st σ k := by unfold xk_X11_covered exkS; rw [h]
theorem xf_X11_covered {ct : Nat → Bool} {K : Kt} {R : Option AV → Hp → Prop} {n pc : Nat} {ls : List (Option AV)} {st : List AV} {σ : Hp} {k : Nat × Nat} (h : ct pc = false) : xk_X11_covered ct K R n pc ls st σ k = xe_X11_covered ct K R n pc ls st σ k := by unfold xk_X11_covered exkS xe_X11_covered; rw [h]
theorem ev_X11_covered_0 {ct : Nat → Bool} {K : Kt} {R : Option AV → Hp → Prop} {n : Nat} {ls : List (Option AV)} {st : List AV} {σ : Hp} {k : Nat × Nat} : xe_X11_covered ct K R (n + 1) 0 ls st σ k = (lR ls 0 fun x => xk_X11_covered ct K R n 1 ls (vr x :: st) σ k) := exS_step.trans rfl
theorem ev_X11_covered_1 {ct : Nat → Bool} {K : Kt} {R : Option AV → Hp → Prop} {n : Nat} {ls : List (Option AV)} {st : List AV} {σ : Hp} {k : Nat × Nat} : xe_X11_covered ct K R (n + 1) 1 ls st σ k = (lI ls 1 fun x => xk_X11_covered ct K R n 2 ls (vi x :: st) σ k) := exS_step.trans rfl
theorem ev_X11_covered_2 {ct : Nat → Bool} {K : Kt} {R : Option AV → Hp → Prop} {n : Nat} {ls : List (Option AV)} {st : List AV} {σ : Hp} {k : Nat × Nat} : xe_X11_covered ct K R (n + 1) 2 ls st σ k = (popN 2 st [] fun av rest => (catS rest ≤ 8 ∧ 4 < 5 ∧ k.1 + 0 ≤ 0 ∧ k.2 + 0 ≤ 0) ∧ (sp_X11_hasBoxes) av σ fun v σ' => xk_X11_covered ct K R n 5 ls (v.toList ++ rest) σ' (k.1 + 0, k.2 + 0)) := exS_step.trans rfl
theorem ev_X11_covered_5 {ct : Nat → Bool} {K : Kt} {R : Option AV → Hp → Prop} {n : Nat} {ls : List (Option AV)} {st : List AV} {σ : Hp} {k : Nat × Nat} : xe_X11_covered ct K R (n + 1) 5 ls st σ k = (oI st fun x st => (¬ wI x = wI 0 → xk_X11_covered ct K R n 10 ls st σ k) ∧ (¬ (¬ wI x = wI 0) → xk_X11_covered ct K R n 8 ls st σ k)) := exS_step.trans rfl
theorem ev_X11_covered_8 {ct : Nat → Bool} {K : Kt} {R : Option AV → Hp → Prop} {n : Nat} {ls : List (Option AV)} {st : List AV} {σ : Hp} {k : Nat × Nat} : xe_X11_covered ct K R (n + 1) 8 ls st σ k = (xk_X11_covered ct K R n 9 ls (vi (-1) :: st) σ k) := exS_step.trans rfl
theorem ev_X11_covered_9 {ct : Nat → Bool} {K : Kt} {R : Option AV → Hp → Prop} {n : Nat} {ls : List (Option AV)} {st : List AV} {σ : Hp} {k : Nat × Nat} : xe_X11_covered ct K R (n + 1) 9 ls st σ k = (oI st fun x st => st = [] ∧ True ∧ R (some (vi x)) σ) := exS_step.trans rfl
theorem ev_X11_covered_10 {ct : Nat → Bool} {K : Kt} {R : Option AV → Hp → Prop} {n : Nat} {ls : List (Option AV)} {st : List AV} {σ : Hp} {k : Nat × Nat} : xe_X11_covered ct K R (n + 1) 10 ls st σ k = (lR ls 0 fun x => xk_X11_covered ct K R n 11 ls (vr x :: st) σ k) := exS_step.trans rfl
theorem ev_X11_covered_11 {ct : Nat → Bool} {K : Kt} {R : Option AV → Hp → Prop} {n : Nat} {ls : List (Option AV)} {st : List AV} {σ : Hp} {k : Nat × Nat} : xe_X11_covered ct K R (n + 1) 11 ls st σ k = (oR st fun x st => kd σ x = 12 ∧ xk_X11_covered ct K R n 14 ls (vr (fR σ 1202 x) :: st) σ k) := exS_step.trans rfl
theorem ev_X11_covered_14 {ct : Nat → Bool} {K : Kt} {R : Option AV → Hp → Prop} {n : Nat} {ls : List (Option AV)} {st : List AV} {σ : Hp} {k : Nat × Nat} : xe_X11_covered ct K R (n + 1) 14 ls st σ k = (popN 1 st [] fun av rest => (catS rest ≤ 8 ∧ 4 < 5 ∧ k.1 + 0 ≤ 0 ∧ k.2 + 0 ≤ 0) ∧ (sp_X6_survey) av σ fun v σ' => xk_X11_covered ct K R n 17 ls (v.toList ++ rest) σ' (k.1 + 0, k.2 + 0)) := exS_step.trans rfl
theorem ev_X11_covered_17 {ct : Nat → Bool} {K : Kt} {R : Option AV → Hp → Prop} {n : Nat} {ls : List (Option AV)} {st : List AV} {σ : Hp} {k : Nat × Nat} : xe_X11_covered ct K R (n + 1) 17 ls st σ k = (lR ls 0 fun x => xk_X11_covered ct K R n 18 ls (vr x :: st) σ k) := exS_step.trans rfl
theorem ev_X11_covered_18 {ct : Nat → Bool} {K : Kt} {R : Option AV → Hp → Prop} {n : Nat} {ls : List (Option AV)} {st : List AV} {σ : Hp} {k : Nat × Nat} : xe_X11_covered ct K R (n + 1) 18 ls st σ k = (oR st fun x st => kd σ x = 12 ∧ xk_X11_covered ct K R n 21 ls (vr (fR σ 1202 x) :: st) σ k) := exS_step.trans rfl
theorem ev_X11_covered_21 {ct : Nat → Bool} {K : Kt} {R : Option AV → Hp → Prop} {n : Nat} {ls : List (Option AV)} {st : List AV} {σ : Hp} {k : Nat × Nat} : xe_X11_covered ct K R (n + 1) 21 ls st σ k = (lI ls 1 fun x => xk_X11_covered ct K R n 22 ls (vi x :: st) σ k) := exS_step.trans rfl
theorem ev_X11_covered_22 {ct : Nat → Bool} {K : Kt} {R : Option AV → Hp → Prop} {n : Nat} {ls : List (Option AV)} {st : List AV} {σ : Hp} {k : Nat × Nat} : xe_X11_covered ct K R (n + 1) 22 ls st σ k = (popN 2 st [] fun av rest => (catS rest ≤ 8 ∧ 4 < 5 ∧ k.1 + 0 ≤ 0 ∧ k.2 + 0 ≤ 0) ∧ (sp_X6_coversWard) av σ fun v σ' => xk_X11_covered ct K R n 25 ls (v.toList ++ rest) σ' (k.1 + 0, k.2 + 0)) := exS_step.trans rfl
theorem ev_X11_covered_25 {ct : Nat → Bool} {K : Kt} {R : Option AV → Hp → Prop} {n : Nat} {ls : List (Option AV)} {st : List AV} {σ : Hp} {k : Nat × Nat} : xe_X11_covered ct K R (n + 1) 25 ls st σ k = (oI st fun x st => (wI x = wI 0 → xk_X11_covered ct K R n 32 ls st σ k) ∧ (¬ (wI x = wI 0) → xk_X11_covered ct K R n 28 ls st σ k)) := exS_step.trans rfl
theorem ev_X11_covered_28 {ct : Nat → Bool} {K : Kt} {R : Option AV → Hp → Prop} {n : Nat} {ls : List (Option AV)} {st : List AV} {σ : Hp} {k : Nat × Nat} : xe_X11_covered ct K R (n + 1) 28 ls st σ k = (xk_X11_covered ct K R n 29 ls (vi (1) :: st) σ k) := exS_step.trans rfl
theorem ev_X11_covered_29 {ct : Nat → Bool} {K : Kt} {R : Option AV → Hp → Prop} {n : Nat} {ls : List (Option AV)} {st : List AV} {σ : Hp} {k : Nat × Nat} : xe_X11_covered ct K R (n + 1) 29 ls st σ k = (xk_X11_covered ct K R n 33 ls st σ k) := exS_step.trans rfl
theorem ev_X11_covered_32 {ct : Nat → Bool} {K : Kt} {R : Option AV → Hp → Prop} {n : Nat} {ls : List (Option AV)} {st : List AV} {σ : Hp} {k : Nat × Nat} : xe_X11_covered ct K R (n + 1) 32 ls st σ k = (xk_X11_covered ct K R n 33 ls (vi (0) :: st) σ k) := exS_step.trans rfl
theorem ev_X11_covered_33 {ct : Nat → Bool} {K : Kt} {R : Option AV → Hp → Prop} {n : Nat} {ls : List (Option AV)} {st : List AV} {σ : Hp} {k : Nat × Nat} : xe_X11_covered ct K R (n + 1) 33 ls st σ k = (oI st fun x st => st = [] ∧ True ∧ R (some (vi x)) σ) := exS_step.trans rfl
def M_X11_covered : Md := (yX11_covered, cX11_covered, 2, (some FieldType.int), 5, 0, 0, 1, false, tb_X11_covered, mt_X11_covered)
theorem mm_X11_covered : MMOK M_X11_covered := ⟨by decide +kernel, tk_X11_covered, mk_X11_covered, rfl, fun h => by cases h⟩
theorem go_X11_covered {Q : Option AV → Hp → Prop} {ct : Nat → Bool} {pc : Nat} {ls : List (Option AV)} {st : List AV} {σ : Hp} {k : Nat × Nat} (n : Nat) (h : xe_X11_covered ct (Go M_X11_covered Q) Q n pc ls st σ k) : Go M_X11_covered Q pc ls st σ k := Go.exS mm_X11_covered h

set_option maxRecDepth 20000 in
theorem c_X11_covered : Ct yX11_covered cX11_covered 2 ((some FieldType.int)) 5 0 0 sp_X11_covered := by
  refine Ct.go (M := M_X11_covered) mm_X11_covered fun av σ Q h0 => ?_
  obtain ⟨this, w, rfl, hk, h⟩ := el_X11_covered h0
  clear h0
  refine ⟨Nat.le_of_ble_eq_true rfl, ?_⟩
  show Go M_X11_covered Q 0 [some (vr this), some (vi w)] [] σ (0, 0)
  obtain ⟨rfl, hC, hw, τ, hB, hG, hI, hH, h1, h2⟩ := h
  have hbs := hI.boxes_s
  have hF : FRn τ (aI τ 89) := fun c a b e => ⟨e.2, (hH c a b).1⟩
  by_cases c : mHas τ w
  · have h1 := h1 c
    have w17 : ∀ σ', Fz surF surA noR σ σ' → NR σ' τ → CVS (fI τ 1335 61).toNat (mEng τ) (aI τ 89) σ' → TKn σ' τ → Go M_X11_covered Q 17 [some (vr 1), some (vi w)] [] σ' (0, 0) := fun σ' z hN hV hT => by
      have h1 := h1 σ' z
      have C2 := hC.fz z (by decide)
      have L2 := hB.1.fz z (by decide) (by decide) (by decide)
      have hsz : fI σ' 1402 3 = fI τ 1302 61 := by rw [z.fI (by decide)]; exact hB.2.1
      have elt := lat_fz z (by decide)
      have ewd : fI σ' 307 = fI σ 307 := z.fI (by decide)
      have hwr : ∀ i, 0 ≤ i → i < fI τ 1302 61 → 0 ≤ fI σ 307 (lat σ 3 i) ∧ fI σ 307 (lat σ 3 i) ≤ 7 := fun i a b => by
        have := (hB.r hI a b).2.2.2.2.2.2.2.2.1
        exact this
      have eq : (¬ bE (fI τ 1302 61) fun i => fI σ 307 (lat σ 3 i) = w ∧ cUn σ' i) ↔ (¬ bE (fI τ 1302 61) fun b => aI τ 67 b = w ∧ ¬ ∃ c, (0 ≤ c ∧ c < fI τ 1335 61) ∧ mEng τ c ∧ mWay τ (aI τ 89 c) b ≤ fI τ 1342 61) := by
        constructor
        · rintro q ⟨i, a, b, d1, d2⟩
          refine q ⟨i, a, b, ?_, (cUn_is hI hN hV hF a b).mpr d2⟩
          rw [(hB.2.2 i a b).2.2.2.2.2.2.2.2.1]; exact d1
        · rintro q ⟨i, a, b, d1, d2⟩
          refine q ⟨i, a, b, ?_, (cUn_is hI hN hV hF a b).mp d2⟩
          rw [(hB.2.2 i a b).2.2.2.2.2.2.2.2.1] at d1; exact d1
      rw [← b2i_congr eq] at h1
      have hNn := hN.1
      clear eq hN hV hT z
      by_cases y : ¬ bE (fI τ 1302 61) fun i => fI σ 307 (lat σ 3 i) = w ∧ cUn σ' i
      · rw [b2i_t y] at h1
        refine go_X11_covered (ct := fun p => p == 32) 40 ?_
        simp only [oI, oL, oR, o1, lI, lL, lR, popN, catS, gv, stL, stL2, swt, cnd, spObj, List.getElem?_cons_zero, List.getElem?_cons_succ, List.getD_cons_zero, List.getD_cons_succ, List.set_cons_zero, List.set_cons_succ, List.nil_append, List.cons_append, Option.toList, Bool.or_false, Bool.false_or, Bool.or_true, Bool.true_or, Nat.reduceBEq, Nat.reduceAdd, Nat.reduceLT, Nat.reduceLeDiff, Int.reduceAdd, Int.reduceToNat, true_and, and_true, Fin.isValue, Fin.val_zero, Fin.val_one, Fin.val_two, Fin.reduceFinMk, eq_self, Int.reduceNeg, imp_self, Nat.reduceMul, Nat.le_refl, not_true_eq_false, not_false_eq_true, List.getElem?_nil, reduceCtorEq, true_or, or_true, Classical.not_not, implies_true, or_self, wI_0, wI_1, wI_m1, b2i_w, b2i_eq0, b2i_eq1, b2i_bool, nor_self, nx_pI, kd_pI, ln_pI, fI_pI, fL_pI, fR_pI, aI_pI, aL_pI, aR_pI, nx_pL, kd_pL, ln_pL, fI_pL, fL_pL, fR_pL, aI_pL, aL_pL, aR_pL, nx_pR, kd_pR, ln_pR, fI_pR, fL_pR, fR_pR, aI_pR, aL_pR, aR_pR, nx_qI, kd_qI, ln_qI, fI_qI, fL_qI, fR_qI, aI_qI, aL_qI, aR_qI, nx_qL, kd_qL, ln_qL, fI_qL, fL_qL, fR_qL, aI_qL, aL_qL, aR_qL, nx_qR, kd_qR, ln_qR, fI_qR, fL_qR, fR_qR, aI_qR, aL_qR, aR_qR, nx_mk, kd_mk, ln_mk, fI_mk, fL_mk, fR_mk, aI_mk, aL_mk, aR_mk, false_and, and_false, if_false, if_true, and_self, Int.reduceEq, Nat.reduceEqDiff, ite_self, MLay_pI, MLay_pL, MLay_qI, MLay_qL, ev_X11_covered_17, ev_X11_covered_18, ev_X11_covered_21, ev_X11_covered_22, ev_X11_covered_25, ev_X11_covered_28, ev_X11_covered_29, ev_X11_covered_32, ev_X11_covered_33, xt_X11_covered, xf_X11_covered, us_X11_hasBoxes, us_X6_survey, us_X6_coversWard, C2, C2.eqs, hw, L2, hNn, hsz, elt, ewd, hbs]
        repeat' (first | intro z | apply And.intro)
        all_goals try omega
        all_goals try contradiction
        all_goals first | exact h1 | (exact (hwr _ (by assumption) (by assumption)).1) | (exact (hwr _ (by assumption) (by assumption)).2) | (exfalso; exact absurd y (by assumption))
      · rw [b2i_f y] at h1
        refine go_X11_covered (ct := fun p => p == 28) 40 ?_
        simp only [oI, oL, oR, o1, lI, lL, lR, popN, catS, gv, stL, stL2, swt, cnd, spObj, List.getElem?_cons_zero, List.getElem?_cons_succ, List.getD_cons_zero, List.getD_cons_succ, List.set_cons_zero, List.set_cons_succ, List.nil_append, List.cons_append, Option.toList, Bool.or_false, Bool.false_or, Bool.or_true, Bool.true_or, Nat.reduceBEq, Nat.reduceAdd, Nat.reduceLT, Nat.reduceLeDiff, Int.reduceAdd, Int.reduceToNat, true_and, and_true, Fin.isValue, Fin.val_zero, Fin.val_one, Fin.val_two, Fin.reduceFinMk, eq_self, Int.reduceNeg, imp_self, Nat.reduceMul, Nat.le_refl, not_true_eq_false, not_false_eq_true, List.getElem?_nil, reduceCtorEq, true_or, or_true, Classical.not_not, implies_true, or_self, wI_0, wI_1, wI_m1, b2i_w, b2i_eq0, b2i_eq1, b2i_bool, nor_self, nx_pI, kd_pI, ln_pI, fI_pI, fL_pI, fR_pI, aI_pI, aL_pI, aR_pI, nx_pL, kd_pL, ln_pL, fI_pL, fL_pL, fR_pL, aI_pL, aL_pL, aR_pL, nx_pR, kd_pR, ln_pR, fI_pR, fL_pR, fR_pR, aI_pR, aL_pR, aR_pR, nx_qI, kd_qI, ln_qI, fI_qI, fL_qI, fR_qI, aI_qI, aL_qI, aR_qI, nx_qL, kd_qL, ln_qL, fI_qL, fL_qL, fR_qL, aI_qL, aL_qL, aR_qL, nx_qR, kd_qR, ln_qR, fI_qR, fL_qR, fR_qR, aI_qR, aL_qR, aR_qR, nx_mk, kd_mk, ln_mk, fI_mk, fL_mk, fR_mk, aI_mk, aL_mk, aR_mk, false_and, and_false, if_false, if_true, and_self, Int.reduceEq, Nat.reduceEqDiff, ite_self, MLay_pI, MLay_pL, MLay_qI, MLay_qL, ev_X11_covered_17, ev_X11_covered_18, ev_X11_covered_21, ev_X11_covered_22, ev_X11_covered_25, ev_X11_covered_28, ev_X11_covered_29, ev_X11_covered_32, ev_X11_covered_33, xt_X11_covered, xf_X11_covered, us_X11_hasBoxes, us_X6_survey, us_X6_coversWard, C2, C2.eqs, hw, L2, hNn, hsz, elt, ewd, hbs]
        repeat' (first | intro z | apply And.intro)
        all_goals try omega
        all_goals try contradiction
        all_goals first | exact h1 | (exact (hwr _ (by assumption) (by assumption)).1) | (exact (hwr _ (by assumption) (by assumption)).2) | (exfalso; exact y (by assumption))
    have w10 : Go M_X11_covered Q 10 [some (vr 1), some (vi w)] [] σ (0, 0) := by
      clear h1 h2
      refine go_X11_covered (ct := fun p => p == 17) 40 ?_
      simp only [oI, oL, oR, o1, lI, lL, lR, popN, catS, gv, stL, stL2, swt, cnd, spObj, List.getElem?_cons_zero, List.getElem?_cons_succ, List.getD_cons_zero, List.getD_cons_succ, List.set_cons_zero, List.set_cons_succ, List.nil_append, List.cons_append, Option.toList, Bool.or_false, Bool.false_or, Bool.or_true, Bool.true_or, Nat.reduceBEq, Nat.reduceAdd, Nat.reduceLT, Nat.reduceLeDiff, Int.reduceAdd, Int.reduceToNat, true_and, and_true, Fin.isValue, Fin.val_zero, Fin.val_one, Fin.val_two, Fin.reduceFinMk, eq_self, Int.reduceNeg, imp_self, Nat.reduceMul, Nat.le_refl, not_true_eq_false, not_false_eq_true, List.getElem?_nil, reduceCtorEq, true_or, or_true, Classical.not_not, implies_true, or_self, wI_0, wI_1, wI_m1, b2i_w, b2i_eq0, b2i_eq1, b2i_bool, nor_self, nx_pI, kd_pI, ln_pI, fI_pI, fL_pI, fR_pI, aI_pI, aL_pI, aR_pI, nx_pL, kd_pL, ln_pL, fI_pL, fL_pL, fR_pL, aI_pL, aL_pL, aR_pL, nx_pR, kd_pR, ln_pR, fI_pR, fL_pR, fR_pR, aI_pR, aL_pR, aR_pR, nx_qI, kd_qI, ln_qI, fI_qI, fL_qI, fR_qI, aI_qI, aL_qI, aR_qI, nx_qL, kd_qL, ln_qL, fI_qL, fL_qL, fR_qL, aI_qL, aL_qL, aR_qL, nx_qR, kd_qR, ln_qR, fI_qR, fL_qR, fR_qR, aI_qR, aL_qR, aR_qR, nx_mk, kd_mk, ln_mk, fI_mk, fL_mk, fR_mk, aI_mk, aL_mk, aR_mk, false_and, and_false, if_false, if_true, and_self, Int.reduceEq, Nat.reduceEqDiff, ite_self, MLay_pI, MLay_pL, MLay_qI, MLay_qL, ev_X11_covered_10, ev_X11_covered_11, ev_X11_covered_14, xt_X11_covered, xf_X11_covered, us_X11_hasBoxes, us_X6_survey, us_X6_coversWard, hC, hC.eqs]
      exact ⟨τ, hB, hG, hI, w17⟩
    have w5 : Go M_X11_covered Q 5 [some (vr 1), some (vi w)] [vi (b2i (mHas τ w))] σ (0, 0) := by
      clear h1 h2 w17
      rw [b2i_t c]
      refine go_X11_covered (ct := fun p => p == 8 || p == 10) 40 ?_
      simp only [oI, oL, oR, o1, lI, lL, lR, popN, catS, gv, stL, stL2, swt, cnd, spObj, List.getElem?_cons_zero, List.getElem?_cons_succ, List.getD_cons_zero, List.getD_cons_succ, List.set_cons_zero, List.set_cons_succ, List.nil_append, List.cons_append, Option.toList, Bool.or_false, Bool.false_or, Bool.or_true, Bool.true_or, Nat.reduceBEq, Nat.reduceAdd, Nat.reduceLT, Nat.reduceLeDiff, Int.reduceAdd, Int.reduceToNat, true_and, and_true, Fin.isValue, Fin.val_zero, Fin.val_one, Fin.val_two, Fin.reduceFinMk, eq_self, Int.reduceNeg, imp_self, Nat.reduceMul, Nat.le_refl, not_true_eq_false, not_false_eq_true, List.getElem?_nil, reduceCtorEq, true_or, or_true, Classical.not_not, implies_true, or_self, wI_0, wI_1, wI_m1, b2i_w, b2i_eq0, b2i_eq1, b2i_bool, nor_self, nx_pI, kd_pI, ln_pI, fI_pI, fL_pI, fR_pI, aI_pI, aL_pI, aR_pI, nx_pL, kd_pL, ln_pL, fI_pL, fL_pL, fR_pL, aI_pL, aL_pL, aR_pL, nx_pR, kd_pR, ln_pR, fI_pR, fL_pR, fR_pR, aI_pR, aL_pR, aR_pR, nx_qI, kd_qI, ln_qI, fI_qI, fL_qI, fR_qI, aI_qI, aL_qI, aR_qI, nx_qL, kd_qL, ln_qL, fI_qL, fL_qL, fR_qL, aI_qL, aL_qL, aR_qL, nx_qR, kd_qR, ln_qR, fI_qR, fL_qR, fR_qR, aI_qR, aL_qR, aR_qR, nx_mk, kd_mk, ln_mk, fI_mk, fL_mk, fR_mk, aI_mk, aL_mk, aR_mk, false_and, and_false, if_false, if_true, and_self, Int.reduceEq, Nat.reduceEqDiff, ite_self, MLay_pI, MLay_pL, MLay_qI, MLay_qL, ev_X11_covered_5, xt_X11_covered, xf_X11_covered, us_X11_hasBoxes, us_X6_survey, us_X6_coversWard]
      try simp (disch := omega) only [wI_id, dv_nn, rm_nn]
      repeat' (first | intro z | apply And.intro)
      all_goals try omega
      all_goals try contradiction
      all_goals exact w10
    clear h1 h2 w17 w10
    refine go_X11_covered (ct := fun p => p == 5) 40 ?_
    simp only [oI, oL, oR, o1, lI, lL, lR, popN, catS, gv, stL, stL2, swt, cnd, spObj, List.getElem?_cons_zero, List.getElem?_cons_succ, List.getD_cons_zero, List.getD_cons_succ, List.set_cons_zero, List.set_cons_succ, List.nil_append, List.cons_append, Option.toList, Bool.or_false, Bool.false_or, Bool.or_true, Bool.true_or, Nat.reduceBEq, Nat.reduceAdd, Nat.reduceLT, Nat.reduceLeDiff, Int.reduceAdd, Int.reduceToNat, true_and, and_true, Fin.isValue, Fin.val_zero, Fin.val_one, Fin.val_two, Fin.reduceFinMk, eq_self, Int.reduceNeg, imp_self, Nat.reduceMul, Nat.le_refl, not_true_eq_false, not_false_eq_true, List.getElem?_nil, reduceCtorEq, true_or, or_true, Classical.not_not, implies_true, or_self, wI_0, wI_1, wI_m1, b2i_w, b2i_eq0, b2i_eq1, b2i_bool, nor_self, nx_pI, kd_pI, ln_pI, fI_pI, fL_pI, fR_pI, aI_pI, aL_pI, aR_pI, nx_pL, kd_pL, ln_pL, fI_pL, fL_pL, fR_pL, aI_pL, aL_pL, aR_pL, nx_pR, kd_pR, ln_pR, fI_pR, fL_pR, fR_pR, aI_pR, aL_pR, aR_pR, nx_qI, kd_qI, ln_qI, fI_qI, fL_qI, fR_qI, aI_qI, aL_qI, aR_qI, nx_qL, kd_qL, ln_qL, fI_qL, fL_qL, fR_qL, aI_qL, aL_qL, aR_qL, nx_qR, kd_qR, ln_qR, fI_qR, fL_qR, fR_qR, aI_qR, aL_qR, aR_qR, nx_mk, kd_mk, ln_mk, fI_mk, fL_mk, fR_mk, aI_mk, aL_mk, aR_mk, false_and, and_false, if_false, if_true, and_self, Int.reduceEq, Nat.reduceEqDiff, ite_self, MLay_pI, MLay_pL, MLay_qI, MLay_qL, ev_X11_covered_0, ev_X11_covered_1, ev_X11_covered_2, xt_X11_covered, xf_X11_covered, us_X11_hasBoxes, us_X6_survey, us_X6_coversWard, hk, hC, hw]
    exact ⟨τ, hB, hI, w5⟩
  · have h2 := h2 c
    have w5 : Go M_X11_covered Q 5 [some (vr 1), some (vi w)] [vi (b2i (mHas τ w))] σ (0, 0) := by
      clear h1
      rw [b2i_f c]
      refine go_X11_covered (ct := fun p => p == 10) 40 ?_
      simp only [oI, oL, oR, o1, lI, lL, lR, popN, catS, gv, stL, stL2, swt, cnd, spObj, List.getElem?_cons_zero, List.getElem?_cons_succ, List.getD_cons_zero, List.getD_cons_succ, List.set_cons_zero, List.set_cons_succ, List.nil_append, List.cons_append, Option.toList, Bool.or_false, Bool.false_or, Bool.or_true, Bool.true_or, Nat.reduceBEq, Nat.reduceAdd, Nat.reduceLT, Nat.reduceLeDiff, Int.reduceAdd, Int.reduceToNat, true_and, and_true, Fin.isValue, Fin.val_zero, Fin.val_one, Fin.val_two, Fin.reduceFinMk, eq_self, Int.reduceNeg, imp_self, Nat.reduceMul, Nat.le_refl, not_true_eq_false, not_false_eq_true, List.getElem?_nil, reduceCtorEq, true_or, or_true, Classical.not_not, implies_true, or_self, wI_0, wI_1, wI_m1, b2i_w, b2i_eq0, b2i_eq1, b2i_bool, nor_self, nx_pI, kd_pI, ln_pI, fI_pI, fL_pI, fR_pI, aI_pI, aL_pI, aR_pI, nx_pL, kd_pL, ln_pL, fI_pL, fL_pL, fR_pL, aI_pL, aL_pL, aR_pL, nx_pR, kd_pR, ln_pR, fI_pR, fL_pR, fR_pR, aI_pR, aL_pR, aR_pR, nx_qI, kd_qI, ln_qI, fI_qI, fL_qI, fR_qI, aI_qI, aL_qI, aR_qI, nx_qL, kd_qL, ln_qL, fI_qL, fL_qL, fR_qL, aI_qL, aL_qL, aR_qL, nx_qR, kd_qR, ln_qR, fI_qR, fL_qR, fR_qR, aI_qR, aL_qR, aR_qR, nx_mk, kd_mk, ln_mk, fI_mk, fL_mk, fR_mk, aI_mk, aL_mk, aR_mk, false_and, and_false, if_false, if_true, and_self, Int.reduceEq, Nat.reduceEqDiff, ite_self, MLay_pI, MLay_pL, MLay_qI, MLay_qL, ev_X11_covered_5, ev_X11_covered_8, ev_X11_covered_9, xt_X11_covered, xf_X11_covered, us_X11_hasBoxes, us_X6_survey, us_X6_coversWard]
      try simp (disch := omega) only [wI_id, dv_nn, rm_nn]
      repeat' (first | intro z | apply And.intro)
      all_goals try omega
      all_goals try contradiction
      all_goals exact h2
    clear h1 h2
    refine go_X11_covered (ct := fun p => p == 5) 40 ?_
    simp only [oI, oL, oR, o1, lI, lL, lR, popN, catS, gv, stL, stL2, swt, cnd, spObj, List.getElem?_cons_zero, List.getElem?_cons_succ, List.getD_cons_zero, List.getD_cons_succ, List.set_cons_zero, List.set_cons_succ, List.nil_append, List.cons_append, Option.toList, Bool.or_false, Bool.false_or, Bool.or_true, Bool.true_or, Nat.reduceBEq, Nat.reduceAdd, Nat.reduceLT, Nat.reduceLeDiff, Int.reduceAdd, Int.reduceToNat, true_and, and_true, Fin.isValue, Fin.val_zero, Fin.val_one, Fin.val_two, Fin.reduceFinMk, eq_self, Int.reduceNeg, imp_self, Nat.reduceMul, Nat.le_refl, not_true_eq_false, not_false_eq_true, List.getElem?_nil, reduceCtorEq, true_or, or_true, Classical.not_not, implies_true, or_self, wI_0, wI_1, wI_m1, b2i_w, b2i_eq0, b2i_eq1, b2i_bool, nor_self, nx_pI, kd_pI, ln_pI, fI_pI, fL_pI, fR_pI, aI_pI, aL_pI, aR_pI, nx_pL, kd_pL, ln_pL, fI_pL, fL_pL, fR_pL, aI_pL, aL_pL, aR_pL, nx_pR, kd_pR, ln_pR, fI_pR, fL_pR, fR_pR, aI_pR, aL_pR, aR_pR, nx_qI, kd_qI, ln_qI, fI_qI, fL_qI, fR_qI, aI_qI, aL_qI, aR_qI, nx_qL, kd_qL, ln_qL, fI_qL, fL_qL, fR_qL, aI_qL, aL_qL, aR_qL, nx_qR, kd_qR, ln_qR, fI_qR, fL_qR, fR_qR, aI_qR, aL_qR, aR_qR, nx_mk, kd_mk, ln_mk, fI_mk, fL_mk, fR_mk, aI_mk, aL_mk, aR_mk, false_and, and_false, if_false, if_true, and_self, Int.reduceEq, Nat.reduceEqDiff, ite_self, MLay_pI, MLay_pL, MLay_qI, MLay_qL, ev_X11_covered_0, ev_X11_covered_1, ev_X11_covered_2, xt_X11_covered, xf_X11_covered, us_X11_hasBoxes, us_X6_survey, us_X6_coversWard, hk, hC, hw]
    exact ⟨τ, hB, hI, w5⟩

def sp_X11_moves : Sp := fun av σ Q => oR av fun this av => av = [] ∧ kd σ this = 12 ∧ (this = 1 ∧ CLay σ ∧ TGr σ ∧ ∃ τ, BX σ τ ∧ BG σ τ ∧ MI τ ∧ HIs τ ∧ (∀ σ' n, Fz fewF fewA noR σ σ' → TGr σ' → cFew τ σ' n → Q (some (vi n)) σ'))
theorem us_X11_moves (this : Int) (σ : Hp) (Q : Option AV → Hp → Prop) : sp_X11_moves [vr this] σ Q = (kd σ this = 12 ∧ (this = 1 ∧ CLay σ ∧ TGr σ ∧ ∃ τ, BX σ τ ∧ BG σ τ ∧ MI τ ∧ HIs τ ∧ (∀ σ' n, Fz fewF fewA noR σ σ' → TGr σ' → cFew τ σ' n → Q (some (vi n)) σ'))) := propext ⟨fun h => h.2, fun h => ⟨rfl, h⟩⟩
theorem el_X11_moves {av : List AV} {σ : Hp} {Q : Option AV → Hp → Prop} (h : sp_X11_moves av σ Q) : ∃ (this : Int), av = [vr this] ∧ (kd σ this = 12 ∧ (this = 1 ∧ CLay σ ∧ TGr σ ∧ ∃ τ, BX σ τ ∧ BG σ τ ∧ MI τ ∧ HIs τ ∧ (∀ σ' n, Fz fewF fewA noR σ σ' → TGr σ' → cFew τ σ' n → Q (some (vi n)) σ'))) := by
  obtain ⟨this, a0, rfl, h0⟩ := oR_s h
  obtain ⟨rfl, hz⟩ := h0
  exact ⟨this, rfl, hz⟩
theorem rc_X11_moves : ∀ (av : List AV) (σ : Hp) (Q : Option AV → Hp → Prop), sp_X11_moves av σ Q → ∃ r tl, av = vr r :: tl ∧ kd σ r = 11 + 1 := fun av σ Q h => by
  obtain ⟨this, rfl, hz, -⟩ := el_X11_moves h
  exact ⟨this, _, rfl, hz⟩

def tb_X11_moves : Tab := [(0, .aload_n 0, 1, (0, 0, 0, 0)), (1, .getfield 25, 3, (12, 1202, 2, 0)), (4, .invokevirtual 260, 3, (0, 0, 0, 0)), (7, .ireturn, 1, (0, 0, 0, 0))]
set_option maxRecDepth 100000 in
theorem tk_X11_moves : TOK RX11 false cX11_moves tb_X11_moves := chkT_ok ft_X11 (by decide +kernel)
theorem rw_X11_2080 : Row RX11 (.invokevirtual 260) 3 1 0 0 11 sp_X6_fewest := row_V (n := 0) (ci := 6) c_X6_fewest ⟨TBL_in 1326 (by decide +kernel) rfl, TBL_in 1329 (by decide +kernel) rfl, TBL_in 116 (by decide +kernel) rfl, by decide +kernel, by decide⟩ (by decide) rfl (TBL_in 1327 (by decide +kernel) rfl) (TBL_in 1328 (by decide +kernel) rfl) rc_X6_fewest
def mt_X11_moves : List (Nat × Mt) := [(2080, 1, 0, 0, 11, sp_X6_fewest)]
theorem em_X11_moves : mt_X11_moves.lookup 2080 = some (1, 0, 0, 11, sp_X6_fewest) := rfl
theorem mk_X11_moves : MOK RX11 mt_X11_moves := by
  intro q hq
  simp only [mt_X11_moves, List.mem_cons, List.not_mem_nil, or_false] at hq
  rcases hq with rfl
  · exact rw_X11_2080
noncomputable def xe_X11_moves (ct : Nat → Bool) (K : Kt) (R : Option AV → Hp → Prop) (n : Nat) : Kt := exS 1 12 0 0 1 tb_X11_moves mt_X11_moves ct K R n
noncomputable def xk_X11_moves (ct : Nat → Bool) (K : Kt) (R : Option AV → Hp → Prop) (n : Nat) : Kt := exkS 1 12 0 0 1 tb_X11_moves mt_X11_moves ct K R n
theorem xt_X11_moves {ct : Nat → Bool} {K : Kt} {R : Option AV → Hp → Prop} {n pc : Nat} {ls : List (Option AV)} {st : List AV} {σ : Hp} {k : Nat × Nat} (h : ct pc = true) : xk_X11_moves ct K R n pc ls st σ k = K pc ls st σ k := by unfold xk_X11_moves exkS; rw [h]
theorem xf_X11_moves {ct : Nat → Bool} {K : Kt} {R : Option AV → Hp → Prop} {n pc : Nat} {ls : List (Option AV)} {st : List AV} {σ : Hp} {k : Nat × Nat} (h : ct pc = false) : xk_X11_moves ct K R n pc ls st σ k = xe_X11_moves ct K R n pc ls st σ k := by unfold xk_X11_moves exkS xe_X11_moves; rw [h]
theorem ev_X11_moves_0 {ct : Nat → Bool} {K : Kt} {R : Option AV → Hp → Prop} {n : Nat} {ls : List (Option AV)} {st : List AV} {σ : Hp} {k : Nat × Nat} : xe_X11_moves ct K R (n + 1) 0 ls st σ k = (lR ls 0 fun x => xk_X11_moves ct K R n 1 ls (vr x :: st) σ k) := exS_step.trans rfl
theorem ev_X11_moves_1 {ct : Nat → Bool} {K : Kt} {R : Option AV → Hp → Prop} {n : Nat} {ls : List (Option AV)} {st : List AV} {σ : Hp} {k : Nat × Nat} : xe_X11_moves ct K R (n + 1) 1 ls st σ k = (oR st fun x st => kd σ x = 12 ∧ xk_X11_moves ct K R n 4 ls (vr (fR σ 1202 x) :: st) σ k) := exS_step.trans rfl
theorem ev_X11_moves_4 {ct : Nat → Bool} {K : Kt} {R : Option AV → Hp → Prop} {n : Nat} {ls : List (Option AV)} {st : List AV} {σ : Hp} {k : Nat × Nat} : xe_X11_moves ct K R (n + 1) 4 ls st σ k = (popN 1 st [] fun av rest => (catS rest ≤ 8 ∧ 11 < 12 ∧ k.1 + 0 ≤ 0 ∧ k.2 + 0 ≤ 0) ∧ (sp_X6_fewest) av σ fun v σ' => xk_X11_moves ct K R n 7 ls (v.toList ++ rest) σ' (k.1 + 0, k.2 + 0)) := exS_step.trans rfl
theorem ev_X11_moves_7 {ct : Nat → Bool} {K : Kt} {R : Option AV → Hp → Prop} {n : Nat} {ls : List (Option AV)} {st : List AV} {σ : Hp} {k : Nat × Nat} : xe_X11_moves ct K R (n + 1) 7 ls st σ k = (oI st fun x st => st = [] ∧ True ∧ R (some (vi x)) σ) := exS_step.trans rfl
def M_X11_moves : Md := (yX11_moves, cX11_moves, 1, (some FieldType.int), 12, 0, 0, 1, false, tb_X11_moves, mt_X11_moves)
theorem mm_X11_moves : MMOK M_X11_moves := ⟨by decide +kernel, tk_X11_moves, mk_X11_moves, rfl, fun h => by cases h⟩
theorem go_X11_moves {Q : Option AV → Hp → Prop} {ct : Nat → Bool} {pc : Nat} {ls : List (Option AV)} {st : List AV} {σ : Hp} {k : Nat × Nat} (n : Nat) (h : xe_X11_moves ct (Go M_X11_moves Q) Q n pc ls st σ k) : Go M_X11_moves Q pc ls st σ k := Go.exS mm_X11_moves h

set_option maxRecDepth 20000 in
theorem c_X11_moves : Ct yX11_moves cX11_moves 1 ((some FieldType.int)) 12 0 0 sp_X11_moves := by
  refine Ct.go (M := M_X11_moves) mm_X11_moves fun av σ Q h0 => ?_
  obtain ⟨this, rfl, hk, h⟩ := el_X11_moves h0
  clear h0
  refine ⟨Nat.le_of_ble_eq_true rfl, ?_⟩
  show Go M_X11_moves Q 0 [some (vr this)] [] σ (0, 0)
  obtain ⟨rfl, hC, hT, τ, hB, hG, hI, hH, h⟩ := h
  refine go_X11_moves (ct := fun p => p == 99) 40 ?_
  simp only [oI, oL, oR, o1, lI, lL, lR, popN, catS, gv, stL, stL2, swt, cnd, spObj, List.getElem?_cons_zero, List.getElem?_cons_succ, List.getD_cons_zero, List.getD_cons_succ, List.set_cons_zero, List.set_cons_succ, List.nil_append, List.cons_append, Option.toList, Bool.or_false, Bool.false_or, Bool.or_true, Bool.true_or, Nat.reduceBEq, Nat.reduceAdd, Nat.reduceLT, Nat.reduceLeDiff, Int.reduceAdd, Int.reduceToNat, true_and, and_true, Fin.isValue, Fin.val_zero, Fin.val_one, Fin.val_two, Fin.reduceFinMk, eq_self, Int.reduceNeg, imp_self, Nat.reduceMul, Nat.le_refl, not_true_eq_false, not_false_eq_true, List.getElem?_nil, reduceCtorEq, true_or, or_true, Classical.not_not, implies_true, or_self, wI_0, wI_1, wI_m1, b2i_w, b2i_eq0, b2i_eq1, b2i_bool, nor_self, nx_pI, kd_pI, ln_pI, fI_pI, fL_pI, fR_pI, aI_pI, aL_pI, aR_pI, nx_pL, kd_pL, ln_pL, fI_pL, fL_pL, fR_pL, aI_pL, aL_pL, aR_pL, nx_pR, kd_pR, ln_pR, fI_pR, fL_pR, fR_pR, aI_pR, aL_pR, aR_pR, nx_qI, kd_qI, ln_qI, fI_qI, fL_qI, fR_qI, aI_qI, aL_qI, aR_qI, nx_qL, kd_qL, ln_qL, fI_qL, fL_qL, fR_qL, aI_qL, aL_qL, aR_qL, nx_qR, kd_qR, ln_qR, fI_qR, fL_qR, fR_qR, aI_qR, aL_qR, aR_qR, nx_mk, kd_mk, ln_mk, fI_mk, fL_mk, fR_mk, aI_mk, aL_mk, aR_mk, false_and, and_false, if_false, if_true, and_self, Int.reduceEq, Nat.reduceEqDiff, ite_self, MLay_pI, MLay_pL, MLay_qI, MLay_qL, ev_X11_moves_0, ev_X11_moves_1, ev_X11_moves_4, ev_X11_moves_7, xt_X11_moves, xf_X11_moves, us_X6_fewest, hC, hC.eqs, hT]
  exact ⟨τ, hB, hG, hI, hH, h⟩

def sp_X11_move : Sp := fun av σ Q => oR av fun this av => oI av fun i av => oI av fun w av => av = [] ∧ kd σ this = 12 ∧ (this = 1 ∧ CLay σ ∧ TGr σ ∧ inR i ∧ inR w ∧ ∃ τ, BX σ τ ∧ BG σ τ ∧ MI τ ∧ HIs τ ∧ (∀ σ' n, Fz fewF fewA noR σ σ' → TGr σ' → cFew τ σ' n → Q (some (vi (if (0 ≤ i ∧ i < n) ∧ 0 ≤ w ∧ w ≤ 1 then (if w = 0 then aI σ' 22 i else aI σ' 23 i) else -1))) σ'))
theorem us_X11_move (this : Int) (i : Int) (w : Int) (σ : Hp) (Q : Option AV → Hp → Prop) : sp_X11_move [vr this, vi i, vi w] σ Q = (kd σ this = 12 ∧ (this = 1 ∧ CLay σ ∧ TGr σ ∧ inR i ∧ inR w ∧ ∃ τ, BX σ τ ∧ BG σ τ ∧ MI τ ∧ HIs τ ∧ (∀ σ' n, Fz fewF fewA noR σ σ' → TGr σ' → cFew τ σ' n → Q (some (vi (if (0 ≤ i ∧ i < n) ∧ 0 ≤ w ∧ w ≤ 1 then (if w = 0 then aI σ' 22 i else aI σ' 23 i) else -1))) σ'))) := propext ⟨fun h => h.2, fun h => ⟨rfl, h⟩⟩
theorem el_X11_move {av : List AV} {σ : Hp} {Q : Option AV → Hp → Prop} (h : sp_X11_move av σ Q) : ∃ (this : Int) (i : Int) (w : Int), av = [vr this, vi i, vi w] ∧ (kd σ this = 12 ∧ (this = 1 ∧ CLay σ ∧ TGr σ ∧ inR i ∧ inR w ∧ ∃ τ, BX σ τ ∧ BG σ τ ∧ MI τ ∧ HIs τ ∧ (∀ σ' n, Fz fewF fewA noR σ σ' → TGr σ' → cFew τ σ' n → Q (some (vi (if (0 ≤ i ∧ i < n) ∧ 0 ≤ w ∧ w ≤ 1 then (if w = 0 then aI σ' 22 i else aI σ' 23 i) else -1))) σ'))) := by
  obtain ⟨this, a0, rfl, h0⟩ := oR_s h
  obtain ⟨i, a1, rfl, h1⟩ := oI_s h0
  obtain ⟨w, a2, rfl, h2⟩ := oI_s h1
  obtain ⟨rfl, hz⟩ := h2
  exact ⟨this, i, w, rfl, hz⟩
theorem rc_X11_move : ∀ (av : List AV) (σ : Hp) (Q : Option AV → Hp → Prop), sp_X11_move av σ Q → ∃ r tl, av = vr r :: tl ∧ kd σ r = 11 + 1 := fun av σ Q h => by
  obtain ⟨this, i, w, rfl, hz, -⟩ := el_X11_move h
  exact ⟨this, _, rfl, hz⟩

def tb_X11_move : Tab := [(0, .aload_n 0, 1, (0, 0, 0, 0)), (1, .getfield 25, 3, (12, 1202, 2, 0)), (4, .invokevirtual 260, 3, (0, 0, 0, 0)), (7, .istore_n 3, 1, (0, 0, 0, 0)), (8, .iload_n 1, 1, (0, 0, 0, 0)), (9, .ifCond .lt 8, 3, (0, 0, 0, 0)), (12, .iload_n 1, 1, (0, 0, 0, 0)), (13, .iload_n 3, 1, (0, 0, 0, 0)), (14, .if_icmp .lt 5, 3, (0, 0, 0, 0)), (17, .iconst (-1), 1, (0, 0, 0, 0)), (18, .ireturn, 1, (0, 0, 0, 0)), (19, .iload_n 2, 1, (0, 0, 0, 0)), (20, .ifCond .ne 14, 3, (0, 0, 0, 0)), (23, .aload_n 0, 1, (0, 0, 0, 0)), (24, .getfield 25, 3, (12, 1202, 2, 0)), (27, .iload_n 1, 1, (0, 0, 0, 0)), (28, .invokevirtual 263, 3, (0, 0, 0, 0)), (31, .goto 20, 3, (0, 0, 0, 0)), (34, .iload_n 2, 1, (0, 0, 0, 0)), (35, .iconst 1, 1, (0, 0, 0, 0)), (36, .if_icmp .ne 14, 3, (0, 0, 0, 0)), (39, .aload_n 0, 1, (0, 0, 0, 0)), (40, .getfield 25, 3, (12, 1202, 2, 0)), (43, .iload_n 1, 1, (0, 0, 0, 0)), (44, .invokevirtual 264, 3, (0, 0, 0, 0)), (47, .goto 4, 3, (0, 0, 0, 0)), (50, .iconst (-1), 1, (0, 0, 0, 0)), (51, .ireturn, 1, (0, 0, 0, 0))]
set_option maxRecDepth 100000 in
theorem tk_X11_move : TOK RX11 false cX11_move tb_X11_move := chkT_ok ft_X11 (by decide +kernel)
theorem rw_X11_2104 : Row RX11 (.invokevirtual 263) 3 2 0 0 1 sp_X6_companyAt := row_V (n := 1) (ci := 6) c_X6_companyAt ⟨TBL_in 1360 (by decide +kernel) rfl, TBL_in 1363 (by decide +kernel) rfl, TBL_in 116 (by decide +kernel) rfl, by decide +kernel, by decide⟩ (by decide) rfl (TBL_in 1361 (by decide +kernel) rfl) (TBL_in 1362 (by decide +kernel) rfl) rc_X6_companyAt
theorem rw_X11_2112 : Row RX11 (.invokevirtual 264) 3 2 0 0 1 sp_X6_houseAt := row_V (n := 1) (ci := 6) c_X6_houseAt ⟨TBL_in 1364 (by decide +kernel) rfl, TBL_in 1355 (by decide +kernel) rfl, TBL_in 116 (by decide +kernel) rfl, by decide +kernel, by decide⟩ (by decide) rfl (TBL_in 1353 (by decide +kernel) rfl) (TBL_in 1354 (by decide +kernel) rfl) rc_X6_houseAt
def mt_X11_move : List (Nat × Mt) := [(2080, 1, 0, 0, 11, sp_X6_fewest), (2104, 2, 0, 0, 1, sp_X6_companyAt), (2112, 2, 0, 0, 1, sp_X6_houseAt)]
theorem em_X11_move : mt_X11_move.lookup 2080 = some (1, 0, 0, 11, sp_X6_fewest) ∧ mt_X11_move.lookup 2104 = some (2, 0, 0, 1, sp_X6_companyAt) ∧ mt_X11_move.lookup 2112 = some (2, 0, 0, 1, sp_X6_houseAt) := ⟨rfl, rfl, rfl⟩
theorem mk_X11_move : MOK RX11 mt_X11_move := by
  intro q hq
  simp only [mt_X11_move, List.mem_cons, List.not_mem_nil, or_false] at hq
  rcases hq with rfl | rfl | rfl
  · exact rw_X11_2080
  · exact rw_X11_2104
  · exact rw_X11_2112
noncomputable def xe_X11_move (ct : Nat → Bool) (K : Kt) (R : Option AV → Hp → Prop) (n : Nat) : Kt := exS 4 12 0 0 1 tb_X11_move mt_X11_move ct K R n
noncomputable def xk_X11_move (ct : Nat → Bool) (K : Kt) (R : Option AV → Hp → Prop) (n : Nat) : Kt := exkS 4 12 0 0 1 tb_X11_move mt_X11_move ct K R n
theorem xt_X11_move {ct : Nat → Bool} {K : Kt} {R : Option AV → Hp → Prop} {n pc : Nat} {ls : List (Option AV)} {st : List AV} {σ : Hp} {k : Nat × Nat} (h : ct pc = true) : xk_X11_move ct K R n pc ls st σ k = K pc ls st σ k := by unfold xk_X11_move exkS; rw [h]
theorem xf_X11_move {ct : Nat → Bool} {K : Kt} {R : Option AV → Hp → Prop} {n pc : Nat} {ls : List (Option AV)} {st : List AV} {σ : Hp} {k : Nat × Nat} (h : ct pc = false) : xk_X11_move ct K R n pc ls st σ k = xe_X11_move ct K R n pc ls st σ k := by unfold xk_X11_move exkS xe_X11_move; rw [h]
theorem ev_X11_move_0 {ct : Nat → Bool} {K : Kt} {R : Option AV → Hp → Prop} {n : Nat} {ls : List (Option AV)} {st : List AV} {σ : Hp} {k : Nat × Nat} : xe_X11_move ct K R (n + 1) 0 ls st σ k = (lR ls 0 fun x => xk_X11_move ct K R n 1 ls (vr x :: st) σ k) := exS_step.trans rfl
theorem ev_X11_move_1 {ct : Nat → Bool} {K : Kt} {R : Option AV → Hp → Prop} {n : Nat} {ls : List (Option AV)} {st : List AV} {σ : Hp} {k : Nat × Nat} : xe_X11_move ct K R (n + 1) 1 ls st σ k = (oR st fun x st => kd σ x = 12 ∧ xk_X11_move ct K R n 4 ls (vr (fR σ 1202 x) :: st) σ k) := exS_step.trans rfl
theorem ev_X11_move_4 {ct : Nat → Bool} {K : Kt} {R : Option AV → Hp → Prop} {n : Nat} {ls : List (Option AV)} {st : List AV} {σ : Hp} {k : Nat × Nat} : xe_X11_move ct K R (n + 1) 4 ls st σ k = (popN 1 st [] fun av rest => (catS rest ≤ 8 ∧ 11 < 12 ∧ k.1 + 0 ≤ 0 ∧ k.2 + 0 ≤ 0) ∧ (sp_X6_fewest) av σ fun v σ' => xk_X11_move ct K R n 7 ls (v.toList ++ rest) σ' (k.1 + 0, k.2 + 0)) := exS_step.trans rfl
theorem ev_X11_move_7 {ct : Nat → Bool} {K : Kt} {R : Option AV → Hp → Prop} {n : Nat} {ls : List (Option AV)} {st : List AV} {σ : Hp} {k : Nat × Nat} : xe_X11_move ct K R (n + 1) 7 ls st σ k = (oI st fun x st => 3 < 4 ∧ xk_X11_move ct K R n 8 (stL ls 3 (vi x)) st σ k) := exS_step.trans rfl
theorem ev_X11_move_8 {ct : Nat → Bool} {K : Kt} {R : Option AV → Hp → Prop} {n : Nat} {ls : List (Option AV)} {st : List AV} {σ : Hp} {k : Nat × Nat} : xe_X11_move ct K R (n + 1) 8 ls st σ k = (lI ls 1 fun x => xk_X11_move ct K R n 9 ls (vi x :: st) σ k) := exS_step.trans rfl
theorem ev_X11_move_9 {ct : Nat → Bool} {K : Kt} {R : Option AV → Hp → Prop} {n : Nat} {ls : List (Option AV)} {st : List AV} {σ : Hp} {k : Nat × Nat} : xe_X11_move ct K R (n + 1) 9 ls st σ k = (oI st fun x st => (wI x < wI 0 → xk_X11_move ct K R n 17 ls st σ k) ∧ (¬ (wI x < wI 0) → xk_X11_move ct K R n 12 ls st σ k)) := exS_step.trans rfl
theorem ev_X11_move_12 {ct : Nat → Bool} {K : Kt} {R : Option AV → Hp → Prop} {n : Nat} {ls : List (Option AV)} {st : List AV} {σ : Hp} {k : Nat × Nat} : xe_X11_move ct K R (n + 1) 12 ls st σ k = (lI ls 1 fun x => xk_X11_move ct K R n 13 ls (vi x :: st) σ k) := exS_step.trans rfl
theorem ev_X11_move_13 {ct : Nat → Bool} {K : Kt} {R : Option AV → Hp → Prop} {n : Nat} {ls : List (Option AV)} {st : List AV} {σ : Hp} {k : Nat × Nat} : xe_X11_move ct K R (n + 1) 13 ls st σ k = (lI ls 3 fun x => xk_X11_move ct K R n 14 ls (vi x :: st) σ k) := exS_step.trans rfl
theorem ev_X11_move_14 {ct : Nat → Bool} {K : Kt} {R : Option AV → Hp → Prop} {n : Nat} {ls : List (Option AV)} {st : List AV} {σ : Hp} {k : Nat × Nat} : xe_X11_move ct K R (n + 1) 14 ls st σ k = (oI st fun y st => oI st fun x st => (wI x < wI y → xk_X11_move ct K R n 19 ls st σ k) ∧ (¬ (wI x < wI y) → xk_X11_move ct K R n 17 ls st σ k)) := exS_step.trans rfl
theorem ev_X11_move_17 {ct : Nat → Bool} {K : Kt} {R : Option AV → Hp → Prop} {n : Nat} {ls : List (Option AV)} {st : List AV} {σ : Hp} {k : Nat × Nat} : xe_X11_move ct K R (n + 1) 17 ls st σ k = (xk_X11_move ct K R n 18 ls (vi (-1) :: st) σ k) := exS_step.trans rfl
theorem ev_X11_move_18 {ct : Nat → Bool} {K : Kt} {R : Option AV → Hp → Prop} {n : Nat} {ls : List (Option AV)} {st : List AV} {σ : Hp} {k : Nat × Nat} : xe_X11_move ct K R (n + 1) 18 ls st σ k = (oI st fun x st => st = [] ∧ True ∧ R (some (vi x)) σ) := exS_step.trans rfl
theorem ev_X11_move_19 {ct : Nat → Bool} {K : Kt} {R : Option AV → Hp → Prop} {n : Nat} {ls : List (Option AV)} {st : List AV} {σ : Hp} {k : Nat × Nat} : xe_X11_move ct K R (n + 1) 19 ls st σ k = (lI ls 2 fun x => xk_X11_move ct K R n 20 ls (vi x :: st) σ k) := exS_step.trans rfl
theorem ev_X11_move_20 {ct : Nat → Bool} {K : Kt} {R : Option AV → Hp → Prop} {n : Nat} {ls : List (Option AV)} {st : List AV} {σ : Hp} {k : Nat × Nat} : xe_X11_move ct K R (n + 1) 20 ls st σ k = (oI st fun x st => (¬ wI x = wI 0 → xk_X11_move ct K R n 34 ls st σ k) ∧ (¬ (¬ wI x = wI 0) → xk_X11_move ct K R n 23 ls st σ k)) := exS_step.trans rfl
theorem ev_X11_move_23 {ct : Nat → Bool} {K : Kt} {R : Option AV → Hp → Prop} {n : Nat} {ls : List (Option AV)} {st : List AV} {σ : Hp} {k : Nat × Nat} : xe_X11_move ct K R (n + 1) 23 ls st σ k = (lR ls 0 fun x => xk_X11_move ct K R n 24 ls (vr x :: st) σ k) := exS_step.trans rfl
theorem ev_X11_move_24 {ct : Nat → Bool} {K : Kt} {R : Option AV → Hp → Prop} {n : Nat} {ls : List (Option AV)} {st : List AV} {σ : Hp} {k : Nat × Nat} : xe_X11_move ct K R (n + 1) 24 ls st σ k = (oR st fun x st => kd σ x = 12 ∧ xk_X11_move ct K R n 27 ls (vr (fR σ 1202 x) :: st) σ k) := exS_step.trans rfl
theorem ev_X11_move_27 {ct : Nat → Bool} {K : Kt} {R : Option AV → Hp → Prop} {n : Nat} {ls : List (Option AV)} {st : List AV} {σ : Hp} {k : Nat × Nat} : xe_X11_move ct K R (n + 1) 27 ls st σ k = (lI ls 1 fun x => xk_X11_move ct K R n 28 ls (vi x :: st) σ k) := exS_step.trans rfl
theorem ev_X11_move_28 {ct : Nat → Bool} {K : Kt} {R : Option AV → Hp → Prop} {n : Nat} {ls : List (Option AV)} {st : List AV} {σ : Hp} {k : Nat × Nat} : xe_X11_move ct K R (n + 1) 28 ls st σ k = (popN 2 st [] fun av rest => (catS rest ≤ 8 ∧ 1 < 12 ∧ k.1 + 0 ≤ 0 ∧ k.2 + 0 ≤ 0) ∧ (sp_X6_companyAt) av σ fun v σ' => xk_X11_move ct K R n 31 ls (v.toList ++ rest) σ' (k.1 + 0, k.2 + 0)) := exS_step.trans rfl
theorem ev_X11_move_31 {ct : Nat → Bool} {K : Kt} {R : Option AV → Hp → Prop} {n : Nat} {ls : List (Option AV)} {st : List AV} {σ : Hp} {k : Nat × Nat} : xe_X11_move ct K R (n + 1) 31 ls st σ k = (xk_X11_move ct K R n 51 ls st σ k) := exS_step.trans rfl
theorem ev_X11_move_34 {ct : Nat → Bool} {K : Kt} {R : Option AV → Hp → Prop} {n : Nat} {ls : List (Option AV)} {st : List AV} {σ : Hp} {k : Nat × Nat} : xe_X11_move ct K R (n + 1) 34 ls st σ k = (lI ls 2 fun x => xk_X11_move ct K R n 35 ls (vi x :: st) σ k) := exS_step.trans rfl
theorem ev_X11_move_35 {ct : Nat → Bool} {K : Kt} {R : Option AV → Hp → Prop} {n : Nat} {ls : List (Option AV)} {st : List AV} {σ : Hp} {k : Nat × Nat} : xe_X11_move ct K R (n + 1) 35 ls st σ k = (xk_X11_move ct K R n 36 ls (vi (1) :: st) σ k) := exS_step.trans rfl
theorem ev_X11_move_36 {ct : Nat → Bool} {K : Kt} {R : Option AV → Hp → Prop} {n : Nat} {ls : List (Option AV)} {st : List AV} {σ : Hp} {k : Nat × Nat} : xe_X11_move ct K R (n + 1) 36 ls st σ k = (oI st fun y st => oI st fun x st => (¬ wI x = wI y → xk_X11_move ct K R n 50 ls st σ k) ∧ (¬ (¬ wI x = wI y) → xk_X11_move ct K R n 39 ls st σ k)) := exS_step.trans rfl
theorem ev_X11_move_39 {ct : Nat → Bool} {K : Kt} {R : Option AV → Hp → Prop} {n : Nat} {ls : List (Option AV)} {st : List AV} {σ : Hp} {k : Nat × Nat} : xe_X11_move ct K R (n + 1) 39 ls st σ k = (lR ls 0 fun x => xk_X11_move ct K R n 40 ls (vr x :: st) σ k) := exS_step.trans rfl
theorem ev_X11_move_40 {ct : Nat → Bool} {K : Kt} {R : Option AV → Hp → Prop} {n : Nat} {ls : List (Option AV)} {st : List AV} {σ : Hp} {k : Nat × Nat} : xe_X11_move ct K R (n + 1) 40 ls st σ k = (oR st fun x st => kd σ x = 12 ∧ xk_X11_move ct K R n 43 ls (vr (fR σ 1202 x) :: st) σ k) := exS_step.trans rfl
theorem ev_X11_move_43 {ct : Nat → Bool} {K : Kt} {R : Option AV → Hp → Prop} {n : Nat} {ls : List (Option AV)} {st : List AV} {σ : Hp} {k : Nat × Nat} : xe_X11_move ct K R (n + 1) 43 ls st σ k = (lI ls 1 fun x => xk_X11_move ct K R n 44 ls (vi x :: st) σ k) := exS_step.trans rfl
theorem ev_X11_move_44 {ct : Nat → Bool} {K : Kt} {R : Option AV → Hp → Prop} {n : Nat} {ls : List (Option AV)} {st : List AV} {σ : Hp} {k : Nat × Nat} : xe_X11_move ct K R (n + 1) 44 ls st σ k = (popN 2 st [] fun av rest => (catS rest ≤ 8 ∧ 1 < 12 ∧ k.1 + 0 ≤ 0 ∧ k.2 + 0 ≤ 0) ∧ (sp_X6_houseAt) av σ fun v σ' => xk_X11_move ct K R n 47 ls (v.toList ++ rest) σ' (k.1 + 0, k.2 + 0)) := exS_step.trans rfl
theorem ev_X11_move_47 {ct : Nat → Bool} {K : Kt} {R : Option AV → Hp → Prop} {n : Nat} {ls : List (Option AV)} {st : List AV} {σ : Hp} {k : Nat × Nat} : xe_X11_move ct K R (n + 1) 47 ls st σ k = (xk_X11_move ct K R n 51 ls st σ k) := exS_step.trans rfl
theorem ev_X11_move_50 {ct : Nat → Bool} {K : Kt} {R : Option AV → Hp → Prop} {n : Nat} {ls : List (Option AV)} {st : List AV} {σ : Hp} {k : Nat × Nat} : xe_X11_move ct K R (n + 1) 50 ls st σ k = (xk_X11_move ct K R n 51 ls (vi (-1) :: st) σ k) := exS_step.trans rfl
theorem ev_X11_move_51 {ct : Nat → Bool} {K : Kt} {R : Option AV → Hp → Prop} {n : Nat} {ls : List (Option AV)} {st : List AV} {σ : Hp} {k : Nat × Nat} : xe_X11_move ct K R (n + 1) 51 ls st σ k = (oI st fun x st => st = [] ∧ True ∧ R (some (vi x)) σ) := exS_step.trans rfl
def M_X11_move : Md := (yX11_move, cX11_move, 4, (some FieldType.int), 12, 0, 0, 1, false, tb_X11_move, mt_X11_move)
theorem mm_X11_move : MMOK M_X11_move := ⟨by decide +kernel, tk_X11_move, mk_X11_move, rfl, fun h => by cases h⟩
theorem go_X11_move {Q : Option AV → Hp → Prop} {ct : Nat → Bool} {pc : Nat} {ls : List (Option AV)} {st : List AV} {σ : Hp} {k : Nat × Nat} (n : Nat) (h : xe_X11_move ct (Go M_X11_move Q) Q n pc ls st σ k) : Go M_X11_move Q pc ls st σ k := Go.exS mm_X11_move h

set_option maxRecDepth 20000 in
theorem c_X11_move : Ct yX11_move cX11_move 4 ((some FieldType.int)) 12 0 0 sp_X11_move := by
  refine Ct.go (M := M_X11_move) mm_X11_move fun av σ Q h0 => ?_
  obtain ⟨this, i, w, rfl, hk, h⟩ := el_X11_move h0
  clear h0
  refine ⟨Nat.le_of_ble_eq_true rfl, ?_⟩
  show Go M_X11_move Q 0 [some (vr this), some (vi i), some (vi w), none] [] σ (0, 0)
  obtain ⟨rfl, hC, hT, hi, hw, τ, hB, hG, hI, hH, h⟩ := h
  have hi' := hi
  have hw' := hw
  unfold inR at hi' hw'
  have w7 : ∀ σ' n, Fz fewF fewA noR σ σ' → TGr σ' → cFew τ σ' n → Go M_X11_move Q 7 [some (vr 1), some (vi i), some (vi w), none] [vi n] σ' (0, 0) := fun σ' n z hT2 hF => by
    have h := h σ' n z hT2 hF
    have C2 := hC.fz z (by decide)
    have hn : -1 ≤ n ∧ n ≤ 2 := by
      rcases hF with q | ⟨-, q | ⟨-, q | q⟩⟩ <;> have := q.1 <;> omega
    clear hF z
    by_cases c : 0 ≤ i ∧ i < n
    · have ei : (if 0 ≤ i ∧ i < 2 then aI σ' 22 i else -1) = aI σ' 22 i := if_pos (by omega)
      have ej : (if 0 ≤ i ∧ i < 2 then aI σ' 23 i else -1) = aI σ' 23 i := if_pos (by omega)
      by_cases c2 : w = 0
      · rw [if_pos ⟨c, by omega⟩, if_pos c2] at h
        refine go_X11_move (ct := fun p => p == 17 || p == 34) 40 ?_
        simp only [oI, oL, oR, o1, lI, lL, lR, popN, catS, gv, stL, stL2, swt, cnd, spObj, List.getElem?_cons_zero, List.getElem?_cons_succ, List.getD_cons_zero, List.getD_cons_succ, List.set_cons_zero, List.set_cons_succ, List.nil_append, List.cons_append, Option.toList, Bool.or_false, Bool.false_or, Bool.or_true, Bool.true_or, Nat.reduceBEq, Nat.reduceAdd, Nat.reduceLT, Nat.reduceLeDiff, Int.reduceAdd, Int.reduceToNat, true_and, and_true, Fin.isValue, Fin.val_zero, Fin.val_one, Fin.val_two, Fin.reduceFinMk, eq_self, Int.reduceNeg, imp_self, Nat.reduceMul, Nat.le_refl, not_true_eq_false, not_false_eq_true, List.getElem?_nil, reduceCtorEq, true_or, or_true, Classical.not_not, implies_true, or_self, wI_0, wI_1, wI_m1, b2i_w, b2i_eq0, b2i_eq1, b2i_bool, nor_self, nx_pI, kd_pI, ln_pI, fI_pI, fL_pI, fR_pI, aI_pI, aL_pI, aR_pI, nx_pL, kd_pL, ln_pL, fI_pL, fL_pL, fR_pL, aI_pL, aL_pL, aR_pL, nx_pR, kd_pR, ln_pR, fI_pR, fL_pR, fR_pR, aI_pR, aL_pR, aR_pR, nx_qI, kd_qI, ln_qI, fI_qI, fL_qI, fR_qI, aI_qI, aL_qI, aR_qI, nx_qL, kd_qL, ln_qL, fI_qL, fL_qL, fR_qL, aI_qL, aL_qL, aR_qL, nx_qR, kd_qR, ln_qR, fI_qR, fL_qR, fR_qR, aI_qR, aL_qR, aR_qR, nx_mk, kd_mk, ln_mk, fI_mk, fL_mk, fR_mk, aI_mk, aL_mk, aR_mk, false_and, and_false, if_false, if_true, and_self, Int.reduceEq, Nat.reduceEqDiff, ite_self, MLay_pI, MLay_pL, MLay_qI, MLay_qL, ev_X11_move_7, ev_X11_move_8, ev_X11_move_9, ev_X11_move_12, ev_X11_move_13, ev_X11_move_14, ev_X11_move_17, ev_X11_move_18, ev_X11_move_19, ev_X11_move_20, ev_X11_move_23, ev_X11_move_24, ev_X11_move_27, ev_X11_move_28, ev_X11_move_31, ev_X11_move_34, ev_X11_move_35, ev_X11_move_36, ev_X11_move_39, ev_X11_move_40, ev_X11_move_43, ev_X11_move_44, ev_X11_move_47, ev_X11_move_50, ev_X11_move_51, xt_X11_move, xf_X11_move, us_X6_fewest, us_X6_companyAt, us_X6_houseAt, C2, C2.eqs, hi, ei]
        try simp (disch := omega) only [wI_id, dv_nn, rm_nn]
        repeat' (first | intro z | apply And.intro)
        all_goals try omega
        all_goals try contradiction
        all_goals exact h
      · by_cases c3 : w = 1
        · rw [if_pos ⟨c, by omega⟩, if_neg c2] at h
          refine go_X11_move (ct := fun p => p == 17 || p == 23 || p == 50) 40 ?_
          simp only [oI, oL, oR, o1, lI, lL, lR, popN, catS, gv, stL, stL2, swt, cnd, spObj, List.getElem?_cons_zero, List.getElem?_cons_succ, List.getD_cons_zero, List.getD_cons_succ, List.set_cons_zero, List.set_cons_succ, List.nil_append, List.cons_append, Option.toList, Bool.or_false, Bool.false_or, Bool.or_true, Bool.true_or, Nat.reduceBEq, Nat.reduceAdd, Nat.reduceLT, Nat.reduceLeDiff, Int.reduceAdd, Int.reduceToNat, true_and, and_true, Fin.isValue, Fin.val_zero, Fin.val_one, Fin.val_two, Fin.reduceFinMk, eq_self, Int.reduceNeg, imp_self, Nat.reduceMul, Nat.le_refl, not_true_eq_false, not_false_eq_true, List.getElem?_nil, reduceCtorEq, true_or, or_true, Classical.not_not, implies_true, or_self, wI_0, wI_1, wI_m1, b2i_w, b2i_eq0, b2i_eq1, b2i_bool, nor_self, nx_pI, kd_pI, ln_pI, fI_pI, fL_pI, fR_pI, aI_pI, aL_pI, aR_pI, nx_pL, kd_pL, ln_pL, fI_pL, fL_pL, fR_pL, aI_pL, aL_pL, aR_pL, nx_pR, kd_pR, ln_pR, fI_pR, fL_pR, fR_pR, aI_pR, aL_pR, aR_pR, nx_qI, kd_qI, ln_qI, fI_qI, fL_qI, fR_qI, aI_qI, aL_qI, aR_qI, nx_qL, kd_qL, ln_qL, fI_qL, fL_qL, fR_qL, aI_qL, aL_qL, aR_qL, nx_qR, kd_qR, ln_qR, fI_qR, fL_qR, fR_qR, aI_qR, aL_qR, aR_qR, nx_mk, kd_mk, ln_mk, fI_mk, fL_mk, fR_mk, aI_mk, aL_mk, aR_mk, false_and, and_false, if_false, if_true, and_self, Int.reduceEq, Nat.reduceEqDiff, ite_self, MLay_pI, MLay_pL, MLay_qI, MLay_qL, ev_X11_move_7, ev_X11_move_8, ev_X11_move_9, ev_X11_move_12, ev_X11_move_13, ev_X11_move_14, ev_X11_move_17, ev_X11_move_18, ev_X11_move_19, ev_X11_move_20, ev_X11_move_23, ev_X11_move_24, ev_X11_move_27, ev_X11_move_28, ev_X11_move_31, ev_X11_move_34, ev_X11_move_35, ev_X11_move_36, ev_X11_move_39, ev_X11_move_40, ev_X11_move_43, ev_X11_move_44, ev_X11_move_47, ev_X11_move_50, ev_X11_move_51, xt_X11_move, xf_X11_move, us_X6_fewest, us_X6_companyAt, us_X6_houseAt, C2, C2.eqs, hi, ej]
          try simp (disch := omega) only [wI_id, dv_nn, rm_nn]
          repeat' (first | intro z | apply And.intro)
          all_goals try omega
          all_goals try contradiction
          all_goals exact h
        · rw [if_neg (by omega)] at h
          refine go_X11_move (ct := fun p => p == 17 || p == 23 || p == 39) 40 ?_
          simp only [oI, oL, oR, o1, lI, lL, lR, popN, catS, gv, stL, stL2, swt, cnd, spObj, List.getElem?_cons_zero, List.getElem?_cons_succ, List.getD_cons_zero, List.getD_cons_succ, List.set_cons_zero, List.set_cons_succ, List.nil_append, List.cons_append, Option.toList, Bool.or_false, Bool.false_or, Bool.or_true, Bool.true_or, Nat.reduceBEq, Nat.reduceAdd, Nat.reduceLT, Nat.reduceLeDiff, Int.reduceAdd, Int.reduceToNat, true_and, and_true, Fin.isValue, Fin.val_zero, Fin.val_one, Fin.val_two, Fin.reduceFinMk, eq_self, Int.reduceNeg, imp_self, Nat.reduceMul, Nat.le_refl, not_true_eq_false, not_false_eq_true, List.getElem?_nil, reduceCtorEq, true_or, or_true, Classical.not_not, implies_true, or_self, wI_0, wI_1, wI_m1, b2i_w, b2i_eq0, b2i_eq1, b2i_bool, nor_self, nx_pI, kd_pI, ln_pI, fI_pI, fL_pI, fR_pI, aI_pI, aL_pI, aR_pI, nx_pL, kd_pL, ln_pL, fI_pL, fL_pL, fR_pL, aI_pL, aL_pL, aR_pL, nx_pR, kd_pR, ln_pR, fI_pR, fL_pR, fR_pR, aI_pR, aL_pR, aR_pR, nx_qI, kd_qI, ln_qI, fI_qI, fL_qI, fR_qI, aI_qI, aL_qI, aR_qI, nx_qL, kd_qL, ln_qL, fI_qL, fL_qL, fR_qL, aI_qL, aL_qL, aR_qL, nx_qR, kd_qR, ln_qR, fI_qR, fL_qR, fR_qR, aI_qR, aL_qR, aR_qR, nx_mk, kd_mk, ln_mk, fI_mk, fL_mk, fR_mk, aI_mk, aL_mk, aR_mk, false_and, and_false, if_false, if_true, and_self, Int.reduceEq, Nat.reduceEqDiff, ite_self, MLay_pI, MLay_pL, MLay_qI, MLay_qL, ev_X11_move_7, ev_X11_move_8, ev_X11_move_9, ev_X11_move_12, ev_X11_move_13, ev_X11_move_14, ev_X11_move_17, ev_X11_move_18, ev_X11_move_19, ev_X11_move_20, ev_X11_move_23, ev_X11_move_24, ev_X11_move_27, ev_X11_move_28, ev_X11_move_31, ev_X11_move_34, ev_X11_move_35, ev_X11_move_36, ev_X11_move_39, ev_X11_move_40, ev_X11_move_43, ev_X11_move_44, ev_X11_move_47, ev_X11_move_50, ev_X11_move_51, xt_X11_move, xf_X11_move, us_X6_fewest, us_X6_companyAt, us_X6_houseAt, C2, C2.eqs, hi]
          try simp (disch := omega) only [wI_id, dv_nn, rm_nn]
          repeat' (first | intro z | apply And.intro)
          all_goals try omega
          all_goals try contradiction
          all_goals exact h
    · rw [if_neg (fun z => c z.1)] at h
      refine go_X11_move (ct := fun p => p == 19) 40 ?_
      simp only [oI, oL, oR, o1, lI, lL, lR, popN, catS, gv, stL, stL2, swt, cnd, spObj, List.getElem?_cons_zero, List.getElem?_cons_succ, List.getD_cons_zero, List.getD_cons_succ, List.set_cons_zero, List.set_cons_succ, List.nil_append, List.cons_append, Option.toList, Bool.or_false, Bool.false_or, Bool.or_true, Bool.true_or, Nat.reduceBEq, Nat.reduceAdd, Nat.reduceLT, Nat.reduceLeDiff, Int.reduceAdd, Int.reduceToNat, true_and, and_true, Fin.isValue, Fin.val_zero, Fin.val_one, Fin.val_two, Fin.reduceFinMk, eq_self, Int.reduceNeg, imp_self, Nat.reduceMul, Nat.le_refl, not_true_eq_false, not_false_eq_true, List.getElem?_nil, reduceCtorEq, true_or, or_true, Classical.not_not, implies_true, or_self, wI_0, wI_1, wI_m1, b2i_w, b2i_eq0, b2i_eq1, b2i_bool, nor_self, nx_pI, kd_pI, ln_pI, fI_pI, fL_pI, fR_pI, aI_pI, aL_pI, aR_pI, nx_pL, kd_pL, ln_pL, fI_pL, fL_pL, fR_pL, aI_pL, aL_pL, aR_pL, nx_pR, kd_pR, ln_pR, fI_pR, fL_pR, fR_pR, aI_pR, aL_pR, aR_pR, nx_qI, kd_qI, ln_qI, fI_qI, fL_qI, fR_qI, aI_qI, aL_qI, aR_qI, nx_qL, kd_qL, ln_qL, fI_qL, fL_qL, fR_qL, aI_qL, aL_qL, aR_qL, nx_qR, kd_qR, ln_qR, fI_qR, fL_qR, fR_qR, aI_qR, aL_qR, aR_qR, nx_mk, kd_mk, ln_mk, fI_mk, fL_mk, fR_mk, aI_mk, aL_mk, aR_mk, false_and, and_false, if_false, if_true, and_self, Int.reduceEq, Nat.reduceEqDiff, ite_self, MLay_pI, MLay_pL, MLay_qI, MLay_qL, ev_X11_move_7, ev_X11_move_8, ev_X11_move_9, ev_X11_move_12, ev_X11_move_13, ev_X11_move_14, ev_X11_move_17, ev_X11_move_18, xt_X11_move, xf_X11_move, us_X6_fewest, us_X6_companyAt, us_X6_houseAt]
      try simp (disch := omega) only [wI_id, dv_nn, rm_nn]
      repeat' (first | intro z | apply And.intro)
      all_goals try omega
      all_goals try contradiction
      all_goals exact h
  clear h
  refine go_X11_move (ct := fun p => p == 7) 40 ?_
  simp only [oI, oL, oR, o1, lI, lL, lR, popN, catS, gv, stL, stL2, swt, cnd, spObj, List.getElem?_cons_zero, List.getElem?_cons_succ, List.getD_cons_zero, List.getD_cons_succ, List.set_cons_zero, List.set_cons_succ, List.nil_append, List.cons_append, Option.toList, Bool.or_false, Bool.false_or, Bool.or_true, Bool.true_or, Nat.reduceBEq, Nat.reduceAdd, Nat.reduceLT, Nat.reduceLeDiff, Int.reduceAdd, Int.reduceToNat, true_and, and_true, Fin.isValue, Fin.val_zero, Fin.val_one, Fin.val_two, Fin.reduceFinMk, eq_self, Int.reduceNeg, imp_self, Nat.reduceMul, Nat.le_refl, not_true_eq_false, not_false_eq_true, List.getElem?_nil, reduceCtorEq, true_or, or_true, Classical.not_not, implies_true, or_self, wI_0, wI_1, wI_m1, b2i_w, b2i_eq0, b2i_eq1, b2i_bool, nor_self, nx_pI, kd_pI, ln_pI, fI_pI, fL_pI, fR_pI, aI_pI, aL_pI, aR_pI, nx_pL, kd_pL, ln_pL, fI_pL, fL_pL, fR_pL, aI_pL, aL_pL, aR_pL, nx_pR, kd_pR, ln_pR, fI_pR, fL_pR, fR_pR, aI_pR, aL_pR, aR_pR, nx_qI, kd_qI, ln_qI, fI_qI, fL_qI, fR_qI, aI_qI, aL_qI, aR_qI, nx_qL, kd_qL, ln_qL, fI_qL, fL_qL, fR_qL, aI_qL, aL_qL, aR_qL, nx_qR, kd_qR, ln_qR, fI_qR, fL_qR, fR_qR, aI_qR, aL_qR, aR_qR, nx_mk, kd_mk, ln_mk, fI_mk, fL_mk, fR_mk, aI_mk, aL_mk, aR_mk, false_and, and_false, if_false, if_true, and_self, Int.reduceEq, Nat.reduceEqDiff, ite_self, MLay_pI, MLay_pL, MLay_qI, MLay_qL, ev_X11_move_0, ev_X11_move_1, ev_X11_move_4, xt_X11_move, xf_X11_move, us_X6_fewest, us_X6_companyAt, us_X6_houseAt, hC, hC.eqs, hT]
  exact ⟨τ, hB, hG, hI, hH, w7⟩
/-! what done writes -/

def cDn (σ : Hp) : Nat → Hp
  | 0 => σ
  | i + 1 => pI (cDn σ i) 602 (lat σ 18 (aI σ 22 i)) (aI σ 23 i)
theorem Fz_cDn (σ : Hp) : ∀ n : Nat, Fz [602] noR noR σ (cDn σ n)
  | 0 => Fz.rf σ
  | n + 1 => (Fz_cDn σ n).tr (Fz_pI (f := 602) _ _ _ (by decide))
theorem cFew_m {τ σ' : Hp} {n : Int} (h : cFew τ σ' n) : (-1 ≤ n ∧ n ≤ 2) ∧ ∀ i, 0 ≤ i → i < n → 0 ≤ aI σ' 22 i ∧ aI σ' 22 i < fI τ 1335 61 := by
  rcases h with ⟨q, -⟩ | ⟨-, ⟨q, r⟩ | ⟨-, ⟨q, r⟩ | ⟨q, -⟩⟩⟩
  · exact ⟨by omega, fun i a b => by omega⟩
  · refine ⟨by omega, fun i a b => ?_⟩
    have : i = 0 := by omega
    subst this
    exact r.1.1.2.1
  · refine ⟨by omega, fun i a b => ?_⟩
    have : i = 0 ∨ i = 1 := by omega
    rcases this with rfl | rfl
    · exact r.1.1.2.1
    · exact r.2.1.1.2.1
  · exact ⟨by omega, fun i a b => by omega⟩

def sp_X11_done : Sp := fun av σ Q => oR av fun this av => av = [] ∧ kd σ this = 12 ∧ (this = 1 ∧ CLay σ ∧ TGr σ ∧ ∃ τ, BX σ τ ∧ BG σ τ ∧ MI τ ∧ HIs τ ∧ (∀ σ' n, Fz fewF fewA noR σ σ' → TGr σ' → cFew τ σ' n → Q (some (vi n)) (cDn σ' n.toNat)))
theorem us_X11_done (this : Int) (σ : Hp) (Q : Option AV → Hp → Prop) : sp_X11_done [vr this] σ Q = (kd σ this = 12 ∧ (this = 1 ∧ CLay σ ∧ TGr σ ∧ ∃ τ, BX σ τ ∧ BG σ τ ∧ MI τ ∧ HIs τ ∧ (∀ σ' n, Fz fewF fewA noR σ σ' → TGr σ' → cFew τ σ' n → Q (some (vi n)) (cDn σ' n.toNat)))) := propext ⟨fun h => h.2, fun h => ⟨rfl, h⟩⟩
theorem el_X11_done {av : List AV} {σ : Hp} {Q : Option AV → Hp → Prop} (h : sp_X11_done av σ Q) : ∃ (this : Int), av = [vr this] ∧ (kd σ this = 12 ∧ (this = 1 ∧ CLay σ ∧ TGr σ ∧ ∃ τ, BX σ τ ∧ BG σ τ ∧ MI τ ∧ HIs τ ∧ (∀ σ' n, Fz fewF fewA noR σ σ' → TGr σ' → cFew τ σ' n → Q (some (vi n)) (cDn σ' n.toNat)))) := by
  obtain ⟨this, a0, rfl, h0⟩ := oR_s h
  obtain ⟨rfl, hz⟩ := h0
  exact ⟨this, rfl, hz⟩
theorem rc_X11_done : ∀ (av : List AV) (σ : Hp) (Q : Option AV → Hp → Prop), sp_X11_done av σ Q → ∃ r tl, av = vr r :: tl ∧ kd σ r = 11 + 1 := fun av σ Q h => by
  obtain ⟨this, rfl, hz, -⟩ := el_X11_done h
  exact ⟨this, _, rfl, hz⟩

def tb_X11_done : Tab := [(0, .aload_n 0, 1, (0, 0, 0, 0)), (1, .getfield 25, 3, (12, 1202, 2, 0)), (4, .invokevirtual 260, 3, (0, 0, 0, 0)), (7, .istore_n 1, 1, (0, 0, 0, 0)), (8, .iconst 0, 1, (0, 0, 0, 0)), (9, .istore_n 2, 1, (0, 0, 0, 0)), (10, .iload_n 2, 1, (0, 0, 0, 0)), (11, .iload_n 1, 1, (0, 0, 0, 0)), (12, .if_icmp .ge 41, 3, (0, 0, 0, 0)), (15, .aload_n 0, 1, (0, 0, 0, 0)), (16, .getfield 38, 3, (12, 1204, 2, 0)), (19, .aload_n 0, 1, (0, 0, 0, 0)), (20, .getfield 25, 3, (12, 1202, 2, 0)), (23, .iload_n 2, 1, (0, 0, 0, 0)), (24, .invokevirtual 263, 3, (0, 0, 0, 0)), (27, .invokevirtual 236, 3, (0, 0, 0, 0)), (30, .astore_n 3, 1, (0, 0, 0, 0)), (31, .aload_n 3, 1, (0, 0, 0, 0)), (32, .ifnull 15, 3, (0, 0, 0, 0)), (35, .aload_n 3, 1, (0, 0, 0, 0)), (36, .aload_n 0, 1, (0, 0, 0, 0)), (37, .getfield 25, 3, (12, 1202, 2, 0)), (40, .iload_n 2, 1, (0, 0, 0, 0)), (41, .invokevirtual 264, 3, (0, 0, 0, 0)), (44, .putfield 245, 3, (6, 602, 0, 0)), (47, .iinc 2 1, 3, (0, 0, 0, 0)), (50, .goto (-40), 3, (0, 0, 0, 0)), (53, .iload_n 1, 1, (0, 0, 0, 0)), (54, .ireturn, 1, (0, 0, 0, 0))]
set_option maxRecDepth 100000 in
theorem tk_X11_done : TOK RX11 false cX11_done tb_X11_done := chkT_ok ft_X11 (by decide +kernel)
def mt_X11_done : List (Nat × Mt) := [(2080, 1, 0, 0, 11, sp_X6_fewest), (2104, 2, 0, 0, 1, sp_X6_companyAt), (1888, 2, 0, 0, 4, sp_X3_companyOf), (2112, 2, 0, 0, 1, sp_X6_houseAt)]
theorem em_X11_done : mt_X11_done.lookup 2080 = some (1, 0, 0, 11, sp_X6_fewest) ∧ mt_X11_done.lookup 2104 = some (2, 0, 0, 1, sp_X6_companyAt) ∧ mt_X11_done.lookup 1888 = some (2, 0, 0, 4, sp_X3_companyOf) ∧ mt_X11_done.lookup 2112 = some (2, 0, 0, 1, sp_X6_houseAt) := ⟨rfl, rfl, rfl, rfl⟩
theorem mk_X11_done : MOK RX11 mt_X11_done := by
  intro q hq
  simp only [mt_X11_done, List.mem_cons, List.not_mem_nil, or_false] at hq
  rcases hq with rfl | rfl | rfl | rfl
  · exact rw_X11_2080
  · exact rw_X11_2104
  · exact rw_X11_1888
  · exact rw_X11_2112
noncomputable def xe_X11_done (ct : Nat → Bool) (K : Kt) (R : Option AV → Hp → Prop) (n : Nat) : Kt := exS 4 12 0 0 1 tb_X11_done mt_X11_done ct K R n
noncomputable def xk_X11_done (ct : Nat → Bool) (K : Kt) (R : Option AV → Hp → Prop) (n : Nat) : Kt := exkS 4 12 0 0 1 tb_X11_done mt_X11_done ct K R n
theorem xt_X11_done {ct : Nat → Bool} {K : Kt} {R : Option AV → Hp → Prop} {n pc : Nat} {ls : List (Option AV)} {st : List AV} {σ : Hp} {k : Nat × Nat} (h : ct pc = true) : xk_X11_done ct K R n pc ls st σ k = K pc ls st σ k := by unfold xk_X11_done exkS; rw [h]
theorem xf_X11_done {ct : Nat → Bool} {K : Kt} {R : Option AV → Hp → Prop} {n pc : Nat} {ls : List (Option AV)} {st : List AV} {σ : Hp} {k : Nat × Nat} (h : ct pc = false) : xk_X11_done ct K R n pc ls st σ k = xe_X11_done ct K R n pc ls st σ k := by unfold xk_X11_done exkS xe_X11_done; rw [h]
theorem ev_X11_done_0 {ct : Nat → Bool} {K : Kt} {R : Option AV → Hp → Prop} {n : Nat} {ls : List (Option AV)} {st : List AV} {σ : Hp} {k : Nat × Nat} : xe_X11_done ct K R (n + 1) 0 ls st σ k = (lR ls 0 fun x => xk_X11_done ct K R n 1 ls (vr x :: st) σ k) := exS_step.trans rfl
theorem ev_X11_done_1 {ct : Nat → Bool} {K : Kt} {R : Option AV → Hp → Prop} {n : Nat} {ls : List (Option AV)} {st : List AV} {σ : Hp} {k : Nat × Nat} : xe_X11_done ct K R (n + 1) 1 ls st σ k = (oR st fun x st => kd σ x = 12 ∧ xk_X11_done ct K R n 4 ls (vr (fR σ 1202 x) :: st) σ k) := exS_step.trans rfl
theorem ev_X11_done_4 {ct : Nat → Bool} {K : Kt} {R : Option AV → Hp → Prop} {n : Nat} {ls : List (Option AV)} {st : List AV} {σ : Hp} {k : Nat × Nat} : xe_X11_done ct K R (n + 1) 4 ls st σ k = (popN 1 st [] fun av rest => (catS rest ≤ 8 ∧ 11 < 12 ∧ k.1 + 0 ≤ 0 ∧ k.2 + 0 ≤ 0) ∧ (sp_X6_fewest) av σ fun v σ' => xk_X11_done ct K R n 7 ls (v.toList ++ rest) σ' (k.1 + 0, k.2 + 0)) := exS_step.trans rfl
theorem ev_X11_done_7 {ct : Nat → Bool} {K : Kt} {R : Option AV → Hp → Prop} {n : Nat} {ls : List (Option AV)} {st : List AV} {σ : Hp} {k : Nat × Nat} : xe_X11_done ct K R (n + 1) 7 ls st σ k = (oI st fun x st => 1 < 4 ∧ xk_X11_done ct K R n 8 (stL ls 1 (vi x)) st σ k) := exS_step.trans rfl
theorem ev_X11_done_8 {ct : Nat → Bool} {K : Kt} {R : Option AV → Hp → Prop} {n : Nat} {ls : List (Option AV)} {st : List AV} {σ : Hp} {k : Nat × Nat} : xe_X11_done ct K R (n + 1) 8 ls st σ k = (xk_X11_done ct K R n 9 ls (vi (0) :: st) σ k) := exS_step.trans rfl
theorem ev_X11_done_9 {ct : Nat → Bool} {K : Kt} {R : Option AV → Hp → Prop} {n : Nat} {ls : List (Option AV)} {st : List AV} {σ : Hp} {k : Nat × Nat} : xe_X11_done ct K R (n + 1) 9 ls st σ k = (oI st fun x st => 2 < 4 ∧ xk_X11_done ct K R n 10 (stL ls 2 (vi x)) st σ k) := exS_step.trans rfl
theorem ev_X11_done_10 {ct : Nat → Bool} {K : Kt} {R : Option AV → Hp → Prop} {n : Nat} {ls : List (Option AV)} {st : List AV} {σ : Hp} {k : Nat × Nat} : xe_X11_done ct K R (n + 1) 10 ls st σ k = (lI ls 2 fun x => xk_X11_done ct K R n 11 ls (vi x :: st) σ k) := exS_step.trans rfl
theorem ev_X11_done_11 {ct : Nat → Bool} {K : Kt} {R : Option AV → Hp → Prop} {n : Nat} {ls : List (Option AV)} {st : List AV} {σ : Hp} {k : Nat × Nat} : xe_X11_done ct K R (n + 1) 11 ls st σ k = (lI ls 1 fun x => xk_X11_done ct K R n 12 ls (vi x :: st) σ k) := exS_step.trans rfl
theorem ev_X11_done_12 {ct : Nat → Bool} {K : Kt} {R : Option AV → Hp → Prop} {n : Nat} {ls : List (Option AV)} {st : List AV} {σ : Hp} {k : Nat × Nat} : xe_X11_done ct K R (n + 1) 12 ls st σ k = (oI st fun y st => oI st fun x st => (wI y ≤ wI x → xk_X11_done ct K R n 53 ls st σ k) ∧ (¬ (wI y ≤ wI x) → xk_X11_done ct K R n 15 ls st σ k)) := exS_step.trans rfl
theorem ev_X11_done_15 {ct : Nat → Bool} {K : Kt} {R : Option AV → Hp → Prop} {n : Nat} {ls : List (Option AV)} {st : List AV} {σ : Hp} {k : Nat × Nat} : xe_X11_done ct K R (n + 1) 15 ls st σ k = (lR ls 0 fun x => xk_X11_done ct K R n 16 ls (vr x :: st) σ k) := exS_step.trans rfl
theorem ev_X11_done_16 {ct : Nat → Bool} {K : Kt} {R : Option AV → Hp → Prop} {n : Nat} {ls : List (Option AV)} {st : List AV} {σ : Hp} {k : Nat × Nat} : xe_X11_done ct K R (n + 1) 16 ls st σ k = (oR st fun x st => kd σ x = 12 ∧ xk_X11_done ct K R n 19 ls (vr (fR σ 1204 x) :: st) σ k) := exS_step.trans rfl
theorem ev_X11_done_19 {ct : Nat → Bool} {K : Kt} {R : Option AV → Hp → Prop} {n : Nat} {ls : List (Option AV)} {st : List AV} {σ : Hp} {k : Nat × Nat} : xe_X11_done ct K R (n + 1) 19 ls st σ k = (lR ls 0 fun x => xk_X11_done ct K R n 20 ls (vr x :: st) σ k) := exS_step.trans rfl
theorem ev_X11_done_20 {ct : Nat → Bool} {K : Kt} {R : Option AV → Hp → Prop} {n : Nat} {ls : List (Option AV)} {st : List AV} {σ : Hp} {k : Nat × Nat} : xe_X11_done ct K R (n + 1) 20 ls st σ k = (oR st fun x st => kd σ x = 12 ∧ xk_X11_done ct K R n 23 ls (vr (fR σ 1202 x) :: st) σ k) := exS_step.trans rfl
theorem ev_X11_done_23 {ct : Nat → Bool} {K : Kt} {R : Option AV → Hp → Prop} {n : Nat} {ls : List (Option AV)} {st : List AV} {σ : Hp} {k : Nat × Nat} : xe_X11_done ct K R (n + 1) 23 ls st σ k = (lI ls 2 fun x => xk_X11_done ct K R n 24 ls (vi x :: st) σ k) := exS_step.trans rfl
theorem ev_X11_done_24 {ct : Nat → Bool} {K : Kt} {R : Option AV → Hp → Prop} {n : Nat} {ls : List (Option AV)} {st : List AV} {σ : Hp} {k : Nat × Nat} : xe_X11_done ct K R (n + 1) 24 ls st σ k = (popN 2 st [] fun av rest => (catS rest ≤ 8 ∧ 1 < 12 ∧ k.1 + 0 ≤ 0 ∧ k.2 + 0 ≤ 0) ∧ (sp_X6_companyAt) av σ fun v σ' => xk_X11_done ct K R n 27 ls (v.toList ++ rest) σ' (k.1 + 0, k.2 + 0)) := exS_step.trans rfl
theorem ev_X11_done_27 {ct : Nat → Bool} {K : Kt} {R : Option AV → Hp → Prop} {n : Nat} {ls : List (Option AV)} {st : List AV} {σ : Hp} {k : Nat × Nat} : xe_X11_done ct K R (n + 1) 27 ls st σ k = (popN 2 st [] fun av rest => (catS rest ≤ 8 ∧ 4 < 12 ∧ k.1 + 0 ≤ 0 ∧ k.2 + 0 ≤ 0) ∧ (sp_X3_companyOf) av σ fun v σ' => xk_X11_done ct K R n 30 ls (v.toList ++ rest) σ' (k.1 + 0, k.2 + 0)) := exS_step.trans rfl
theorem ev_X11_done_30 {ct : Nat → Bool} {K : Kt} {R : Option AV → Hp → Prop} {n : Nat} {ls : List (Option AV)} {st : List AV} {σ : Hp} {k : Nat × Nat} : xe_X11_done ct K R (n + 1) 30 ls st σ k = (oR st fun x st => 3 < 4 ∧ xk_X11_done ct K R n 31 (stL ls 3 (vr x)) st σ k) := exS_step.trans rfl
theorem ev_X11_done_31 {ct : Nat → Bool} {K : Kt} {R : Option AV → Hp → Prop} {n : Nat} {ls : List (Option AV)} {st : List AV} {σ : Hp} {k : Nat × Nat} : xe_X11_done ct K R (n + 1) 31 ls st σ k = (lR ls 3 fun x => xk_X11_done ct K R n 32 ls (vr x :: st) σ k) := exS_step.trans rfl
theorem ev_X11_done_32 {ct : Nat → Bool} {K : Kt} {R : Option AV → Hp → Prop} {n : Nat} {ls : List (Option AV)} {st : List AV} {σ : Hp} {k : Nat × Nat} : xe_X11_done ct K R (n + 1) 32 ls st σ k = (oR st fun x st => (x = 0 → xk_X11_done ct K R n 47 ls st σ k) ∧ (¬ x = 0 → xk_X11_done ct K R n 35 ls st σ k)) := exS_step.trans rfl
theorem ev_X11_done_35 {ct : Nat → Bool} {K : Kt} {R : Option AV → Hp → Prop} {n : Nat} {ls : List (Option AV)} {st : List AV} {σ : Hp} {k : Nat × Nat} : xe_X11_done ct K R (n + 1) 35 ls st σ k = (lR ls 3 fun x => xk_X11_done ct K R n 36 ls (vr x :: st) σ k) := exS_step.trans rfl
theorem ev_X11_done_36 {ct : Nat → Bool} {K : Kt} {R : Option AV → Hp → Prop} {n : Nat} {ls : List (Option AV)} {st : List AV} {σ : Hp} {k : Nat × Nat} : xe_X11_done ct K R (n + 1) 36 ls st σ k = (lR ls 0 fun x => xk_X11_done ct K R n 37 ls (vr x :: st) σ k) := exS_step.trans rfl
theorem ev_X11_done_37 {ct : Nat → Bool} {K : Kt} {R : Option AV → Hp → Prop} {n : Nat} {ls : List (Option AV)} {st : List AV} {σ : Hp} {k : Nat × Nat} : xe_X11_done ct K R (n + 1) 37 ls st σ k = (oR st fun x st => kd σ x = 12 ∧ xk_X11_done ct K R n 40 ls (vr (fR σ 1202 x) :: st) σ k) := exS_step.trans rfl
theorem ev_X11_done_40 {ct : Nat → Bool} {K : Kt} {R : Option AV → Hp → Prop} {n : Nat} {ls : List (Option AV)} {st : List AV} {σ : Hp} {k : Nat × Nat} : xe_X11_done ct K R (n + 1) 40 ls st σ k = (lI ls 2 fun x => xk_X11_done ct K R n 41 ls (vi x :: st) σ k) := exS_step.trans rfl
theorem ev_X11_done_41 {ct : Nat → Bool} {K : Kt} {R : Option AV → Hp → Prop} {n : Nat} {ls : List (Option AV)} {st : List AV} {σ : Hp} {k : Nat × Nat} : xe_X11_done ct K R (n + 1) 41 ls st σ k = (popN 2 st [] fun av rest => (catS rest ≤ 8 ∧ 1 < 12 ∧ k.1 + 0 ≤ 0 ∧ k.2 + 0 ≤ 0) ∧ (sp_X6_houseAt) av σ fun v σ' => xk_X11_done ct K R n 44 ls (v.toList ++ rest) σ' (k.1 + 0, k.2 + 0)) := exS_step.trans rfl
theorem ev_X11_done_44 {ct : Nat → Bool} {K : Kt} {R : Option AV → Hp → Prop} {n : Nat} {ls : List (Option AV)} {st : List AV} {σ : Hp} {k : Nat × Nat} : xe_X11_done ct K R (n + 1) 44 ls st σ k = (oI st fun v st => oR st fun x st => kd σ x = 6 ∧ xk_X11_done ct K R n 47 ls st (pI σ 602 x v) k) := exS_step.trans rfl
theorem ev_X11_done_47 {ct : Nat → Bool} {K : Kt} {R : Option AV → Hp → Prop} {n : Nat} {ls : List (Option AV)} {st : List AV} {σ : Hp} {k : Nat × Nat} : xe_X11_done ct K R (n + 1) 47 ls st σ k = (lI ls 2 fun x => 2 < 4 ∧ xk_X11_done ct K R n 50 (stL ls 2 (vi (x + (1)))) st σ k) := exS_step.trans rfl
theorem ev_X11_done_50 {ct : Nat → Bool} {K : Kt} {R : Option AV → Hp → Prop} {n : Nat} {ls : List (Option AV)} {st : List AV} {σ : Hp} {k : Nat × Nat} : xe_X11_done ct K R (n + 1) 50 ls st σ k = (xk_X11_done ct K R n 10 ls st σ k) := exS_step.trans rfl
theorem ev_X11_done_53 {ct : Nat → Bool} {K : Kt} {R : Option AV → Hp → Prop} {n : Nat} {ls : List (Option AV)} {st : List AV} {σ : Hp} {k : Nat × Nat} : xe_X11_done ct K R (n + 1) 53 ls st σ k = (lI ls 1 fun x => xk_X11_done ct K R n 54 ls (vi x :: st) σ k) := exS_step.trans rfl
theorem ev_X11_done_54 {ct : Nat → Bool} {K : Kt} {R : Option AV → Hp → Prop} {n : Nat} {ls : List (Option AV)} {st : List AV} {σ : Hp} {k : Nat × Nat} : xe_X11_done ct K R (n + 1) 54 ls st σ k = (oI st fun x st => st = [] ∧ True ∧ R (some (vi x)) σ) := exS_step.trans rfl
def M_X11_done : Md := (yX11_done, cX11_done, 4, (some FieldType.int), 12, 0, 0, 1, false, tb_X11_done, mt_X11_done)
theorem mm_X11_done : MMOK M_X11_done := ⟨by decide +kernel, tk_X11_done, mk_X11_done, rfl, fun h => by cases h⟩
theorem go_X11_done {Q : Option AV → Hp → Prop} {ct : Nat → Bool} {pc : Nat} {ls : List (Option AV)} {st : List AV} {σ : Hp} {k : Nat × Nat} (n : Nat) (h : xe_X11_done ct (Go M_X11_done Q) Q n pc ls st σ k) : Go M_X11_done Q pc ls st σ k := Go.exS mm_X11_done h

set_option maxRecDepth 20000 in
theorem c_X11_done : Ct yX11_done cX11_done 4 ((some FieldType.int)) 12 0 0 sp_X11_done := by
  refine Ct.go (M := M_X11_done) mm_X11_done fun av σ Q h0 => ?_
  obtain ⟨this, rfl, hk, h⟩ := el_X11_done h0
  clear h0
  refine ⟨Nat.le_of_ble_eq_true rfl, ?_⟩
  show Go M_X11_done Q 0 [some (vr this), none, none, none] [] σ (0, 0)
  obtain ⟨rfl, hC, hT, τ, hB, hG, hI, hH, h⟩ := h
  have hcs := hI.companies_s
  have w7 : ∀ σ' n, Fz fewF fewA noR σ σ' → TGr σ' → cFew τ σ' n → Go M_X11_done Q 7 [some (vr 1), none, none, none] [vi n] σ' (0, 0) := fun σ' n z hT2 hF => by
    have h := h σ' n z hT2 hF
    have hn := cFew_m hF
    have C2 := hC.fz z (by decide)
    have G2 := hG.fz z (by decide) (by omega) (by omega)
    clear hF
    have loop : ∀ (m i : Nat) (a3 : Option AV), i + m = n.toNat → Go M_X11_done Q 10 [some (vr 1), some (vi n), some (vi i), a3] [] (cDn σ' i) (0, 0) := by
      intro m
      induction m with
      | zero =>
        intro i a3 hi
        have e : n.toNat = i := by omega
        rw [e] at h
        have hn1 := hn.1
        clear hn hT2
        refine go_X11_done (ct := fun p => p == 15) 40 ?_
        simp only [oI, oL, oR, o1, lI, lL, lR, popN, catS, gv, stL, stL2, swt, cnd, spObj, List.getElem?_cons_zero, List.getElem?_cons_succ, List.getD_cons_zero, List.getD_cons_succ, List.set_cons_zero, List.set_cons_succ, List.nil_append, List.cons_append, Option.toList, Bool.or_false, Bool.false_or, Bool.or_true, Bool.true_or, Nat.reduceBEq, Nat.reduceAdd, Nat.reduceLT, Nat.reduceLeDiff, Int.reduceAdd, Int.reduceToNat, true_and, and_true, Fin.isValue, Fin.val_zero, Fin.val_one, Fin.val_two, Fin.reduceFinMk, eq_self, Int.reduceNeg, imp_self, Nat.reduceMul, Nat.le_refl, not_true_eq_false, not_false_eq_true, List.getElem?_nil, reduceCtorEq, true_or, or_true, Classical.not_not, implies_true, or_self, wI_0, wI_1, wI_m1, b2i_w, b2i_eq0, b2i_eq1, b2i_bool, nor_self, nx_pI, kd_pI, ln_pI, fI_pI, fL_pI, fR_pI, aI_pI, aL_pI, aR_pI, nx_pL, kd_pL, ln_pL, fI_pL, fL_pL, fR_pL, aI_pL, aL_pL, aR_pL, nx_pR, kd_pR, ln_pR, fI_pR, fL_pR, fR_pR, aI_pR, aL_pR, aR_pR, nx_qI, kd_qI, ln_qI, fI_qI, fL_qI, fR_qI, aI_qI, aL_qI, aR_qI, nx_qL, kd_qL, ln_qL, fI_qL, fL_qL, fR_qL, aI_qL, aL_qL, aR_qL, nx_qR, kd_qR, ln_qR, fI_qR, fL_qR, fR_qR, aI_qR, aL_qR, aR_qR, nx_mk, kd_mk, ln_mk, fI_mk, fL_mk, fR_mk, aI_mk, aL_mk, aR_mk, false_and, and_false, if_false, if_true, and_self, Int.reduceEq, Nat.reduceEqDiff, ite_self, MLay_pI, MLay_pL, MLay_qI, MLay_qL, ev_X11_done_10, ev_X11_done_11, ev_X11_done_12, ev_X11_done_53, ev_X11_done_54, xt_X11_done, xf_X11_done, us_X6_fewest, us_X6_companyAt, us_X3_companyOf, us_X6_houseAt]
        try simp (disch := omega) only [wI_id, dv_nn, rm_nn]
        repeat' (first | intro z | apply And.intro)
        all_goals try omega
        all_goals try contradiction
        all_goals exact h
      | succ m ih =>
        intro i a3 hi
        have w := fun a3 => ih (i + 1) a3 (by omega)
        have hz := Fz_cDn σ' i
        have C3 := C2.fz hz (by decide)
        have L3 := G2.1.fz hz (by decide) (by decide) (by decide)
        have e0 : cDn σ' (i + 1) = pI (cDn σ' i) 602 (lat σ' 18 (aI σ' 22 i)) (aI σ' 23 i) := rfl
        rw [e0] at w
        have elt := lat_fz hz (by decide)
        have hmi := hn.2 i (by omega) (by omega)
        generalize cDn σ' i = ρ at *
        have a22 : aI ρ 22 = aI σ' 22 := hz.aI (fun q => q)
        have a23 : aI ρ 23 = aI σ' 23 := hz.aI (fun q => q)
        have hsz : fI ρ 1402 18 = fI τ 1335 61 := by rw [hz.fI (by decide)]; exact G2.2.1
        have kk := G2.k hmi.1 hmi.2
        have kk2 : kd ρ (lat σ' 18 (aI σ' 22 i)) = 6 := by rw [hz.kd]; exact kk
        have pos := (G2.2.2.1 _ hmi.1 hmi.2).1
        have hir : inR (i : Int) := by unfold inR; omega
        have hcr : inR (aI σ' 22 i) := by unfold inR; omega
        have e1 : (if 0 ≤ (i : Int) ∧ (i : Int) < 2 then aI σ' 22 i else -1) = aI σ' 22 i := if_pos (by omega)
        have e2 : (if 0 ≤ (i : Int) ∧ (i : Int) < 2 then aI σ' 23 i else -1) = aI σ' 23 i := if_pos (by omega)
        have e3 : (if 0 ≤ aI σ' 22 i ∧ aI σ' 22 i < fI τ 1335 61 then lat σ' 18 (aI σ' 22 i) else 0) = lat σ' 18 (aI σ' 22 i) := if_pos hmi
        have hp0 : ¬ lat σ' 18 (aI σ' 22 i) = 0 := by omega
        have w := w (some (vr (lat σ' 18 (aI σ' 22 i))))
        clear hz h ih G2 hB hG
        refine go_X11_done (ct := fun p => p == 53 || p == 10) 60 ?_
        simp only [oI, oL, oR, o1, lI, lL, lR, popN, catS, gv, stL, stL2, swt, cnd, spObj, List.getElem?_cons_zero, List.getElem?_cons_succ, List.getD_cons_zero, List.getD_cons_succ, List.set_cons_zero, List.set_cons_succ, List.nil_append, List.cons_append, Option.toList, Bool.or_false, Bool.false_or, Bool.or_true, Bool.true_or, Nat.reduceBEq, Nat.reduceAdd, Nat.reduceLT, Nat.reduceLeDiff, Int.reduceAdd, Int.reduceToNat, true_and, and_true, Fin.isValue, Fin.val_zero, Fin.val_one, Fin.val_two, Fin.reduceFinMk, eq_self, Int.reduceNeg, imp_self, Nat.reduceMul, Nat.le_refl, not_true_eq_false, not_false_eq_true, List.getElem?_nil, reduceCtorEq, true_or, or_true, Classical.not_not, implies_true, or_self, wI_0, wI_1, wI_m1, b2i_w, b2i_eq0, b2i_eq1, b2i_bool, nor_self, nx_pI, kd_pI, ln_pI, fI_pI, fL_pI, fR_pI, aI_pI, aL_pI, aR_pI, nx_pL, kd_pL, ln_pL, fI_pL, fL_pL, fR_pL, aI_pL, aL_pL, aR_pL, nx_pR, kd_pR, ln_pR, fI_pR, fL_pR, fR_pR, aI_pR, aL_pR, aR_pR, nx_qI, kd_qI, ln_qI, fI_qI, fL_qI, fR_qI, aI_qI, aL_qI, aR_qI, nx_qL, kd_qL, ln_qL, fI_qL, fL_qL, fR_qL, aI_qL, aL_qL, aR_qL, nx_qR, kd_qR, ln_qR, fI_qR, fL_qR, fR_qR, aI_qR, aL_qR, aR_qR, nx_mk, kd_mk, ln_mk, fI_mk, fL_mk, fR_mk, aI_mk, aL_mk, aR_mk, false_and, and_false, if_false, if_true, and_self, Int.reduceEq, Nat.reduceEqDiff, ite_self, MLay_pI, MLay_pL, MLay_qI, MLay_qL, ev_X11_done_10, ev_X11_done_11, ev_X11_done_12, ev_X11_done_15, ev_X11_done_16, ev_X11_done_19, ev_X11_done_20, ev_X11_done_23, ev_X11_done_24, ev_X11_done_27, ev_X11_done_30, ev_X11_done_31, ev_X11_done_32, ev_X11_done_35, ev_X11_done_36, ev_X11_done_37, ev_X11_done_40, ev_X11_done_41, ev_X11_done_44, ev_X11_done_47, ev_X11_done_50, xt_X11_done, xf_X11_done, us_X6_fewest, us_X6_companyAt, us_X3_companyOf, us_X6_houseAt, C3, C3.eqs, L3, hsz, elt, a22, a23, hir, hcr, e1, e2, e3, hp0, kk2]
        try simp (disch := omega) only [wI_id, dv_nn, rm_nn]
        repeat' (first | intro z | apply And.intro)
        all_goals try omega
        all_goals try contradiction
        all_goals exact w
    have w := loop n.toNat 0 none (by omega)
    have w : Go M_X11_done Q 10 [some (vr 1), some (vi n), some (vi 0), none] [] σ' (0, 0) := w
    clear loop h
    by_cases c : 0 ≤ n
    · refine go_X11_done (ct := fun p => p == 10) 20 ?_
      simp only [oI, oL, oR, o1, lI, lL, lR, popN, catS, gv, stL, stL2, swt, cnd, spObj, List.getElem?_cons_zero, List.getElem?_cons_succ, List.getD_cons_zero, List.getD_cons_succ, List.set_cons_zero, List.set_cons_succ, List.nil_append, List.cons_append, Option.toList, Bool.or_false, Bool.false_or, Bool.or_true, Bool.true_or, Nat.reduceBEq, Nat.reduceAdd, Nat.reduceLT, Nat.reduceLeDiff, Int.reduceAdd, Int.reduceToNat, true_and, and_true, Fin.isValue, Fin.val_zero, Fin.val_one, Fin.val_two, Fin.reduceFinMk, eq_self, Int.reduceNeg, imp_self, Nat.reduceMul, Nat.le_refl, not_true_eq_false, not_false_eq_true, List.getElem?_nil, reduceCtorEq, true_or, or_true, Classical.not_not, implies_true, or_self, wI_0, wI_1, wI_m1, b2i_w, b2i_eq0, b2i_eq1, b2i_bool, nor_self, nx_pI, kd_pI, ln_pI, fI_pI, fL_pI, fR_pI, aI_pI, aL_pI, aR_pI, nx_pL, kd_pL, ln_pL, fI_pL, fL_pL, fR_pL, aI_pL, aL_pL, aR_pL, nx_pR, kd_pR, ln_pR, fI_pR, fL_pR, fR_pR, aI_pR, aL_pR, aR_pR, nx_qI, kd_qI, ln_qI, fI_qI, fL_qI, fR_qI, aI_qI, aL_qI, aR_qI, nx_qL, kd_qL, ln_qL, fI_qL, fL_qL, fR_qL, aI_qL, aL_qL, aR_qL, nx_qR, kd_qR, ln_qR, fI_qR, fL_qR, fR_qR, aI_qR, aL_qR, aR_qR, nx_mk, kd_mk, ln_mk, fI_mk, fL_mk, fR_mk, aI_mk, aL_mk, aR_mk, false_and, and_false, if_false, if_true, and_self, Int.reduceEq, Nat.reduceEqDiff, ite_self, MLay_pI, MLay_pL, MLay_qI, MLay_qL, ev_X11_done_7, ev_X11_done_8, ev_X11_done_9, xt_X11_done, xf_X11_done, us_X6_fewest, us_X6_companyAt, us_X3_companyOf, us_X6_houseAt]
      exact w
    · refine go_X11_done (ct := fun p => p == 10) 20 ?_
      simp only [oI, oL, oR, o1, lI, lL, lR, popN, catS, gv, stL, stL2, swt, cnd, spObj, List.getElem?_cons_zero, List.getElem?_cons_succ, List.getD_cons_zero, List.getD_cons_succ, List.set_cons_zero, List.set_cons_succ, List.nil_append, List.cons_append, Option.toList, Bool.or_false, Bool.false_or, Bool.or_true, Bool.true_or, Nat.reduceBEq, Nat.reduceAdd, Nat.reduceLT, Nat.reduceLeDiff, Int.reduceAdd, Int.reduceToNat, true_and, and_true, Fin.isValue, Fin.val_zero, Fin.val_one, Fin.val_two, Fin.reduceFinMk, eq_self, Int.reduceNeg, imp_self, Nat.reduceMul, Nat.le_refl, not_true_eq_false, not_false_eq_true, List.getElem?_nil, reduceCtorEq, true_or, or_true, Classical.not_not, implies_true, or_self, wI_0, wI_1, wI_m1, b2i_w, b2i_eq0, b2i_eq1, b2i_bool, nor_self, nx_pI, kd_pI, ln_pI, fI_pI, fL_pI, fR_pI, aI_pI, aL_pI, aR_pI, nx_pL, kd_pL, ln_pL, fI_pL, fL_pL, fR_pL, aI_pL, aL_pL, aR_pL, nx_pR, kd_pR, ln_pR, fI_pR, fL_pR, fR_pR, aI_pR, aL_pR, aR_pR, nx_qI, kd_qI, ln_qI, fI_qI, fL_qI, fR_qI, aI_qI, aL_qI, aR_qI, nx_qL, kd_qL, ln_qL, fI_qL, fL_qL, fR_qL, aI_qL, aL_qL, aR_qL, nx_qR, kd_qR, ln_qR, fI_qR, fL_qR, fR_qR, aI_qR, aL_qR, aR_qR, nx_mk, kd_mk, ln_mk, fI_mk, fL_mk, fR_mk, aI_mk, aL_mk, aR_mk, false_and, and_false, if_false, if_true, and_self, Int.reduceEq, Nat.reduceEqDiff, ite_self, MLay_pI, MLay_pL, MLay_qI, MLay_qL, ev_X11_done_7, ev_X11_done_8, ev_X11_done_9, xt_X11_done, xf_X11_done, us_X6_fewest, us_X6_companyAt, us_X3_companyOf, us_X6_houseAt]
      exact w
  clear h
  refine go_X11_done (ct := fun p => p == 7) 40 ?_
  simp only [oI, oL, oR, o1, lI, lL, lR, popN, catS, gv, stL, stL2, swt, cnd, spObj, List.getElem?_cons_zero, List.getElem?_cons_succ, List.getD_cons_zero, List.getD_cons_succ, List.set_cons_zero, List.set_cons_succ, List.nil_append, List.cons_append, Option.toList, Bool.or_false, Bool.false_or, Bool.or_true, Bool.true_or, Nat.reduceBEq, Nat.reduceAdd, Nat.reduceLT, Nat.reduceLeDiff, Int.reduceAdd, Int.reduceToNat, true_and, and_true, Fin.isValue, Fin.val_zero, Fin.val_one, Fin.val_two, Fin.reduceFinMk, eq_self, Int.reduceNeg, imp_self, Nat.reduceMul, Nat.le_refl, not_true_eq_false, not_false_eq_true, List.getElem?_nil, reduceCtorEq, true_or, or_true, Classical.not_not, implies_true, or_self, wI_0, wI_1, wI_m1, b2i_w, b2i_eq0, b2i_eq1, b2i_bool, nor_self, nx_pI, kd_pI, ln_pI, fI_pI, fL_pI, fR_pI, aI_pI, aL_pI, aR_pI, nx_pL, kd_pL, ln_pL, fI_pL, fL_pL, fR_pL, aI_pL, aL_pL, aR_pL, nx_pR, kd_pR, ln_pR, fI_pR, fL_pR, fR_pR, aI_pR, aL_pR, aR_pR, nx_qI, kd_qI, ln_qI, fI_qI, fL_qI, fR_qI, aI_qI, aL_qI, aR_qI, nx_qL, kd_qL, ln_qL, fI_qL, fL_qL, fR_qL, aI_qL, aL_qL, aR_qL, nx_qR, kd_qR, ln_qR, fI_qR, fL_qR, fR_qR, aI_qR, aL_qR, aR_qR, nx_mk, kd_mk, ln_mk, fI_mk, fL_mk, fR_mk, aI_mk, aL_mk, aR_mk, false_and, and_false, if_false, if_true, and_self, Int.reduceEq, Nat.reduceEqDiff, ite_self, MLay_pI, MLay_pL, MLay_qI, MLay_qL, ev_X11_done_0, ev_X11_done_1, ev_X11_done_4, xt_X11_done, xf_X11_done, us_X6_fewest, us_X6_companyAt, us_X3_companyOf, us_X6_houseAt, hC, hC.eqs, hT]
  exact ⟨τ, hB, hG, hI, hH, w7⟩
