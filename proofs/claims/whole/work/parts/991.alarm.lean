/-! the class: alarm -/

theorem BX_raise {σ τ : Hp} {b : Int} (h : BX σ τ) : BX σ (mRaise τ b) := by
  unfold BX mRaise
  unfold BX at h
  unfold BxE at *
  simp only [fI_pI, aI_pI, fI_qI, aI_qI, Nat.reduceEqDiff, false_and, if_false, Int.reduceEq]
  exact h
theorem BG_raise {σ τ : Hp} {b : Int} (h : BG σ τ) : BG σ (mRaise τ b) := by
  unfold BG mRaise
  unfold BG at h
  unfold CoE at *
  simp only [fI_pI, aI_pI, fI_qI, aI_qI, Nat.reduceEqDiff, false_and, if_false, Int.reduceEq]
  exact h

def sp_X11_alarm : Sp := fun av σ Q => oR av fun this av => oI av fun b av => av = [] ∧ kd σ this = 12 ∧ (this = 1 ∧ CLay σ ∧ inR b ∧ ∃ τ, (DKR σ τ ∧ BG σ τ ∧ AL σ τ ∧ BX σ τ ∧ MI τ ∧ WI τ ∧ AB τ) ∧ (fI σ 1210 1 = fI τ 1301 61 ∧ ∀ k, fI σ 103 k = fI τ 9999 k) ∧ (aI τ 115 (fI τ 1371 61) = 0 ∧ aI τ 112 (fI τ 1371 61) = 0) ∧   (((0 ≤ b ∧ b < fI τ 1302 61) ∧ ¬ fI τ 1371 61 = 100) → ∀ σ1 σ', Wf σ1 → BG σ1 (mAns (mRaise τ b) (fI τ 1371 61)) → AlS σ1 (mAns (mRaise τ b) (fI τ 1371 61)) (fI τ 1371 61) (nx σ) → Fz ansF (ansA (nx σ)) noR (cAlm (mk σ 1 0) (nx σ) (lat σ 3 b) (fI τ 1301 61 / 86400)) σ1 → Added σ1 28 (nx σ) σ' → LOk σ' 28 0 → Q (some (vi (fI τ 1371 61))) σ') ∧ (¬ ((0 ≤ b ∧ b < fI τ 1302 61) ∧ ¬ fI τ 1371 61 = 100) → Q (some (vi (-1))) σ))
theorem us_X11_alarm (this : Int) (b : Int) (σ : Hp) (Q : Option AV → Hp → Prop) : sp_X11_alarm [vr this, vi b] σ Q = (kd σ this = 12 ∧ (this = 1 ∧ CLay σ ∧ inR b ∧ ∃ τ, (DKR σ τ ∧ BG σ τ ∧ AL σ τ ∧ BX σ τ ∧ MI τ ∧ WI τ ∧ AB τ) ∧ (fI σ 1210 1 = fI τ 1301 61 ∧ ∀ k, fI σ 103 k = fI τ 9999 k) ∧ (aI τ 115 (fI τ 1371 61) = 0 ∧ aI τ 112 (fI τ 1371 61) = 0) ∧   (((0 ≤ b ∧ b < fI τ 1302 61) ∧ ¬ fI τ 1371 61 = 100) → ∀ σ1 σ', Wf σ1 → BG σ1 (mAns (mRaise τ b) (fI τ 1371 61)) → AlS σ1 (mAns (mRaise τ b) (fI τ 1371 61)) (fI τ 1371 61) (nx σ) → Fz ansF (ansA (nx σ)) noR (cAlm (mk σ 1 0) (nx σ) (lat σ 3 b) (fI τ 1301 61 / 86400)) σ1 → Added σ1 28 (nx σ) σ' → LOk σ' 28 0 → Q (some (vi (fI τ 1371 61))) σ') ∧ (¬ ((0 ≤ b ∧ b < fI τ 1302 61) ∧ ¬ fI τ 1371 61 = 100) → Q (some (vi (-1))) σ))) := propext ⟨fun h => h.2, fun h => ⟨rfl, h⟩⟩
theorem el_X11_alarm {av : List AV} {σ : Hp} {Q : Option AV → Hp → Prop} (h : sp_X11_alarm av σ Q) : ∃ (this : Int) (b : Int), av = [vr this, vi b] ∧ (kd σ this = 12 ∧ (this = 1 ∧ CLay σ ∧ inR b ∧ ∃ τ, (DKR σ τ ∧ BG σ τ ∧ AL σ τ ∧ BX σ τ ∧ MI τ ∧ WI τ ∧ AB τ) ∧ (fI σ 1210 1 = fI τ 1301 61 ∧ ∀ k, fI σ 103 k = fI τ 9999 k) ∧ (aI τ 115 (fI τ 1371 61) = 0 ∧ aI τ 112 (fI τ 1371 61) = 0) ∧   (((0 ≤ b ∧ b < fI τ 1302 61) ∧ ¬ fI τ 1371 61 = 100) → ∀ σ1 σ', Wf σ1 → BG σ1 (mAns (mRaise τ b) (fI τ 1371 61)) → AlS σ1 (mAns (mRaise τ b) (fI τ 1371 61)) (fI τ 1371 61) (nx σ) → Fz ansF (ansA (nx σ)) noR (cAlm (mk σ 1 0) (nx σ) (lat σ 3 b) (fI τ 1301 61 / 86400)) σ1 → Added σ1 28 (nx σ) σ' → LOk σ' 28 0 → Q (some (vi (fI τ 1371 61))) σ') ∧ (¬ ((0 ≤ b ∧ b < fI τ 1302 61) ∧ ¬ fI τ 1371 61 = 100) → Q (some (vi (-1))) σ))) := by
  obtain ⟨this, a0, rfl, h0⟩ := oR_s h
  obtain ⟨b, a1, rfl, h1⟩ := oI_s h0
  obtain ⟨rfl, hz⟩ := h1
  exact ⟨this, b, rfl, hz⟩
theorem rc_X11_alarm : ∀ (av : List AV) (σ : Hp) (Q : Option AV → Hp → Prop), sp_X11_alarm av σ Q → ∃ r tl, av = vr r :: tl ∧ kd σ r = 11 + 1 := fun av σ Q h => by
  obtain ⟨this, b, rfl, hz, -⟩ := el_X11_alarm h
  exact ⟨this, _, rfl, hz⟩

def tb_X11_alarm : Tab := [(0, .aload_n 0, 1, (0, 0, 0, 0)), (1, .iload_n 1, 1, (0, 0, 0, 0)), (2, .invokevirtual 122, 3, (0, 0, 0, 0)), (5, .astore_n 2, 1, (0, 0, 0, 0)), (6, .aload_n 2, 1, (0, 0, 0, 0)), (7, .ifnull 18, 3, (0, 0, 0, 0)), (10, .aload_n 0, 1, (0, 0, 0, 0)), (11, .getfield 54, 3, (12, 1207, 2, 0)), (14, .getfield 198, 3, (2, 200, 2, 0)), (17, .invokevirtual 83, 3, (0, 0, 0, 0)), (20, .bipush 100, 2, (0, 0, 0, 0)), (22, .if_icmp .lt 5, 3, (0, 0, 0, 0)), (25, .iconst (-1), 1, (0, 0, 0, 0)), (26, .ireturn, 1, (0, 0, 0, 0)), (27, .new 201, 3, (1, 8, 0, 0)), (30, .dup, 1, (0, 0, 0, 0)), (31, .aload_n 2, 1, (0, 0, 0, 0)), (32, .aload_n 0, 1, (0, 0, 0, 0)), (33, .invokevirtual 203, 3, (0, 0, 0, 0)), (36, .invokespecial 206, 3, (0, 0, 0, 0)), (39, .astore_n 3, 1, (0, 0, 0, 0)), (40, .aload_n 0, 1, (0, 0, 0, 0)), (41, .aload_n 3, 1, (0, 0, 0, 0)), (42, .invokevirtual 209, 3, (0, 0, 0, 0)), (45, .aload_n 0, 1, (0, 0, 0, 0)), (46, .getfield 54, 3, (12, 1207, 2, 0)), (49, .getfield 198, 3, (2, 200, 2, 0)), (52, .aload_n 3, 1, (0, 0, 0, 0)), (53, .invokevirtual 115, 3, (0, 0, 0, 0)), (56, .pop, 1, (0, 0, 0, 0)), (57, .aload_n 0, 1, (0, 0, 0, 0)), (58, .getfield 54, 3, (12, 1207, 2, 0)), (61, .getfield 198, 3, (2, 200, 2, 0)), (64, .invokevirtual 83, 3, (0, 0, 0, 0)), (67, .iconst 1, 1, (0, 0, 0, 0)), (68, .isub, 1, (0, 0, 0, 0)), (69, .ireturn, 1, (0, 0, 0, 0))]
set_option maxRecDepth 100000 in
theorem tk_X11_alarm : TOK RX11 false cX11_alarm tb_X11_alarm := chkT_ok ft_X11 (by decide +kernel)
theorem rw_X11_1650 : Row RX11 (.invokespecial 206) 3 3 1 20 1 sp_X0_init := row_I (n := 2) c_X0_init ⟨TBL_in 1137 (by decide +kernel) rfl, TBL_in 1139 (by decide +kernel) rfl, TBL_in 137 (by decide +kernel) rfl, by decide +kernel, by decide⟩ (TBL_in 1138 (by decide +kernel) rfl) rfl (rcn_X0_init)
def mt_X11_alarm : List (Nat × Mt) := [(976, 2, 0, 0, 4, sp_X11_boxOf), (664, 1, 0, 0, 1, sp_Jx4a65c_size_8abf5), (1624, 1, 0, 0, 1, sp_X11_today), (1650, 3, 1, 20, 1, sp_X0_init), (1672, 2, 0, 0, 7, sp_X11_answerCall), (920, 2, 1, 150, 7, sp_Jx4a65c_add_9ea2d)]
theorem em_X11_alarm : mt_X11_alarm.lookup 976 = some (2, 0, 0, 4, sp_X11_boxOf) ∧ mt_X11_alarm.lookup 664 = some (1, 0, 0, 1, sp_Jx4a65c_size_8abf5) ∧ mt_X11_alarm.lookup 1624 = some (1, 0, 0, 1, sp_X11_today) ∧ mt_X11_alarm.lookup 1650 = some (3, 1, 20, 1, sp_X0_init) ∧ mt_X11_alarm.lookup 1672 = some (2, 0, 0, 7, sp_X11_answerCall) ∧ mt_X11_alarm.lookup 920 = some (2, 1, 150, 7, sp_Jx4a65c_add_9ea2d) := ⟨rfl, rfl, rfl, rfl, rfl, rfl⟩
theorem mk_X11_alarm : MOK RX11 mt_X11_alarm := by
  intro q hq
  simp only [mt_X11_alarm, List.mem_cons, List.not_mem_nil, or_false] at hq
  rcases hq with rfl | rfl | rfl | rfl | rfl | rfl
  · exact rw_X11_976
  · exact rw_X11_664
  · exact rw_X11_1624
  · exact rw_X11_1650
  · exact rw_X11_1672
  · exact rw_X11_920
noncomputable def xe_X11_alarm (ct : Nat → Bool) (K : Kt) (R : Option AV → Hp → Prop) (n : Nat) : Kt := exS 4 9 3 178 1 tb_X11_alarm mt_X11_alarm ct K R n
noncomputable def xk_X11_alarm (ct : Nat → Bool) (K : Kt) (R : Option AV → Hp → Prop) (n : Nat) : Kt := exkS 4 9 3 178 1 tb_X11_alarm mt_X11_alarm ct K R n
theorem xt_X11_alarm {ct : Nat → Bool} {K : Kt} {R : Option AV → Hp → Prop} {n pc : Nat} {ls : List (Option AV)} {st : List AV} {σ : Hp} {k : Nat × Nat} (h : ct pc = true) : xk_X11_alarm ct K R n pc ls st σ k = K pc ls st σ k := by unfold xk_X11_alarm exkS; rw [h]
theorem xf_X11_alarm {ct : Nat → Bool} {K : Kt} {R : Option AV → Hp → Prop} {n pc : Nat} {ls : List (Option AV)} {st : List AV} {σ : Hp} {k : Nat × Nat} (h : ct pc = false) : xk_X11_alarm ct K R n pc ls st σ k = xe_X11_alarm ct K R n pc ls st σ k := by unfold xk_X11_alarm exkS xe_X11_alarm; rw [h]
theorem ev_X11_alarm_0 {ct : Nat → Bool} {K : Kt} {R : Option AV → Hp → Prop} {n : Nat} {ls : List (Option AV)} {st : List AV} {σ : Hp} {k : Nat × Nat} : xe_X11_alarm ct K R (n + 1) 0 ls st σ k = (lR ls 0 fun x => xk_X11_alarm ct K R n 1 ls (vr x :: st) σ k) := exS_step.trans rfl
theorem ev_X11_alarm_1 {ct : Nat → Bool} {K : Kt} {R : Option AV → Hp → Prop} {n : Nat} {ls : List (Option AV)} {st : List AV} {σ : Hp} {k : Nat × Nat} : xe_X11_alarm ct K R (n + 1) 1 ls st σ k = (lI ls 1 fun x => xk_X11_alarm ct K R n 2 ls (vi x :: st) σ k) := exS_step.trans rfl
theorem ev_X11_alarm_2 {ct : Nat → Bool} {K : Kt} {R : Option AV → Hp → Prop} {n : Nat} {ls : List (Option AV)} {st : List AV} {σ : Hp} {k : Nat × Nat} : xe_X11_alarm ct K R (n + 1) 2 ls st σ k = (popN 2 st [] fun av rest => (catS rest ≤ 8 ∧ 4 < 9 ∧ k.1 + 0 ≤ 3 ∧ k.2 + 0 ≤ 178) ∧ (sp_X11_boxOf) av σ fun v σ' => xk_X11_alarm ct K R n 5 ls (v.toList ++ rest) σ' (k.1 + 0, k.2 + 0)) := exS_step.trans rfl
theorem ev_X11_alarm_5 {ct : Nat → Bool} {K : Kt} {R : Option AV → Hp → Prop} {n : Nat} {ls : List (Option AV)} {st : List AV} {σ : Hp} {k : Nat × Nat} : xe_X11_alarm ct K R (n + 1) 5 ls st σ k = (oR st fun x st => 2 < 4 ∧ xk_X11_alarm ct K R n 6 (stL ls 2 (vr x)) st σ k) := exS_step.trans rfl
theorem ev_X11_alarm_6 {ct : Nat → Bool} {K : Kt} {R : Option AV → Hp → Prop} {n : Nat} {ls : List (Option AV)} {st : List AV} {σ : Hp} {k : Nat × Nat} : xe_X11_alarm ct K R (n + 1) 6 ls st σ k = (lR ls 2 fun x => xk_X11_alarm ct K R n 7 ls (vr x :: st) σ k) := exS_step.trans rfl
theorem ev_X11_alarm_7 {ct : Nat → Bool} {K : Kt} {R : Option AV → Hp → Prop} {n : Nat} {ls : List (Option AV)} {st : List AV} {σ : Hp} {k : Nat × Nat} : xe_X11_alarm ct K R (n + 1) 7 ls st σ k = (oR st fun x st => (x = 0 → xk_X11_alarm ct K R n 25 ls st σ k) ∧ (¬ x = 0 → xk_X11_alarm ct K R n 10 ls st σ k)) := exS_step.trans rfl
theorem ev_X11_alarm_10 {ct : Nat → Bool} {K : Kt} {R : Option AV → Hp → Prop} {n : Nat} {ls : List (Option AV)} {st : List AV} {σ : Hp} {k : Nat × Nat} : xe_X11_alarm ct K R (n + 1) 10 ls st σ k = (lR ls 0 fun x => xk_X11_alarm ct K R n 11 ls (vr x :: st) σ k) := exS_step.trans rfl
theorem ev_X11_alarm_11 {ct : Nat → Bool} {K : Kt} {R : Option AV → Hp → Prop} {n : Nat} {ls : List (Option AV)} {st : List AV} {σ : Hp} {k : Nat × Nat} : xe_X11_alarm ct K R (n + 1) 11 ls st σ k = (oR st fun x st => kd σ x = 12 ∧ xk_X11_alarm ct K R n 14 ls (vr (fR σ 1207 x) :: st) σ k) := exS_step.trans rfl
theorem ev_X11_alarm_14 {ct : Nat → Bool} {K : Kt} {R : Option AV → Hp → Prop} {n : Nat} {ls : List (Option AV)} {st : List AV} {σ : Hp} {k : Nat × Nat} : xe_X11_alarm ct K R (n + 1) 14 ls st σ k = (oR st fun x st => kd σ x = 2 ∧ xk_X11_alarm ct K R n 17 ls (vr (fR σ 200 x) :: st) σ k) := exS_step.trans rfl
theorem ev_X11_alarm_17 {ct : Nat → Bool} {K : Kt} {R : Option AV → Hp → Prop} {n : Nat} {ls : List (Option AV)} {st : List AV} {σ : Hp} {k : Nat × Nat} : xe_X11_alarm ct K R (n + 1) 17 ls st σ k = (popN 1 st [] fun av rest => (catS rest ≤ 8 ∧ 1 < 9 ∧ k.1 + 0 ≤ 3 ∧ k.2 + 0 ≤ 178) ∧ (sp_Jx4a65c_size_8abf5) av σ fun v σ' => xk_X11_alarm ct K R n 20 ls (v.toList ++ rest) σ' (k.1 + 0, k.2 + 0)) := exS_step.trans rfl
theorem ev_X11_alarm_20 {ct : Nat → Bool} {K : Kt} {R : Option AV → Hp → Prop} {n : Nat} {ls : List (Option AV)} {st : List AV} {σ : Hp} {k : Nat × Nat} : xe_X11_alarm ct K R (n + 1) 20 ls st σ k = (xk_X11_alarm ct K R n 22 ls (vi (100) :: st) σ k) := exS_step.trans rfl
theorem ev_X11_alarm_22 {ct : Nat → Bool} {K : Kt} {R : Option AV → Hp → Prop} {n : Nat} {ls : List (Option AV)} {st : List AV} {σ : Hp} {k : Nat × Nat} : xe_X11_alarm ct K R (n + 1) 22 ls st σ k = (oI st fun y st => oI st fun x st => (wI x < wI y → xk_X11_alarm ct K R n 27 ls st σ k) ∧ (¬ (wI x < wI y) → xk_X11_alarm ct K R n 25 ls st σ k)) := exS_step.trans rfl
theorem ev_X11_alarm_25 {ct : Nat → Bool} {K : Kt} {R : Option AV → Hp → Prop} {n : Nat} {ls : List (Option AV)} {st : List AV} {σ : Hp} {k : Nat × Nat} : xe_X11_alarm ct K R (n + 1) 25 ls st σ k = (xk_X11_alarm ct K R n 26 ls (vi (-1) :: st) σ k) := exS_step.trans rfl
theorem ev_X11_alarm_26 {ct : Nat → Bool} {K : Kt} {R : Option AV → Hp → Prop} {n : Nat} {ls : List (Option AV)} {st : List AV} {σ : Hp} {k : Nat × Nat} : xe_X11_alarm ct K R (n + 1) 26 ls st σ k = (oI st fun x st => st = [] ∧ True ∧ R (some (vi x)) σ) := exS_step.trans rfl
theorem ev_X11_alarm_27 {ct : Nat → Bool} {K : Kt} {R : Option AV → Hp → Prop} {n : Nat} {ls : List (Option AV)} {st : List AV} {σ : Hp} {k : Nat × Nat} : xe_X11_alarm ct K R (n + 1) 27 ls st σ k = ((k.1 + 1 ≤ 3 ∧ k.2 + 8 ≤ 178) ∧ xk_X11_alarm ct K R n 30 ls (vr (nx σ) :: st) (mk σ 1 0) (k.1 + 1, k.2 + 8)) := exS_step.trans rfl
theorem ev_X11_alarm_30 {ct : Nat → Bool} {K : Kt} {R : Option AV → Hp → Prop} {n : Nat} {ls : List (Option AV)} {st : List AV} {σ : Hp} {k : Nat × Nat} : xe_X11_alarm ct K R (n + 1) 30 ls st σ k = (o1 st fun v st => xk_X11_alarm ct K R n 31 ls (v :: v :: st) σ k) := exS_step.trans rfl
theorem ev_X11_alarm_31 {ct : Nat → Bool} {K : Kt} {R : Option AV → Hp → Prop} {n : Nat} {ls : List (Option AV)} {st : List AV} {σ : Hp} {k : Nat × Nat} : xe_X11_alarm ct K R (n + 1) 31 ls st σ k = (lR ls 2 fun x => xk_X11_alarm ct K R n 32 ls (vr x :: st) σ k) := exS_step.trans rfl
theorem ev_X11_alarm_32 {ct : Nat → Bool} {K : Kt} {R : Option AV → Hp → Prop} {n : Nat} {ls : List (Option AV)} {st : List AV} {σ : Hp} {k : Nat × Nat} : xe_X11_alarm ct K R (n + 1) 32 ls st σ k = (lR ls 0 fun x => xk_X11_alarm ct K R n 33 ls (vr x :: st) σ k) := exS_step.trans rfl
theorem ev_X11_alarm_33 {ct : Nat → Bool} {K : Kt} {R : Option AV → Hp → Prop} {n : Nat} {ls : List (Option AV)} {st : List AV} {σ : Hp} {k : Nat × Nat} : xe_X11_alarm ct K R (n + 1) 33 ls st σ k = (popN 1 st [] fun av rest => (catS rest ≤ 8 ∧ 1 < 9 ∧ k.1 + 0 ≤ 3 ∧ k.2 + 0 ≤ 178) ∧ (sp_X11_today) av σ fun v σ' => xk_X11_alarm ct K R n 36 ls (v.toList ++ rest) σ' (k.1 + 0, k.2 + 0)) := exS_step.trans rfl
theorem ev_X11_alarm_36 {ct : Nat → Bool} {K : Kt} {R : Option AV → Hp → Prop} {n : Nat} {ls : List (Option AV)} {st : List AV} {σ : Hp} {k : Nat × Nat} : xe_X11_alarm ct K R (n + 1) 36 ls st σ k = (popN 3 st [] fun av rest => (catS rest ≤ 8 ∧ 1 < 9 ∧ k.1 + 1 ≤ 3 ∧ k.2 + 20 ≤ 178) ∧ (sp_X0_init) av σ fun v σ' => xk_X11_alarm ct K R n 39 ls (v.toList ++ rest) σ' (k.1 + 1, k.2 + 20)) := exS_step.trans rfl
theorem ev_X11_alarm_39 {ct : Nat → Bool} {K : Kt} {R : Option AV → Hp → Prop} {n : Nat} {ls : List (Option AV)} {st : List AV} {σ : Hp} {k : Nat × Nat} : xe_X11_alarm ct K R (n + 1) 39 ls st σ k = (oR st fun x st => 3 < 4 ∧ xk_X11_alarm ct K R n 40 (stL ls 3 (vr x)) st σ k) := exS_step.trans rfl
theorem ev_X11_alarm_40 {ct : Nat → Bool} {K : Kt} {R : Option AV → Hp → Prop} {n : Nat} {ls : List (Option AV)} {st : List AV} {σ : Hp} {k : Nat × Nat} : xe_X11_alarm ct K R (n + 1) 40 ls st σ k = (lR ls 0 fun x => xk_X11_alarm ct K R n 41 ls (vr x :: st) σ k) := exS_step.trans rfl
theorem ev_X11_alarm_41 {ct : Nat → Bool} {K : Kt} {R : Option AV → Hp → Prop} {n : Nat} {ls : List (Option AV)} {st : List AV} {σ : Hp} {k : Nat × Nat} : xe_X11_alarm ct K R (n + 1) 41 ls st σ k = (lR ls 3 fun x => xk_X11_alarm ct K R n 42 ls (vr x :: st) σ k) := exS_step.trans rfl
theorem ev_X11_alarm_42 {ct : Nat → Bool} {K : Kt} {R : Option AV → Hp → Prop} {n : Nat} {ls : List (Option AV)} {st : List AV} {σ : Hp} {k : Nat × Nat} : xe_X11_alarm ct K R (n + 1) 42 ls st σ k = (popN 2 st [] fun av rest => (catS rest ≤ 8 ∧ 7 < 9 ∧ k.1 + 0 ≤ 3 ∧ k.2 + 0 ≤ 178) ∧ (sp_X11_answerCall) av σ fun v σ' => xk_X11_alarm ct K R n 45 ls (v.toList ++ rest) σ' (k.1 + 0, k.2 + 0)) := exS_step.trans rfl
theorem ev_X11_alarm_45 {ct : Nat → Bool} {K : Kt} {R : Option AV → Hp → Prop} {n : Nat} {ls : List (Option AV)} {st : List AV} {σ : Hp} {k : Nat × Nat} : xe_X11_alarm ct K R (n + 1) 45 ls st σ k = (lR ls 0 fun x => xk_X11_alarm ct K R n 46 ls (vr x :: st) σ k) := exS_step.trans rfl
theorem ev_X11_alarm_46 {ct : Nat → Bool} {K : Kt} {R : Option AV → Hp → Prop} {n : Nat} {ls : List (Option AV)} {st : List AV} {σ : Hp} {k : Nat × Nat} : xe_X11_alarm ct K R (n + 1) 46 ls st σ k = (oR st fun x st => kd σ x = 12 ∧ xk_X11_alarm ct K R n 49 ls (vr (fR σ 1207 x) :: st) σ k) := exS_step.trans rfl
theorem ev_X11_alarm_49 {ct : Nat → Bool} {K : Kt} {R : Option AV → Hp → Prop} {n : Nat} {ls : List (Option AV)} {st : List AV} {σ : Hp} {k : Nat × Nat} : xe_X11_alarm ct K R (n + 1) 49 ls st σ k = (oR st fun x st => kd σ x = 2 ∧ xk_X11_alarm ct K R n 52 ls (vr (fR σ 200 x) :: st) σ k) := exS_step.trans rfl
theorem ev_X11_alarm_52 {ct : Nat → Bool} {K : Kt} {R : Option AV → Hp → Prop} {n : Nat} {ls : List (Option AV)} {st : List AV} {σ : Hp} {k : Nat × Nat} : xe_X11_alarm ct K R (n + 1) 52 ls st σ k = (lR ls 3 fun x => xk_X11_alarm ct K R n 53 ls (vr x :: st) σ k) := exS_step.trans rfl
theorem ev_X11_alarm_53 {ct : Nat → Bool} {K : Kt} {R : Option AV → Hp → Prop} {n : Nat} {ls : List (Option AV)} {st : List AV} {σ : Hp} {k : Nat × Nat} : xe_X11_alarm ct K R (n + 1) 53 ls st σ k = (popN 2 st [] fun av rest => (catS rest ≤ 8 ∧ 7 < 9 ∧ k.1 + 1 ≤ 3 ∧ k.2 + 150 ≤ 178) ∧ (sp_Jx4a65c_add_9ea2d) av σ fun v σ' => xk_X11_alarm ct K R n 56 ls (v.toList ++ rest) σ' (k.1 + 1, k.2 + 150)) := exS_step.trans rfl
theorem ev_X11_alarm_56 {ct : Nat → Bool} {K : Kt} {R : Option AV → Hp → Prop} {n : Nat} {ls : List (Option AV)} {st : List AV} {σ : Hp} {k : Nat × Nat} : xe_X11_alarm ct K R (n + 1) 56 ls st σ k = (o1 st fun _ st => xk_X11_alarm ct K R n 57 ls st σ k) := exS_step.trans rfl
theorem ev_X11_alarm_57 {ct : Nat → Bool} {K : Kt} {R : Option AV → Hp → Prop} {n : Nat} {ls : List (Option AV)} {st : List AV} {σ : Hp} {k : Nat × Nat} : xe_X11_alarm ct K R (n + 1) 57 ls st σ k = (lR ls 0 fun x => xk_X11_alarm ct K R n 58 ls (vr x :: st) σ k) := exS_step.trans rfl
theorem ev_X11_alarm_58 {ct : Nat → Bool} {K : Kt} {R : Option AV → Hp → Prop} {n : Nat} {ls : List (Option AV)} {st : List AV} {σ : Hp} {k : Nat × Nat} : xe_X11_alarm ct K R (n + 1) 58 ls st σ k = (oR st fun x st => kd σ x = 12 ∧ xk_X11_alarm ct K R n 61 ls (vr (fR σ 1207 x) :: st) σ k) := exS_step.trans rfl
theorem ev_X11_alarm_61 {ct : Nat → Bool} {K : Kt} {R : Option AV → Hp → Prop} {n : Nat} {ls : List (Option AV)} {st : List AV} {σ : Hp} {k : Nat × Nat} : xe_X11_alarm ct K R (n + 1) 61 ls st σ k = (oR st fun x st => kd σ x = 2 ∧ xk_X11_alarm ct K R n 64 ls (vr (fR σ 200 x) :: st) σ k) := exS_step.trans rfl
theorem ev_X11_alarm_64 {ct : Nat → Bool} {K : Kt} {R : Option AV → Hp → Prop} {n : Nat} {ls : List (Option AV)} {st : List AV} {σ : Hp} {k : Nat × Nat} : xe_X11_alarm ct K R (n + 1) 64 ls st σ k = (popN 1 st [] fun av rest => (catS rest ≤ 8 ∧ 1 < 9 ∧ k.1 + 0 ≤ 3 ∧ k.2 + 0 ≤ 178) ∧ (sp_Jx4a65c_size_8abf5) av σ fun v σ' => xk_X11_alarm ct K R n 67 ls (v.toList ++ rest) σ' (k.1 + 0, k.2 + 0)) := exS_step.trans rfl
theorem ev_X11_alarm_67 {ct : Nat → Bool} {K : Kt} {R : Option AV → Hp → Prop} {n : Nat} {ls : List (Option AV)} {st : List AV} {σ : Hp} {k : Nat × Nat} : xe_X11_alarm ct K R (n + 1) 67 ls st σ k = (xk_X11_alarm ct K R n 68 ls (vi (1) :: st) σ k) := exS_step.trans rfl
theorem ev_X11_alarm_68 {ct : Nat → Bool} {K : Kt} {R : Option AV → Hp → Prop} {n : Nat} {ls : List (Option AV)} {st : List AV} {σ : Hp} {k : Nat × Nat} : xe_X11_alarm ct K R (n + 1) 68 ls st σ k = (oI st fun y st => oI st fun x st => xk_X11_alarm ct K R n 69 ls (vi (x - y) :: st) σ k) := exS_step.trans rfl
theorem ev_X11_alarm_69 {ct : Nat → Bool} {K : Kt} {R : Option AV → Hp → Prop} {n : Nat} {ls : List (Option AV)} {st : List AV} {σ : Hp} {k : Nat × Nat} : xe_X11_alarm ct K R (n + 1) 69 ls st σ k = (oI st fun x st => st = [] ∧ True ∧ R (some (vi x)) σ) := exS_step.trans rfl
def M_X11_alarm : Md := (yX11_alarm, cX11_alarm, 4, (some FieldType.int), 9, 3, 178, 1, false, tb_X11_alarm, mt_X11_alarm)
theorem mm_X11_alarm : MMOK M_X11_alarm := ⟨by decide +kernel, tk_X11_alarm, mk_X11_alarm, rfl, fun h => by cases h⟩
theorem go_X11_alarm {Q : Option AV → Hp → Prop} {ct : Nat → Bool} {pc : Nat} {ls : List (Option AV)} {st : List AV} {σ : Hp} {k : Nat × Nat} (n : Nat) (h : xe_X11_alarm ct (Go M_X11_alarm Q) Q n pc ls st σ k) : Go M_X11_alarm Q pc ls st σ k := Go.exS mm_X11_alarm h

set_option maxRecDepth 20000 in
theorem alm_45 {Q : Option AV → Hp → Prop} {σ1 : Hp} {b p n : Int} {a2 : Option AV} (hw : Wf σ1) (hC : CLay σ1) (hL : LOk σ1 28 0) (hn : fI σ1 1402 28 = n) (hn2 : 0 ≤ n ∧ n < 100) (hk : kd σ1 p = 1) (h : ∀ σ', Added σ1 28 p σ' → LOk σ' 28 0 → Q (some (vi n)) σ') : Go M_X11_alarm Q 45 [some (vr 1), some (vi b), a2, some (vr p)] [] σ1 (2, 28) := by
  have q2 : ¬ (2 : Int) = fR σ1 1401 28 := fun q => by
    have := hL.2.1
    rw [← q] at this
    simp only [hC.eqs] at this
    exact absurd this (by decide)
  have q7 : ¬ (7 : Int) = fR σ1 1401 28 := fun q => by
    have := hL.2.1
    rw [← q] at this
    simp only [hC.eqs] at this
    exact absurd this (by decide)
  have w56 : ∀ σ', Added σ1 28 p σ' → LOk σ' 28 0 → Go M_X11_alarm Q 56 [some (vr 1), some (vi b), a2, some (vr p)] [vi 1] σ' (3, 178) := fun σ' A L => by
    have C := hC.kp (A.kp hw) q2 q7
    have h := h σ' A L
    have g3 : fI σ' 1402 28 = n + 1 := by rw [A.2.2.2.2.1, hn]
    have g4 := L.1
    clear A L hw hL
    refine go_X11_alarm (ct := fun p => p == 0) 20 ?_
    simp only [oI, oL, oR, o1, lI, lL, lR, popN, catS, gv, stL, stL2, swt, cnd, spObj, List.getElem?_cons_zero, List.getElem?_cons_succ, List.getD_cons_zero, List.getD_cons_succ, List.set_cons_zero, List.set_cons_succ, List.nil_append, List.cons_append, Option.toList, Bool.or_false, Bool.false_or, Bool.or_true, Bool.true_or, Nat.reduceBEq, Nat.reduceAdd, Nat.reduceLT, Nat.reduceLeDiff, Int.reduceAdd, Int.reduceToNat, true_and, and_true, Fin.isValue, Fin.val_zero, Fin.val_one, Fin.val_two, Fin.reduceFinMk, eq_self, Int.reduceNeg, imp_self, Nat.reduceMul, Nat.le_refl, not_true_eq_false, not_false_eq_true, List.getElem?_nil, reduceCtorEq, true_or, or_true, Classical.not_not, implies_true, or_self, wI_0, wI_1, wI_m1, b2i_w, b2i_eq0, b2i_eq1, b2i_bool, nor_self, nx_pI, kd_pI, ln_pI, fI_pI, fL_pI, fR_pI, aI_pI, aL_pI, aR_pI, nx_pL, kd_pL, ln_pL, fI_pL, fL_pL, fR_pL, aI_pL, aL_pL, aR_pL, nx_pR, kd_pR, ln_pR, fI_pR, fL_pR, fR_pR, aI_pR, aL_pR, aR_pR, nx_qI, kd_qI, ln_qI, fI_qI, fL_qI, fR_qI, aI_qI, aL_qI, aR_qI, nx_qL, kd_qL, ln_qL, fI_qL, fL_qL, fR_qL, aI_qL, aL_qL, aR_qL, nx_qR, kd_qR, ln_qR, fI_qR, fL_qR, fR_qR, aI_qR, aL_qR, aR_qR, nx_mk, kd_mk, ln_mk, fI_mk, fL_mk, fR_mk, aI_mk, aL_mk, aR_mk, false_and, and_false, if_false, if_true, and_self, Int.reduceEq, Nat.reduceEqDiff, ite_self, MLay_pI, MLay_pL, MLay_qI, MLay_qL, ev_X11_alarm_56, ev_X11_alarm_57, ev_X11_alarm_58, ev_X11_alarm_61, ev_X11_alarm_64, ev_X11_alarm_67, ev_X11_alarm_68, ev_X11_alarm_69, xt_X11_alarm, xf_X11_alarm, us_X11_boxOf, us_Jx4a65c_size_8abf5, us_X11_today, us_X0_init, us_X11_answerCall, us_Jx4a65c_add_9ea2d, C.eqs, g3, g4, Int.add_sub_cancel]
    repeat' (first | intro z | apply And.intro)
    all_goals try omega
    all_goals try contradiction
    all_goals exact h
  have s1 : ∃ ci, (ci = 0 ∨ ci = 2 ∨ ci = 5) ∧ LOk σ1 28 ci ∧ kd σ1 p = ci + 1 ∧ fI σ1 1402 28 ≤ 100 ∧ ∀ σ', Added σ1 28 p σ' → LOk σ' 28 ci → Go M_X11_alarm Q 56 [some (vr 1), some (vi b), a2, some (vr p)] [vi 1] σ' (3, 178) := ⟨0, Or.inl rfl, hL, hk, by omega, w56⟩
  have g4 := hL.1
  clear h hw w56
  refine go_X11_alarm (ct := fun p => p == 56) 20 ?_
  simp only [oI, oL, oR, o1, lI, lL, lR, popN, catS, gv, stL, stL2, swt, cnd, spObj, List.getElem?_cons_zero, List.getElem?_cons_succ, List.getD_cons_zero, List.getD_cons_succ, List.set_cons_zero, List.set_cons_succ, List.nil_append, List.cons_append, Option.toList, Bool.or_false, Bool.false_or, Bool.or_true, Bool.true_or, Nat.reduceBEq, Nat.reduceAdd, Nat.reduceLT, Nat.reduceLeDiff, Int.reduceAdd, Int.reduceToNat, true_and, and_true, Fin.isValue, Fin.val_zero, Fin.val_one, Fin.val_two, Fin.reduceFinMk, eq_self, Int.reduceNeg, imp_self, Nat.reduceMul, Nat.le_refl, not_true_eq_false, not_false_eq_true, List.getElem?_nil, reduceCtorEq, true_or, or_true, Classical.not_not, implies_true, or_self, wI_0, wI_1, wI_m1, b2i_w, b2i_eq0, b2i_eq1, b2i_bool, nor_self, nx_pI, kd_pI, ln_pI, fI_pI, fL_pI, fR_pI, aI_pI, aL_pI, aR_pI, nx_pL, kd_pL, ln_pL, fI_pL, fL_pL, fR_pL, aI_pL, aL_pL, aR_pL, nx_pR, kd_pR, ln_pR, fI_pR, fL_pR, fR_pR, aI_pR, aL_pR, aR_pR, nx_qI, kd_qI, ln_qI, fI_qI, fL_qI, fR_qI, aI_qI, aL_qI, aR_qI, nx_qL, kd_qL, ln_qL, fI_qL, fL_qL, fR_qL, aI_qL, aL_qL, aR_qL, nx_qR, kd_qR, ln_qR, fI_qR, fL_qR, fR_qR, aI_qR, aL_qR, aR_qR, nx_mk, kd_mk, ln_mk, fI_mk, fL_mk, fR_mk, aI_mk, aL_mk, aR_mk, false_and, and_false, if_false, if_true, and_self, Int.reduceEq, Nat.reduceEqDiff, ite_self, MLay_pI, MLay_pL, MLay_qI, MLay_qL, ev_X11_alarm_45, ev_X11_alarm_46, ev_X11_alarm_49, ev_X11_alarm_52, ev_X11_alarm_53, xt_X11_alarm, xf_X11_alarm, us_X11_boxOf, us_Jx4a65c_size_8abf5, us_X11_today, us_X0_init, us_X11_answerCall, us_Jx4a65c_add_9ea2d, hC.eqs, g4]
  repeat' (first | intro z | apply And.intro)
  all_goals try omega
  all_goals try contradiction
  all_goals exact s1

set_option maxRecDepth 20000 in
theorem c_X11_alarm : Ct yX11_alarm cX11_alarm 4 ((some FieldType.int)) 9 3 178 sp_X11_alarm := by
  refine Ct.go (M := M_X11_alarm) mm_X11_alarm fun av σ Q h0 => ?_
  obtain ⟨this, b, rfl, hk, h⟩ := el_X11_alarm h0
  clear h0
  refine ⟨Nat.le_of_ble_eq_true rfl, ?_⟩
  show Go M_X11_alarm Q 0 [some (vr this), some (vi b), none, none] [] σ (0, 0)
  obtain ⟨rfl, hC, hb, τ, ⟨hK, hG, hA, hB, hI, hW, hAB⟩, ⟨hnw, h99⟩, ⟨hsm, hov⟩, h1, h2⟩ := h
  have hns := hI.now_s
  have hals := hI.alarms_s
  have hL := hB.1
  have hL28 := hA.1
  have hk28 := hA.1.1
  have hsz := hB.2.1
  have hsa := hA.2.1
  by_cases c0 : 0 ≤ b ∧ b < fI τ 1302 61
  · have e : (if 0 ≤ b ∧ b < fI τ 1302 61 then lat σ 3 b else 0) = lat σ 3 b := if_pos c0
    have hbx := hB.2.2 b c0.1 c0.2
    have hkb := hB.k c0.1 c0.2
    have hp0 : ¬ lat σ 3 b = 0 := by have := hbx.1; omega
    by_cases c : fI τ 1371 61 = 100
    · have h2 := h2 (fun z => z.2 c)
      clear h1 hK hG hA hB hW hAB
      refine go_X11_alarm (ct := fun p => p == 27) 60 ?_
      simp only [oI, oL, oR, o1, lI, lL, lR, popN, catS, gv, stL, stL2, swt, cnd, spObj, List.getElem?_cons_zero, List.getElem?_cons_succ, List.getD_cons_zero, List.getD_cons_succ, List.set_cons_zero, List.set_cons_succ, List.nil_append, List.cons_append, Option.toList, Bool.or_false, Bool.false_or, Bool.or_true, Bool.true_or, Nat.reduceBEq, Nat.reduceAdd, Nat.reduceLT, Nat.reduceLeDiff, Int.reduceAdd, Int.reduceToNat, true_and, and_true, Fin.isValue, Fin.val_zero, Fin.val_one, Fin.val_two, Fin.reduceFinMk, eq_self, Int.reduceNeg, imp_self, Nat.reduceMul, Nat.le_refl, not_true_eq_false, not_false_eq_true, List.getElem?_nil, reduceCtorEq, true_or, or_true, Classical.not_not, implies_true, or_self, wI_0, wI_1, wI_m1, b2i_w, b2i_eq0, b2i_eq1, b2i_bool, nor_self, nx_pI, kd_pI, ln_pI, fI_pI, fL_pI, fR_pI, aI_pI, aL_pI, aR_pI, nx_pL, kd_pL, ln_pL, fI_pL, fL_pL, fR_pL, aI_pL, aL_pL, aR_pL, nx_pR, kd_pR, ln_pR, fI_pR, fL_pR, fR_pR, aI_pR, aL_pR, aR_pR, nx_qI, kd_qI, ln_qI, fI_qI, fL_qI, fR_qI, aI_qI, aL_qI, aR_qI, nx_qL, kd_qL, ln_qL, fI_qL, fL_qL, fR_qL, aI_qL, aL_qL, aR_qL, nx_qR, kd_qR, ln_qR, fI_qR, fL_qR, fR_qR, aI_qR, aL_qR, aR_qR, nx_mk, kd_mk, ln_mk, fI_mk, fL_mk, fR_mk, aI_mk, aL_mk, aR_mk, false_and, and_false, if_false, if_true, and_self, Int.reduceEq, Nat.reduceEqDiff, ite_self, MLay_pI, MLay_pL, MLay_qI, MLay_qL, ev_X11_alarm_0, ev_X11_alarm_1, ev_X11_alarm_2, ev_X11_alarm_5, ev_X11_alarm_6, ev_X11_alarm_7, ev_X11_alarm_10, ev_X11_alarm_11, ev_X11_alarm_14, ev_X11_alarm_17, ev_X11_alarm_20, ev_X11_alarm_22, ev_X11_alarm_25, ev_X11_alarm_26, xt_X11_alarm, xf_X11_alarm, us_X11_boxOf, us_Jx4a65c_size_8abf5, us_X11_today, us_X0_init, us_X11_answerCall, us_Jx4a65c_add_9ea2d, hC, hC.eqs, hL, hk28, hb, hsz, hsa, e, hp0, c]
      try simp (disch := omega) only [wI_id, dv_nn, rm_nn]
      repeat' (first | intro z | apply And.intro)
      all_goals try omega
      all_goals try contradiction
      all_goals exact h2
    · have h1 := h1 ⟨c0, c⟩
      refine Go.wf fun hw => ?_
      have hnx := hw.1
      have z := cAlm_kp hw (lat σ 3 b) (fI τ 1301 61 / 86400)
      have hq : 120 < nx σ := by have := (hw.2.1 (lat σ 3 b) (by rw [hkb]; decide)).2.1; have := hbx.1; omega
      have C1 := hC.kp z (fun q => q) (fun q => q)
      have K1 := hK.kp hC z
      have G1 := hG.kp hC z (fun q => q) (fun q => q)
      have B1 := hB.kp z (fun q => q) (fun q => q)
      have L3 := (hB.1.kp z (fun q => q) (fun q => q)).2.2
      have A1 := hA.kp hC z (fun q => q) (fun q => q) (fun a _ _ => L3 _)
      have k0 : kd (cAlm (mk σ 1 0) (nx σ) (lat σ 3 b) (fI τ 1301 61 / 86400)) 1 = 12 := by simp only [C1.eqs]
      have kp : kd (cAlm (mk σ 1 0) (nx σ) (lat σ 3 b) (fI τ 1301 61 / 86400)) (nx σ) = 1 := by unfold cAlm; simp only [kd_pI, kd_pR, kd_mk, nx_mk, if_true]; rw [if_neg (by omega)]
      have kp1 : kd (cAlm (mk σ 1 0) (nx σ) (lat σ 3 b) (fI τ 1301 61 / 86400)) (nx σ + 1) = 101 ∧ ln (cAlm (mk σ 1 0) (nx σ) (lat σ 3 b) (fI τ 1301 61 / 86400)) (nx σ + 1) = 20 := by unfold cAlm; simp only [kd_pI, kd_pR, kd_mk, ln_pI, ln_pR, ln_mk, nx_mk, if_true, and_self]
      have f1 : fR (cAlm (mk σ 1 0) (nx σ) (lat σ 3 b) (fI τ 1301 61 / 86400)) 100 (nx σ) = lat σ 3 b := by unfold cAlm; simp only [fR_pI, fR_pR, and_self, if_true]
      have f2 : fR (cAlm (mk σ 1 0) (nx σ) (lat σ 3 b) (fI τ 1301 61 / 86400)) 102 (nx σ) = nx σ + 1 := by unfold cAlm; simp only [fR_pI, fR_pR, nx_mk, Nat.reduceEqDiff, false_and, and_self, if_true, if_false]
      have f3 : fI (cAlm (mk σ 1 0) (nx σ) (lat σ 3 b) (fI τ 1301 61 / 86400)) 103 (nx σ) = 0 := by unfold cAlm; simp only [fI_pI, fI_pR, Nat.reduceEqDiff, false_and, and_self, if_true, if_false]
      have f5 : ∀ k, ¬ k = nx σ → fI (cAlm (mk σ 1 0) (nx σ) (lat σ 3 b) (fI τ 1301 61 / 86400)) 103 k = fI σ 103 k := fun k hk9 => by unfold cAlm; simp only [fI_pI, fI_pR, fI_mk, Nat.reduceEqDiff, false_and, if_false, true_and, hk9]
      have f4 : fI (cAlm (mk σ 1 0) (nx σ) (lat σ 3 b) (fI τ 1301 61 / 86400)) 104 (nx σ) = 1 := by unfold cAlm; simp only [fI_pI, fI_pR, Nat.reduceEqDiff, false_and, and_self, if_true, if_false]
      have nw : fI (cAlm (mk σ 1 0) (nx σ) (lat σ 3 b) (fI τ 1301 61 / 86400)) 1210 1 = fI τ 1301 61 := by rw [z.i (by simp only [hC.eqs]; decide) (by decide)]; exact hnw
      have w42 : Go M_X11_alarm Q 42 [some (vr 1), some (vi b), some (vr (lat σ 3 b)), some (vr (nx σ))] [vr (nx σ), vr 1] (cAlm (mk σ 1 0) (nx σ) (lat σ 3 b) (fI τ 1301 61 / 86400)) (2, 28) := by
        have hbs := hI.boxes_s
        have hI2 : MI (pI τ 1300 61 0) := MI_fre hI (by decide)
        have HI : MI (mRaise τ b) := MI_alarms_p (MI_calls_q (MI_alarmDay_q (MI_alarmBox_q hI2 (by omega)) (by omega)) (by omega)) (by omega)
        have HK : DKR (cAlm (mk σ 1 0) (nx σ) (lat σ 3 b) (fI τ 1301 61 / 86400)) (mRaise τ b) := K1.cg rfl (fun r q1 q2 => by
          funext j
          exact mRaise_a (Or.inr (by omega)))
        have HG := BG_raise (b := b) G1
        have HB := BX_raise (b := b) B1
        have es : aI (mRaise τ b) 115 (fI τ 1371 61) = 0 := by rw [mRaise_a (Or.inr (by decide))]; exact hsm
        have hS : AlS (cAlm (mk σ 1 0) (nx σ) (lat σ 3 b) (fI τ 1301 61 / 86400)) (mRaise τ b) (fI τ 1371 61) (nx σ) := ⟨hq, kp, f2, kp1.1, kp1.2, by rw [f3, es], fun i i0 i1 => by rw [es] at i1; omega, fun k hk9 => by rw [f5 k hk9, h99 k]; unfold mRaise; simp only [fI_pI, fI_qI, Nat.reduceEqDiff, false_and, if_false]⟩
        have hm : aI (mRaise τ b) 115 (fI τ 1371 61) ≤ mTo (mRaise τ b) (fI τ 1371 61) := by rw [es]; exact (hwM_in _ _).1
        have eb : aI (mRaise τ b) 109 (fI τ 1371 61) = b := by unfold mRaise; rw [aI_pI, aI_qI, if_neg (by omega), aI_qI, if_neg (by omega), aI_qI, if_pos ⟨rfl, rfl⟩]
        have ec : aI (mRaise τ b) 111 (fI τ 1371 61) = 1 := by unfold mRaise; rw [aI_pI, aI_qI, if_pos ⟨rfl, rfl⟩]
        have HX := HB.2.2 b c0.1 c0.2
        have hr := (mRate_raise hI hW hov b b (fI τ 1301 61 / 86400)).symm
        have hn100 : 0 ≤ fI τ 1371 61 ∧ fI τ 1371 61 < 100 := by omega
        have eL := L3 b
        clear h2 hK hG hA hB hw z hI2 hbx hk hC hL hL28 hsz hsa hk28 hkb L3
        generalize cAlm (mk σ 1 0) (nx σ) (lat σ 3 b) (fI τ 1301 61 / 86400) = ρ at *
        generalize lat σ 3 b = bp at *
        generalize nx σ = p at *
        have w45 : ∀ σ1, BG σ1 (mAns (mRaise τ b) (fI τ 1371 61)) → AlS σ1 (mAns (mRaise τ b) (fI τ 1371 61)) (fI τ 1371 61) p → Fz ansF (ansA p) noR ρ σ1 → Go M_X11_alarm Q 45 [some (vr 1), some (vi b), some (vr bp), some (vr p)] [] σ1 (2, 28) := fun σ1 g1 g2 z3 => by
          refine Go.wf fun hw1 => ?_
          exact alm_45 hw1 (C1.fz z3 (by decide)) (A1.1.fz z3 (by decide) (by decide) (by decide)) (by rw [z3.fI (by decide)]; exact A1.2.1) hn100 (by rw [z3.kd]; exact kp) (fun σ' a l => h1 σ1 σ' hw1 g1 g2 z3 a l)
        clear h1
        refine go_X11_alarm (ct := fun p => p == 45) 20 ?_
        simp only [oI, oL, oR, o1, lI, lL, lR, popN, catS, gv, stL, stL2, swt, cnd, spObj, List.getElem?_cons_zero, List.getElem?_cons_succ, List.getD_cons_zero, List.getD_cons_succ, List.set_cons_zero, List.set_cons_succ, List.nil_append, List.cons_append, Option.toList, Bool.or_false, Bool.false_or, Bool.or_true, Bool.true_or, Nat.reduceBEq, Nat.reduceAdd, Nat.reduceLT, Nat.reduceLeDiff, Int.reduceAdd, Int.reduceToNat, true_and, and_true, Fin.isValue, Fin.val_zero, Fin.val_one, Fin.val_two, Fin.reduceFinMk, eq_self, Int.reduceNeg, imp_self, Nat.reduceMul, Nat.le_refl, not_true_eq_false, not_false_eq_true, List.getElem?_nil, reduceCtorEq, true_or, or_true, Classical.not_not, implies_true, or_self, wI_0, wI_1, wI_m1, b2i_w, b2i_eq0, b2i_eq1, b2i_bool, nor_self, nx_pI, kd_pI, ln_pI, fI_pI, fL_pI, fR_pI, aI_pI, aL_pI, aR_pI, nx_pL, kd_pL, ln_pL, fI_pL, fL_pL, fR_pL, aI_pL, aL_pL, aR_pL, nx_pR, kd_pR, ln_pR, fI_pR, fL_pR, fR_pR, aI_pR, aL_pR, aR_pR, nx_qI, kd_qI, ln_qI, fI_qI, fL_qI, fR_qI, aI_qI, aL_qI, aR_qI, nx_qL, kd_qL, ln_qL, fI_qL, fL_qL, fR_qL, aI_qL, aL_qL, aR_qL, nx_qR, kd_qR, ln_qR, fI_qR, fL_qR, fR_qR, aI_qR, aL_qR, aR_qR, nx_mk, kd_mk, ln_mk, fI_mk, fL_mk, fR_mk, aI_mk, aL_mk, aR_mk, false_and, and_false, if_false, if_true, and_self, Int.reduceEq, Nat.reduceEqDiff, ite_self, MLay_pI, MLay_pL, MLay_qI, MLay_qL, ev_X11_alarm_42, xt_X11_alarm, xf_X11_alarm, us_X11_boxOf, us_Jx4a65c_size_8abf5, us_X11_today, us_X0_init, us_X11_answerCall, us_Jx4a65c_add_9ea2d, k0, C1]
        repeat' (first | intro z | apply And.intro)
        all_goals try omega
        all_goals try contradiction
        all_goals exact ⟨mRaise τ b, τ, fI τ 1371 61, b, ⟨HK, HG, HI, hn100, hS, hm⟩, ⟨f1.trans eL.symm, eb, f4.trans ec.symm, HX⟩, nw, ⟨A1, B1, hI, hW, hAB, c0, hr⟩, w45⟩
      have hz1 : ¬ (1 : Int) = nx σ := by omega
      clear h1 h2 hK hG hA hB hW hAB hw z C1 K1 G1 B1 L3 A1 k0 kp kp1 f1 f2 f3 f4 nw hbx
      refine go_X11_alarm (ct := fun p => p == 25 || p == 42) 60 ?_
      simp only [oI, oL, oR, o1, lI, lL, lR, popN, catS, gv, stL, stL2, swt, cnd, spObj, List.getElem?_cons_zero, List.getElem?_cons_succ, List.getD_cons_zero, List.getD_cons_succ, List.set_cons_zero, List.set_cons_succ, List.nil_append, List.cons_append, Option.toList, Bool.or_false, Bool.false_or, Bool.or_true, Bool.true_or, Nat.reduceBEq, Nat.reduceAdd, Nat.reduceLT, Nat.reduceLeDiff, Int.reduceAdd, Int.reduceToNat, true_and, and_true, Fin.isValue, Fin.val_zero, Fin.val_one, Fin.val_two, Fin.reduceFinMk, eq_self, Int.reduceNeg, imp_self, Nat.reduceMul, Nat.le_refl, not_true_eq_false, not_false_eq_true, List.getElem?_nil, reduceCtorEq, true_or, or_true, Classical.not_not, implies_true, or_self, wI_0, wI_1, wI_m1, b2i_w, b2i_eq0, b2i_eq1, b2i_bool, nor_self, nx_pI, kd_pI, ln_pI, fI_pI, fL_pI, fR_pI, aI_pI, aL_pI, aR_pI, nx_pL, kd_pL, ln_pL, fI_pL, fL_pL, fR_pL, aI_pL, aL_pL, aR_pL, nx_pR, kd_pR, ln_pR, fI_pR, fL_pR, fR_pR, aI_pR, aL_pR, aR_pR, nx_qI, kd_qI, ln_qI, fI_qI, fL_qI, fR_qI, aI_qI, aL_qI, aR_qI, nx_qL, kd_qL, ln_qL, fI_qL, fL_qL, fR_qL, aI_qL, aL_qL, aR_qL, nx_qR, kd_qR, ln_qR, fI_qR, fL_qR, fR_qR, aI_qR, aL_qR, aR_qR, nx_mk, kd_mk, ln_mk, fI_mk, fL_mk, fR_mk, aI_mk, aL_mk, aR_mk, false_and, and_false, if_false, if_true, and_self, Int.reduceEq, Nat.reduceEqDiff, ite_self, MLay_pI, MLay_pL, MLay_qI, MLay_qL, ev_X11_alarm_0, ev_X11_alarm_1, ev_X11_alarm_2, ev_X11_alarm_5, ev_X11_alarm_6, ev_X11_alarm_7, ev_X11_alarm_10, ev_X11_alarm_11, ev_X11_alarm_14, ev_X11_alarm_17, ev_X11_alarm_20, ev_X11_alarm_22, ev_X11_alarm_25, ev_X11_alarm_26, ev_X11_alarm_27, ev_X11_alarm_30, ev_X11_alarm_31, ev_X11_alarm_32, ev_X11_alarm_33, ev_X11_alarm_36, ev_X11_alarm_39, ev_X11_alarm_40, ev_X11_alarm_41, xt_X11_alarm, xf_X11_alarm, us_X11_boxOf, us_Jx4a65c_size_8abf5, us_X11_today, us_X0_init, us_X11_answerCall, us_Jx4a65c_add_9ea2d, hC, hC.eqs, hL, hk28, hb, hsz, hsa, e, hp0, hnw, hns]
      try simp (disch := omega) only [wI_id, dv_nn, rm_nn]
      repeat' (first | intro z | apply And.intro)
      all_goals try omega
      all_goals try contradiction
      all_goals first | exact w42 | exact if_neg hz1
  · have e : (if 0 ≤ b ∧ b < fI τ 1302 61 then lat σ 3 b else 0) = 0 := if_neg c0
    have h2 := h2 (fun z => c0 z.1)
    clear h1 hK hG hA hB hW hAB
    refine go_X11_alarm (ct := fun p => p == 10) 60 ?_
    simp only [oI, oL, oR, o1, lI, lL, lR, popN, catS, gv, stL, stL2, swt, cnd, spObj, List.getElem?_cons_zero, List.getElem?_cons_succ, List.getD_cons_zero, List.getD_cons_succ, List.set_cons_zero, List.set_cons_succ, List.nil_append, List.cons_append, Option.toList, Bool.or_false, Bool.false_or, Bool.or_true, Bool.true_or, Nat.reduceBEq, Nat.reduceAdd, Nat.reduceLT, Nat.reduceLeDiff, Int.reduceAdd, Int.reduceToNat, true_and, and_true, Fin.isValue, Fin.val_zero, Fin.val_one, Fin.val_two, Fin.reduceFinMk, eq_self, Int.reduceNeg, imp_self, Nat.reduceMul, Nat.le_refl, not_true_eq_false, not_false_eq_true, List.getElem?_nil, reduceCtorEq, true_or, or_true, Classical.not_not, implies_true, or_self, wI_0, wI_1, wI_m1, b2i_w, b2i_eq0, b2i_eq1, b2i_bool, nor_self, nx_pI, kd_pI, ln_pI, fI_pI, fL_pI, fR_pI, aI_pI, aL_pI, aR_pI, nx_pL, kd_pL, ln_pL, fI_pL, fL_pL, fR_pL, aI_pL, aL_pL, aR_pL, nx_pR, kd_pR, ln_pR, fI_pR, fL_pR, fR_pR, aI_pR, aL_pR, aR_pR, nx_qI, kd_qI, ln_qI, fI_qI, fL_qI, fR_qI, aI_qI, aL_qI, aR_qI, nx_qL, kd_qL, ln_qL, fI_qL, fL_qL, fR_qL, aI_qL, aL_qL, aR_qL, nx_qR, kd_qR, ln_qR, fI_qR, fL_qR, fR_qR, aI_qR, aL_qR, aR_qR, nx_mk, kd_mk, ln_mk, fI_mk, fL_mk, fR_mk, aI_mk, aL_mk, aR_mk, false_and, and_false, if_false, if_true, and_self, Int.reduceEq, Nat.reduceEqDiff, ite_self, MLay_pI, MLay_pL, MLay_qI, MLay_qL, ev_X11_alarm_0, ev_X11_alarm_1, ev_X11_alarm_2, ev_X11_alarm_5, ev_X11_alarm_6, ev_X11_alarm_7, ev_X11_alarm_10, ev_X11_alarm_11, ev_X11_alarm_14, ev_X11_alarm_17, ev_X11_alarm_20, ev_X11_alarm_22, ev_X11_alarm_25, ev_X11_alarm_26, xt_X11_alarm, xf_X11_alarm, us_X11_boxOf, us_Jx4a65c_size_8abf5, us_X11_today, us_X0_init, us_X11_answerCall, us_Jx4a65c_add_9ea2d, hC, hC.eqs, hL, hb, hsz, e]
    try simp (disch := omega) only [wI_id, dv_nn, rm_nn]
    repeat' (first | intro z | apply And.intro)
    all_goals try omega
    all_goals try contradiction
    all_goals exact h2
