/-! the class: sending, coming home -/

theorem LOk.fz {fs : List Nat} {ars als : Int → Prop} {σ σ' : Hp} {p : Int} {ci : Nat} (h : LOk σ p ci) (z : Fz fs ars als σ σ') (h1 : 1401 ∉ fs) (h2 : 1402 ∉ fs) (h3 : 3000 ∉ fs) : LOk σ' p ci := by
  unfold LOk at *
  rw [z.kd, z.ln, z.aR, z.fI h2, z.fR h1, z.fR h3]
  exact h
theorem lat_fz {fs : List Nat} {ars als : Int → Prop} {σ σ' : Hp} (z : Fz fs ars als σ σ') (h1 : 1401 ∉ fs) : lat σ' = lat σ := by
  funext p i
  unfold lat
  rw [z.aR, z.fR h1]
theorem BG.le {σ τ : Hp} (h : BG σ τ) : ∃ ci, LOk σ 18 ci := ⟨5, h.1⟩
theorem BG.way {σ τ : Hp} (h : BG σ τ) (hI : MI τ) : ∀ u, (0 ≤ aI σ 16 u ∧ aI σ 16 u ≤ 99) ∧ (0 ≤ aI σ 17 u ∧ aI σ 17 u ≤ 99) := fun u => by
  have h1 := h.2.2.2.2.2.1 u
  have h2 := hI.houseX_ u
  have h3 := hI.houseY_ u
  omega
theorem BG.cWay {σ τ : Hp} (h : BG σ τ) {p b : Int} (hx : fI σ 305 p = aI τ 65 b) (hy : fI σ 306 p = aI τ 66 b) (u : Int) : cWay σ u p = mWay τ u b := by
  have h1 := h.2.2.2.2.2.1 u
  unfold Jvm.Pilot.CAlarmBoxesLaw_law_r7510_e02c0f.cWay mWay
  rw [h1.1, h1.2, hx, hy]
theorem cWay_603 (σ : Hp) (k v u p : Int) : cWay (pI σ 603 k v) u p = cWay σ u p := by
  unfold cWay
  simp only [fI_pI, aI_pI, Nat.reduceEqDiff, false_and, if_false]
theorem mWay_in' {σ : Hp} (h : MI σ) (a b : Int) : 0 ≤ mWay σ a b ∧ mWay σ a b ≤ 198 := mWay_in h a b

def sp_X3_nearestIn : Sp := fun av σ Q => oR av fun this av => oI av fun kn av => oR av fun p av => av = [] ∧ kd σ this = 4 ∧ (this = 15 ∧ CLay σ ∧ (0 ≤ kn ∧ kn ≤ 1) ∧ kd σ p = 3 ∧ ∃ τ b, BG σ τ ∧ MI τ ∧ fI σ 305 p = aI τ 65 b ∧ fI σ 306 p = aI τ 66 b ∧ Q (some (vi (mBest τ kn b (fI τ 1335 61).toNat))) σ)
theorem us_X3_nearestIn (this : Int) (kn : Int) (p : Int) (σ : Hp) (Q : Option AV → Hp → Prop) : sp_X3_nearestIn [vr this, vi kn, vr p] σ Q = (kd σ this = 4 ∧ (this = 15 ∧ CLay σ ∧ (0 ≤ kn ∧ kn ≤ 1) ∧ kd σ p = 3 ∧ ∃ τ b, BG σ τ ∧ MI τ ∧ fI σ 305 p = aI τ 65 b ∧ fI σ 306 p = aI τ 66 b ∧ Q (some (vi (mBest τ kn b (fI τ 1335 61).toNat))) σ)) := propext ⟨fun h => h.2, fun h => ⟨rfl, h⟩⟩
theorem el_X3_nearestIn {av : List AV} {σ : Hp} {Q : Option AV → Hp → Prop} (h : sp_X3_nearestIn av σ Q) : ∃ (this : Int) (kn : Int) (p : Int), av = [vr this, vi kn, vr p] ∧ (kd σ this = 4 ∧ (this = 15 ∧ CLay σ ∧ (0 ≤ kn ∧ kn ≤ 1) ∧ kd σ p = 3 ∧ ∃ τ b, BG σ τ ∧ MI τ ∧ fI σ 305 p = aI τ 65 b ∧ fI σ 306 p = aI τ 66 b ∧ Q (some (vi (mBest τ kn b (fI τ 1335 61).toNat))) σ)) := by
  obtain ⟨this, a0, rfl, h0⟩ := oR_s h
  obtain ⟨kn, a1, rfl, h1⟩ := oI_s h0
  obtain ⟨p, a2, rfl, h2⟩ := oR_s h1
  obtain ⟨rfl, hz⟩ := h2
  exact ⟨this, kn, p, rfl, hz⟩
theorem rc_X3_nearestIn : ∀ (av : List AV) (σ : Hp) (Q : Option AV → Hp → Prop), sp_X3_nearestIn av σ Q → ∃ r tl, av = vr r :: tl ∧ kd σ r = 3 + 1 := fun av σ Q h => by
  obtain ⟨this, kn, p, rfl, hz, -⟩ := el_X3_nearestIn h
  exact ⟨this, _, rfl, hz⟩

def tb_X3_nearestIn : Tab := [(0, .iconst (-1), 1, (0, 0, 0, 0)), (1, .istore_n 3, 1, (0, 0, 0, 0)), (2, .sipush 200, 3, (0, 0, 0, 0)), (5, .istore 4, 2, (0, 0, 0, 0)), (7, .iconst 0, 1, (0, 0, 0, 0)), (8, .istore 5, 2, (0, 0, 0, 0)), (10, .iload 5, 2, (0, 0, 0, 0)), (12, .aload_n 0, 1, (0, 0, 0, 0)), (13, .getfield 21, 3, (4, 402, 2, 0)), (16, .invokevirtual 35, 3, (0, 0, 0, 0)), (19, .if_icmp .ge 58, 3, (0, 0, 0, 0)), (22, .aload_n 0, 1, (0, 0, 0, 0)), (23, .getfield 21, 3, (4, 402, 2, 0)), (26, .iload 5, 2, (0, 0, 0, 0)), (28, .invokevirtual 48, 3, (0, 0, 0, 0)), (31, .checkcast 39, 3, (6, 0, 0, 0)), (34, .astore 6, 2, (0, 0, 0, 0)), (36, .aload_n 0, 1, (0, 0, 0, 0)), (37, .aload 6, 2, (0, 0, 0, 0)), (39, .getfield 84, 3, (6, 602, 0, 0)), (42, .aload_n 2, 1, (0, 0, 0, 0)), (43, .invokevirtual 87, 3, (0, 0, 0, 0)), (46, .istore 7, 2, (0, 0, 0, 0)), (48, .aload 6, 2, (0, 0, 0, 0)), (50, .iload_n 1, 1, (0, 0, 0, 0)), (51, .invokevirtual 97, 3, (0, 0, 0, 0)), (54, .ifCond .eq 17, 3, (0, 0, 0, 0)), (57, .iload 7, 2, (0, 0, 0, 0)), (59, .iload 4, 2, (0, 0, 0, 0)), (61, .if_icmp .ge 10, 3, (0, 0, 0, 0)), (64, .iload 7, 2, (0, 0, 0, 0)), (66, .istore 4, 2, (0, 0, 0, 0)), (68, .iload 5, 2, (0, 0, 0, 0)), (70, .istore_n 3, 1, (0, 0, 0, 0)), (71, .iinc 5 1, 3, (0, 0, 0, 0)), (74, .goto (-64), 3, (0, 0, 0, 0)), (77, .iload_n 3, 1, (0, 0, 0, 0)), (78, .ireturn, 1, (0, 0, 0, 0))]
set_option maxRecDepth 100000 in
theorem tk_X3_nearestIn : TOK RX3 false cX3_nearestIn tb_X3_nearestIn := chkT_ok ft_X3 (by decide +kernel)
theorem rw_X3_696 : Row RX3 (.invokevirtual 87) 3 3 0 0 2 sp_X3_wayTo := row_V (n := 2) (ci := 3) c_X3_wayTo ⟨TBL_in 1237 (by decide +kernel) rfl, TBL_in 1240 (by decide +kernel) rfl, TBL_in 117 (by decide +kernel) rfl, by decide +kernel, by decide⟩ (by decide) rfl (TBL_in 1238 (by decide +kernel) rfl) (TBL_in 1239 (by decide +kernel) rfl) rc_X3_wayTo
theorem rw_X3_776 : Row RX3 (.invokevirtual 97) 3 2 0 0 1 sp_X5_isIn := row_V (n := 1) (ci := 5) c_X5_isIn ⟨TBL_in 1244 (by decide +kernel) rfl, TBL_in 1247 (by decide +kernel) rfl, TBL_in 132 (by decide +kernel) rfl, by decide +kernel, by decide⟩ (by decide) rfl (TBL_in 1245 (by decide +kernel) rfl) (TBL_in 1246 (by decide +kernel) rfl) rc_X5_isIn
def mt_X3_nearestIn : List (Nat × Mt) := [(280, 1, 0, 0, 1, sp_Jx4a65c_size_8abf5), (384, 2, 0, 0, 3, sp_Jx4a65c_get_915e3), (696, 3, 0, 0, 2, sp_X3_wayTo), (776, 2, 0, 0, 1, sp_X5_isIn)]
theorem em_X3_nearestIn : mt_X3_nearestIn.lookup 280 = some (1, 0, 0, 1, sp_Jx4a65c_size_8abf5) ∧ mt_X3_nearestIn.lookup 384 = some (2, 0, 0, 3, sp_Jx4a65c_get_915e3) ∧ mt_X3_nearestIn.lookup 696 = some (3, 0, 0, 2, sp_X3_wayTo) ∧ mt_X3_nearestIn.lookup 776 = some (2, 0, 0, 1, sp_X5_isIn) := ⟨rfl, rfl, rfl, rfl⟩
theorem mk_X3_nearestIn : MOK RX3 mt_X3_nearestIn := by
  intro q hq
  simp only [mt_X3_nearestIn, List.mem_cons, List.not_mem_nil, or_false] at hq
  rcases hq with rfl | rfl | rfl | rfl
  · exact rw_X3_280
  · exact rw_X3_384
  · exact rw_X3_696
  · exact rw_X3_776
noncomputable def xe_X3_nearestIn (ct : Nat → Bool) (K : Kt) (R : Option AV → Hp → Prop) (n : Nat) : Kt := exS 8 4 0 0 1 tb_X3_nearestIn mt_X3_nearestIn ct K R n
noncomputable def xk_X3_nearestIn (ct : Nat → Bool) (K : Kt) (R : Option AV → Hp → Prop) (n : Nat) : Kt := exkS 8 4 0 0 1 tb_X3_nearestIn mt_X3_nearestIn ct K R n
theorem xt_X3_nearestIn {ct : Nat → Bool} {K : Kt} {R : Option AV → Hp → Prop} {n pc : Nat} {ls : List (Option AV)} {st : List AV} {σ : Hp} {k : Nat × Nat} (h : ct pc = true) : xk_X3_nearestIn ct K R n pc ls st σ k = K pc ls st σ k := by unfold xk_X3_nearestIn exkS; rw [h]
theorem xf_X3_nearestIn {ct : Nat → Bool} {K : Kt} {R : Option AV → Hp → Prop} {n pc : Nat} {ls : List (Option AV)} {st : List AV} {σ : Hp} {k : Nat × Nat} (h : ct pc = false) : xk_X3_nearestIn ct K R n pc ls st σ k = xe_X3_nearestIn ct K R n pc ls st σ k := by unfold xk_X3_nearestIn exkS xe_X3_nearestIn; rw [h]
theorem ev_X3_nearestIn_0 {ct : Nat → Bool} {K : Kt} {R : Option AV → Hp → Prop} {n : Nat} {ls : List (Option AV)} {st : List AV} {σ : Hp} {k : Nat × Nat} : xe_X3_nearestIn ct K R (n + 1) 0 ls st σ k = (xk_X3_nearestIn ct K R n 1 ls (vi (-1) :: st) σ k) := exS_step.trans rfl
theorem ev_X3_nearestIn_1 {ct : Nat → Bool} {K : Kt} {R : Option AV → Hp → Prop} {n : Nat} {ls : List (Option AV)} {st : List AV} {σ : Hp} {k : Nat × Nat} : xe_X3_nearestIn ct K R (n + 1) 1 ls st σ k = (oI st fun x st => 3 < 8 ∧ xk_X3_nearestIn ct K R n 2 (stL ls 3 (vi x)) st σ k) := exS_step.trans rfl
theorem ev_X3_nearestIn_2 {ct : Nat → Bool} {K : Kt} {R : Option AV → Hp → Prop} {n : Nat} {ls : List (Option AV)} {st : List AV} {σ : Hp} {k : Nat × Nat} : xe_X3_nearestIn ct K R (n + 1) 2 ls st σ k = (xk_X3_nearestIn ct K R n 5 ls (vi (200) :: st) σ k) := exS_step.trans rfl
theorem ev_X3_nearestIn_5 {ct : Nat → Bool} {K : Kt} {R : Option AV → Hp → Prop} {n : Nat} {ls : List (Option AV)} {st : List AV} {σ : Hp} {k : Nat × Nat} : xe_X3_nearestIn ct K R (n + 1) 5 ls st σ k = (oI st fun x st => 4 < 8 ∧ xk_X3_nearestIn ct K R n 7 (stL ls 4 (vi x)) st σ k) := exS_step.trans rfl
theorem ev_X3_nearestIn_7 {ct : Nat → Bool} {K : Kt} {R : Option AV → Hp → Prop} {n : Nat} {ls : List (Option AV)} {st : List AV} {σ : Hp} {k : Nat × Nat} : xe_X3_nearestIn ct K R (n + 1) 7 ls st σ k = (xk_X3_nearestIn ct K R n 8 ls (vi (0) :: st) σ k) := exS_step.trans rfl
theorem ev_X3_nearestIn_8 {ct : Nat → Bool} {K : Kt} {R : Option AV → Hp → Prop} {n : Nat} {ls : List (Option AV)} {st : List AV} {σ : Hp} {k : Nat × Nat} : xe_X3_nearestIn ct K R (n + 1) 8 ls st σ k = (oI st fun x st => 5 < 8 ∧ xk_X3_nearestIn ct K R n 10 (stL ls 5 (vi x)) st σ k) := exS_step.trans rfl
theorem ev_X3_nearestIn_10 {ct : Nat → Bool} {K : Kt} {R : Option AV → Hp → Prop} {n : Nat} {ls : List (Option AV)} {st : List AV} {σ : Hp} {k : Nat × Nat} : xe_X3_nearestIn ct K R (n + 1) 10 ls st σ k = (lI ls 5 fun x => xk_X3_nearestIn ct K R n 12 ls (vi x :: st) σ k) := exS_step.trans rfl
theorem ev_X3_nearestIn_12 {ct : Nat → Bool} {K : Kt} {R : Option AV → Hp → Prop} {n : Nat} {ls : List (Option AV)} {st : List AV} {σ : Hp} {k : Nat × Nat} : xe_X3_nearestIn ct K R (n + 1) 12 ls st σ k = (lR ls 0 fun x => xk_X3_nearestIn ct K R n 13 ls (vr x :: st) σ k) := exS_step.trans rfl
theorem ev_X3_nearestIn_13 {ct : Nat → Bool} {K : Kt} {R : Option AV → Hp → Prop} {n : Nat} {ls : List (Option AV)} {st : List AV} {σ : Hp} {k : Nat × Nat} : xe_X3_nearestIn ct K R (n + 1) 13 ls st σ k = (oR st fun x st => kd σ x = 4 ∧ xk_X3_nearestIn ct K R n 16 ls (vr (fR σ 402 x) :: st) σ k) := exS_step.trans rfl
theorem ev_X3_nearestIn_16 {ct : Nat → Bool} {K : Kt} {R : Option AV → Hp → Prop} {n : Nat} {ls : List (Option AV)} {st : List AV} {σ : Hp} {k : Nat × Nat} : xe_X3_nearestIn ct K R (n + 1) 16 ls st σ k = (popN 1 st [] fun av rest => (catS rest ≤ 8 ∧ 1 < 4 ∧ k.1 + 0 ≤ 0 ∧ k.2 + 0 ≤ 0) ∧ (sp_Jx4a65c_size_8abf5) av σ fun v σ' => xk_X3_nearestIn ct K R n 19 ls (v.toList ++ rest) σ' (k.1 + 0, k.2 + 0)) := exS_step.trans rfl
theorem ev_X3_nearestIn_19 {ct : Nat → Bool} {K : Kt} {R : Option AV → Hp → Prop} {n : Nat} {ls : List (Option AV)} {st : List AV} {σ : Hp} {k : Nat × Nat} : xe_X3_nearestIn ct K R (n + 1) 19 ls st σ k = (oI st fun y st => oI st fun x st => (wI y ≤ wI x → xk_X3_nearestIn ct K R n 77 ls st σ k) ∧ (¬ (wI y ≤ wI x) → xk_X3_nearestIn ct K R n 22 ls st σ k)) := exS_step.trans rfl
theorem ev_X3_nearestIn_22 {ct : Nat → Bool} {K : Kt} {R : Option AV → Hp → Prop} {n : Nat} {ls : List (Option AV)} {st : List AV} {σ : Hp} {k : Nat × Nat} : xe_X3_nearestIn ct K R (n + 1) 22 ls st σ k = (lR ls 0 fun x => xk_X3_nearestIn ct K R n 23 ls (vr x :: st) σ k) := exS_step.trans rfl
theorem ev_X3_nearestIn_23 {ct : Nat → Bool} {K : Kt} {R : Option AV → Hp → Prop} {n : Nat} {ls : List (Option AV)} {st : List AV} {σ : Hp} {k : Nat × Nat} : xe_X3_nearestIn ct K R (n + 1) 23 ls st σ k = (oR st fun x st => kd σ x = 4 ∧ xk_X3_nearestIn ct K R n 26 ls (vr (fR σ 402 x) :: st) σ k) := exS_step.trans rfl
theorem ev_X3_nearestIn_26 {ct : Nat → Bool} {K : Kt} {R : Option AV → Hp → Prop} {n : Nat} {ls : List (Option AV)} {st : List AV} {σ : Hp} {k : Nat × Nat} : xe_X3_nearestIn ct K R (n + 1) 26 ls st σ k = (lI ls 5 fun x => xk_X3_nearestIn ct K R n 28 ls (vi x :: st) σ k) := exS_step.trans rfl
theorem ev_X3_nearestIn_28 {ct : Nat → Bool} {K : Kt} {R : Option AV → Hp → Prop} {n : Nat} {ls : List (Option AV)} {st : List AV} {σ : Hp} {k : Nat × Nat} : xe_X3_nearestIn ct K R (n + 1) 28 ls st σ k = (popN 2 st [] fun av rest => (catS rest ≤ 8 ∧ 3 < 4 ∧ k.1 + 0 ≤ 0 ∧ k.2 + 0 ≤ 0) ∧ (sp_Jx4a65c_get_915e3) av σ fun v σ' => xk_X3_nearestIn ct K R n 31 ls (v.toList ++ rest) σ' (k.1 + 0, k.2 + 0)) := exS_step.trans rfl
theorem ev_X3_nearestIn_31 {ct : Nat → Bool} {K : Kt} {R : Option AV → Hp → Prop} {n : Nat} {ls : List (Option AV)} {st : List AV} {σ : Hp} {k : Nat × Nat} : xe_X3_nearestIn ct K R (n + 1) 31 ls st σ k = (oR st fun x st => kd σ x = 6 ∧ xk_X3_nearestIn ct K R n 34 ls (vr x :: st) σ k) := exS_step.trans rfl
theorem ev_X3_nearestIn_34 {ct : Nat → Bool} {K : Kt} {R : Option AV → Hp → Prop} {n : Nat} {ls : List (Option AV)} {st : List AV} {σ : Hp} {k : Nat × Nat} : xe_X3_nearestIn ct K R (n + 1) 34 ls st σ k = (oR st fun x st => 6 < 8 ∧ xk_X3_nearestIn ct K R n 36 (stL ls 6 (vr x)) st σ k) := exS_step.trans rfl
theorem ev_X3_nearestIn_36 {ct : Nat → Bool} {K : Kt} {R : Option AV → Hp → Prop} {n : Nat} {ls : List (Option AV)} {st : List AV} {σ : Hp} {k : Nat × Nat} : xe_X3_nearestIn ct K R (n + 1) 36 ls st σ k = (lR ls 0 fun x => xk_X3_nearestIn ct K R n 37 ls (vr x :: st) σ k) := exS_step.trans rfl
theorem ev_X3_nearestIn_37 {ct : Nat → Bool} {K : Kt} {R : Option AV → Hp → Prop} {n : Nat} {ls : List (Option AV)} {st : List AV} {σ : Hp} {k : Nat × Nat} : xe_X3_nearestIn ct K R (n + 1) 37 ls st σ k = (lR ls 6 fun x => xk_X3_nearestIn ct K R n 39 ls (vr x :: st) σ k) := exS_step.trans rfl
theorem ev_X3_nearestIn_39 {ct : Nat → Bool} {K : Kt} {R : Option AV → Hp → Prop} {n : Nat} {ls : List (Option AV)} {st : List AV} {σ : Hp} {k : Nat × Nat} : xe_X3_nearestIn ct K R (n + 1) 39 ls st σ k = (oR st fun x st => kd σ x = 6 ∧ xk_X3_nearestIn ct K R n 42 ls (vi (fI σ 602 x) :: st) σ k) := exS_step.trans rfl
theorem ev_X3_nearestIn_42 {ct : Nat → Bool} {K : Kt} {R : Option AV → Hp → Prop} {n : Nat} {ls : List (Option AV)} {st : List AV} {σ : Hp} {k : Nat × Nat} : xe_X3_nearestIn ct K R (n + 1) 42 ls st σ k = (lR ls 2 fun x => xk_X3_nearestIn ct K R n 43 ls (vr x :: st) σ k) := exS_step.trans rfl
theorem ev_X3_nearestIn_43 {ct : Nat → Bool} {K : Kt} {R : Option AV → Hp → Prop} {n : Nat} {ls : List (Option AV)} {st : List AV} {σ : Hp} {k : Nat × Nat} : xe_X3_nearestIn ct K R (n + 1) 43 ls st σ k = (popN 3 st [] fun av rest => (catS rest ≤ 8 ∧ 2 < 4 ∧ k.1 + 0 ≤ 0 ∧ k.2 + 0 ≤ 0) ∧ (sp_X3_wayTo) av σ fun v σ' => xk_X3_nearestIn ct K R n 46 ls (v.toList ++ rest) σ' (k.1 + 0, k.2 + 0)) := exS_step.trans rfl
theorem ev_X3_nearestIn_46 {ct : Nat → Bool} {K : Kt} {R : Option AV → Hp → Prop} {n : Nat} {ls : List (Option AV)} {st : List AV} {σ : Hp} {k : Nat × Nat} : xe_X3_nearestIn ct K R (n + 1) 46 ls st σ k = (oI st fun x st => 7 < 8 ∧ xk_X3_nearestIn ct K R n 48 (stL ls 7 (vi x)) st σ k) := exS_step.trans rfl
theorem ev_X3_nearestIn_48 {ct : Nat → Bool} {K : Kt} {R : Option AV → Hp → Prop} {n : Nat} {ls : List (Option AV)} {st : List AV} {σ : Hp} {k : Nat × Nat} : xe_X3_nearestIn ct K R (n + 1) 48 ls st σ k = (lR ls 6 fun x => xk_X3_nearestIn ct K R n 50 ls (vr x :: st) σ k) := exS_step.trans rfl
theorem ev_X3_nearestIn_50 {ct : Nat → Bool} {K : Kt} {R : Option AV → Hp → Prop} {n : Nat} {ls : List (Option AV)} {st : List AV} {σ : Hp} {k : Nat × Nat} : xe_X3_nearestIn ct K R (n + 1) 50 ls st σ k = (lI ls 1 fun x => xk_X3_nearestIn ct K R n 51 ls (vi x :: st) σ k) := exS_step.trans rfl
theorem ev_X3_nearestIn_51 {ct : Nat → Bool} {K : Kt} {R : Option AV → Hp → Prop} {n : Nat} {ls : List (Option AV)} {st : List AV} {σ : Hp} {k : Nat × Nat} : xe_X3_nearestIn ct K R (n + 1) 51 ls st σ k = (popN 2 st [] fun av rest => (catS rest ≤ 8 ∧ 1 < 4 ∧ k.1 + 0 ≤ 0 ∧ k.2 + 0 ≤ 0) ∧ (sp_X5_isIn) av σ fun v σ' => xk_X3_nearestIn ct K R n 54 ls (v.toList ++ rest) σ' (k.1 + 0, k.2 + 0)) := exS_step.trans rfl
theorem ev_X3_nearestIn_54 {ct : Nat → Bool} {K : Kt} {R : Option AV → Hp → Prop} {n : Nat} {ls : List (Option AV)} {st : List AV} {σ : Hp} {k : Nat × Nat} : xe_X3_nearestIn ct K R (n + 1) 54 ls st σ k = (oI st fun x st => (wI x = wI 0 → xk_X3_nearestIn ct K R n 71 ls st σ k) ∧ (¬ (wI x = wI 0) → xk_X3_nearestIn ct K R n 57 ls st σ k)) := exS_step.trans rfl
theorem ev_X3_nearestIn_57 {ct : Nat → Bool} {K : Kt} {R : Option AV → Hp → Prop} {n : Nat} {ls : List (Option AV)} {st : List AV} {σ : Hp} {k : Nat × Nat} : xe_X3_nearestIn ct K R (n + 1) 57 ls st σ k = (lI ls 7 fun x => xk_X3_nearestIn ct K R n 59 ls (vi x :: st) σ k) := exS_step.trans rfl
theorem ev_X3_nearestIn_59 {ct : Nat → Bool} {K : Kt} {R : Option AV → Hp → Prop} {n : Nat} {ls : List (Option AV)} {st : List AV} {σ : Hp} {k : Nat × Nat} : xe_X3_nearestIn ct K R (n + 1) 59 ls st σ k = (lI ls 4 fun x => xk_X3_nearestIn ct K R n 61 ls (vi x :: st) σ k) := exS_step.trans rfl
theorem ev_X3_nearestIn_61 {ct : Nat → Bool} {K : Kt} {R : Option AV → Hp → Prop} {n : Nat} {ls : List (Option AV)} {st : List AV} {σ : Hp} {k : Nat × Nat} : xe_X3_nearestIn ct K R (n + 1) 61 ls st σ k = (oI st fun y st => oI st fun x st => (wI y ≤ wI x → xk_X3_nearestIn ct K R n 71 ls st σ k) ∧ (¬ (wI y ≤ wI x) → xk_X3_nearestIn ct K R n 64 ls st σ k)) := exS_step.trans rfl
theorem ev_X3_nearestIn_64 {ct : Nat → Bool} {K : Kt} {R : Option AV → Hp → Prop} {n : Nat} {ls : List (Option AV)} {st : List AV} {σ : Hp} {k : Nat × Nat} : xe_X3_nearestIn ct K R (n + 1) 64 ls st σ k = (lI ls 7 fun x => xk_X3_nearestIn ct K R n 66 ls (vi x :: st) σ k) := exS_step.trans rfl
theorem ev_X3_nearestIn_66 {ct : Nat → Bool} {K : Kt} {R : Option AV → Hp → Prop} {n : Nat} {ls : List (Option AV)} {st : List AV} {σ : Hp} {k : Nat × Nat} : xe_X3_nearestIn ct K R (n + 1) 66 ls st σ k = (oI st fun x st => 4 < 8 ∧ xk_X3_nearestIn ct K R n 68 (stL ls 4 (vi x)) st σ k) := exS_step.trans rfl
theorem ev_X3_nearestIn_68 {ct : Nat → Bool} {K : Kt} {R : Option AV → Hp → Prop} {n : Nat} {ls : List (Option AV)} {st : List AV} {σ : Hp} {k : Nat × Nat} : xe_X3_nearestIn ct K R (n + 1) 68 ls st σ k = (lI ls 5 fun x => xk_X3_nearestIn ct K R n 70 ls (vi x :: st) σ k) := exS_step.trans rfl
theorem ev_X3_nearestIn_70 {ct : Nat → Bool} {K : Kt} {R : Option AV → Hp → Prop} {n : Nat} {ls : List (Option AV)} {st : List AV} {σ : Hp} {k : Nat × Nat} : xe_X3_nearestIn ct K R (n + 1) 70 ls st σ k = (oI st fun x st => 3 < 8 ∧ xk_X3_nearestIn ct K R n 71 (stL ls 3 (vi x)) st σ k) := exS_step.trans rfl
theorem ev_X3_nearestIn_71 {ct : Nat → Bool} {K : Kt} {R : Option AV → Hp → Prop} {n : Nat} {ls : List (Option AV)} {st : List AV} {σ : Hp} {k : Nat × Nat} : xe_X3_nearestIn ct K R (n + 1) 71 ls st σ k = (lI ls 5 fun x => 5 < 8 ∧ xk_X3_nearestIn ct K R n 74 (stL ls 5 (vi (x + (1)))) st σ k) := exS_step.trans rfl
theorem ev_X3_nearestIn_74 {ct : Nat → Bool} {K : Kt} {R : Option AV → Hp → Prop} {n : Nat} {ls : List (Option AV)} {st : List AV} {σ : Hp} {k : Nat × Nat} : xe_X3_nearestIn ct K R (n + 1) 74 ls st σ k = (xk_X3_nearestIn ct K R n 10 ls st σ k) := exS_step.trans rfl
theorem ev_X3_nearestIn_77 {ct : Nat → Bool} {K : Kt} {R : Option AV → Hp → Prop} {n : Nat} {ls : List (Option AV)} {st : List AV} {σ : Hp} {k : Nat × Nat} : xe_X3_nearestIn ct K R (n + 1) 77 ls st σ k = (lI ls 3 fun x => xk_X3_nearestIn ct K R n 78 ls (vi x :: st) σ k) := exS_step.trans rfl
theorem ev_X3_nearestIn_78 {ct : Nat → Bool} {K : Kt} {R : Option AV → Hp → Prop} {n : Nat} {ls : List (Option AV)} {st : List AV} {σ : Hp} {k : Nat × Nat} : xe_X3_nearestIn ct K R (n + 1) 78 ls st σ k = (oI st fun x st => st = [] ∧ True ∧ R (some (vi x)) σ) := exS_step.trans rfl
def M_X3_nearestIn : Md := (yX3_nearestIn, cX3_nearestIn, 8, (some FieldType.int), 4, 0, 0, 1, false, tb_X3_nearestIn, mt_X3_nearestIn)
theorem mm_X3_nearestIn : MMOK M_X3_nearestIn := ⟨by decide +kernel, tk_X3_nearestIn, mk_X3_nearestIn, rfl, fun h => by cases h⟩
theorem go_X3_nearestIn {Q : Option AV → Hp → Prop} {ct : Nat → Bool} {pc : Nat} {ls : List (Option AV)} {st : List AV} {σ : Hp} {k : Nat × Nat} (n : Nat) (h : xe_X3_nearestIn ct (Go M_X3_nearestIn Q) Q n pc ls st σ k) : Go M_X3_nearestIn Q pc ls st σ k := Go.exS mm_X3_nearestIn h

set_option maxRecDepth 20000 in
theorem near_loop {Q : Option AV → Hp → Prop} {σ τ : Hp} {kn p b : Int} (hC : CLay σ) (hkn : 0 ≤ kn ∧ kn ≤ 1) (hp : kd σ p = 3) (hG : BG σ τ) (hI : MI τ) (hx : fI σ 305 p = aI τ 65 b) (hy : fI σ 306 p = aI τ 66 b) (h : Q (some (vi (mBest τ kn b (fI τ 1335 61).toNat))) σ) : ∀ (m i : Nat) (a6 a7 : Option AV), (i : Int) + m = fI τ 1335 61 →
    Go M_X3_nearestIn Q 10 [some (vr 15), some (vi kn), some (vr p), some (vi (mBest τ kn b i)), some (vi (if mBest τ kn b i < 0 then 200 else mWay τ (aI τ 89 (mBest τ kn b i)) b)), some (vi i), a6, a7] [] σ (0, 0) := by
  have hk : kd σ 15 = 4 := by simp only [hC.eqs]
  have hn := hI.companies_s
  have hsz := hG.2.1
  have hLe := hG.le
  have hwy := hG.way hI
  have hx9 := hI.x_ b
  have hy9 := hI.y_ b
  have hx8 : 0 ≤ fI σ 305 p ∧ fI σ 305 p ≤ 99 := by omega
  have hy8 : 0 ≤ fI σ 306 p ∧ fI σ 306 p ≤ 99 := by omega
  clear hx9 hy9
  intro m
  induction m with
  | zero =>
    intro i a6 a7 hi
    have e : (fI τ 1335 61).toNat = i := by omega
    rw [e] at h
    have hb := mBest_in τ kn b i
    generalize mBest τ kn b i = v at *
    clear hwy hx8 hy8 hLe
    refine go_X3_nearestIn (ct := fun p => p == 22) 40 ?_
    simp only [oI, oL, oR, o1, lI, lL, lR, popN, catS, gv, stL, stL2, swt, cnd, spObj, List.getElem?_cons_zero, List.getElem?_cons_succ, List.getD_cons_zero, List.getD_cons_succ, List.set_cons_zero, List.set_cons_succ, List.nil_append, List.cons_append, Option.toList, Bool.or_false, Bool.false_or, Bool.or_true, Bool.true_or, Nat.reduceBEq, Nat.reduceAdd, Nat.reduceLT, Nat.reduceLeDiff, Int.reduceAdd, Int.reduceToNat, true_and, and_true, Fin.isValue, Fin.val_zero, Fin.val_one, Fin.val_two, Fin.reduceFinMk, eq_self, Int.reduceNeg, imp_self, Nat.reduceMul, Nat.le_refl, not_true_eq_false, not_false_eq_true, List.getElem?_nil, reduceCtorEq, true_or, or_true, Classical.not_not, implies_true, or_self, wI_0, wI_1, wI_m1, b2i_w, b2i_eq0, b2i_eq1, b2i_bool, nor_self, nx_pI, kd_pI, ln_pI, fI_pI, fL_pI, fR_pI, aI_pI, aL_pI, aR_pI, nx_pL, kd_pL, ln_pL, fI_pL, fL_pL, fR_pL, aI_pL, aL_pL, aR_pL, nx_pR, kd_pR, ln_pR, fI_pR, fL_pR, fR_pR, aI_pR, aL_pR, aR_pR, nx_qI, kd_qI, ln_qI, fI_qI, fL_qI, fR_qI, aI_qI, aL_qI, aR_qI, nx_qL, kd_qL, ln_qL, fI_qL, fL_qL, fR_qL, aI_qL, aL_qL, aR_qL, nx_qR, kd_qR, ln_qR, fI_qR, fL_qR, fR_qR, aI_qR, aL_qR, aR_qR, nx_mk, kd_mk, ln_mk, fI_mk, fL_mk, fR_mk, aI_mk, aL_mk, aR_mk, false_and, and_false, if_false, if_true, and_self, Int.reduceEq, Nat.reduceEqDiff, ite_self, MLay_pI, MLay_pL, MLay_qI, MLay_qL, ev_X3_nearestIn_10, ev_X3_nearestIn_12, ev_X3_nearestIn_13, ev_X3_nearestIn_16, ev_X3_nearestIn_19, ev_X3_nearestIn_77, ev_X3_nearestIn_78, xt_X3_nearestIn, xf_X3_nearestIn, us_Jx4a65c_size_8abf5, us_Jx4a65c_get_915e3, us_X3_wayTo, us_X5_isIn, hC.eqs, hsz]
    try simp (disch := omega) only [wI_id, dv_nn, rm_nn]
    repeat' (first | intro z | apply And.intro)
    all_goals try omega
    all_goals try contradiction
    all_goals exact h
  | succ m ih =>
    intro i a6 a7 hi
    have hc := hG.2.2.1 i (by omega) (by omega)
    have hkc : kd σ (lat σ 18 i) = 6 := hG.1.2.2.2.2.2 i (by omega) (by omega)
    obtain ⟨c1, c2, c3, c4, c5, c6⟩ := hc
    have hK := hI.companyKind_ i
    have hA := hI.isAt_ i
    have hS : 0 ≤ fI σ 603 (lat σ 18 i) ∧ fI σ 603 (lat σ 18 i) ≤ 1 := by
      by_cases z : aI τ 89 i < 0
      · have := (c4 z).1; omega
      · have := (c5 (by omega)).1; omega
    have hw1 : cWay σ (fI σ 602 (lat σ 18 i)) p = mWay τ (fI σ 602 (lat σ 18 i)) b := hG.cWay hx hy _
    have hw2 := mWay_in hI (fI σ 602 (lat σ 18 i)) b
    have ih := fun a6 a7 => ih (i + 1) a6 a7 (by omega)
    have hb := mBest_in τ kn b i
    have hw3 := mWay_in hI (aI τ 89 (mBest τ kn b i)) b
    clear h c1 c3
    have w71 : ∀ v l, mBest τ kn b (i + 1) = v → (if v < 0 then 200 else mWay τ (aI τ 89 v) b) = l → ∀ a6 a7, Go M_X3_nearestIn Q 71 [some (vr 15), some (vi kn), some (vr p), some (vi v), some (vi l), some (vi i), a6, a7] [] σ (0, 0) := fun v l e1 e2 a6 a7 => by
      have w := ih a6 a7
      subst e1
      subst e2
      clear ih
      refine go_X3_nearestIn (ct := fun p => p == 10) 20 ?_
      simp only [oI, oL, oR, o1, lI, lL, lR, popN, catS, gv, stL, stL2, swt, cnd, spObj, List.getElem?_cons_zero, List.getElem?_cons_succ, List.getD_cons_zero, List.getD_cons_succ, List.set_cons_zero, List.set_cons_succ, List.nil_append, List.cons_append, Option.toList, Bool.or_false, Bool.false_or, Bool.or_true, Bool.true_or, Nat.reduceBEq, Nat.reduceAdd, Nat.reduceLT, Nat.reduceLeDiff, Int.reduceAdd, Int.reduceToNat, true_and, and_true, Fin.isValue, Fin.val_zero, Fin.val_one, Fin.val_two, Fin.reduceFinMk, eq_self, Int.reduceNeg, imp_self, Nat.reduceMul, Nat.le_refl, not_true_eq_false, not_false_eq_true, List.getElem?_nil, reduceCtorEq, true_or, or_true, Classical.not_not, implies_true, or_self, wI_0, wI_1, wI_m1, b2i_w, b2i_eq0, b2i_eq1, b2i_bool, nor_self, nx_pI, kd_pI, ln_pI, fI_pI, fL_pI, fR_pI, aI_pI, aL_pI, aR_pI, nx_pL, kd_pL, ln_pL, fI_pL, fL_pL, fR_pL, aI_pL, aL_pL, aR_pL, nx_pR, kd_pR, ln_pR, fI_pR, fL_pR, fR_pR, aI_pR, aL_pR, aR_pR, nx_qI, kd_qI, ln_qI, fI_qI, fL_qI, fR_qI, aI_qI, aL_qI, aR_qI, nx_qL, kd_qL, ln_qL, fI_qL, fL_qL, fR_qL, aI_qL, aL_qL, aR_qL, nx_qR, kd_qR, ln_qR, fI_qR, fL_qR, fR_qR, aI_qR, aL_qR, aR_qR, nx_mk, kd_mk, ln_mk, fI_mk, fL_mk, fR_mk, aI_mk, aL_mk, aR_mk, false_and, and_false, if_false, if_true, and_self, Int.reduceEq, Nat.reduceEqDiff, ite_self, MLay_pI, MLay_pL, MLay_qI, MLay_qL, ev_X3_nearestIn_71, ev_X3_nearestIn_74, xt_X3_nearestIn, xf_X3_nearestIn, us_Jx4a65c_size_8abf5, us_Jx4a65c_get_915e3, us_X3_wayTo, us_X5_isIn]
      exact w
    have eB : mBest τ kn b (i + 1) = if aI τ 87 i = kn ∧ 0 ≤ aI τ 89 i ∧ (mBest τ kn b i < 0 ∨ mWay τ (aI τ 89 i) b < mWay τ (aI τ 89 (mBest τ kn b i)) b) then (i : Int) else mBest τ kn b i := rfl
    rw [eB] at w71
    clear ih
    generalize hv : mBest τ kn b i = v at *
    generalize hlv : (if v < 0 then 200 else mWay τ (aI τ 89 v) b) = l at *
    have hl : 0 ≤ l ∧ l ≤ 200 := by rw [← hlv]; split <;> omega
    generalize hst : fI σ 602 (lat σ 18 i) = st at *
    have hl2 : v < 0 → l = 200 := fun z => by rw [← hlv, if_pos z]
    have hl3 : ¬ v < 0 → l = mWay τ (aI τ 89 v) b := fun z => by rw [← hlv, if_neg z]
    have hin : 0 ≤ aI τ 89 i → mWay τ st b = mWay τ (aI τ 89 i) b := fun z => by rw [(c5 z).2]
    by_cases y : (fI σ 603 (lat σ 18 i) = 0 ∧ fI σ 600 (lat σ 18 i) = kn)
    · have y0 : 0 ≤ aI τ 89 i := by
        by_cases z : aI τ 89 i < 0
        · have := (c4 z).1; omega
        · omega
      have hin := hin y0
      by_cases y2 : mWay τ st b < l
      · have w := w71 i (mWay τ (aI τ 89 i) b) (if_pos ⟨by omega, y0, by
            by_cases z : v < 0
            · exact Or.inl z
            · right; rw [← hin, ← hl3 z]; exact y2⟩) (if_neg (by omega)) (some (vr (lat σ 18 i))) (some (vi (mWay τ st b)))
        rw [← hin] at w
        clear w71 hin c2 c4 c5 hl2 hl3 hlv hv hA hb hw3 y0
        refine go_X3_nearestIn (ct := fun p => p == 77 || p == 71) 60 ?_
        simp only [oI, oL, oR, o1, lI, lL, lR, popN, catS, gv, stL, stL2, swt, cnd, spObj, List.getElem?_cons_zero, List.getElem?_cons_succ, List.getD_cons_zero, List.getD_cons_succ, List.set_cons_zero, List.set_cons_succ, List.nil_append, List.cons_append, Option.toList, Bool.or_false, Bool.false_or, Bool.or_true, Bool.true_or, Nat.reduceBEq, Nat.reduceAdd, Nat.reduceLT, Nat.reduceLeDiff, Int.reduceAdd, Int.reduceToNat, true_and, and_true, Fin.isValue, Fin.val_zero, Fin.val_one, Fin.val_two, Fin.reduceFinMk, eq_self, Int.reduceNeg, imp_self, Nat.reduceMul, Nat.le_refl, not_true_eq_false, not_false_eq_true, List.getElem?_nil, reduceCtorEq, true_or, or_true, Classical.not_not, implies_true, or_self, wI_0, wI_1, wI_m1, b2i_w, b2i_eq0, b2i_eq1, b2i_bool, nor_self, nx_pI, kd_pI, ln_pI, fI_pI, fL_pI, fR_pI, aI_pI, aL_pI, aR_pI, nx_pL, kd_pL, ln_pL, fI_pL, fL_pL, fR_pL, aI_pL, aL_pL, aR_pL, nx_pR, kd_pR, ln_pR, fI_pR, fL_pR, fR_pR, aI_pR, aL_pR, aR_pR, nx_qI, kd_qI, ln_qI, fI_qI, fL_qI, fR_qI, aI_qI, aL_qI, aR_qI, nx_qL, kd_qL, ln_qL, fI_qL, fL_qL, fR_qL, aI_qL, aL_qL, aR_qL, nx_qR, kd_qR, ln_qR, fI_qR, fL_qR, fR_qR, aI_qR, aL_qR, aR_qR, nx_mk, kd_mk, ln_mk, fI_mk, fL_mk, fR_mk, aI_mk, aL_mk, aR_mk, false_and, and_false, if_false, if_true, and_self, Int.reduceEq, Nat.reduceEqDiff, ite_self, MLay_pI, MLay_pL, MLay_qI, MLay_qL, ev_X3_nearestIn_10, ev_X3_nearestIn_12, ev_X3_nearestIn_13, ev_X3_nearestIn_16, ev_X3_nearestIn_19, ev_X3_nearestIn_22, ev_X3_nearestIn_23, ev_X3_nearestIn_26, ev_X3_nearestIn_28, ev_X3_nearestIn_31, ev_X3_nearestIn_34, ev_X3_nearestIn_36, ev_X3_nearestIn_37, ev_X3_nearestIn_39, ev_X3_nearestIn_42, ev_X3_nearestIn_43, ev_X3_nearestIn_46, ev_X3_nearestIn_48, ev_X3_nearestIn_50, ev_X3_nearestIn_51, ev_X3_nearestIn_54, ev_X3_nearestIn_57, ev_X3_nearestIn_59, ev_X3_nearestIn_61, ev_X3_nearestIn_64, ev_X3_nearestIn_66, ev_X3_nearestIn_68, ev_X3_nearestIn_70, xt_X3_nearestIn, xf_X3_nearestIn, us_Jx4a65c_size_8abf5, us_Jx4a65c_get_915e3, us_X3_wayTo, us_X5_isIn, hC.eqs, hC, hsz, hLe, hkc, hp, hwy, hx8, hy8, hst, hw1, y]
        try simp (disch := omega) only [wI_id, dv_nn, rm_nn]
        repeat' (first | intro z | apply And.intro)
        all_goals try omega
        all_goals try contradiction
        all_goals exact w
      · have w := w71 v l (by
            rw [if_neg]
            rintro ⟨-, -, z | z⟩
            · have := hl2 z; omega
            · by_cases z2 : v < 0
              · have := hl2 z2; omega
              · rw [← hin, ← hl3 z2] at z; exact y2 z) hlv (some (vr (lat σ 18 i))) (some (vi (mWay τ st b)))
        clear w71 hin c2 c4 c5 hl2 hl3 hlv hv hA hb hw3 y0
        refine go_X3_nearestIn (ct := fun p => p == 77 || p == 71 || p == 64) 60 ?_
        simp only [oI, oL, oR, o1, lI, lL, lR, popN, catS, gv, stL, stL2, swt, cnd, spObj, List.getElem?_cons_zero, List.getElem?_cons_succ, List.getD_cons_zero, List.getD_cons_succ, List.set_cons_zero, List.set_cons_succ, List.nil_append, List.cons_append, Option.toList, Bool.or_false, Bool.false_or, Bool.or_true, Bool.true_or, Nat.reduceBEq, Nat.reduceAdd, Nat.reduceLT, Nat.reduceLeDiff, Int.reduceAdd, Int.reduceToNat, true_and, and_true, Fin.isValue, Fin.val_zero, Fin.val_one, Fin.val_two, Fin.reduceFinMk, eq_self, Int.reduceNeg, imp_self, Nat.reduceMul, Nat.le_refl, not_true_eq_false, not_false_eq_true, List.getElem?_nil, reduceCtorEq, true_or, or_true, Classical.not_not, implies_true, or_self, wI_0, wI_1, wI_m1, b2i_w, b2i_eq0, b2i_eq1, b2i_bool, nor_self, nx_pI, kd_pI, ln_pI, fI_pI, fL_pI, fR_pI, aI_pI, aL_pI, aR_pI, nx_pL, kd_pL, ln_pL, fI_pL, fL_pL, fR_pL, aI_pL, aL_pL, aR_pL, nx_pR, kd_pR, ln_pR, fI_pR, fL_pR, fR_pR, aI_pR, aL_pR, aR_pR, nx_qI, kd_qI, ln_qI, fI_qI, fL_qI, fR_qI, aI_qI, aL_qI, aR_qI, nx_qL, kd_qL, ln_qL, fI_qL, fL_qL, fR_qL, aI_qL, aL_qL, aR_qL, nx_qR, kd_qR, ln_qR, fI_qR, fL_qR, fR_qR, aI_qR, aL_qR, aR_qR, nx_mk, kd_mk, ln_mk, fI_mk, fL_mk, fR_mk, aI_mk, aL_mk, aR_mk, false_and, and_false, if_false, if_true, and_self, Int.reduceEq, Nat.reduceEqDiff, ite_self, MLay_pI, MLay_pL, MLay_qI, MLay_qL, ev_X3_nearestIn_10, ev_X3_nearestIn_12, ev_X3_nearestIn_13, ev_X3_nearestIn_16, ev_X3_nearestIn_19, ev_X3_nearestIn_22, ev_X3_nearestIn_23, ev_X3_nearestIn_26, ev_X3_nearestIn_28, ev_X3_nearestIn_31, ev_X3_nearestIn_34, ev_X3_nearestIn_36, ev_X3_nearestIn_37, ev_X3_nearestIn_39, ev_X3_nearestIn_42, ev_X3_nearestIn_43, ev_X3_nearestIn_46, ev_X3_nearestIn_48, ev_X3_nearestIn_50, ev_X3_nearestIn_51, ev_X3_nearestIn_54, ev_X3_nearestIn_57, ev_X3_nearestIn_59, ev_X3_nearestIn_61, ev_X3_nearestIn_64, ev_X3_nearestIn_66, ev_X3_nearestIn_68, ev_X3_nearestIn_70, xt_X3_nearestIn, xf_X3_nearestIn, us_Jx4a65c_size_8abf5, us_Jx4a65c_get_915e3, us_X3_wayTo, us_X5_isIn, hC.eqs, hC, hsz, hLe, hkc, hp, hwy, hx8, hy8, hst, hw1, y]
        try simp (disch := omega) only [wI_id, dv_nn, rm_nn]
        repeat' (first | intro z | apply And.intro)
        all_goals try omega
        all_goals try contradiction
        all_goals exact w
    · have w := w71 v l (by
          rw [if_neg]
          rintro ⟨z1, z2, -⟩
          exact y ⟨(c5 z2).1, by omega⟩) hlv (some (vr (lat σ 18 i))) (some (vi (mWay τ st b)))
      clear w71 hin c4 c5 hl2 hl3 hlv hv hA hb hw3
      refine go_X3_nearestIn (ct := fun p => p == 77 || p == 71 || p == 57) 60 ?_
      simp only [oI, oL, oR, o1, lI, lL, lR, popN, catS, gv, stL, stL2, swt, cnd, spObj, List.getElem?_cons_zero, List.getElem?_cons_succ, List.getD_cons_zero, List.getD_cons_succ, List.set_cons_zero, List.set_cons_succ, List.nil_append, List.cons_append, Option.toList, Bool.or_false, Bool.false_or, Bool.or_true, Bool.true_or, Nat.reduceBEq, Nat.reduceAdd, Nat.reduceLT, Nat.reduceLeDiff, Int.reduceAdd, Int.reduceToNat, true_and, and_true, Fin.isValue, Fin.val_zero, Fin.val_one, Fin.val_two, Fin.reduceFinMk, eq_self, Int.reduceNeg, imp_self, Nat.reduceMul, Nat.le_refl, not_true_eq_false, not_false_eq_true, List.getElem?_nil, reduceCtorEq, true_or, or_true, Classical.not_not, implies_true, or_self, wI_0, wI_1, wI_m1, b2i_w, b2i_eq0, b2i_eq1, b2i_bool, nor_self, nx_pI, kd_pI, ln_pI, fI_pI, fL_pI, fR_pI, aI_pI, aL_pI, aR_pI, nx_pL, kd_pL, ln_pL, fI_pL, fL_pL, fR_pL, aI_pL, aL_pL, aR_pL, nx_pR, kd_pR, ln_pR, fI_pR, fL_pR, fR_pR, aI_pR, aL_pR, aR_pR, nx_qI, kd_qI, ln_qI, fI_qI, fL_qI, fR_qI, aI_qI, aL_qI, aR_qI, nx_qL, kd_qL, ln_qL, fI_qL, fL_qL, fR_qL, aI_qL, aL_qL, aR_qL, nx_qR, kd_qR, ln_qR, fI_qR, fL_qR, fR_qR, aI_qR, aL_qR, aR_qR, nx_mk, kd_mk, ln_mk, fI_mk, fL_mk, fR_mk, aI_mk, aL_mk, aR_mk, false_and, and_false, if_false, if_true, and_self, Int.reduceEq, Nat.reduceEqDiff, ite_self, MLay_pI, MLay_pL, MLay_qI, MLay_qL, ev_X3_nearestIn_10, ev_X3_nearestIn_12, ev_X3_nearestIn_13, ev_X3_nearestIn_16, ev_X3_nearestIn_19, ev_X3_nearestIn_22, ev_X3_nearestIn_23, ev_X3_nearestIn_26, ev_X3_nearestIn_28, ev_X3_nearestIn_31, ev_X3_nearestIn_34, ev_X3_nearestIn_36, ev_X3_nearestIn_37, ev_X3_nearestIn_39, ev_X3_nearestIn_42, ev_X3_nearestIn_43, ev_X3_nearestIn_46, ev_X3_nearestIn_48, ev_X3_nearestIn_50, ev_X3_nearestIn_51, ev_X3_nearestIn_54, ev_X3_nearestIn_57, ev_X3_nearestIn_59, ev_X3_nearestIn_61, ev_X3_nearestIn_64, ev_X3_nearestIn_66, ev_X3_nearestIn_68, ev_X3_nearestIn_70, xt_X3_nearestIn, xf_X3_nearestIn, us_Jx4a65c_size_8abf5, us_Jx4a65c_get_915e3, us_X3_wayTo, us_X5_isIn, hC.eqs, hC, hsz, hLe, hkc, hp, hwy, hx8, hy8, hst, hw1, y]
      try simp (disch := omega) only [wI_id, dv_nn, rm_nn]
      repeat' (first | intro z | apply And.intro)
      all_goals try omega
      all_goals try contradiction
      all_goals exact w

set_option maxRecDepth 20000 in
theorem c_X3_nearestIn : Ct yX3_nearestIn cX3_nearestIn 8 ((some FieldType.int)) 4 0 0 sp_X3_nearestIn := by
  refine Ct.go (M := M_X3_nearestIn) mm_X3_nearestIn fun av σ Q h0 => ?_
  obtain ⟨this, kn, p, rfl, hk, h⟩ := el_X3_nearestIn h0
  clear h0
  refine ⟨Nat.le_of_ble_eq_true rfl, ?_⟩
  show Go M_X3_nearestIn Q 0 [some (vr this), some (vi kn), some (vr p), none, none, none, none, none] [] σ (0, 0)
  obtain ⟨rfl, hC, hkn, hp, τ, b, hG, hI, hx, hy, h⟩ := h
  have hn := hI.companies_s
  have w := near_loop hC hkn hp hG hI hx hy h (fI τ 1335 61).toNat 0 none none (by omega)
  have w : Go M_X3_nearestIn Q 10 [some (vr 15), some (vi kn), some (vr p), some (vi (-1)), some (vi 200), some (vi 0), none, none] [] σ (0, 0) := w
  clear h
  refine go_X3_nearestIn (ct := fun p => p == 10) 40 ?_
  simp only [oI, oL, oR, o1, lI, lL, lR, popN, catS, gv, stL, stL2, swt, cnd, spObj, List.getElem?_cons_zero, List.getElem?_cons_succ, List.getD_cons_zero, List.getD_cons_succ, List.set_cons_zero, List.set_cons_succ, List.nil_append, List.cons_append, Option.toList, Bool.or_false, Bool.false_or, Bool.or_true, Bool.true_or, Nat.reduceBEq, Nat.reduceAdd, Nat.reduceLT, Nat.reduceLeDiff, Int.reduceAdd, Int.reduceToNat, true_and, and_true, Fin.isValue, Fin.val_zero, Fin.val_one, Fin.val_two, Fin.reduceFinMk, eq_self, Int.reduceNeg, imp_self, Nat.reduceMul, Nat.le_refl, not_true_eq_false, not_false_eq_true, List.getElem?_nil, reduceCtorEq, true_or, or_true, Classical.not_not, implies_true, or_self, wI_0, wI_1, wI_m1, b2i_w, b2i_eq0, b2i_eq1, b2i_bool, nor_self, nx_pI, kd_pI, ln_pI, fI_pI, fL_pI, fR_pI, aI_pI, aL_pI, aR_pI, nx_pL, kd_pL, ln_pL, fI_pL, fL_pL, fR_pL, aI_pL, aL_pL, aR_pL, nx_pR, kd_pR, ln_pR, fI_pR, fL_pR, fR_pR, aI_pR, aL_pR, aR_pR, nx_qI, kd_qI, ln_qI, fI_qI, fL_qI, fR_qI, aI_qI, aL_qI, aR_qI, nx_qL, kd_qL, ln_qL, fI_qL, fL_qL, fR_qL, aI_qL, aL_qL, aR_qL, nx_qR, kd_qR, ln_qR, fI_qR, fL_qR, fR_qR, aI_qR, aL_qR, aR_qR, nx_mk, kd_mk, ln_mk, fI_mk, fL_mk, fR_mk, aI_mk, aL_mk, aR_mk, false_and, and_false, if_false, if_true, and_self, Int.reduceEq, Nat.reduceEqDiff, ite_self, MLay_pI, MLay_pL, MLay_qI, MLay_qL, ev_X3_nearestIn_0, ev_X3_nearestIn_1, ev_X3_nearestIn_2, ev_X3_nearestIn_5, ev_X3_nearestIn_7, ev_X3_nearestIn_8, xt_X3_nearestIn, xf_X3_nearestIn, us_Jx4a65c_size_8abf5, us_Jx4a65c_get_915e3, us_X3_wayTo, us_X5_isIn]
  exact w

/-- an alarm's row of companies -/
def AlS (σ τ : Hp) (a p : Int) : Prop := 120 < p ∧ kd σ p = 1 ∧ fR σ 102 p = p + 1 ∧ kd σ (p + 1) = 101 ∧ ln σ (p + 1) = 20 ∧ fI σ 103 p = aI τ 115 a ∧ (∀ i, 0 ≤ i → i < aI τ 115 a → aI σ (p + 1) i = aI τ 116 (20 * a + i)) ∧ ∀ k, ¬ k = p → fI σ 103 k = fI τ 9999 k
/-- what the class does when it sends a company -/
def cSnd (σ : Hp) (al c t : Int) : Hp := pI (qI (pI (pI σ 603 (lat σ 18 c) 1) 604 (lat σ 18 c) t) (al + 1) (fI σ 103 al) c) 103 al (fI σ 103 al + 1)
abbrev sndF : List Nat := [603, 604, 103]
theorem Fz_cSnd (σ : Hp) (al c t : Int) : Fz sndF (fun r => r = al + 1) noR σ (cSnd σ al c t) :=
  Fz.tr (Fz_pI (fs := sndF) (f := 603) _ _ _ (by decide)) (Fz.tr (Fz_pI (fs := sndF) (f := 604) _ _ _ (by decide)) (Fz.tr (Fz_qI (fs := sndF) _ _ _ rfl) (Fz_pI (fs := sndF) (f := 103) _ _ _ (by decide))))
theorem BG_cSnd {σ τ : Hp} {a al c t : Int} (h : BG σ τ) (hal : 120 < al) (hc : 0 ≤ c ∧ c < fI τ 1335 61) (ht : t = fI τ 1301 61 + fI τ 1341 61 * mWay τ (aI τ 89 c) (aI τ 109 a)) : BG (cSnd σ al c t) (mSnd τ a c) := by
  obtain ⟨h1, h2, h3, h4, h5, h6, h7, h8⟩ := h
  subst ht
  unfold BG cSnd mSnd
  unfold LOk lat CoE at *
  simp only [nx_pI, kd_pI, ln_pI, fI_pI, fL_pI, fR_pI, aI_pI, aL_pI, aR_pI, nx_qI, kd_qI, ln_qI, fI_qI, fL_qI, fR_qI, aI_qI, aL_qI, aR_qI, Nat.reduceEqDiff, false_and, if_false, true_and, Int.reduceEq]
  refine ⟨h1, h2, fun d q1 q2 => ?_, h4, h5, fun u => ?_, h7, h8⟩
  · have h3d := h3 d q1 q2
    by_cases e : d = c
    · subst e
      obtain ⟨g1, g2, g3, g4, g5, g6⟩ := h3d
      simp only [if_true]
      exact ⟨g1, g2, g3, fun _ => ⟨trivial, trivial⟩, fun z => absurd z (by omega), g6⟩
    · have hne : ¬ aR σ (fR σ 1401 18) d = aR σ (fR σ 1401 18) c := by
        rcases Int.lt_or_gt_of_ne e with z | z
        · exact h4 d c q1 z hc.2
        · exact fun y => h4 c d hc.1 z q2 y.symm
      simp only [hne, e, if_false]
      exact h3d
  · rw [if_neg (by omega), if_neg (by omega)]; exact h6 u
theorem AlS_cSnd {σ τ : Hp} {a al c t : Int} (h : AlS σ τ a al) (h0 : 0 ≤ aI τ 115 a) : AlS (cSnd σ al c t) (mSnd τ a c) a al := by
  obtain ⟨h1, h2, h3, h4, h5, h6, h7, h8⟩ := h
  unfold AlS cSnd mSnd
  simp only [nx_pI, kd_pI, ln_pI, fI_pI, fL_pI, fR_pI, aI_pI, aL_pI, aR_pI, nx_qI, kd_qI, ln_qI, fI_qI, fL_qI, fR_qI, aI_qI, aL_qI, aR_qI, Nat.reduceEqDiff, false_and, if_false, true_and, Int.reduceEq, and_self, if_true]
  refine ⟨h1, h2, h3, h4, h5, by omega, fun i q1 q2 => ?_, fun k hk => by rw [if_neg hk]; exact h8 k hk⟩
  rw [h6]
  by_cases e : i = aI τ 115 a
  · rw [if_pos e, if_pos (by omega)]
  · rw [if_neg e, if_neg (by omega)]; exact h7 i q1 (by omega)

def sp_X3_sendOut : Sp := fun av σ Q => oR av fun this av => oR av fun al av => oI av fun kn av => oI av fun n av => oI av fun t av => av = [] ∧ kd σ this = 4 ∧ (this = 15 ∧ CLay σ ∧ (0 ≤ kn ∧ kn ≤ 1) ∧ (0 ≤ n ∧ n ≤ 9) ∧ ∃ τ a, BG σ τ ∧ MI τ ∧ (0 ≤ a ∧ a < 100) ∧ AlS σ τ a al ∧ t = fI τ 1301 61 ∧ (kd σ (fR σ 100 al) = 3 ∧ fI σ 305 (fR σ 100 al) = aI τ 65 (aI τ 109 a) ∧ fI σ 306 (fR σ 100 al) = aI τ 66 (aI τ 109 a)) ∧ aI τ 115 a ≤ mTo τ a ∧ (∀ σ', BG σ' (mSends τ a kn n.toNat) → AlS σ' (mSends τ a kn n.toNat) a al → Fz sndF (fun r => r = al + 1) noR σ σ' → Q none σ'))
theorem us_X3_sendOut (this : Int) (al : Int) (kn : Int) (n : Int) (t : Int) (σ : Hp) (Q : Option AV → Hp → Prop) : sp_X3_sendOut [vr this, vr al, vi kn, vi n, vi t] σ Q = (kd σ this = 4 ∧ (this = 15 ∧ CLay σ ∧ (0 ≤ kn ∧ kn ≤ 1) ∧ (0 ≤ n ∧ n ≤ 9) ∧ ∃ τ a, BG σ τ ∧ MI τ ∧ (0 ≤ a ∧ a < 100) ∧ AlS σ τ a al ∧ t = fI τ 1301 61 ∧ (kd σ (fR σ 100 al) = 3 ∧ fI σ 305 (fR σ 100 al) = aI τ 65 (aI τ 109 a) ∧ fI σ 306 (fR σ 100 al) = aI τ 66 (aI τ 109 a)) ∧ aI τ 115 a ≤ mTo τ a ∧ (∀ σ', BG σ' (mSends τ a kn n.toNat) → AlS σ' (mSends τ a kn n.toNat) a al → Fz sndF (fun r => r = al + 1) noR σ σ' → Q none σ'))) := propext ⟨fun h => h.2, fun h => ⟨rfl, h⟩⟩
theorem el_X3_sendOut {av : List AV} {σ : Hp} {Q : Option AV → Hp → Prop} (h : sp_X3_sendOut av σ Q) : ∃ (this : Int) (al : Int) (kn : Int) (n : Int) (t : Int), av = [vr this, vr al, vi kn, vi n, vi t] ∧ (kd σ this = 4 ∧ (this = 15 ∧ CLay σ ∧ (0 ≤ kn ∧ kn ≤ 1) ∧ (0 ≤ n ∧ n ≤ 9) ∧ ∃ τ a, BG σ τ ∧ MI τ ∧ (0 ≤ a ∧ a < 100) ∧ AlS σ τ a al ∧ t = fI τ 1301 61 ∧ (kd σ (fR σ 100 al) = 3 ∧ fI σ 305 (fR σ 100 al) = aI τ 65 (aI τ 109 a) ∧ fI σ 306 (fR σ 100 al) = aI τ 66 (aI τ 109 a)) ∧ aI τ 115 a ≤ mTo τ a ∧ (∀ σ', BG σ' (mSends τ a kn n.toNat) → AlS σ' (mSends τ a kn n.toNat) a al → Fz sndF (fun r => r = al + 1) noR σ σ' → Q none σ'))) := by
  obtain ⟨this, a0, rfl, h0⟩ := oR_s h
  obtain ⟨al, a1, rfl, h1⟩ := oR_s h0
  obtain ⟨kn, a2, rfl, h2⟩ := oI_s h1
  obtain ⟨n, a3, rfl, h3⟩ := oI_s h2
  obtain ⟨t, a4, rfl, h4⟩ := oI_s h3
  obtain ⟨rfl, hz⟩ := h4
  exact ⟨this, al, kn, n, t, rfl, hz⟩
theorem rc_X3_sendOut : ∀ (av : List AV) (σ : Hp) (Q : Option AV → Hp → Prop), sp_X3_sendOut av σ Q → ∃ r tl, av = vr r :: tl ∧ kd σ r = 3 + 1 := fun av σ Q h => by
  obtain ⟨this, al, kn, n, t, rfl, hz, -⟩ := el_X3_sendOut h
  exact ⟨this, _, rfl, hz⟩

def tb_X3_sendOut : Tab := [(0, .iconst 0, 1, (0, 0, 0, 0)), (1, .istore 5, 2, (0, 0, 0, 0)), (3, .iload 5, 2, (0, 0, 0, 0)), (5, .iload_n 3, 1, (0, 0, 0, 0)), (6, .if_icmp .ge 72, 3, (0, 0, 0, 0)), (9, .aload_n 0, 1, (0, 0, 0, 0)), (10, .iload_n 2, 1, (0, 0, 0, 0)), (11, .aload_n 1, 1, (0, 0, 0, 0)), (12, .getfield 70, 3, (1, 100, 2, 0)), (15, .invokevirtual 76, 3, (0, 0, 0, 0)), (18, .istore 6, 2, (0, 0, 0, 0)), (20, .aload_n 0, 1, (0, 0, 0, 0)), (21, .iload 6, 2, (0, 0, 0, 0)), (23, .invokevirtual 80, 3, (0, 0, 0, 0)), (26, .astore 7, 2, (0, 0, 0, 0)), (28, .aload 7, 2, (0, 0, 0, 0)), (30, .ifnonnull 4, 3, (0, 0, 0, 0)), (33, .return_, 1, (0, 0, 0, 0)), (34, .aload 7, 2, (0, 0, 0, 0)), (36, .iconst 1, 1, (0, 0, 0, 0)), (37, .putfield 66, 3, (6, 603, 3, 0)), (40, .aload 7, 2, (0, 0, 0, 0)), (42, .iload 4, 2, (0, 0, 0, 0)), (44, .aload_n 0, 1, (0, 0, 0, 0)), (45, .getfield 29, 3, (4, 404, 0, 0)), (48, .aload_n 0, 1, (0, 0, 0, 0)), (49, .aload 7, 2, (0, 0, 0, 0)), (51, .getfield 84, 3, (6, 602, 0, 0)), (54, .aload_n 1, 1, (0, 0, 0, 0)), (55, .getfield 70, 3, (1, 100, 2, 0)), (58, .invokevirtual 87, 3, (0, 0, 0, 0)), (61, .imul, 1, (0, 0, 0, 0)), (62, .iadd, 1, (0, 0, 0, 0)), (63, .putfield 90, 3, (6, 604, 0, 0)), (66, .aload_n 1, 1, (0, 0, 0, 0)), (67, .iload 6, 2, (0, 0, 0, 0)), (69, .invokevirtual 93, 3, (0, 0, 0, 0)), (72, .iinc 5 1, 3, (0, 0, 0, 0)), (75, .goto (-72), 3, (0, 0, 0, 0)), (78, .return_, 1, (0, 0, 0, 0))]
set_option maxRecDepth 100000 in
theorem tk_X3_sendOut : TOK RX3 false cX3_sendOut tb_X3_sendOut := chkT_ok ft_X3 (by decide +kernel)
theorem rw_X3_608 : Row RX3 (.invokevirtual 76) 3 3 0 0 4 sp_X3_nearestIn := row_V (n := 2) (ci := 3) c_X3_nearestIn ⟨TBL_in 1233 (by decide +kernel) rfl, TBL_in 1236 (by decide +kernel) rfl, TBL_in 117 (by decide +kernel) rfl, by decide +kernel, by decide⟩ (by decide) rfl (TBL_in 1235 (by decide +kernel) rfl) (TBL_in 50 (by decide +kernel) rfl) rc_X3_nearestIn
theorem rw_X3_640 : Row RX3 (.invokevirtual 80) 3 2 0 0 4 sp_X3_companyOf := row_V (n := 1) (ci := 3) c_X3_companyOf ⟨TBL_in 1248 (by decide +kernel) rfl, TBL_in 1251 (by decide +kernel) rfl, TBL_in 117 (by decide +kernel) rfl, by decide +kernel, by decide⟩ (by decide) rfl (TBL_in 1249 (by decide +kernel) rfl) (TBL_in 1250 (by decide +kernel) rfl) rc_X3_companyOf
theorem rw_X3_744 : Row RX3 (.invokevirtual 93) 3 2 0 0 1 sp_X0_addCompany := row_V (n := 1) (ci := 0) c_X0_addCompany ⟨TBL_in 1252 (by decide +kernel) rfl, TBL_in 1255 (by decide +kernel) rfl, TBL_in 137 (by decide +kernel) rfl, by decide +kernel, by decide⟩ (by decide) rfl (TBL_in 1253 (by decide +kernel) rfl) (TBL_in 1254 (by decide +kernel) rfl) rc_X0_addCompany
def mt_X3_sendOut : List (Nat × Mt) := [(608, 3, 0, 0, 4, sp_X3_nearestIn), (640, 2, 0, 0, 4, sp_X3_companyOf), (696, 3, 0, 0, 2, sp_X3_wayTo), (744, 2, 0, 0, 1, sp_X0_addCompany)]
theorem em_X3_sendOut : mt_X3_sendOut.lookup 608 = some (3, 0, 0, 4, sp_X3_nearestIn) ∧ mt_X3_sendOut.lookup 640 = some (2, 0, 0, 4, sp_X3_companyOf) ∧ mt_X3_sendOut.lookup 696 = some (3, 0, 0, 2, sp_X3_wayTo) ∧ mt_X3_sendOut.lookup 744 = some (2, 0, 0, 1, sp_X0_addCompany) := ⟨rfl, rfl, rfl, rfl⟩
theorem mk_X3_sendOut : MOK RX3 mt_X3_sendOut := by
  intro q hq
  simp only [mt_X3_sendOut, List.mem_cons, List.not_mem_nil, or_false] at hq
  rcases hq with rfl | rfl | rfl | rfl
  · exact rw_X3_608
  · exact rw_X3_640
  · exact rw_X3_696
  · exact rw_X3_744
noncomputable def xe_X3_sendOut (ct : Nat → Bool) (K : Kt) (R : Option AV → Hp → Prop) (n : Nat) : Kt := exS 8 5 0 0 0 tb_X3_sendOut mt_X3_sendOut ct K R n
noncomputable def xk_X3_sendOut (ct : Nat → Bool) (K : Kt) (R : Option AV → Hp → Prop) (n : Nat) : Kt := exkS 8 5 0 0 0 tb_X3_sendOut mt_X3_sendOut ct K R n
theorem xt_X3_sendOut {ct : Nat → Bool} {K : Kt} {R : Option AV → Hp → Prop} {n pc : Nat} {ls : List (Option AV)} {st : List AV} {σ : Hp} {k : Nat × Nat} (h : ct pc = true) : xk_X3_sendOut ct K R n pc ls st σ k = K pc ls st σ k := by unfold xk_X3_sendOut exkS; rw [h]
theorem xf_X3_sendOut {ct : Nat → Bool} {K : Kt} {R : Option AV → Hp → Prop} {n pc : Nat} {ls : List (Option AV)} {st : List AV} {σ : Hp} {k : Nat × Nat} (h : ct pc = false) : xk_X3_sendOut ct K R n pc ls st σ k = xe_X3_sendOut ct K R n pc ls st σ k := by unfold xk_X3_sendOut exkS xe_X3_sendOut; rw [h]
theorem ev_X3_sendOut_0 {ct : Nat → Bool} {K : Kt} {R : Option AV → Hp → Prop} {n : Nat} {ls : List (Option AV)} {st : List AV} {σ : Hp} {k : Nat × Nat} : xe_X3_sendOut ct K R (n + 1) 0 ls st σ k = (xk_X3_sendOut ct K R n 1 ls (vi (0) :: st) σ k) := exS_step.trans rfl
theorem ev_X3_sendOut_1 {ct : Nat → Bool} {K : Kt} {R : Option AV → Hp → Prop} {n : Nat} {ls : List (Option AV)} {st : List AV} {σ : Hp} {k : Nat × Nat} : xe_X3_sendOut ct K R (n + 1) 1 ls st σ k = (oI st fun x st => 5 < 8 ∧ xk_X3_sendOut ct K R n 3 (stL ls 5 (vi x)) st σ k) := exS_step.trans rfl
theorem ev_X3_sendOut_3 {ct : Nat → Bool} {K : Kt} {R : Option AV → Hp → Prop} {n : Nat} {ls : List (Option AV)} {st : List AV} {σ : Hp} {k : Nat × Nat} : xe_X3_sendOut ct K R (n + 1) 3 ls st σ k = (lI ls 5 fun x => xk_X3_sendOut ct K R n 5 ls (vi x :: st) σ k) := exS_step.trans rfl
theorem ev_X3_sendOut_5 {ct : Nat → Bool} {K : Kt} {R : Option AV → Hp → Prop} {n : Nat} {ls : List (Option AV)} {st : List AV} {σ : Hp} {k : Nat × Nat} : xe_X3_sendOut ct K R (n + 1) 5 ls st σ k = (lI ls 3 fun x => xk_X3_sendOut ct K R n 6 ls (vi x :: st) σ k) := exS_step.trans rfl
theorem ev_X3_sendOut_6 {ct : Nat → Bool} {K : Kt} {R : Option AV → Hp → Prop} {n : Nat} {ls : List (Option AV)} {st : List AV} {σ : Hp} {k : Nat × Nat} : xe_X3_sendOut ct K R (n + 1) 6 ls st σ k = (oI st fun y st => oI st fun x st => (wI y ≤ wI x → xk_X3_sendOut ct K R n 78 ls st σ k) ∧ (¬ (wI y ≤ wI x) → xk_X3_sendOut ct K R n 9 ls st σ k)) := exS_step.trans rfl
theorem ev_X3_sendOut_9 {ct : Nat → Bool} {K : Kt} {R : Option AV → Hp → Prop} {n : Nat} {ls : List (Option AV)} {st : List AV} {σ : Hp} {k : Nat × Nat} : xe_X3_sendOut ct K R (n + 1) 9 ls st σ k = (lR ls 0 fun x => xk_X3_sendOut ct K R n 10 ls (vr x :: st) σ k) := exS_step.trans rfl
theorem ev_X3_sendOut_10 {ct : Nat → Bool} {K : Kt} {R : Option AV → Hp → Prop} {n : Nat} {ls : List (Option AV)} {st : List AV} {σ : Hp} {k : Nat × Nat} : xe_X3_sendOut ct K R (n + 1) 10 ls st σ k = (lI ls 2 fun x => xk_X3_sendOut ct K R n 11 ls (vi x :: st) σ k) := exS_step.trans rfl
theorem ev_X3_sendOut_11 {ct : Nat → Bool} {K : Kt} {R : Option AV → Hp → Prop} {n : Nat} {ls : List (Option AV)} {st : List AV} {σ : Hp} {k : Nat × Nat} : xe_X3_sendOut ct K R (n + 1) 11 ls st σ k = (lR ls 1 fun x => xk_X3_sendOut ct K R n 12 ls (vr x :: st) σ k) := exS_step.trans rfl
theorem ev_X3_sendOut_12 {ct : Nat → Bool} {K : Kt} {R : Option AV → Hp → Prop} {n : Nat} {ls : List (Option AV)} {st : List AV} {σ : Hp} {k : Nat × Nat} : xe_X3_sendOut ct K R (n + 1) 12 ls st σ k = (oR st fun x st => kd σ x = 1 ∧ xk_X3_sendOut ct K R n 15 ls (vr (fR σ 100 x) :: st) σ k) := exS_step.trans rfl
theorem ev_X3_sendOut_15 {ct : Nat → Bool} {K : Kt} {R : Option AV → Hp → Prop} {n : Nat} {ls : List (Option AV)} {st : List AV} {σ : Hp} {k : Nat × Nat} : xe_X3_sendOut ct K R (n + 1) 15 ls st σ k = (popN 3 st [] fun av rest => (catS rest ≤ 8 ∧ 4 < 5 ∧ k.1 + 0 ≤ 0 ∧ k.2 + 0 ≤ 0) ∧ (sp_X3_nearestIn) av σ fun v σ' => xk_X3_sendOut ct K R n 18 ls (v.toList ++ rest) σ' (k.1 + 0, k.2 + 0)) := exS_step.trans rfl
theorem ev_X3_sendOut_18 {ct : Nat → Bool} {K : Kt} {R : Option AV → Hp → Prop} {n : Nat} {ls : List (Option AV)} {st : List AV} {σ : Hp} {k : Nat × Nat} : xe_X3_sendOut ct K R (n + 1) 18 ls st σ k = (oI st fun x st => 6 < 8 ∧ xk_X3_sendOut ct K R n 20 (stL ls 6 (vi x)) st σ k) := exS_step.trans rfl
theorem ev_X3_sendOut_20 {ct : Nat → Bool} {K : Kt} {R : Option AV → Hp → Prop} {n : Nat} {ls : List (Option AV)} {st : List AV} {σ : Hp} {k : Nat × Nat} : xe_X3_sendOut ct K R (n + 1) 20 ls st σ k = (lR ls 0 fun x => xk_X3_sendOut ct K R n 21 ls (vr x :: st) σ k) := exS_step.trans rfl
theorem ev_X3_sendOut_21 {ct : Nat → Bool} {K : Kt} {R : Option AV → Hp → Prop} {n : Nat} {ls : List (Option AV)} {st : List AV} {σ : Hp} {k : Nat × Nat} : xe_X3_sendOut ct K R (n + 1) 21 ls st σ k = (lI ls 6 fun x => xk_X3_sendOut ct K R n 23 ls (vi x :: st) σ k) := exS_step.trans rfl
theorem ev_X3_sendOut_23 {ct : Nat → Bool} {K : Kt} {R : Option AV → Hp → Prop} {n : Nat} {ls : List (Option AV)} {st : List AV} {σ : Hp} {k : Nat × Nat} : xe_X3_sendOut ct K R (n + 1) 23 ls st σ k = (popN 2 st [] fun av rest => (catS rest ≤ 8 ∧ 4 < 5 ∧ k.1 + 0 ≤ 0 ∧ k.2 + 0 ≤ 0) ∧ (sp_X3_companyOf) av σ fun v σ' => xk_X3_sendOut ct K R n 26 ls (v.toList ++ rest) σ' (k.1 + 0, k.2 + 0)) := exS_step.trans rfl
theorem ev_X3_sendOut_26 {ct : Nat → Bool} {K : Kt} {R : Option AV → Hp → Prop} {n : Nat} {ls : List (Option AV)} {st : List AV} {σ : Hp} {k : Nat × Nat} : xe_X3_sendOut ct K R (n + 1) 26 ls st σ k = (oR st fun x st => 7 < 8 ∧ xk_X3_sendOut ct K R n 28 (stL ls 7 (vr x)) st σ k) := exS_step.trans rfl
theorem ev_X3_sendOut_28 {ct : Nat → Bool} {K : Kt} {R : Option AV → Hp → Prop} {n : Nat} {ls : List (Option AV)} {st : List AV} {σ : Hp} {k : Nat × Nat} : xe_X3_sendOut ct K R (n + 1) 28 ls st σ k = (lR ls 7 fun x => xk_X3_sendOut ct K R n 30 ls (vr x :: st) σ k) := exS_step.trans rfl
theorem ev_X3_sendOut_30 {ct : Nat → Bool} {K : Kt} {R : Option AV → Hp → Prop} {n : Nat} {ls : List (Option AV)} {st : List AV} {σ : Hp} {k : Nat × Nat} : xe_X3_sendOut ct K R (n + 1) 30 ls st σ k = (oR st fun x st => (¬ x = 0 → xk_X3_sendOut ct K R n 34 ls st σ k) ∧ (x = 0 → xk_X3_sendOut ct K R n 33 ls st σ k)) := exS_step.trans rfl
theorem ev_X3_sendOut_33 {ct : Nat → Bool} {K : Kt} {R : Option AV → Hp → Prop} {n : Nat} {ls : List (Option AV)} {st : List AV} {σ : Hp} {k : Nat × Nat} : xe_X3_sendOut ct K R (n + 1) 33 ls st σ k = (st = [] ∧ 0 = 0 ∧ R none σ) := exS_step.trans rfl
theorem ev_X3_sendOut_34 {ct : Nat → Bool} {K : Kt} {R : Option AV → Hp → Prop} {n : Nat} {ls : List (Option AV)} {st : List AV} {σ : Hp} {k : Nat × Nat} : xe_X3_sendOut ct K R (n + 1) 34 ls st σ k = (lR ls 7 fun x => xk_X3_sendOut ct K R n 36 ls (vr x :: st) σ k) := exS_step.trans rfl
theorem ev_X3_sendOut_36 {ct : Nat → Bool} {K : Kt} {R : Option AV → Hp → Prop} {n : Nat} {ls : List (Option AV)} {st : List AV} {σ : Hp} {k : Nat × Nat} : xe_X3_sendOut ct K R (n + 1) 36 ls st σ k = (xk_X3_sendOut ct K R n 37 ls (vi (1) :: st) σ k) := exS_step.trans rfl
theorem ev_X3_sendOut_37 {ct : Nat → Bool} {K : Kt} {R : Option AV → Hp → Prop} {n : Nat} {ls : List (Option AV)} {st : List AV} {σ : Hp} {k : Nat × Nat} : xe_X3_sendOut ct K R (n + 1) 37 ls st σ k = (oI st fun v st => oR st fun x st => kd σ x = 6 ∧ (v = 0 ∨ v = 1) ∧ xk_X3_sendOut ct K R n 40 ls st (pI σ 603 x v) k) := exS_step.trans rfl
theorem ev_X3_sendOut_40 {ct : Nat → Bool} {K : Kt} {R : Option AV → Hp → Prop} {n : Nat} {ls : List (Option AV)} {st : List AV} {σ : Hp} {k : Nat × Nat} : xe_X3_sendOut ct K R (n + 1) 40 ls st σ k = (lR ls 7 fun x => xk_X3_sendOut ct K R n 42 ls (vr x :: st) σ k) := exS_step.trans rfl
theorem ev_X3_sendOut_42 {ct : Nat → Bool} {K : Kt} {R : Option AV → Hp → Prop} {n : Nat} {ls : List (Option AV)} {st : List AV} {σ : Hp} {k : Nat × Nat} : xe_X3_sendOut ct K R (n + 1) 42 ls st σ k = (lI ls 4 fun x => xk_X3_sendOut ct K R n 44 ls (vi x :: st) σ k) := exS_step.trans rfl
theorem ev_X3_sendOut_44 {ct : Nat → Bool} {K : Kt} {R : Option AV → Hp → Prop} {n : Nat} {ls : List (Option AV)} {st : List AV} {σ : Hp} {k : Nat × Nat} : xe_X3_sendOut ct K R (n + 1) 44 ls st σ k = (lR ls 0 fun x => xk_X3_sendOut ct K R n 45 ls (vr x :: st) σ k) := exS_step.trans rfl
theorem ev_X3_sendOut_45 {ct : Nat → Bool} {K : Kt} {R : Option AV → Hp → Prop} {n : Nat} {ls : List (Option AV)} {st : List AV} {σ : Hp} {k : Nat × Nat} : xe_X3_sendOut ct K R (n + 1) 45 ls st σ k = (oR st fun x st => kd σ x = 4 ∧ xk_X3_sendOut ct K R n 48 ls (vi (fI σ 404 x) :: st) σ k) := exS_step.trans rfl
theorem ev_X3_sendOut_48 {ct : Nat → Bool} {K : Kt} {R : Option AV → Hp → Prop} {n : Nat} {ls : List (Option AV)} {st : List AV} {σ : Hp} {k : Nat × Nat} : xe_X3_sendOut ct K R (n + 1) 48 ls st σ k = (lR ls 0 fun x => xk_X3_sendOut ct K R n 49 ls (vr x :: st) σ k) := exS_step.trans rfl
theorem ev_X3_sendOut_49 {ct : Nat → Bool} {K : Kt} {R : Option AV → Hp → Prop} {n : Nat} {ls : List (Option AV)} {st : List AV} {σ : Hp} {k : Nat × Nat} : xe_X3_sendOut ct K R (n + 1) 49 ls st σ k = (lR ls 7 fun x => xk_X3_sendOut ct K R n 51 ls (vr x :: st) σ k) := exS_step.trans rfl
theorem ev_X3_sendOut_51 {ct : Nat → Bool} {K : Kt} {R : Option AV → Hp → Prop} {n : Nat} {ls : List (Option AV)} {st : List AV} {σ : Hp} {k : Nat × Nat} : xe_X3_sendOut ct K R (n + 1) 51 ls st σ k = (oR st fun x st => kd σ x = 6 ∧ xk_X3_sendOut ct K R n 54 ls (vi (fI σ 602 x) :: st) σ k) := exS_step.trans rfl
theorem ev_X3_sendOut_54 {ct : Nat → Bool} {K : Kt} {R : Option AV → Hp → Prop} {n : Nat} {ls : List (Option AV)} {st : List AV} {σ : Hp} {k : Nat × Nat} : xe_X3_sendOut ct K R (n + 1) 54 ls st σ k = (lR ls 1 fun x => xk_X3_sendOut ct K R n 55 ls (vr x :: st) σ k) := exS_step.trans rfl
theorem ev_X3_sendOut_55 {ct : Nat → Bool} {K : Kt} {R : Option AV → Hp → Prop} {n : Nat} {ls : List (Option AV)} {st : List AV} {σ : Hp} {k : Nat × Nat} : xe_X3_sendOut ct K R (n + 1) 55 ls st σ k = (oR st fun x st => kd σ x = 1 ∧ xk_X3_sendOut ct K R n 58 ls (vr (fR σ 100 x) :: st) σ k) := exS_step.trans rfl
theorem ev_X3_sendOut_58 {ct : Nat → Bool} {K : Kt} {R : Option AV → Hp → Prop} {n : Nat} {ls : List (Option AV)} {st : List AV} {σ : Hp} {k : Nat × Nat} : xe_X3_sendOut ct K R (n + 1) 58 ls st σ k = (popN 3 st [] fun av rest => (catS rest ≤ 8 ∧ 2 < 5 ∧ k.1 + 0 ≤ 0 ∧ k.2 + 0 ≤ 0) ∧ (sp_X3_wayTo) av σ fun v σ' => xk_X3_sendOut ct K R n 61 ls (v.toList ++ rest) σ' (k.1 + 0, k.2 + 0)) := exS_step.trans rfl
theorem ev_X3_sendOut_61 {ct : Nat → Bool} {K : Kt} {R : Option AV → Hp → Prop} {n : Nat} {ls : List (Option AV)} {st : List AV} {σ : Hp} {k : Nat × Nat} : xe_X3_sendOut ct K R (n + 1) 61 ls st σ k = (oI st fun y st => oI st fun x st => xk_X3_sendOut ct K R n 62 ls (vi (x * y) :: st) σ k) := exS_step.trans rfl
theorem ev_X3_sendOut_62 {ct : Nat → Bool} {K : Kt} {R : Option AV → Hp → Prop} {n : Nat} {ls : List (Option AV)} {st : List AV} {σ : Hp} {k : Nat × Nat} : xe_X3_sendOut ct K R (n + 1) 62 ls st σ k = (oI st fun y st => oI st fun x st => xk_X3_sendOut ct K R n 63 ls (vi (x + y) :: st) σ k) := exS_step.trans rfl
theorem ev_X3_sendOut_63 {ct : Nat → Bool} {K : Kt} {R : Option AV → Hp → Prop} {n : Nat} {ls : List (Option AV)} {st : List AV} {σ : Hp} {k : Nat × Nat} : xe_X3_sendOut ct K R (n + 1) 63 ls st σ k = (oI st fun v st => oR st fun x st => kd σ x = 6 ∧ xk_X3_sendOut ct K R n 66 ls st (pI σ 604 x v) k) := exS_step.trans rfl
theorem ev_X3_sendOut_66 {ct : Nat → Bool} {K : Kt} {R : Option AV → Hp → Prop} {n : Nat} {ls : List (Option AV)} {st : List AV} {σ : Hp} {k : Nat × Nat} : xe_X3_sendOut ct K R (n + 1) 66 ls st σ k = (lR ls 1 fun x => xk_X3_sendOut ct K R n 67 ls (vr x :: st) σ k) := exS_step.trans rfl
theorem ev_X3_sendOut_67 {ct : Nat → Bool} {K : Kt} {R : Option AV → Hp → Prop} {n : Nat} {ls : List (Option AV)} {st : List AV} {σ : Hp} {k : Nat × Nat} : xe_X3_sendOut ct K R (n + 1) 67 ls st σ k = (lI ls 6 fun x => xk_X3_sendOut ct K R n 69 ls (vi x :: st) σ k) := exS_step.trans rfl
theorem ev_X3_sendOut_69 {ct : Nat → Bool} {K : Kt} {R : Option AV → Hp → Prop} {n : Nat} {ls : List (Option AV)} {st : List AV} {σ : Hp} {k : Nat × Nat} : xe_X3_sendOut ct K R (n + 1) 69 ls st σ k = (popN 2 st [] fun av rest => (catS rest ≤ 8 ∧ 1 < 5 ∧ k.1 + 0 ≤ 0 ∧ k.2 + 0 ≤ 0) ∧ (sp_X0_addCompany) av σ fun v σ' => xk_X3_sendOut ct K R n 72 ls (v.toList ++ rest) σ' (k.1 + 0, k.2 + 0)) := exS_step.trans rfl
theorem ev_X3_sendOut_72 {ct : Nat → Bool} {K : Kt} {R : Option AV → Hp → Prop} {n : Nat} {ls : List (Option AV)} {st : List AV} {σ : Hp} {k : Nat × Nat} : xe_X3_sendOut ct K R (n + 1) 72 ls st σ k = (lI ls 5 fun x => 5 < 8 ∧ xk_X3_sendOut ct K R n 75 (stL ls 5 (vi (x + (1)))) st σ k) := exS_step.trans rfl
theorem ev_X3_sendOut_75 {ct : Nat → Bool} {K : Kt} {R : Option AV → Hp → Prop} {n : Nat} {ls : List (Option AV)} {st : List AV} {σ : Hp} {k : Nat × Nat} : xe_X3_sendOut ct K R (n + 1) 75 ls st σ k = (xk_X3_sendOut ct K R n 3 ls st σ k) := exS_step.trans rfl
theorem ev_X3_sendOut_78 {ct : Nat → Bool} {K : Kt} {R : Option AV → Hp → Prop} {n : Nat} {ls : List (Option AV)} {st : List AV} {σ : Hp} {k : Nat × Nat} : xe_X3_sendOut ct K R (n + 1) 78 ls st σ k = (st = [] ∧ 0 = 0 ∧ R none σ) := exS_step.trans rfl
def M_X3_sendOut : Md := (yX3_sendOut, cX3_sendOut, 8, (none : Option FieldType), 5, 0, 0, 0, false, tb_X3_sendOut, mt_X3_sendOut)
theorem mm_X3_sendOut : MMOK M_X3_sendOut := ⟨by decide +kernel, tk_X3_sendOut, mk_X3_sendOut, rfl, fun h => by cases h⟩
theorem go_X3_sendOut {Q : Option AV → Hp → Prop} {ct : Nat → Bool} {pc : Nat} {ls : List (Option AV)} {st : List AV} {σ : Hp} {k : Nat × Nat} (n : Nat) (h : xe_X3_sendOut ct (Go M_X3_sendOut Q) Q n pc ls st σ k) : Go M_X3_sendOut Q pc ls st σ k := Go.exS mm_X3_sendOut h

set_option maxRecDepth 20000 in
theorem send_3 {Q : Option AV → Hp → Prop} {σ0 : Hp} {al kn n a bp : Int} (hkn : 0 ≤ kn ∧ kn ≤ 1) (hn : 0 ≤ n ∧ n ≤ 9) (ha : 0 ≤ a ∧ a < 100) : ∀ (m : Nat) (i : Int) (σ τ : Hp) (a6 a7 : Option AV), 0 ≤ i → i + m = n → CLay σ → BG σ τ → MI τ → AlS σ τ a al → fR σ 100 al = bp → kd σ bp = 3 → fI σ 305 bp = aI τ 65 (aI τ 109 a) → fI σ 306 bp = aI τ 66 (aI τ 109 a) → aI τ 115 a ≤ mTo τ a → Fz sndF (fun r => r = al + 1) noR σ0 σ →
    (∀ σ', BG σ' (mSends τ a kn m) → AlS σ' (mSends τ a kn m) a al → Fz sndF (fun r => r = al + 1) noR σ0 σ' → Q none σ') →
    Go M_X3_sendOut Q 3 [some (vr 15), some (vr al), some (vi kn), some (vi n), some (vi (fI τ 1301 61)), some (vi i), a6, a7] [] σ (0, 0) := by
  intro m
  induction m with
  | zero =>
    intro i σ τ a6 a7 hi hin hC hG hI hS hb hkb hx hy hm hz h
    have h := h σ hG hS hz
    have hk : kd σ 15 = 4 := by simp only [hC.eqs]
    clear hG hI hS hz
    refine go_X3_sendOut (ct := fun p => p == 9) 40 ?_
    simp only [oI, oL, oR, o1, lI, lL, lR, popN, catS, gv, stL, stL2, swt, cnd, spObj, List.getElem?_cons_zero, List.getElem?_cons_succ, List.getD_cons_zero, List.getD_cons_succ, List.set_cons_zero, List.set_cons_succ, List.nil_append, List.cons_append, Option.toList, Bool.or_false, Bool.false_or, Bool.or_true, Bool.true_or, Nat.reduceBEq, Nat.reduceAdd, Nat.reduceLT, Nat.reduceLeDiff, Int.reduceAdd, Int.reduceToNat, true_and, and_true, Fin.isValue, Fin.val_zero, Fin.val_one, Fin.val_two, Fin.reduceFinMk, eq_self, Int.reduceNeg, imp_self, Nat.reduceMul, Nat.le_refl, not_true_eq_false, not_false_eq_true, List.getElem?_nil, reduceCtorEq, true_or, or_true, Classical.not_not, implies_true, or_self, wI_0, wI_1, wI_m1, b2i_w, b2i_eq0, b2i_eq1, b2i_bool, nor_self, nx_pI, kd_pI, ln_pI, fI_pI, fL_pI, fR_pI, aI_pI, aL_pI, aR_pI, nx_pL, kd_pL, ln_pL, fI_pL, fL_pL, fR_pL, aI_pL, aL_pL, aR_pL, nx_pR, kd_pR, ln_pR, fI_pR, fL_pR, fR_pR, aI_pR, aL_pR, aR_pR, nx_qI, kd_qI, ln_qI, fI_qI, fL_qI, fR_qI, aI_qI, aL_qI, aR_qI, nx_qL, kd_qL, ln_qL, fI_qL, fL_qL, fR_qL, aI_qL, aL_qL, aR_qL, nx_qR, kd_qR, ln_qR, fI_qR, fL_qR, fR_qR, aI_qR, aL_qR, aR_qR, nx_mk, kd_mk, ln_mk, fI_mk, fL_mk, fR_mk, aI_mk, aL_mk, aR_mk, false_and, and_false, if_false, if_true, and_self, Int.reduceEq, Nat.reduceEqDiff, ite_self, MLay_pI, MLay_pL, MLay_qI, MLay_qL, ev_X3_sendOut_3, ev_X3_sendOut_5, ev_X3_sendOut_6, ev_X3_sendOut_78, xt_X3_sendOut, xf_X3_sendOut, us_X3_nearestIn, us_X3_companyOf, us_X3_wayTo, us_X0_addCompany]
    try simp (disch := omega) only [wI_id, dv_nn, rm_nn]
    repeat' (first | intro z | apply And.intro)
    all_goals try omega
    all_goals try contradiction
    all_goals exact h
  | succ m ih =>
    intro i σ τ a6 a7 hi hin hC hG hI hS hb hkb hx hy hm hz h
    have hk : kd σ 15 = 4 := by simp only [hC.eqs]
    have hs := hI.companies_s
    have hbest := mBest_in τ kn (aI τ 109 a) (fI τ 1335 61).toNat
    have hkal := hS.2.1
    have near : ∃ τ b, BG σ τ ∧ MI τ ∧ fI σ 305 bp = aI τ 65 b ∧ fI σ 306 bp = aI τ 66 b ∧ True := ⟨τ, aI τ 109 a, hG, hI, hx, hy, trivial⟩
    unfold mSends at h
    have w18 : Go M_X3_sendOut Q 18 [some (vr 15), some (vr al), some (vi kn), some (vi n), some (vi (fI τ 1301 61)), some (vi i), a6, a7] [vi (mBest τ kn (aI τ 109 a) (fI τ 1335 61).toNat)] σ (0, 0) := by
      generalize mBest τ kn (aI τ 109 a) (fI τ 1335 61).toNat = c at hbest h
      have hsz := hG.2.1
      have hL5 := hG.1
      have hci : inR c := by unfold inR; omega
      by_cases hc : c < 0
      · rw [if_pos hc] at h
        have h := h σ hG hS hz
        have ec : (if 0 ≤ c ∧ c < fI τ 1335 61 then lat σ 18 c else 0) = 0 := if_neg (by omega)
        clear hG hI hS hz near ih
        refine go_X3_sendOut (ct := fun p => p == 34) 40 ?_
        simp only [oI, oL, oR, o1, lI, lL, lR, popN, catS, gv, stL, stL2, swt, cnd, spObj, List.getElem?_cons_zero, List.getElem?_cons_succ, List.getD_cons_zero, List.getD_cons_succ, List.set_cons_zero, List.set_cons_succ, List.nil_append, List.cons_append, Option.toList, Bool.or_false, Bool.false_or, Bool.or_true, Bool.true_or, Nat.reduceBEq, Nat.reduceAdd, Nat.reduceLT, Nat.reduceLeDiff, Int.reduceAdd, Int.reduceToNat, true_and, and_true, Fin.isValue, Fin.val_zero, Fin.val_one, Fin.val_two, Fin.reduceFinMk, eq_self, Int.reduceNeg, imp_self, Nat.reduceMul, Nat.le_refl, not_true_eq_false, not_false_eq_true, List.getElem?_nil, reduceCtorEq, true_or, or_true, Classical.not_not, implies_true, or_self, wI_0, wI_1, wI_m1, b2i_w, b2i_eq0, b2i_eq1, b2i_bool, nor_self, nx_pI, kd_pI, ln_pI, fI_pI, fL_pI, fR_pI, aI_pI, aL_pI, aR_pI, nx_pL, kd_pL, ln_pL, fI_pL, fL_pL, fR_pL, aI_pL, aL_pL, aR_pL, nx_pR, kd_pR, ln_pR, fI_pR, fL_pR, fR_pR, aI_pR, aL_pR, aR_pR, nx_qI, kd_qI, ln_qI, fI_qI, fL_qI, fR_qI, aI_qI, aL_qI, aR_qI, nx_qL, kd_qL, ln_qL, fI_qL, fL_qL, fR_qL, aI_qL, aL_qL, aR_qL, nx_qR, kd_qR, ln_qR, fI_qR, fL_qR, fR_qR, aI_qR, aL_qR, aR_qR, nx_mk, kd_mk, ln_mk, fI_mk, fL_mk, fR_mk, aI_mk, aL_mk, aR_mk, false_and, and_false, if_false, if_true, and_self, Int.reduceEq, Nat.reduceEqDiff, ite_self, MLay_pI, MLay_pL, MLay_qI, MLay_qL, ev_X3_sendOut_18, ev_X3_sendOut_20, ev_X3_sendOut_21, ev_X3_sendOut_23, ev_X3_sendOut_26, ev_X3_sendOut_28, ev_X3_sendOut_30, ev_X3_sendOut_33, xt_X3_sendOut, xf_X3_sendOut, us_X3_nearestIn, us_X3_companyOf, us_X3_wayTo, us_X0_addCompany, hC.eqs, hC, hL5, hci, hsz, ec]
        repeat' (first | intro z | apply And.intro)
        all_goals try omega
        all_goals try contradiction
        all_goals exact h
      · rw [if_neg hc] at h
        have h2 := hbest.2.2 (by omega)
        have hcr : 0 ≤ c ∧ c < fI τ 1335 61 := by omega
        have ec : (if 0 ≤ c ∧ c < fI τ 1335 61 then lat σ 18 c else 0) = lat σ 18 c := if_pos hcr
        have hkc : kd σ (lat σ 18 c) = 6 := hL5.2.2.2.2.2 c (by omega) (by omega)
        have hco := hG.2.2.1 c hcr.1 hcr.2
        have h4 := mTo_snd (a := a) hI (c := c) hcr h2.2
        have hsm := hI.sentMany_ a
        have hto : 0 ≤ mTo τ a := (hwM_in _ _).1
        have hT2 := MI_mSnd hI (a := a) (c := c) ha (by omega) (by omega)
        have hst := (hco.2.2.2.2.1 h2.2).2
        have hwb := hco.2.2.2.2.2
        have hpos := hco.1
        have e1 : aI (mSnd τ a c) 109 a = aI τ 109 a := by simp [mSnd, aI_qI]
        have e2 : aI (mSnd τ a c) 115 a = aI τ 115 a + 1 := by simp [mSnd, aI_qI]
        have e3 : aI (mSnd τ a c) 65 = aI τ 65 := by funext j; simp [mSnd, aI_qI]
        have e4 : aI (mSnd τ a c) 66 = aI τ 66 := by funext j; simp [mSnd, aI_qI]
        have e5 : fI (mSnd τ a c) 1301 61 = fI τ 1301 61 := rfl
        have hwx := hG.cWay hx hy (aI τ 89 c)
        have hwi := mWay_in hI (aI τ 89 c) (aI τ 109 a)
        have hx9 := hI.x_ (aI τ 109 a)
        have hy9 := hI.y_ (aI τ 109 a)
        have hxr : 0 ≤ fI σ 305 bp ∧ fI σ 305 bp ≤ 99 := by omega
        have hyr : 0 ≤ fI σ 306 bp ∧ fI σ 306 bp ≤ 99 := by omega
        have hwy := hG.way hI
        have hpc := hG.2.2.2.2.2.2.1
        have hzz := Fz_cSnd σ al c (fI τ 1301 61 + fI τ 1341 61 * mWay τ (aI τ 89 c) (aI τ 109 a))
        have w := ih (i + 1) (cSnd σ al c (fI τ 1301 61 + fI τ 1341 61 * mWay τ (aI τ 89 c) (aI τ 109 a))) (mSnd τ a c) (some (vi c)) (some (vr (lat σ 18 c))) (by omega) (by omega) (hC.fz hzz (by decide)) (BG_cSnd hG hS.1 hcr rfl) hT2 (AlS_cSnd hS hsm.1)
          (by rw [hzz.fR (by decide)]; exact hb) (by rw [hzz.kd]; exact hkb) (by rw [hzz.fI (by decide), e1, e3]; exact hx) (by rw [hzz.fI (by decide), e1, e4]; exact hy) (by omega) (hz.tr hzz) h
        rw [e5] at w
        obtain ⟨s1, -, s3, s4, s5, s6, -⟩ := hS
        have hcm : 0 ≤ fI σ 103 al ∧ fI σ 103 al < 20 := by omega
        unfold cSnd at w
        clear ih h near hG hI hz hzz hT2 e1 e2 e3 e4 e5 h4 hx hy hx9 hy9 hco
        have hne : ¬ al = lat σ 18 c := fun z => by rw [← z, hkal] at hkc; omega
        refine go_X3_sendOut (ct := fun p => p == 3 || p == 33) 80 ?_
        simp only [oI, oL, oR, o1, lI, lL, lR, popN, catS, gv, stL, stL2, swt, cnd, spObj, List.getElem?_cons_zero, List.getElem?_cons_succ, List.getD_cons_zero, List.getD_cons_succ, List.set_cons_zero, List.set_cons_succ, List.nil_append, List.cons_append, Option.toList, Bool.or_false, Bool.false_or, Bool.or_true, Bool.true_or, Nat.reduceBEq, Nat.reduceAdd, Nat.reduceLT, Nat.reduceLeDiff, Int.reduceAdd, Int.reduceToNat, true_and, and_true, Fin.isValue, Fin.val_zero, Fin.val_one, Fin.val_two, Fin.reduceFinMk, eq_self, Int.reduceNeg, imp_self, Nat.reduceMul, Nat.le_refl, not_true_eq_false, not_false_eq_true, List.getElem?_nil, reduceCtorEq, true_or, or_true, Classical.not_not, implies_true, or_self, wI_0, wI_1, wI_m1, b2i_w, b2i_eq0, b2i_eq1, b2i_bool, nor_self, nx_pI, kd_pI, ln_pI, fI_pI, fL_pI, fR_pI, aI_pI, aL_pI, aR_pI, nx_pL, kd_pL, ln_pL, fI_pL, fL_pL, fR_pL, aI_pL, aL_pL, aR_pL, nx_pR, kd_pR, ln_pR, fI_pR, fL_pR, fR_pR, aI_pR, aL_pR, aR_pR, nx_qI, kd_qI, ln_qI, fI_qI, fL_qI, fR_qI, aI_qI, aL_qI, aR_qI, nx_qL, kd_qL, ln_qL, fI_qL, fL_qL, fR_qL, aI_qL, aL_qL, aR_qL, nx_qR, kd_qR, ln_qR, fI_qR, fL_qR, fR_qR, aI_qR, aL_qR, aR_qR, nx_mk, kd_mk, ln_mk, fI_mk, fL_mk, fR_mk, aI_mk, aL_mk, aR_mk, false_and, and_false, if_false, if_true, and_self, Int.reduceEq, Nat.reduceEqDiff, ite_self, MLay_pI, MLay_pL, MLay_qI, MLay_qL, ev_X3_sendOut_18, ev_X3_sendOut_20, ev_X3_sendOut_21, ev_X3_sendOut_23, ev_X3_sendOut_26, ev_X3_sendOut_28, ev_X3_sendOut_30, ev_X3_sendOut_33, ev_X3_sendOut_34, ev_X3_sendOut_36, ev_X3_sendOut_37, ev_X3_sendOut_40, ev_X3_sendOut_42, ev_X3_sendOut_44, ev_X3_sendOut_45, ev_X3_sendOut_48, ev_X3_sendOut_49, ev_X3_sendOut_51, ev_X3_sendOut_54, ev_X3_sendOut_55, ev_X3_sendOut_58, ev_X3_sendOut_61, ev_X3_sendOut_62, ev_X3_sendOut_63, ev_X3_sendOut_66, ev_X3_sendOut_67, ev_X3_sendOut_69, ev_X3_sendOut_72, ev_X3_sendOut_75, xt_X3_sendOut, xf_X3_sendOut, us_X3_nearestIn, us_X3_companyOf, us_X3_wayTo, us_X0_addCompany, hC.eqs, hC, hL5, hci, hsz, ec, hkc, hkal, hb, hkb, hst, hwx, hxr, hyr, hwy, hpc, s3, s4, s5, CLay_pI, cWay_603]
        repeat' (first | intro z | apply And.intro)
        all_goals try omega
        all_goals try contradiction
        all_goals first | exact w | skip
    have w18' := w18
    clear w18 h ih
    refine go_X3_sendOut (ct := fun p => p == 78 || p == 18) 40 ?_
    simp only [oI, oL, oR, o1, lI, lL, lR, popN, catS, gv, stL, stL2, swt, cnd, spObj, List.getElem?_cons_zero, List.getElem?_cons_succ, List.getD_cons_zero, List.getD_cons_succ, List.set_cons_zero, List.set_cons_succ, List.nil_append, List.cons_append, Option.toList, Bool.or_false, Bool.false_or, Bool.or_true, Bool.true_or, Nat.reduceBEq, Nat.reduceAdd, Nat.reduceLT, Nat.reduceLeDiff, Int.reduceAdd, Int.reduceToNat, true_and, and_true, Fin.isValue, Fin.val_zero, Fin.val_one, Fin.val_two, Fin.reduceFinMk, eq_self, Int.reduceNeg, imp_self, Nat.reduceMul, Nat.le_refl, not_true_eq_false, not_false_eq_true, List.getElem?_nil, reduceCtorEq, true_or, or_true, Classical.not_not, implies_true, or_self, wI_0, wI_1, wI_m1, b2i_w, b2i_eq0, b2i_eq1, b2i_bool, nor_self, nx_pI, kd_pI, ln_pI, fI_pI, fL_pI, fR_pI, aI_pI, aL_pI, aR_pI, nx_pL, kd_pL, ln_pL, fI_pL, fL_pL, fR_pL, aI_pL, aL_pL, aR_pL, nx_pR, kd_pR, ln_pR, fI_pR, fL_pR, fR_pR, aI_pR, aL_pR, aR_pR, nx_qI, kd_qI, ln_qI, fI_qI, fL_qI, fR_qI, aI_qI, aL_qI, aR_qI, nx_qL, kd_qL, ln_qL, fI_qL, fL_qL, fR_qL, aI_qL, aL_qL, aR_qL, nx_qR, kd_qR, ln_qR, fI_qR, fL_qR, fR_qR, aI_qR, aL_qR, aR_qR, nx_mk, kd_mk, ln_mk, fI_mk, fL_mk, fR_mk, aI_mk, aL_mk, aR_mk, false_and, and_false, if_false, if_true, and_self, Int.reduceEq, Nat.reduceEqDiff, ite_self, MLay_pI, MLay_pL, MLay_qI, MLay_qL, ev_X3_sendOut_3, ev_X3_sendOut_5, ev_X3_sendOut_6, ev_X3_sendOut_9, ev_X3_sendOut_10, ev_X3_sendOut_11, ev_X3_sendOut_12, ev_X3_sendOut_15, xt_X3_sendOut, xf_X3_sendOut, us_X3_nearestIn, us_X3_companyOf, us_X3_wayTo, us_X0_addCompany, hC.eqs, hC, hkn, hkal, hb, hkb]
    try simp (disch := omega) only [wI_id, dv_nn, rm_nn]
    repeat' (first | intro z | apply And.intro)
    all_goals try omega
    all_goals try contradiction
    all_goals first | exact w18' | (exact ⟨τ, _, hG, hI, hx, hy, w18'⟩)

set_option maxRecDepth 20000 in
theorem c_X3_sendOut : Ct yX3_sendOut cX3_sendOut 8 ((none : Option FieldType)) 5 0 0 sp_X3_sendOut := by
  refine Ct.go (M := M_X3_sendOut) mm_X3_sendOut fun av σ Q h0 => ?_
  obtain ⟨this, al, kn, n, t, rfl, hk, h⟩ := el_X3_sendOut h0
  clear h0
  refine ⟨Nat.le_of_ble_eq_true rfl, ?_⟩
  show Go M_X3_sendOut Q 0 [some (vr this), some (vr al), some (vi kn), some (vi n), some (vi t), none, none, none] [] σ (0, 0)
  obtain ⟨rfl, hC, hkn, hn, τ, a, hG, hI, ha, hS, rfl, ⟨hkb, hx, hy⟩, hm, h⟩ := h
  have w := send_3 (Q := Q) (σ0 := σ) hkn hn ha n.toNat 0 σ τ none none (Int.le_refl 0) (by omega) hC hG hI hS rfl hkb hx hy hm (Fz.rf σ) h
  clear h
  refine go_X3_sendOut (ct := fun p => p == 3) 20 ?_
  simp only [oI, oL, oR, o1, lI, lL, lR, popN, catS, gv, stL, stL2, swt, cnd, spObj, List.getElem?_cons_zero, List.getElem?_cons_succ, List.getD_cons_zero, List.getD_cons_succ, List.set_cons_zero, List.set_cons_succ, List.nil_append, List.cons_append, Option.toList, Bool.or_false, Bool.false_or, Bool.or_true, Bool.true_or, Nat.reduceBEq, Nat.reduceAdd, Nat.reduceLT, Nat.reduceLeDiff, Int.reduceAdd, Int.reduceToNat, true_and, and_true, Fin.isValue, Fin.val_zero, Fin.val_one, Fin.val_two, Fin.reduceFinMk, eq_self, Int.reduceNeg, imp_self, Nat.reduceMul, Nat.le_refl, not_true_eq_false, not_false_eq_true, List.getElem?_nil, reduceCtorEq, true_or, or_true, Classical.not_not, implies_true, or_self, wI_0, wI_1, wI_m1, b2i_w, b2i_eq0, b2i_eq1, b2i_bool, nor_self, nx_pI, kd_pI, ln_pI, fI_pI, fL_pI, fR_pI, aI_pI, aL_pI, aR_pI, nx_pL, kd_pL, ln_pL, fI_pL, fL_pL, fR_pL, aI_pL, aL_pL, aR_pL, nx_pR, kd_pR, ln_pR, fI_pR, fL_pR, fR_pR, aI_pR, aL_pR, aR_pR, nx_qI, kd_qI, ln_qI, fI_qI, fL_qI, fR_qI, aI_qI, aL_qI, aR_qI, nx_qL, kd_qL, ln_qL, fI_qL, fL_qL, fR_qL, aI_qL, aL_qL, aR_qL, nx_qR, kd_qR, ln_qR, fI_qR, fL_qR, fR_qR, aI_qR, aL_qR, aR_qR, nx_mk, kd_mk, ln_mk, fI_mk, fL_mk, fR_mk, aI_mk, aL_mk, aR_mk, false_and, and_false, if_false, if_true, and_self, Int.reduceEq, Nat.reduceEqDiff, ite_self, MLay_pI, MLay_pL, MLay_qI, MLay_qL, ev_X3_sendOut_0, ev_X3_sendOut_1, xt_X3_sendOut, xf_X3_sendOut, us_X3_nearestIn, us_X3_companyOf, us_X3_wayTo, us_X0_addCompany]
  exact w

/-- the companies of an alarm come home -/
def cHm (σ : Hp) (al : Int) : Nat → Hp
  | 0 => σ
  | i + 1 => pI (pI (cHm σ al i) 603 (lat σ 18 (aI σ (al + 1) i)) 0) 602 (lat σ 18 (aI σ (al + 1) i)) (fI σ 601 (lat σ 18 (aI σ (al + 1) i)))
theorem Fz_cHm (σ : Hp) (al : Int) : ∀ n : Nat, Fz [603, 602] noR noR σ (cHm σ al n)
  | 0 => Fz.rf σ
  | n + 1 => (Fz_cHm σ al n).tr ((Fz_pI (f := 603) _ _ _ (by decide)).tr (Fz_pI (f := 602) _ _ _ (by decide)))

def sp_X3_bringHome : Sp := fun av σ Q => oR av fun this av => oR av fun al av => av = [] ∧ kd σ this = 4 ∧ (this = 15 ∧ CLay σ ∧ LOk σ 18 5 ∧ kd σ al = 1 ∧ fR σ 102 al = al + 1 ∧ (kd σ (al + 1) = 101 ∧ ln σ (al + 1) = 20) ∧ (0 ≤ fI σ 103 al ∧ fI σ 103 al ≤ 20) ∧ (∀ i, 0 ≤ i → i < fI σ 103 al → 0 ≤ aI σ (al + 1) i ∧ aI σ (al + 1) i < fI σ 1402 18) ∧ Q none (cHm σ al (fI σ 103 al).toNat))
theorem us_X3_bringHome (this : Int) (al : Int) (σ : Hp) (Q : Option AV → Hp → Prop) : sp_X3_bringHome [vr this, vr al] σ Q = (kd σ this = 4 ∧ (this = 15 ∧ CLay σ ∧ LOk σ 18 5 ∧ kd σ al = 1 ∧ fR σ 102 al = al + 1 ∧ (kd σ (al + 1) = 101 ∧ ln σ (al + 1) = 20) ∧ (0 ≤ fI σ 103 al ∧ fI σ 103 al ≤ 20) ∧ (∀ i, 0 ≤ i → i < fI σ 103 al → 0 ≤ aI σ (al + 1) i ∧ aI σ (al + 1) i < fI σ 1402 18) ∧ Q none (cHm σ al (fI σ 103 al).toNat))) := propext ⟨fun h => h.2, fun h => ⟨rfl, h⟩⟩
theorem el_X3_bringHome {av : List AV} {σ : Hp} {Q : Option AV → Hp → Prop} (h : sp_X3_bringHome av σ Q) : ∃ (this : Int) (al : Int), av = [vr this, vr al] ∧ (kd σ this = 4 ∧ (this = 15 ∧ CLay σ ∧ LOk σ 18 5 ∧ kd σ al = 1 ∧ fR σ 102 al = al + 1 ∧ (kd σ (al + 1) = 101 ∧ ln σ (al + 1) = 20) ∧ (0 ≤ fI σ 103 al ∧ fI σ 103 al ≤ 20) ∧ (∀ i, 0 ≤ i → i < fI σ 103 al → 0 ≤ aI σ (al + 1) i ∧ aI σ (al + 1) i < fI σ 1402 18) ∧ Q none (cHm σ al (fI σ 103 al).toNat))) := by
  obtain ⟨this, a0, rfl, h0⟩ := oR_s h
  obtain ⟨al, a1, rfl, h1⟩ := oR_s h0
  obtain ⟨rfl, hz⟩ := h1
  exact ⟨this, al, rfl, hz⟩
theorem rc_X3_bringHome : ∀ (av : List AV) (σ : Hp) (Q : Option AV → Hp → Prop), sp_X3_bringHome av σ Q → ∃ r tl, av = vr r :: tl ∧ kd σ r = 3 + 1 := fun av σ Q h => by
  obtain ⟨this, al, rfl, hz, -⟩ := el_X3_bringHome h
  exact ⟨this, _, rfl, hz⟩

def tb_X3_bringHome : Tab := [(0, .iconst 0, 1, (0, 0, 0, 0)), (1, .istore_n 2, 1, (0, 0, 0, 0)), (2, .iload_n 2, 1, (0, 0, 0, 0)), (3, .aload_n 1, 1, (0, 0, 0, 0)), (4, .getfield 101, 3, (1, 103, 0, 0)), (7, .if_icmp .ge 36, 3, (0, 0, 0, 0)), (10, .aload_n 0, 1, (0, 0, 0, 0)), (11, .aload_n 1, 1, (0, 0, 0, 0)), (12, .iload_n 2, 1, (0, 0, 0, 0)), (13, .invokevirtual 103, 3, (0, 0, 0, 0)), (16, .invokevirtual 80, 3, (0, 0, 0, 0)), (19, .astore_n 3, 1, (0, 0, 0, 0)), (20, .aload_n 3, 1, (0, 0, 0, 0)), (21, .ifnull 16, 3, (0, 0, 0, 0)), (24, .aload_n 3, 1, (0, 0, 0, 0)), (25, .iconst 0, 1, (0, 0, 0, 0)), (26, .putfield 66, 3, (6, 603, 3, 0)), (29, .aload_n 3, 1, (0, 0, 0, 0)), (30, .aload_n 3, 1, (0, 0, 0, 0)), (31, .getfield 106, 3, (6, 601, 0, 0)), (34, .putfield 84, 3, (6, 602, 0, 0)), (37, .iinc 2 1, 3, (0, 0, 0, 0)), (40, .goto (-38), 3, (0, 0, 0, 0)), (43, .return_, 1, (0, 0, 0, 0))]
set_option maxRecDepth 100000 in
theorem tk_X3_bringHome : TOK RX3 false cX3_bringHome tb_X3_bringHome := chkT_ok ft_X3 (by decide +kernel)
theorem rw_X3_824 : Row RX3 (.invokevirtual 103) 3 2 0 0 1 sp_X0_companyAt := row_V (n := 1) (ci := 0) c_X0_companyAt ⟨TBL_in 1281 (by decide +kernel) rfl, TBL_in 1272 (by decide +kernel) rfl, TBL_in 137 (by decide +kernel) rfl, by decide +kernel, by decide⟩ (by decide) rfl (TBL_in 1270 (by decide +kernel) rfl) (TBL_in 1271 (by decide +kernel) rfl) rc_X0_companyAt
def mt_X3_bringHome : List (Nat × Mt) := [(824, 2, 0, 0, 1, sp_X0_companyAt), (640, 2, 0, 0, 4, sp_X3_companyOf)]
theorem em_X3_bringHome : mt_X3_bringHome.lookup 824 = some (2, 0, 0, 1, sp_X0_companyAt) ∧ mt_X3_bringHome.lookup 640 = some (2, 0, 0, 4, sp_X3_companyOf) := ⟨rfl, rfl⟩
theorem mk_X3_bringHome : MOK RX3 mt_X3_bringHome := by
  intro q hq
  simp only [mt_X3_bringHome, List.mem_cons, List.not_mem_nil, or_false] at hq
  rcases hq with rfl | rfl
  · exact rw_X3_824
  · exact rw_X3_640
noncomputable def xe_X3_bringHome (ct : Nat → Bool) (K : Kt) (R : Option AV → Hp → Prop) (n : Nat) : Kt := exS 4 5 0 0 0 tb_X3_bringHome mt_X3_bringHome ct K R n
noncomputable def xk_X3_bringHome (ct : Nat → Bool) (K : Kt) (R : Option AV → Hp → Prop) (n : Nat) : Kt := exkS 4 5 0 0 0 tb_X3_bringHome mt_X3_bringHome ct K R n
theorem xt_X3_bringHome {ct : Nat → Bool} {K : Kt} {R : Option AV → Hp → Prop} {n pc : Nat} {ls : List (Option AV)} {st : List AV} {σ : Hp} {k : Nat × Nat} (h : ct pc = true) : xk_X3_bringHome ct K R n pc ls st σ k = K pc ls st σ k := by unfold xk_X3_bringHome exkS; rw [h]
theorem xf_X3_bringHome {ct : Nat → Bool} {K : Kt} {R : Option AV → Hp → Prop} {n pc : Nat} {ls : List (Option AV)} {st : List AV} {σ : Hp} {k : Nat × Nat} (h : ct pc = false) : xk_X3_bringHome ct K R n pc ls st σ k = xe_X3_bringHome ct K R n pc ls st σ k := by unfold xk_X3_bringHome exkS xe_X3_bringHome; rw [h]
theorem ev_X3_bringHome_0 {ct : Nat → Bool} {K : Kt} {R : Option AV → Hp → Prop} {n : Nat} {ls : List (Option AV)} {st : List AV} {σ : Hp} {k : Nat × Nat} : xe_X3_bringHome ct K R (n + 1) 0 ls st σ k = (xk_X3_bringHome ct K R n 1 ls (vi (0) :: st) σ k) := exS_step.trans rfl
theorem ev_X3_bringHome_1 {ct : Nat → Bool} {K : Kt} {R : Option AV → Hp → Prop} {n : Nat} {ls : List (Option AV)} {st : List AV} {σ : Hp} {k : Nat × Nat} : xe_X3_bringHome ct K R (n + 1) 1 ls st σ k = (oI st fun x st => 2 < 4 ∧ xk_X3_bringHome ct K R n 2 (stL ls 2 (vi x)) st σ k) := exS_step.trans rfl
theorem ev_X3_bringHome_2 {ct : Nat → Bool} {K : Kt} {R : Option AV → Hp → Prop} {n : Nat} {ls : List (Option AV)} {st : List AV} {σ : Hp} {k : Nat × Nat} : xe_X3_bringHome ct K R (n + 1) 2 ls st σ k = (lI ls 2 fun x => xk_X3_bringHome ct K R n 3 ls (vi x :: st) σ k) := exS_step.trans rfl
theorem ev_X3_bringHome_3 {ct : Nat → Bool} {K : Kt} {R : Option AV → Hp → Prop} {n : Nat} {ls : List (Option AV)} {st : List AV} {σ : Hp} {k : Nat × Nat} : xe_X3_bringHome ct K R (n + 1) 3 ls st σ k = (lR ls 1 fun x => xk_X3_bringHome ct K R n 4 ls (vr x :: st) σ k) := exS_step.trans rfl
theorem ev_X3_bringHome_4 {ct : Nat → Bool} {K : Kt} {R : Option AV → Hp → Prop} {n : Nat} {ls : List (Option AV)} {st : List AV} {σ : Hp} {k : Nat × Nat} : xe_X3_bringHome ct K R (n + 1) 4 ls st σ k = (oR st fun x st => kd σ x = 1 ∧ xk_X3_bringHome ct K R n 7 ls (vi (fI σ 103 x) :: st) σ k) := exS_step.trans rfl
theorem ev_X3_bringHome_7 {ct : Nat → Bool} {K : Kt} {R : Option AV → Hp → Prop} {n : Nat} {ls : List (Option AV)} {st : List AV} {σ : Hp} {k : Nat × Nat} : xe_X3_bringHome ct K R (n + 1) 7 ls st σ k = (oI st fun y st => oI st fun x st => (wI y ≤ wI x → xk_X3_bringHome ct K R n 43 ls st σ k) ∧ (¬ (wI y ≤ wI x) → xk_X3_bringHome ct K R n 10 ls st σ k)) := exS_step.trans rfl
theorem ev_X3_bringHome_10 {ct : Nat → Bool} {K : Kt} {R : Option AV → Hp → Prop} {n : Nat} {ls : List (Option AV)} {st : List AV} {σ : Hp} {k : Nat × Nat} : xe_X3_bringHome ct K R (n + 1) 10 ls st σ k = (lR ls 0 fun x => xk_X3_bringHome ct K R n 11 ls (vr x :: st) σ k) := exS_step.trans rfl
theorem ev_X3_bringHome_11 {ct : Nat → Bool} {K : Kt} {R : Option AV → Hp → Prop} {n : Nat} {ls : List (Option AV)} {st : List AV} {σ : Hp} {k : Nat × Nat} : xe_X3_bringHome ct K R (n + 1) 11 ls st σ k = (lR ls 1 fun x => xk_X3_bringHome ct K R n 12 ls (vr x :: st) σ k) := exS_step.trans rfl
theorem ev_X3_bringHome_12 {ct : Nat → Bool} {K : Kt} {R : Option AV → Hp → Prop} {n : Nat} {ls : List (Option AV)} {st : List AV} {σ : Hp} {k : Nat × Nat} : xe_X3_bringHome ct K R (n + 1) 12 ls st σ k = (lI ls 2 fun x => xk_X3_bringHome ct K R n 13 ls (vi x :: st) σ k) := exS_step.trans rfl
theorem ev_X3_bringHome_13 {ct : Nat → Bool} {K : Kt} {R : Option AV → Hp → Prop} {n : Nat} {ls : List (Option AV)} {st : List AV} {σ : Hp} {k : Nat × Nat} : xe_X3_bringHome ct K R (n + 1) 13 ls st σ k = (popN 2 st [] fun av rest => (catS rest ≤ 8 ∧ 1 < 5 ∧ k.1 + 0 ≤ 0 ∧ k.2 + 0 ≤ 0) ∧ (sp_X0_companyAt) av σ fun v σ' => xk_X3_bringHome ct K R n 16 ls (v.toList ++ rest) σ' (k.1 + 0, k.2 + 0)) := exS_step.trans rfl
theorem ev_X3_bringHome_16 {ct : Nat → Bool} {K : Kt} {R : Option AV → Hp → Prop} {n : Nat} {ls : List (Option AV)} {st : List AV} {σ : Hp} {k : Nat × Nat} : xe_X3_bringHome ct K R (n + 1) 16 ls st σ k = (popN 2 st [] fun av rest => (catS rest ≤ 8 ∧ 4 < 5 ∧ k.1 + 0 ≤ 0 ∧ k.2 + 0 ≤ 0) ∧ (sp_X3_companyOf) av σ fun v σ' => xk_X3_bringHome ct K R n 19 ls (v.toList ++ rest) σ' (k.1 + 0, k.2 + 0)) := exS_step.trans rfl
theorem ev_X3_bringHome_19 {ct : Nat → Bool} {K : Kt} {R : Option AV → Hp → Prop} {n : Nat} {ls : List (Option AV)} {st : List AV} {σ : Hp} {k : Nat × Nat} : xe_X3_bringHome ct K R (n + 1) 19 ls st σ k = (oR st fun x st => 3 < 4 ∧ xk_X3_bringHome ct K R n 20 (stL ls 3 (vr x)) st σ k) := exS_step.trans rfl
theorem ev_X3_bringHome_20 {ct : Nat → Bool} {K : Kt} {R : Option AV → Hp → Prop} {n : Nat} {ls : List (Option AV)} {st : List AV} {σ : Hp} {k : Nat × Nat} : xe_X3_bringHome ct K R (n + 1) 20 ls st σ k = (lR ls 3 fun x => xk_X3_bringHome ct K R n 21 ls (vr x :: st) σ k) := exS_step.trans rfl
theorem ev_X3_bringHome_21 {ct : Nat → Bool} {K : Kt} {R : Option AV → Hp → Prop} {n : Nat} {ls : List (Option AV)} {st : List AV} {σ : Hp} {k : Nat × Nat} : xe_X3_bringHome ct K R (n + 1) 21 ls st σ k = (oR st fun x st => (x = 0 → xk_X3_bringHome ct K R n 37 ls st σ k) ∧ (¬ x = 0 → xk_X3_bringHome ct K R n 24 ls st σ k)) := exS_step.trans rfl
theorem ev_X3_bringHome_24 {ct : Nat → Bool} {K : Kt} {R : Option AV → Hp → Prop} {n : Nat} {ls : List (Option AV)} {st : List AV} {σ : Hp} {k : Nat × Nat} : xe_X3_bringHome ct K R (n + 1) 24 ls st σ k = (lR ls 3 fun x => xk_X3_bringHome ct K R n 25 ls (vr x :: st) σ k) := exS_step.trans rfl
theorem ev_X3_bringHome_25 {ct : Nat → Bool} {K : Kt} {R : Option AV → Hp → Prop} {n : Nat} {ls : List (Option AV)} {st : List AV} {σ : Hp} {k : Nat × Nat} : xe_X3_bringHome ct K R (n + 1) 25 ls st σ k = (xk_X3_bringHome ct K R n 26 ls (vi (0) :: st) σ k) := exS_step.trans rfl
theorem ev_X3_bringHome_26 {ct : Nat → Bool} {K : Kt} {R : Option AV → Hp → Prop} {n : Nat} {ls : List (Option AV)} {st : List AV} {σ : Hp} {k : Nat × Nat} : xe_X3_bringHome ct K R (n + 1) 26 ls st σ k = (oI st fun v st => oR st fun x st => kd σ x = 6 ∧ (v = 0 ∨ v = 1) ∧ xk_X3_bringHome ct K R n 29 ls st (pI σ 603 x v) k) := exS_step.trans rfl
theorem ev_X3_bringHome_29 {ct : Nat → Bool} {K : Kt} {R : Option AV → Hp → Prop} {n : Nat} {ls : List (Option AV)} {st : List AV} {σ : Hp} {k : Nat × Nat} : xe_X3_bringHome ct K R (n + 1) 29 ls st σ k = (lR ls 3 fun x => xk_X3_bringHome ct K R n 30 ls (vr x :: st) σ k) := exS_step.trans rfl
theorem ev_X3_bringHome_30 {ct : Nat → Bool} {K : Kt} {R : Option AV → Hp → Prop} {n : Nat} {ls : List (Option AV)} {st : List AV} {σ : Hp} {k : Nat × Nat} : xe_X3_bringHome ct K R (n + 1) 30 ls st σ k = (lR ls 3 fun x => xk_X3_bringHome ct K R n 31 ls (vr x :: st) σ k) := exS_step.trans rfl
theorem ev_X3_bringHome_31 {ct : Nat → Bool} {K : Kt} {R : Option AV → Hp → Prop} {n : Nat} {ls : List (Option AV)} {st : List AV} {σ : Hp} {k : Nat × Nat} : xe_X3_bringHome ct K R (n + 1) 31 ls st σ k = (oR st fun x st => kd σ x = 6 ∧ xk_X3_bringHome ct K R n 34 ls (vi (fI σ 601 x) :: st) σ k) := exS_step.trans rfl
theorem ev_X3_bringHome_34 {ct : Nat → Bool} {K : Kt} {R : Option AV → Hp → Prop} {n : Nat} {ls : List (Option AV)} {st : List AV} {σ : Hp} {k : Nat × Nat} : xe_X3_bringHome ct K R (n + 1) 34 ls st σ k = (oI st fun v st => oR st fun x st => kd σ x = 6 ∧ xk_X3_bringHome ct K R n 37 ls st (pI σ 602 x v) k) := exS_step.trans rfl
theorem ev_X3_bringHome_37 {ct : Nat → Bool} {K : Kt} {R : Option AV → Hp → Prop} {n : Nat} {ls : List (Option AV)} {st : List AV} {σ : Hp} {k : Nat × Nat} : xe_X3_bringHome ct K R (n + 1) 37 ls st σ k = (lI ls 2 fun x => 2 < 4 ∧ xk_X3_bringHome ct K R n 40 (stL ls 2 (vi (x + (1)))) st σ k) := exS_step.trans rfl
theorem ev_X3_bringHome_40 {ct : Nat → Bool} {K : Kt} {R : Option AV → Hp → Prop} {n : Nat} {ls : List (Option AV)} {st : List AV} {σ : Hp} {k : Nat × Nat} : xe_X3_bringHome ct K R (n + 1) 40 ls st σ k = (xk_X3_bringHome ct K R n 2 ls st σ k) := exS_step.trans rfl
theorem ev_X3_bringHome_43 {ct : Nat → Bool} {K : Kt} {R : Option AV → Hp → Prop} {n : Nat} {ls : List (Option AV)} {st : List AV} {σ : Hp} {k : Nat × Nat} : xe_X3_bringHome ct K R (n + 1) 43 ls st σ k = (st = [] ∧ 0 = 0 ∧ R none σ) := exS_step.trans rfl
def M_X3_bringHome : Md := (yX3_bringHome, cX3_bringHome, 4, (none : Option FieldType), 5, 0, 0, 0, false, tb_X3_bringHome, mt_X3_bringHome)
theorem mm_X3_bringHome : MMOK M_X3_bringHome := ⟨by decide +kernel, tk_X3_bringHome, mk_X3_bringHome, rfl, fun h => by cases h⟩
theorem go_X3_bringHome {Q : Option AV → Hp → Prop} {ct : Nat → Bool} {pc : Nat} {ls : List (Option AV)} {st : List AV} {σ : Hp} {k : Nat × Nat} (n : Nat) (h : xe_X3_bringHome ct (Go M_X3_bringHome Q) Q n pc ls st σ k) : Go M_X3_bringHome Q pc ls st σ k := Go.exS mm_X3_bringHome h

set_option maxRecDepth 20000 in
theorem c_X3_bringHome : Ct yX3_bringHome cX3_bringHome 4 ((none : Option FieldType)) 5 0 0 sp_X3_bringHome := by
  refine Ct.go (M := M_X3_bringHome) mm_X3_bringHome fun av σ Q h0 => ?_
  obtain ⟨this, al, rfl, hk, h⟩ := el_X3_bringHome h0
  clear h0
  refine ⟨Nat.le_of_ble_eq_true rfl, ?_⟩
  show Go M_X3_bringHome Q 0 [some (vr this), some (vr al), none, none] [] σ (0, 0)
  obtain ⟨rfl, hC, hL, hka, h1, ⟨h2, h3⟩, h4, h5, h⟩ := h
  refine Go.wf fun hw => ?_
  have hn : 0 ≤ fI σ 1402 18 ∧ fI σ 1402 18 ≤ 150 := by have := hL.2.2; omega
  have loop : ∀ (m i : Nat) (a3 : Option AV), (i : Int) + m = fI σ 103 al → Go M_X3_bringHome Q 2 [some (vr 15), some (vr al), some (vi i), a3] [] (cHm σ al i) (0, 0) := by
    intro m
    induction m with
    | zero =>
      intro i a3 hi
      have e : (fI σ 103 al).toNat = i := by omega
      rw [e] at h
      have hz := Fz_cHm σ al i
      generalize cHm σ al i = ρ at *
      have g1 : kd ρ = kd σ := hz.kd
      have g2 : fI ρ 103 = fI σ 103 := hz.fI (by decide)
      clear hz
      refine go_X3_bringHome (ct := fun p => p == 10) 40 ?_
      simp only [oI, oL, oR, o1, lI, lL, lR, popN, catS, gv, stL, stL2, swt, cnd, spObj, List.getElem?_cons_zero, List.getElem?_cons_succ, List.getD_cons_zero, List.getD_cons_succ, List.set_cons_zero, List.set_cons_succ, List.nil_append, List.cons_append, Option.toList, Bool.or_false, Bool.false_or, Bool.or_true, Bool.true_or, Nat.reduceBEq, Nat.reduceAdd, Nat.reduceLT, Nat.reduceLeDiff, Int.reduceAdd, Int.reduceToNat, true_and, and_true, Fin.isValue, Fin.val_zero, Fin.val_one, Fin.val_two, Fin.reduceFinMk, eq_self, Int.reduceNeg, imp_self, Nat.reduceMul, Nat.le_refl, not_true_eq_false, not_false_eq_true, List.getElem?_nil, reduceCtorEq, true_or, or_true, Classical.not_not, implies_true, or_self, wI_0, wI_1, wI_m1, b2i_w, b2i_eq0, b2i_eq1, b2i_bool, nor_self, nx_pI, kd_pI, ln_pI, fI_pI, fL_pI, fR_pI, aI_pI, aL_pI, aR_pI, nx_pL, kd_pL, ln_pL, fI_pL, fL_pL, fR_pL, aI_pL, aL_pL, aR_pL, nx_pR, kd_pR, ln_pR, fI_pR, fL_pR, fR_pR, aI_pR, aL_pR, aR_pR, nx_qI, kd_qI, ln_qI, fI_qI, fL_qI, fR_qI, aI_qI, aL_qI, aR_qI, nx_qL, kd_qL, ln_qL, fI_qL, fL_qL, fR_qL, aI_qL, aL_qL, aR_qL, nx_qR, kd_qR, ln_qR, fI_qR, fL_qR, fR_qR, aI_qR, aL_qR, aR_qR, nx_mk, kd_mk, ln_mk, fI_mk, fL_mk, fR_mk, aI_mk, aL_mk, aR_mk, false_and, and_false, if_false, if_true, and_self, Int.reduceEq, Nat.reduceEqDiff, ite_self, MLay_pI, MLay_pL, MLay_qI, MLay_qL, ev_X3_bringHome_2, ev_X3_bringHome_3, ev_X3_bringHome_4, ev_X3_bringHome_7, ev_X3_bringHome_43, xt_X3_bringHome, xf_X3_bringHome, us_X0_companyAt, us_X3_companyOf, g1, g2, hka]
      try simp (disch := omega) only [wI_id, dv_nn, rm_nn]
      repeat' (first | intro z | apply And.intro)
      all_goals try omega
      all_goals try contradiction
      all_goals exact h
    | succ m ih =>
      intro i a3 hi
      have h5 := h5 i (by omega) (by omega)
      have ih := fun a3 => ih (i + 1) a3 (by omega)
      simp only [cHm] at ih
      have hz := Fz_cHm σ al i
      have hC2 : CLay (cHm σ al i) := hC.fz hz (by decide)
      have hL2 : LOk (cHm σ al i) 18 5 := hL.fz hz (by decide) (by decide) (by decide)
      have hlt := lat_fz hz (by decide)
      generalize cHm σ al i = ρ at *
      have g1 : kd ρ = kd σ := hz.kd
      have g2 : fI ρ 103 = fI σ 103 := hz.fI (by decide)
      have g3 : fR ρ 102 = fR σ 102 := hz.fR (by decide)
      have g4 : ln ρ = ln σ := hz.ln
      have g5 : aI ρ (al + 1) = aI σ (al + 1) := hz.aI (fun z => z)
      have g6 : fI ρ 1402 = fI σ 1402 := hz.fI (by decide)
      have g8 : fI ρ 601 = fI σ 601 := hz.fI (by decide)
      generalize he : aI σ (al + 1) i = e at *
      have hkp : kd σ (lat σ 18 e) = 6 := hL.2.2.2.2.2 e h5.1 h5.2
      have hir : inR i := by unfold inR; omega
      have her : inR e := by unfold inR; omega
      have c1 : (if (0 : Int) ≤ i ∧ (i : Int) < fI σ 103 al then e else -1) = e := if_pos (by omega)
      have c2 : (if 0 ≤ e ∧ e < fI σ 1402 18 then lat σ 18 e else 0) = lat σ 18 e := if_pos h5
      have hp0 : ¬ lat σ 18 e = 0 := fun z => by
        have := (hw.2.1 (lat σ 18 e) (by rw [hkp]; decide)).1
        exact this z
      have w37 : ∀ _ : Option AV, Go M_X3_bringHome Q 37 [some (vr 15), some (vr al), some (vi i), some (vr (lat σ 18 e))] [] (pI (pI ρ 603 (lat σ 18 e) 0) 602 (lat σ 18 e) (fI σ 601 (lat σ 18 e))) (0, 0) := fun a3 => by
        have w := ih (some (vr (lat σ 18 e)))
        refine go_X3_bringHome (ct := fun p => p == 2) 20 ?_
        simp only [oI, oL, oR, o1, lI, lL, lR, popN, catS, gv, stL, stL2, swt, cnd, spObj, List.getElem?_cons_zero, List.getElem?_cons_succ, List.getD_cons_zero, List.getD_cons_succ, List.set_cons_zero, List.set_cons_succ, List.nil_append, List.cons_append, Option.toList, Bool.or_false, Bool.false_or, Bool.or_true, Bool.true_or, Nat.reduceBEq, Nat.reduceAdd, Nat.reduceLT, Nat.reduceLeDiff, Int.reduceAdd, Int.reduceToNat, true_and, and_true, Fin.isValue, Fin.val_zero, Fin.val_one, Fin.val_two, Fin.reduceFinMk, eq_self, Int.reduceNeg, imp_self, Nat.reduceMul, Nat.le_refl, not_true_eq_false, not_false_eq_true, List.getElem?_nil, reduceCtorEq, true_or, or_true, Classical.not_not, implies_true, or_self, wI_0, wI_1, wI_m1, b2i_w, b2i_eq0, b2i_eq1, b2i_bool, nor_self, nx_pI, kd_pI, ln_pI, fI_pI, fL_pI, fR_pI, aI_pI, aL_pI, aR_pI, nx_pL, kd_pL, ln_pL, fI_pL, fL_pL, fR_pL, aI_pL, aL_pL, aR_pL, nx_pR, kd_pR, ln_pR, fI_pR, fL_pR, fR_pR, aI_pR, aL_pR, aR_pR, nx_qI, kd_qI, ln_qI, fI_qI, fL_qI, fR_qI, aI_qI, aL_qI, aR_qI, nx_qL, kd_qL, ln_qL, fI_qL, fL_qL, fR_qL, aI_qL, aL_qL, aR_qL, nx_qR, kd_qR, ln_qR, fI_qR, fL_qR, fR_qR, aI_qR, aL_qR, aR_qR, nx_mk, kd_mk, ln_mk, fI_mk, fL_mk, fR_mk, aI_mk, aL_mk, aR_mk, false_and, and_false, if_false, if_true, and_self, Int.reduceEq, Nat.reduceEqDiff, ite_self, MLay_pI, MLay_pL, MLay_qI, MLay_qL, ev_X3_bringHome_37, ev_X3_bringHome_40, xt_X3_bringHome, xf_X3_bringHome, us_X0_companyAt, us_X3_companyOf]
        exact w
      have w37 := w37 none
      clear ih h hz hw hL
      refine go_X3_bringHome (ct := fun p => p == 43 || p == 37) 60 ?_
      simp only [oI, oL, oR, o1, lI, lL, lR, popN, catS, gv, stL, stL2, swt, cnd, spObj, List.getElem?_cons_zero, List.getElem?_cons_succ, List.getD_cons_zero, List.getD_cons_succ, List.set_cons_zero, List.set_cons_succ, List.nil_append, List.cons_append, Option.toList, Bool.or_false, Bool.false_or, Bool.or_true, Bool.true_or, Nat.reduceBEq, Nat.reduceAdd, Nat.reduceLT, Nat.reduceLeDiff, Int.reduceAdd, Int.reduceToNat, true_and, and_true, Fin.isValue, Fin.val_zero, Fin.val_one, Fin.val_two, Fin.reduceFinMk, eq_self, Int.reduceNeg, imp_self, Nat.reduceMul, Nat.le_refl, not_true_eq_false, not_false_eq_true, List.getElem?_nil, reduceCtorEq, true_or, or_true, Classical.not_not, implies_true, or_self, wI_0, wI_1, wI_m1, b2i_w, b2i_eq0, b2i_eq1, b2i_bool, nor_self, nx_pI, kd_pI, ln_pI, fI_pI, fL_pI, fR_pI, aI_pI, aL_pI, aR_pI, nx_pL, kd_pL, ln_pL, fI_pL, fL_pL, fR_pL, aI_pL, aL_pL, aR_pL, nx_pR, kd_pR, ln_pR, fI_pR, fL_pR, fR_pR, aI_pR, aL_pR, aR_pR, nx_qI, kd_qI, ln_qI, fI_qI, fL_qI, fR_qI, aI_qI, aL_qI, aR_qI, nx_qL, kd_qL, ln_qL, fI_qL, fL_qL, fR_qL, aI_qL, aL_qL, aR_qL, nx_qR, kd_qR, ln_qR, fI_qR, fL_qR, fR_qR, aI_qR, aL_qR, aR_qR, nx_mk, kd_mk, ln_mk, fI_mk, fL_mk, fR_mk, aI_mk, aL_mk, aR_mk, false_and, and_false, if_false, if_true, and_self, Int.reduceEq, Nat.reduceEqDiff, ite_self, MLay_pI, MLay_pL, MLay_qI, MLay_qL, ev_X3_bringHome_2, ev_X3_bringHome_3, ev_X3_bringHome_4, ev_X3_bringHome_7, ev_X3_bringHome_10, ev_X3_bringHome_11, ev_X3_bringHome_12, ev_X3_bringHome_13, ev_X3_bringHome_16, ev_X3_bringHome_19, ev_X3_bringHome_20, ev_X3_bringHome_21, ev_X3_bringHome_24, ev_X3_bringHome_25, ev_X3_bringHome_26, ev_X3_bringHome_29, ev_X3_bringHome_30, ev_X3_bringHome_31, ev_X3_bringHome_34, xt_X3_bringHome, xf_X3_bringHome, us_X0_companyAt, us_X3_companyOf, hC2.eqs, hC2, hL2, hka, g1, g2, g3, g4, g5, g6, g8, h1, h2, h3, h4, he, hir, her, c1, c2, hlt, hkp, hp0]
      try simp (disch := omega) only [wI_id, dv_nn, rm_nn]
      repeat' (first | intro z | apply And.intro)
      all_goals try omega
      all_goals try contradiction
      all_goals exact w37
  have w := loop (fI σ 103 al).toNat 0 none (by show ((0 : Nat) : Int) + _ = _; omega)
  refine go_X3_bringHome (ct := fun p => p == 2) 20 ?_
  simp only [oI, oL, oR, o1, lI, lL, lR, popN, catS, gv, stL, stL2, swt, cnd, spObj, List.getElem?_cons_zero, List.getElem?_cons_succ, List.getD_cons_zero, List.getD_cons_succ, List.set_cons_zero, List.set_cons_succ, List.nil_append, List.cons_append, Option.toList, Bool.or_false, Bool.false_or, Bool.or_true, Bool.true_or, Nat.reduceBEq, Nat.reduceAdd, Nat.reduceLT, Nat.reduceLeDiff, Int.reduceAdd, Int.reduceToNat, true_and, and_true, Fin.isValue, Fin.val_zero, Fin.val_one, Fin.val_two, Fin.reduceFinMk, eq_self, Int.reduceNeg, imp_self, Nat.reduceMul, Nat.le_refl, not_true_eq_false, not_false_eq_true, List.getElem?_nil, reduceCtorEq, true_or, or_true, Classical.not_not, implies_true, or_self, wI_0, wI_1, wI_m1, b2i_w, b2i_eq0, b2i_eq1, b2i_bool, nor_self, nx_pI, kd_pI, ln_pI, fI_pI, fL_pI, fR_pI, aI_pI, aL_pI, aR_pI, nx_pL, kd_pL, ln_pL, fI_pL, fL_pL, fR_pL, aI_pL, aL_pL, aR_pL, nx_pR, kd_pR, ln_pR, fI_pR, fL_pR, fR_pR, aI_pR, aL_pR, aR_pR, nx_qI, kd_qI, ln_qI, fI_qI, fL_qI, fR_qI, aI_qI, aL_qI, aR_qI, nx_qL, kd_qL, ln_qL, fI_qL, fL_qL, fR_qL, aI_qL, aL_qL, aR_qL, nx_qR, kd_qR, ln_qR, fI_qR, fL_qR, fR_qR, aI_qR, aL_qR, aR_qR, nx_mk, kd_mk, ln_mk, fI_mk, fL_mk, fR_mk, aI_mk, aL_mk, aR_mk, false_and, and_false, if_false, if_true, and_self, Int.reduceEq, Nat.reduceEqDiff, ite_self, MLay_pI, MLay_pL, MLay_qI, MLay_qL, ev_X3_bringHome_0, ev_X3_bringHome_1, xt_X3_bringHome, xf_X3_bringHome, us_X0_companyAt, us_X3_companyOf]
  exact w
