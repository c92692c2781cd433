/-! the class: a box calls again -/

theorem DKR.cg {σ τ τ' : Hp} (h : DKR σ τ) (hn : fI τ' 1352 61 = fI τ 1352 61) (ha : ∀ r, 93 ≤ r → r ≤ 97 → aI τ' r = aI τ r) : DKR σ τ' := by
  obtain ⟨xs, ⟨a1, a2, a3, o, b, ho, hb, hL⟩, hD⟩ := h
  refine ⟨xs, ⟨hn.trans a1, a2, a3, o, b, ho, hb, fun i x hx => (hL i x hx).keep (Int.le_refl _) (fun r hr => ?_) (fun j _ => by rw [ha 97 (by omega) (by omega)])⟩, hD⟩
  unfold isL at hr
  rw [ha r (by omega) (by omega)]
theorem AL_call {σ τ : Hp} {a : Int} (h : AL σ τ) (ha : 0 ≤ a ∧ a < fI τ 1371 61) : AL (pI σ 104 (lat σ 28 a) (aI τ 111 a + 1)) (mCall τ a) := by
  have hne : ∀ b, 0 ≤ b → b < fI τ 1371 61 → ¬ b = a → ¬ lat σ 28 b = lat σ 28 a := fun b q1 q2 e => by
    rcases Int.lt_or_gt_of_ne e with z | z
    · exact h.2.2.2.1 b a q1 z ha.2
    · exact fun y => h.2.2.2.1 a b ha.1 z q2 y.symm
  obtain ⟨h1, h2, h3, h4, h5, h6⟩ := h
  unfold AL mCall
  unfold AlE LOk lat at *
  simp only [nx_pI, kd_pI, ln_pI, fI_pI, fL_pI, fR_pI, aI_pI, aL_pI, aR_pI, nx_qI, kd_qI, ln_qI, fI_qI, fL_qI, fR_qI, aI_qI, aL_qI, aR_qI, Nat.reduceEqDiff, false_and, if_false, true_and, Int.reduceEq]
  refine ⟨h1, h2, fun b q1 q2 => ?_, h4, h5, h6⟩
  obtain ⟨g0, g1, g2, g3, g4, g5, g6, g7, g8, g9⟩ := h3 b q1 q2
  by_cases e : b = a
  · subst e
    simp only [if_true]
    exact ⟨g0, g1, g2, g3, g4, g5, g6, g7, trivial, g9⟩
  · have hn := hne b q1 q2 e
    simp only [hn, e, if_false]
    exact ⟨g0, g1, g2, g3, g4, g5, g6, g7, g8, g9⟩
theorem BX_call {σ τ : Hp} {a p v : Int} (h : BX σ τ) : BX (pI σ 104 p v) (mCall τ a) := by
  have hw : ∀ q o, whl (pI σ 104 p v) q o = whl σ q o := fun _ _ => rfl
  unfold BX mCall
  unfold BX at h
  unfold BxE LOk lat at *
  simp only [hw, nx_pI, kd_pI, ln_pI, fI_pI, fL_pI, fR_pI, aI_pI, aL_pI, aR_pI, nx_qI, kd_qI, ln_qI, fI_qI, fL_qI, fR_qI, aI_qI, aL_qI, aR_qI, Nat.reduceEqDiff, false_and, if_false, true_and, Int.reduceEq]
  exact h
theorem BG_call {σ τ : Hp} {a p v : Int} (h : BG σ τ) : BG (pI σ 104 p v) (mCall τ a) := by
  unfold BG mCall
  unfold BG at h
  unfold CoE LOk lat at *
  simp only [nx_pI, kd_pI, ln_pI, fI_pI, fL_pI, fR_pI, aI_pI, aL_pI, aR_pI, nx_qI, kd_qI, ln_qI, fI_qI, fL_qI, fR_qI, aI_qI, aL_qI, aR_qI, Nat.reduceEqDiff, false_and, if_false, true_and, Int.reduceEq]
  exact h
theorem WI_call {τ : Hp} {a : Int} (h : WI τ) : WI (mCall τ a) := by
  unfold WI mCall at *
  simp only [fI_qI, fI_pI, aI_qI, aI_pI, Nat.reduceEqDiff, false_and, if_false, Int.reduceEq]
  exact h
theorem AB_call {τ : Hp} {a : Int} (h : AB τ) : AB (mCall τ a) := by
  unfold AB mCall at *
  simp only [fI_qI, fI_pI, aI_qI, aI_pI, Nat.reduceEqDiff, false_and, if_false, Int.reduceEq]
  exact h

def sp_X11_again : Sp := fun av σ Q => oR av fun this av => oI av fun a av => av = [] ∧ kd σ this = 12 ∧ (this = 1 ∧ CLay σ ∧ inR a ∧ ∃ τ, (DKR σ τ ∧ BG σ τ ∧ AL σ τ ∧ BX σ τ ∧ MI τ ∧ WI τ ∧ AB τ) ∧ (fI σ 1210 1 = fI τ 1301 61 ∧ ∀ k, fI σ 103 k = fI τ 9999 k) ∧ (0 ≤ a → a < fI τ 1371 61 → aI τ 112 a = 0 → aI τ 115 a ≤ mTo τ a) ∧   (((0 ≤ a ∧ a < fI τ 1371 61) ∧ aI τ 112 a = 0 ∧ ¬ aI τ 111 a = 3) → ∀ σ', BG σ' (mAns (mCall τ a) a) → AlS σ' (mAns (mCall τ a) a) a (lat σ 28 a) → Fz ansF (ansA (lat σ 28 a)) noR (pI σ 104 (lat σ 28 a) (aI τ 111 a + 1)) σ' → Q (some (vi (aI τ 111 a + 1))) σ') ∧ (¬ ((0 ≤ a ∧ a < fI τ 1371 61) ∧ aI τ 112 a = 0 ∧ ¬ aI τ 111 a = 3) → Q (some (vi (-1))) σ))
theorem us_X11_again (this : Int) (a : Int) (σ : Hp) (Q : Option AV → Hp → Prop) : sp_X11_again [vr this, vi a] σ Q = (kd σ this = 12 ∧ (this = 1 ∧ CLay σ ∧ inR a ∧ ∃ τ, (DKR σ τ ∧ BG σ τ ∧ AL σ τ ∧ BX σ τ ∧ MI τ ∧ WI τ ∧ AB τ) ∧ (fI σ 1210 1 = fI τ 1301 61 ∧ ∀ k, fI σ 103 k = fI τ 9999 k) ∧ (0 ≤ a → a < fI τ 1371 61 → aI τ 112 a = 0 → aI τ 115 a ≤ mTo τ a) ∧   (((0 ≤ a ∧ a < fI τ 1371 61) ∧ aI τ 112 a = 0 ∧ ¬ aI τ 111 a = 3) → ∀ σ', BG σ' (mAns (mCall τ a) a) → AlS σ' (mAns (mCall τ a) a) a (lat σ 28 a) → Fz ansF (ansA (lat σ 28 a)) noR (pI σ 104 (lat σ 28 a) (aI τ 111 a + 1)) σ' → Q (some (vi (aI τ 111 a + 1))) σ') ∧ (¬ ((0 ≤ a ∧ a < fI τ 1371 61) ∧ aI τ 112 a = 0 ∧ ¬ aI τ 111 a = 3) → Q (some (vi (-1))) σ))) := propext ⟨fun h => h.2, fun h => ⟨rfl, h⟩⟩
theorem el_X11_again {av : List AV} {σ : Hp} {Q : Option AV → Hp → Prop} (h : sp_X11_again av σ Q) : ∃ (this : Int) (a : Int), av = [vr this, vi a] ∧ (kd σ this = 12 ∧ (this = 1 ∧ CLay σ ∧ inR a ∧ ∃ τ, (DKR σ τ ∧ BG σ τ ∧ AL σ τ ∧ BX σ τ ∧ MI τ ∧ WI τ ∧ AB τ) ∧ (fI σ 1210 1 = fI τ 1301 61 ∧ ∀ k, fI σ 103 k = fI τ 9999 k) ∧ (0 ≤ a → a < fI τ 1371 61 → aI τ 112 a = 0 → aI τ 115 a ≤ mTo τ a) ∧   (((0 ≤ a ∧ a < fI τ 1371 61) ∧ aI τ 112 a = 0 ∧ ¬ aI τ 111 a = 3) → ∀ σ', BG σ' (mAns (mCall τ a) a) → AlS σ' (mAns (mCall τ a) a) a (lat σ 28 a) → Fz ansF (ansA (lat σ 28 a)) noR (pI σ 104 (lat σ 28 a) (aI τ 111 a + 1)) σ' → Q (some (vi (aI τ 111 a + 1))) σ') ∧ (¬ ((0 ≤ a ∧ a < fI τ 1371 61) ∧ aI τ 112 a = 0 ∧ ¬ aI τ 111 a = 3) → Q (some (vi (-1))) σ))) := by
  obtain ⟨this, a0, rfl, h0⟩ := oR_s h
  obtain ⟨a, a1, rfl, h1⟩ := oI_s h0
  obtain ⟨rfl, hz⟩ := h1
  exact ⟨this, a, rfl, hz⟩
theorem rc_X11_again : ∀ (av : List AV) (σ : Hp) (Q : Option AV → Hp → Prop), sp_X11_again av σ Q → ∃ r tl, av = vr r :: tl ∧ kd σ r = 11 + 1 := fun av σ Q h => by
  obtain ⟨this, a, rfl, hz, -⟩ := el_X11_again h
  exact ⟨this, _, rfl, hz⟩

def tb_X11_again : Tab := [(0, .aload_n 0, 1, (0, 0, 0, 0)), (1, .getfield 54, 3, (12, 1207, 2, 0)), (4, .iload_n 1, 1, (0, 0, 0, 0)), (5, .invokevirtual 213, 3, (0, 0, 0, 0)), (8, .astore_n 2, 1, (0, 0, 0, 0)), (9, .aload_n 2, 1, (0, 0, 0, 0)), (10, .ifnull 18, 3, (0, 0, 0, 0)), (13, .aload_n 2, 1, (0, 0, 0, 0)), (14, .getfield 217, 3, (1, 105, 0, 0)), (17, .ifCond .ne 11, 3, (0, 0, 0, 0)), (20, .aload_n 2, 1, (0, 0, 0, 0)), (21, .getfield 220, 3, (1, 104, 0, 0)), (24, .iconst 3, 1, (0, 0, 0, 0)), (25, .if_icmp .lt 5, 3, (0, 0, 0, 0)), (28, .iconst (-1), 1, (0, 0, 0, 0)), (29, .ireturn, 1, (0, 0, 0, 0)), (30, .aload_n 2, 1, (0, 0, 0, 0)), (31, .dup, 1, (0, 0, 0, 0)), (32, .getfield 220, 3, (1, 104, 0, 0)), (35, .iconst 1, 1, (0, 0, 0, 0)), (36, .iadd, 1, (0, 0, 0, 0)), (37, .putfield 220, 3, (1, 104, 0, 0)), (40, .aload_n 0, 1, (0, 0, 0, 0)), (41, .aload_n 2, 1, (0, 0, 0, 0)), (42, .invokevirtual 209, 3, (0, 0, 0, 0)), (45, .aload_n 2, 1, (0, 0, 0, 0)), (46, .getfield 220, 3, (1, 104, 0, 0)), (49, .ireturn, 1, (0, 0, 0, 0))]
set_option maxRecDepth 100000 in
theorem tk_X11_again : TOK RX11 false cX11_again tb_X11_again := chkT_ok ft_X11 (by decide +kernel)
theorem rw_X11_1672 : Row RX11 (.invokevirtual 209) 3 2 0 0 7 sp_X11_answerCall := row_V (n := 1) (ci := 11) c_X11_answerCall ⟨TBL_in 1178 (by decide +kernel) rfl, TBL_in 1181 (by decide +kernel) rfl, TBL_in 111 (by decide +kernel) rfl, by decide +kernel, by decide⟩ (by decide) rfl (TBL_in 1180 (by decide +kernel) rfl) (TBL_in 45 (by decide +kernel) rfl) rc_X11_answerCall
def mt_X11_again : List (Nat × Mt) := [(1704, 2, 0, 0, 4, sp_X1_alarmOf), (1672, 2, 0, 0, 7, sp_X11_answerCall)]
theorem em_X11_again : mt_X11_again.lookup 1704 = some (2, 0, 0, 4, sp_X1_alarmOf) ∧ mt_X11_again.lookup 1672 = some (2, 0, 0, 7, sp_X11_answerCall) := ⟨rfl, rfl⟩
theorem mk_X11_again : MOK RX11 mt_X11_again := by
  intro q hq
  simp only [mt_X11_again, List.mem_cons, List.not_mem_nil, or_false] at hq
  rcases hq with rfl | rfl
  · exact rw_X11_1704
  · exact rw_X11_1672
noncomputable def xe_X11_again (ct : Nat → Bool) (K : Kt) (R : Option AV → Hp → Prop) (n : Nat) : Kt := exS 3 8 0 0 1 tb_X11_again mt_X11_again ct K R n
noncomputable def xk_X11_again (ct : Nat → Bool) (K : Kt) (R : Option AV → Hp → Prop) (n : Nat) : Kt := exkS 3 8 0 0 1 tb_X11_again mt_X11_again ct K R n
theorem xt_X11_again {ct : Nat → Bool} {K : Kt} {R : Option AV → Hp → Prop} {n pc : Nat} {ls : List (Option AV)} {st : List AV} {σ : Hp} {k : Nat × Nat} (h : ct pc = true) : xk_X11_again ct K R n pc ls st σ k = K pc ls st σ k := by unfold xk_X11_again exkS; rw [h]
theorem xf_X11_again {ct : Nat → Bool} {K : Kt} {R : Option AV → Hp → Prop} {n pc : Nat} {ls : List (Option AV)} {st : List AV} {σ : Hp} {k : Nat × Nat} (h : ct pc = false) : xk_X11_again ct K R n pc ls st σ k = xe_X11_again ct K R n pc ls st σ k := by unfold xk_X11_again exkS xe_X11_again; rw [h]
theorem ev_X11_again_0 {ct : Nat → Bool} {K : Kt} {R : Option AV → Hp → Prop} {n : Nat} {ls : List (Option AV)} {st : List AV} {σ : Hp} {k : Nat × Nat} : xe_X11_again ct K R (n + 1) 0 ls st σ k = (lR ls 0 fun x => xk_X11_again ct K R n 1 ls (vr x :: st) σ k) := exS_step.trans rfl
theorem ev_X11_again_1 {ct : Nat → Bool} {K : Kt} {R : Option AV → Hp → Prop} {n : Nat} {ls : List (Option AV)} {st : List AV} {σ : Hp} {k : Nat × Nat} : xe_X11_again ct K R (n + 1) 1 ls st σ k = (oR st fun x st => kd σ x = 12 ∧ xk_X11_again ct K R n 4 ls (vr (fR σ 1207 x) :: st) σ k) := exS_step.trans rfl
theorem ev_X11_again_4 {ct : Nat → Bool} {K : Kt} {R : Option AV → Hp → Prop} {n : Nat} {ls : List (Option AV)} {st : List AV} {σ : Hp} {k : Nat × Nat} : xe_X11_again ct K R (n + 1) 4 ls st σ k = (lI ls 1 fun x => xk_X11_again ct K R n 5 ls (vi x :: st) σ k) := exS_step.trans rfl
theorem ev_X11_again_5 {ct : Nat → Bool} {K : Kt} {R : Option AV → Hp → Prop} {n : Nat} {ls : List (Option AV)} {st : List AV} {σ : Hp} {k : Nat × Nat} : xe_X11_again ct K R (n + 1) 5 ls st σ k = (popN 2 st [] fun av rest => (catS rest ≤ 8 ∧ 4 < 8 ∧ k.1 + 0 ≤ 0 ∧ k.2 + 0 ≤ 0) ∧ (sp_X1_alarmOf) av σ fun v σ' => xk_X11_again ct K R n 8 ls (v.toList ++ rest) σ' (k.1 + 0, k.2 + 0)) := exS_step.trans rfl
theorem ev_X11_again_8 {ct : Nat → Bool} {K : Kt} {R : Option AV → Hp → Prop} {n : Nat} {ls : List (Option AV)} {st : List AV} {σ : Hp} {k : Nat × Nat} : xe_X11_again ct K R (n + 1) 8 ls st σ k = (oR st fun x st => 2 < 3 ∧ xk_X11_again ct K R n 9 (stL ls 2 (vr x)) st σ k) := exS_step.trans rfl
theorem ev_X11_again_9 {ct : Nat → Bool} {K : Kt} {R : Option AV → Hp → Prop} {n : Nat} {ls : List (Option AV)} {st : List AV} {σ : Hp} {k : Nat × Nat} : xe_X11_again ct K R (n + 1) 9 ls st σ k = (lR ls 2 fun x => xk_X11_again ct K R n 10 ls (vr x :: st) σ k) := exS_step.trans rfl
theorem ev_X11_again_10 {ct : Nat → Bool} {K : Kt} {R : Option AV → Hp → Prop} {n : Nat} {ls : List (Option AV)} {st : List AV} {σ : Hp} {k : Nat × Nat} : xe_X11_again ct K R (n + 1) 10 ls st σ k = (oR st fun x st => (x = 0 → xk_X11_again ct K R n 28 ls st σ k) ∧ (¬ x = 0 → xk_X11_again ct K R n 13 ls st σ k)) := exS_step.trans rfl
theorem ev_X11_again_13 {ct : Nat → Bool} {K : Kt} {R : Option AV → Hp → Prop} {n : Nat} {ls : List (Option AV)} {st : List AV} {σ : Hp} {k : Nat × Nat} : xe_X11_again ct K R (n + 1) 13 ls st σ k = (lR ls 2 fun x => xk_X11_again ct K R n 14 ls (vr x :: st) σ k) := exS_step.trans rfl
theorem ev_X11_again_14 {ct : Nat → Bool} {K : Kt} {R : Option AV → Hp → Prop} {n : Nat} {ls : List (Option AV)} {st : List AV} {σ : Hp} {k : Nat × Nat} : xe_X11_again ct K R (n + 1) 14 ls st σ k = (oR st fun x st => kd σ x = 1 ∧ xk_X11_again ct K R n 17 ls (vi (fI σ 105 x) :: st) σ k) := exS_step.trans rfl
theorem ev_X11_again_17 {ct : Nat → Bool} {K : Kt} {R : Option AV → Hp → Prop} {n : Nat} {ls : List (Option AV)} {st : List AV} {σ : Hp} {k : Nat × Nat} : xe_X11_again ct K R (n + 1) 17 ls st σ k = (oI st fun x st => (¬ wI x = wI 0 → xk_X11_again ct K R n 28 ls st σ k) ∧ (¬ (¬ wI x = wI 0) → xk_X11_again ct K R n 20 ls st σ k)) := exS_step.trans rfl
theorem ev_X11_again_20 {ct : Nat → Bool} {K : Kt} {R : Option AV → Hp → Prop} {n : Nat} {ls : List (Option AV)} {st : List AV} {σ : Hp} {k : Nat × Nat} : xe_X11_again ct K R (n + 1) 20 ls st σ k = (lR ls 2 fun x => xk_X11_again ct K R n 21 ls (vr x :: st) σ k) := exS_step.trans rfl
theorem ev_X11_again_21 {ct : Nat → Bool} {K : Kt} {R : Option AV → Hp → Prop} {n : Nat} {ls : List (Option AV)} {st : List AV} {σ : Hp} {k : Nat × Nat} : xe_X11_again ct K R (n + 1) 21 ls st σ k = (oR st fun x st => kd σ x = 1 ∧ xk_X11_again ct K R n 24 ls (vi (fI σ 104 x) :: st) σ k) := exS_step.trans rfl
theorem ev_X11_again_24 {ct : Nat → Bool} {K : Kt} {R : Option AV → Hp → Prop} {n : Nat} {ls : List (Option AV)} {st : List AV} {σ : Hp} {k : Nat × Nat} : xe_X11_again ct K R (n + 1) 24 ls st σ k = (xk_X11_again ct K R n 25 ls (vi (3) :: st) σ k) := exS_step.trans rfl
theorem ev_X11_again_25 {ct : Nat → Bool} {K : Kt} {R : Option AV → Hp → Prop} {n : Nat} {ls : List (Option AV)} {st : List AV} {σ : Hp} {k : Nat × Nat} : xe_X11_again ct K R (n + 1) 25 ls st σ k = (oI st fun y st => oI st fun x st => (wI x < wI y → xk_X11_again ct K R n 30 ls st σ k) ∧ (¬ (wI x < wI y) → xk_X11_again ct K R n 28 ls st σ k)) := exS_step.trans rfl
theorem ev_X11_again_28 {ct : Nat → Bool} {K : Kt} {R : Option AV → Hp → Prop} {n : Nat} {ls : List (Option AV)} {st : List AV} {σ : Hp} {k : Nat × Nat} : xe_X11_again ct K R (n + 1) 28 ls st σ k = (xk_X11_again ct K R n 29 ls (vi (-1) :: st) σ k) := exS_step.trans rfl
theorem ev_X11_again_29 {ct : Nat → Bool} {K : Kt} {R : Option AV → Hp → Prop} {n : Nat} {ls : List (Option AV)} {st : List AV} {σ : Hp} {k : Nat × Nat} : xe_X11_again ct K R (n + 1) 29 ls st σ k = (oI st fun x st => st = [] ∧ True ∧ R (some (vi x)) σ) := exS_step.trans rfl
theorem ev_X11_again_30 {ct : Nat → Bool} {K : Kt} {R : Option AV → Hp → Prop} {n : Nat} {ls : List (Option AV)} {st : List AV} {σ : Hp} {k : Nat × Nat} : xe_X11_again ct K R (n + 1) 30 ls st σ k = (lR ls 2 fun x => xk_X11_again ct K R n 31 ls (vr x :: st) σ k) := exS_step.trans rfl
theorem ev_X11_again_31 {ct : Nat → Bool} {K : Kt} {R : Option AV → Hp → Prop} {n : Nat} {ls : List (Option AV)} {st : List AV} {σ : Hp} {k : Nat × Nat} : xe_X11_again ct K R (n + 1) 31 ls st σ k = (o1 st fun v st => xk_X11_again ct K R n 32 ls (v :: v :: st) σ k) := exS_step.trans rfl
theorem ev_X11_again_32 {ct : Nat → Bool} {K : Kt} {R : Option AV → Hp → Prop} {n : Nat} {ls : List (Option AV)} {st : List AV} {σ : Hp} {k : Nat × Nat} : xe_X11_again ct K R (n + 1) 32 ls st σ k = (oR st fun x st => kd σ x = 1 ∧ xk_X11_again ct K R n 35 ls (vi (fI σ 104 x) :: st) σ k) := exS_step.trans rfl
theorem ev_X11_again_35 {ct : Nat → Bool} {K : Kt} {R : Option AV → Hp → Prop} {n : Nat} {ls : List (Option AV)} {st : List AV} {σ : Hp} {k : Nat × Nat} : xe_X11_again ct K R (n + 1) 35 ls st σ k = (xk_X11_again ct K R n 36 ls (vi (1) :: st) σ k) := exS_step.trans rfl
theorem ev_X11_again_36 {ct : Nat → Bool} {K : Kt} {R : Option AV → Hp → Prop} {n : Nat} {ls : List (Option AV)} {st : List AV} {σ : Hp} {k : Nat × Nat} : xe_X11_again ct K R (n + 1) 36 ls st σ k = (oI st fun y st => oI st fun x st => xk_X11_again ct K R n 37 ls (vi (x + y) :: st) σ k) := exS_step.trans rfl
theorem ev_X11_again_37 {ct : Nat → Bool} {K : Kt} {R : Option AV → Hp → Prop} {n : Nat} {ls : List (Option AV)} {st : List AV} {σ : Hp} {k : Nat × Nat} : xe_X11_again ct K R (n + 1) 37 ls st σ k = (oI st fun v st => oR st fun x st => kd σ x = 1 ∧ xk_X11_again ct K R n 40 ls st (pI σ 104 x v) k) := exS_step.trans rfl
theorem ev_X11_again_40 {ct : Nat → Bool} {K : Kt} {R : Option AV → Hp → Prop} {n : Nat} {ls : List (Option AV)} {st : List AV} {σ : Hp} {k : Nat × Nat} : xe_X11_again ct K R (n + 1) 40 ls st σ k = (lR ls 0 fun x => xk_X11_again ct K R n 41 ls (vr x :: st) σ k) := exS_step.trans rfl
theorem ev_X11_again_41 {ct : Nat → Bool} {K : Kt} {R : Option AV → Hp → Prop} {n : Nat} {ls : List (Option AV)} {st : List AV} {σ : Hp} {k : Nat × Nat} : xe_X11_again ct K R (n + 1) 41 ls st σ k = (lR ls 2 fun x => xk_X11_again ct K R n 42 ls (vr x :: st) σ k) := exS_step.trans rfl
theorem ev_X11_again_42 {ct : Nat → Bool} {K : Kt} {R : Option AV → Hp → Prop} {n : Nat} {ls : List (Option AV)} {st : List AV} {σ : Hp} {k : Nat × Nat} : xe_X11_again ct K R (n + 1) 42 ls st σ k = (popN 2 st [] fun av rest => (catS rest ≤ 8 ∧ 7 < 8 ∧ k.1 + 0 ≤ 0 ∧ k.2 + 0 ≤ 0) ∧ (sp_X11_answerCall) av σ fun v σ' => xk_X11_again ct K R n 45 ls (v.toList ++ rest) σ' (k.1 + 0, k.2 + 0)) := exS_step.trans rfl
theorem ev_X11_again_45 {ct : Nat → Bool} {K : Kt} {R : Option AV → Hp → Prop} {n : Nat} {ls : List (Option AV)} {st : List AV} {σ : Hp} {k : Nat × Nat} : xe_X11_again ct K R (n + 1) 45 ls st σ k = (lR ls 2 fun x => xk_X11_again ct K R n 46 ls (vr x :: st) σ k) := exS_step.trans rfl
theorem ev_X11_again_46 {ct : Nat → Bool} {K : Kt} {R : Option AV → Hp → Prop} {n : Nat} {ls : List (Option AV)} {st : List AV} {σ : Hp} {k : Nat × Nat} : xe_X11_again ct K R (n + 1) 46 ls st σ k = (oR st fun x st => kd σ x = 1 ∧ xk_X11_again ct K R n 49 ls (vi (fI σ 104 x) :: st) σ k) := exS_step.trans rfl
theorem ev_X11_again_49 {ct : Nat → Bool} {K : Kt} {R : Option AV → Hp → Prop} {n : Nat} {ls : List (Option AV)} {st : List AV} {σ : Hp} {k : Nat × Nat} : xe_X11_again ct K R (n + 1) 49 ls st σ k = (oI st fun x st => st = [] ∧ True ∧ R (some (vi x)) σ) := exS_step.trans rfl
def M_X11_again : Md := (yX11_again, cX11_again, 3, (some FieldType.int), 8, 0, 0, 1, false, tb_X11_again, mt_X11_again)
theorem mm_X11_again : MMOK M_X11_again := ⟨by decide +kernel, tk_X11_again, mk_X11_again, rfl, fun h => by cases h⟩
theorem go_X11_again {Q : Option AV → Hp → Prop} {ct : Nat → Bool} {pc : Nat} {ls : List (Option AV)} {st : List AV} {σ : Hp} {k : Nat × Nat} (n : Nat) (h : xe_X11_again ct (Go M_X11_again Q) Q n pc ls st σ k) : Go M_X11_again Q pc ls st σ k := Go.exS mm_X11_again h

set_option maxRecDepth 20000 in
theorem c_X11_again : Ct yX11_again cX11_again 3 ((some FieldType.int)) 8 0 0 sp_X11_again := by
  refine Ct.go (M := M_X11_again) mm_X11_again fun av σ Q h0 => ?_
  obtain ⟨this, a, rfl, hk, h⟩ := el_X11_again h0
  clear h0
  refine ⟨Nat.le_of_ble_eq_true rfl, ?_⟩
  show Go M_X11_again Q 0 [some (vr this), some (vi a), none] [] σ (0, 0)
  obtain ⟨rfl, hC, ha, τ, ⟨hK, hG, hA, hB, hI, hW, hAB⟩, ⟨hnw, h99⟩, hsm, h1, h2⟩ := h
  have hL := hA.1
  have hsz := hA.2.1
  have hcl := hI.calls_ a
  have hov := hI.isOver_ a
  have hals := hI.alarms_s
  by_cases c0 : 0 ≤ a ∧ a < fI τ 1371 61
  · have e : (if 0 ≤ a ∧ a < fI τ 1371 61 then lat σ 28 a else 0) = lat σ 28 a := if_pos c0
    have hk1 := hA.k c0.1 c0.2
    obtain ⟨g0, gb, gd, g3, g4, g5, g6, g7, g8, g9, -⟩ := hA.2.2.1 a c0.1 c0.2
    have hp0 : ¬ lat σ 28 a = 0 := by omega
    by_cases c : aI τ 112 a = 0 ∧ ¬ aI τ 111 a = 3
    · have h1 := h1 ⟨c0, c⟩
      have hb0 := hI.alarmBox_ a
      have hbl := hAB a c0.1 c0.2
      have hbx := hB.2.2 _ hb0.1 hbl
      have HA := AL_call hA c0
      have HB : BX (pI σ 104 (lat σ 28 a) (aI τ 111 a + 1)) (mCall τ a) := BX_call hB
      have HG : BG (pI σ 104 (lat σ 28 a) (aI τ 111 a + 1)) (mCall τ a) := BG_call hG
      have HI : MI (mCall τ a) := MI_calls_q (MI_fre hI (by decide)) (by omega)
      have HK : DKR (pI σ 104 (lat σ 28 a) (aI τ 111 a + 1)) (mCall τ a) := (hK.fz (Fz_pI (fs := [104]) (ars := noR) (als := noR) _ _ _ (by decide)) (by decide) (fun r q => absurd q (fun z => z))).cg rfl (fun r q1 q2 => by
        funext j
        unfold mCall
        rw [aI_qI, if_neg (by omega), aI_pI])
      have hS : AlS (pI σ 104 (lat σ 28 a) (aI τ 111 a + 1)) (mCall τ a) a (lat σ 28 a) := by
        unfold AlS mCall
        simp only [kd_pI, ln_pI, fI_pI, fR_pI, aI_pI, aI_qI, Nat.reduceEqDiff, false_and, if_false, Int.reduceEq]
        exact ⟨g0, hk1, g3, g4, g5, g6, g7, fun k _ => h99 k⟩
      have hm : aI (mCall τ a) 115 a ≤ mTo (mCall τ a) a := hsm c0.1 c0.2 c.1
      have eb : aI (mCall τ a) 109 a = aI τ 109 a := by unfold mCall; rw [aI_qI, if_neg (by omega), aI_pI]
      have ec : aI (mCall τ a) 111 a = aI τ 111 a + 1 := by unfold mCall; rw [aI_qI, if_pos ⟨rfl, rfl⟩]
      have en : fI (mCall τ a) 1301 61 = fI τ 1301 61 := rfl
      have ebn : fI (mCall τ a) 1302 61 = fI τ 1302 61 := rfl
      have r1 : fR (pI σ 104 (lat σ 28 a) (aI τ 111 a + 1)) 100 (lat σ 28 a) = lat (pI σ 104 (lat σ 28 a) (aI τ 111 a + 1)) 3 (aI τ 109 a) := gb
      have r2 : fI (pI σ 104 (lat σ 28 a) (aI τ 111 a + 1)) 104 (lat σ 28 a) = aI (mCall τ a) 111 a := by rw [ec, fI_pI, if_pos ⟨rfl, rfl⟩]
      have r3 : fI (pI σ 104 (lat σ 28 a) (aI τ 111 a + 1)) 1210 1 = fI (mCall τ a) 1301 61 := by rw [en, fI_pI, if_neg (by omega)]; exact hnw
      have HX := HB.2.2 (aI τ 109 a) hb0.1 (by rw [ebn]; exact hbl)
      have C1 : CLay (pI σ 104 (lat σ 28 a) (aI τ 111 a + 1)) := hC
      have k0 : kd (pI σ 104 (lat σ 28 a) (aI τ 111 a + 1)) 1 = 12 := hk
      have k1 : kd (pI σ 104 (lat σ 28 a) (aI τ 111 a + 1)) (lat σ 28 a) = 1 := hk1
      have w40 : Go M_X11_again Q 40 [some (vr 1), some (vi a), some (vr (lat σ 28 a))] [] (pI σ 104 (lat σ 28 a) (aI τ 111 a + 1)) (0, 0) := by
        have hWc : WI (mCall τ a) := WI_call hW
        have hAc : AB (mCall τ a) := AB_call hAB
        clear hC hK hG hA hB hI hW hAB h2 hsm hL hsz hnw hbx g7 g3 g4 g5 g6 g8 g9 gb gd hk hk1
        generalize hρ : pI σ 104 (lat σ 28 a) (aI τ 111 a + 1) = ρ at *
        generalize hτ : mCall τ a = τ1 at *
        generalize hpp : lat σ 28 a = p at *
        have w45 : ∀ σ', BG σ' (mAns τ1 a) → AlS σ' (mAns τ1 a) a p → Fz ansF (ansA p) noR ρ σ' → Go M_X11_again Q 45 [some (vr 1), some (vi a), some (vr p)] [] σ' (0, 0) := fun σ' z1 z2 z3 => by
          have h1 := h1 σ' z1 z2 z3
          have kz : kd σ' p = 1 := by rw [z3.kd]; exact k1
          have cz : fI σ' 104 p = aI τ 111 a + 1 := by rw [z3.fI (by decide), r2, ec]
          clear z1 z2 z3
          refine go_X11_again (ct := fun p => p == 0) 20 ?_
          simp only [oI, oL, oR, o1, lI, lL, lR, popN, catS, gv, stL, stL2, swt, cnd, spObj, List.getElem?_cons_zero, List.getElem?_cons_succ, List.getD_cons_zero, List.getD_cons_succ, List.set_cons_zero, List.set_cons_succ, List.nil_append, List.cons_append, Option.toList, Bool.or_false, Bool.false_or, Bool.or_true, Bool.true_or, Nat.reduceBEq, Nat.reduceAdd, Nat.reduceLT, Nat.reduceLeDiff, Int.reduceAdd, Int.reduceToNat, true_and, and_true, Fin.isValue, Fin.val_zero, Fin.val_one, Fin.val_two, Fin.reduceFinMk, eq_self, Int.reduceNeg, imp_self, Nat.reduceMul, Nat.le_refl, not_true_eq_false, not_false_eq_true, List.getElem?_nil, reduceCtorEq, true_or, or_true, Classical.not_not, implies_true, or_self, wI_0, wI_1, wI_m1, b2i_w, b2i_eq0, b2i_eq1, b2i_bool, nor_self, nx_pI, kd_pI, ln_pI, fI_pI, fL_pI, fR_pI, aI_pI, aL_pI, aR_pI, nx_pL, kd_pL, ln_pL, fI_pL, fL_pL, fR_pL, aI_pL, aL_pL, aR_pL, nx_pR, kd_pR, ln_pR, fI_pR, fL_pR, fR_pR, aI_pR, aL_pR, aR_pR, nx_qI, kd_qI, ln_qI, fI_qI, fL_qI, fR_qI, aI_qI, aL_qI, aR_qI, nx_qL, kd_qL, ln_qL, fI_qL, fL_qL, fR_qL, aI_qL, aL_qL, aR_qL, nx_qR, kd_qR, ln_qR, fI_qR, fL_qR, fR_qR, aI_qR, aL_qR, aR_qR, nx_mk, kd_mk, ln_mk, fI_mk, fL_mk, fR_mk, aI_mk, aL_mk, aR_mk, false_and, and_false, if_false, if_true, and_self, Int.reduceEq, Nat.reduceEqDiff, ite_self, MLay_pI, MLay_pL, MLay_qI, MLay_qL, ev_X11_again_45, ev_X11_again_46, ev_X11_again_49, xt_X11_again, xf_X11_again, us_X1_alarmOf, us_X11_answerCall, kz, cz]
          repeat' (first | intro z | apply And.intro)
          all_goals try omega
          all_goals try contradiction
          all_goals exact h1
        have hfin : (0 ≤ a ∧ a < 100) := by omega
        clear h1
        refine go_X11_again (ct := fun p => p == 45) 20 ?_
        simp only [oI, oL, oR, o1, lI, lL, lR, popN, catS, gv, stL, stL2, swt, cnd, spObj, List.getElem?_cons_zero, List.getElem?_cons_succ, List.getD_cons_zero, List.getD_cons_succ, List.set_cons_zero, List.set_cons_succ, List.nil_append, List.cons_append, Option.toList, Bool.or_false, Bool.false_or, Bool.or_true, Bool.true_or, Nat.reduceBEq, Nat.reduceAdd, Nat.reduceLT, Nat.reduceLeDiff, Int.reduceAdd, Int.reduceToNat, true_and, and_true, Fin.isValue, Fin.val_zero, Fin.val_one, Fin.val_two, Fin.reduceFinMk, eq_self, Int.reduceNeg, imp_self, Nat.reduceMul, Nat.le_refl, not_true_eq_false, not_false_eq_true, List.getElem?_nil, reduceCtorEq, true_or, or_true, Classical.not_not, implies_true, or_self, wI_0, wI_1, wI_m1, b2i_w, b2i_eq0, b2i_eq1, b2i_bool, nor_self, nx_pI, kd_pI, ln_pI, fI_pI, fL_pI, fR_pI, aI_pI, aL_pI, aR_pI, nx_pL, kd_pL, ln_pL, fI_pL, fL_pL, fR_pL, aI_pL, aL_pL, aR_pL, nx_pR, kd_pR, ln_pR, fI_pR, fL_pR, fR_pR, aI_pR, aL_pR, aR_pR, nx_qI, kd_qI, ln_qI, fI_qI, fL_qI, fR_qI, aI_qI, aL_qI, aR_qI, nx_qL, kd_qL, ln_qL, fI_qL, fL_qL, fR_qL, aI_qL, aL_qL, aR_qL, nx_qR, kd_qR, ln_qR, fI_qR, fL_qR, fR_qR, aI_qR, aL_qR, aR_qR, nx_mk, kd_mk, ln_mk, fI_mk, fL_mk, fR_mk, aI_mk, aL_mk, aR_mk, false_and, and_false, if_false, if_true, and_self, Int.reduceEq, Nat.reduceEqDiff, ite_self, MLay_pI, MLay_pL, MLay_qI, MLay_qL, ev_X11_again_40, ev_X11_again_41, ev_X11_again_42, xt_X11_again, xf_X11_again, us_X1_alarmOf, us_X11_answerCall, k0, C1]
        repeat' (first | intro z | apply And.intro)
        all_goals try omega
        all_goals try contradiction
        all_goals exact ⟨τ1, τ1, a, aI τ 109 a, ⟨HK, HG, HI, hfin, hS, hm⟩, ⟨r1, eb, r2, HX⟩, r3, ⟨HA, HB, HI, hWc, hAc, ⟨hb0.1, by rw [ebn]; exact hbl⟩, rfl⟩, w45⟩
      clear h1 h2 hsm HA HB HG HI HK hS hm r1 r2 r3 HX C1 k0 k1 hK hG hA hB hI hW hAB hbx g7
      refine go_X11_again (ct := fun p => p == 28 || p == 40) 60 ?_
      simp only [oI, oL, oR, o1, lI, lL, lR, popN, catS, gv, stL, stL2, swt, cnd, spObj, List.getElem?_cons_zero, List.getElem?_cons_succ, List.getD_cons_zero, List.getD_cons_succ, List.set_cons_zero, List.set_cons_succ, List.nil_append, List.cons_append, Option.toList, Bool.or_false, Bool.false_or, Bool.or_true, Bool.true_or, Nat.reduceBEq, Nat.reduceAdd, Nat.reduceLT, Nat.reduceLeDiff, Int.reduceAdd, Int.reduceToNat, true_and, and_true, Fin.isValue, Fin.val_zero, Fin.val_one, Fin.val_two, Fin.reduceFinMk, eq_self, Int.reduceNeg, imp_self, Nat.reduceMul, Nat.le_refl, not_true_eq_false, not_false_eq_true, List.getElem?_nil, reduceCtorEq, true_or, or_true, Classical.not_not, implies_true, or_self, wI_0, wI_1, wI_m1, b2i_w, b2i_eq0, b2i_eq1, b2i_bool, nor_self, nx_pI, kd_pI, ln_pI, fI_pI, fL_pI, fR_pI, aI_pI, aL_pI, aR_pI, nx_pL, kd_pL, ln_pL, fI_pL, fL_pL, fR_pL, aI_pL, aL_pL, aR_pL, nx_pR, kd_pR, ln_pR, fI_pR, fL_pR, fR_pR, aI_pR, aL_pR, aR_pR, nx_qI, kd_qI, ln_qI, fI_qI, fL_qI, fR_qI, aI_qI, aL_qI, aR_qI, nx_qL, kd_qL, ln_qL, fI_qL, fL_qL, fR_qL, aI_qL, aL_qL, aR_qL, nx_qR, kd_qR, ln_qR, fI_qR, fL_qR, fR_qR, aI_qR, aL_qR, aR_qR, nx_mk, kd_mk, ln_mk, fI_mk, fL_mk, fR_mk, aI_mk, aL_mk, aR_mk, false_and, and_false, if_false, if_true, and_self, Int.reduceEq, Nat.reduceEqDiff, ite_self, MLay_pI, MLay_pL, MLay_qI, MLay_qL, ev_X11_again_0, ev_X11_again_1, ev_X11_again_4, ev_X11_again_5, ev_X11_again_8, ev_X11_again_9, ev_X11_again_10, ev_X11_again_13, ev_X11_again_14, ev_X11_again_17, ev_X11_again_20, ev_X11_again_21, ev_X11_again_24, ev_X11_again_25, ev_X11_again_28, ev_X11_again_29, ev_X11_again_30, ev_X11_again_31, ev_X11_again_32, ev_X11_again_35, ev_X11_again_36, ev_X11_again_37, xt_X11_again, xf_X11_again, us_X1_alarmOf, us_X11_answerCall, hC, hC.eqs, hL, ha, hsz, e, hk1, hp0, g9, g8, c.1, hcl]
      try simp (disch := omega) only [wI_id, dv_nn, rm_nn]
      repeat' (first | intro z | apply And.intro)
      all_goals try omega
      all_goals try contradiction
      all_goals first | exact w40 | skip
    · have h2 := h2 (fun z => c z.2)
      clear h1 hsm hK hG hA hB hI hW hAB g7
      refine go_X11_again (ct := fun p => p == 30) 60 ?_
      simp only [oI, oL, oR, o1, lI, lL, lR, popN, catS, gv, stL, stL2, swt, cnd, spObj, List.getElem?_cons_zero, List.getElem?_cons_succ, List.getD_cons_zero, List.getD_cons_succ, List.set_cons_zero, List.set_cons_succ, List.nil_append, List.cons_append, Option.toList, Bool.or_false, Bool.false_or, Bool.or_true, Bool.true_or, Nat.reduceBEq, Nat.reduceAdd, Nat.reduceLT, Nat.reduceLeDiff, Int.reduceAdd, Int.reduceToNat, true_and, and_true, Fin.isValue, Fin.val_zero, Fin.val_one, Fin.val_two, Fin.reduceFinMk, eq_self, Int.reduceNeg, imp_self, Nat.reduceMul, Nat.le_refl, not_true_eq_false, not_false_eq_true, List.getElem?_nil, reduceCtorEq, true_or, or_true, Classical.not_not, implies_true, or_self, wI_0, wI_1, wI_m1, b2i_w, b2i_eq0, b2i_eq1, b2i_bool, nor_self, nx_pI, kd_pI, ln_pI, fI_pI, fL_pI, fR_pI, aI_pI, aL_pI, aR_pI, nx_pL, kd_pL, ln_pL, fI_pL, fL_pL, fR_pL, aI_pL, aL_pL, aR_pL, nx_pR, kd_pR, ln_pR, fI_pR, fL_pR, fR_pR, aI_pR, aL_pR, aR_pR, nx_qI, kd_qI, ln_qI, fI_qI, fL_qI, fR_qI, aI_qI, aL_qI, aR_qI, nx_qL, kd_qL, ln_qL, fI_qL, fL_qL, fR_qL, aI_qL, aL_qL, aR_qL, nx_qR, kd_qR, ln_qR, fI_qR, fL_qR, fR_qR, aI_qR, aL_qR, aR_qR, nx_mk, kd_mk, ln_mk, fI_mk, fL_mk, fR_mk, aI_mk, aL_mk, aR_mk, false_and, and_false, if_false, if_true, and_self, Int.reduceEq, Nat.reduceEqDiff, ite_self, MLay_pI, MLay_pL, MLay_qI, MLay_qL, ev_X11_again_0, ev_X11_again_1, ev_X11_again_4, ev_X11_again_5, ev_X11_again_8, ev_X11_again_9, ev_X11_again_10, ev_X11_again_13, ev_X11_again_14, ev_X11_again_17, ev_X11_again_20, ev_X11_again_21, ev_X11_again_24, ev_X11_again_25, ev_X11_again_28, ev_X11_again_29, xt_X11_again, xf_X11_again, us_X1_alarmOf, us_X11_answerCall, hC, hC.eqs, hL, ha, hsz, e, hk1, hp0, g9, g8, hcl, hov]
      try simp (disch := omega) only [wI_id, dv_nn, rm_nn]
      repeat' (first | intro z | apply And.intro)
      all_goals try omega
      all_goals try contradiction
      all_goals first | exact h2 | skip
  · have e : (if 0 ≤ a ∧ a < fI τ 1371 61 then lat σ 28 a else 0) = 0 := if_neg c0
    have h2 := h2 (fun z => c0 z.1)
    clear h1 hsm hK hG hA hB hI hW hAB
    refine go_X11_again (ct := fun p => p == 13) 60 ?_
    simp only [oI, oL, oR, o1, lI, lL, lR, popN, catS, gv, stL, stL2, swt, cnd, spObj, List.getElem?_cons_zero, List.getElem?_cons_succ, List.getD_cons_zero, List.getD_cons_succ, List.set_cons_zero, List.set_cons_succ, List.nil_append, List.cons_append, Option.toList, Bool.or_false, Bool.false_or, Bool.or_true, Bool.true_or, Nat.reduceBEq, Nat.reduceAdd, Nat.reduceLT, Nat.reduceLeDiff, Int.reduceAdd, Int.reduceToNat, true_and, and_true, Fin.isValue, Fin.val_zero, Fin.val_one, Fin.val_two, Fin.reduceFinMk, eq_self, Int.reduceNeg, imp_self, Nat.reduceMul, Nat.le_refl, not_true_eq_false, not_false_eq_true, List.getElem?_nil, reduceCtorEq, true_or, or_true, Classical.not_not, implies_true, or_self, wI_0, wI_1, wI_m1, b2i_w, b2i_eq0, b2i_eq1, b2i_bool, nor_self, nx_pI, kd_pI, ln_pI, fI_pI, fL_pI, fR_pI, aI_pI, aL_pI, aR_pI, nx_pL, kd_pL, ln_pL, fI_pL, fL_pL, fR_pL, aI_pL, aL_pL, aR_pL, nx_pR, kd_pR, ln_pR, fI_pR, fL_pR, fR_pR, aI_pR, aL_pR, aR_pR, nx_qI, kd_qI, ln_qI, fI_qI, fL_qI, fR_qI, aI_qI, aL_qI, aR_qI, nx_qL, kd_qL, ln_qL, fI_qL, fL_qL, fR_qL, aI_qL, aL_qL, aR_qL, nx_qR, kd_qR, ln_qR, fI_qR, fL_qR, fR_qR, aI_qR, aL_qR, aR_qR, nx_mk, kd_mk, ln_mk, fI_mk, fL_mk, fR_mk, aI_mk, aL_mk, aR_mk, false_and, and_false, if_false, if_true, and_self, Int.reduceEq, Nat.reduceEqDiff, ite_self, MLay_pI, MLay_pL, MLay_qI, MLay_qL, ev_X11_again_0, ev_X11_again_1, ev_X11_again_4, ev_X11_again_5, ev_X11_again_8, ev_X11_again_9, ev_X11_again_10, ev_X11_again_13, ev_X11_again_14, ev_X11_again_17, ev_X11_again_20, ev_X11_again_21, ev_X11_again_24, ev_X11_again_25, ev_X11_again_28, ev_X11_again_29, xt_X11_again, xf_X11_again, us_X1_alarmOf, us_X11_answerCall, hC, hC.eqs, hL, ha, hsz, e]
    try simp (disch := omega) only [wI_id, dv_nn, rm_nn]
    repeat' (first | intro z | apply And.intro)
    all_goals try omega
    all_goals try contradiction
    all_goals exact h2
