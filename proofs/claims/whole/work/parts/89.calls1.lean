/-! the class's calls: ticks, pull, cut, knocked -/

/-- all loops let n ticks pass, the first i of them -/
noncomputable def cTk (σ : Hp) (t : Int) (n : Nat) : Nat → Hp
  | 0 => σ
  | i + 1 => cPass (cTk σ t n i) (45 + 4 * (i : Int)) t n
theorem cPass_s (σ : Hp) (q t : Int) : ∀ n : Nat, kd (cPass σ q t n) = kd σ ∧ ln (cPass σ q t n) = ln σ ∧ aR (cPass σ q t n) = aR σ ∧ fR (cPass σ q t n) = fR σ ∧ fL (cPass σ q t n) = fL σ ∧ aL (cPass σ q t n) = aL σ ∧ nx (cPass σ q t n) = nx σ ∧ (∀ r, ¬ r = fR σ 1002 q → aI (cPass σ q t n) r = aI σ r) ∧ (∀ f, ([312, 313, 1003, 1004, 1005] : List Nat).contains f = false → fI (cPass σ q t n) f = fI σ f) ∧ (∀ p, (∀ k : Nat, (k : Int) < (fI σ 1402 (fR σ 1000 q)) → ¬ p = (lat σ (fR σ 1000 q) k)) → fI (cPass σ q t n) 313 p = fI σ 313 p ∧ fI (cPass σ q t n) 312 p = fI σ 312 p) ∧ (∀ p, ¬ p = q → fI (cPass σ q t n) 1003 p = fI σ 1003 p ∧ fI (cPass σ q t n) 1004 p = fI σ 1004 p ∧ fI (cPass σ q t n) 1005 p = fI σ 1005 p)
  | 0 => ⟨rfl, rfl, rfl, rfl, rfl, rfl, rfl, fun _ _ => rfl, fun _ _ => rfl, fun _ _ => ⟨rfl, rfl⟩, fun _ _ => ⟨rfl, rfl, rfl⟩⟩
  | n + 1 => by
    obtain ⟨a1, a2, a3, a4, a5, a6, a7, a8, a9, a10, a11⟩ := cPass_s σ q t n
    obtain ⟨b1, b2, b3, b4, b5, b6, b7, b8⟩ := cStep_s (cPass σ q t n) q (t + n + 1)
    have e : cPass σ q t (n + 1) = cStep (cPass σ q t n) q (t + n + 1) := rfl
    rw [e]
    have eN : (fI (cPass σ q t n) 1402 (fR (cPass σ q t n) 1000 q)) = (fI σ 1402 (fR σ 1000 q)) := by rw [a4, a9 1402 (by decide)]
    have eL : lat (cPass σ q t n) = lat σ := by unfold lat; rw [a3, a4]
    refine ⟨b1.trans a1, b2.trans a2, b3.trans a3, b4.trans a4, b5.trans a5, b6.trans a6, b7.trans a7, fun r hr => (b8 r (by rw [a4]; exact hr)).trans (a8 r hr), fun f hf => (cStep_f _ _ _ hf).trans (a9 f hf), fun p hp => ?_, fun p hp => ?_⟩
    · have c := a10 p hp
      have d := cStep_w (σ := cPass σ q t n) (q := q) (t := t + n + 1) (p := p) (fun k hk => by rw [eL, a4]; exact hp k (by rw [← eN]; exact hk))
      exact ⟨d.1.trans c.1, d.2.trans c.2⟩
    · have c := a11 p hp
      have d := cStep_o (σ := cPass σ q t n) (q := q) (t := t + n + 1) (p := p) hp
      exact ⟨d.1.trans c.1, d.2.1.trans c.2.1, d.2.2.trans c.2.2⟩
theorem CLay_cPass {σ : Hp} (h : CLay σ) (q t : Int) (n : Nat) : CLay (cPass σ q t n) := by
  obtain ⟨a1, a2, a3, a4, -⟩ := cPass_s σ q t n
  unfold CLay at *
  rw [a1, a2, a3, a4]
  exact h
theorem CLay_cTk {σ : Hp} (h : CLay σ) (t : Int) (n : Nat) : ∀ i, CLay (cTk σ t n i)
  | 0 => h
  | i + 1 => CLay_cPass (CLay_cTk h t n i) _ _ _
/-- a loop's ticks leave another loop an object as it was -/
theorem LpO_ot {σ : Hp} {q q' t : Int} (h : LpO σ q') (hq : ¬ q' = q) (h2 : ¬ fR σ 1002 q' = fR σ 1002 q) (h1 : ¬ fR σ 1001 q' = fR σ 1002 q) (ht : 0 ≤ t ∧ t ≤ 999999) : LpO (cStep σ q t) q' := by
  have g1 : LpO (cSt1 σ q t) q' := by
    unfold cSt1
    split
    · exact LpO_p3 h (by omega) (by omega)
    · exact h
  have gR : fR (cSt1 σ q t) = fR σ := (cSt1_s σ q t).2.2.2.1
  unfold cStep cSt2
  split
  · generalize cSt1 σ q t = ρ at *
    rw [← gR] at h1 h2
    unfold LpO LOk lat BxR at g1 ⊢
    unfold cTp
    simp only [kd_pI, ln_pI, fI_pI, fR_pI, aR_pI, aI_pI, kd_qI, ln_qI, fI_qI, fR_qI, aR_qI, aI_qI, Nat.reduceEqDiff, false_and, if_false, hq, h1, h2, and_false]
    exact g1
  · exact g1
theorem LpO_pt {σ : Hp} {q q' t : Int} (h : LpO σ q') (hq : ¬ q' = q) (h2 : ¬ fR σ 1002 q' = fR σ 1002 q) (h1 : ¬ fR σ 1001 q' = fR σ 1002 q) (ht : 0 ≤ t) : ∀ n : Nat, t + n ≤ 999999 → LpO (cPass σ q t n) q'
  | 0, _ => h
  | n + 1, hn => by
    have ih := LpO_pt h hq h2 h1 ht n (by omega)
    have e := (cPass_s σ q t n).2.2.2.1
    exact LpO_ot ih hq (by rw [e]; exact h2) (by rw [e]; exact h1) (by omega)
theorem LpO_cTk {σ : Hp} (hC : CLay σ) {t : Int} (ht : 0 ≤ t) {n : Nat} (hn : t + n ≤ 999999) {l : Int} (hl : 0 ≤ l ∧ l < 4) (h : LpO σ (45 + 4 * l)) : ∀ i : Nat, (i : Int) ≤ l → LpO (cTk σ t n i) (45 + 4 * l)
  | 0, _ => h
  | i + 1, hi => by
    have ih := LpO_cTk hC ht hn hl h i (by omega)
    have hC2 := CLay_cTk hC t n i
    obtain ⟨-, -, -, k4, k5, -⟩ := LoP.k hC2 hl
    obtain ⟨-, -, -, -, k5', -⟩ := LoP.k hC2 (l := i) (by omega)
    exact LpO_pt ih (by omega) (by rw [k5, k5']; omega) (by rw [k4, k5']; omega) ht n hn
theorem now_cTk (σ : Hp) (t : Int) (n : Nat) : ∀ i, fI (cTk σ t n i) 1210 = fI σ 1210
  | 0 => rfl
  | i + 1 => by
    show fI (cPass _ _ _ _) _ = _
    rw [(cPass_s _ _ _ _).2.2.2.2.2.2.2.2.1 _ (by decide), now_cTk σ t n i]

def sp_X11_ticks : Sp := fun av σ Q => oR av fun this av => oI av fun n av => av = [] ∧ kd σ this = 12 ∧ (this = 1 ∧ CLay σ ∧ (∀ l, 0 ≤ l → l < 4 → LpO σ (45 + 4 * l)) ∧ (0 ≤ fI σ 1210 1 ∧ fI σ 1210 1 ≤ 999999) ∧ inR n ∧ (((0 ≤ n ∧ n ≤ 5000) ∧ fI σ 1210 1 + n ≤ 999999) → Q (some (vi (fI σ 1210 1 + n))) (pI (cTk σ (fI σ 1210 1) n.toNat 4) 1210 1 (fI σ 1210 1 + n))) ∧ (¬ ((0 ≤ n ∧ n ≤ 5000) ∧ fI σ 1210 1 + n ≤ 999999) → Q (some (vi (-1))) σ))
theorem us_X11_ticks (this : Int) (n : Int) (σ : Hp) (Q : Option AV → Hp → Prop) : sp_X11_ticks [vr this, vi n] σ Q = (kd σ this = 12 ∧ (this = 1 ∧ CLay σ ∧ (∀ l, 0 ≤ l → l < 4 → LpO σ (45 + 4 * l)) ∧ (0 ≤ fI σ 1210 1 ∧ fI σ 1210 1 ≤ 999999) ∧ inR n ∧ (((0 ≤ n ∧ n ≤ 5000) ∧ fI σ 1210 1 + n ≤ 999999) → Q (some (vi (fI σ 1210 1 + n))) (pI (cTk σ (fI σ 1210 1) n.toNat 4) 1210 1 (fI σ 1210 1 + n))) ∧ (¬ ((0 ≤ n ∧ n ≤ 5000) ∧ fI σ 1210 1 + n ≤ 999999) → Q (some (vi (-1))) σ))) := propext ⟨fun h => h.2, fun h => ⟨rfl, h⟩⟩
theorem el_X11_ticks {av : List AV} {σ : Hp} {Q : Option AV → Hp → Prop} (h : sp_X11_ticks av σ Q) : ∃ (this : Int) (n : Int), av = [vr this, vi n] ∧ (kd σ this = 12 ∧ (this = 1 ∧ CLay σ ∧ (∀ l, 0 ≤ l → l < 4 → LpO σ (45 + 4 * l)) ∧ (0 ≤ fI σ 1210 1 ∧ fI σ 1210 1 ≤ 999999) ∧ inR n ∧ (((0 ≤ n ∧ n ≤ 5000) ∧ fI σ 1210 1 + n ≤ 999999) → Q (some (vi (fI σ 1210 1 + n))) (pI (cTk σ (fI σ 1210 1) n.toNat 4) 1210 1 (fI σ 1210 1 + n))) ∧ (¬ ((0 ≤ n ∧ n ≤ 5000) ∧ fI σ 1210 1 + n ≤ 999999) → Q (some (vi (-1))) σ))) := by
  obtain ⟨this, a0, rfl, h0⟩ := oR_s h
  obtain ⟨n, a1, rfl, h1⟩ := oI_s h0
  obtain ⟨rfl, hz⟩ := h1
  exact ⟨this, n, rfl, hz⟩
theorem rc_X11_ticks : ∀ (av : List AV) (σ : Hp) (Q : Option AV → Hp → Prop), sp_X11_ticks av σ Q → ∃ r tl, av = vr r :: tl ∧ kd σ r = 11 + 1 := fun av σ Q h => by
  obtain ⟨this, n, rfl, hz, -⟩ := el_X11_ticks h
  exact ⟨this, _, rfl, hz⟩

def tb_X11_ticks : Tab := [(0, .iload_n 1, 1, (0, 0, 0, 0)), (1, .ifCond .lt 21, 3, (0, 0, 0, 0)), (4, .iload_n 1, 1, (0, 0, 0, 0)), (5, .sipush 5000, 3, (0, 0, 0, 0)), (8, .if_icmp .gt 14, 3, (0, 0, 0, 0)), (11, .aload_n 0, 1, (0, 0, 0, 0)), (12, .getfield 69, 3, (12, 1210, 0, 0)), (15, .iload_n 1, 1, (0, 0, 0, 0)), (16, .iadd, 1, (0, 0, 0, 0)), (17, .ldc 74, 2, (1, 0, 0, 999999)), (19, .if_icmp .le 5, 3, (0, 0, 0, 0)), (22, .iconst (-1), 1, (0, 0, 0, 0)), (23, .ireturn, 1, (0, 0, 0, 0)), (24, .iconst 0, 1, (0, 0, 0, 0)), (25, .istore_n 2, 1, (0, 0, 0, 0)), (26, .iload_n 2, 1, (0, 0, 0, 0)), (27, .aload_n 0, 1, (0, 0, 0, 0)), (28, .getfield 11, 3, (12, 1200, 2, 0)), (31, .arraylength, 1, (0, 0, 0, 0)), (32, .if_icmp .ge 23, 3, (0, 0, 0, 0)), (35, .aload_n 0, 1, (0, 0, 0, 0)), (36, .getfield 11, 3, (12, 1200, 2, 0)), (39, .iload_n 2, 1, (0, 0, 0, 0)), (40, .aaload, 1, (0, 0, 0, 0)), (41, .aload_n 0, 1, (0, 0, 0, 0)), (42, .getfield 69, 3, (12, 1210, 0, 0)), (45, .iload_n 1, 1, (0, 0, 0, 0)), (46, .invokevirtual 75, 3, (0, 0, 0, 0)), (49, .iinc 2 1, 3, (0, 0, 0, 0)), (52, .goto (-26), 3, (0, 0, 0, 0)), (55, .aload_n 0, 1, (0, 0, 0, 0)), (56, .dup, 1, (0, 0, 0, 0)), (57, .getfield 69, 3, (12, 1210, 0, 0)), (60, .iload_n 1, 1, (0, 0, 0, 0)), (61, .iadd, 1, (0, 0, 0, 0)), (62, .putfield 69, 3, (12, 1210, 0, 0)), (65, .aload_n 0, 1, (0, 0, 0, 0)), (66, .getfield 69, 3, (12, 1210, 0, 0)), (69, .ireturn, 1, (0, 0, 0, 0))]
set_option maxRecDepth 100000 in
theorem tk_X11_ticks : TOK RX11 false cX11_ticks tb_X11_ticks := chkT_ok ft_X11 (by decide +kernel)
theorem rw_X11_600 : Row RX11 (.invokevirtual 75) 3 3 0 0 5 sp_X9_letPass := row_V (n := 2) (ci := 9) c_X9_letPass ⟨TBL_in 474 (by decide +kernel) rfl, TBL_in 477 (by decide +kernel) rfl, TBL_in 122 (by decide +kernel) rfl, by decide +kernel, by decide⟩ (by decide) rfl (TBL_in 475 (by decide +kernel) rfl) (TBL_in 476 (by decide +kernel) rfl) rc_X9_letPass
def mt_X11_ticks : List (Nat × Mt) := [(600, 3, 0, 0, 5, sp_X9_letPass)]
theorem em_X11_ticks : mt_X11_ticks.lookup 600 = some (3, 0, 0, 5, sp_X9_letPass) := rfl
theorem mk_X11_ticks : MOK RX11 mt_X11_ticks := by
  intro q hq
  simp only [mt_X11_ticks, List.mem_cons, List.not_mem_nil, or_false] at hq
  rcases hq with rfl
  · exact rw_X11_600
noncomputable def xe_X11_ticks (ct : Nat → Bool) (K : Kt) (R : Option AV → Hp → Prop) (n : Nat) : Kt := exS 3 6 0 0 1 tb_X11_ticks mt_X11_ticks ct K R n
noncomputable def xk_X11_ticks (ct : Nat → Bool) (K : Kt) (R : Option AV → Hp → Prop) (n : Nat) : Kt := exkS 3 6 0 0 1 tb_X11_ticks mt_X11_ticks ct K R n
theorem xt_X11_ticks {ct : Nat → Bool} {K : Kt} {R : Option AV → Hp → Prop} {n pc : Nat} {ls : List (Option AV)} {st : List AV} {σ : Hp} {k : Nat × Nat} (h : ct pc = true) : xk_X11_ticks ct K R n pc ls st σ k = K pc ls st σ k := by unfold xk_X11_ticks exkS; rw [h]
theorem xf_X11_ticks {ct : Nat → Bool} {K : Kt} {R : Option AV → Hp → Prop} {n pc : Nat} {ls : List (Option AV)} {st : List AV} {σ : Hp} {k : Nat × Nat} (h : ct pc = false) : xk_X11_ticks ct K R n pc ls st σ k = xe_X11_ticks ct K R n pc ls st σ k := by unfold xk_X11_ticks exkS xe_X11_ticks; rw [h]
theorem ev_X11_ticks_0 {ct : Nat → Bool} {K : Kt} {R : Option AV → Hp → Prop} {n : Nat} {ls : List (Option AV)} {st : List AV} {σ : Hp} {k : Nat × Nat} : xe_X11_ticks ct K R (n + 1) 0 ls st σ k = (lI ls 1 fun x => xk_X11_ticks ct K R n 1 ls (vi x :: st) σ k) := exS_step.trans rfl
theorem ev_X11_ticks_1 {ct : Nat → Bool} {K : Kt} {R : Option AV → Hp → Prop} {n : Nat} {ls : List (Option AV)} {st : List AV} {σ : Hp} {k : Nat × Nat} : xe_X11_ticks ct K R (n + 1) 1 ls st σ k = (oI st fun x st => (wI x < wI 0 → xk_X11_ticks ct K R n 22 ls st σ k) ∧ (¬ (wI x < wI 0) → xk_X11_ticks ct K R n 4 ls st σ k)) := exS_step.trans rfl
theorem ev_X11_ticks_4 {ct : Nat → Bool} {K : Kt} {R : Option AV → Hp → Prop} {n : Nat} {ls : List (Option AV)} {st : List AV} {σ : Hp} {k : Nat × Nat} : xe_X11_ticks ct K R (n + 1) 4 ls st σ k = (lI ls 1 fun x => xk_X11_ticks ct K R n 5 ls (vi x :: st) σ k) := exS_step.trans rfl
theorem ev_X11_ticks_5 {ct : Nat → Bool} {K : Kt} {R : Option AV → Hp → Prop} {n : Nat} {ls : List (Option AV)} {st : List AV} {σ : Hp} {k : Nat × Nat} : xe_X11_ticks ct K R (n + 1) 5 ls st σ k = (xk_X11_ticks ct K R n 8 ls (vi (5000) :: st) σ k) := exS_step.trans rfl
theorem ev_X11_ticks_8 {ct : Nat → Bool} {K : Kt} {R : Option AV → Hp → Prop} {n : Nat} {ls : List (Option AV)} {st : List AV} {σ : Hp} {k : Nat × Nat} : xe_X11_ticks ct K R (n + 1) 8 ls st σ k = (oI st fun y st => oI st fun x st => (wI y < wI x → xk_X11_ticks ct K R n 22 ls st σ k) ∧ (¬ (wI y < wI x) → xk_X11_ticks ct K R n 11 ls st σ k)) := exS_step.trans rfl
theorem ev_X11_ticks_11 {ct : Nat → Bool} {K : Kt} {R : Option AV → Hp → Prop} {n : Nat} {ls : List (Option AV)} {st : List AV} {σ : Hp} {k : Nat × Nat} : xe_X11_ticks ct K R (n + 1) 11 ls st σ k = (lR ls 0 fun x => xk_X11_ticks ct K R n 12 ls (vr x :: st) σ k) := exS_step.trans rfl
theorem ev_X11_ticks_12 {ct : Nat → Bool} {K : Kt} {R : Option AV → Hp → Prop} {n : Nat} {ls : List (Option AV)} {st : List AV} {σ : Hp} {k : Nat × Nat} : xe_X11_ticks ct K R (n + 1) 12 ls st σ k = (oR st fun x st => kd σ x = 12 ∧ xk_X11_ticks ct K R n 15 ls (vi (fI σ 1210 x) :: st) σ k) := exS_step.trans rfl
theorem ev_X11_ticks_15 {ct : Nat → Bool} {K : Kt} {R : Option AV → Hp → Prop} {n : Nat} {ls : List (Option AV)} {st : List AV} {σ : Hp} {k : Nat × Nat} : xe_X11_ticks ct K R (n + 1) 15 ls st σ k = (lI ls 1 fun x => xk_X11_ticks ct K R n 16 ls (vi x :: st) σ k) := exS_step.trans rfl
theorem ev_X11_ticks_16 {ct : Nat → Bool} {K : Kt} {R : Option AV → Hp → Prop} {n : Nat} {ls : List (Option AV)} {st : List AV} {σ : Hp} {k : Nat × Nat} : xe_X11_ticks ct K R (n + 1) 16 ls st σ k = (oI st fun y st => oI st fun x st => xk_X11_ticks ct K R n 17 ls (vi (x + y) :: st) σ k) := exS_step.trans rfl
theorem ev_X11_ticks_17 {ct : Nat → Bool} {K : Kt} {R : Option AV → Hp → Prop} {n : Nat} {ls : List (Option AV)} {st : List AV} {σ : Hp} {k : Nat × Nat} : xe_X11_ticks ct K R (n + 1) 17 ls st σ k = (xk_X11_ticks ct K R n 19 ls (vi (999999) :: st) σ k) := exS_step.trans rfl
theorem ev_X11_ticks_19 {ct : Nat → Bool} {K : Kt} {R : Option AV → Hp → Prop} {n : Nat} {ls : List (Option AV)} {st : List AV} {σ : Hp} {k : Nat × Nat} : xe_X11_ticks ct K R (n + 1) 19 ls st σ k = (oI st fun y st => oI st fun x st => (wI x ≤ wI y → xk_X11_ticks ct K R n 24 ls st σ k) ∧ (¬ (wI x ≤ wI y) → xk_X11_ticks ct K R n 22 ls st σ k)) := exS_step.trans rfl
theorem ev_X11_ticks_22 {ct : Nat → Bool} {K : Kt} {R : Option AV → Hp → Prop} {n : Nat} {ls : List (Option AV)} {st : List AV} {σ : Hp} {k : Nat × Nat} : xe_X11_ticks ct K R (n + 1) 22 ls st σ k = (xk_X11_ticks ct K R n 23 ls (vi (-1) :: st) σ k) := exS_step.trans rfl
theorem ev_X11_ticks_23 {ct : Nat → Bool} {K : Kt} {R : Option AV → Hp → Prop} {n : Nat} {ls : List (Option AV)} {st : List AV} {σ : Hp} {k : Nat × Nat} : xe_X11_ticks ct K R (n + 1) 23 ls st σ k = (oI st fun x st => st = [] ∧ True ∧ R (some (vi x)) σ) := exS_step.trans rfl
theorem ev_X11_ticks_24 {ct : Nat → Bool} {K : Kt} {R : Option AV → Hp → Prop} {n : Nat} {ls : List (Option AV)} {st : List AV} {σ : Hp} {k : Nat × Nat} : xe_X11_ticks ct K R (n + 1) 24 ls st σ k = (xk_X11_ticks ct K R n 25 ls (vi (0) :: st) σ k) := exS_step.trans rfl
theorem ev_X11_ticks_25 {ct : Nat → Bool} {K : Kt} {R : Option AV → Hp → Prop} {n : Nat} {ls : List (Option AV)} {st : List AV} {σ : Hp} {k : Nat × Nat} : xe_X11_ticks ct K R (n + 1) 25 ls st σ k = (oI st fun x st => 2 < 3 ∧ xk_X11_ticks ct K R n 26 (stL ls 2 (vi x)) st σ k) := exS_step.trans rfl
theorem ev_X11_ticks_26 {ct : Nat → Bool} {K : Kt} {R : Option AV → Hp → Prop} {n : Nat} {ls : List (Option AV)} {st : List AV} {σ : Hp} {k : Nat × Nat} : xe_X11_ticks ct K R (n + 1) 26 ls st σ k = (lI ls 2 fun x => xk_X11_ticks ct K R n 27 ls (vi x :: st) σ k) := exS_step.trans rfl
theorem ev_X11_ticks_27 {ct : Nat → Bool} {K : Kt} {R : Option AV → Hp → Prop} {n : Nat} {ls : List (Option AV)} {st : List AV} {σ : Hp} {k : Nat × Nat} : xe_X11_ticks ct K R (n + 1) 27 ls st σ k = (lR ls 0 fun x => xk_X11_ticks ct K R n 28 ls (vr x :: st) σ k) := exS_step.trans rfl
theorem ev_X11_ticks_28 {ct : Nat → Bool} {K : Kt} {R : Option AV → Hp → Prop} {n : Nat} {ls : List (Option AV)} {st : List AV} {σ : Hp} {k : Nat × Nat} : xe_X11_ticks ct K R (n + 1) 28 ls st σ k = (oR st fun x st => kd σ x = 12 ∧ xk_X11_ticks ct K R n 31 ls (vr (fR σ 1200 x) :: st) σ k) := exS_step.trans rfl
theorem ev_X11_ticks_31 {ct : Nat → Bool} {K : Kt} {R : Option AV → Hp → Prop} {n : Nat} {ls : List (Option AV)} {st : List AV} {σ : Hp} {k : Nat × Nat} : xe_X11_ticks ct K R (n + 1) 31 ls st σ k = (oR st fun x st => (101 ≤ kd σ x ∨ kd σ x = 21) ∧ xk_X11_ticks ct K R n 32 ls (vi (ln σ x) :: st) σ k) := exS_step.trans rfl
theorem ev_X11_ticks_32 {ct : Nat → Bool} {K : Kt} {R : Option AV → Hp → Prop} {n : Nat} {ls : List (Option AV)} {st : List AV} {σ : Hp} {k : Nat × Nat} : xe_X11_ticks ct K R (n + 1) 32 ls st σ k = (oI st fun y st => oI st fun x st => (wI y ≤ wI x → xk_X11_ticks ct K R n 55 ls st σ k) ∧ (¬ (wI y ≤ wI x) → xk_X11_ticks ct K R n 35 ls st σ k)) := exS_step.trans rfl
theorem ev_X11_ticks_35 {ct : Nat → Bool} {K : Kt} {R : Option AV → Hp → Prop} {n : Nat} {ls : List (Option AV)} {st : List AV} {σ : Hp} {k : Nat × Nat} : xe_X11_ticks ct K R (n + 1) 35 ls st σ k = (lR ls 0 fun x => xk_X11_ticks ct K R n 36 ls (vr x :: st) σ k) := exS_step.trans rfl
theorem ev_X11_ticks_36 {ct : Nat → Bool} {K : Kt} {R : Option AV → Hp → Prop} {n : Nat} {ls : List (Option AV)} {st : List AV} {σ : Hp} {k : Nat × Nat} : xe_X11_ticks ct K R (n + 1) 36 ls st σ k = (oR st fun x st => kd σ x = 12 ∧ xk_X11_ticks ct K R n 39 ls (vr (fR σ 1200 x) :: st) σ k) := exS_step.trans rfl
theorem ev_X11_ticks_39 {ct : Nat → Bool} {K : Kt} {R : Option AV → Hp → Prop} {n : Nat} {ls : List (Option AV)} {st : List AV} {σ : Hp} {k : Nat × Nat} : xe_X11_ticks ct K R (n + 1) 39 ls st σ k = (lI ls 2 fun x => xk_X11_ticks ct K R n 40 ls (vi x :: st) σ k) := exS_step.trans rfl
theorem ev_X11_ticks_40 {ct : Nat → Bool} {K : Kt} {R : Option AV → Hp → Prop} {n : Nat} {ls : List (Option AV)} {st : List AV} {σ : Hp} {k : Nat × Nat} : xe_X11_ticks ct K R (n + 1) 40 ls st σ k = (oI st fun j st => oR st fun x st => (kd σ x = 105 ∨ kd σ x = 106 ∨ kd σ x = 107) ∧ (0 ≤ j ∧ j < ln σ x) ∧ xk_X11_ticks ct K R n 41 ls (vr (aR σ x j) :: st) σ k) := exS_step.trans rfl
theorem ev_X11_ticks_41 {ct : Nat → Bool} {K : Kt} {R : Option AV → Hp → Prop} {n : Nat} {ls : List (Option AV)} {st : List AV} {σ : Hp} {k : Nat × Nat} : xe_X11_ticks ct K R (n + 1) 41 ls st σ k = (lR ls 0 fun x => xk_X11_ticks ct K R n 42 ls (vr x :: st) σ k) := exS_step.trans rfl
theorem ev_X11_ticks_42 {ct : Nat → Bool} {K : Kt} {R : Option AV → Hp → Prop} {n : Nat} {ls : List (Option AV)} {st : List AV} {σ : Hp} {k : Nat × Nat} : xe_X11_ticks ct K R (n + 1) 42 ls st σ k = (oR st fun x st => kd σ x = 12 ∧ xk_X11_ticks ct K R n 45 ls (vi (fI σ 1210 x) :: st) σ k) := exS_step.trans rfl
theorem ev_X11_ticks_45 {ct : Nat → Bool} {K : Kt} {R : Option AV → Hp → Prop} {n : Nat} {ls : List (Option AV)} {st : List AV} {σ : Hp} {k : Nat × Nat} : xe_X11_ticks ct K R (n + 1) 45 ls st σ k = (lI ls 1 fun x => xk_X11_ticks ct K R n 46 ls (vi x :: st) σ k) := exS_step.trans rfl
theorem ev_X11_ticks_46 {ct : Nat → Bool} {K : Kt} {R : Option AV → Hp → Prop} {n : Nat} {ls : List (Option AV)} {st : List AV} {σ : Hp} {k : Nat × Nat} : xe_X11_ticks ct K R (n + 1) 46 ls st σ k = (popN 3 st [] fun av rest => (catS rest ≤ 8 ∧ 5 < 6 ∧ k.1 + 0 ≤ 0 ∧ k.2 + 0 ≤ 0) ∧ (sp_X9_letPass) av σ fun v σ' => xk_X11_ticks ct K R n 49 ls (v.toList ++ rest) σ' (k.1 + 0, k.2 + 0)) := exS_step.trans rfl
theorem ev_X11_ticks_49 {ct : Nat → Bool} {K : Kt} {R : Option AV → Hp → Prop} {n : Nat} {ls : List (Option AV)} {st : List AV} {σ : Hp} {k : Nat × Nat} : xe_X11_ticks ct K R (n + 1) 49 ls st σ k = (lI ls 2 fun x => 2 < 3 ∧ xk_X11_ticks ct K R n 52 (stL ls 2 (vi (x + (1)))) st σ k) := exS_step.trans rfl
theorem ev_X11_ticks_52 {ct : Nat → Bool} {K : Kt} {R : Option AV → Hp → Prop} {n : Nat} {ls : List (Option AV)} {st : List AV} {σ : Hp} {k : Nat × Nat} : xe_X11_ticks ct K R (n + 1) 52 ls st σ k = (xk_X11_ticks ct K R n 26 ls st σ k) := exS_step.trans rfl
theorem ev_X11_ticks_55 {ct : Nat → Bool} {K : Kt} {R : Option AV → Hp → Prop} {n : Nat} {ls : List (Option AV)} {st : List AV} {σ : Hp} {k : Nat × Nat} : xe_X11_ticks ct K R (n + 1) 55 ls st σ k = (lR ls 0 fun x => xk_X11_ticks ct K R n 56 ls (vr x :: st) σ k) := exS_step.trans rfl
theorem ev_X11_ticks_56 {ct : Nat → Bool} {K : Kt} {R : Option AV → Hp → Prop} {n : Nat} {ls : List (Option AV)} {st : List AV} {σ : Hp} {k : Nat × Nat} : xe_X11_ticks ct K R (n + 1) 56 ls st σ k = (o1 st fun v st => xk_X11_ticks ct K R n 57 ls (v :: v :: st) σ k) := exS_step.trans rfl
theorem ev_X11_ticks_57 {ct : Nat → Bool} {K : Kt} {R : Option AV → Hp → Prop} {n : Nat} {ls : List (Option AV)} {st : List AV} {σ : Hp} {k : Nat × Nat} : xe_X11_ticks ct K R (n + 1) 57 ls st σ k = (oR st fun x st => kd σ x = 12 ∧ xk_X11_ticks ct K R n 60 ls (vi (fI σ 1210 x) :: st) σ k) := exS_step.trans rfl
theorem ev_X11_ticks_60 {ct : Nat → Bool} {K : Kt} {R : Option AV → Hp → Prop} {n : Nat} {ls : List (Option AV)} {st : List AV} {σ : Hp} {k : Nat × Nat} : xe_X11_ticks ct K R (n + 1) 60 ls st σ k = (lI ls 1 fun x => xk_X11_ticks ct K R n 61 ls (vi x :: st) σ k) := exS_step.trans rfl
theorem ev_X11_ticks_61 {ct : Nat → Bool} {K : Kt} {R : Option AV → Hp → Prop} {n : Nat} {ls : List (Option AV)} {st : List AV} {σ : Hp} {k : Nat × Nat} : xe_X11_ticks ct K R (n + 1) 61 ls st σ k = (oI st fun y st => oI st fun x st => xk_X11_ticks ct K R n 62 ls (vi (x + y) :: st) σ k) := exS_step.trans rfl
theorem ev_X11_ticks_62 {ct : Nat → Bool} {K : Kt} {R : Option AV → Hp → Prop} {n : Nat} {ls : List (Option AV)} {st : List AV} {σ : Hp} {k : Nat × Nat} : xe_X11_ticks ct K R (n + 1) 62 ls st σ k = (oI st fun v st => oR st fun x st => kd σ x = 12 ∧ xk_X11_ticks ct K R n 65 ls st (pI σ 1210 x v) k) := exS_step.trans rfl
theorem ev_X11_ticks_65 {ct : Nat → Bool} {K : Kt} {R : Option AV → Hp → Prop} {n : Nat} {ls : List (Option AV)} {st : List AV} {σ : Hp} {k : Nat × Nat} : xe_X11_ticks ct K R (n + 1) 65 ls st σ k = (lR ls 0 fun x => xk_X11_ticks ct K R n 66 ls (vr x :: st) σ k) := exS_step.trans rfl
theorem ev_X11_ticks_66 {ct : Nat → Bool} {K : Kt} {R : Option AV → Hp → Prop} {n : Nat} {ls : List (Option AV)} {st : List AV} {σ : Hp} {k : Nat × Nat} : xe_X11_ticks ct K R (n + 1) 66 ls st σ k = (oR st fun x st => kd σ x = 12 ∧ xk_X11_ticks ct K R n 69 ls (vi (fI σ 1210 x) :: st) σ k) := exS_step.trans rfl
theorem ev_X11_ticks_69 {ct : Nat → Bool} {K : Kt} {R : Option AV → Hp → Prop} {n : Nat} {ls : List (Option AV)} {st : List AV} {σ : Hp} {k : Nat × Nat} : xe_X11_ticks ct K R (n + 1) 69 ls st σ k = (oI st fun x st => st = [] ∧ True ∧ R (some (vi x)) σ) := exS_step.trans rfl
def M_X11_ticks : Md := (yX11_ticks, cX11_ticks, 3, (some FieldType.int), 6, 0, 0, 1, false, tb_X11_ticks, mt_X11_ticks)
theorem mm_X11_ticks : MMOK M_X11_ticks := ⟨by decide +kernel, tk_X11_ticks, mk_X11_ticks, rfl, fun h => by cases h⟩
theorem go_X11_ticks {Q : Option AV → Hp → Prop} {ct : Nat → Bool} {pc : Nat} {ls : List (Option AV)} {st : List AV} {σ : Hp} {k : Nat × Nat} (n : Nat) (h : xe_X11_ticks ct (Go M_X11_ticks Q) Q n pc ls st σ k) : Go M_X11_ticks Q pc ls st σ k := Go.exS mm_X11_ticks h

set_option maxRecDepth 20000 in
theorem c_X11_ticks : Ct yX11_ticks cX11_ticks 3 ((some FieldType.int)) 6 0 0 sp_X11_ticks := by
  refine Ct.go (M := M_X11_ticks) mm_X11_ticks fun av σ Q h0 => ?_
  obtain ⟨this, n, rfl, hk, h⟩ := el_X11_ticks h0
  clear h0
  refine ⟨Nat.le_of_ble_eq_true rfl, ?_⟩
  show Go M_X11_ticks Q 0 [some (vr this), some (vi n), none] [] σ (0, 0)
  obtain ⟨rfl, hC, hL, hnw, hn, h1, h2⟩ := h
  unfold inR at hn
  by_cases c : (0 ≤ n ∧ n ≤ 5000) ∧ fI σ 1210 1 + n ≤ 999999
  · have h1 := h1 c
    clear h2
    have hnt : ((n.toNat : Nat) : Int) = n := by omega
    have loop : ∀ (m i : Nat), i + m = 4 → Go M_X11_ticks Q 26 [some (vr 1), some (vi n), some (vi i)] [] (cTk σ (fI σ 1210 1) n.toNat i) (0, 0) := by
      intro m
      induction m with
      | zero =>
        intro i hi
        have e : i = 4 := by omega
        subst e
        have hC2 := CLay_cTk hC (fI σ 1210 1) n.toNat 4
        have e2 : fI (cTk σ (fI σ 1210 1) n.toNat 4) 1210 1 = fI σ 1210 1 := by rw [now_cTk]
        generalize cTk σ (fI σ 1210 1) n.toNat 4 = ρ at *
        have hk9 : kd ρ 1 = 12 := by simp only [hC2.eqs]
        clear hL
        refine go_X11_ticks (ct := fun p => p == 35) 40 ?_
        simp only [oI, oL, oR, o1, lI, lL, lR, popN, catS, gv, stL, stL2, swt, cnd, spObj, List.getElem?_cons_zero, List.getElem?_cons_succ, List.getD_cons_zero, List.getD_cons_succ, List.set_cons_zero, List.set_cons_succ, List.nil_append, List.cons_append, Option.toList, Bool.or_false, Bool.false_or, Bool.or_true, Bool.true_or, Nat.reduceBEq, Nat.reduceAdd, Nat.reduceLT, Nat.reduceLeDiff, Int.reduceAdd, Int.reduceToNat, true_and, and_true, Fin.isValue, Fin.val_zero, Fin.val_one, Fin.val_two, Fin.reduceFinMk, eq_self, Int.reduceNeg, imp_self, Nat.reduceMul, Nat.le_refl, not_true_eq_false, not_false_eq_true, List.getElem?_nil, reduceCtorEq, true_or, or_true, Classical.not_not, implies_true, or_self, wI_0, wI_1, wI_m1, b2i_w, b2i_eq0, b2i_eq1, b2i_bool, nor_self, nx_pI, kd_pI, ln_pI, fI_pI, fL_pI, fR_pI, aI_pI, aL_pI, aR_pI, nx_pL, kd_pL, ln_pL, fI_pL, fL_pL, fR_pL, aI_pL, aL_pL, aR_pL, nx_pR, kd_pR, ln_pR, fI_pR, fL_pR, fR_pR, aI_pR, aL_pR, aR_pR, nx_qI, kd_qI, ln_qI, fI_qI, fL_qI, fR_qI, aI_qI, aL_qI, aR_qI, nx_qL, kd_qL, ln_qL, fI_qL, fL_qL, fR_qL, aI_qL, aL_qL, aR_qL, nx_qR, kd_qR, ln_qR, fI_qR, fL_qR, fR_qR, aI_qR, aL_qR, aR_qR, nx_mk, kd_mk, ln_mk, fI_mk, fL_mk, fR_mk, aI_mk, aL_mk, aR_mk, false_and, and_false, if_false, if_true, and_self, Int.reduceEq, Nat.reduceEqDiff, ite_self, MLay_pI, MLay_pL, MLay_qI, MLay_qL, ev_X11_ticks_26, ev_X11_ticks_27, ev_X11_ticks_28, ev_X11_ticks_31, ev_X11_ticks_32, ev_X11_ticks_55, ev_X11_ticks_56, ev_X11_ticks_57, ev_X11_ticks_60, ev_X11_ticks_61, ev_X11_ticks_62, ev_X11_ticks_65, ev_X11_ticks_66, ev_X11_ticks_69, xt_X11_ticks, xf_X11_ticks, us_X9_letPass, hC2.eqs, e2]
        try simp (disch := omega) only [wI_id, dv_nn, rm_nn]
        repeat' (first | intro z | apply And.intro)
        all_goals try omega
        all_goals try contradiction
        all_goals exact h1
      | succ m ih =>
        intro i hi
        have w := ih (i + 1) (by omega)
        have e : cTk σ (fI σ 1210 1) n.toNat (i + 1) = cPass (cTk σ (fI σ 1210 1) n.toNat i) (45 + 4 * (i : Int)) (fI σ 1210 1) n.toNat := rfl
        rw [e] at w
        have hC2 := CLay_cTk hC (fI σ 1210 1) n.toNat i
        have e2 : fI (cTk σ (fI σ 1210 1) n.toNat i) 1210 1 = fI σ 1210 1 := by rw [now_cTk]
        have o := LpO_cTk hC hnw.1 (n := n.toNat) (by omega) (l := i) (by omega) (hL i (by omega) (by omega)) i (Int.le_refl _)
        have e3 := (LoP.k hC2 (l := i) (by omega)).2.1
        have hk10 := o.k
        generalize cTk σ (fI σ 1210 1) n.toNat i = ρ at *
        have hk9 : kd ρ 1 = 12 := by simp only [hC2.eqs]
        clear hL h1 ih
        refine go_X11_ticks (ct := fun p => p == 55 || p == 26) 40 ?_
        simp only [oI, oL, oR, o1, lI, lL, lR, popN, catS, gv, stL, stL2, swt, cnd, spObj, List.getElem?_cons_zero, List.getElem?_cons_succ, List.getD_cons_zero, List.getD_cons_succ, List.set_cons_zero, List.set_cons_succ, List.nil_append, List.cons_append, Option.toList, Bool.or_false, Bool.false_or, Bool.or_true, Bool.true_or, Nat.reduceBEq, Nat.reduceAdd, Nat.reduceLT, Nat.reduceLeDiff, Int.reduceAdd, Int.reduceToNat, true_and, and_true, Fin.isValue, Fin.val_zero, Fin.val_one, Fin.val_two, Fin.reduceFinMk, eq_self, Int.reduceNeg, imp_self, Nat.reduceMul, Nat.le_refl, not_true_eq_false, not_false_eq_true, List.getElem?_nil, reduceCtorEq, true_or, or_true, Classical.not_not, implies_true, or_self, wI_0, wI_1, wI_m1, b2i_w, b2i_eq0, b2i_eq1, b2i_bool, nor_self, nx_pI, kd_pI, ln_pI, fI_pI, fL_pI, fR_pI, aI_pI, aL_pI, aR_pI, nx_pL, kd_pL, ln_pL, fI_pL, fL_pL, fR_pL, aI_pL, aL_pL, aR_pL, nx_pR, kd_pR, ln_pR, fI_pR, fL_pR, fR_pR, aI_pR, aL_pR, aR_pR, nx_qI, kd_qI, ln_qI, fI_qI, fL_qI, fR_qI, aI_qI, aL_qI, aR_qI, nx_qL, kd_qL, ln_qL, fI_qL, fL_qL, fR_qL, aI_qL, aL_qL, aR_qL, nx_qR, kd_qR, ln_qR, fI_qR, fL_qR, fR_qR, aI_qR, aL_qR, aR_qR, nx_mk, kd_mk, ln_mk, fI_mk, fL_mk, fR_mk, aI_mk, aL_mk, aR_mk, false_and, and_false, if_false, if_true, and_self, Int.reduceEq, Nat.reduceEqDiff, ite_self, MLay_pI, MLay_pL, MLay_qI, MLay_qL, ev_X11_ticks_26, ev_X11_ticks_27, ev_X11_ticks_28, ev_X11_ticks_31, ev_X11_ticks_32, ev_X11_ticks_35, ev_X11_ticks_36, ev_X11_ticks_39, ev_X11_ticks_40, ev_X11_ticks_41, ev_X11_ticks_42, ev_X11_ticks_45, ev_X11_ticks_46, ev_X11_ticks_49, ev_X11_ticks_52, xt_X11_ticks, xf_X11_ticks, us_X9_letPass, hC2.eqs, e2, e3, o, hk10]
        try simp (disch := omega) only [wI_id, dv_nn, rm_nn]
        repeat' (first | intro z | apply And.intro)
        all_goals try omega
        all_goals try contradiction
        all_goals exact w
    have w := loop 4 0 rfl
    have w : Go M_X11_ticks Q 26 [some (vr 1), some (vi n), some (vi 0)] [] σ (0, 0) := w
    clear loop h1 hL
    refine go_X11_ticks (ct := fun p => p == 22 || p == 26) 40 ?_
    simp only [oI, oL, oR, o1, lI, lL, lR, popN, catS, gv, stL, stL2, swt, cnd, spObj, List.getElem?_cons_zero, List.getElem?_cons_succ, List.getD_cons_zero, List.getD_cons_succ, List.set_cons_zero, List.set_cons_succ, List.nil_append, List.cons_append, Option.toList, Bool.or_false, Bool.false_or, Bool.or_true, Bool.true_or, Nat.reduceBEq, Nat.reduceAdd, Nat.reduceLT, Nat.reduceLeDiff, Int.reduceAdd, Int.reduceToNat, true_and, and_true, Fin.isValue, Fin.val_zero, Fin.val_one, Fin.val_two, Fin.reduceFinMk, eq_self, Int.reduceNeg, imp_self, Nat.reduceMul, Nat.le_refl, not_true_eq_false, not_false_eq_true, List.getElem?_nil, reduceCtorEq, true_or, or_true, Classical.not_not, implies_true, or_self, wI_0, wI_1, wI_m1, b2i_w, b2i_eq0, b2i_eq1, b2i_bool, nor_self, nx_pI, kd_pI, ln_pI, fI_pI, fL_pI, fR_pI, aI_pI, aL_pI, aR_pI, nx_pL, kd_pL, ln_pL, fI_pL, fL_pL, fR_pL, aI_pL, aL_pL, aR_pL, nx_pR, kd_pR, ln_pR, fI_pR, fL_pR, fR_pR, aI_pR, aL_pR, aR_pR, nx_qI, kd_qI, ln_qI, fI_qI, fL_qI, fR_qI, aI_qI, aL_qI, aR_qI, nx_qL, kd_qL, ln_qL, fI_qL, fL_qL, fR_qL, aI_qL, aL_qL, aR_qL, nx_qR, kd_qR, ln_qR, fI_qR, fL_qR, fR_qR, aI_qR, aL_qR, aR_qR, nx_mk, kd_mk, ln_mk, fI_mk, fL_mk, fR_mk, aI_mk, aL_mk, aR_mk, false_and, and_false, if_false, if_true, and_self, Int.reduceEq, Nat.reduceEqDiff, ite_self, MLay_pI, MLay_pL, MLay_qI, MLay_qL, ev_X11_ticks_0, ev_X11_ticks_1, ev_X11_ticks_4, ev_X11_ticks_5, ev_X11_ticks_8, ev_X11_ticks_11, ev_X11_ticks_12, ev_X11_ticks_15, ev_X11_ticks_16, ev_X11_ticks_17, ev_X11_ticks_19, ev_X11_ticks_22, ev_X11_ticks_23, ev_X11_ticks_24, ev_X11_ticks_25, xt_X11_ticks, xf_X11_ticks, us_X9_letPass, hC.eqs]
    try simp (disch := omega) only [wI_id, dv_nn, rm_nn]
    repeat' (first | intro z | apply And.intro)
    all_goals try omega
    all_goals try contradiction
    all_goals exact w
  · have h2 := h2 c
    clear h1 hL
    by_cases c2 : 0 ≤ n ∧ n ≤ 5000
    · refine go_X11_ticks (ct := fun p => p == 24) 40 ?_
      simp only [oI, oL, oR, o1, lI, lL, lR, popN, catS, gv, stL, stL2, swt, cnd, spObj, List.getElem?_cons_zero, List.getElem?_cons_succ, List.getD_cons_zero, List.getD_cons_succ, List.set_cons_zero, List.set_cons_succ, List.nil_append, List.cons_append, Option.toList, Bool.or_false, Bool.false_or, Bool.or_true, Bool.true_or, Nat.reduceBEq, Nat.reduceAdd, Nat.reduceLT, Nat.reduceLeDiff, Int.reduceAdd, Int.reduceToNat, true_and, and_true, Fin.isValue, Fin.val_zero, Fin.val_one, Fin.val_two, Fin.reduceFinMk, eq_self, Int.reduceNeg, imp_self, Nat.reduceMul, Nat.le_refl, not_true_eq_false, not_false_eq_true, List.getElem?_nil, reduceCtorEq, true_or, or_true, Classical.not_not, implies_true, or_self, wI_0, wI_1, wI_m1, b2i_w, b2i_eq0, b2i_eq1, b2i_bool, nor_self, nx_pI, kd_pI, ln_pI, fI_pI, fL_pI, fR_pI, aI_pI, aL_pI, aR_pI, nx_pL, kd_pL, ln_pL, fI_pL, fL_pL, fR_pL, aI_pL, aL_pL, aR_pL, nx_pR, kd_pR, ln_pR, fI_pR, fL_pR, fR_pR, aI_pR, aL_pR, aR_pR, nx_qI, kd_qI, ln_qI, fI_qI, fL_qI, fR_qI, aI_qI, aL_qI, aR_qI, nx_qL, kd_qL, ln_qL, fI_qL, fL_qL, fR_qL, aI_qL, aL_qL, aR_qL, nx_qR, kd_qR, ln_qR, fI_qR, fL_qR, fR_qR, aI_qR, aL_qR, aR_qR, nx_mk, kd_mk, ln_mk, fI_mk, fL_mk, fR_mk, aI_mk, aL_mk, aR_mk, false_and, and_false, if_false, if_true, and_self, Int.reduceEq, Nat.reduceEqDiff, ite_self, MLay_pI, MLay_pL, MLay_qI, MLay_qL, ev_X11_ticks_0, ev_X11_ticks_1, ev_X11_ticks_4, ev_X11_ticks_5, ev_X11_ticks_8, ev_X11_ticks_11, ev_X11_ticks_12, ev_X11_ticks_15, ev_X11_ticks_16, ev_X11_ticks_17, ev_X11_ticks_19, ev_X11_ticks_22, ev_X11_ticks_23, xt_X11_ticks, xf_X11_ticks, us_X9_letPass, hC.eqs]
      try simp (disch := omega) only [wI_id, dv_nn, rm_nn]
      repeat' (first | intro z | apply And.intro)
      all_goals try omega
      all_goals try contradiction
      all_goals exact h2
    · refine go_X11_ticks (ct := fun p => p == 11) 40 ?_
      simp only [oI, oL, oR, o1, lI, lL, lR, popN, catS, gv, stL, stL2, swt, cnd, spObj, List.getElem?_cons_zero, List.getElem?_cons_succ, List.getD_cons_zero, List.getD_cons_succ, List.set_cons_zero, List.set_cons_succ, List.nil_append, List.cons_append, Option.toList, Bool.or_false, Bool.false_or, Bool.or_true, Bool.true_or, Nat.reduceBEq, Nat.reduceAdd, Nat.reduceLT, Nat.reduceLeDiff, Int.reduceAdd, Int.reduceToNat, true_and, and_true, Fin.isValue, Fin.val_zero, Fin.val_one, Fin.val_two, Fin.reduceFinMk, eq_self, Int.reduceNeg, imp_self, Nat.reduceMul, Nat.le_refl, not_true_eq_false, not_false_eq_true, List.getElem?_nil, reduceCtorEq, true_or, or_true, Classical.not_not, implies_true, or_self, wI_0, wI_1, wI_m1, b2i_w, b2i_eq0, b2i_eq1, b2i_bool, nor_self, nx_pI, kd_pI, ln_pI, fI_pI, fL_pI, fR_pI, aI_pI, aL_pI, aR_pI, nx_pL, kd_pL, ln_pL, fI_pL, fL_pL, fR_pL, aI_pL, aL_pL, aR_pL, nx_pR, kd_pR, ln_pR, fI_pR, fL_pR, fR_pR, aI_pR, aL_pR, aR_pR, nx_qI, kd_qI, ln_qI, fI_qI, fL_qI, fR_qI, aI_qI, aL_qI, aR_qI, nx_qL, kd_qL, ln_qL, fI_qL, fL_qL, fR_qL, aI_qL, aL_qL, aR_qL, nx_qR, kd_qR, ln_qR, fI_qR, fL_qR, fR_qR, aI_qR, aL_qR, aR_qR, nx_mk, kd_mk, ln_mk, fI_mk, fL_mk, fR_mk, aI_mk, aL_mk, aR_mk, false_and, and_false, if_false, if_true, and_self, Int.reduceEq, Nat.reduceEqDiff, ite_self, MLay_pI, MLay_pL, MLay_qI, MLay_qL, ev_X11_ticks_0, ev_X11_ticks_1, ev_X11_ticks_4, ev_X11_ticks_5, ev_X11_ticks_8, ev_X11_ticks_22, ev_X11_ticks_23, xt_X11_ticks, xf_X11_ticks, us_X9_letPass, hC.eqs]
      try simp (disch := omega) only [wI_id, dv_nn, rm_nn]
      repeat' (first | intro z | apply And.intro)
      all_goals try omega
      all_goals try contradiction
      all_goals exact h2

/-- what ticks leave of the relation -/
theorem LR.cp {l l' t : Int} {σ τ : Hp} {n : Nat} (h : LR l σ τ) (hC : CLay σ) (hI : MI τ) (hR : RB τ) (hl : 0 ≤ l ∧ l < 4) (hl' : 0 ≤ l' ∧ l' < 4) (hne : ¬ l' = l) (h' : LR l' σ τ ∨ ((fI σ 1402 (fR σ 1000 (45 + 4 * l'))) = aI τ 74 l' ∧ ∀ k, 0 ≤ k → k < aI τ 74 l' → (lat σ (fR σ 1000 (45 + 4 * l')) k) = lat σ 3 (aI τ 75 (12 * l' + k)))) (hinj : ∀ i j, (0 ≤ i ∧ i < fI τ 1302 61) → (0 ≤ j ∧ j < fI τ 1302 61) → lat σ 3 i = lat σ 3 j → i = j) : LR l (cPass σ (45 + 4 * l') t n) τ := by
  obtain ⟨-, -, k3, k4, k5, -⟩ := LoP.k hC hl
  obtain ⟨-, -, k3', k4', k5', -⟩ := LoP.k hC hl'
  have h2 : (fI σ 1402 (fR σ 1000 (45 + 4 * l'))) = aI τ 74 l' ∧ ∀ k, 0 ≤ k → k < aI τ 74 l' → (lat σ (fR σ 1000 (45 + 4 * l')) k) = lat σ 3 (aI τ 75 (12 * l' + k)) := by
    rcases h' with h' | h'
    · exact ⟨h'.n hC hl', fun k a b => h'.p hC hl' a b⟩
    · exact h'
  obtain ⟨a1, a2, a3, a4, a5, a6, a7, a8, a9, a10, a11⟩ := cPass_s σ (45 + 4 * l') t n
  refine h.cgc k4 a1 a2 a3 a4 a5 a9 (fun k a b => a10 _ (fun k' hk' e => ?_)) (a11 _ (by omega)).1 (a11 _ (by omega)).2.1 (a11 _ (by omega)).2.2 (a8 _ (by rw [k5']; omega)) (a8 _ (by rw [k5']; omega))
  rw [h2.1] at hk'
  rw [h2.2 k' (by omega) hk'] at e
  have r1 := hR.1 l k hl.1 hl.2 a b
  have r2 := hR.1 l' k' hl'.1 hl'.2 (by omega) hk'
  have := hinj _ _ ⟨(hI.boxAt_ _).1, r1.1⟩ ⟨(hI.boxAt_ _).1, r2.1⟩ e
  have e1 := r1.2.1
  have e2 := r2.2.1
  rw [this, e2] at e1
  exact hne e1

def sp_X11_pull : Sp := fun av σ Q => oR av fun this av => oI av fun b av => av = [] ∧ kd σ this = 12 ∧ (this = 1 ∧ CLay σ ∧ inR b ∧ (0 ≤ fI σ 1210 1 ∧ fI σ 1210 1 ≤ 999999) ∧ ∃ τ, BX σ τ ∧ MI τ ∧ (((0 ≤ b ∧ b < fI τ 1302 61) ∧ fI σ 312 (lat σ 3 b) = 0 ∧ ¬ cGo σ (lat σ 3 b) (fI σ 1210 1)) → (fI σ 301 (lat σ 3 b) = 0 → Q (some (vi 1)) (pI σ 313 (lat σ 3 b) (fI σ 1210 1 + 1))) ∧ (¬ fI σ 301 (lat σ 3 b) = 0 → Q (some (vi 1)) (pI σ 312 (lat σ 3 b) 1))) ∧ (¬ ((0 ≤ b ∧ b < fI τ 1302 61) ∧ fI σ 312 (lat σ 3 b) = 0 ∧ ¬ cGo σ (lat σ 3 b) (fI σ 1210 1)) → Q (some (vi 0)) σ))
theorem us_X11_pull (this : Int) (b : Int) (σ : Hp) (Q : Option AV → Hp → Prop) : sp_X11_pull [vr this, vi b] σ Q = (kd σ this = 12 ∧ (this = 1 ∧ CLay σ ∧ inR b ∧ (0 ≤ fI σ 1210 1 ∧ fI σ 1210 1 ≤ 999999) ∧ ∃ τ, BX σ τ ∧ MI τ ∧ (((0 ≤ b ∧ b < fI τ 1302 61) ∧ fI σ 312 (lat σ 3 b) = 0 ∧ ¬ cGo σ (lat σ 3 b) (fI σ 1210 1)) → (fI σ 301 (lat σ 3 b) = 0 → Q (some (vi 1)) (pI σ 313 (lat σ 3 b) (fI σ 1210 1 + 1))) ∧ (¬ fI σ 301 (lat σ 3 b) = 0 → Q (some (vi 1)) (pI σ 312 (lat σ 3 b) 1))) ∧ (¬ ((0 ≤ b ∧ b < fI τ 1302 61) ∧ fI σ 312 (lat σ 3 b) = 0 ∧ ¬ cGo σ (lat σ 3 b) (fI σ 1210 1)) → Q (some (vi 0)) σ))) := propext ⟨fun h => h.2, fun h => ⟨rfl, h⟩⟩
theorem el_X11_pull {av : List AV} {σ : Hp} {Q : Option AV → Hp → Prop} (h : sp_X11_pull av σ Q) : ∃ (this : Int) (b : Int), av = [vr this, vi b] ∧ (kd σ this = 12 ∧ (this = 1 ∧ CLay σ ∧ inR b ∧ (0 ≤ fI σ 1210 1 ∧ fI σ 1210 1 ≤ 999999) ∧ ∃ τ, BX σ τ ∧ MI τ ∧ (((0 ≤ b ∧ b < fI τ 1302 61) ∧ fI σ 312 (lat σ 3 b) = 0 ∧ ¬ cGo σ (lat σ 3 b) (fI σ 1210 1)) → (fI σ 301 (lat σ 3 b) = 0 → Q (some (vi 1)) (pI σ 313 (lat σ 3 b) (fI σ 1210 1 + 1))) ∧ (¬ fI σ 301 (lat σ 3 b) = 0 → Q (some (vi 1)) (pI σ 312 (lat σ 3 b) 1))) ∧ (¬ ((0 ≤ b ∧ b < fI τ 1302 61) ∧ fI σ 312 (lat σ 3 b) = 0 ∧ ¬ cGo σ (lat σ 3 b) (fI σ 1210 1)) → Q (some (vi 0)) σ))) := by
  obtain ⟨this, a0, rfl, h0⟩ := oR_s h
  obtain ⟨b, a1, rfl, h1⟩ := oI_s h0
  obtain ⟨rfl, hz⟩ := h1
  exact ⟨this, b, rfl, hz⟩
theorem rc_X11_pull : ∀ (av : List AV) (σ : Hp) (Q : Option AV → Hp → Prop), sp_X11_pull av σ Q → ∃ r tl, av = vr r :: tl ∧ kd σ r = 11 + 1 := fun av σ Q h => by
  obtain ⟨this, b, rfl, hz, -⟩ := el_X11_pull h
  exact ⟨this, _, rfl, hz⟩

def tb_X11_pull : Tab := [(0, .aload_n 0, 1, (0, 0, 0, 0)), (1, .iload_n 1, 1, (0, 0, 0, 0)), (2, .invokevirtual 122, 3, (0, 0, 0, 0)), (5, .astore_n 2, 1, (0, 0, 0, 0)), (6, .aload_n 2, 1, (0, 0, 0, 0)), (7, .ifnull 21, 3, (0, 0, 0, 0)), (10, .aload_n 2, 1, (0, 0, 0, 0)), (11, .getfield 126, 3, (3, 312, 0, 0)), (14, .ifCond .ne 14, 3, (0, 0, 0, 0)), (17, .aload_n 2, 1, (0, 0, 0, 0)), (18, .aload_n 0, 1, (0, 0, 0, 0)), (19, .getfield 69, 3, (12, 1210, 0, 0)), (22, .invokevirtual 130, 3, (0, 0, 0, 0)), (25, .ifCond .eq 5, 3, (0, 0, 0, 0)), (28, .iconst 0, 1, (0, 0, 0, 0)), (29, .ireturn, 1, (0, 0, 0, 0)), (30, .aload_n 2, 1, (0, 0, 0, 0)), (31, .getfield 133, 3, (3, 301, 0, 0)), (34, .ifCond .ne 16, 3, (0, 0, 0, 0)), (37, .aload_n 2, 1, (0, 0, 0, 0)), (38, .aload_n 0, 1, (0, 0, 0, 0)), (39, .getfield 69, 3, (12, 1210, 0, 0)), (42, .iconst 1, 1, (0, 0, 0, 0)), (43, .iadd, 1, (0, 0, 0, 0)), (44, .putfield 136, 3, (3, 313, 0, 0)), (47, .goto 8, 3, (0, 0, 0, 0)), (50, .aload_n 2, 1, (0, 0, 0, 0)), (51, .iconst 1, 1, (0, 0, 0, 0)), (52, .putfield 126, 3, (3, 312, 3, 0)), (55, .iconst 1, 1, (0, 0, 0, 0)), (56, .ireturn, 1, (0, 0, 0, 0))]
set_option maxRecDepth 100000 in
theorem tk_X11_pull : TOK RX11 false cX11_pull tb_X11_pull := chkT_ok ft_X11 (by decide +kernel)
theorem rw_X11_976 : Row RX11 (.invokevirtual 122) 3 2 0 0 4 sp_X11_boxOf := row_V (n := 1) (ci := 11) c_X11_boxOf ⟨TBL_in 697 (by decide +kernel) rfl, TBL_in 700 (by decide +kernel) rfl, TBL_in 111 (by decide +kernel) rfl, by decide +kernel, by decide⟩ (by decide) rfl (TBL_in 699 (by decide +kernel) rfl) (TBL_in 10 (by decide +kernel) rfl) rc_X11_boxOf
theorem rw_X11_1040 : Row RX11 (.invokevirtual 130) 3 2 0 0 1 sp_X2_goesOn := row_V (n := 1) (ci := 2) c_X2_goesOn ⟨TBL_in 702 (by decide +kernel) rfl, TBL_in 508 (by decide +kernel) rfl, TBL_in 126 (by decide +kernel) rfl, by decide +kernel, by decide⟩ (by decide) rfl (TBL_in 506 (by decide +kernel) rfl) (TBL_in 507 (by decide +kernel) rfl) rc_X2_goesOn
def mt_X11_pull : List (Nat × Mt) := [(976, 2, 0, 0, 4, sp_X11_boxOf), (1040, 2, 0, 0, 1, sp_X2_goesOn)]
theorem em_X11_pull : mt_X11_pull.lookup 976 = some (2, 0, 0, 4, sp_X11_boxOf) ∧ mt_X11_pull.lookup 1040 = some (2, 0, 0, 1, sp_X2_goesOn) := ⟨rfl, rfl⟩
theorem mk_X11_pull : MOK RX11 mt_X11_pull := by
  intro q hq
  simp only [mt_X11_pull, List.mem_cons, List.not_mem_nil, or_false] at hq
  rcases hq with rfl | rfl
  · exact rw_X11_976
  · exact rw_X11_1040
noncomputable def xe_X11_pull (ct : Nat → Bool) (K : Kt) (R : Option AV → Hp → Prop) (n : Nat) : Kt := exS 3 5 0 0 2 tb_X11_pull mt_X11_pull ct K R n
noncomputable def xk_X11_pull (ct : Nat → Bool) (K : Kt) (R : Option AV → Hp → Prop) (n : Nat) : Kt := exkS 3 5 0 0 2 tb_X11_pull mt_X11_pull ct K R n
theorem xt_X11_pull {ct : Nat → Bool} {K : Kt} {R : Option AV → Hp → Prop} {n pc : Nat} {ls : List (Option AV)} {st : List AV} {σ : Hp} {k : Nat × Nat} (h : ct pc = true) : xk_X11_pull ct K R n pc ls st σ k = K pc ls st σ k := by unfold xk_X11_pull exkS; rw [h]
theorem xf_X11_pull {ct : Nat → Bool} {K : Kt} {R : Option AV → Hp → Prop} {n pc : Nat} {ls : List (Option AV)} {st : List AV} {σ : Hp} {k : Nat × Nat} (h : ct pc = false) : xk_X11_pull ct K R n pc ls st σ k = xe_X11_pull ct K R n pc ls st σ k := by unfold xk_X11_pull exkS xe_X11_pull; rw [h]
theorem ev_X11_pull_0 {ct : Nat → Bool} {K : Kt} {R : Option AV → Hp → Prop} {n : Nat} {ls : List (Option AV)} {st : List AV} {σ : Hp} {k : Nat × Nat} : xe_X11_pull ct K R (n + 1) 0 ls st σ k = (lR ls 0 fun x => xk_X11_pull ct K R n 1 ls (vr x :: st) σ k) := exS_step.trans rfl
theorem ev_X11_pull_1 {ct : Nat → Bool} {K : Kt} {R : Option AV → Hp → Prop} {n : Nat} {ls : List (Option AV)} {st : List AV} {σ : Hp} {k : Nat × Nat} : xe_X11_pull ct K R (n + 1) 1 ls st σ k = (lI ls 1 fun x => xk_X11_pull ct K R n 2 ls (vi x :: st) σ k) := exS_step.trans rfl
theorem ev_X11_pull_2 {ct : Nat → Bool} {K : Kt} {R : Option AV → Hp → Prop} {n : Nat} {ls : List (Option AV)} {st : List AV} {σ : Hp} {k : Nat × Nat} : xe_X11_pull ct K R (n + 1) 2 ls st σ k = (popN 2 st [] fun av rest => (catS rest ≤ 8 ∧ 4 < 5 ∧ k.1 + 0 ≤ 0 ∧ k.2 + 0 ≤ 0) ∧ (sp_X11_boxOf) av σ fun v σ' => xk_X11_pull ct K R n 5 ls (v.toList ++ rest) σ' (k.1 + 0, k.2 + 0)) := exS_step.trans rfl
theorem ev_X11_pull_5 {ct : Nat → Bool} {K : Kt} {R : Option AV → Hp → Prop} {n : Nat} {ls : List (Option AV)} {st : List AV} {σ : Hp} {k : Nat × Nat} : xe_X11_pull ct K R (n + 1) 5 ls st σ k = (oR st fun x st => 2 < 3 ∧ xk_X11_pull ct K R n 6 (stL ls 2 (vr x)) st σ k) := exS_step.trans rfl
theorem ev_X11_pull_6 {ct : Nat → Bool} {K : Kt} {R : Option AV → Hp → Prop} {n : Nat} {ls : List (Option AV)} {st : List AV} {σ : Hp} {k : Nat × Nat} : xe_X11_pull ct K R (n + 1) 6 ls st σ k = (lR ls 2 fun x => xk_X11_pull ct K R n 7 ls (vr x :: st) σ k) := exS_step.trans rfl
theorem ev_X11_pull_7 {ct : Nat → Bool} {K : Kt} {R : Option AV → Hp → Prop} {n : Nat} {ls : List (Option AV)} {st : List AV} {σ : Hp} {k : Nat × Nat} : xe_X11_pull ct K R (n + 1) 7 ls st σ k = (oR st fun x st => (x = 0 → xk_X11_pull ct K R n 28 ls st σ k) ∧ (¬ x = 0 → xk_X11_pull ct K R n 10 ls st σ k)) := exS_step.trans rfl
theorem ev_X11_pull_10 {ct : Nat → Bool} {K : Kt} {R : Option AV → Hp → Prop} {n : Nat} {ls : List (Option AV)} {st : List AV} {σ : Hp} {k : Nat × Nat} : xe_X11_pull ct K R (n + 1) 10 ls st σ k = (lR ls 2 fun x => xk_X11_pull ct K R n 11 ls (vr x :: st) σ k) := exS_step.trans rfl
theorem ev_X11_pull_11 {ct : Nat → Bool} {K : Kt} {R : Option AV → Hp → Prop} {n : Nat} {ls : List (Option AV)} {st : List AV} {σ : Hp} {k : Nat × Nat} : xe_X11_pull ct K R (n + 1) 11 ls st σ k = (oR st fun x st => kd σ x = 3 ∧ xk_X11_pull ct K R n 14 ls (vi (fI σ 312 x) :: st) σ k) := exS_step.trans rfl
theorem ev_X11_pull_14 {ct : Nat → Bool} {K : Kt} {R : Option AV → Hp → Prop} {n : Nat} {ls : List (Option AV)} {st : List AV} {σ : Hp} {k : Nat × Nat} : xe_X11_pull ct K R (n + 1) 14 ls st σ k = (oI st fun x st => (¬ wI x = wI 0 → xk_X11_pull ct K R n 28 ls st σ k) ∧ (¬ (¬ wI x = wI 0) → xk_X11_pull ct K R n 17 ls st σ k)) := exS_step.trans rfl
theorem ev_X11_pull_17 {ct : Nat → Bool} {K : Kt} {R : Option AV → Hp → Prop} {n : Nat} {ls : List (Option AV)} {st : List AV} {σ : Hp} {k : Nat × Nat} : xe_X11_pull ct K R (n + 1) 17 ls st σ k = (lR ls 2 fun x => xk_X11_pull ct K R n 18 ls (vr x :: st) σ k) := exS_step.trans rfl
theorem ev_X11_pull_18 {ct : Nat → Bool} {K : Kt} {R : Option AV → Hp → Prop} {n : Nat} {ls : List (Option AV)} {st : List AV} {σ : Hp} {k : Nat × Nat} : xe_X11_pull ct K R (n + 1) 18 ls st σ k = (lR ls 0 fun x => xk_X11_pull ct K R n 19 ls (vr x :: st) σ k) := exS_step.trans rfl
theorem ev_X11_pull_19 {ct : Nat → Bool} {K : Kt} {R : Option AV → Hp → Prop} {n : Nat} {ls : List (Option AV)} {st : List AV} {σ : Hp} {k : Nat × Nat} : xe_X11_pull ct K R (n + 1) 19 ls st σ k = (oR st fun x st => kd σ x = 12 ∧ xk_X11_pull ct K R n 22 ls (vi (fI σ 1210 x) :: st) σ k) := exS_step.trans rfl
theorem ev_X11_pull_22 {ct : Nat → Bool} {K : Kt} {R : Option AV → Hp → Prop} {n : Nat} {ls : List (Option AV)} {st : List AV} {σ : Hp} {k : Nat × Nat} : xe_X11_pull ct K R (n + 1) 22 ls st σ k = (popN 2 st [] fun av rest => (catS rest ≤ 8 ∧ 1 < 5 ∧ k.1 + 0 ≤ 0 ∧ k.2 + 0 ≤ 0) ∧ (sp_X2_goesOn) av σ fun v σ' => xk_X11_pull ct K R n 25 ls (v.toList ++ rest) σ' (k.1 + 0, k.2 + 0)) := exS_step.trans rfl
theorem ev_X11_pull_25 {ct : Nat → Bool} {K : Kt} {R : Option AV → Hp → Prop} {n : Nat} {ls : List (Option AV)} {st : List AV} {σ : Hp} {k : Nat × Nat} : xe_X11_pull ct K R (n + 1) 25 ls st σ k = (oI st fun x st => (wI x = wI 0 → xk_X11_pull ct K R n 30 ls st σ k) ∧ (¬ (wI x = wI 0) → xk_X11_pull ct K R n 28 ls st σ k)) := exS_step.trans rfl
theorem ev_X11_pull_28 {ct : Nat → Bool} {K : Kt} {R : Option AV → Hp → Prop} {n : Nat} {ls : List (Option AV)} {st : List AV} {σ : Hp} {k : Nat × Nat} : xe_X11_pull ct K R (n + 1) 28 ls st σ k = (xk_X11_pull ct K R n 29 ls (vi (0) :: st) σ k) := exS_step.trans rfl
theorem ev_X11_pull_29 {ct : Nat → Bool} {K : Kt} {R : Option AV → Hp → Prop} {n : Nat} {ls : List (Option AV)} {st : List AV} {σ : Hp} {k : Nat × Nat} : xe_X11_pull ct K R (n + 1) 29 ls st σ k = (oI st fun x st => st = [] ∧ (x = 0 ∨ x = 1) ∧ R (some (vi x)) σ) := exS_step.trans rfl
theorem ev_X11_pull_30 {ct : Nat → Bool} {K : Kt} {R : Option AV → Hp → Prop} {n : Nat} {ls : List (Option AV)} {st : List AV} {σ : Hp} {k : Nat × Nat} : xe_X11_pull ct K R (n + 1) 30 ls st σ k = (lR ls 2 fun x => xk_X11_pull ct K R n 31 ls (vr x :: st) σ k) := exS_step.trans rfl
theorem ev_X11_pull_31 {ct : Nat → Bool} {K : Kt} {R : Option AV → Hp → Prop} {n : Nat} {ls : List (Option AV)} {st : List AV} {σ : Hp} {k : Nat × Nat} : xe_X11_pull ct K R (n + 1) 31 ls st σ k = (oR st fun x st => kd σ x = 3 ∧ xk_X11_pull ct K R n 34 ls (vi (fI σ 301 x) :: st) σ k) := exS_step.trans rfl
theorem ev_X11_pull_34 {ct : Nat → Bool} {K : Kt} {R : Option AV → Hp → Prop} {n : Nat} {ls : List (Option AV)} {st : List AV} {σ : Hp} {k : Nat × Nat} : xe_X11_pull ct K R (n + 1) 34 ls st σ k = (oI st fun x st => (¬ wI x = wI 0 → xk_X11_pull ct K R n 50 ls st σ k) ∧ (¬ (¬ wI x = wI 0) → xk_X11_pull ct K R n 37 ls st σ k)) := exS_step.trans rfl
theorem ev_X11_pull_37 {ct : Nat → Bool} {K : Kt} {R : Option AV → Hp → Prop} {n : Nat} {ls : List (Option AV)} {st : List AV} {σ : Hp} {k : Nat × Nat} : xe_X11_pull ct K R (n + 1) 37 ls st σ k = (lR ls 2 fun x => xk_X11_pull ct K R n 38 ls (vr x :: st) σ k) := exS_step.trans rfl
theorem ev_X11_pull_38 {ct : Nat → Bool} {K : Kt} {R : Option AV → Hp → Prop} {n : Nat} {ls : List (Option AV)} {st : List AV} {σ : Hp} {k : Nat × Nat} : xe_X11_pull ct K R (n + 1) 38 ls st σ k = (lR ls 0 fun x => xk_X11_pull ct K R n 39 ls (vr x :: st) σ k) := exS_step.trans rfl
theorem ev_X11_pull_39 {ct : Nat → Bool} {K : Kt} {R : Option AV → Hp → Prop} {n : Nat} {ls : List (Option AV)} {st : List AV} {σ : Hp} {k : Nat × Nat} : xe_X11_pull ct K R (n + 1) 39 ls st σ k = (oR st fun x st => kd σ x = 12 ∧ xk_X11_pull ct K R n 42 ls (vi (fI σ 1210 x) :: st) σ k) := exS_step.trans rfl
theorem ev_X11_pull_42 {ct : Nat → Bool} {K : Kt} {R : Option AV → Hp → Prop} {n : Nat} {ls : List (Option AV)} {st : List AV} {σ : Hp} {k : Nat × Nat} : xe_X11_pull ct K R (n + 1) 42 ls st σ k = (xk_X11_pull ct K R n 43 ls (vi (1) :: st) σ k) := exS_step.trans rfl
theorem ev_X11_pull_43 {ct : Nat → Bool} {K : Kt} {R : Option AV → Hp → Prop} {n : Nat} {ls : List (Option AV)} {st : List AV} {σ : Hp} {k : Nat × Nat} : xe_X11_pull ct K R (n + 1) 43 ls st σ k = (oI st fun y st => oI st fun x st => xk_X11_pull ct K R n 44 ls (vi (x + y) :: st) σ k) := exS_step.trans rfl
theorem ev_X11_pull_44 {ct : Nat → Bool} {K : Kt} {R : Option AV → Hp → Prop} {n : Nat} {ls : List (Option AV)} {st : List AV} {σ : Hp} {k : Nat × Nat} : xe_X11_pull ct K R (n + 1) 44 ls st σ k = (oI st fun v st => oR st fun x st => kd σ x = 3 ∧ xk_X11_pull ct K R n 47 ls st (pI σ 313 x v) k) := exS_step.trans rfl
theorem ev_X11_pull_47 {ct : Nat → Bool} {K : Kt} {R : Option AV → Hp → Prop} {n : Nat} {ls : List (Option AV)} {st : List AV} {σ : Hp} {k : Nat × Nat} : xe_X11_pull ct K R (n + 1) 47 ls st σ k = (xk_X11_pull ct K R n 55 ls st σ k) := exS_step.trans rfl
theorem ev_X11_pull_50 {ct : Nat → Bool} {K : Kt} {R : Option AV → Hp → Prop} {n : Nat} {ls : List (Option AV)} {st : List AV} {σ : Hp} {k : Nat × Nat} : xe_X11_pull ct K R (n + 1) 50 ls st σ k = (lR ls 2 fun x => xk_X11_pull ct K R n 51 ls (vr x :: st) σ k) := exS_step.trans rfl
theorem ev_X11_pull_51 {ct : Nat → Bool} {K : Kt} {R : Option AV → Hp → Prop} {n : Nat} {ls : List (Option AV)} {st : List AV} {σ : Hp} {k : Nat × Nat} : xe_X11_pull ct K R (n + 1) 51 ls st σ k = (xk_X11_pull ct K R n 52 ls (vi (1) :: st) σ k) := exS_step.trans rfl
theorem ev_X11_pull_52 {ct : Nat → Bool} {K : Kt} {R : Option AV → Hp → Prop} {n : Nat} {ls : List (Option AV)} {st : List AV} {σ : Hp} {k : Nat × Nat} : xe_X11_pull ct K R (n + 1) 52 ls st σ k = (oI st fun v st => oR st fun x st => kd σ x = 3 ∧ (v = 0 ∨ v = 1) ∧ xk_X11_pull ct K R n 55 ls st (pI σ 312 x v) k) := exS_step.trans rfl
theorem ev_X11_pull_55 {ct : Nat → Bool} {K : Kt} {R : Option AV → Hp → Prop} {n : Nat} {ls : List (Option AV)} {st : List AV} {σ : Hp} {k : Nat × Nat} : xe_X11_pull ct K R (n + 1) 55 ls st σ k = (xk_X11_pull ct K R n 56 ls (vi (1) :: st) σ k) := exS_step.trans rfl
theorem ev_X11_pull_56 {ct : Nat → Bool} {K : Kt} {R : Option AV → Hp → Prop} {n : Nat} {ls : List (Option AV)} {st : List AV} {σ : Hp} {k : Nat × Nat} : xe_X11_pull ct K R (n + 1) 56 ls st σ k = (oI st fun x st => st = [] ∧ (x = 0 ∨ x = 1) ∧ R (some (vi x)) σ) := exS_step.trans rfl
def M_X11_pull : Md := (yX11_pull, cX11_pull, 3, (some FieldType.boolean), 5, 0, 0, 2, false, tb_X11_pull, mt_X11_pull)
theorem mm_X11_pull : MMOK M_X11_pull := ⟨by decide +kernel, tk_X11_pull, mk_X11_pull, rfl, fun h => by cases h⟩
theorem go_X11_pull {Q : Option AV → Hp → Prop} {ct : Nat → Bool} {pc : Nat} {ls : List (Option AV)} {st : List AV} {σ : Hp} {k : Nat × Nat} (n : Nat) (h : xe_X11_pull ct (Go M_X11_pull Q) Q n pc ls st σ k) : Go M_X11_pull Q pc ls st σ k := Go.exS mm_X11_pull h

set_option maxRecDepth 20000 in
theorem c_X11_pull : Ct yX11_pull cX11_pull 3 ((some FieldType.boolean)) 5 0 0 sp_X11_pull := by
  refine Ct.go (M := M_X11_pull) mm_X11_pull fun av σ Q h0 => ?_
  obtain ⟨this, b, rfl, hk, h⟩ := el_X11_pull h0
  clear h0
  refine ⟨Nat.le_of_ble_eq_true rfl, ?_⟩
  show Go M_X11_pull Q 0 [some (vr this), some (vi b), none] [] σ (0, 0)
  obtain ⟨rfl, hC, hb, hnw, τ, hB, hI, h1, h2⟩ := h
  have hsz := hB.2.1
  have hL := hB.1
  have hs := hI.boxes_s
  by_cases c : 0 ≤ b ∧ b < fI τ 1302 61
  · have e : (if 0 ≤ b ∧ b < fI τ 1302 61 then lat σ 3 b else 0) = lat σ 3 b := if_pos c
    have hbk := hB.k c.1 c.2
    have hbR := hB.r hI c.1 c.2
    have hbt := hbR.t
    have hkr := hbR.2.2.1
    have hp0 : ¬ lat σ 3 b = 0 := by have := (hB.2.2 b c.1 c.2).1; omega
    by_cases c1 : fI σ 312 (lat σ 3 b) = 0
    · by_cases c2 : cGo σ (lat σ 3 b) (fI σ 1210 1)
      · have h2 := h2 (fun z => z.2.2 c2)
        clear h1 hB
        refine go_X11_pull (ct := fun p => p == 30) 40 ?_
        simp only [oI, oL, oR, o1, lI, lL, lR, popN, catS, gv, stL, stL2, swt, cnd, spObj, List.getElem?_cons_zero, List.getElem?_cons_succ, List.getD_cons_zero, List.getD_cons_succ, List.set_cons_zero, List.set_cons_succ, List.nil_append, List.cons_append, Option.toList, Bool.or_false, Bool.false_or, Bool.or_true, Bool.true_or, Nat.reduceBEq, Nat.reduceAdd, Nat.reduceLT, Nat.reduceLeDiff, Int.reduceAdd, Int.reduceToNat, true_and, and_true, Fin.isValue, Fin.val_zero, Fin.val_one, Fin.val_two, Fin.reduceFinMk, eq_self, Int.reduceNeg, imp_self, Nat.reduceMul, Nat.le_refl, not_true_eq_false, not_false_eq_true, List.getElem?_nil, reduceCtorEq, true_or, or_true, Classical.not_not, implies_true, or_self, wI_0, wI_1, wI_m1, b2i_w, b2i_eq0, b2i_eq1, b2i_bool, nor_self, nx_pI, kd_pI, ln_pI, fI_pI, fL_pI, fR_pI, aI_pI, aL_pI, aR_pI, nx_pL, kd_pL, ln_pL, fI_pL, fL_pL, fR_pL, aI_pL, aL_pL, aR_pL, nx_pR, kd_pR, ln_pR, fI_pR, fL_pR, fR_pR, aI_pR, aL_pR, aR_pR, nx_qI, kd_qI, ln_qI, fI_qI, fL_qI, fR_qI, aI_qI, aL_qI, aR_qI, nx_qL, kd_qL, ln_qL, fI_qL, fL_qL, fR_qL, aI_qL, aL_qL, aR_qL, nx_qR, kd_qR, ln_qR, fI_qR, fL_qR, fR_qR, aI_qR, aL_qR, aR_qR, nx_mk, kd_mk, ln_mk, fI_mk, fL_mk, fR_mk, aI_mk, aL_mk, aR_mk, false_and, and_false, if_false, if_true, and_self, Int.reduceEq, Nat.reduceEqDiff, ite_self, MLay_pI, MLay_pL, MLay_qI, MLay_qL, ev_X11_pull_0, ev_X11_pull_1, ev_X11_pull_2, ev_X11_pull_5, ev_X11_pull_6, ev_X11_pull_7, ev_X11_pull_10, ev_X11_pull_11, ev_X11_pull_14, ev_X11_pull_17, ev_X11_pull_18, ev_X11_pull_19, ev_X11_pull_22, ev_X11_pull_25, ev_X11_pull_28, ev_X11_pull_29, ev_X11_pull_30, ev_X11_pull_31, ev_X11_pull_34, ev_X11_pull_37, ev_X11_pull_38, ev_X11_pull_39, ev_X11_pull_42, ev_X11_pull_43, ev_X11_pull_44, ev_X11_pull_47, ev_X11_pull_50, ev_X11_pull_51, ev_X11_pull_52, ev_X11_pull_55, ev_X11_pull_56, xt_X11_pull, xf_X11_pull, us_X11_boxOf, us_X2_goesOn, hC, hC.eqs, hL, hsz, hb, e, hbk, hbt, hp0, c1, c2]
        try simp (disch := omega) only [wI_id, dv_nn, rm_nn]
        repeat' (first | intro z | apply And.intro)
        all_goals try omega
        all_goals try contradiction
        all_goals exact h2
      · have h1 := h1 ⟨c, c1, c2⟩
        clear h2 hB
        by_cases c3 : fI σ 301 (lat σ 3 b) = 0
        · have h1 := h1.1 c3
          refine go_X11_pull (ct := fun p => p == 28 || p == 50) 40 ?_
          simp only [oI, oL, oR, o1, lI, lL, lR, popN, catS, gv, stL, stL2, swt, cnd, spObj, List.getElem?_cons_zero, List.getElem?_cons_succ, List.getD_cons_zero, List.getD_cons_succ, List.set_cons_zero, List.set_cons_succ, List.nil_append, List.cons_append, Option.toList, Bool.or_false, Bool.false_or, Bool.or_true, Bool.true_or, Nat.reduceBEq, Nat.reduceAdd, Nat.reduceLT, Nat.reduceLeDiff, Int.reduceAdd, Int.reduceToNat, true_and, and_true, Fin.isValue, Fin.val_zero, Fin.val_one, Fin.val_two, Fin.reduceFinMk, eq_self, Int.reduceNeg, imp_self, Nat.reduceMul, Nat.le_refl, not_true_eq_false, not_false_eq_true, List.getElem?_nil, reduceCtorEq, true_or, or_true, Classical.not_not, implies_true, or_self, wI_0, wI_1, wI_m1, b2i_w, b2i_eq0, b2i_eq1, b2i_bool, nor_self, nx_pI, kd_pI, ln_pI, fI_pI, fL_pI, fR_pI, aI_pI, aL_pI, aR_pI, nx_pL, kd_pL, ln_pL, fI_pL, fL_pL, fR_pL, aI_pL, aL_pL, aR_pL, nx_pR, kd_pR, ln_pR, fI_pR, fL_pR, fR_pR, aI_pR, aL_pR, aR_pR, nx_qI, kd_qI, ln_qI, fI_qI, fL_qI, fR_qI, aI_qI, aL_qI, aR_qI, nx_qL, kd_qL, ln_qL, fI_qL, fL_qL, fR_qL, aI_qL, aL_qL, aR_qL, nx_qR, kd_qR, ln_qR, fI_qR, fL_qR, fR_qR, aI_qR, aL_qR, aR_qR, nx_mk, kd_mk, ln_mk, fI_mk, fL_mk, fR_mk, aI_mk, aL_mk, aR_mk, false_and, and_false, if_false, if_true, and_self, Int.reduceEq, Nat.reduceEqDiff, ite_self, MLay_pI, MLay_pL, MLay_qI, MLay_qL, ev_X11_pull_0, ev_X11_pull_1, ev_X11_pull_2, ev_X11_pull_5, ev_X11_pull_6, ev_X11_pull_7, ev_X11_pull_10, ev_X11_pull_11, ev_X11_pull_14, ev_X11_pull_17, ev_X11_pull_18, ev_X11_pull_19, ev_X11_pull_22, ev_X11_pull_25, ev_X11_pull_28, ev_X11_pull_29, ev_X11_pull_30, ev_X11_pull_31, ev_X11_pull_34, ev_X11_pull_37, ev_X11_pull_38, ev_X11_pull_39, ev_X11_pull_42, ev_X11_pull_43, ev_X11_pull_44, ev_X11_pull_47, ev_X11_pull_50, ev_X11_pull_51, ev_X11_pull_52, ev_X11_pull_55, ev_X11_pull_56, xt_X11_pull, xf_X11_pull, us_X11_boxOf, us_X2_goesOn, hC, hC.eqs, hL, hsz, hb, e, hbk, hbt, hp0, c1, c2, c3]
          try simp (disch := omega) only [wI_id, dv_nn, rm_nn]
          repeat' (first | intro z | apply And.intro)
          all_goals try omega
          all_goals try contradiction
          all_goals exact h1
        · have h1 := h1.2 c3
          refine go_X11_pull (ct := fun p => p == 28 || p == 37) 40 ?_
          simp only [oI, oL, oR, o1, lI, lL, lR, popN, catS, gv, stL, stL2, swt, cnd, spObj, List.getElem?_cons_zero, List.getElem?_cons_succ, List.getD_cons_zero, List.getD_cons_succ, List.set_cons_zero, List.set_cons_succ, List.nil_append, List.cons_append, Option.toList, Bool.or_false, Bool.false_or, Bool.or_true, Bool.true_or, Nat.reduceBEq, Nat.reduceAdd, Nat.reduceLT, Nat.reduceLeDiff, Int.reduceAdd, Int.reduceToNat, true_and, and_true, Fin.isValue, Fin.val_zero, Fin.val_one, Fin.val_two, Fin.reduceFinMk, eq_self, Int.reduceNeg, imp_self, Nat.reduceMul, Nat.le_refl, not_true_eq_false, not_false_eq_true, List.getElem?_nil, reduceCtorEq, true_or, or_true, Classical.not_not, implies_true, or_self, wI_0, wI_1, wI_m1, b2i_w, b2i_eq0, b2i_eq1, b2i_bool, nor_self, nx_pI, kd_pI, ln_pI, fI_pI, fL_pI, fR_pI, aI_pI, aL_pI, aR_pI, nx_pL, kd_pL, ln_pL, fI_pL, fL_pL, fR_pL, aI_pL, aL_pL, aR_pL, nx_pR, kd_pR, ln_pR, fI_pR, fL_pR, fR_pR, aI_pR, aL_pR, aR_pR, nx_qI, kd_qI, ln_qI, fI_qI, fL_qI, fR_qI, aI_qI, aL_qI, aR_qI, nx_qL, kd_qL, ln_qL, fI_qL, fL_qL, fR_qL, aI_qL, aL_qL, aR_qL, nx_qR, kd_qR, ln_qR, fI_qR, fL_qR, fR_qR, aI_qR, aL_qR, aR_qR, nx_mk, kd_mk, ln_mk, fI_mk, fL_mk, fR_mk, aI_mk, aL_mk, aR_mk, false_and, and_false, if_false, if_true, and_self, Int.reduceEq, Nat.reduceEqDiff, ite_self, MLay_pI, MLay_pL, MLay_qI, MLay_qL, ev_X11_pull_0, ev_X11_pull_1, ev_X11_pull_2, ev_X11_pull_5, ev_X11_pull_6, ev_X11_pull_7, ev_X11_pull_10, ev_X11_pull_11, ev_X11_pull_14, ev_X11_pull_17, ev_X11_pull_18, ev_X11_pull_19, ev_X11_pull_22, ev_X11_pull_25, ev_X11_pull_28, ev_X11_pull_29, ev_X11_pull_30, ev_X11_pull_31, ev_X11_pull_34, ev_X11_pull_37, ev_X11_pull_38, ev_X11_pull_39, ev_X11_pull_42, ev_X11_pull_43, ev_X11_pull_44, ev_X11_pull_47, ev_X11_pull_50, ev_X11_pull_51, ev_X11_pull_52, ev_X11_pull_55, ev_X11_pull_56, xt_X11_pull, xf_X11_pull, us_X11_boxOf, us_X2_goesOn, hC, hC.eqs, hL, hsz, hb, e, hbk, hbt, hp0, c1, c2]
          try simp (disch := omega) only [wI_id, dv_nn, rm_nn]
          repeat' (first | intro z | apply And.intro)
          all_goals try omega
          all_goals try contradiction
          all_goals exact h1
    · have h2 := h2 (fun z => c1 z.2.1)
      clear h1 hB
      refine go_X11_pull (ct := fun p => p == 17 || p == 30) 40 ?_
      simp only [oI, oL, oR, o1, lI, lL, lR, popN, catS, gv, stL, stL2, swt, cnd, spObj, List.getElem?_cons_zero, List.getElem?_cons_succ, List.getD_cons_zero, List.getD_cons_succ, List.set_cons_zero, List.set_cons_succ, List.nil_append, List.cons_append, Option.toList, Bool.or_false, Bool.false_or, Bool.or_true, Bool.true_or, Nat.reduceBEq, Nat.reduceAdd, Nat.reduceLT, Nat.reduceLeDiff, Int.reduceAdd, Int.reduceToNat, true_and, and_true, Fin.isValue, Fin.val_zero, Fin.val_one, Fin.val_two, Fin.reduceFinMk, eq_self, Int.reduceNeg, imp_self, Nat.reduceMul, Nat.le_refl, not_true_eq_false, not_false_eq_true, List.getElem?_nil, reduceCtorEq, true_or, or_true, Classical.not_not, implies_true, or_self, wI_0, wI_1, wI_m1, b2i_w, b2i_eq0, b2i_eq1, b2i_bool, nor_self, nx_pI, kd_pI, ln_pI, fI_pI, fL_pI, fR_pI, aI_pI, aL_pI, aR_pI, nx_pL, kd_pL, ln_pL, fI_pL, fL_pL, fR_pL, aI_pL, aL_pL, aR_pL, nx_pR, kd_pR, ln_pR, fI_pR, fL_pR, fR_pR, aI_pR, aL_pR, aR_pR, nx_qI, kd_qI, ln_qI, fI_qI, fL_qI, fR_qI, aI_qI, aL_qI, aR_qI, nx_qL, kd_qL, ln_qL, fI_qL, fL_qL, fR_qL, aI_qL, aL_qL, aR_qL, nx_qR, kd_qR, ln_qR, fI_qR, fL_qR, fR_qR, aI_qR, aL_qR, aR_qR, nx_mk, kd_mk, ln_mk, fI_mk, fL_mk, fR_mk, aI_mk, aL_mk, aR_mk, false_and, and_false, if_false, if_true, and_self, Int.reduceEq, Nat.reduceEqDiff, ite_self, MLay_pI, MLay_pL, MLay_qI, MLay_qL, ev_X11_pull_0, ev_X11_pull_1, ev_X11_pull_2, ev_X11_pull_5, ev_X11_pull_6, ev_X11_pull_7, ev_X11_pull_10, ev_X11_pull_11, ev_X11_pull_14, ev_X11_pull_17, ev_X11_pull_18, ev_X11_pull_19, ev_X11_pull_22, ev_X11_pull_25, ev_X11_pull_28, ev_X11_pull_29, ev_X11_pull_30, ev_X11_pull_31, ev_X11_pull_34, ev_X11_pull_37, ev_X11_pull_38, ev_X11_pull_39, ev_X11_pull_42, ev_X11_pull_43, ev_X11_pull_44, ev_X11_pull_47, ev_X11_pull_50, ev_X11_pull_51, ev_X11_pull_52, ev_X11_pull_55, ev_X11_pull_56, xt_X11_pull, xf_X11_pull, us_X11_boxOf, us_X2_goesOn, hC, hC.eqs, hL, hsz, hb, e, hbk, hbt, hp0]
      try simp (disch := omega) only [wI_id, dv_nn, rm_nn]
      repeat' (first | intro z | apply And.intro)
      all_goals try omega
      all_goals try contradiction
      all_goals exact h2
  · have e : (if 0 ≤ b ∧ b < fI τ 1302 61 then lat σ 3 b else 0) = 0 := if_neg c
    have h2 := h2 (fun z => c z.1)
    clear h1 hB
    refine go_X11_pull (ct := fun p => p == 10) 40 ?_
    simp only [oI, oL, oR, o1, lI, lL, lR, popN, catS, gv, stL, stL2, swt, cnd, spObj, List.getElem?_cons_zero, List.getElem?_cons_succ, List.getD_cons_zero, List.getD_cons_succ, List.set_cons_zero, List.set_cons_succ, List.nil_append, List.cons_append, Option.toList, Bool.or_false, Bool.false_or, Bool.or_true, Bool.true_or, Nat.reduceBEq, Nat.reduceAdd, Nat.reduceLT, Nat.reduceLeDiff, Int.reduceAdd, Int.reduceToNat, true_and, and_true, Fin.isValue, Fin.val_zero, Fin.val_one, Fin.val_two, Fin.reduceFinMk, eq_self, Int.reduceNeg, imp_self, Nat.reduceMul, Nat.le_refl, not_true_eq_false, not_false_eq_true, List.getElem?_nil, reduceCtorEq, true_or, or_true, Classical.not_not, implies_true, or_self, wI_0, wI_1, wI_m1, b2i_w, b2i_eq0, b2i_eq1, b2i_bool, nor_self, nx_pI, kd_pI, ln_pI, fI_pI, fL_pI, fR_pI, aI_pI, aL_pI, aR_pI, nx_pL, kd_pL, ln_pL, fI_pL, fL_pL, fR_pL, aI_pL, aL_pL, aR_pL, nx_pR, kd_pR, ln_pR, fI_pR, fL_pR, fR_pR, aI_pR, aL_pR, aR_pR, nx_qI, kd_qI, ln_qI, fI_qI, fL_qI, fR_qI, aI_qI, aL_qI, aR_qI, nx_qL, kd_qL, ln_qL, fI_qL, fL_qL, fR_qL, aI_qL, aL_qL, aR_qL, nx_qR, kd_qR, ln_qR, fI_qR, fL_qR, fR_qR, aI_qR, aL_qR, aR_qR, nx_mk, kd_mk, ln_mk, fI_mk, fL_mk, fR_mk, aI_mk, aL_mk, aR_mk, false_and, and_false, if_false, if_true, and_self, Int.reduceEq, Nat.reduceEqDiff, ite_self, MLay_pI, MLay_pL, MLay_qI, MLay_qL, ev_X11_pull_0, ev_X11_pull_1, ev_X11_pull_2, ev_X11_pull_5, ev_X11_pull_6, ev_X11_pull_7, ev_X11_pull_10, ev_X11_pull_11, ev_X11_pull_14, ev_X11_pull_17, ev_X11_pull_18, ev_X11_pull_19, ev_X11_pull_22, ev_X11_pull_25, ev_X11_pull_28, ev_X11_pull_29, ev_X11_pull_30, ev_X11_pull_31, ev_X11_pull_34, ev_X11_pull_37, ev_X11_pull_38, ev_X11_pull_39, ev_X11_pull_42, ev_X11_pull_43, ev_X11_pull_44, ev_X11_pull_47, ev_X11_pull_50, ev_X11_pull_51, ev_X11_pull_52, ev_X11_pull_55, ev_X11_pull_56, xt_X11_pull, xf_X11_pull, us_X11_boxOf, us_X2_goesOn, hC, hC.eqs, hL, hsz, hb, e]
    try simp (disch := omega) only [wI_id, dv_nn, rm_nn]
    repeat' (first | intro z | apply And.intro)
    all_goals try omega
    all_goals try contradiction
    all_goals exact h2

def sp_X11_cut : Sp := fun av σ Q => oR av fun this av => oI av fun l av => oI av fun w av => oI av fun y av => av = [] ∧ kd σ this = 12 ∧ (this = 1 ∧ CLay σ ∧ inR l ∧ inR w ∧ (y = 0 ∨ y = 1) ∧ (∀ l, 0 ≤ l → l < 4 → LpO σ (45 + 4 * l)) ∧ (((0 ≤ l ∧ l < 4) ∧ (0 ≤ w ∧ w ≤ fI σ 1402 (46 + 4 * l))) → ∀ f e, CutE (qI σ (47 + 4 * l) w y) (45 + 4 * l) 13 f e → Q (some (vi 1)) (E2 (qI σ (47 + 4 * l) w y) (45 + 4 * l) f e)) ∧ (¬ ((0 ≤ l ∧ l < 4) ∧ (0 ≤ w ∧ w ≤ fI σ 1402 (46 + 4 * l))) → Q (some (vi 0)) σ))
theorem us_X11_cut (this : Int) (l : Int) (w : Int) (y : Int) (σ : Hp) (Q : Option AV → Hp → Prop) : sp_X11_cut [vr this, vi l, vi w, vi y] σ Q = (kd σ this = 12 ∧ (this = 1 ∧ CLay σ ∧ inR l ∧ inR w ∧ (y = 0 ∨ y = 1) ∧ (∀ l, 0 ≤ l → l < 4 → LpO σ (45 + 4 * l)) ∧ (((0 ≤ l ∧ l < 4) ∧ (0 ≤ w ∧ w ≤ fI σ 1402 (46 + 4 * l))) → ∀ f e, CutE (qI σ (47 + 4 * l) w y) (45 + 4 * l) 13 f e → Q (some (vi 1)) (E2 (qI σ (47 + 4 * l) w y) (45 + 4 * l) f e)) ∧ (¬ ((0 ≤ l ∧ l < 4) ∧ (0 ≤ w ∧ w ≤ fI σ 1402 (46 + 4 * l))) → Q (some (vi 0)) σ))) := propext ⟨fun h => h.2, fun h => ⟨rfl, h⟩⟩
theorem el_X11_cut {av : List AV} {σ : Hp} {Q : Option AV → Hp → Prop} (h : sp_X11_cut av σ Q) : ∃ (this : Int) (l : Int) (w : Int) (y : Int), av = [vr this, vi l, vi w, vi y] ∧ (kd σ this = 12 ∧ (this = 1 ∧ CLay σ ∧ inR l ∧ inR w ∧ (y = 0 ∨ y = 1) ∧ (∀ l, 0 ≤ l → l < 4 → LpO σ (45 + 4 * l)) ∧ (((0 ≤ l ∧ l < 4) ∧ (0 ≤ w ∧ w ≤ fI σ 1402 (46 + 4 * l))) → ∀ f e, CutE (qI σ (47 + 4 * l) w y) (45 + 4 * l) 13 f e → Q (some (vi 1)) (E2 (qI σ (47 + 4 * l) w y) (45 + 4 * l) f e)) ∧ (¬ ((0 ≤ l ∧ l < 4) ∧ (0 ≤ w ∧ w ≤ fI σ 1402 (46 + 4 * l))) → Q (some (vi 0)) σ))) := by
  obtain ⟨this, a0, rfl, h0⟩ := oR_s h
  obtain ⟨l, a1, rfl, h1⟩ := oI_s h0
  obtain ⟨w, a2, rfl, h2⟩ := oI_s h1
  obtain ⟨y, a3, rfl, h3⟩ := oI_s h2
  obtain ⟨rfl, hz⟩ := h3
  exact ⟨this, l, w, y, rfl, hz⟩
theorem rc_X11_cut : ∀ (av : List AV) (σ : Hp) (Q : Option AV → Hp → Prop), sp_X11_cut av σ Q → ∃ r tl, av = vr r :: tl ∧ kd σ r = 11 + 1 := fun av σ Q h => by
  obtain ⟨this, l, w, y, rfl, hz, -⟩ := el_X11_cut h
  exact ⟨this, _, rfl, hz⟩

def tb_X11_cut : Tab := [(0, .aload_n 0, 1, (0, 0, 0, 0)), (1, .iload_n 1, 1, (0, 0, 0, 0)), (2, .invokevirtual 79, 3, (0, 0, 0, 0)), (5, .astore 4, 2, (0, 0, 0, 0)), (7, .aload 4, 2, (0, 0, 0, 0)), (9, .ifnull 17, 3, (0, 0, 0, 0)), (12, .aload 4, 2, (0, 0, 0, 0)), (14, .iload_n 2, 1, (0, 0, 0, 0)), (15, .iload_n 3, 1, (0, 0, 0, 0)), (16, .invokevirtual 139, 3, (0, 0, 0, 0)), (19, .ifCond .eq 7, 3, (0, 0, 0, 0)), (22, .iconst 1, 1, (0, 0, 0, 0)), (23, .goto 4, 3, (0, 0, 0, 0)), (26, .iconst 0, 1, (0, 0, 0, 0)), (27, .ireturn, 1, (0, 0, 0, 0))]
set_option maxRecDepth 100000 in
theorem tk_X11_cut : TOK RX11 false cX11_cut tb_X11_cut := chkT_ok ft_X11 (by decide +kernel)
theorem rw_X11_1112 : Row RX11 (.invokevirtual 139) 3 3 0 0 2 sp_X9_setWire := row_V (n := 2) (ci := 9) c_X9_setWire ⟨TBL_in 707 (by decide +kernel) rfl, TBL_in 710 (by decide +kernel) rfl, TBL_in 122 (by decide +kernel) rfl, by decide +kernel, by decide⟩ (by decide) rfl (TBL_in 708 (by decide +kernel) rfl) (TBL_in 709 (by decide +kernel) rfl) rc_X9_setWire
def mt_X11_cut : List (Nat × Mt) := [(632, 2, 0, 0, 1, sp_X11_loopOf), (1112, 3, 0, 0, 2, sp_X9_setWire)]
theorem em_X11_cut : mt_X11_cut.lookup 632 = some (2, 0, 0, 1, sp_X11_loopOf) ∧ mt_X11_cut.lookup 1112 = some (3, 0, 0, 2, sp_X9_setWire) := ⟨rfl, rfl⟩
theorem mk_X11_cut : MOK RX11 mt_X11_cut := by
  intro q hq
  simp only [mt_X11_cut, List.mem_cons, List.not_mem_nil, or_false] at hq
  rcases hq with rfl | rfl
  · exact rw_X11_632
  · exact rw_X11_1112
noncomputable def xe_X11_cut (ct : Nat → Bool) (K : Kt) (R : Option AV → Hp → Prop) (n : Nat) : Kt := exS 5 3 0 0 2 tb_X11_cut mt_X11_cut ct K R n
noncomputable def xk_X11_cut (ct : Nat → Bool) (K : Kt) (R : Option AV → Hp → Prop) (n : Nat) : Kt := exkS 5 3 0 0 2 tb_X11_cut mt_X11_cut ct K R n
theorem xt_X11_cut {ct : Nat → Bool} {K : Kt} {R : Option AV → Hp → Prop} {n pc : Nat} {ls : List (Option AV)} {st : List AV} {σ : Hp} {k : Nat × Nat} (h : ct pc = true) : xk_X11_cut ct K R n pc ls st σ k = K pc ls st σ k := by unfold xk_X11_cut exkS; rw [h]
theorem xf_X11_cut {ct : Nat → Bool} {K : Kt} {R : Option AV → Hp → Prop} {n pc : Nat} {ls : List (Option AV)} {st : List AV} {σ : Hp} {k : Nat × Nat} (h : ct pc = false) : xk_X11_cut ct K R n pc ls st σ k = xe_X11_cut ct K R n pc ls st σ k := by unfold xk_X11_cut exkS xe_X11_cut; rw [h]
theorem ev_X11_cut_0 {ct : Nat → Bool} {K : Kt} {R : Option AV → Hp → Prop} {n : Nat} {ls : List (Option AV)} {st : List AV} {σ : Hp} {k : Nat × Nat} : xe_X11_cut ct K R (n + 1) 0 ls st σ k = (lR ls 0 fun x => xk_X11_cut ct K R n 1 ls (vr x :: st) σ k) := exS_step.trans rfl
theorem ev_X11_cut_1 {ct : Nat → Bool} {K : Kt} {R : Option AV → Hp → Prop} {n : Nat} {ls : List (Option AV)} {st : List AV} {σ : Hp} {k : Nat × Nat} : xe_X11_cut ct K R (n + 1) 1 ls st σ k = (lI ls 1 fun x => xk_X11_cut ct K R n 2 ls (vi x :: st) σ k) := exS_step.trans rfl
theorem ev_X11_cut_2 {ct : Nat → Bool} {K : Kt} {R : Option AV → Hp → Prop} {n : Nat} {ls : List (Option AV)} {st : List AV} {σ : Hp} {k : Nat × Nat} : xe_X11_cut ct K R (n + 1) 2 ls st σ k = (popN 2 st [] fun av rest => (catS rest ≤ 8 ∧ 1 < 3 ∧ k.1 + 0 ≤ 0 ∧ k.2 + 0 ≤ 0) ∧ (sp_X11_loopOf) av σ fun v σ' => xk_X11_cut ct K R n 5 ls (v.toList ++ rest) σ' (k.1 + 0, k.2 + 0)) := exS_step.trans rfl
theorem ev_X11_cut_5 {ct : Nat → Bool} {K : Kt} {R : Option AV → Hp → Prop} {n : Nat} {ls : List (Option AV)} {st : List AV} {σ : Hp} {k : Nat × Nat} : xe_X11_cut ct K R (n + 1) 5 ls st σ k = (oR st fun x st => 4 < 5 ∧ xk_X11_cut ct K R n 7 (stL ls 4 (vr x)) st σ k) := exS_step.trans rfl
theorem ev_X11_cut_7 {ct : Nat → Bool} {K : Kt} {R : Option AV → Hp → Prop} {n : Nat} {ls : List (Option AV)} {st : List AV} {σ : Hp} {k : Nat × Nat} : xe_X11_cut ct K R (n + 1) 7 ls st σ k = (lR ls 4 fun x => xk_X11_cut ct K R n 9 ls (vr x :: st) σ k) := exS_step.trans rfl
theorem ev_X11_cut_9 {ct : Nat → Bool} {K : Kt} {R : Option AV → Hp → Prop} {n : Nat} {ls : List (Option AV)} {st : List AV} {σ : Hp} {k : Nat × Nat} : xe_X11_cut ct K R (n + 1) 9 ls st σ k = (oR st fun x st => (x = 0 → xk_X11_cut ct K R n 26 ls st σ k) ∧ (¬ x = 0 → xk_X11_cut ct K R n 12 ls st σ k)) := exS_step.trans rfl
theorem ev_X11_cut_12 {ct : Nat → Bool} {K : Kt} {R : Option AV → Hp → Prop} {n : Nat} {ls : List (Option AV)} {st : List AV} {σ : Hp} {k : Nat × Nat} : xe_X11_cut ct K R (n + 1) 12 ls st σ k = (lR ls 4 fun x => xk_X11_cut ct K R n 14 ls (vr x :: st) σ k) := exS_step.trans rfl
theorem ev_X11_cut_14 {ct : Nat → Bool} {K : Kt} {R : Option AV → Hp → Prop} {n : Nat} {ls : List (Option AV)} {st : List AV} {σ : Hp} {k : Nat × Nat} : xe_X11_cut ct K R (n + 1) 14 ls st σ k = (lI ls 2 fun x => xk_X11_cut ct K R n 15 ls (vi x :: st) σ k) := exS_step.trans rfl
theorem ev_X11_cut_15 {ct : Nat → Bool} {K : Kt} {R : Option AV → Hp → Prop} {n : Nat} {ls : List (Option AV)} {st : List AV} {σ : Hp} {k : Nat × Nat} : xe_X11_cut ct K R (n + 1) 15 ls st σ k = (lI ls 3 fun x => xk_X11_cut ct K R n 16 ls (vi x :: st) σ k) := exS_step.trans rfl
theorem ev_X11_cut_16 {ct : Nat → Bool} {K : Kt} {R : Option AV → Hp → Prop} {n : Nat} {ls : List (Option AV)} {st : List AV} {σ : Hp} {k : Nat × Nat} : xe_X11_cut ct K R (n + 1) 16 ls st σ k = (popN 3 st [] fun av rest => (catS rest ≤ 8 ∧ 2 < 3 ∧ k.1 + 0 ≤ 0 ∧ k.2 + 0 ≤ 0) ∧ (sp_X9_setWire) av σ fun v σ' => xk_X11_cut ct K R n 19 ls (v.toList ++ rest) σ' (k.1 + 0, k.2 + 0)) := exS_step.trans rfl
theorem ev_X11_cut_19 {ct : Nat → Bool} {K : Kt} {R : Option AV → Hp → Prop} {n : Nat} {ls : List (Option AV)} {st : List AV} {σ : Hp} {k : Nat × Nat} : xe_X11_cut ct K R (n + 1) 19 ls st σ k = (oI st fun x st => (wI x = wI 0 → xk_X11_cut ct K R n 26 ls st σ k) ∧ (¬ (wI x = wI 0) → xk_X11_cut ct K R n 22 ls st σ k)) := exS_step.trans rfl
theorem ev_X11_cut_22 {ct : Nat → Bool} {K : Kt} {R : Option AV → Hp → Prop} {n : Nat} {ls : List (Option AV)} {st : List AV} {σ : Hp} {k : Nat × Nat} : xe_X11_cut ct K R (n + 1) 22 ls st σ k = (xk_X11_cut ct K R n 23 ls (vi (1) :: st) σ k) := exS_step.trans rfl
theorem ev_X11_cut_23 {ct : Nat → Bool} {K : Kt} {R : Option AV → Hp → Prop} {n : Nat} {ls : List (Option AV)} {st : List AV} {σ : Hp} {k : Nat × Nat} : xe_X11_cut ct K R (n + 1) 23 ls st σ k = (xk_X11_cut ct K R n 27 ls st σ k) := exS_step.trans rfl
theorem ev_X11_cut_26 {ct : Nat → Bool} {K : Kt} {R : Option AV → Hp → Prop} {n : Nat} {ls : List (Option AV)} {st : List AV} {σ : Hp} {k : Nat × Nat} : xe_X11_cut ct K R (n + 1) 26 ls st σ k = (xk_X11_cut ct K R n 27 ls (vi (0) :: st) σ k) := exS_step.trans rfl
theorem ev_X11_cut_27 {ct : Nat → Bool} {K : Kt} {R : Option AV → Hp → Prop} {n : Nat} {ls : List (Option AV)} {st : List AV} {σ : Hp} {k : Nat × Nat} : xe_X11_cut ct K R (n + 1) 27 ls st σ k = (oI st fun x st => st = [] ∧ (x = 0 ∨ x = 1) ∧ R (some (vi x)) σ) := exS_step.trans rfl
def M_X11_cut : Md := (yX11_cut, cX11_cut, 5, (some FieldType.boolean), 3, 0, 0, 2, false, tb_X11_cut, mt_X11_cut)
theorem mm_X11_cut : MMOK M_X11_cut := ⟨by decide +kernel, tk_X11_cut, mk_X11_cut, rfl, fun h => by cases h⟩
theorem go_X11_cut {Q : Option AV → Hp → Prop} {ct : Nat → Bool} {pc : Nat} {ls : List (Option AV)} {st : List AV} {σ : Hp} {k : Nat × Nat} (n : Nat) (h : xe_X11_cut ct (Go M_X11_cut Q) Q n pc ls st σ k) : Go M_X11_cut Q pc ls st σ k := Go.exS mm_X11_cut h

set_option maxRecDepth 20000 in
theorem c_X11_cut : Ct yX11_cut cX11_cut 5 ((some FieldType.boolean)) 3 0 0 sp_X11_cut := by
  refine Ct.go (M := M_X11_cut) mm_X11_cut fun av σ Q h0 => ?_
  obtain ⟨this, l, w, y, rfl, hk, h⟩ := el_X11_cut h0
  clear h0
  refine ⟨Nat.le_of_ble_eq_true rfl, ?_⟩
  show Go M_X11_cut Q 0 [some (vr this), some (vi l), some (vi w), some (vi y), none] [] σ (0, 0)
  obtain ⟨rfl, hC, hl, hw, hy, hL, h1, h2⟩ := h
  by_cases c : 0 ≤ l ∧ l < 4
  · have e : (if 0 ≤ l ∧ l < 4 then 45 + 4 * l else 0) = 45 + 4 * l := if_pos c
    have o := hL l c.1 c.2
    obtain ⟨k1, -, k3, k4, -⟩ := LoP.k hC c
    have hne : ¬ 45 + 4 * l = 0 := by omega
    by_cases c2 : 0 ≤ w ∧ w ≤ fI σ 1402 (46 + 4 * l)
    · have h1 := h1 ⟨c, c2⟩
      clear h2 hL
      refine go_X11_cut (ct := fun p => p == 26) 40 ?_
      simp only [oI, oL, oR, o1, lI, lL, lR, popN, catS, gv, stL, stL2, swt, cnd, spObj, List.getElem?_cons_zero, List.getElem?_cons_succ, List.getD_cons_zero, List.getD_cons_succ, List.set_cons_zero, List.set_cons_succ, List.nil_append, List.cons_append, Option.toList, Bool.or_false, Bool.false_or, Bool.or_true, Bool.true_or, Nat.reduceBEq, Nat.reduceAdd, Nat.reduceLT, Nat.reduceLeDiff, Int.reduceAdd, Int.reduceToNat, true_and, and_true, Fin.isValue, Fin.val_zero, Fin.val_one, Fin.val_two, Fin.reduceFinMk, eq_self, Int.reduceNeg, imp_self, Nat.reduceMul, Nat.le_refl, not_true_eq_false, not_false_eq_true, List.getElem?_nil, reduceCtorEq, true_or, or_true, Classical.not_not, implies_true, or_self, wI_0, wI_1, wI_m1, b2i_w, b2i_eq0, b2i_eq1, b2i_bool, nor_self, nx_pI, kd_pI, ln_pI, fI_pI, fL_pI, fR_pI, aI_pI, aL_pI, aR_pI, nx_pL, kd_pL, ln_pL, fI_pL, fL_pL, fR_pL, aI_pL, aL_pL, aR_pL, nx_pR, kd_pR, ln_pR, fI_pR, fL_pR, fR_pR, aI_pR, aL_pR, aR_pR, nx_qI, kd_qI, ln_qI, fI_qI, fL_qI, fR_qI, aI_qI, aL_qI, aR_qI, nx_qL, kd_qL, ln_qL, fI_qL, fL_qL, fR_qL, aI_qL, aL_qL, aR_qL, nx_qR, kd_qR, ln_qR, fI_qR, fL_qR, fR_qR, aI_qR, aL_qR, aR_qR, nx_mk, kd_mk, ln_mk, fI_mk, fL_mk, fR_mk, aI_mk, aL_mk, aR_mk, false_and, and_false, if_false, if_true, and_self, Int.reduceEq, Nat.reduceEqDiff, ite_self, MLay_pI, MLay_pL, MLay_qI, MLay_qL, ev_X11_cut_0, ev_X11_cut_1, ev_X11_cut_2, ev_X11_cut_5, ev_X11_cut_7, ev_X11_cut_9, ev_X11_cut_12, ev_X11_cut_14, ev_X11_cut_15, ev_X11_cut_16, ev_X11_cut_19, ev_X11_cut_22, ev_X11_cut_23, ev_X11_cut_26, ev_X11_cut_27, xt_X11_cut, xf_X11_cut, us_X11_loopOf, us_X9_setWire, hC, hl, e, hne, k1, k3, k4, o, hw, hy, c2]
      repeat' (first | intro z | apply And.intro)
      all_goals try omega
      all_goals try contradiction
      all_goals exact h1 _ _ ‹_›
    · have h2 := h2 (fun z => c2 z.2)
      clear h1 hL
      refine go_X11_cut (ct := fun p => p == 22) 40 ?_
      simp only [oI, oL, oR, o1, lI, lL, lR, popN, catS, gv, stL, stL2, swt, cnd, spObj, List.getElem?_cons_zero, List.getElem?_cons_succ, List.getD_cons_zero, List.getD_cons_succ, List.set_cons_zero, List.set_cons_succ, List.nil_append, List.cons_append, Option.toList, Bool.or_false, Bool.false_or, Bool.or_true, Bool.true_or, Nat.reduceBEq, Nat.reduceAdd, Nat.reduceLT, Nat.reduceLeDiff, Int.reduceAdd, Int.reduceToNat, true_and, and_true, Fin.isValue, Fin.val_zero, Fin.val_one, Fin.val_two, Fin.reduceFinMk, eq_self, Int.reduceNeg, imp_self, Nat.reduceMul, Nat.le_refl, not_true_eq_false, not_false_eq_true, List.getElem?_nil, reduceCtorEq, true_or, or_true, Classical.not_not, implies_true, or_self, wI_0, wI_1, wI_m1, b2i_w, b2i_eq0, b2i_eq1, b2i_bool, nor_self, nx_pI, kd_pI, ln_pI, fI_pI, fL_pI, fR_pI, aI_pI, aL_pI, aR_pI, nx_pL, kd_pL, ln_pL, fI_pL, fL_pL, fR_pL, aI_pL, aL_pL, aR_pL, nx_pR, kd_pR, ln_pR, fI_pR, fL_pR, fR_pR, aI_pR, aL_pR, aR_pR, nx_qI, kd_qI, ln_qI, fI_qI, fL_qI, fR_qI, aI_qI, aL_qI, aR_qI, nx_qL, kd_qL, ln_qL, fI_qL, fL_qL, fR_qL, aI_qL, aL_qL, aR_qL, nx_qR, kd_qR, ln_qR, fI_qR, fL_qR, fR_qR, aI_qR, aL_qR, aR_qR, nx_mk, kd_mk, ln_mk, fI_mk, fL_mk, fR_mk, aI_mk, aL_mk, aR_mk, false_and, and_false, if_false, if_true, and_self, Int.reduceEq, Nat.reduceEqDiff, ite_self, MLay_pI, MLay_pL, MLay_qI, MLay_qL, ev_X11_cut_0, ev_X11_cut_1, ev_X11_cut_2, ev_X11_cut_5, ev_X11_cut_7, ev_X11_cut_9, ev_X11_cut_12, ev_X11_cut_14, ev_X11_cut_15, ev_X11_cut_16, ev_X11_cut_19, ev_X11_cut_22, ev_X11_cut_23, ev_X11_cut_26, ev_X11_cut_27, xt_X11_cut, xf_X11_cut, us_X11_loopOf, us_X9_setWire, hC, hl, e, hne, k1, k3, k4, o, hw, hy, c2]
      repeat' (first | intro z | apply And.intro)
      all_goals try omega
      all_goals try contradiction
      all_goals exact h2
  · have e : (if 0 ≤ l ∧ l < 4 then 45 + 4 * l else 0) = 0 := if_neg c
    have h2 := h2 (fun z => c z.1)
    clear h1 hL
    refine go_X11_cut (ct := fun p => p == 12) 40 ?_
    simp only [oI, oL, oR, o1, lI, lL, lR, popN, catS, gv, stL, stL2, swt, cnd, spObj, List.getElem?_cons_zero, List.getElem?_cons_succ, List.getD_cons_zero, List.getD_cons_succ, List.set_cons_zero, List.set_cons_succ, List.nil_append, List.cons_append, Option.toList, Bool.or_false, Bool.false_or, Bool.or_true, Bool.true_or, Nat.reduceBEq, Nat.reduceAdd, Nat.reduceLT, Nat.reduceLeDiff, Int.reduceAdd, Int.reduceToNat, true_and, and_true, Fin.isValue, Fin.val_zero, Fin.val_one, Fin.val_two, Fin.reduceFinMk, eq_self, Int.reduceNeg, imp_self, Nat.reduceMul, Nat.le_refl, not_true_eq_false, not_false_eq_true, List.getElem?_nil, reduceCtorEq, true_or, or_true, Classical.not_not, implies_true, or_self, wI_0, wI_1, wI_m1, b2i_w, b2i_eq0, b2i_eq1, b2i_bool, nor_self, nx_pI, kd_pI, ln_pI, fI_pI, fL_pI, fR_pI, aI_pI, aL_pI, aR_pI, nx_pL, kd_pL, ln_pL, fI_pL, fL_pL, fR_pL, aI_pL, aL_pL, aR_pL, nx_pR, kd_pR, ln_pR, fI_pR, fL_pR, fR_pR, aI_pR, aL_pR, aR_pR, nx_qI, kd_qI, ln_qI, fI_qI, fL_qI, fR_qI, aI_qI, aL_qI, aR_qI, nx_qL, kd_qL, ln_qL, fI_qL, fL_qL, fR_qL, aI_qL, aL_qL, aR_qL, nx_qR, kd_qR, ln_qR, fI_qR, fL_qR, fR_qR, aI_qR, aL_qR, aR_qR, nx_mk, kd_mk, ln_mk, fI_mk, fL_mk, fR_mk, aI_mk, aL_mk, aR_mk, false_and, and_false, if_false, if_true, and_self, Int.reduceEq, Nat.reduceEqDiff, ite_self, MLay_pI, MLay_pL, MLay_qI, MLay_qL, ev_X11_cut_0, ev_X11_cut_1, ev_X11_cut_2, ev_X11_cut_5, ev_X11_cut_7, ev_X11_cut_9, ev_X11_cut_12, ev_X11_cut_14, ev_X11_cut_15, ev_X11_cut_16, ev_X11_cut_19, ev_X11_cut_22, ev_X11_cut_23, ev_X11_cut_26, ev_X11_cut_27, xt_X11_cut, xf_X11_cut, us_X11_loopOf, us_X9_setWire, hC, hl, e]
    repeat' (first | intro z | apply And.intro)
    all_goals try omega
    all_goals try contradiction
    all_goals exact h2

def sp_X11_knocked : Sp := fun av σ Q => oR av fun this av => oI av fun l av => oI av fun t av => av = [] ∧ kd σ this = 12 ∧ (this = 1 ∧ CLay σ ∧ inR l ∧ inR t ∧ (0 ≤ fI σ 1210 1 ∧ fI σ 1210 1 ≤ 999999) ∧ (∀ l, 0 ≤ l → l < 4 → LpO σ (45 + 4 * l)) ∧ (((0 ≤ l ∧ l < 4) ∧ 1 ≤ t ∧ t ≤ fI σ 1210 1) → Q (some (vi (b2i (bE 500 fun k => k < fI σ 1003 ((45 + 4 * l)) ∧ aI σ (48 + 4 * l) k = t)))) σ) ∧ (¬ ((0 ≤ l ∧ l < 4) ∧ 1 ≤ t ∧ t ≤ fI σ 1210 1) → Q (some (vi (-1))) σ))
theorem us_X11_knocked (this : Int) (l : Int) (t : Int) (σ : Hp) (Q : Option AV → Hp → Prop) : sp_X11_knocked [vr this, vi l, vi t] σ Q = (kd σ this = 12 ∧ (this = 1 ∧ CLay σ ∧ inR l ∧ inR t ∧ (0 ≤ fI σ 1210 1 ∧ fI σ 1210 1 ≤ 999999) ∧ (∀ l, 0 ≤ l → l < 4 → LpO σ (45 + 4 * l)) ∧ (((0 ≤ l ∧ l < 4) ∧ 1 ≤ t ∧ t ≤ fI σ 1210 1) → Q (some (vi (b2i (bE 500 fun k => k < fI σ 1003 ((45 + 4 * l)) ∧ aI σ (48 + 4 * l) k = t)))) σ) ∧ (¬ ((0 ≤ l ∧ l < 4) ∧ 1 ≤ t ∧ t ≤ fI σ 1210 1) → Q (some (vi (-1))) σ))) := propext ⟨fun h => h.2, fun h => ⟨rfl, h⟩⟩
theorem el_X11_knocked {av : List AV} {σ : Hp} {Q : Option AV → Hp → Prop} (h : sp_X11_knocked av σ Q) : ∃ (this : Int) (l : Int) (t : Int), av = [vr this, vi l, vi t] ∧ (kd σ this = 12 ∧ (this = 1 ∧ CLay σ ∧ inR l ∧ inR t ∧ (0 ≤ fI σ 1210 1 ∧ fI σ 1210 1 ≤ 999999) ∧ (∀ l, 0 ≤ l → l < 4 → LpO σ (45 + 4 * l)) ∧ (((0 ≤ l ∧ l < 4) ∧ 1 ≤ t ∧ t ≤ fI σ 1210 1) → Q (some (vi (b2i (bE 500 fun k => k < fI σ 1003 ((45 + 4 * l)) ∧ aI σ (48 + 4 * l) k = t)))) σ) ∧ (¬ ((0 ≤ l ∧ l < 4) ∧ 1 ≤ t ∧ t ≤ fI σ 1210 1) → Q (some (vi (-1))) σ))) := by
  obtain ⟨this, a0, rfl, h0⟩ := oR_s h
  obtain ⟨l, a1, rfl, h1⟩ := oI_s h0
  obtain ⟨t, a2, rfl, h2⟩ := oI_s h1
  obtain ⟨rfl, hz⟩ := h2
  exact ⟨this, l, t, rfl, hz⟩
theorem rc_X11_knocked : ∀ (av : List AV) (σ : Hp) (Q : Option AV → Hp → Prop), sp_X11_knocked av σ Q → ∃ r tl, av = vr r :: tl ∧ kd σ r = 11 + 1 := fun av σ Q h => by
  obtain ⟨this, l, t, rfl, hz, -⟩ := el_X11_knocked h
  exact ⟨this, _, rfl, hz⟩

def tb_X11_knocked : Tab := [(0, .aload_n 0, 1, (0, 0, 0, 0)), (1, .iload_n 1, 1, (0, 0, 0, 0)), (2, .invokevirtual 79, 3, (0, 0, 0, 0)), (5, .astore_n 3, 1, (0, 0, 0, 0)), (6, .aload_n 3, 1, (0, 0, 0, 0)), (7, .ifnull 16, 3, (0, 0, 0, 0)), (10, .iload_n 2, 1, (0, 0, 0, 0)), (11, .iconst 1, 1, (0, 0, 0, 0)), (12, .if_icmp .lt 11, 3, (0, 0, 0, 0)), (15, .iload_n 2, 1, (0, 0, 0, 0)), (16, .aload_n 0, 1, (0, 0, 0, 0)), (17, .getfield 69, 3, (12, 1210, 0, 0)), (20, .if_icmp .le 5, 3, (0, 0, 0, 0)), (23, .iconst (-1), 1, (0, 0, 0, 0)), (24, .ireturn, 1, (0, 0, 0, 0)), (25, .aload_n 3, 1, (0, 0, 0, 0)), (26, .iload_n 2, 1, (0, 0, 0, 0)), (27, .invokevirtual 143, 3, (0, 0, 0, 0)), (30, .ifCond .eq 7, 3, (0, 0, 0, 0)), (33, .iconst 1, 1, (0, 0, 0, 0)), (34, .goto 4, 3, (0, 0, 0, 0)), (37, .iconst 0, 1, (0, 0, 0, 0)), (38, .ireturn, 1, (0, 0, 0, 0))]
set_option maxRecDepth 100000 in
theorem tk_X11_knocked : TOK RX11 false cX11_knocked tb_X11_knocked := chkT_ok ft_X11 (by decide +kernel)
theorem rw_X11_1144 : Row RX11 (.invokevirtual 143) 3 2 0 0 1 sp_X9_hasOnTape := row_V (n := 1) (ci := 9) c_X9_hasOnTape ⟨TBL_in 719 (by decide +kernel) rfl, TBL_in 722 (by decide +kernel) rfl, TBL_in 122 (by decide +kernel) rfl, by decide +kernel, by decide⟩ (by decide) rfl (TBL_in 720 (by decide +kernel) rfl) (TBL_in 721 (by decide +kernel) rfl) rc_X9_hasOnTape
def mt_X11_knocked : List (Nat × Mt) := [(632, 2, 0, 0, 1, sp_X11_loopOf), (1144, 2, 0, 0, 1, sp_X9_hasOnTape)]
theorem em_X11_knocked : mt_X11_knocked.lookup 632 = some (2, 0, 0, 1, sp_X11_loopOf) ∧ mt_X11_knocked.lookup 1144 = some (2, 0, 0, 1, sp_X9_hasOnTape) := ⟨rfl, rfl⟩
theorem mk_X11_knocked : MOK RX11 mt_X11_knocked := by
  intro q hq
  simp only [mt_X11_knocked, List.mem_cons, List.not_mem_nil, or_false] at hq
  rcases hq with rfl | rfl
  · exact rw_X11_632
  · exact rw_X11_1144
noncomputable def xe_X11_knocked (ct : Nat → Bool) (K : Kt) (R : Option AV → Hp → Prop) (n : Nat) : Kt := exS 4 2 0 0 1 tb_X11_knocked mt_X11_knocked ct K R n
noncomputable def xk_X11_knocked (ct : Nat → Bool) (K : Kt) (R : Option AV → Hp → Prop) (n : Nat) : Kt := exkS 4 2 0 0 1 tb_X11_knocked mt_X11_knocked ct K R n
theorem xt_X11_knocked {ct : Nat → Bool} {K : Kt} {R : Option AV → Hp → Prop} {n pc : Nat} {ls : List (Option AV)} {st : List AV} {σ : Hp} {k : Nat × Nat} (h : ct pc = true) : xk_X11_knocked ct K R n pc ls st σ k = K pc ls st σ k := by unfold xk_X11_knocked exkS; rw [h]
theorem xf_X11_knocked {ct : Nat → Bool} {K : Kt} {R : Option AV → Hp → Prop} {n pc : Nat} {ls : List (Option AV)} {st : List AV} {σ : Hp} {k : Nat × Nat} (h : ct pc = false) : xk_X11_knocked ct K R n pc ls st σ k = xe_X11_knocked ct K R n pc ls st σ k := by unfold xk_X11_knocked exkS xe_X11_knocked; rw [h]
theorem ev_X11_knocked_0 {ct : Nat → Bool} {K : Kt} {R : Option AV → Hp → Prop} {n : Nat} {ls : List (Option AV)} {st : List AV} {σ : Hp} {k : Nat × Nat} : xe_X11_knocked ct K R (n + 1) 0 ls st σ k = (lR ls 0 fun x => xk_X11_knocked ct K R n 1 ls (vr x :: st) σ k) := exS_step.trans rfl
theorem ev_X11_knocked_1 {ct : Nat → Bool} {K : Kt} {R : Option AV → Hp → Prop} {n : Nat} {ls : List (Option AV)} {st : List AV} {σ : Hp} {k : Nat × Nat} : xe_X11_knocked ct K R (n + 1) 1 ls st σ k = (lI ls 1 fun x => xk_X11_knocked ct K R n 2 ls (vi x :: st) σ k) := exS_step.trans rfl
theorem ev_X11_knocked_2 {ct : Nat → Bool} {K : Kt} {R : Option AV → Hp → Prop} {n : Nat} {ls : List (Option AV)} {st : List AV} {σ : Hp} {k : Nat × Nat} : xe_X11_knocked ct K R (n + 1) 2 ls st σ k = (popN 2 st [] fun av rest => (catS rest ≤ 8 ∧ 1 < 2 ∧ k.1 + 0 ≤ 0 ∧ k.2 + 0 ≤ 0) ∧ (sp_X11_loopOf) av σ fun v σ' => xk_X11_knocked ct K R n 5 ls (v.toList ++ rest) σ' (k.1 + 0, k.2 + 0)) := exS_step.trans rfl
theorem ev_X11_knocked_5 {ct : Nat → Bool} {K : Kt} {R : Option AV → Hp → Prop} {n : Nat} {ls : List (Option AV)} {st : List AV} {σ : Hp} {k : Nat × Nat} : xe_X11_knocked ct K R (n + 1) 5 ls st σ k = (oR st fun x st => 3 < 4 ∧ xk_X11_knocked ct K R n 6 (stL ls 3 (vr x)) st σ k) := exS_step.trans rfl
theorem ev_X11_knocked_6 {ct : Nat → Bool} {K : Kt} {R : Option AV → Hp → Prop} {n : Nat} {ls : List (Option AV)} {st : List AV} {σ : Hp} {k : Nat × Nat} : xe_X11_knocked ct K R (n + 1) 6 ls st σ k = (lR ls 3 fun x => xk_X11_knocked ct K R n 7 ls (vr x :: st) σ k) := exS_step.trans rfl
theorem ev_X11_knocked_7 {ct : Nat → Bool} {K : Kt} {R : Option AV → Hp → Prop} {n : Nat} {ls : List (Option AV)} {st : List AV} {σ : Hp} {k : Nat × Nat} : xe_X11_knocked ct K R (n + 1) 7 ls st σ k = (oR st fun x st => (x = 0 → xk_X11_knocked ct K R n 23 ls st σ k) ∧ (¬ x = 0 → xk_X11_knocked ct K R n 10 ls st σ k)) := exS_step.trans rfl
theorem ev_X11_knocked_10 {ct : Nat → Bool} {K : Kt} {R : Option AV → Hp → Prop} {n : Nat} {ls : List (Option AV)} {st : List AV} {σ : Hp} {k : Nat × Nat} : xe_X11_knocked ct K R (n + 1) 10 ls st σ k = (lI ls 2 fun x => xk_X11_knocked ct K R n 11 ls (vi x :: st) σ k) := exS_step.trans rfl
theorem ev_X11_knocked_11 {ct : Nat → Bool} {K : Kt} {R : Option AV → Hp → Prop} {n : Nat} {ls : List (Option AV)} {st : List AV} {σ : Hp} {k : Nat × Nat} : xe_X11_knocked ct K R (n + 1) 11 ls st σ k = (xk_X11_knocked ct K R n 12 ls (vi (1) :: st) σ k) := exS_step.trans rfl
theorem ev_X11_knocked_12 {ct : Nat → Bool} {K : Kt} {R : Option AV → Hp → Prop} {n : Nat} {ls : List (Option AV)} {st : List AV} {σ : Hp} {k : Nat × Nat} : xe_X11_knocked ct K R (n + 1) 12 ls st σ k = (oI st fun y st => oI st fun x st => (wI x < wI y → xk_X11_knocked ct K R n 23 ls st σ k) ∧ (¬ (wI x < wI y) → xk_X11_knocked ct K R n 15 ls st σ k)) := exS_step.trans rfl
theorem ev_X11_knocked_15 {ct : Nat → Bool} {K : Kt} {R : Option AV → Hp → Prop} {n : Nat} {ls : List (Option AV)} {st : List AV} {σ : Hp} {k : Nat × Nat} : xe_X11_knocked ct K R (n + 1) 15 ls st σ k = (lI ls 2 fun x => xk_X11_knocked ct K R n 16 ls (vi x :: st) σ k) := exS_step.trans rfl
theorem ev_X11_knocked_16 {ct : Nat → Bool} {K : Kt} {R : Option AV → Hp → Prop} {n : Nat} {ls : List (Option AV)} {st : List AV} {σ : Hp} {k : Nat × Nat} : xe_X11_knocked ct K R (n + 1) 16 ls st σ k = (lR ls 0 fun x => xk_X11_knocked ct K R n 17 ls (vr x :: st) σ k) := exS_step.trans rfl
theorem ev_X11_knocked_17 {ct : Nat → Bool} {K : Kt} {R : Option AV → Hp → Prop} {n : Nat} {ls : List (Option AV)} {st : List AV} {σ : Hp} {k : Nat × Nat} : xe_X11_knocked ct K R (n + 1) 17 ls st σ k = (oR st fun x st => kd σ x = 12 ∧ xk_X11_knocked ct K R n 20 ls (vi (fI σ 1210 x) :: st) σ k) := exS_step.trans rfl
theorem ev_X11_knocked_20 {ct : Nat → Bool} {K : Kt} {R : Option AV → Hp → Prop} {n : Nat} {ls : List (Option AV)} {st : List AV} {σ : Hp} {k : Nat × Nat} : xe_X11_knocked ct K R (n + 1) 20 ls st σ k = (oI st fun y st => oI st fun x st => (wI x ≤ wI y → xk_X11_knocked ct K R n 25 ls st σ k) ∧ (¬ (wI x ≤ wI y) → xk_X11_knocked ct K R n 23 ls st σ k)) := exS_step.trans rfl
theorem ev_X11_knocked_23 {ct : Nat → Bool} {K : Kt} {R : Option AV → Hp → Prop} {n : Nat} {ls : List (Option AV)} {st : List AV} {σ : Hp} {k : Nat × Nat} : xe_X11_knocked ct K R (n + 1) 23 ls st σ k = (xk_X11_knocked ct K R n 24 ls (vi (-1) :: st) σ k) := exS_step.trans rfl
theorem ev_X11_knocked_24 {ct : Nat → Bool} {K : Kt} {R : Option AV → Hp → Prop} {n : Nat} {ls : List (Option AV)} {st : List AV} {σ : Hp} {k : Nat × Nat} : xe_X11_knocked ct K R (n + 1) 24 ls st σ k = (oI st fun x st => st = [] ∧ True ∧ R (some (vi x)) σ) := exS_step.trans rfl
theorem ev_X11_knocked_25 {ct : Nat → Bool} {K : Kt} {R : Option AV → Hp → Prop} {n : Nat} {ls : List (Option AV)} {st : List AV} {σ : Hp} {k : Nat × Nat} : xe_X11_knocked ct K R (n + 1) 25 ls st σ k = (lR ls 3 fun x => xk_X11_knocked ct K R n 26 ls (vr x :: st) σ k) := exS_step.trans rfl
theorem ev_X11_knocked_26 {ct : Nat → Bool} {K : Kt} {R : Option AV → Hp → Prop} {n : Nat} {ls : List (Option AV)} {st : List AV} {σ : Hp} {k : Nat × Nat} : xe_X11_knocked ct K R (n + 1) 26 ls st σ k = (lI ls 2 fun x => xk_X11_knocked ct K R n 27 ls (vi x :: st) σ k) := exS_step.trans rfl
theorem ev_X11_knocked_27 {ct : Nat → Bool} {K : Kt} {R : Option AV → Hp → Prop} {n : Nat} {ls : List (Option AV)} {st : List AV} {σ : Hp} {k : Nat × Nat} : xe_X11_knocked ct K R (n + 1) 27 ls st σ k = (popN 2 st [] fun av rest => (catS rest ≤ 8 ∧ 1 < 2 ∧ k.1 + 0 ≤ 0 ∧ k.2 + 0 ≤ 0) ∧ (sp_X9_hasOnTape) av σ fun v σ' => xk_X11_knocked ct K R n 30 ls (v.toList ++ rest) σ' (k.1 + 0, k.2 + 0)) := exS_step.trans rfl
theorem ev_X11_knocked_30 {ct : Nat → Bool} {K : Kt} {R : Option AV → Hp → Prop} {n : Nat} {ls : List (Option AV)} {st : List AV} {σ : Hp} {k : Nat × Nat} : xe_X11_knocked ct K R (n + 1) 30 ls st σ k = (oI st fun x st => (wI x = wI 0 → xk_X11_knocked ct K R n 37 ls st σ k) ∧ (¬ (wI x = wI 0) → xk_X11_knocked ct K R n 33 ls st σ k)) := exS_step.trans rfl
theorem ev_X11_knocked_33 {ct : Nat → Bool} {K : Kt} {R : Option AV → Hp → Prop} {n : Nat} {ls : List (Option AV)} {st : List AV} {σ : Hp} {k : Nat × Nat} : xe_X11_knocked ct K R (n + 1) 33 ls st σ k = (xk_X11_knocked ct K R n 34 ls (vi (1) :: st) σ k) := exS_step.trans rfl
theorem ev_X11_knocked_34 {ct : Nat → Bool} {K : Kt} {R : Option AV → Hp → Prop} {n : Nat} {ls : List (Option AV)} {st : List AV} {σ : Hp} {k : Nat × Nat} : xe_X11_knocked ct K R (n + 1) 34 ls st σ k = (xk_X11_knocked ct K R n 38 ls st σ k) := exS_step.trans rfl
theorem ev_X11_knocked_37 {ct : Nat → Bool} {K : Kt} {R : Option AV → Hp → Prop} {n : Nat} {ls : List (Option AV)} {st : List AV} {σ : Hp} {k : Nat × Nat} : xe_X11_knocked ct K R (n + 1) 37 ls st σ k = (xk_X11_knocked ct K R n 38 ls (vi (0) :: st) σ k) := exS_step.trans rfl
theorem ev_X11_knocked_38 {ct : Nat → Bool} {K : Kt} {R : Option AV → Hp → Prop} {n : Nat} {ls : List (Option AV)} {st : List AV} {σ : Hp} {k : Nat × Nat} : xe_X11_knocked ct K R (n + 1) 38 ls st σ k = (oI st fun x st => st = [] ∧ True ∧ R (some (vi x)) σ) := exS_step.trans rfl
def M_X11_knocked : Md := (yX11_knocked, cX11_knocked, 4, (some FieldType.int), 2, 0, 0, 1, false, tb_X11_knocked, mt_X11_knocked)
theorem mm_X11_knocked : MMOK M_X11_knocked := ⟨by decide +kernel, tk_X11_knocked, mk_X11_knocked, rfl, fun h => by cases h⟩
theorem go_X11_knocked {Q : Option AV → Hp → Prop} {ct : Nat → Bool} {pc : Nat} {ls : List (Option AV)} {st : List AV} {σ : Hp} {k : Nat × Nat} (n : Nat) (h : xe_X11_knocked ct (Go M_X11_knocked Q) Q n pc ls st σ k) : Go M_X11_knocked Q pc ls st σ k := Go.exS mm_X11_knocked h

set_option maxRecDepth 20000 in
theorem c_X11_knocked : Ct yX11_knocked cX11_knocked 4 ((some FieldType.int)) 2 0 0 sp_X11_knocked := by
  refine Ct.go (M := M_X11_knocked) mm_X11_knocked fun av σ Q h0 => ?_
  obtain ⟨this, l, t, rfl, hk, h⟩ := el_X11_knocked h0
  clear h0
  refine ⟨Nat.le_of_ble_eq_true rfl, ?_⟩
  show Go M_X11_knocked Q 0 [some (vr this), some (vi l), some (vi t), none] [] σ (0, 0)
  obtain ⟨rfl, hC, hl, ht, hnw, hL, h1, h2⟩ := h
  have ht' := ht
  unfold inR at ht'
  by_cases c : 0 ≤ l ∧ l < 4
  · have e : (if 0 ≤ l ∧ l < 4 then 45 + 4 * l else 0) = 45 + 4 * l := if_pos c
    have o := hL l c.1 c.2
    obtain ⟨-, -, -, -, -, o6, -, o8, o9, -⟩ := id o
    obtain ⟨k1, -, k3, k4, k5, k6, k7, k8, k9⟩ := LoP.k hC c
    rw [k5] at o8
    have hne : ¬ 45 + 4 * l = 0 := by omega
    by_cases c2 : 1 ≤ t ∧ t ≤ fI σ 1210 1
    · have h1 := h1 ⟨c, c2⟩
      clear h2 hL
      by_cases y : bE 500 fun k => k < fI σ 1003 ((45 + 4 * l)) ∧ aI σ (48 + 4 * l) k = t
      · rw [b2i_t y] at h1
        refine go_X11_knocked (ct := fun p => p == 23 || p == 37) 40 ?_
        simp only [oI, oL, oR, o1, lI, lL, lR, popN, catS, gv, stL, stL2, swt, cnd, spObj, List.getElem?_cons_zero, List.getElem?_cons_succ, List.getD_cons_zero, List.getD_cons_succ, List.set_cons_zero, List.set_cons_succ, List.nil_append, List.cons_append, Option.toList, Bool.or_false, Bool.false_or, Bool.or_true, Bool.true_or, Nat.reduceBEq, Nat.reduceAdd, Nat.reduceLT, Nat.reduceLeDiff, Int.reduceAdd, Int.reduceToNat, true_and, and_true, Fin.isValue, Fin.val_zero, Fin.val_one, Fin.val_two, Fin.reduceFinMk, eq_self, Int.reduceNeg, imp_self, Nat.reduceMul, Nat.le_refl, not_true_eq_false, not_false_eq_true, List.getElem?_nil, reduceCtorEq, true_or, or_true, Classical.not_not, implies_true, or_self, wI_0, wI_1, wI_m1, b2i_w, b2i_eq0, b2i_eq1, b2i_bool, nor_self, nx_pI, kd_pI, ln_pI, fI_pI, fL_pI, fR_pI, aI_pI, aL_pI, aR_pI, nx_pL, kd_pL, ln_pL, fI_pL, fL_pL, fR_pL, aI_pL, aL_pL, aR_pL, nx_pR, kd_pR, ln_pR, fI_pR, fL_pR, fR_pR, aI_pR, aL_pR, aR_pR, nx_qI, kd_qI, ln_qI, fI_qI, fL_qI, fR_qI, aI_qI, aL_qI, aR_qI, nx_qL, kd_qL, ln_qL, fI_qL, fL_qL, fR_qL, aI_qL, aL_qL, aR_qL, nx_qR, kd_qR, ln_qR, fI_qR, fL_qR, fR_qR, aI_qR, aL_qR, aR_qR, nx_mk, kd_mk, ln_mk, fI_mk, fL_mk, fR_mk, aI_mk, aL_mk, aR_mk, false_and, and_false, if_false, if_true, and_self, Int.reduceEq, Nat.reduceEqDiff, ite_self, MLay_pI, MLay_pL, MLay_qI, MLay_qL, ev_X11_knocked_0, ev_X11_knocked_1, ev_X11_knocked_2, ev_X11_knocked_5, ev_X11_knocked_6, ev_X11_knocked_7, ev_X11_knocked_10, ev_X11_knocked_11, ev_X11_knocked_12, ev_X11_knocked_15, ev_X11_knocked_16, ev_X11_knocked_17, ev_X11_knocked_20, ev_X11_knocked_23, ev_X11_knocked_24, ev_X11_knocked_25, ev_X11_knocked_26, ev_X11_knocked_27, ev_X11_knocked_30, ev_X11_knocked_33, ev_X11_knocked_34, ev_X11_knocked_37, ev_X11_knocked_38, xt_X11_knocked, xf_X11_knocked, us_X11_loopOf, us_X9_hasOnTape, hC, hC.eqs, hl, e, hne, k1, k5, k8, k9, o8, o9, ht, y]
        try simp (disch := omega) only [wI_id, dv_nn, rm_nn]
        repeat' (first | intro z | apply And.intro)
        all_goals try omega
        all_goals try contradiction
        all_goals exact h1
      · rw [b2i_f y] at h1
        refine go_X11_knocked (ct := fun p => p == 23 || p == 33) 40 ?_
        simp only [oI, oL, oR, o1, lI, lL, lR, popN, catS, gv, stL, stL2, swt, cnd, spObj, List.getElem?_cons_zero, List.getElem?_cons_succ, List.getD_cons_zero, List.getD_cons_succ, List.set_cons_zero, List.set_cons_succ, List.nil_append, List.cons_append, Option.toList, Bool.or_false, Bool.false_or, Bool.or_true, Bool.true_or, Nat.reduceBEq, Nat.reduceAdd, Nat.reduceLT, Nat.reduceLeDiff, Int.reduceAdd, Int.reduceToNat, true_and, and_true, Fin.isValue, Fin.val_zero, Fin.val_one, Fin.val_two, Fin.reduceFinMk, eq_self, Int.reduceNeg, imp_self, Nat.reduceMul, Nat.le_refl, not_true_eq_false, not_false_eq_true, List.getElem?_nil, reduceCtorEq, true_or, or_true, Classical.not_not, implies_true, or_self, wI_0, wI_1, wI_m1, b2i_w, b2i_eq0, b2i_eq1, b2i_bool, nor_self, nx_pI, kd_pI, ln_pI, fI_pI, fL_pI, fR_pI, aI_pI, aL_pI, aR_pI, nx_pL, kd_pL, ln_pL, fI_pL, fL_pL, fR_pL, aI_pL, aL_pL, aR_pL, nx_pR, kd_pR, ln_pR, fI_pR, fL_pR, fR_pR, aI_pR, aL_pR, aR_pR, nx_qI, kd_qI, ln_qI, fI_qI, fL_qI, fR_qI, aI_qI, aL_qI, aR_qI, nx_qL, kd_qL, ln_qL, fI_qL, fL_qL, fR_qL, aI_qL, aL_qL, aR_qL, nx_qR, kd_qR, ln_qR, fI_qR, fL_qR, fR_qR, aI_qR, aL_qR, aR_qR, nx_mk, kd_mk, ln_mk, fI_mk, fL_mk, fR_mk, aI_mk, aL_mk, aR_mk, false_and, and_false, if_false, if_true, and_self, Int.reduceEq, Nat.reduceEqDiff, ite_self, MLay_pI, MLay_pL, MLay_qI, MLay_qL, ev_X11_knocked_0, ev_X11_knocked_1, ev_X11_knocked_2, ev_X11_knocked_5, ev_X11_knocked_6, ev_X11_knocked_7, ev_X11_knocked_10, ev_X11_knocked_11, ev_X11_knocked_12, ev_X11_knocked_15, ev_X11_knocked_16, ev_X11_knocked_17, ev_X11_knocked_20, ev_X11_knocked_23, ev_X11_knocked_24, ev_X11_knocked_25, ev_X11_knocked_26, ev_X11_knocked_27, ev_X11_knocked_30, ev_X11_knocked_33, ev_X11_knocked_34, ev_X11_knocked_37, ev_X11_knocked_38, xt_X11_knocked, xf_X11_knocked, us_X11_loopOf, us_X9_hasOnTape, hC, hC.eqs, hl, e, hne, k1, k5, k8, k9, o8, o9, ht, y]
        try simp (disch := omega) only [wI_id, dv_nn, rm_nn]
        repeat' (first | intro z | apply And.intro)
        all_goals try omega
        all_goals try contradiction
        all_goals exact h1
    · have h2 := h2 (fun z => c2 z.2)
      clear h1 hL
      refine go_X11_knocked (ct := fun p => p == 25) 40 ?_
      simp only [oI, oL, oR, o1, lI, lL, lR, popN, catS, gv, stL, stL2, swt, cnd, spObj, List.getElem?_cons_zero, List.getElem?_cons_succ, List.getD_cons_zero, List.getD_cons_succ, List.set_cons_zero, List.set_cons_succ, List.nil_append, List.cons_append, Option.toList, Bool.or_false, Bool.false_or, Bool.or_true, Bool.true_or, Nat.reduceBEq, Nat.reduceAdd, Nat.reduceLT, Nat.reduceLeDiff, Int.reduceAdd, Int.reduceToNat, true_and, and_true, Fin.isValue, Fin.val_zero, Fin.val_one, Fin.val_two, Fin.reduceFinMk, eq_self, Int.reduceNeg, imp_self, Nat.reduceMul, Nat.le_refl, not_true_eq_false, not_false_eq_true, List.getElem?_nil, reduceCtorEq, true_or, or_true, Classical.not_not, implies_true, or_self, wI_0, wI_1, wI_m1, b2i_w, b2i_eq0, b2i_eq1, b2i_bool, nor_self, nx_pI, kd_pI, ln_pI, fI_pI, fL_pI, fR_pI, aI_pI, aL_pI, aR_pI, nx_pL, kd_pL, ln_pL, fI_pL, fL_pL, fR_pL, aI_pL, aL_pL, aR_pL, nx_pR, kd_pR, ln_pR, fI_pR, fL_pR, fR_pR, aI_pR, aL_pR, aR_pR, nx_qI, kd_qI, ln_qI, fI_qI, fL_qI, fR_qI, aI_qI, aL_qI, aR_qI, nx_qL, kd_qL, ln_qL, fI_qL, fL_qL, fR_qL, aI_qL, aL_qL, aR_qL, nx_qR, kd_qR, ln_qR, fI_qR, fL_qR, fR_qR, aI_qR, aL_qR, aR_qR, nx_mk, kd_mk, ln_mk, fI_mk, fL_mk, fR_mk, aI_mk, aL_mk, aR_mk, false_and, and_false, if_false, if_true, and_self, Int.reduceEq, Nat.reduceEqDiff, ite_self, MLay_pI, MLay_pL, MLay_qI, MLay_qL, ev_X11_knocked_0, ev_X11_knocked_1, ev_X11_knocked_2, ev_X11_knocked_5, ev_X11_knocked_6, ev_X11_knocked_7, ev_X11_knocked_10, ev_X11_knocked_11, ev_X11_knocked_12, ev_X11_knocked_15, ev_X11_knocked_16, ev_X11_knocked_17, ev_X11_knocked_20, ev_X11_knocked_23, ev_X11_knocked_24, ev_X11_knocked_25, ev_X11_knocked_26, ev_X11_knocked_27, ev_X11_knocked_30, ev_X11_knocked_33, ev_X11_knocked_34, ev_X11_knocked_37, ev_X11_knocked_38, xt_X11_knocked, xf_X11_knocked, us_X11_loopOf, us_X9_hasOnTape, hC, hC.eqs, hl, e, hne]
      try simp (disch := omega) only [wI_id, dv_nn, rm_nn]
      repeat' (first | intro z | apply And.intro)
      all_goals try omega
      all_goals try contradiction
      all_goals exact h2
  · have e : (if 0 ≤ l ∧ l < 4 then 45 + 4 * l else 0) = 0 := if_neg c
    have h2 := h2 (fun z => c z.1)
    clear h1 hL
    refine go_X11_knocked (ct := fun p => p == 10) 40 ?_
    simp only [oI, oL, oR, o1, lI, lL, lR, popN, catS, gv, stL, stL2, swt, cnd, spObj, List.getElem?_cons_zero, List.getElem?_cons_succ, List.getD_cons_zero, List.getD_cons_succ, List.set_cons_zero, List.set_cons_succ, List.nil_append, List.cons_append, Option.toList, Bool.or_false, Bool.false_or, Bool.or_true, Bool.true_or, Nat.reduceBEq, Nat.reduceAdd, Nat.reduceLT, Nat.reduceLeDiff, Int.reduceAdd, Int.reduceToNat, true_and, and_true, Fin.isValue, Fin.val_zero, Fin.val_one, Fin.val_two, Fin.reduceFinMk, eq_self, Int.reduceNeg, imp_self, Nat.reduceMul, Nat.le_refl, not_true_eq_false, not_false_eq_true, List.getElem?_nil, reduceCtorEq, true_or, or_true, Classical.not_not, implies_true, or_self, wI_0, wI_1, wI_m1, b2i_w, b2i_eq0, b2i_eq1, b2i_bool, nor_self, nx_pI, kd_pI, ln_pI, fI_pI, fL_pI, fR_pI, aI_pI, aL_pI, aR_pI, nx_pL, kd_pL, ln_pL, fI_pL, fL_pL, fR_pL, aI_pL, aL_pL, aR_pL, nx_pR, kd_pR, ln_pR, fI_pR, fL_pR, fR_pR, aI_pR, aL_pR, aR_pR, nx_qI, kd_qI, ln_qI, fI_qI, fL_qI, fR_qI, aI_qI, aL_qI, aR_qI, nx_qL, kd_qL, ln_qL, fI_qL, fL_qL, fR_qL, aI_qL, aL_qL, aR_qL, nx_qR, kd_qR, ln_qR, fI_qR, fL_qR, fR_qR, aI_qR, aL_qR, aR_qR, nx_mk, kd_mk, ln_mk, fI_mk, fL_mk, fR_mk, aI_mk, aL_mk, aR_mk, false_and, and_false, if_false, if_true, and_self, Int.reduceEq, Nat.reduceEqDiff, ite_self, MLay_pI, MLay_pL, MLay_qI, MLay_qL, ev_X11_knocked_0, ev_X11_knocked_1, ev_X11_knocked_2, ev_X11_knocked_5, ev_X11_knocked_6, ev_X11_knocked_7, ev_X11_knocked_10, ev_X11_knocked_11, ev_X11_knocked_12, ev_X11_knocked_15, ev_X11_knocked_16, ev_X11_knocked_17, ev_X11_knocked_20, ev_X11_knocked_23, ev_X11_knocked_24, ev_X11_knocked_25, ev_X11_knocked_26, ev_X11_knocked_27, ev_X11_knocked_30, ev_X11_knocked_33, ev_X11_knocked_34, ev_X11_knocked_37, ev_X11_knocked_38, xt_X11_knocked, xf_X11_knocked, us_X11_loopOf, us_X9_hasOnTape, hC, hl, e]
    repeat' (first | intro z | apply And.intro)
    all_goals try omega
    all_goals try contradiction
    all_goals exact h2
