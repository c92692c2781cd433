/-! the class: a loop lets time pass -/

theorem BxR_p3 {σ : Hp} {r p a b : Int} (h : BxR σ r) (ha : 0 ≤ a ∧ a ≤ 1) (hb : -1 ≤ b ∧ b ≤ 1000000) : BxR (pI (pI σ 312 p a) 313 p b) r := by
  unfold BxR at h ⊢
  simp only [kd_pI, fI_pI, Nat.reduceEqDiff, false_and, if_false, true_and]
  obtain ⟨h0, h1, h2, h3, h4, h5, h6, h7, h8, h9, h10, h11, h12⟩ := h
  refine ⟨h0, h1, h2, h3, h4, h5, h6, h7, h8, h9, h10, ?_, ?_⟩
  · split <;> omega
  · split <;> omega
theorem LpO_p3 {σ : Hp} {q p a b : Int} (h : LpO σ q) (ha : 0 ≤ a ∧ a ≤ 1) (hb : -1 ≤ b ∧ b ≤ 1000000) : LpO (pI (pI σ 312 p a) 313 p b) q := by
  have hB := h.2.2.2.1
  unfold LpO LOk lat at h ⊢
  unfold lat at hB
  simp only [kd_pI, ln_pI, fI_pI, fR_pI, aR_pI, aI_pI, Nat.reduceEqDiff, false_and, if_false]
  obtain ⟨h0, h1, h2, h3, h4⟩ := h
  exact ⟨h0, h1, h2, fun k x y => BxR_p3 (hB k x y) ha hb, h4⟩
theorem LpO_cTp {σ : Hp} {q t : Int} (h : LpO σ q) (ht : 0 ≤ t ∧ t ≤ 999999) : LpO (cTp σ q t) q := by
  have hd : ¬ fR σ 1001 q = fR σ 1002 q := fun e => by
    have h5 := h.2.2.2.2.1.1
    have h6 := h.2.2.2.2.2.1.1
    rw [e] at h5; omega
  unfold LpO LOk lat BxR at h ⊢
  unfold cTp
  simp only [kd_pI, ln_pI, fI_pI, fR_pI, aR_pI, aI_pI, kd_qI, ln_qI, fI_qI, fR_qI, aR_qI, aI_qI, Nat.reduceEqDiff, false_and, if_false, true_and, and_self, eq_self, if_true, hd]
  obtain ⟨h0, h1, h2, h3, h4, h5, h6, h7, h8, h9, h10, h11, h12⟩ := h
  refine ⟨h0, h1, h2, h3, h4, h5, h6, fun w => ?_, ?_, ?_, ?_, h11, h12⟩
  · have := h7 w
    split <;> omega
  · split <;> omega
  · split <;> omega
  · omega
/-- one tick of a loop -/
noncomputable def cSt1 (σ : Hp) (q t : Int) : Hp := if ¬ cFw σ q ((fI σ 1402 (fR σ 1000 q))).toNat = 0 ∧ b2i (cBusy σ q t) = 0 ∧ 7 < t - fI σ 1005 q then pI (pI σ 312 (cFw σ q ((fI σ 1402 (fR σ 1000 q))).toNat) 0) 313 (cFw σ q ((fI σ 1402 (fR σ 1000 q))).toNat) t else σ
noncomputable def cSt2 (σ : Hp) (q t : Int) : Hp := if b2i (cHear σ q t) = 1 then cTp σ q t else σ
noncomputable def cStep (σ : Hp) (q t : Int) : Hp := cSt2 (cSt1 σ q t) q t
noncomputable def cPass (σ : Hp) (q t : Int) : Nat → Hp
  | 0 => σ
  | n + 1 => cStep (cPass σ q t n) q (t + n + 1)
theorem LpO_cSt1 {σ : Hp} {q t : Int} (h : LpO σ q) (ht : 0 ≤ t ∧ t ≤ 999999) : LpO (cSt1 σ q t) q := by
  unfold cSt1
  split
  · exact LpO_p3 h (by omega) (by omega)
  · exact h
theorem LpO_cSt2 {σ : Hp} {q t : Int} (h : LpO σ q) (ht : 0 ≤ t ∧ t ≤ 999999) : LpO (cSt2 σ q t) q := by
  unfold cSt2
  split
  · exact LpO_cTp h ht
  · exact h
theorem LpO_cStep {σ : Hp} {q t : Int} (h : LpO σ q) (ht : 0 ≤ t ∧ t ≤ 999999) : LpO (cStep σ q t) q := LpO_cSt2 (LpO_cSt1 h ht) ht
theorem LpO_cPass {σ : Hp} {q t : Int} (h : LpO σ q) (ht : 0 ≤ t) : ∀ n : Nat, t + n ≤ 999999 → LpO (cPass σ q t n) q
  | 0, _ => h
  | n + 1, hn => LpO_cStep (LpO_cPass h ht n (by omega)) (by omega)
theorem cGo_no {σ : Hp} {p t t' : Int} (h : ¬ cGo σ p t) (ht : t ≤ t') : ¬ cGo σ p t' := by
  unfold cGo at *; omega
theorem cStep_no {σ : Hp} {q t t' : Int} (h : ¬ cBusy σ q t) (hf : cFw σ q ((fI σ 1402 (fR σ 1000 q))).toNat = 0) (ht : t ≤ t') : cStep σ q t' = σ := by
  have e1 : cSt1 σ q t' = σ := by unfold cSt1; rw [if_neg (fun z => z.1 hf)]
  unfold cStep
  rw [e1]
  unfold cSt2
  rw [b2i_f, if_neg (by decide)]
  rintro ⟨j, a, b, c, -⟩
  exact cGo_no (fun z => h ⟨j, a, b, z⟩) ht c
theorem cPass_no {σ : Hp} {q t : Int} {j : Nat} (h : ¬ cBusy (cPass σ q t j) q (t + j + 1)) (hf : cFw (cPass σ q t j) q ((fI (cPass σ q t j) 1402 (fR (cPass σ q t j) 1000 q))).toNat = 0) : ∀ m : Nat, cPass σ q t (j + m) = cPass σ q t j
  | 0 => rfl
  | m + 1 => by
    show cStep (cPass σ q t (j + m)) q (t + ((j + m : Nat) : Int) + 1) = _
    rw [cPass_no h hf m]
    exact cStep_no h hf (by omega)
theorem cFw_in (σ : Hp) (q : Int) : ∀ n : Nat, cFw σ q n = 0 ∨ ∃ k : Nat, k < n ∧ cFw σ q n = (lat σ (fR σ 1000 q) k)
  | 0 => Or.inl rfl
  | n + 1 => by
    unfold cFw
    rcases cFw_in σ q n with h | ⟨k, a, b⟩
    · rw [if_pos h]
      split
      · exact Or.inl rfl
      · exact Or.inr ⟨n, by omega, rfl⟩
    · by_cases c : cFw σ q n = 0
      · rw [if_pos c]
        split
        · exact Or.inl rfl
        · exact Or.inr ⟨n, by omega, rfl⟩
      · rw [if_neg c]; exact Or.inr ⟨k, by omega, b⟩

def sp_X9_letPass : Sp := fun av σ Q => oR av fun this av => oI av fun w av => oI av fun n av => av = [] ∧ kd σ this = 10 ∧ (LpO σ this ∧ (0 ≤ w ∧ 0 ≤ n ∧ w + n ≤ 999999) ∧ Q none (cPass σ this w n.toNat))
theorem us_X9_letPass (this : Int) (w : Int) (n : Int) (σ : Hp) (Q : Option AV → Hp → Prop) : sp_X9_letPass [vr this, vi w, vi n] σ Q = (kd σ this = 10 ∧ (LpO σ this ∧ (0 ≤ w ∧ 0 ≤ n ∧ w + n ≤ 999999) ∧ Q none (cPass σ this w n.toNat))) := propext ⟨fun h => h.2, fun h => ⟨rfl, h⟩⟩
theorem el_X9_letPass {av : List AV} {σ : Hp} {Q : Option AV → Hp → Prop} (h : sp_X9_letPass av σ Q) : ∃ (this : Int) (w : Int) (n : Int), av = [vr this, vi w, vi n] ∧ (kd σ this = 10 ∧ (LpO σ this ∧ (0 ≤ w ∧ 0 ≤ n ∧ w + n ≤ 999999) ∧ Q none (cPass σ this w n.toNat))) := by
  obtain ⟨this, a0, rfl, h0⟩ := oR_s h
  obtain ⟨w, a1, rfl, h1⟩ := oI_s h0
  obtain ⟨n, a2, rfl, h2⟩ := oI_s h1
  obtain ⟨rfl, hz⟩ := h2
  exact ⟨this, w, n, rfl, hz⟩
theorem rc_X9_letPass : ∀ (av : List AV) (σ : Hp) (Q : Option AV → Hp → Prop), sp_X9_letPass av σ Q → ∃ r tl, av = vr r :: tl ∧ kd σ r = 9 + 1 := fun av σ Q h => by
  obtain ⟨this, w, n, rfl, hz, -⟩ := el_X9_letPass h
  exact ⟨this, _, rfl, hz⟩

def tb_X9_letPass : Tab := [(0, .iload_n 1, 1, (0, 0, 0, 0)), (1, .iconst 1, 1, (0, 0, 0, 0)), (2, .iadd, 1, (0, 0, 0, 0)), (3, .istore_n 3, 1, (0, 0, 0, 0)), (4, .iload_n 3, 1, (0, 0, 0, 0)), (5, .iload_n 1, 1, (0, 0, 0, 0)), (6, .iload_n 2, 1, (0, 0, 0, 0)), (7, .iadd, 1, (0, 0, 0, 0)), (8, .if_icmp .gt 79, 3, (0, 0, 0, 0)), (11, .aload_n 0, 1, (0, 0, 0, 0)), (12, .invokevirtual 58, 3, (0, 0, 0, 0)), (15, .astore 4, 2, (0, 0, 0, 0)), (17, .aload_n 0, 1, (0, 0, 0, 0)), (18, .iload_n 3, 1, (0, 0, 0, 0)), (19, .invokevirtual 62, 3, (0, 0, 0, 0)), (22, .istore 5, 2, (0, 0, 0, 0)), (24, .iload 5, 2, (0, 0, 0, 0)), (26, .ifCond .ne 9, 3, (0, 0, 0, 0)), (29, .aload 4, 2, (0, 0, 0, 0)), (31, .ifnonnull 4, 3, (0, 0, 0, 0)), (34, .return_, 1, (0, 0, 0, 0)), (35, .iload 5, 2, (0, 0, 0, 0)), (37, .ifCond .ne 31, 3, (0, 0, 0, 0)), (40, .aload 4, 2, (0, 0, 0, 0)), (42, .ifnull 26, 3, (0, 0, 0, 0)), (45, .iload_n 3, 1, (0, 0, 0, 0)), (46, .aload_n 0, 1, (0, 0, 0, 0)), (47, .getfield 33, 3, (10, 1005, 0, 0)), (50, .isub, 1, (0, 0, 0, 0)), (51, .bipush 7, 2, (0, 0, 0, 0)), (53, .if_icmp .le 15, 3, (0, 0, 0, 0)), (56, .aload 4, 2, (0, 0, 0, 0)), (58, .iconst 0, 1, (0, 0, 0, 0)), (59, .putfield 66, 3, (3, 312, 3, 0)), (62, .aload 4, 2, (0, 0, 0, 0)), (64, .iload_n 3, 1, (0, 0, 0, 0)), (65, .putfield 70, 3, (3, 313, 0, 0)), (68, .aload_n 0, 1, (0, 0, 0, 0)), (69, .iload_n 3, 1, (0, 0, 0, 0)), (70, .invokevirtual 73, 3, (0, 0, 0, 0)), (73, .ifCond .eq 8, 3, (0, 0, 0, 0)), (76, .aload_n 0, 1, (0, 0, 0, 0)), (77, .iload_n 3, 1, (0, 0, 0, 0)), (78, .invokevirtual 76, 3, (0, 0, 0, 0)), (81, .iinc 3 1, 3, (0, 0, 0, 0)), (84, .goto (-80), 3, (0, 0, 0, 0)), (87, .return_, 1, (0, 0, 0, 0))]
set_option maxRecDepth 100000 in
theorem tk_X9_letPass : TOK RX9 false cX9_letPass tb_X9_letPass := chkT_ok ft_X9 (by decide +kernel)
theorem rw_X9_464 : Row RX9 (.invokevirtual 58) 3 1 0 0 4 sp_X9_firstWaiting := row_V (n := 0) (ci := 9) c_X9_firstWaiting ⟨TBL_in 478 (by decide +kernel) rfl, TBL_in 481 (by decide +kernel) rfl, TBL_in 122 (by decide +kernel) rfl, by decide +kernel, by decide⟩ (by decide) rfl (TBL_in 480 (by decide +kernel) rfl) (TBL_in 0 (by decide +kernel) rfl) rc_X9_firstWaiting
theorem rw_X9_496 : Row RX9 (.invokevirtual 62) 3 2 0 0 4 sp_X9_hasOneOn := row_V (n := 1) (ci := 9) c_X9_hasOneOn ⟨TBL_in 501 (by decide +kernel) rfl, TBL_in 504 (by decide +kernel) rfl, TBL_in 122 (by decide +kernel) rfl, by decide +kernel, by decide⟩ (by decide) rfl (TBL_in 503 (by decide +kernel) rfl) (TBL_in 1 (by decide +kernel) rfl) rc_X9_hasOneOn
theorem rw_X9_584 : Row RX9 (.invokevirtual 73) 3 2 0 0 4 sp_X9_isHeard := row_V (n := 1) (ci := 9) c_X9_isHeard ⟨TBL_in 509 (by decide +kernel) rfl, TBL_in 512 (by decide +kernel) rfl, TBL_in 122 (by decide +kernel) rfl, by decide +kernel, by decide⟩ (by decide) rfl (TBL_in 511 (by decide +kernel) rfl) (TBL_in 2 (by decide +kernel) rfl) rc_X9_isHeard
theorem rw_X9_608 : Row RX9 (.invokevirtual 76) 3 2 0 0 1 sp_X9_writeTape := row_V (n := 1) (ci := 9) c_X9_writeTape ⟨TBL_in 521 (by decide +kernel) rfl, TBL_in 524 (by decide +kernel) rfl, TBL_in 122 (by decide +kernel) rfl, by decide +kernel, by decide⟩ (by decide) rfl (TBL_in 523 (by decide +kernel) rfl) (TBL_in 3 (by decide +kernel) rfl) rc_X9_writeTape
def mt_X9_letPass : List (Nat × Mt) := [(464, 1, 0, 0, 4, sp_X9_firstWaiting), (496, 2, 0, 0, 4, sp_X9_hasOneOn), (584, 2, 0, 0, 4, sp_X9_isHeard), (608, 2, 0, 0, 1, sp_X9_writeTape)]
theorem em_X9_letPass : mt_X9_letPass.lookup 464 = some (1, 0, 0, 4, sp_X9_firstWaiting) ∧ mt_X9_letPass.lookup 496 = some (2, 0, 0, 4, sp_X9_hasOneOn) ∧ mt_X9_letPass.lookup 584 = some (2, 0, 0, 4, sp_X9_isHeard) ∧ mt_X9_letPass.lookup 608 = some (2, 0, 0, 1, sp_X9_writeTape) := ⟨rfl, rfl, rfl, rfl⟩
theorem mk_X9_letPass : MOK RX9 mt_X9_letPass := by
  intro q hq
  simp only [mt_X9_letPass, List.mem_cons, List.not_mem_nil, or_false] at hq
  rcases hq with rfl | rfl | rfl | rfl
  · exact rw_X9_464
  · exact rw_X9_496
  · exact rw_X9_584
  · exact rw_X9_608
noncomputable def xe_X9_letPass (ct : Nat → Bool) (K : Kt) (R : Option AV → Hp → Prop) (n : Nat) : Kt := exS 6 5 0 0 0 tb_X9_letPass mt_X9_letPass ct K R n
noncomputable def xk_X9_letPass (ct : Nat → Bool) (K : Kt) (R : Option AV → Hp → Prop) (n : Nat) : Kt := exkS 6 5 0 0 0 tb_X9_letPass mt_X9_letPass ct K R n
theorem xt_X9_letPass {ct : Nat → Bool} {K : Kt} {R : Option AV → Hp → Prop} {n pc : Nat} {ls : List (Option AV)} {st : List AV} {σ : Hp} {k : Nat × Nat} (h : ct pc = true) : xk_X9_letPass ct K R n pc ls st σ k = K pc ls st σ k := by unfold xk_X9_letPass exkS; rw [h]
theorem xf_X9_letPass {ct : Nat → Bool} {K : Kt} {R : Option AV → Hp → Prop} {n pc : Nat} {ls : List (Option AV)} {st : List AV} {σ : Hp} {k : Nat × Nat} (h : ct pc = false) : xk_X9_letPass ct K R n pc ls st σ k = xe_X9_letPass ct K R n pc ls st σ k := by unfold xk_X9_letPass exkS xe_X9_letPass; rw [h]
theorem ev_X9_letPass_0 {ct : Nat → Bool} {K : Kt} {R : Option AV → Hp → Prop} {n : Nat} {ls : List (Option AV)} {st : List AV} {σ : Hp} {k : Nat × Nat} : xe_X9_letPass ct K R (n + 1) 0 ls st σ k = (lI ls 1 fun x => xk_X9_letPass ct K R n 1 ls (vi x :: st) σ k) := exS_step.trans rfl
theorem ev_X9_letPass_1 {ct : Nat → Bool} {K : Kt} {R : Option AV → Hp → Prop} {n : Nat} {ls : List (Option AV)} {st : List AV} {σ : Hp} {k : Nat × Nat} : xe_X9_letPass ct K R (n + 1) 1 ls st σ k = (xk_X9_letPass ct K R n 2 ls (vi (1) :: st) σ k) := exS_step.trans rfl
theorem ev_X9_letPass_2 {ct : Nat → Bool} {K : Kt} {R : Option AV → Hp → Prop} {n : Nat} {ls : List (Option AV)} {st : List AV} {σ : Hp} {k : Nat × Nat} : xe_X9_letPass ct K R (n + 1) 2 ls st σ k = (oI st fun y st => oI st fun x st => xk_X9_letPass ct K R n 3 ls (vi (x + y) :: st) σ k) := exS_step.trans rfl
theorem ev_X9_letPass_3 {ct : Nat → Bool} {K : Kt} {R : Option AV → Hp → Prop} {n : Nat} {ls : List (Option AV)} {st : List AV} {σ : Hp} {k : Nat × Nat} : xe_X9_letPass ct K R (n + 1) 3 ls st σ k = (oI st fun x st => 3 < 6 ∧ xk_X9_letPass ct K R n 4 (stL ls 3 (vi x)) st σ k) := exS_step.trans rfl
theorem ev_X9_letPass_4 {ct : Nat → Bool} {K : Kt} {R : Option AV → Hp → Prop} {n : Nat} {ls : List (Option AV)} {st : List AV} {σ : Hp} {k : Nat × Nat} : xe_X9_letPass ct K R (n + 1) 4 ls st σ k = (lI ls 3 fun x => xk_X9_letPass ct K R n 5 ls (vi x :: st) σ k) := exS_step.trans rfl
theorem ev_X9_letPass_5 {ct : Nat → Bool} {K : Kt} {R : Option AV → Hp → Prop} {n : Nat} {ls : List (Option AV)} {st : List AV} {σ : Hp} {k : Nat × Nat} : xe_X9_letPass ct K R (n + 1) 5 ls st σ k = (lI ls 1 fun x => xk_X9_letPass ct K R n 6 ls (vi x :: st) σ k) := exS_step.trans rfl
theorem ev_X9_letPass_6 {ct : Nat → Bool} {K : Kt} {R : Option AV → Hp → Prop} {n : Nat} {ls : List (Option AV)} {st : List AV} {σ : Hp} {k : Nat × Nat} : xe_X9_letPass ct K R (n + 1) 6 ls st σ k = (lI ls 2 fun x => xk_X9_letPass ct K R n 7 ls (vi x :: st) σ k) := exS_step.trans rfl
theorem ev_X9_letPass_7 {ct : Nat → Bool} {K : Kt} {R : Option AV → Hp → Prop} {n : Nat} {ls : List (Option AV)} {st : List AV} {σ : Hp} {k : Nat × Nat} : xe_X9_letPass ct K R (n + 1) 7 ls st σ k = (oI st fun y st => oI st fun x st => xk_X9_letPass ct K R n 8 ls (vi (x + y) :: st) σ k) := exS_step.trans rfl
theorem ev_X9_letPass_8 {ct : Nat → Bool} {K : Kt} {R : Option AV → Hp → Prop} {n : Nat} {ls : List (Option AV)} {st : List AV} {σ : Hp} {k : Nat × Nat} : xe_X9_letPass ct K R (n + 1) 8 ls st σ k = (oI st fun y st => oI st fun x st => (wI y < wI x → xk_X9_letPass ct K R n 87 ls st σ k) ∧ (¬ (wI y < wI x) → xk_X9_letPass ct K R n 11 ls st σ k)) := exS_step.trans rfl
theorem ev_X9_letPass_11 {ct : Nat → Bool} {K : Kt} {R : Option AV → Hp → Prop} {n : Nat} {ls : List (Option AV)} {st : List AV} {σ : Hp} {k : Nat × Nat} : xe_X9_letPass ct K R (n + 1) 11 ls st σ k = (lR ls 0 fun x => xk_X9_letPass ct K R n 12 ls (vr x :: st) σ k) := exS_step.trans rfl
theorem ev_X9_letPass_12 {ct : Nat → Bool} {K : Kt} {R : Option AV → Hp → Prop} {n : Nat} {ls : List (Option AV)} {st : List AV} {σ : Hp} {k : Nat × Nat} : xe_X9_letPass ct K R (n + 1) 12 ls st σ k = (popN 1 st [] fun av rest => (catS rest ≤ 8 ∧ 4 < 5 ∧ k.1 + 0 ≤ 0 ∧ k.2 + 0 ≤ 0) ∧ (sp_X9_firstWaiting) av σ fun v σ' => xk_X9_letPass ct K R n 15 ls (v.toList ++ rest) σ' (k.1 + 0, k.2 + 0)) := exS_step.trans rfl
theorem ev_X9_letPass_15 {ct : Nat → Bool} {K : Kt} {R : Option AV → Hp → Prop} {n : Nat} {ls : List (Option AV)} {st : List AV} {σ : Hp} {k : Nat × Nat} : xe_X9_letPass ct K R (n + 1) 15 ls st σ k = (oR st fun x st => 4 < 6 ∧ xk_X9_letPass ct K R n 17 (stL ls 4 (vr x)) st σ k) := exS_step.trans rfl
theorem ev_X9_letPass_17 {ct : Nat → Bool} {K : Kt} {R : Option AV → Hp → Prop} {n : Nat} {ls : List (Option AV)} {st : List AV} {σ : Hp} {k : Nat × Nat} : xe_X9_letPass ct K R (n + 1) 17 ls st σ k = (lR ls 0 fun x => xk_X9_letPass ct K R n 18 ls (vr x :: st) σ k) := exS_step.trans rfl
theorem ev_X9_letPass_18 {ct : Nat → Bool} {K : Kt} {R : Option AV → Hp → Prop} {n : Nat} {ls : List (Option AV)} {st : List AV} {σ : Hp} {k : Nat × Nat} : xe_X9_letPass ct K R (n + 1) 18 ls st σ k = (lI ls 3 fun x => xk_X9_letPass ct K R n 19 ls (vi x :: st) σ k) := exS_step.trans rfl
theorem ev_X9_letPass_19 {ct : Nat → Bool} {K : Kt} {R : Option AV → Hp → Prop} {n : Nat} {ls : List (Option AV)} {st : List AV} {σ : Hp} {k : Nat × Nat} : xe_X9_letPass ct K R (n + 1) 19 ls st σ k = (popN 2 st [] fun av rest => (catS rest ≤ 8 ∧ 4 < 5 ∧ k.1 + 0 ≤ 0 ∧ k.2 + 0 ≤ 0) ∧ (sp_X9_hasOneOn) av σ fun v σ' => xk_X9_letPass ct K R n 22 ls (v.toList ++ rest) σ' (k.1 + 0, k.2 + 0)) := exS_step.trans rfl
theorem ev_X9_letPass_22 {ct : Nat → Bool} {K : Kt} {R : Option AV → Hp → Prop} {n : Nat} {ls : List (Option AV)} {st : List AV} {σ : Hp} {k : Nat × Nat} : xe_X9_letPass ct K R (n + 1) 22 ls st σ k = (oI st fun x st => 5 < 6 ∧ xk_X9_letPass ct K R n 24 (stL ls 5 (vi x)) st σ k) := exS_step.trans rfl
theorem ev_X9_letPass_24 {ct : Nat → Bool} {K : Kt} {R : Option AV → Hp → Prop} {n : Nat} {ls : List (Option AV)} {st : List AV} {σ : Hp} {k : Nat × Nat} : xe_X9_letPass ct K R (n + 1) 24 ls st σ k = (lI ls 5 fun x => xk_X9_letPass ct K R n 26 ls (vi x :: st) σ k) := exS_step.trans rfl
theorem ev_X9_letPass_26 {ct : Nat → Bool} {K : Kt} {R : Option AV → Hp → Prop} {n : Nat} {ls : List (Option AV)} {st : List AV} {σ : Hp} {k : Nat × Nat} : xe_X9_letPass ct K R (n + 1) 26 ls st σ k = (oI st fun x st => (¬ wI x = wI 0 → xk_X9_letPass ct K R n 35 ls st σ k) ∧ (¬ (¬ wI x = wI 0) → xk_X9_letPass ct K R n 29 ls st σ k)) := exS_step.trans rfl
theorem ev_X9_letPass_29 {ct : Nat → Bool} {K : Kt} {R : Option AV → Hp → Prop} {n : Nat} {ls : List (Option AV)} {st : List AV} {σ : Hp} {k : Nat × Nat} : xe_X9_letPass ct K R (n + 1) 29 ls st σ k = (lR ls 4 fun x => xk_X9_letPass ct K R n 31 ls (vr x :: st) σ k) := exS_step.trans rfl
theorem ev_X9_letPass_31 {ct : Nat → Bool} {K : Kt} {R : Option AV → Hp → Prop} {n : Nat} {ls : List (Option AV)} {st : List AV} {σ : Hp} {k : Nat × Nat} : xe_X9_letPass ct K R (n + 1) 31 ls st σ k = (oR st fun x st => (¬ x = 0 → xk_X9_letPass ct K R n 35 ls st σ k) ∧ (x = 0 → xk_X9_letPass ct K R n 34 ls st σ k)) := exS_step.trans rfl
theorem ev_X9_letPass_34 {ct : Nat → Bool} {K : Kt} {R : Option AV → Hp → Prop} {n : Nat} {ls : List (Option AV)} {st : List AV} {σ : Hp} {k : Nat × Nat} : xe_X9_letPass ct K R (n + 1) 34 ls st σ k = (st = [] ∧ 0 = 0 ∧ R none σ) := exS_step.trans rfl
theorem ev_X9_letPass_35 {ct : Nat → Bool} {K : Kt} {R : Option AV → Hp → Prop} {n : Nat} {ls : List (Option AV)} {st : List AV} {σ : Hp} {k : Nat × Nat} : xe_X9_letPass ct K R (n + 1) 35 ls st σ k = (lI ls 5 fun x => xk_X9_letPass ct K R n 37 ls (vi x :: st) σ k) := exS_step.trans rfl
theorem ev_X9_letPass_37 {ct : Nat → Bool} {K : Kt} {R : Option AV → Hp → Prop} {n : Nat} {ls : List (Option AV)} {st : List AV} {σ : Hp} {k : Nat × Nat} : xe_X9_letPass ct K R (n + 1) 37 ls st σ k = (oI st fun x st => (¬ wI x = wI 0 → xk_X9_letPass ct K R n 68 ls st σ k) ∧ (¬ (¬ wI x = wI 0) → xk_X9_letPass ct K R n 40 ls st σ k)) := exS_step.trans rfl
theorem ev_X9_letPass_40 {ct : Nat → Bool} {K : Kt} {R : Option AV → Hp → Prop} {n : Nat} {ls : List (Option AV)} {st : List AV} {σ : Hp} {k : Nat × Nat} : xe_X9_letPass ct K R (n + 1) 40 ls st σ k = (lR ls 4 fun x => xk_X9_letPass ct K R n 42 ls (vr x :: st) σ k) := exS_step.trans rfl
theorem ev_X9_letPass_42 {ct : Nat → Bool} {K : Kt} {R : Option AV → Hp → Prop} {n : Nat} {ls : List (Option AV)} {st : List AV} {σ : Hp} {k : Nat × Nat} : xe_X9_letPass ct K R (n + 1) 42 ls st σ k = (oR st fun x st => (x = 0 → xk_X9_letPass ct K R n 68 ls st σ k) ∧ (¬ x = 0 → xk_X9_letPass ct K R n 45 ls st σ k)) := exS_step.trans rfl
theorem ev_X9_letPass_45 {ct : Nat → Bool} {K : Kt} {R : Option AV → Hp → Prop} {n : Nat} {ls : List (Option AV)} {st : List AV} {σ : Hp} {k : Nat × Nat} : xe_X9_letPass ct K R (n + 1) 45 ls st σ k = (lI ls 3 fun x => xk_X9_letPass ct K R n 46 ls (vi x :: st) σ k) := exS_step.trans rfl
theorem ev_X9_letPass_46 {ct : Nat → Bool} {K : Kt} {R : Option AV → Hp → Prop} {n : Nat} {ls : List (Option AV)} {st : List AV} {σ : Hp} {k : Nat × Nat} : xe_X9_letPass ct K R (n + 1) 46 ls st σ k = (lR ls 0 fun x => xk_X9_letPass ct K R n 47 ls (vr x :: st) σ k) := exS_step.trans rfl
theorem ev_X9_letPass_47 {ct : Nat → Bool} {K : Kt} {R : Option AV → Hp → Prop} {n : Nat} {ls : List (Option AV)} {st : List AV} {σ : Hp} {k : Nat × Nat} : xe_X9_letPass ct K R (n + 1) 47 ls st σ k = (oR st fun x st => kd σ x = 10 ∧ xk_X9_letPass ct K R n 50 ls (vi (fI σ 1005 x) :: st) σ k) := exS_step.trans rfl
theorem ev_X9_letPass_50 {ct : Nat → Bool} {K : Kt} {R : Option AV → Hp → Prop} {n : Nat} {ls : List (Option AV)} {st : List AV} {σ : Hp} {k : Nat × Nat} : xe_X9_letPass ct K R (n + 1) 50 ls st σ k = (oI st fun y st => oI st fun x st => xk_X9_letPass ct K R n 51 ls (vi (x - y) :: st) σ k) := exS_step.trans rfl
theorem ev_X9_letPass_51 {ct : Nat → Bool} {K : Kt} {R : Option AV → Hp → Prop} {n : Nat} {ls : List (Option AV)} {st : List AV} {σ : Hp} {k : Nat × Nat} : xe_X9_letPass ct K R (n + 1) 51 ls st σ k = (xk_X9_letPass ct K R n 53 ls (vi (7) :: st) σ k) := exS_step.trans rfl
theorem ev_X9_letPass_53 {ct : Nat → Bool} {K : Kt} {R : Option AV → Hp → Prop} {n : Nat} {ls : List (Option AV)} {st : List AV} {σ : Hp} {k : Nat × Nat} : xe_X9_letPass ct K R (n + 1) 53 ls st σ k = (oI st fun y st => oI st fun x st => (wI x ≤ wI y → xk_X9_letPass ct K R n 68 ls st σ k) ∧ (¬ (wI x ≤ wI y) → xk_X9_letPass ct K R n 56 ls st σ k)) := exS_step.trans rfl
theorem ev_X9_letPass_56 {ct : Nat → Bool} {K : Kt} {R : Option AV → Hp → Prop} {n : Nat} {ls : List (Option AV)} {st : List AV} {σ : Hp} {k : Nat × Nat} : xe_X9_letPass ct K R (n + 1) 56 ls st σ k = (lR ls 4 fun x => xk_X9_letPass ct K R n 58 ls (vr x :: st) σ k) := exS_step.trans rfl
theorem ev_X9_letPass_58 {ct : Nat → Bool} {K : Kt} {R : Option AV → Hp → Prop} {n : Nat} {ls : List (Option AV)} {st : List AV} {σ : Hp} {k : Nat × Nat} : xe_X9_letPass ct K R (n + 1) 58 ls st σ k = (xk_X9_letPass ct K R n 59 ls (vi (0) :: st) σ k) := exS_step.trans rfl
theorem ev_X9_letPass_59 {ct : Nat → Bool} {K : Kt} {R : Option AV → Hp → Prop} {n : Nat} {ls : List (Option AV)} {st : List AV} {σ : Hp} {k : Nat × Nat} : xe_X9_letPass ct K R (n + 1) 59 ls st σ k = (oI st fun v st => oR st fun x st => kd σ x = 3 ∧ (v = 0 ∨ v = 1) ∧ xk_X9_letPass ct K R n 62 ls st (pI σ 312 x v) k) := exS_step.trans rfl
theorem ev_X9_letPass_62 {ct : Nat → Bool} {K : Kt} {R : Option AV → Hp → Prop} {n : Nat} {ls : List (Option AV)} {st : List AV} {σ : Hp} {k : Nat × Nat} : xe_X9_letPass ct K R (n + 1) 62 ls st σ k = (lR ls 4 fun x => xk_X9_letPass ct K R n 64 ls (vr x :: st) σ k) := exS_step.trans rfl
theorem ev_X9_letPass_64 {ct : Nat → Bool} {K : Kt} {R : Option AV → Hp → Prop} {n : Nat} {ls : List (Option AV)} {st : List AV} {σ : Hp} {k : Nat × Nat} : xe_X9_letPass ct K R (n + 1) 64 ls st σ k = (lI ls 3 fun x => xk_X9_letPass ct K R n 65 ls (vi x :: st) σ k) := exS_step.trans rfl
theorem ev_X9_letPass_65 {ct : Nat → Bool} {K : Kt} {R : Option AV → Hp → Prop} {n : Nat} {ls : List (Option AV)} {st : List AV} {σ : Hp} {k : Nat × Nat} : xe_X9_letPass ct K R (n + 1) 65 ls st σ k = (oI st fun v st => oR st fun x st => kd σ x = 3 ∧ xk_X9_letPass ct K R n 68 ls st (pI σ 313 x v) k) := exS_step.trans rfl
theorem ev_X9_letPass_68 {ct : Nat → Bool} {K : Kt} {R : Option AV → Hp → Prop} {n : Nat} {ls : List (Option AV)} {st : List AV} {σ : Hp} {k : Nat × Nat} : xe_X9_letPass ct K R (n + 1) 68 ls st σ k = (lR ls 0 fun x => xk_X9_letPass ct K R n 69 ls (vr x :: st) σ k) := exS_step.trans rfl
theorem ev_X9_letPass_69 {ct : Nat → Bool} {K : Kt} {R : Option AV → Hp → Prop} {n : Nat} {ls : List (Option AV)} {st : List AV} {σ : Hp} {k : Nat × Nat} : xe_X9_letPass ct K R (n + 1) 69 ls st σ k = (lI ls 3 fun x => xk_X9_letPass ct K R n 70 ls (vi x :: st) σ k) := exS_step.trans rfl
theorem ev_X9_letPass_70 {ct : Nat → Bool} {K : Kt} {R : Option AV → Hp → Prop} {n : Nat} {ls : List (Option AV)} {st : List AV} {σ : Hp} {k : Nat × Nat} : xe_X9_letPass ct K R (n + 1) 70 ls st σ k = (popN 2 st [] fun av rest => (catS rest ≤ 8 ∧ 4 < 5 ∧ k.1 + 0 ≤ 0 ∧ k.2 + 0 ≤ 0) ∧ (sp_X9_isHeard) av σ fun v σ' => xk_X9_letPass ct K R n 73 ls (v.toList ++ rest) σ' (k.1 + 0, k.2 + 0)) := exS_step.trans rfl
theorem ev_X9_letPass_73 {ct : Nat → Bool} {K : Kt} {R : Option AV → Hp → Prop} {n : Nat} {ls : List (Option AV)} {st : List AV} {σ : Hp} {k : Nat × Nat} : xe_X9_letPass ct K R (n + 1) 73 ls st σ k = (oI st fun x st => (wI x = wI 0 → xk_X9_letPass ct K R n 81 ls st σ k) ∧ (¬ (wI x = wI 0) → xk_X9_letPass ct K R n 76 ls st σ k)) := exS_step.trans rfl
theorem ev_X9_letPass_76 {ct : Nat → Bool} {K : Kt} {R : Option AV → Hp → Prop} {n : Nat} {ls : List (Option AV)} {st : List AV} {σ : Hp} {k : Nat × Nat} : xe_X9_letPass ct K R (n + 1) 76 ls st σ k = (lR ls 0 fun x => xk_X9_letPass ct K R n 77 ls (vr x :: st) σ k) := exS_step.trans rfl
theorem ev_X9_letPass_77 {ct : Nat → Bool} {K : Kt} {R : Option AV → Hp → Prop} {n : Nat} {ls : List (Option AV)} {st : List AV} {σ : Hp} {k : Nat × Nat} : xe_X9_letPass ct K R (n + 1) 77 ls st σ k = (lI ls 3 fun x => xk_X9_letPass ct K R n 78 ls (vi x :: st) σ k) := exS_step.trans rfl
theorem ev_X9_letPass_78 {ct : Nat → Bool} {K : Kt} {R : Option AV → Hp → Prop} {n : Nat} {ls : List (Option AV)} {st : List AV} {σ : Hp} {k : Nat × Nat} : xe_X9_letPass ct K R (n + 1) 78 ls st σ k = (popN 2 st [] fun av rest => (catS rest ≤ 8 ∧ 1 < 5 ∧ k.1 + 0 ≤ 0 ∧ k.2 + 0 ≤ 0) ∧ (sp_X9_writeTape) av σ fun v σ' => xk_X9_letPass ct K R n 81 ls (v.toList ++ rest) σ' (k.1 + 0, k.2 + 0)) := exS_step.trans rfl
theorem ev_X9_letPass_81 {ct : Nat → Bool} {K : Kt} {R : Option AV → Hp → Prop} {n : Nat} {ls : List (Option AV)} {st : List AV} {σ : Hp} {k : Nat × Nat} : xe_X9_letPass ct K R (n + 1) 81 ls st σ k = (lI ls 3 fun x => 3 < 6 ∧ xk_X9_letPass ct K R n 84 (stL ls 3 (vi (x + (1)))) st σ k) := exS_step.trans rfl
theorem ev_X9_letPass_84 {ct : Nat → Bool} {K : Kt} {R : Option AV → Hp → Prop} {n : Nat} {ls : List (Option AV)} {st : List AV} {σ : Hp} {k : Nat × Nat} : xe_X9_letPass ct K R (n + 1) 84 ls st σ k = (xk_X9_letPass ct K R n 4 ls st σ k) := exS_step.trans rfl
theorem ev_X9_letPass_87 {ct : Nat → Bool} {K : Kt} {R : Option AV → Hp → Prop} {n : Nat} {ls : List (Option AV)} {st : List AV} {σ : Hp} {k : Nat × Nat} : xe_X9_letPass ct K R (n + 1) 87 ls st σ k = (st = [] ∧ 0 = 0 ∧ R none σ) := exS_step.trans rfl
def M_X9_letPass : Md := (yX9_letPass, cX9_letPass, 6, (none : Option FieldType), 5, 0, 0, 0, false, tb_X9_letPass, mt_X9_letPass)
theorem mm_X9_letPass : MMOK M_X9_letPass := ⟨by decide +kernel, tk_X9_letPass, mk_X9_letPass, rfl, fun h => by cases h⟩
theorem go_X9_letPass {Q : Option AV → Hp → Prop} {ct : Nat → Bool} {pc : Nat} {ls : List (Option AV)} {st : List AV} {σ : Hp} {k : Nat × Nat} (n : Nat) (h : xe_X9_letPass ct (Go M_X9_letPass Q) Q n pc ls st σ k) : Go M_X9_letPass Q pc ls st σ k := Go.exS mm_X9_letPass h

set_option maxRecDepth 20000 in
theorem lp_68 {Q : Option AV → Hp → Prop} {ρ : Hp} {q w n t : Int} {a4 a5 : Option AV} (hL : LpO ρ q) (ht : 0 ≤ t ∧ t ≤ 999999) (h : ∀ a4 a5, Go M_X9_letPass Q 4 [some (vr q), some (vi w), some (vi n), some (vi (t + 1)), a4, a5] [] (cSt2 ρ q t) (0, 0)) : Go M_X9_letPass Q 68 [some (vr q), some (vi w), some (vi n), some (vi t), a4, a5] [] ρ (0, 0) := by
  have h := h a4 a5
  have hk := hL.k
  obtain ⟨-, -, -, -, -, h6, -, -, h9, h10, -⟩ := id hL
  unfold cSt2 at h
  by_cases c : cHear ρ q t
  · rw [b2i_t c, if_pos rfl] at h
    refine go_X9_letPass (ct := fun p => p == 4) 40 ?_
    simp only [oI, oL, oR, o1, lI, lL, lR, popN, catS, gv, stL, stL2, swt, cnd, spObj, List.getElem?_cons_zero, List.getElem?_cons_succ, List.getD_cons_zero, List.getD_cons_succ, List.set_cons_zero, List.set_cons_succ, List.nil_append, List.cons_append, Option.toList, Bool.or_false, Bool.false_or, Bool.or_true, Bool.true_or, Nat.reduceBEq, Nat.reduceAdd, Nat.reduceLT, Nat.reduceLeDiff, Int.reduceAdd, Int.reduceToNat, true_and, and_true, Fin.isValue, Fin.val_zero, Fin.val_one, Fin.val_two, Fin.reduceFinMk, eq_self, Int.reduceNeg, imp_self, Nat.reduceMul, Nat.le_refl, not_true_eq_false, not_false_eq_true, List.getElem?_nil, reduceCtorEq, true_or, or_true, Classical.not_not, implies_true, or_self, wI_0, wI_1, wI_m1, b2i_w, b2i_eq0, b2i_eq1, b2i_bool, nor_self, nx_pI, kd_pI, ln_pI, fI_pI, fL_pI, fR_pI, aI_pI, aL_pI, aR_pI, nx_pL, kd_pL, ln_pL, fI_pL, fL_pL, fR_pL, aI_pL, aL_pL, aR_pL, nx_pR, kd_pR, ln_pR, fI_pR, fL_pR, fR_pR, aI_pR, aL_pR, aR_pR, nx_qI, kd_qI, ln_qI, fI_qI, fL_qI, fR_qI, aI_qI, aL_qI, aR_qI, nx_qL, kd_qL, ln_qL, fI_qL, fL_qL, fR_qL, aI_qL, aL_qL, aR_qL, nx_qR, kd_qR, ln_qR, fI_qR, fL_qR, fR_qR, aI_qR, aL_qR, aR_qR, nx_mk, kd_mk, ln_mk, fI_mk, fL_mk, fR_mk, aI_mk, aL_mk, aR_mk, false_and, and_false, if_false, if_true, and_self, Int.reduceEq, Nat.reduceEqDiff, ite_self, MLay_pI, MLay_pL, MLay_qI, MLay_qL, ev_X9_letPass_68, ev_X9_letPass_69, ev_X9_letPass_70, ev_X9_letPass_73, ev_X9_letPass_76, ev_X9_letPass_77, ev_X9_letPass_78, ev_X9_letPass_81, ev_X9_letPass_84, xt_X9_letPass, xf_X9_letPass, us_X9_firstWaiting, us_X9_hasOneOn, us_X9_isHeard, us_X9_writeTape, hk, hL, h6, h9, h10, c]
    repeat' (first | intro z | apply And.intro)
    all_goals try omega
    all_goals try contradiction
    all_goals exact h
  · rw [b2i_f c, if_neg (by decide)] at h
    refine go_X9_letPass (ct := fun p => p == 4 || p == 76) 40 ?_
    simp only [oI, oL, oR, o1, lI, lL, lR, popN, catS, gv, stL, stL2, swt, cnd, spObj, List.getElem?_cons_zero, List.getElem?_cons_succ, List.getD_cons_zero, List.getD_cons_succ, List.set_cons_zero, List.set_cons_succ, List.nil_append, List.cons_append, Option.toList, Bool.or_false, Bool.false_or, Bool.or_true, Bool.true_or, Nat.reduceBEq, Nat.reduceAdd, Nat.reduceLT, Nat.reduceLeDiff, Int.reduceAdd, Int.reduceToNat, true_and, and_true, Fin.isValue, Fin.val_zero, Fin.val_one, Fin.val_two, Fin.reduceFinMk, eq_self, Int.reduceNeg, imp_self, Nat.reduceMul, Nat.le_refl, not_true_eq_false, not_false_eq_true, List.getElem?_nil, reduceCtorEq, true_or, or_true, Classical.not_not, implies_true, or_self, wI_0, wI_1, wI_m1, b2i_w, b2i_eq0, b2i_eq1, b2i_bool, nor_self, nx_pI, kd_pI, ln_pI, fI_pI, fL_pI, fR_pI, aI_pI, aL_pI, aR_pI, nx_pL, kd_pL, ln_pL, fI_pL, fL_pL, fR_pL, aI_pL, aL_pL, aR_pL, nx_pR, kd_pR, ln_pR, fI_pR, fL_pR, fR_pR, aI_pR, aL_pR, aR_pR, nx_qI, kd_qI, ln_qI, fI_qI, fL_qI, fR_qI, aI_qI, aL_qI, aR_qI, nx_qL, kd_qL, ln_qL, fI_qL, fL_qL, fR_qL, aI_qL, aL_qL, aR_qL, nx_qR, kd_qR, ln_qR, fI_qR, fL_qR, fR_qR, aI_qR, aL_qR, aR_qR, nx_mk, kd_mk, ln_mk, fI_mk, fL_mk, fR_mk, aI_mk, aL_mk, aR_mk, false_and, and_false, if_false, if_true, and_self, Int.reduceEq, Nat.reduceEqDiff, ite_self, MLay_pI, MLay_pL, MLay_qI, MLay_qL, ev_X9_letPass_68, ev_X9_letPass_69, ev_X9_letPass_70, ev_X9_letPass_73, ev_X9_letPass_76, ev_X9_letPass_77, ev_X9_letPass_78, ev_X9_letPass_81, ev_X9_letPass_84, xt_X9_letPass, xf_X9_letPass, us_X9_firstWaiting, us_X9_hasOneOn, us_X9_isHeard, us_X9_writeTape, hk, hL, c]
    repeat' (first | intro z | apply And.intro)
    all_goals try omega
    all_goals try contradiction
    all_goals exact h

set_option maxRecDepth 20000 in
theorem c_X9_letPass : Ct yX9_letPass cX9_letPass 6 ((none : Option FieldType)) 5 0 0 sp_X9_letPass := by
  refine Ct.go (M := M_X9_letPass) mm_X9_letPass fun av σ Q h0 => ?_
  obtain ⟨this, w, n, rfl, hk, h⟩ := el_X9_letPass h0
  clear h0
  refine ⟨Nat.le_of_ble_eq_true rfl, ?_⟩
  show Go M_X9_letPass Q 0 [some (vr this), some (vi w), some (vi n), none, none, none] [] σ (0, 0)
  obtain ⟨hL, hw, h⟩ := h
  have loop : ∀ (m j : Nat) (a4 a5 : Option AV), (j : Int) + m = n → Go M_X9_letPass Q 4 [some (vr this), some (vi w), some (vi n), some (vi (w + j + 1)), a4, a5] [] (cPass σ this w j) (0, 0) := by
    intro m
    induction m with
    | zero =>
      intro j a4 a5 hj
      have e : n.toNat = j := by omega
      rw [e] at h
      clear hL
      refine go_X9_letPass (ct := fun p => p == 11) 40 ?_
      simp only [oI, oL, oR, o1, lI, lL, lR, popN, catS, gv, stL, stL2, swt, cnd, spObj, List.getElem?_cons_zero, List.getElem?_cons_succ, List.getD_cons_zero, List.getD_cons_succ, List.set_cons_zero, List.set_cons_succ, List.nil_append, List.cons_append, Option.toList, Bool.or_false, Bool.false_or, Bool.or_true, Bool.true_or, Nat.reduceBEq, Nat.reduceAdd, Nat.reduceLT, Nat.reduceLeDiff, Int.reduceAdd, Int.reduceToNat, true_and, and_true, Fin.isValue, Fin.val_zero, Fin.val_one, Fin.val_two, Fin.reduceFinMk, eq_self, Int.reduceNeg, imp_self, Nat.reduceMul, Nat.le_refl, not_true_eq_false, not_false_eq_true, List.getElem?_nil, reduceCtorEq, true_or, or_true, Classical.not_not, implies_true, or_self, wI_0, wI_1, wI_m1, b2i_w, b2i_eq0, b2i_eq1, b2i_bool, nor_self, nx_pI, kd_pI, ln_pI, fI_pI, fL_pI, fR_pI, aI_pI, aL_pI, aR_pI, nx_pL, kd_pL, ln_pL, fI_pL, fL_pL, fR_pL, aI_pL, aL_pL, aR_pL, nx_pR, kd_pR, ln_pR, fI_pR, fL_pR, fR_pR, aI_pR, aL_pR, aR_pR, nx_qI, kd_qI, ln_qI, fI_qI, fL_qI, fR_qI, aI_qI, aL_qI, aR_qI, nx_qL, kd_qL, ln_qL, fI_qL, fL_qL, fR_qL, aI_qL, aL_qL, aR_qL, nx_qR, kd_qR, ln_qR, fI_qR, fL_qR, fR_qR, aI_qR, aL_qR, aR_qR, nx_mk, kd_mk, ln_mk, fI_mk, fL_mk, fR_mk, aI_mk, aL_mk, aR_mk, false_and, and_false, if_false, if_true, and_self, Int.reduceEq, Nat.reduceEqDiff, ite_self, MLay_pI, MLay_pL, MLay_qI, MLay_qL, ev_X9_letPass_4, ev_X9_letPass_5, ev_X9_letPass_6, ev_X9_letPass_7, ev_X9_letPass_8, ev_X9_letPass_87, xt_X9_letPass, xf_X9_letPass, us_X9_firstWaiting, us_X9_hasOneOn, us_X9_isHeard, us_X9_writeTape]
      try simp (disch := omega) only [wI_id, dv_nn, rm_nn]
      repeat' (first | intro z | apply And.intro)
      all_goals try omega
      all_goals try contradiction
      all_goals exact h
    | succ m ih =>
      intro j a4 a5 hj
      have hLt := LpO_cPass hL hw.1 j (by omega)
      have ih := fun a4 a5 => ih (j + 1) a4 a5 (by omega)
      have hst := cPass_no (σ := σ) (q := this) (t := w) (j := j)
      have e : ∀ j : Nat, cPass σ this w (j + 1) = cStep (cPass σ this w j) this (w + j + 1) := fun j => rfl
      simp only [e] at ih
      unfold cStep at ih
      generalize hτ : cPass σ this w j = τ at *
      generalize ht : w + (j : Int) + 1 = t at *
      have ht2 : 0 ≤ t ∧ t ≤ 999999 := by omega
      have ih2 : ∀ a4 a5, Go M_X9_letPass Q 4 [some (vr this), some (vi w), some (vi n), some (vi (t + 1)), a4, a5] [] (cSt2 (cSt1 τ this t) this t) (0, 0) := fun a4 a5 => by
        have := ih a4 a5
        rw [show w + ((j + 1 : Nat) : Int) + 1 = t + 1 by omega] at this
        exact this
      have hkt := hLt.k
      have hl := hLt.2.2.2.2.2.2.2.2.2.2.1
      have h68 := fun a4 a5 => lp_68 (a4 := a4) (a5 := a5) (Q := Q) (LpO_cSt1 hLt ht2) ht2 ih2
      have hfp : cFw τ this ((fI τ 1402 (fR τ 1000 this))).toNat = 0 ∨ kd τ (cFw τ this ((fI τ 1402 (fR τ 1000 this))).toNat) = 3 := by
        rcases cFw_in τ this ((fI τ 1402 (fR τ 1000 this))).toNat with z | ⟨k, a, b⟩
        · exact Or.inl z
        · rw [b]; exact Or.inr (hLt.bk (by omega) (by omega))
      unfold cSt1 at h68
      clear ih ih2
      by_cases cb : cBusy τ this t
      · rw [b2i_t cb, if_neg (by omega)] at h68
        clear h hst
        refine go_X9_letPass (ct := fun p => p == 87 || p == 68 || p == 34 || p == 40) 40 ?_
        simp only [oI, oL, oR, o1, lI, lL, lR, popN, catS, gv, stL, stL2, swt, cnd, spObj, List.getElem?_cons_zero, List.getElem?_cons_succ, List.getD_cons_zero, List.getD_cons_succ, List.set_cons_zero, List.set_cons_succ, List.nil_append, List.cons_append, Option.toList, Bool.or_false, Bool.false_or, Bool.or_true, Bool.true_or, Nat.reduceBEq, Nat.reduceAdd, Nat.reduceLT, Nat.reduceLeDiff, Int.reduceAdd, Int.reduceToNat, true_and, and_true, Fin.isValue, Fin.val_zero, Fin.val_one, Fin.val_two, Fin.reduceFinMk, eq_self, Int.reduceNeg, imp_self, Nat.reduceMul, Nat.le_refl, not_true_eq_false, not_false_eq_true, List.getElem?_nil, reduceCtorEq, true_or, or_true, Classical.not_not, implies_true, or_self, wI_0, wI_1, wI_m1, b2i_w, b2i_eq0, b2i_eq1, b2i_bool, nor_self, nx_pI, kd_pI, ln_pI, fI_pI, fL_pI, fR_pI, aI_pI, aL_pI, aR_pI, nx_pL, kd_pL, ln_pL, fI_pL, fL_pL, fR_pL, aI_pL, aL_pL, aR_pL, nx_pR, kd_pR, ln_pR, fI_pR, fL_pR, fR_pR, aI_pR, aL_pR, aR_pR, nx_qI, kd_qI, ln_qI, fI_qI, fL_qI, fR_qI, aI_qI, aL_qI, aR_qI, nx_qL, kd_qL, ln_qL, fI_qL, fL_qL, fR_qL, aI_qL, aL_qL, aR_qL, nx_qR, kd_qR, ln_qR, fI_qR, fL_qR, fR_qR, aI_qR, aL_qR, aR_qR, nx_mk, kd_mk, ln_mk, fI_mk, fL_mk, fR_mk, aI_mk, aL_mk, aR_mk, false_and, and_false, if_false, if_true, and_self, Int.reduceEq, Nat.reduceEqDiff, ite_self, MLay_pI, MLay_pL, MLay_qI, MLay_qL, ev_X9_letPass_4, ev_X9_letPass_5, ev_X9_letPass_6, ev_X9_letPass_7, ev_X9_letPass_8, ev_X9_letPass_11, ev_X9_letPass_12, ev_X9_letPass_15, ev_X9_letPass_17, ev_X9_letPass_18, ev_X9_letPass_19, ev_X9_letPass_22, ev_X9_letPass_24, ev_X9_letPass_26, ev_X9_letPass_29, ev_X9_letPass_31, ev_X9_letPass_34, ev_X9_letPass_35, ev_X9_letPass_37, xt_X9_letPass, xf_X9_letPass, us_X9_firstWaiting, us_X9_hasOneOn, us_X9_isHeard, us_X9_writeTape, hkt, hLt, cb]
        try simp (disch := omega) only [wI_id, dv_nn, rm_nn]
        repeat' (first | intro z | apply And.intro)
        all_goals try omega
        all_goals try contradiction
        all_goals first | exact h68 _ _ | omega
      · by_cases cf : cFw τ this ((fI τ 1402 (fR τ 1000 this))).toNat = 0
        · have e2 := hst cb cf (m + 1)
          rw [show j + (m + 1) = n.toNat by omega] at e2
          rw [e2] at h
          clear h68 hst
          refine go_X9_letPass (ct := fun p => p == 87 || p == 68 || p == 35) 40 ?_
          simp only [oI, oL, oR, o1, lI, lL, lR, popN, catS, gv, stL, stL2, swt, cnd, spObj, List.getElem?_cons_zero, List.getElem?_cons_succ, List.getD_cons_zero, List.getD_cons_succ, List.set_cons_zero, List.set_cons_succ, List.nil_append, List.cons_append, Option.toList, Bool.or_false, Bool.false_or, Bool.or_true, Bool.true_or, Nat.reduceBEq, Nat.reduceAdd, Nat.reduceLT, Nat.reduceLeDiff, Int.reduceAdd, Int.reduceToNat, true_and, and_true, Fin.isValue, Fin.val_zero, Fin.val_one, Fin.val_two, Fin.reduceFinMk, eq_self, Int.reduceNeg, imp_self, Nat.reduceMul, Nat.le_refl, not_true_eq_false, not_false_eq_true, List.getElem?_nil, reduceCtorEq, true_or, or_true, Classical.not_not, implies_true, or_self, wI_0, wI_1, wI_m1, b2i_w, b2i_eq0, b2i_eq1, b2i_bool, nor_self, nx_pI, kd_pI, ln_pI, fI_pI, fL_pI, fR_pI, aI_pI, aL_pI, aR_pI, nx_pL, kd_pL, ln_pL, fI_pL, fL_pL, fR_pL, aI_pL, aL_pL, aR_pL, nx_pR, kd_pR, ln_pR, fI_pR, fL_pR, fR_pR, aI_pR, aL_pR, aR_pR, nx_qI, kd_qI, ln_qI, fI_qI, fL_qI, fR_qI, aI_qI, aL_qI, aR_qI, nx_qL, kd_qL, ln_qL, fI_qL, fL_qL, fR_qL, aI_qL, aL_qL, aR_qL, nx_qR, kd_qR, ln_qR, fI_qR, fL_qR, fR_qR, aI_qR, aL_qR, aR_qR, nx_mk, kd_mk, ln_mk, fI_mk, fL_mk, fR_mk, aI_mk, aL_mk, aR_mk, false_and, and_false, if_false, if_true, and_self, Int.reduceEq, Nat.reduceEqDiff, ite_self, MLay_pI, MLay_pL, MLay_qI, MLay_qL, ev_X9_letPass_4, ev_X9_letPass_5, ev_X9_letPass_6, ev_X9_letPass_7, ev_X9_letPass_8, ev_X9_letPass_11, ev_X9_letPass_12, ev_X9_letPass_15, ev_X9_letPass_17, ev_X9_letPass_18, ev_X9_letPass_19, ev_X9_letPass_22, ev_X9_letPass_24, ev_X9_letPass_26, ev_X9_letPass_29, ev_X9_letPass_31, ev_X9_letPass_34, xt_X9_letPass, xf_X9_letPass, us_X9_firstWaiting, us_X9_hasOneOn, us_X9_isHeard, us_X9_writeTape, hkt, hLt, cb, cf]
          try simp (disch := omega) only [wI_id, dv_nn, rm_nn]
          repeat' (first | intro z | apply And.intro)
          all_goals try omega
          all_goals try contradiction
          all_goals exact h
        · have hfp := hfp.resolve_left cf
          by_cases cl : 7 < t - fI τ 1005 this
          · rw [b2i_f cb, if_pos ⟨cf, rfl, cl⟩] at h68
            clear h hst
            refine go_X9_letPass (ct := fun p => p == 87 || p == 68 || p == 34) 60 ?_
            simp only [oI, oL, oR, o1, lI, lL, lR, popN, catS, gv, stL, stL2, swt, cnd, spObj, List.getElem?_cons_zero, List.getElem?_cons_succ, List.getD_cons_zero, List.getD_cons_succ, List.set_cons_zero, List.set_cons_succ, List.nil_append, List.cons_append, Option.toList, Bool.or_false, Bool.false_or, Bool.or_true, Bool.true_or, Nat.reduceBEq, Nat.reduceAdd, Nat.reduceLT, Nat.reduceLeDiff, Int.reduceAdd, Int.reduceToNat, true_and, and_true, Fin.isValue, Fin.val_zero, Fin.val_one, Fin.val_two, Fin.reduceFinMk, eq_self, Int.reduceNeg, imp_self, Nat.reduceMul, Nat.le_refl, not_true_eq_false, not_false_eq_true, List.getElem?_nil, reduceCtorEq, true_or, or_true, Classical.not_not, implies_true, or_self, wI_0, wI_1, wI_m1, b2i_w, b2i_eq0, b2i_eq1, b2i_bool, nor_self, nx_pI, kd_pI, ln_pI, fI_pI, fL_pI, fR_pI, aI_pI, aL_pI, aR_pI, nx_pL, kd_pL, ln_pL, fI_pL, fL_pL, fR_pL, aI_pL, aL_pL, aR_pL, nx_pR, kd_pR, ln_pR, fI_pR, fL_pR, fR_pR, aI_pR, aL_pR, aR_pR, nx_qI, kd_qI, ln_qI, fI_qI, fL_qI, fR_qI, aI_qI, aL_qI, aR_qI, nx_qL, kd_qL, ln_qL, fI_qL, fL_qL, fR_qL, aI_qL, aL_qL, aR_qL, nx_qR, kd_qR, ln_qR, fI_qR, fL_qR, fR_qR, aI_qR, aL_qR, aR_qR, nx_mk, kd_mk, ln_mk, fI_mk, fL_mk, fR_mk, aI_mk, aL_mk, aR_mk, false_and, and_false, if_false, if_true, and_self, Int.reduceEq, Nat.reduceEqDiff, ite_self, MLay_pI, MLay_pL, MLay_qI, MLay_qL, ev_X9_letPass_4, ev_X9_letPass_5, ev_X9_letPass_6, ev_X9_letPass_7, ev_X9_letPass_8, ev_X9_letPass_11, ev_X9_letPass_12, ev_X9_letPass_15, ev_X9_letPass_17, ev_X9_letPass_18, ev_X9_letPass_19, ev_X9_letPass_22, ev_X9_letPass_24, ev_X9_letPass_26, ev_X9_letPass_29, ev_X9_letPass_31, ev_X9_letPass_34, ev_X9_letPass_35, ev_X9_letPass_37, ev_X9_letPass_40, ev_X9_letPass_42, ev_X9_letPass_45, ev_X9_letPass_46, ev_X9_letPass_47, ev_X9_letPass_50, ev_X9_letPass_51, ev_X9_letPass_53, ev_X9_letPass_56, ev_X9_letPass_58, ev_X9_letPass_59, ev_X9_letPass_62, ev_X9_letPass_64, ev_X9_letPass_65, xt_X9_letPass, xf_X9_letPass, us_X9_firstWaiting, us_X9_hasOneOn, us_X9_isHeard, us_X9_writeTape, hkt, hLt, cb, cf, hfp]
            try simp (disch := omega) only [wI_id, dv_nn, rm_nn]
            repeat' (first | intro z | apply And.intro)
            all_goals try omega
            all_goals try contradiction
            all_goals exact h68 _ _
          · rw [if_neg (fun z => cl z.2.2)] at h68
            clear h hst
            refine go_X9_letPass (ct := fun p => p == 87 || p == 68 || p == 34 || p == 56) 60 ?_
            simp only [oI, oL, oR, o1, lI, lL, lR, popN, catS, gv, stL, stL2, swt, cnd, spObj, List.getElem?_cons_zero, List.getElem?_cons_succ, List.getD_cons_zero, List.getD_cons_succ, List.set_cons_zero, List.set_cons_succ, List.nil_append, List.cons_append, Option.toList, Bool.or_false, Bool.false_or, Bool.or_true, Bool.true_or, Nat.reduceBEq, Nat.reduceAdd, Nat.reduceLT, Nat.reduceLeDiff, Int.reduceAdd, Int.reduceToNat, true_and, and_true, Fin.isValue, Fin.val_zero, Fin.val_one, Fin.val_two, Fin.reduceFinMk, eq_self, Int.reduceNeg, imp_self, Nat.reduceMul, Nat.le_refl, not_true_eq_false, not_false_eq_true, List.getElem?_nil, reduceCtorEq, true_or, or_true, Classical.not_not, implies_true, or_self, wI_0, wI_1, wI_m1, b2i_w, b2i_eq0, b2i_eq1, b2i_bool, nor_self, nx_pI, kd_pI, ln_pI, fI_pI, fL_pI, fR_pI, aI_pI, aL_pI, aR_pI, nx_pL, kd_pL, ln_pL, fI_pL, fL_pL, fR_pL, aI_pL, aL_pL, aR_pL, nx_pR, kd_pR, ln_pR, fI_pR, fL_pR, fR_pR, aI_pR, aL_pR, aR_pR, nx_qI, kd_qI, ln_qI, fI_qI, fL_qI, fR_qI, aI_qI, aL_qI, aR_qI, nx_qL, kd_qL, ln_qL, fI_qL, fL_qL, fR_qL, aI_qL, aL_qL, aR_qL, nx_qR, kd_qR, ln_qR, fI_qR, fL_qR, fR_qR, aI_qR, aL_qR, aR_qR, nx_mk, kd_mk, ln_mk, fI_mk, fL_mk, fR_mk, aI_mk, aL_mk, aR_mk, false_and, and_false, if_false, if_true, and_self, Int.reduceEq, Nat.reduceEqDiff, ite_self, MLay_pI, MLay_pL, MLay_qI, MLay_qL, ev_X9_letPass_4, ev_X9_letPass_5, ev_X9_letPass_6, ev_X9_letPass_7, ev_X9_letPass_8, ev_X9_letPass_11, ev_X9_letPass_12, ev_X9_letPass_15, ev_X9_letPass_17, ev_X9_letPass_18, ev_X9_letPass_19, ev_X9_letPass_22, ev_X9_letPass_24, ev_X9_letPass_26, ev_X9_letPass_29, ev_X9_letPass_31, ev_X9_letPass_34, ev_X9_letPass_35, ev_X9_letPass_37, ev_X9_letPass_40, ev_X9_letPass_42, ev_X9_letPass_45, ev_X9_letPass_46, ev_X9_letPass_47, ev_X9_letPass_50, ev_X9_letPass_51, ev_X9_letPass_53, ev_X9_letPass_56, ev_X9_letPass_58, ev_X9_letPass_59, ev_X9_letPass_62, ev_X9_letPass_64, ev_X9_letPass_65, xt_X9_letPass, xf_X9_letPass, us_X9_firstWaiting, us_X9_hasOneOn, us_X9_isHeard, us_X9_writeTape, hkt, hLt, cb, cf, hfp]
            try simp (disch := omega) only [wI_id, dv_nn, rm_nn]
            repeat' (first | intro z | apply And.intro)
            all_goals try omega
            all_goals try contradiction
            all_goals exact h68 _ _
  have w0 := loop n.toNat 0 none none (by show ((0 : Nat) : Int) + _ = _; omega)
  rw [show w + ((0 : Nat) : Int) + 1 = w + 1 by omega] at w0
  refine go_X9_letPass (ct := fun p => p == 4) 40 ?_
  simp only [oI, oL, oR, o1, lI, lL, lR, popN, catS, gv, stL, stL2, swt, cnd, spObj, List.getElem?_cons_zero, List.getElem?_cons_succ, List.getD_cons_zero, List.getD_cons_succ, List.set_cons_zero, List.set_cons_succ, List.nil_append, List.cons_append, Option.toList, Bool.or_false, Bool.false_or, Bool.or_true, Bool.true_or, Nat.reduceBEq, Nat.reduceAdd, Nat.reduceLT, Nat.reduceLeDiff, Int.reduceAdd, Int.reduceToNat, true_and, and_true, Fin.isValue, Fin.val_zero, Fin.val_one, Fin.val_two, Fin.reduceFinMk, eq_self, Int.reduceNeg, imp_self, Nat.reduceMul, Nat.le_refl, not_true_eq_false, not_false_eq_true, List.getElem?_nil, reduceCtorEq, true_or, or_true, Classical.not_not, implies_true, or_self, wI_0, wI_1, wI_m1, b2i_w, b2i_eq0, b2i_eq1, b2i_bool, nor_self, nx_pI, kd_pI, ln_pI, fI_pI, fL_pI, fR_pI, aI_pI, aL_pI, aR_pI, nx_pL, kd_pL, ln_pL, fI_pL, fL_pL, fR_pL, aI_pL, aL_pL, aR_pL, nx_pR, kd_pR, ln_pR, fI_pR, fL_pR, fR_pR, aI_pR, aL_pR, aR_pR, nx_qI, kd_qI, ln_qI, fI_qI, fL_qI, fR_qI, aI_qI, aL_qI, aR_qI, nx_qL, kd_qL, ln_qL, fI_qL, fL_qL, fR_qL, aI_qL, aL_qL, aR_qL, nx_qR, kd_qR, ln_qR, fI_qR, fL_qR, fR_qR, aI_qR, aL_qR, aR_qR, nx_mk, kd_mk, ln_mk, fI_mk, fL_mk, fR_mk, aI_mk, aL_mk, aR_mk, false_and, and_false, if_false, if_true, and_self, Int.reduceEq, Nat.reduceEqDiff, ite_self, MLay_pI, MLay_pL, MLay_qI, MLay_qL, ev_X9_letPass_0, ev_X9_letPass_1, ev_X9_letPass_2, ev_X9_letPass_3, xt_X9_letPass, xf_X9_letPass, us_X9_firstWaiting, us_X9_hasOneOn, us_X9_isHeard, us_X9_writeTape]
  exact w0

/-- a tape's ticks laid into words -/
def cCp (σ : Hp) (q r f t : Int) : Nat → Hp
  | 0 => σ
  | i + 1 => if aI σ (fR σ 1002 q) i ≤ t ∧ 0 ≤ (aI σ (fR σ 1002 q) i - f) / 64 ∧ (aI σ (fR σ 1002 q) i - f) / 64 < 5 then qL (cCp σ q r f t i) r ((aI σ (fR σ 1002 q) i - f) / 64) (aL (cCp σ q r f t i) r ((aI σ (fR σ 1002 q) i - f) / 64) ||| 1#64 <<< ((aI σ (fR σ 1002 q) i - f) % 64).toNat) else cCp σ q r f t i
theorem cCp_s (σ : Hp) (q r f t : Int) : ∀ n, nx (cCp σ q r f t n) = nx σ ∧ kd (cCp σ q r f t n) = kd σ ∧ ln (cCp σ q r f t n) = ln σ ∧ fI (cCp σ q r f t n) = fI σ ∧ fL (cCp σ q r f t n) = fL σ ∧ fR (cCp σ q r f t n) = fR σ ∧ aI (cCp σ q r f t n) = aI σ ∧ aR (cCp σ q r f t n) = aR σ
  | 0 => ⟨rfl, rfl, rfl, rfl, rfl, rfl, rfl, rfl⟩
  | n + 1 => by
    have ih := cCp_s σ q r f t n
    unfold cCp
    split
    · simp only [nx_qL, kd_qL, ln_qL, fI_qL, fL_qL, fR_qL, aI_qL, aR_qL]
      exact ih
    · exact ih
theorem shrI_6 {x : Int} (h : -2147483648 ≤ x ∧ x < 2147483648) : shrI x 6 = x / 64 := by
  unfold shrI
  rw [wI_id h.1 h.2]
  rfl

def sp_X9_copyTape : Sp := fun av σ Q => oR av fun this av => oI av fun f av => oI av fun t av => oR av fun r av => av = [] ∧ kd σ this = 10 ∧ ((kd σ (fR σ 1002 this) = 101 ∧ ln σ (fR σ 1002 this) = 500) ∧ (0 ≤ fI σ 1003 this ∧ fI σ 1003 this ≤ 500) ∧ (∀ w, 0 ≤ aI σ (fR σ 1002 this) w ∧ aI σ (fR σ 1002 this) w ≤ 999999) ∧ (0 ≤ f ∧ f ≤ 999999) ∧ (0 ≤ t ∧ t ≤ 999999) ∧ (kd σ r = 102 ∧ ln σ r = 5) ∧ Q none (cCp σ this r f t (fI σ 1003 this).toNat))
theorem us_X9_copyTape (this : Int) (f : Int) (t : Int) (r : Int) (σ : Hp) (Q : Option AV → Hp → Prop) : sp_X9_copyTape [vr this, vi f, vi t, vr r] σ Q = (kd σ this = 10 ∧ ((kd σ (fR σ 1002 this) = 101 ∧ ln σ (fR σ 1002 this) = 500) ∧ (0 ≤ fI σ 1003 this ∧ fI σ 1003 this ≤ 500) ∧ (∀ w, 0 ≤ aI σ (fR σ 1002 this) w ∧ aI σ (fR σ 1002 this) w ≤ 999999) ∧ (0 ≤ f ∧ f ≤ 999999) ∧ (0 ≤ t ∧ t ≤ 999999) ∧ (kd σ r = 102 ∧ ln σ r = 5) ∧ Q none (cCp σ this r f t (fI σ 1003 this).toNat))) := propext ⟨fun h => h.2, fun h => ⟨rfl, h⟩⟩
theorem el_X9_copyTape {av : List AV} {σ : Hp} {Q : Option AV → Hp → Prop} (h : sp_X9_copyTape av σ Q) : ∃ (this : Int) (f : Int) (t : Int) (r : Int), av = [vr this, vi f, vi t, vr r] ∧ (kd σ this = 10 ∧ ((kd σ (fR σ 1002 this) = 101 ∧ ln σ (fR σ 1002 this) = 500) ∧ (0 ≤ fI σ 1003 this ∧ fI σ 1003 this ≤ 500) ∧ (∀ w, 0 ≤ aI σ (fR σ 1002 this) w ∧ aI σ (fR σ 1002 this) w ≤ 999999) ∧ (0 ≤ f ∧ f ≤ 999999) ∧ (0 ≤ t ∧ t ≤ 999999) ∧ (kd σ r = 102 ∧ ln σ r = 5) ∧ Q none (cCp σ this r f t (fI σ 1003 this).toNat))) := by
  obtain ⟨this, a0, rfl, h0⟩ := oR_s h
  obtain ⟨f, a1, rfl, h1⟩ := oI_s h0
  obtain ⟨t, a2, rfl, h2⟩ := oI_s h1
  obtain ⟨r, a3, rfl, h3⟩ := oR_s h2
  obtain ⟨rfl, hz⟩ := h3
  exact ⟨this, f, t, r, rfl, hz⟩
theorem rc_X9_copyTape : ∀ (av : List AV) (σ : Hp) (Q : Option AV → Hp → Prop), sp_X9_copyTape av σ Q → ∃ r tl, av = vr r :: tl ∧ kd σ r = 9 + 1 := fun av σ Q h => by
  obtain ⟨this, f, t, r, rfl, hz, -⟩ := el_X9_copyTape h
  exact ⟨this, _, rfl, hz⟩

def tb_X9_copyTape : Tab := [(0, .iconst 0, 1, (0, 0, 0, 0)), (1, .istore 4, 2, (0, 0, 0, 0)), (3, .iload 4, 2, (0, 0, 0, 0)), (5, .aload_n 0, 1, (0, 0, 0, 0)), (6, .getfield 26, 3, (10, 1003, 0, 0)), (9, .if_icmp .ge 74, 3, (0, 0, 0, 0)), (12, .iload 4, 2, (0, 0, 0, 0)), (14, .aload_n 0, 1, (0, 0, 0, 0)), (15, .getfield 22, 3, (10, 1002, 2, 0)), (18, .arraylength, 1, (0, 0, 0, 0)), (19, .if_icmp .ge 64, 3, (0, 0, 0, 0)), (22, .aload_n 0, 1, (0, 0, 0, 0)), (23, .getfield 22, 3, (10, 1002, 2, 0)), (26, .iload 4, 2, (0, 0, 0, 0)), (28, .iaload, 1, (0, 0, 0, 0)), (29, .iload_n 1, 1, (0, 0, 0, 0)), (30, .isub, 1, (0, 0, 0, 0)), (31, .istore 5, 2, (0, 0, 0, 0)), (33, .iload 5, 2, (0, 0, 0, 0)), (35, .bipush 6, 2, (0, 0, 0, 0)), (37, .ishr, 1, (0, 0, 0, 0)), (38, .istore 6, 2, (0, 0, 0, 0)), (40, .aload_n 0, 1, (0, 0, 0, 0)), (41, .getfield 22, 3, (10, 1002, 2, 0)), (44, .iload 4, 2, (0, 0, 0, 0)), (46, .iaload, 1, (0, 0, 0, 0)), (47, .iload_n 2, 1, (0, 0, 0, 0)), (48, .if_icmp .gt 29, 3, (0, 0, 0, 0)), (51, .iload 6, 2, (0, 0, 0, 0)), (53, .ifCond .lt 24, 3, (0, 0, 0, 0)), (56, .iload 6, 2, (0, 0, 0, 0)), (58, .aload_n 3, 1, (0, 0, 0, 0)), (59, .arraylength, 1, (0, 0, 0, 0)), (60, .if_icmp .ge 17, 3, (0, 0, 0, 0)), (63, .aload_n 3, 1, (0, 0, 0, 0)), (64, .iload 6, 2, (0, 0, 0, 0)), (66, .dup2, 1, (0, 0, 0, 0)), (67, .laload, 1, (0, 0, 0, 0)), (68, .lconst 1, 1, (0, 0, 0, 0)), (69, .iload 5, 2, (0, 0, 0, 0)), (71, .bipush 63, 2, (0, 0, 0, 0)), (73, .iand, 1, (0, 0, 0, 0)), (74, .lshl, 1, (0, 0, 0, 0)), (75, .lor, 1, (0, 0, 0, 0)), (76, .lastore, 1, (0, 0, 0, 0)), (77, .iinc 4 1, 3, (0, 0, 0, 0)), (80, .goto (-77), 3, (0, 0, 0, 0)), (83, .return_, 1, (0, 0, 0, 0))]
set_option maxRecDepth 100000 in
theorem tk_X9_copyTape : TOK RX9 false cX9_copyTape tb_X9_copyTape := chkT_ok ft_X9 (by decide +kernel)
def mt_X9_copyTape : List (Nat × Mt) := []
theorem mk_X9_copyTape : MOK RX9 mt_X9_copyTape := fun q hq => by cases hq
noncomputable def xe_X9_copyTape (ct : Nat → Bool) (K : Kt) (R : Option AV → Hp → Prop) (n : Nat) : Kt := exS 7 1 0 0 0 tb_X9_copyTape mt_X9_copyTape ct K R n
noncomputable def xk_X9_copyTape (ct : Nat → Bool) (K : Kt) (R : Option AV → Hp → Prop) (n : Nat) : Kt := exkS 7 1 0 0 0 tb_X9_copyTape mt_X9_copyTape ct K R n
theorem xt_X9_copyTape {ct : Nat → Bool} {K : Kt} {R : Option AV → Hp → Prop} {n pc : Nat} {ls : List (Option AV)} {st : List AV} {σ : Hp} {k : Nat × Nat} (h : ct pc = true) : xk_X9_copyTape ct K R n pc ls st σ k = K pc ls st σ k := by unfold xk_X9_copyTape exkS; rw [h]
theorem xf_X9_copyTape {ct : Nat → Bool} {K : Kt} {R : Option AV → Hp → Prop} {n pc : Nat} {ls : List (Option AV)} {st : List AV} {σ : Hp} {k : Nat × Nat} (h : ct pc = false) : xk_X9_copyTape ct K R n pc ls st σ k = xe_X9_copyTape ct K R n pc ls st σ k := by unfold xk_X9_copyTape exkS xe_X9_copyTape; rw [h]
theorem ev_X9_copyTape_0 {ct : Nat → Bool} {K : Kt} {R : Option AV → Hp → Prop} {n : Nat} {ls : List (Option AV)} {st : List AV} {σ : Hp} {k : Nat × Nat} : xe_X9_copyTape ct K R (n + 1) 0 ls st σ k = (xk_X9_copyTape ct K R n 1 ls (vi (0) :: st) σ k) := exS_step.trans rfl
theorem ev_X9_copyTape_1 {ct : Nat → Bool} {K : Kt} {R : Option AV → Hp → Prop} {n : Nat} {ls : List (Option AV)} {st : List AV} {σ : Hp} {k : Nat × Nat} : xe_X9_copyTape ct K R (n + 1) 1 ls st σ k = (oI st fun x st => 4 < 7 ∧ xk_X9_copyTape ct K R n 3 (stL ls 4 (vi x)) st σ k) := exS_step.trans rfl
theorem ev_X9_copyTape_3 {ct : Nat → Bool} {K : Kt} {R : Option AV → Hp → Prop} {n : Nat} {ls : List (Option AV)} {st : List AV} {σ : Hp} {k : Nat × Nat} : xe_X9_copyTape ct K R (n + 1) 3 ls st σ k = (lI ls 4 fun x => xk_X9_copyTape ct K R n 5 ls (vi x :: st) σ k) := exS_step.trans rfl
theorem ev_X9_copyTape_5 {ct : Nat → Bool} {K : Kt} {R : Option AV → Hp → Prop} {n : Nat} {ls : List (Option AV)} {st : List AV} {σ : Hp} {k : Nat × Nat} : xe_X9_copyTape ct K R (n + 1) 5 ls st σ k = (lR ls 0 fun x => xk_X9_copyTape ct K R n 6 ls (vr x :: st) σ k) := exS_step.trans rfl
theorem ev_X9_copyTape_6 {ct : Nat → Bool} {K : Kt} {R : Option AV → Hp → Prop} {n : Nat} {ls : List (Option AV)} {st : List AV} {σ : Hp} {k : Nat × Nat} : xe_X9_copyTape ct K R (n + 1) 6 ls st σ k = (oR st fun x st => kd σ x = 10 ∧ xk_X9_copyTape ct K R n 9 ls (vi (fI σ 1003 x) :: st) σ k) := exS_step.trans rfl
theorem ev_X9_copyTape_9 {ct : Nat → Bool} {K : Kt} {R : Option AV → Hp → Prop} {n : Nat} {ls : List (Option AV)} {st : List AV} {σ : Hp} {k : Nat × Nat} : xe_X9_copyTape ct K R (n + 1) 9 ls st σ k = (oI st fun y st => oI st fun x st => (wI y ≤ wI x → xk_X9_copyTape ct K R n 83 ls st σ k) ∧ (¬ (wI y ≤ wI x) → xk_X9_copyTape ct K R n 12 ls st σ k)) := exS_step.trans rfl
theorem ev_X9_copyTape_12 {ct : Nat → Bool} {K : Kt} {R : Option AV → Hp → Prop} {n : Nat} {ls : List (Option AV)} {st : List AV} {σ : Hp} {k : Nat × Nat} : xe_X9_copyTape ct K R (n + 1) 12 ls st σ k = (lI ls 4 fun x => xk_X9_copyTape ct K R n 14 ls (vi x :: st) σ k) := exS_step.trans rfl
theorem ev_X9_copyTape_14 {ct : Nat → Bool} {K : Kt} {R : Option AV → Hp → Prop} {n : Nat} {ls : List (Option AV)} {st : List AV} {σ : Hp} {k : Nat × Nat} : xe_X9_copyTape ct K R (n + 1) 14 ls st σ k = (lR ls 0 fun x => xk_X9_copyTape ct K R n 15 ls (vr x :: st) σ k) := exS_step.trans rfl
theorem ev_X9_copyTape_15 {ct : Nat → Bool} {K : Kt} {R : Option AV → Hp → Prop} {n : Nat} {ls : List (Option AV)} {st : List AV} {σ : Hp} {k : Nat × Nat} : xe_X9_copyTape ct K R (n + 1) 15 ls st σ k = (oR st fun x st => kd σ x = 10 ∧ xk_X9_copyTape ct K R n 18 ls (vr (fR σ 1002 x) :: st) σ k) := exS_step.trans rfl
theorem ev_X9_copyTape_18 {ct : Nat → Bool} {K : Kt} {R : Option AV → Hp → Prop} {n : Nat} {ls : List (Option AV)} {st : List AV} {σ : Hp} {k : Nat × Nat} : xe_X9_copyTape ct K R (n + 1) 18 ls st σ k = (oR st fun x st => (101 ≤ kd σ x ∨ kd σ x = 21) ∧ xk_X9_copyTape ct K R n 19 ls (vi (ln σ x) :: st) σ k) := exS_step.trans rfl
theorem ev_X9_copyTape_19 {ct : Nat → Bool} {K : Kt} {R : Option AV → Hp → Prop} {n : Nat} {ls : List (Option AV)} {st : List AV} {σ : Hp} {k : Nat × Nat} : xe_X9_copyTape ct K R (n + 1) 19 ls st σ k = (oI st fun y st => oI st fun x st => (wI y ≤ wI x → xk_X9_copyTape ct K R n 83 ls st σ k) ∧ (¬ (wI y ≤ wI x) → xk_X9_copyTape ct K R n 22 ls st σ k)) := exS_step.trans rfl
theorem ev_X9_copyTape_22 {ct : Nat → Bool} {K : Kt} {R : Option AV → Hp → Prop} {n : Nat} {ls : List (Option AV)} {st : List AV} {σ : Hp} {k : Nat × Nat} : xe_X9_copyTape ct K R (n + 1) 22 ls st σ k = (lR ls 0 fun x => xk_X9_copyTape ct K R n 23 ls (vr x :: st) σ k) := exS_step.trans rfl
theorem ev_X9_copyTape_23 {ct : Nat → Bool} {K : Kt} {R : Option AV → Hp → Prop} {n : Nat} {ls : List (Option AV)} {st : List AV} {σ : Hp} {k : Nat × Nat} : xe_X9_copyTape ct K R (n + 1) 23 ls st σ k = (oR st fun x st => kd σ x = 10 ∧ xk_X9_copyTape ct K R n 26 ls (vr (fR σ 1002 x) :: st) σ k) := exS_step.trans rfl
theorem ev_X9_copyTape_26 {ct : Nat → Bool} {K : Kt} {R : Option AV → Hp → Prop} {n : Nat} {ls : List (Option AV)} {st : List AV} {σ : Hp} {k : Nat × Nat} : xe_X9_copyTape ct K R (n + 1) 26 ls st σ k = (lI ls 4 fun x => xk_X9_copyTape ct K R n 28 ls (vi x :: st) σ k) := exS_step.trans rfl
theorem ev_X9_copyTape_28 {ct : Nat → Bool} {K : Kt} {R : Option AV → Hp → Prop} {n : Nat} {ls : List (Option AV)} {st : List AV} {σ : Hp} {k : Nat × Nat} : xe_X9_copyTape ct K R (n + 1) 28 ls st σ k = (oI st fun j st => oR st fun x st => (kd σ x = 101 ∨ kd σ x = 108) ∧ (0 ≤ j ∧ j < ln σ x) ∧ xk_X9_copyTape ct K R n 29 ls (vi (aI σ x j) :: st) σ k) := exS_step.trans rfl
theorem ev_X9_copyTape_29 {ct : Nat → Bool} {K : Kt} {R : Option AV → Hp → Prop} {n : Nat} {ls : List (Option AV)} {st : List AV} {σ : Hp} {k : Nat × Nat} : xe_X9_copyTape ct K R (n + 1) 29 ls st σ k = (lI ls 1 fun x => xk_X9_copyTape ct K R n 30 ls (vi x :: st) σ k) := exS_step.trans rfl
theorem ev_X9_copyTape_30 {ct : Nat → Bool} {K : Kt} {R : Option AV → Hp → Prop} {n : Nat} {ls : List (Option AV)} {st : List AV} {σ : Hp} {k : Nat × Nat} : xe_X9_copyTape ct K R (n + 1) 30 ls st σ k = (oI st fun y st => oI st fun x st => xk_X9_copyTape ct K R n 31 ls (vi (x - y) :: st) σ k) := exS_step.trans rfl
theorem ev_X9_copyTape_31 {ct : Nat → Bool} {K : Kt} {R : Option AV → Hp → Prop} {n : Nat} {ls : List (Option AV)} {st : List AV} {σ : Hp} {k : Nat × Nat} : xe_X9_copyTape ct K R (n + 1) 31 ls st σ k = (oI st fun x st => 5 < 7 ∧ xk_X9_copyTape ct K R n 33 (stL ls 5 (vi x)) st σ k) := exS_step.trans rfl
theorem ev_X9_copyTape_33 {ct : Nat → Bool} {K : Kt} {R : Option AV → Hp → Prop} {n : Nat} {ls : List (Option AV)} {st : List AV} {σ : Hp} {k : Nat × Nat} : xe_X9_copyTape ct K R (n + 1) 33 ls st σ k = (lI ls 5 fun x => xk_X9_copyTape ct K R n 35 ls (vi x :: st) σ k) := exS_step.trans rfl
theorem ev_X9_copyTape_35 {ct : Nat → Bool} {K : Kt} {R : Option AV → Hp → Prop} {n : Nat} {ls : List (Option AV)} {st : List AV} {σ : Hp} {k : Nat × Nat} : xe_X9_copyTape ct K R (n + 1) 35 ls st σ k = (xk_X9_copyTape ct K R n 37 ls (vi (6) :: st) σ k) := exS_step.trans rfl
theorem ev_X9_copyTape_37 {ct : Nat → Bool} {K : Kt} {R : Option AV → Hp → Prop} {n : Nat} {ls : List (Option AV)} {st : List AV} {σ : Hp} {k : Nat × Nat} : xe_X9_copyTape ct K R (n + 1) 37 ls st σ k = (oI st fun y st => oI st fun x st => xk_X9_copyTape ct K R n 38 ls (vi (shrI x y) :: st) σ k) := exS_step.trans rfl
theorem ev_X9_copyTape_38 {ct : Nat → Bool} {K : Kt} {R : Option AV → Hp → Prop} {n : Nat} {ls : List (Option AV)} {st : List AV} {σ : Hp} {k : Nat × Nat} : xe_X9_copyTape ct K R (n + 1) 38 ls st σ k = (oI st fun x st => 6 < 7 ∧ xk_X9_copyTape ct K R n 40 (stL ls 6 (vi x)) st σ k) := exS_step.trans rfl
theorem ev_X9_copyTape_40 {ct : Nat → Bool} {K : Kt} {R : Option AV → Hp → Prop} {n : Nat} {ls : List (Option AV)} {st : List AV} {σ : Hp} {k : Nat × Nat} : xe_X9_copyTape ct K R (n + 1) 40 ls st σ k = (lR ls 0 fun x => xk_X9_copyTape ct K R n 41 ls (vr x :: st) σ k) := exS_step.trans rfl
theorem ev_X9_copyTape_41 {ct : Nat → Bool} {K : Kt} {R : Option AV → Hp → Prop} {n : Nat} {ls : List (Option AV)} {st : List AV} {σ : Hp} {k : Nat × Nat} : xe_X9_copyTape ct K R (n + 1) 41 ls st σ k = (oR st fun x st => kd σ x = 10 ∧ xk_X9_copyTape ct K R n 44 ls (vr (fR σ 1002 x) :: st) σ k) := exS_step.trans rfl
theorem ev_X9_copyTape_44 {ct : Nat → Bool} {K : Kt} {R : Option AV → Hp → Prop} {n : Nat} {ls : List (Option AV)} {st : List AV} {σ : Hp} {k : Nat × Nat} : xe_X9_copyTape ct K R (n + 1) 44 ls st σ k = (lI ls 4 fun x => xk_X9_copyTape ct K R n 46 ls (vi x :: st) σ k) := exS_step.trans rfl
theorem ev_X9_copyTape_46 {ct : Nat → Bool} {K : Kt} {R : Option AV → Hp → Prop} {n : Nat} {ls : List (Option AV)} {st : List AV} {σ : Hp} {k : Nat × Nat} : xe_X9_copyTape ct K R (n + 1) 46 ls st σ k = (oI st fun j st => oR st fun x st => (kd σ x = 101 ∨ kd σ x = 108) ∧ (0 ≤ j ∧ j < ln σ x) ∧ xk_X9_copyTape ct K R n 47 ls (vi (aI σ x j) :: st) σ k) := exS_step.trans rfl
theorem ev_X9_copyTape_47 {ct : Nat → Bool} {K : Kt} {R : Option AV → Hp → Prop} {n : Nat} {ls : List (Option AV)} {st : List AV} {σ : Hp} {k : Nat × Nat} : xe_X9_copyTape ct K R (n + 1) 47 ls st σ k = (lI ls 2 fun x => xk_X9_copyTape ct K R n 48 ls (vi x :: st) σ k) := exS_step.trans rfl
theorem ev_X9_copyTape_48 {ct : Nat → Bool} {K : Kt} {R : Option AV → Hp → Prop} {n : Nat} {ls : List (Option AV)} {st : List AV} {σ : Hp} {k : Nat × Nat} : xe_X9_copyTape ct K R (n + 1) 48 ls st σ k = (oI st fun y st => oI st fun x st => (wI y < wI x → xk_X9_copyTape ct K R n 77 ls st σ k) ∧ (¬ (wI y < wI x) → xk_X9_copyTape ct K R n 51 ls st σ k)) := exS_step.trans rfl
theorem ev_X9_copyTape_51 {ct : Nat → Bool} {K : Kt} {R : Option AV → Hp → Prop} {n : Nat} {ls : List (Option AV)} {st : List AV} {σ : Hp} {k : Nat × Nat} : xe_X9_copyTape ct K R (n + 1) 51 ls st σ k = (lI ls 6 fun x => xk_X9_copyTape ct K R n 53 ls (vi x :: st) σ k) := exS_step.trans rfl
theorem ev_X9_copyTape_53 {ct : Nat → Bool} {K : Kt} {R : Option AV → Hp → Prop} {n : Nat} {ls : List (Option AV)} {st : List AV} {σ : Hp} {k : Nat × Nat} : xe_X9_copyTape ct K R (n + 1) 53 ls st σ k = (oI st fun x st => (wI x < wI 0 → xk_X9_copyTape ct K R n 77 ls st σ k) ∧ (¬ (wI x < wI 0) → xk_X9_copyTape ct K R n 56 ls st σ k)) := exS_step.trans rfl
theorem ev_X9_copyTape_56 {ct : Nat → Bool} {K : Kt} {R : Option AV → Hp → Prop} {n : Nat} {ls : List (Option AV)} {st : List AV} {σ : Hp} {k : Nat × Nat} : xe_X9_copyTape ct K R (n + 1) 56 ls st σ k = (lI ls 6 fun x => xk_X9_copyTape ct K R n 58 ls (vi x :: st) σ k) := exS_step.trans rfl
theorem ev_X9_copyTape_58 {ct : Nat → Bool} {K : Kt} {R : Option AV → Hp → Prop} {n : Nat} {ls : List (Option AV)} {st : List AV} {σ : Hp} {k : Nat × Nat} : xe_X9_copyTape ct K R (n + 1) 58 ls st σ k = (lR ls 3 fun x => xk_X9_copyTape ct K R n 59 ls (vr x :: st) σ k) := exS_step.trans rfl
theorem ev_X9_copyTape_59 {ct : Nat → Bool} {K : Kt} {R : Option AV → Hp → Prop} {n : Nat} {ls : List (Option AV)} {st : List AV} {σ : Hp} {k : Nat × Nat} : xe_X9_copyTape ct K R (n + 1) 59 ls st σ k = (oR st fun x st => (101 ≤ kd σ x ∨ kd σ x = 21) ∧ xk_X9_copyTape ct K R n 60 ls (vi (ln σ x) :: st) σ k) := exS_step.trans rfl
theorem ev_X9_copyTape_60 {ct : Nat → Bool} {K : Kt} {R : Option AV → Hp → Prop} {n : Nat} {ls : List (Option AV)} {st : List AV} {σ : Hp} {k : Nat × Nat} : xe_X9_copyTape ct K R (n + 1) 60 ls st σ k = (oI st fun y st => oI st fun x st => (wI y ≤ wI x → xk_X9_copyTape ct K R n 77 ls st σ k) ∧ (¬ (wI y ≤ wI x) → xk_X9_copyTape ct K R n 63 ls st σ k)) := exS_step.trans rfl
theorem ev_X9_copyTape_63 {ct : Nat → Bool} {K : Kt} {R : Option AV → Hp → Prop} {n : Nat} {ls : List (Option AV)} {st : List AV} {σ : Hp} {k : Nat × Nat} : xe_X9_copyTape ct K R (n + 1) 63 ls st σ k = (lR ls 3 fun x => xk_X9_copyTape ct K R n 64 ls (vr x :: st) σ k) := exS_step.trans rfl
theorem ev_X9_copyTape_64 {ct : Nat → Bool} {K : Kt} {R : Option AV → Hp → Prop} {n : Nat} {ls : List (Option AV)} {st : List AV} {σ : Hp} {k : Nat × Nat} : xe_X9_copyTape ct K R (n + 1) 64 ls st σ k = (lI ls 6 fun x => xk_X9_copyTape ct K R n 66 ls (vi x :: st) σ k) := exS_step.trans rfl
theorem ev_X9_copyTape_66 {ct : Nat → Bool} {K : Kt} {R : Option AV → Hp → Prop} {n : Nat} {ls : List (Option AV)} {st : List AV} {σ : Hp} {k : Nat × Nat} : xe_X9_copyTape ct K R (n + 1) 66 ls st σ k = (o1 st fun v st => o1 st fun u st => xk_X9_copyTape ct K R n 67 ls (v :: u :: v :: u :: st) σ k) := exS_step.trans rfl
theorem ev_X9_copyTape_67 {ct : Nat → Bool} {K : Kt} {R : Option AV → Hp → Prop} {n : Nat} {ls : List (Option AV)} {st : List AV} {σ : Hp} {k : Nat × Nat} : xe_X9_copyTape ct K R (n + 1) 67 ls st σ k = (oI st fun j st => oR st fun x st => kd σ x = 102 ∧ (0 ≤ j ∧ j < ln σ x) ∧ xk_X9_copyTape ct K R n 68 ls (vl (aL σ x j) :: st) σ k) := exS_step.trans rfl
theorem ev_X9_copyTape_68 {ct : Nat → Bool} {K : Kt} {R : Option AV → Hp → Prop} {n : Nat} {ls : List (Option AV)} {st : List AV} {σ : Hp} {k : Nat × Nat} : xe_X9_copyTape ct K R (n + 1) 68 ls st σ k = (xk_X9_copyTape ct K R n 69 ls (vl (BitVec.ofNat 64 1) :: st) σ k) := exS_step.trans rfl
theorem ev_X9_copyTape_69 {ct : Nat → Bool} {K : Kt} {R : Option AV → Hp → Prop} {n : Nat} {ls : List (Option AV)} {st : List AV} {σ : Hp} {k : Nat × Nat} : xe_X9_copyTape ct K R (n + 1) 69 ls st σ k = (lI ls 5 fun x => xk_X9_copyTape ct K R n 71 ls (vi x :: st) σ k) := exS_step.trans rfl
theorem ev_X9_copyTape_71 {ct : Nat → Bool} {K : Kt} {R : Option AV → Hp → Prop} {n : Nat} {ls : List (Option AV)} {st : List AV} {σ : Hp} {k : Nat × Nat} : xe_X9_copyTape ct K R (n + 1) 71 ls st σ k = (xk_X9_copyTape ct K R n 73 ls (vi (63) :: st) σ k) := exS_step.trans rfl
theorem ev_X9_copyTape_73 {ct : Nat → Bool} {K : Kt} {R : Option AV → Hp → Prop} {n : Nat} {ls : List (Option AV)} {st : List AV} {σ : Hp} {k : Nat × Nat} : xe_X9_copyTape ct K R (n + 1) 73 ls st σ k = (oI st fun y st => oI st fun x st => xk_X9_copyTape ct K R n 74 ls (vi (bAnd x y) :: st) σ k) := exS_step.trans rfl
theorem ev_X9_copyTape_74 {ct : Nat → Bool} {K : Kt} {R : Option AV → Hp → Prop} {n : Nat} {ls : List (Option AV)} {st : List AV} {σ : Hp} {k : Nat × Nat} : xe_X9_copyTape ct K R (n + 1) 74 ls st σ k = (oI st fun y st => oL st fun x st => xk_X9_copyTape ct K R n 75 ls (vl (x <<< (y % 64).toNat) :: st) σ k) := exS_step.trans rfl
theorem ev_X9_copyTape_75 {ct : Nat → Bool} {K : Kt} {R : Option AV → Hp → Prop} {n : Nat} {ls : List (Option AV)} {st : List AV} {σ : Hp} {k : Nat × Nat} : xe_X9_copyTape ct K R (n + 1) 75 ls st σ k = (oL st fun y st => oL st fun x st => xk_X9_copyTape ct K R n 76 ls (vl (x ||| y) :: st) σ k) := exS_step.trans rfl
theorem ev_X9_copyTape_76 {ct : Nat → Bool} {K : Kt} {R : Option AV → Hp → Prop} {n : Nat} {ls : List (Option AV)} {st : List AV} {σ : Hp} {k : Nat × Nat} : xe_X9_copyTape ct K R (n + 1) 76 ls st σ k = (oL st fun v st => oI st fun j st => oR st fun x st => kd σ x = 102 ∧ (0 ≤ j ∧ j < ln σ x) ∧ xk_X9_copyTape ct K R n 77 ls st (qL σ x j v) k) := exS_step.trans rfl
theorem ev_X9_copyTape_77 {ct : Nat → Bool} {K : Kt} {R : Option AV → Hp → Prop} {n : Nat} {ls : List (Option AV)} {st : List AV} {σ : Hp} {k : Nat × Nat} : xe_X9_copyTape ct K R (n + 1) 77 ls st σ k = (lI ls 4 fun x => 4 < 7 ∧ xk_X9_copyTape ct K R n 80 (stL ls 4 (vi (x + (1)))) st σ k) := exS_step.trans rfl
theorem ev_X9_copyTape_80 {ct : Nat → Bool} {K : Kt} {R : Option AV → Hp → Prop} {n : Nat} {ls : List (Option AV)} {st : List AV} {σ : Hp} {k : Nat × Nat} : xe_X9_copyTape ct K R (n + 1) 80 ls st σ k = (xk_X9_copyTape ct K R n 3 ls st σ k) := exS_step.trans rfl
theorem ev_X9_copyTape_83 {ct : Nat → Bool} {K : Kt} {R : Option AV → Hp → Prop} {n : Nat} {ls : List (Option AV)} {st : List AV} {σ : Hp} {k : Nat × Nat} : xe_X9_copyTape ct K R (n + 1) 83 ls st σ k = (st = [] ∧ 0 = 0 ∧ R none σ) := exS_step.trans rfl
def M_X9_copyTape : Md := (yX9_copyTape, cX9_copyTape, 7, (none : Option FieldType), 1, 0, 0, 0, false, tb_X9_copyTape, mt_X9_copyTape)
theorem mm_X9_copyTape : MMOK M_X9_copyTape := ⟨by decide +kernel, tk_X9_copyTape, mk_X9_copyTape, rfl, fun h => by cases h⟩
theorem go_X9_copyTape {Q : Option AV → Hp → Prop} {ct : Nat → Bool} {pc : Nat} {ls : List (Option AV)} {st : List AV} {σ : Hp} {k : Nat × Nat} (n : Nat) (h : xe_X9_copyTape ct (Go M_X9_copyTape Q) Q n pc ls st σ k) : Go M_X9_copyTape Q pc ls st σ k := Go.exS mm_X9_copyTape h

set_option maxRecDepth 20000 in
theorem c_X9_copyTape : Ct yX9_copyTape cX9_copyTape 7 ((none : Option FieldType)) 1 0 0 sp_X9_copyTape := by
  refine Ct.go (M := M_X9_copyTape) mm_X9_copyTape fun av σ Q h0 => ?_
  obtain ⟨this, f, t, r, rfl, hk, h⟩ := el_X9_copyTape h0
  clear h0
  refine ⟨Nat.le_of_ble_eq_true rfl, ?_⟩
  show Go M_X9_copyTape Q 0 [some (vr this), some (vi f), some (vi t), some (vr r), none, none, none] [] σ (0, 0)
  obtain ⟨⟨h1, h2⟩, h3, h4, hf, ht, ⟨hr, hr2⟩, h⟩ := h
  have loop : ∀ (m i : Nat) (a5 a6 : Option AV), (i : Int) + m = fI σ 1003 this → Go M_X9_copyTape Q 3 [some (vr this), some (vi f), some (vi t), some (vr r), some (vi i), a5, a6] [] (cCp σ this r f t i) (0, 0) := by
    intro m
    induction m with
    | zero =>
      intro i a5 a6 hi
      have e : (fI σ 1003 this).toNat = i := by omega
      rw [e] at h
      obtain ⟨-, g1, g2, g3, -, g4, g5, -⟩ := cCp_s σ this r f t i
      refine go_X9_copyTape (ct := fun p => p == 12) 40 ?_
      simp only [oI, oL, oR, o1, lI, lL, lR, popN, catS, gv, stL, stL2, swt, cnd, spObj, List.getElem?_cons_zero, List.getElem?_cons_succ, List.getD_cons_zero, List.getD_cons_succ, List.set_cons_zero, List.set_cons_succ, List.nil_append, List.cons_append, Option.toList, Bool.or_false, Bool.false_or, Bool.or_true, Bool.true_or, Nat.reduceBEq, Nat.reduceAdd, Nat.reduceLT, Nat.reduceLeDiff, Int.reduceAdd, Int.reduceToNat, true_and, and_true, Fin.isValue, Fin.val_zero, Fin.val_one, Fin.val_two, Fin.reduceFinMk, eq_self, Int.reduceNeg, imp_self, Nat.reduceMul, Nat.le_refl, not_true_eq_false, not_false_eq_true, List.getElem?_nil, reduceCtorEq, true_or, or_true, Classical.not_not, implies_true, or_self, wI_0, wI_1, wI_m1, b2i_w, b2i_eq0, b2i_eq1, b2i_bool, nor_self, nx_pI, kd_pI, ln_pI, fI_pI, fL_pI, fR_pI, aI_pI, aL_pI, aR_pI, nx_pL, kd_pL, ln_pL, fI_pL, fL_pL, fR_pL, aI_pL, aL_pL, aR_pL, nx_pR, kd_pR, ln_pR, fI_pR, fL_pR, fR_pR, aI_pR, aL_pR, aR_pR, nx_qI, kd_qI, ln_qI, fI_qI, fL_qI, fR_qI, aI_qI, aL_qI, aR_qI, nx_qL, kd_qL, ln_qL, fI_qL, fL_qL, fR_qL, aI_qL, aL_qL, aR_qL, nx_qR, kd_qR, ln_qR, fI_qR, fL_qR, fR_qR, aI_qR, aL_qR, aR_qR, nx_mk, kd_mk, ln_mk, fI_mk, fL_mk, fR_mk, aI_mk, aL_mk, aR_mk, false_and, and_false, if_false, if_true, and_self, Int.reduceEq, Nat.reduceEqDiff, ite_self, MLay_pI, MLay_pL, MLay_qI, MLay_qL, ev_X9_copyTape_3, ev_X9_copyTape_5, ev_X9_copyTape_6, ev_X9_copyTape_9, ev_X9_copyTape_83, xt_X9_copyTape, xf_X9_copyTape, hk, g1, g3]
      try simp (disch := omega) only [wI_id, dv_nn, rm_nn]
      repeat' (first | intro z | apply And.intro)
      all_goals try omega
      all_goals try contradiction
      all_goals exact h
    | succ m ih =>
      intro i a5 a6 hi
      have h4 := h4 i
      have ih := fun a5 a6 => ih (i + 1) a5 a6 (by omega)
      clear h
      unfold cCp at ih
      obtain ⟨-, g1, g2, g3, -, g4, g5, -⟩ := cCp_s σ this r f t i
      generalize cCp σ this r f t i = τ at *
      generalize hx : aI σ (fR σ 1002 this) i = x at *
      have es : shrI (x - f) 6 = (x - f) / 64 := shrI_6 (by omega)
      have w33 : ∀ a6, Go M_X9_copyTape Q 33 [some (vr this), some (vi f), some (vi t), some (vr r), some (vi i), some (vi (x - f)), a6] [] τ (0, 0) := fun a6 => by
        by_cases c : x ≤ t ∧ 0 ≤ (x - f) / 64 ∧ (x - f) / 64 < 5
        · have ih := ih (some (vi (x - f))) (some (vi ((x - f) / 64)))
          rw [if_pos c] at ih
          have eb : (bAnd (x - f) 63 % 64).toNat = ((x - f) % 64).toNat := by rw [bAnd_63 (by omega)]; omega
          generalize hy : (x - f) / 64 = y at *
          refine go_X9_copyTape (ct := fun p => p == 3 || p == 77) 60 ?_
          simp only [oI, oL, oR, o1, lI, lL, lR, popN, catS, gv, stL, stL2, swt, cnd, spObj, List.getElem?_cons_zero, List.getElem?_cons_succ, List.getD_cons_zero, List.getD_cons_succ, List.set_cons_zero, List.set_cons_succ, List.nil_append, List.cons_append, Option.toList, Bool.or_false, Bool.false_or, Bool.or_true, Bool.true_or, Nat.reduceBEq, Nat.reduceAdd, Nat.reduceLT, Nat.reduceLeDiff, Int.reduceAdd, Int.reduceToNat, true_and, and_true, Fin.isValue, Fin.val_zero, Fin.val_one, Fin.val_two, Fin.reduceFinMk, eq_self, Int.reduceNeg, imp_self, Nat.reduceMul, Nat.le_refl, not_true_eq_false, not_false_eq_true, List.getElem?_nil, reduceCtorEq, true_or, or_true, Classical.not_not, implies_true, or_self, wI_0, wI_1, wI_m1, b2i_w, b2i_eq0, b2i_eq1, b2i_bool, nor_self, nx_pI, kd_pI, ln_pI, fI_pI, fL_pI, fR_pI, aI_pI, aL_pI, aR_pI, nx_pL, kd_pL, ln_pL, fI_pL, fL_pL, fR_pL, aI_pL, aL_pL, aR_pL, nx_pR, kd_pR, ln_pR, fI_pR, fL_pR, fR_pR, aI_pR, aL_pR, aR_pR, nx_qI, kd_qI, ln_qI, fI_qI, fL_qI, fR_qI, aI_qI, aL_qI, aR_qI, nx_qL, kd_qL, ln_qL, fI_qL, fL_qL, fR_qL, aI_qL, aL_qL, aR_qL, nx_qR, kd_qR, ln_qR, fI_qR, fL_qR, fR_qR, aI_qR, aL_qR, aR_qR, nx_mk, kd_mk, ln_mk, fI_mk, fL_mk, fR_mk, aI_mk, aL_mk, aR_mk, false_and, and_false, if_false, if_true, and_self, Int.reduceEq, Nat.reduceEqDiff, ite_self, MLay_pI, MLay_pL, MLay_qI, MLay_qL, ev_X9_copyTape_33, ev_X9_copyTape_35, ev_X9_copyTape_37, ev_X9_copyTape_38, ev_X9_copyTape_40, ev_X9_copyTape_41, ev_X9_copyTape_44, ev_X9_copyTape_46, ev_X9_copyTape_47, ev_X9_copyTape_48, ev_X9_copyTape_51, ev_X9_copyTape_53, ev_X9_copyTape_56, ev_X9_copyTape_58, ev_X9_copyTape_59, ev_X9_copyTape_60, ev_X9_copyTape_63, ev_X9_copyTape_64, ev_X9_copyTape_66, ev_X9_copyTape_67, ev_X9_copyTape_68, ev_X9_copyTape_69, ev_X9_copyTape_71, ev_X9_copyTape_73, ev_X9_copyTape_74, ev_X9_copyTape_75, ev_X9_copyTape_76, ev_X9_copyTape_77, ev_X9_copyTape_80, xt_X9_copyTape, xf_X9_copyTape, hk, g1, g2, g3, g4, g5, h1, h2, hx, es, eb, hr, hr2]
          try simp (disch := omega) only [wI_id, dv_nn, rm_nn]
          repeat' (first | intro z | apply And.intro)
          all_goals try omega
          all_goals try contradiction
          have w77 : Go M_X9_copyTape Q 77 [some (vr this), some (vi f), some (vi t), some (vr r), some (vi i), some (vi (x - f)), some (vi y)] [] (qL τ r y (aL τ r y ||| 1#64 <<< ((x - f) % 64).toNat)) (0, 0) := by
            refine go_X9_copyTape (ct := fun p => p == 3) 20 ?_
            simp only [oI, oL, oR, o1, lI, lL, lR, popN, catS, gv, stL, stL2, swt, cnd, spObj, List.getElem?_cons_zero, List.getElem?_cons_succ, List.getD_cons_zero, List.getD_cons_succ, List.set_cons_zero, List.set_cons_succ, List.nil_append, List.cons_append, Option.toList, Bool.or_false, Bool.false_or, Bool.or_true, Bool.true_or, Nat.reduceBEq, Nat.reduceAdd, Nat.reduceLT, Nat.reduceLeDiff, Int.reduceAdd, Int.reduceToNat, true_and, and_true, Fin.isValue, Fin.val_zero, Fin.val_one, Fin.val_two, Fin.reduceFinMk, eq_self, Int.reduceNeg, imp_self, Nat.reduceMul, Nat.le_refl, not_true_eq_false, not_false_eq_true, List.getElem?_nil, reduceCtorEq, true_or, or_true, Classical.not_not, implies_true, or_self, wI_0, wI_1, wI_m1, b2i_w, b2i_eq0, b2i_eq1, b2i_bool, nor_self, nx_pI, kd_pI, ln_pI, fI_pI, fL_pI, fR_pI, aI_pI, aL_pI, aR_pI, nx_pL, kd_pL, ln_pL, fI_pL, fL_pL, fR_pL, aI_pL, aL_pL, aR_pL, nx_pR, kd_pR, ln_pR, fI_pR, fL_pR, fR_pR, aI_pR, aL_pR, aR_pR, nx_qI, kd_qI, ln_qI, fI_qI, fL_qI, fR_qI, aI_qI, aL_qI, aR_qI, nx_qL, kd_qL, ln_qL, fI_qL, fL_qL, fR_qL, aI_qL, aL_qL, aR_qL, nx_qR, kd_qR, ln_qR, fI_qR, fL_qR, fR_qR, aI_qR, aL_qR, aR_qR, nx_mk, kd_mk, ln_mk, fI_mk, fL_mk, fR_mk, aI_mk, aL_mk, aR_mk, false_and, and_false, if_false, if_true, and_self, Int.reduceEq, Nat.reduceEqDiff, ite_self, MLay_pI, MLay_pL, MLay_qI, MLay_qL, ev_X9_copyTape_77, ev_X9_copyTape_80, xt_X9_copyTape, xf_X9_copyTape]
            exact ih
          all_goals first | exact w77 | omega
        · have ih := ih (some (vi (x - f))) (some (vi ((x - f) / 64)))
          rw [if_neg c] at ih
          have w77 : Go M_X9_copyTape Q 77 [some (vr this), some (vi f), some (vi t), some (vr r), some (vi i), some (vi (x - f)), some (vi ((x - f) / 64))] [] τ (0, 0) := by
            refine go_X9_copyTape (ct := fun p => p == 3) 20 ?_
            simp only [oI, oL, oR, o1, lI, lL, lR, popN, catS, gv, stL, stL2, swt, cnd, spObj, List.getElem?_cons_zero, List.getElem?_cons_succ, List.getD_cons_zero, List.getD_cons_succ, List.set_cons_zero, List.set_cons_succ, List.nil_append, List.cons_append, Option.toList, Bool.or_false, Bool.false_or, Bool.or_true, Bool.true_or, Nat.reduceBEq, Nat.reduceAdd, Nat.reduceLT, Nat.reduceLeDiff, Int.reduceAdd, Int.reduceToNat, true_and, and_true, Fin.isValue, Fin.val_zero, Fin.val_one, Fin.val_two, Fin.reduceFinMk, eq_self, Int.reduceNeg, imp_self, Nat.reduceMul, Nat.le_refl, not_true_eq_false, not_false_eq_true, List.getElem?_nil, reduceCtorEq, true_or, or_true, Classical.not_not, implies_true, or_self, wI_0, wI_1, wI_m1, b2i_w, b2i_eq0, b2i_eq1, b2i_bool, nor_self, nx_pI, kd_pI, ln_pI, fI_pI, fL_pI, fR_pI, aI_pI, aL_pI, aR_pI, nx_pL, kd_pL, ln_pL, fI_pL, fL_pL, fR_pL, aI_pL, aL_pL, aR_pL, nx_pR, kd_pR, ln_pR, fI_pR, fL_pR, fR_pR, aI_pR, aL_pR, aR_pR, nx_qI, kd_qI, ln_qI, fI_qI, fL_qI, fR_qI, aI_qI, aL_qI, aR_qI, nx_qL, kd_qL, ln_qL, fI_qL, fL_qL, fR_qL, aI_qL, aL_qL, aR_qL, nx_qR, kd_qR, ln_qR, fI_qR, fL_qR, fR_qR, aI_qR, aL_qR, aR_qR, nx_mk, kd_mk, ln_mk, fI_mk, fL_mk, fR_mk, aI_mk, aL_mk, aR_mk, false_and, and_false, if_false, if_true, and_self, Int.reduceEq, Nat.reduceEqDiff, ite_self, MLay_pI, MLay_pL, MLay_qI, MLay_qL, ev_X9_copyTape_77, ev_X9_copyTape_80, xt_X9_copyTape, xf_X9_copyTape]
            exact ih
          clear ih
          generalize hy : (x - f) / 64 = y at *
          refine go_X9_copyTape (ct := fun p => p == 3 || p == 77 || p == 63) 60 ?_
          simp only [oI, oL, oR, o1, lI, lL, lR, popN, catS, gv, stL, stL2, swt, cnd, spObj, List.getElem?_cons_zero, List.getElem?_cons_succ, List.getD_cons_zero, List.getD_cons_succ, List.set_cons_zero, List.set_cons_succ, List.nil_append, List.cons_append, Option.toList, Bool.or_false, Bool.false_or, Bool.or_true, Bool.true_or, Nat.reduceBEq, Nat.reduceAdd, Nat.reduceLT, Nat.reduceLeDiff, Int.reduceAdd, Int.reduceToNat, true_and, and_true, Fin.isValue, Fin.val_zero, Fin.val_one, Fin.val_two, Fin.reduceFinMk, eq_self, Int.reduceNeg, imp_self, Nat.reduceMul, Nat.le_refl, not_true_eq_false, not_false_eq_true, List.getElem?_nil, reduceCtorEq, true_or, or_true, Classical.not_not, implies_true, or_self, wI_0, wI_1, wI_m1, b2i_w, b2i_eq0, b2i_eq1, b2i_bool, nor_self, nx_pI, kd_pI, ln_pI, fI_pI, fL_pI, fR_pI, aI_pI, aL_pI, aR_pI, nx_pL, kd_pL, ln_pL, fI_pL, fL_pL, fR_pL, aI_pL, aL_pL, aR_pL, nx_pR, kd_pR, ln_pR, fI_pR, fL_pR, fR_pR, aI_pR, aL_pR, aR_pR, nx_qI, kd_qI, ln_qI, fI_qI, fL_qI, fR_qI, aI_qI, aL_qI, aR_qI, nx_qL, kd_qL, ln_qL, fI_qL, fL_qL, fR_qL, aI_qL, aL_qL, aR_qL, nx_qR, kd_qR, ln_qR, fI_qR, fL_qR, fR_qR, aI_qR, aL_qR, aR_qR, nx_mk, kd_mk, ln_mk, fI_mk, fL_mk, fR_mk, aI_mk, aL_mk, aR_mk, false_and, and_false, if_false, if_true, and_self, Int.reduceEq, Nat.reduceEqDiff, ite_self, MLay_pI, MLay_pL, MLay_qI, MLay_qL, ev_X9_copyTape_33, ev_X9_copyTape_35, ev_X9_copyTape_37, ev_X9_copyTape_38, ev_X9_copyTape_40, ev_X9_copyTape_41, ev_X9_copyTape_44, ev_X9_copyTape_46, ev_X9_copyTape_47, ev_X9_copyTape_48, ev_X9_copyTape_51, ev_X9_copyTape_53, ev_X9_copyTape_56, ev_X9_copyTape_58, ev_X9_copyTape_59, ev_X9_copyTape_60, xt_X9_copyTape, xf_X9_copyTape, hk, g1, g2, g3, g4, g5, h1, h2, hx, es, hr, hr2]
          try simp (disch := omega) only [wI_id, dv_nn, rm_nn]
          repeat' (first | intro z | apply And.intro)
          all_goals try omega
          all_goals try contradiction
          all_goals first | exact w77 | omega
      clear ih
      refine go_X9_copyTape (ct := fun p => p == 83 || p == 33) 40 ?_
      simp only [oI, oL, oR, o1, lI, lL, lR, popN, catS, gv, stL, stL2, swt, cnd, spObj, List.getElem?_cons_zero, List.getElem?_cons_succ, List.getD_cons_zero, List.getD_cons_succ, List.set_cons_zero, List.set_cons_succ, List.nil_append, List.cons_append, Option.toList, Bool.or_false, Bool.false_or, Bool.or_true, Bool.true_or, Nat.reduceBEq, Nat.reduceAdd, Nat.reduceLT, Nat.reduceLeDiff, Int.reduceAdd, Int.reduceToNat, true_and, and_true, Fin.isValue, Fin.val_zero, Fin.val_one, Fin.val_two, Fin.reduceFinMk, eq_self, Int.reduceNeg, imp_self, Nat.reduceMul, Nat.le_refl, not_true_eq_false, not_false_eq_true, List.getElem?_nil, reduceCtorEq, true_or, or_true, Classical.not_not, implies_true, or_self, wI_0, wI_1, wI_m1, b2i_w, b2i_eq0, b2i_eq1, b2i_bool, nor_self, nx_pI, kd_pI, ln_pI, fI_pI, fL_pI, fR_pI, aI_pI, aL_pI, aR_pI, nx_pL, kd_pL, ln_pL, fI_pL, fL_pL, fR_pL, aI_pL, aL_pL, aR_pL, nx_pR, kd_pR, ln_pR, fI_pR, fL_pR, fR_pR, aI_pR, aL_pR, aR_pR, nx_qI, kd_qI, ln_qI, fI_qI, fL_qI, fR_qI, aI_qI, aL_qI, aR_qI, nx_qL, kd_qL, ln_qL, fI_qL, fL_qL, fR_qL, aI_qL, aL_qL, aR_qL, nx_qR, kd_qR, ln_qR, fI_qR, fL_qR, fR_qR, aI_qR, aL_qR, aR_qR, nx_mk, kd_mk, ln_mk, fI_mk, fL_mk, fR_mk, aI_mk, aL_mk, aR_mk, false_and, and_false, if_false, if_true, and_self, Int.reduceEq, Nat.reduceEqDiff, ite_self, MLay_pI, MLay_pL, MLay_qI, MLay_qL, ev_X9_copyTape_3, ev_X9_copyTape_5, ev_X9_copyTape_6, ev_X9_copyTape_9, ev_X9_copyTape_12, ev_X9_copyTape_14, ev_X9_copyTape_15, ev_X9_copyTape_18, ev_X9_copyTape_19, ev_X9_copyTape_22, ev_X9_copyTape_23, ev_X9_copyTape_26, ev_X9_copyTape_28, ev_X9_copyTape_29, ev_X9_copyTape_30, ev_X9_copyTape_31, xt_X9_copyTape, xf_X9_copyTape, hk, g1, g2, g3, g4, g5, h1, h2, hx]
      try simp (disch := omega) only [wI_id, dv_nn, rm_nn]
      repeat' (first | intro z | apply And.intro)
      all_goals try omega
      all_goals try contradiction
      all_goals exact w33 _
  have w := loop (fI σ 1003 this).toNat 0 none none (by show ((0 : Nat) : Int) + _ = _; omega)
  refine go_X9_copyTape (ct := fun p => p == 3) 40 ?_
  simp only [oI, oL, oR, o1, lI, lL, lR, popN, catS, gv, stL, stL2, swt, cnd, spObj, List.getElem?_cons_zero, List.getElem?_cons_succ, List.getD_cons_zero, List.getD_cons_succ, List.set_cons_zero, List.set_cons_succ, List.nil_append, List.cons_append, Option.toList, Bool.or_false, Bool.false_or, Bool.or_true, Bool.true_or, Nat.reduceBEq, Nat.reduceAdd, Nat.reduceLT, Nat.reduceLeDiff, Int.reduceAdd, Int.reduceToNat, true_and, and_true, Fin.isValue, Fin.val_zero, Fin.val_one, Fin.val_two, Fin.reduceFinMk, eq_self, Int.reduceNeg, imp_self, Nat.reduceMul, Nat.le_refl, not_true_eq_false, not_false_eq_true, List.getElem?_nil, reduceCtorEq, true_or, or_true, Classical.not_not, implies_true, or_self, wI_0, wI_1, wI_m1, b2i_w, b2i_eq0, b2i_eq1, b2i_bool, nor_self, nx_pI, kd_pI, ln_pI, fI_pI, fL_pI, fR_pI, aI_pI, aL_pI, aR_pI, nx_pL, kd_pL, ln_pL, fI_pL, fL_pL, fR_pL, aI_pL, aL_pL, aR_pL, nx_pR, kd_pR, ln_pR, fI_pR, fL_pR, fR_pR, aI_pR, aL_pR, aR_pR, nx_qI, kd_qI, ln_qI, fI_qI, fL_qI, fR_qI, aI_qI, aL_qI, aR_qI, nx_qL, kd_qL, ln_qL, fI_qL, fL_qL, fR_qL, aI_qL, aL_qL, aR_qL, nx_qR, kd_qR, ln_qR, fI_qR, fL_qR, fR_qR, aI_qR, aL_qR, aR_qR, nx_mk, kd_mk, ln_mk, fI_mk, fL_mk, fR_mk, aI_mk, aL_mk, aR_mk, false_and, and_false, if_false, if_true, and_self, Int.reduceEq, Nat.reduceEqDiff, ite_self, MLay_pI, MLay_pL, MLay_qI, MLay_qL, ev_X9_copyTape_0, ev_X9_copyTape_1, xt_X9_copyTape, xf_X9_copyTape]
  exact w
