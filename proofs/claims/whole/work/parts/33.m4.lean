/-! the reference: ticks, counts -/

theorem fI_mSt1 (σ : Hp) (l t : Int) : fI (mSt1 σ l t) = fI σ := by unfold mSt1; split <;> rfl
theorem fI_mSt2 (σ : Hp) (l t : Int) : fI (mSt2 σ l t) = fI σ := by unfold mSt2; split <;> rfl
theorem fI_mTk (σ : Hp) (t : Int) : ∀ n : Nat, fI (mTk σ t n) = fI σ
  | 0 => rfl
  | n + 1 => by
    show fI (mStep (mTk σ t n) n t) = _
    unfold mStep
    rw [fI_mSt2, fI_mSt1, fI_mTk σ t n]
theorem taped_mTk2 (σ : Hp) (t : Int) : ∀ (n : Nat) (j : Int), aI (mTk σ t n) 78 j ≤ aI σ 78 j + (if j < n then 1 else 0)
  | 0, j => by
    show aI σ 78 j ≤ _
    split <;> omega
  | n + 1, j => by
    have ih := taped_mTk2 σ t n j
    show aI (mStep (mTk σ t n) n t) _ j ≤ _
    by_cases e : j = n
    · subst e
      have h2 := taped_mSt2 (mSt1 (mTk σ t n) n t) n t n
      rw [taped_mSt1, taped_mTk σ t n n (Int.le_refl _)] at h2
      rw [if_pos (by omega)]
      exact h2.1
    · rw [taped_mStep _ _ _ e]
      split at ih <;> split <;> omega
theorem began_mSt1 (σ : Hp) (l t j : Int) : aI (mSt1 σ l t) 69 j ≤ aI σ 69 j ∨ aI (mSt1 σ l t) 69 j ≤ t := by
  unfold mSt1
  split
  · simp only [aI_qI]
    split
    · exact Or.inr (Int.le_refl _)
    · simp
  · exact Or.inl (Int.le_refl _)
theorem began_mSt2 (σ : Hp) (l t j : Int) : aI (mSt2 σ l t) 69 j = aI σ 69 j := by
  unfold mSt2
  split
  · simp only [aI_qI]; simp
  · rfl
theorem began_mTk (σ : Hp) (t : Int) (j : Int) : ∀ n : Nat, aI (mTk σ t n) 69 j ≤ aI σ 69 j ∨ aI (mTk σ t n) 69 j ≤ t
  | 0 => Or.inl (Int.le_refl _)
  | n + 1 => by
    show aI (mStep (mTk σ t n) n t) _ j ≤ _ ∨ aI (mStep (mTk σ t n) n t) _ j ≤ _
    unfold mStep
    rw [began_mSt2]
    have h1 := began_mSt1 (mTk σ t n) n t j
    have h2 := began_mTk σ t j n
    omega
/-- what the reference keeps to beside its numbers' ranges -/
def MT (σ : Hp) : Prop := MI σ ∧ (∀ j, aI σ 78 j ≤ fI σ 1301 61) ∧ ∀ j, aI σ 69 j ≤ fI σ 1301 61 + 1
/-- n ticks -/
noncomputable def mTs (σ : Hp) : Nat → Hp
  | 0 => σ
  | n + 1 => mTk (pI (mTs σ n) 1301 61 (fI σ 1301 61 + n + 1)) (fI σ 1301 61 + n + 1) 4
theorem now_mTs (σ : Hp) : ∀ n : Nat, fI (mTs σ n) 1301 61 = fI σ 1301 61 + n
  | 0 => by show fI σ 1301 61 = _; omega
  | n + 1 => by
    show fI (mTk (pI (mTs σ n) 1301 61 (fI σ 1301 61 + n + 1)) (fI σ 1301 61 + n + 1) 4) _ _ = _
    rw [fI_mTk, fI_pI, if_pos ⟨rfl, rfl⟩]; omega
theorem MT_mTs {σ : Hp} (h : MT σ) : ∀ n : Nat, fI σ 1301 61 + n ≤ 999999 → MT (mTs σ n)
  | 0, _ => h
  | n + 1, hn => by
    have ih := MT_mTs h n (by omega)
    have e := now_mTs σ n
    have hs := h.1.now_s
    have hM : MI (pI (mTs σ n) 1301 61 (fI σ 1301 61 + n + 1)) := MI_now_p ih.1 (by omega)
    refine ⟨MI_mTk hM (by omega) (fun j => ?_) 4, fun j => ?_, fun j => ?_⟩
    · have := ih.2.1 j
      rw [aI_pI]; omega
    · have h1 := ih.2.1 j
      have h2 := taped_mTk2 (pI (mTs σ n) 1301 61 (fI σ 1301 61 + n + 1)) (fI σ 1301 61 + n + 1) 4 j
      rw [aI_pI] at h2
      rw [now_mTs]
      show aI (mTk (pI (mTs σ n) 1301 61 (fI σ 1301 61 + n + 1)) (fI σ 1301 61 + n + 1) 4) _ _ ≤ _
      split at h2 <;> omega
    · have h1 := ih.2.2 j
      have h2 := began_mTk (pI (mTs σ n) 1301 61 (fI σ 1301 61 + n + 1)) (fI σ 1301 61 + n + 1) j 4
      rw [aI_pI] at h2
      rw [now_mTs]
      show aI (mTk (pI (mTs σ n) 1301 61 (fI σ 1301 61 + n + 1)) (fI σ 1301 61 + n + 1) 4) _ _ ≤ _
      omega

def sp_X12_ticks : Sp := fun av σ Q => oR av fun this av => oI av fun n av => av = [] ∧ kd σ this = 13 ∧ (this = 61 ∧ MT σ ∧ inR n ∧ (((0 ≤ n ∧ n ≤ 5000) ∧ fI σ 1301 61 + n ≤ 999999) → Q (some (vi (fI σ 1301 61 + n))) (mTs (pI σ 1300 61 0) n.toNat)) ∧ (¬ ((0 ≤ n ∧ n ≤ 5000) ∧ fI σ 1301 61 + n ≤ 999999) → Q (some (vi (-1))) (pI σ 1300 61 0)))
theorem us_X12_ticks (this : Int) (n : Int) (σ : Hp) (Q : Option AV → Hp → Prop) : sp_X12_ticks [vr this, vi n] σ Q = (kd σ this = 13 ∧ (this = 61 ∧ MT σ ∧ inR n ∧ (((0 ≤ n ∧ n ≤ 5000) ∧ fI σ 1301 61 + n ≤ 999999) → Q (some (vi (fI σ 1301 61 + n))) (mTs (pI σ 1300 61 0) n.toNat)) ∧ (¬ ((0 ≤ n ∧ n ≤ 5000) ∧ fI σ 1301 61 + n ≤ 999999) → Q (some (vi (-1))) (pI σ 1300 61 0)))) := propext ⟨fun h => h.2, fun h => ⟨rfl, h⟩⟩
theorem el_X12_ticks {av : List AV} {σ : Hp} {Q : Option AV → Hp → Prop} (h : sp_X12_ticks av σ Q) : ∃ (this : Int) (n : Int), av = [vr this, vi n] ∧ (kd σ this = 13 ∧ (this = 61 ∧ MT σ ∧ inR n ∧ (((0 ≤ n ∧ n ≤ 5000) ∧ fI σ 1301 61 + n ≤ 999999) → Q (some (vi (fI σ 1301 61 + n))) (mTs (pI σ 1300 61 0) n.toNat)) ∧ (¬ ((0 ≤ n ∧ n ≤ 5000) ∧ fI σ 1301 61 + n ≤ 999999) → Q (some (vi (-1))) (pI σ 1300 61 0)))) := by
  obtain ⟨this, a0, rfl, h0⟩ := oR_s h
  obtain ⟨n, a1, rfl, h1⟩ := oI_s h0
  obtain ⟨rfl, hz⟩ := h1
  exact ⟨this, n, rfl, hz⟩
theorem rc_X12_ticks : ∀ (av : List AV) (σ : Hp) (Q : Option AV → Hp → Prop), sp_X12_ticks av σ Q → ∃ r tl, av = vr r :: tl ∧ kd σ r = 12 + 1 := fun av σ Q h => by
  obtain ⟨this, n, rfl, hz, -⟩ := el_X12_ticks h
  exact ⟨this, _, rfl, hz⟩

def tb_X12_ticks : Tab := [(0, .aload_n 0, 1, (0, 0, 0, 0)), (1, .iconst 0, 1, (0, 0, 0, 0)), (2, .putfield 196, 3, (13, 1300, 0, 0)), (5, .iload_n 1, 1, (0, 0, 0, 0)), (6, .iconst 0, 1, (0, 0, 0, 0)), (7, .sipush 5000, 3, (0, 0, 0, 0)), (10, .invokestatic 202, 3, (0, 0, 0, 0)), (13, .ifCond .eq 14, 3, (0, 0, 0, 0)), (16, .aload_n 0, 1, (0, 0, 0, 0)), (17, .getfield 217, 3, (13, 1301, 0, 0)), (20, .iload_n 1, 1, (0, 0, 0, 0)), (21, .iadd, 1, (0, 0, 0, 0)), (22, .ldc 230, 2, (1, 0, 0, 999999)), (24, .if_icmp .le 5, 3, (0, 0, 0, 0)), (27, .iconst (-1), 1, (0, 0, 0, 0)), (28, .ireturn, 1, (0, 0, 0, 0)), (29, .iconst 0, 1, (0, 0, 0, 0)), (30, .istore_n 2, 1, (0, 0, 0, 0)), (31, .iload_n 2, 1, (0, 0, 0, 0)), (32, .iload_n 1, 1, (0, 0, 0, 0)), (33, .if_icmp .ge 27, 3, (0, 0, 0, 0)), (36, .aload_n 0, 1, (0, 0, 0, 0)), (37, .dup, 1, (0, 0, 0, 0)), (38, .getfield 217, 3, (13, 1301, 0, 0)), (41, .iconst 1, 1, (0, 0, 0, 0)), (42, .iadd, 1, (0, 0, 0, 0)), (43, .putfield 217, 3, (13, 1301, 0, 0)), (46, .aload_n 0, 1, (0, 0, 0, 0)), (47, .aload_n 0, 1, (0, 0, 0, 0)), (48, .getfield 217, 3, (13, 1301, 0, 0)), (51, .invokevirtual 231, 3, (0, 0, 0, 0)), (54, .iinc 2 1, 3, (0, 0, 0, 0)), (57, .goto (-26), 3, (0, 0, 0, 0)), (60, .aload_n 0, 1, (0, 0, 0, 0)), (61, .getfield 217, 3, (13, 1301, 0, 0)), (64, .ireturn, 1, (0, 0, 0, 0))]
set_option maxRecDepth 100000 in
theorem tk_X12_ticks : TOK RX12 false cX12_ticks tb_X12_ticks := chkT_ok ft_X12 (by decide +kernel)
theorem rw_X12_1848 : Row RX12 (.invokevirtual 231) 3 2 0 0 4 sp_X12_tick := row_V (n := 1) (ci := 12) c_X12_tick ⟨TBL_in 1803 (by decide +kernel) rfl, TBL_in 1806 (by decide +kernel) rfl, TBL_in 123 (by decide +kernel) rfl, by decide +kernel, by decide⟩ (by decide) rfl (TBL_in 1805 (by decide +kernel) rfl) (TBL_in 67 (by decide +kernel) rfl) rc_X12_tick
def mt_X12_ticks : List (Nat × Mt) := [(1617, 3, 0, 0, 1, sp_X12_within), (1848, 2, 0, 0, 4, sp_X12_tick)]
theorem em_X12_ticks : mt_X12_ticks.lookup 1617 = some (3, 0, 0, 1, sp_X12_within) ∧ mt_X12_ticks.lookup 1848 = some (2, 0, 0, 4, sp_X12_tick) := ⟨rfl, rfl⟩
theorem mk_X12_ticks : MOK RX12 mt_X12_ticks := by
  intro q hq
  simp only [mt_X12_ticks, List.mem_cons, List.not_mem_nil, or_false] at hq
  rcases hq with rfl | rfl
  · exact rw_X12_1617
  · exact rw_X12_1848
noncomputable def xe_X12_ticks (ct : Nat → Bool) (K : Kt) (R : Option AV → Hp → Prop) (n : Nat) : Kt := exS 3 5 0 0 1 tb_X12_ticks mt_X12_ticks ct K R n
noncomputable def xk_X12_ticks (ct : Nat → Bool) (K : Kt) (R : Option AV → Hp → Prop) (n : Nat) : Kt := exkS 3 5 0 0 1 tb_X12_ticks mt_X12_ticks ct K R n
theorem xt_X12_ticks {ct : Nat → Bool} {K : Kt} {R : Option AV → Hp → Prop} {n pc : Nat} {ls : List (Option AV)} {st : List AV} {σ : Hp} {k : Nat × Nat} (h : ct pc = true) : xk_X12_ticks ct K R n pc ls st σ k = K pc ls st σ k := by unfold xk_X12_ticks exkS; rw [h]
theorem xf_X12_ticks {ct : Nat → Bool} {K : Kt} {R : Option AV → Hp → Prop} {n pc : Nat} {ls : List (Option AV)} {st : List AV} {σ : Hp} {k : Nat × Nat} (h : ct pc = false) : xk_X12_ticks ct K R n pc ls st σ k = xe_X12_ticks ct K R n pc ls st σ k := by unfold xk_X12_ticks exkS xe_X12_ticks; rw [h]
theorem ev_X12_ticks {ct : Nat → Bool} {K : Kt} {R : Option AV → Hp → Prop} {n : Nat} {ls : List (Option AV)} {st : List AV} {σ : Hp} {k : Nat × Nat} :
  xe_X12_ticks ct K R (n + 1) 0 ls st σ k = (lR ls 0 fun x => xk_X12_ticks ct K R n 1 ls (vr x :: st) σ k) ∧
  xe_X12_ticks ct K R (n + 1) 1 ls st σ k = (xk_X12_ticks ct K R n 2 ls (vi (0) :: st) σ k) ∧
  xe_X12_ticks ct K R (n + 1) 2 ls st σ k = (oI st fun v st => oR st fun x st => kd σ x = 13 ∧ xk_X12_ticks ct K R n 5 ls st (pI σ 1300 x v) k) ∧
  xe_X12_ticks ct K R (n + 1) 5 ls st σ k = (lI ls 1 fun x => xk_X12_ticks ct K R n 6 ls (vi x :: st) σ k) ∧
  xe_X12_ticks ct K R (n + 1) 6 ls st σ k = (xk_X12_ticks ct K R n 7 ls (vi (0) :: st) σ k) ∧
  xe_X12_ticks ct K R (n + 1) 7 ls st σ k = (xk_X12_ticks ct K R n 10 ls (vi (5000) :: st) σ k) ∧
  xe_X12_ticks ct K R (n + 1) 10 ls st σ k = (popN 3 st [] fun av rest => (catS rest ≤ 8 ∧ 1 < 5 ∧ k.1 + 0 ≤ 0 ∧ k.2 + 0 ≤ 0) ∧ (sp_X12_within) av σ fun v σ' => xk_X12_ticks ct K R n 13 ls (v.toList ++ rest) σ' (k.1 + 0, k.2 + 0)) ∧
  xe_X12_ticks ct K R (n + 1) 13 ls st σ k = (oI st fun x st => (wI x = wI 0 → xk_X12_ticks ct K R n 27 ls st σ k) ∧ (¬ (wI x = wI 0) → xk_X12_ticks ct K R n 16 ls st σ k)) ∧
  xe_X12_ticks ct K R (n + 1) 16 ls st σ k = (lR ls 0 fun x => xk_X12_ticks ct K R n 17 ls (vr x :: st) σ k) ∧
  xe_X12_ticks ct K R (n + 1) 17 ls st σ k = (oR st fun x st => kd σ x = 13 ∧ xk_X12_ticks ct K R n 20 ls (vi (fI σ 1301 x) :: st) σ k) ∧
  xe_X12_ticks ct K R (n + 1) 20 ls st σ k = (lI ls 1 fun x => xk_X12_ticks ct K R n 21 ls (vi x :: st) σ k) ∧
  xe_X12_ticks ct K R (n + 1) 21 ls st σ k = (oI st fun y st => oI st fun x st => xk_X12_ticks ct K R n 22 ls (vi (x + y) :: st) σ k) ∧
  xe_X12_ticks ct K R (n + 1) 22 ls st σ k = (xk_X12_ticks ct K R n 24 ls (vi (999999) :: st) σ k) ∧
  xe_X12_ticks ct K R (n + 1) 24 ls st σ k = (oI st fun y st => oI st fun x st => (wI x ≤ wI y → xk_X12_ticks ct K R n 29 ls st σ k) ∧ (¬ (wI x ≤ wI y) → xk_X12_ticks ct K R n 27 ls st σ k)) ∧
  xe_X12_ticks ct K R (n + 1) 27 ls st σ k = (xk_X12_ticks ct K R n 28 ls (vi (-1) :: st) σ k) ∧
  xe_X12_ticks ct K R (n + 1) 28 ls st σ k = (oI st fun x st => st = [] ∧ True ∧ R (some (vi x)) σ) ∧
  xe_X12_ticks ct K R (n + 1) 29 ls st σ k = (xk_X12_ticks ct K R n 30 ls (vi (0) :: st) σ k) ∧
  xe_X12_ticks ct K R (n + 1) 30 ls st σ k = (oI st fun x st => 2 < 3 ∧ xk_X12_ticks ct K R n 31 (stL ls 2 (vi x)) st σ k) ∧
  xe_X12_ticks ct K R (n + 1) 31 ls st σ k = (lI ls 2 fun x => xk_X12_ticks ct K R n 32 ls (vi x :: st) σ k) ∧
  xe_X12_ticks ct K R (n + 1) 32 ls st σ k = (lI ls 1 fun x => xk_X12_ticks ct K R n 33 ls (vi x :: st) σ k) ∧
  xe_X12_ticks ct K R (n + 1) 33 ls st σ k = (oI st fun y st => oI st fun x st => (wI y ≤ wI x → xk_X12_ticks ct K R n 60 ls st σ k) ∧ (¬ (wI y ≤ wI x) → xk_X12_ticks ct K R n 36 ls st σ k)) ∧
  xe_X12_ticks ct K R (n + 1) 36 ls st σ k = (lR ls 0 fun x => xk_X12_ticks ct K R n 37 ls (vr x :: st) σ k) ∧
  xe_X12_ticks ct K R (n + 1) 37 ls st σ k = (o1 st fun v st => xk_X12_ticks ct K R n 38 ls (v :: v :: st) σ k) ∧
  xe_X12_ticks ct K R (n + 1) 38 ls st σ k = (oR st fun x st => kd σ x = 13 ∧ xk_X12_ticks ct K R n 41 ls (vi (fI σ 1301 x) :: st) σ k) ∧
  xe_X12_ticks ct K R (n + 1) 41 ls st σ k = (xk_X12_ticks ct K R n 42 ls (vi (1) :: st) σ k) ∧
  xe_X12_ticks ct K R (n + 1) 42 ls st σ k = (oI st fun y st => oI st fun x st => xk_X12_ticks ct K R n 43 ls (vi (x + y) :: st) σ k) ∧
  xe_X12_ticks ct K R (n + 1) 43 ls st σ k = (oI st fun v st => oR st fun x st => kd σ x = 13 ∧ xk_X12_ticks ct K R n 46 ls st (pI σ 1301 x v) k) ∧
  xe_X12_ticks ct K R (n + 1) 46 ls st σ k = (lR ls 0 fun x => xk_X12_ticks ct K R n 47 ls (vr x :: st) σ k) ∧
  xe_X12_ticks ct K R (n + 1) 47 ls st σ k = (lR ls 0 fun x => xk_X12_ticks ct K R n 48 ls (vr x :: st) σ k) ∧
  xe_X12_ticks ct K R (n + 1) 48 ls st σ k = (oR st fun x st => kd σ x = 13 ∧ xk_X12_ticks ct K R n 51 ls (vi (fI σ 1301 x) :: st) σ k) ∧
  xe_X12_ticks ct K R (n + 1) 51 ls st σ k = (popN 2 st [] fun av rest => (catS rest ≤ 8 ∧ 4 < 5 ∧ k.1 + 0 ≤ 0 ∧ k.2 + 0 ≤ 0) ∧ (sp_X12_tick) av σ fun v σ' => xk_X12_ticks ct K R n 54 ls (v.toList ++ rest) σ' (k.1 + 0, k.2 + 0)) ∧
  xe_X12_ticks ct K R (n + 1) 54 ls st σ k = (lI ls 2 fun x => 2 < 3 ∧ xk_X12_ticks ct K R n 57 (stL ls 2 (vi (x + (1)))) st σ k) ∧
  xe_X12_ticks ct K R (n + 1) 57 ls st σ k = (xk_X12_ticks ct K R n 31 ls st σ k) ∧
  xe_X12_ticks ct K R (n + 1) 60 ls st σ k = (lR ls 0 fun x => xk_X12_ticks ct K R n 61 ls (vr x :: st) σ k) ∧
  xe_X12_ticks ct K R (n + 1) 61 ls st σ k = (oR st fun x st => kd σ x = 13 ∧ xk_X12_ticks ct K R n 64 ls (vi (fI σ 1301 x) :: st) σ k) ∧
  xe_X12_ticks ct K R (n + 1) 64 ls st σ k = (oI st fun x st => st = [] ∧ True ∧ R (some (vi x)) σ) :=
  ⟨exS_step.trans rfl, exS_step.trans rfl, exS_step.trans rfl, exS_step.trans rfl, exS_step.trans rfl, exS_step.trans rfl, exS_step.trans rfl, exS_step.trans rfl, exS_step.trans rfl, exS_step.trans rfl, exS_step.trans rfl, exS_step.trans rfl, exS_step.trans rfl, exS_step.trans rfl, exS_step.trans rfl, exS_step.trans rfl, exS_step.trans rfl, exS_step.trans rfl, exS_step.trans rfl, exS_step.trans rfl, exS_step.trans rfl, exS_step.trans rfl, exS_step.trans rfl, exS_step.trans rfl, exS_step.trans rfl, exS_step.trans rfl, exS_step.trans rfl, exS_step.trans rfl, exS_step.trans rfl, exS_step.trans rfl, exS_step.trans rfl, exS_step.trans rfl, exS_step.trans rfl, exS_step.trans rfl, exS_step.trans rfl, exS_step.trans rfl⟩
def M_X12_ticks : Md := (yX12_ticks, cX12_ticks, 3, (some FieldType.int), 5, 0, 0, 1, false, tb_X12_ticks, mt_X12_ticks)
theorem mm_X12_ticks : MMOK M_X12_ticks := ⟨by decide +kernel, tk_X12_ticks, mk_X12_ticks, rfl, fun h => by cases h⟩
theorem go_X12_ticks {Q : Option AV → Hp → Prop} {ct : Nat → Bool} {pc : Nat} {ls : List (Option AV)} {st : List AV} {σ : Hp} {k : Nat × Nat} (n : Nat) (h : xe_X12_ticks ct (Go M_X12_ticks Q) Q n pc ls st σ k) : Go M_X12_ticks Q pc ls st σ k := Go.exS mm_X12_ticks h

set_option maxRecDepth 20000 in
theorem c_X12_ticks : Ct yX12_ticks cX12_ticks 3 ((some FieldType.int)) 5 0 0 sp_X12_ticks := by
  refine Ct.go (M := M_X12_ticks) mm_X12_ticks fun av σ Q h0 => ?_
  obtain ⟨this, n, rfl, hk, h⟩ := el_X12_ticks h0
  clear h0
  refine ⟨Nat.le_of_ble_eq_true rfl, ?_⟩
  show Go M_X12_ticks Q 0 [some (vr this), some (vi n), none] [] σ (0, 0)
  obtain ⟨rfl, hT, hn, h1, h2⟩ := h
  have hI := hT.1
  have hs := hI.now_s
  have hT2 : MT (pI σ 1300 61 0) := ⟨MI_fre hI (by decide), hT.2.1, hT.2.2⟩
  have en : ∀ j : Nat, fI (mTs (pI σ 1300 61 0) j) 1301 61 = fI σ 1301 61 + j := fun j => (now_mTs _ j).trans rfl
  have hr := hn
  unfold inR at hr
  have loop : ((0 ≤ n ∧ n ≤ 5000) ∧ fI σ 1301 61 + n ≤ 999999) → ∀ (m j : Nat), (j : Int) + m = n → Go M_X12_ticks Q 31 [some (vr 61), some (vi n), some (vi j)] [] (mTs (pI σ 1300 61 0) j) (0, 0) := by
    intro hc m
    induction m with
    | zero =>
      intro j hj
      have hTj := MT_mTs hT2 j (show fI σ _ _ + j ≤ _ by omega)
      have hk : kd (mTs (pI σ 1300 61 0) j) 61 = 13 := hTj.1.lay.1
      have h1 := h1 hc
      have e : n.toNat = j := by omega
      have e2 : (j : Int) = n := by omega
      rw [e] at h1
      refine go_X12_ticks (ct := fun p => p == 31) 40 ?_
      simp only [oI, oL, oR, o1, lI, lL, lR, popN, catS, gv, stL, stL2, swt, cnd, spObj, List.getElem?_cons_zero, List.getElem?_cons_succ, List.getD_cons_zero, List.getD_cons_succ, List.set_cons_zero, List.set_cons_succ, List.nil_append, List.cons_append, Option.toList, Bool.or_false, Bool.false_or, Bool.or_true, Bool.true_or, Nat.reduceBEq, Nat.reduceAdd, Nat.reduceLT, Nat.reduceLeDiff, Int.reduceAdd, Int.reduceToNat, true_and, and_true, Fin.isValue, Fin.val_zero, Fin.val_one, Fin.val_two, Fin.reduceFinMk, eq_self, Int.reduceNeg, imp_self, Nat.reduceMul, Nat.le_refl, not_true_eq_false, not_false_eq_true, List.getElem?_nil, reduceCtorEq, true_or, or_true, Classical.not_not, implies_true, or_self, wI_0, wI_1, wI_m1, b2i_w, b2i_eq0, b2i_eq1, b2i_bool, nor_self, nx_pI, kd_pI, ln_pI, fI_pI, fL_pI, fR_pI, aI_pI, aL_pI, aR_pI, nx_pL, kd_pL, ln_pL, fI_pL, fL_pL, fR_pL, aI_pL, aL_pL, aR_pL, nx_pR, kd_pR, ln_pR, fI_pR, fL_pR, fR_pR, aI_pR, aL_pR, aR_pR, nx_qI, kd_qI, ln_qI, fI_qI, fL_qI, fR_qI, aI_qI, aL_qI, aR_qI, nx_qL, kd_qL, ln_qL, fI_qL, fL_qL, fR_qL, aI_qL, aL_qL, aR_qL, nx_qR, kd_qR, ln_qR, fI_qR, fL_qR, fR_qR, aI_qR, aL_qR, aR_qR, nx_mk, kd_mk, ln_mk, fI_mk, fL_mk, fR_mk, aI_mk, aL_mk, aR_mk, false_and, and_false, if_false, if_true, and_self, Int.reduceEq, Nat.reduceEqDiff, ite_self, MLay_pI, MLay_pL, MLay_qI, MLay_qL, ev_X12_ticks, xt_X12_ticks, xf_X12_ticks, us_X12_within, us_X12_tick, hk, en, e2]
      try simp (disch := omega) only [wI_id, dv_nn, rm_nn]
      exact ⟨fun _ => h1, fun z => absurd (Int.le_refl _) z⟩
    | succ m ih =>
      intro j hj
      have ih := ih (j + 1) (by omega)
      have hTj := MT_mTs hT2 j (show fI σ _ _ + j ≤ _ by omega)
      have hk : kd (mTs (pI σ 1300 61 0) j) 61 = 13 := hTj.1.lay.1
      have hM : MI (pI (mTs (pI σ 1300 61 0) j) 1301 61 (fI σ 1301 61 + j + 1)) := MI_now_p hTj.1 (by omega)
      have ht := fun i => hTj.2.1 i
      simp only [en] at ht
      simp only [mTs, Int.natCast_add, Int.cast_ofNat_Int] at ih
      refine go_X12_ticks (ct := fun p => p == 31) 40 ?_
      simp only [oI, oL, oR, o1, lI, lL, lR, popN, catS, gv, stL, stL2, swt, cnd, spObj, List.getElem?_cons_zero, List.getElem?_cons_succ, List.getD_cons_zero, List.getD_cons_succ, List.set_cons_zero, List.set_cons_succ, List.nil_append, List.cons_append, Option.toList, Bool.or_false, Bool.false_or, Bool.or_true, Bool.true_or, Nat.reduceBEq, Nat.reduceAdd, Nat.reduceLT, Nat.reduceLeDiff, Int.reduceAdd, Int.reduceToNat, true_and, and_true, Fin.isValue, Fin.val_zero, Fin.val_one, Fin.val_two, Fin.reduceFinMk, eq_self, Int.reduceNeg, imp_self, Nat.reduceMul, Nat.le_refl, not_true_eq_false, not_false_eq_true, List.getElem?_nil, reduceCtorEq, true_or, or_true, Classical.not_not, implies_true, or_self, wI_0, wI_1, wI_m1, b2i_w, b2i_eq0, b2i_eq1, b2i_bool, nor_self, nx_pI, kd_pI, ln_pI, fI_pI, fL_pI, fR_pI, aI_pI, aL_pI, aR_pI, nx_pL, kd_pL, ln_pL, fI_pL, fL_pL, fR_pL, aI_pL, aL_pL, aR_pL, nx_pR, kd_pR, ln_pR, fI_pR, fL_pR, fR_pR, aI_pR, aL_pR, aR_pR, nx_qI, kd_qI, ln_qI, fI_qI, fL_qI, fR_qI, aI_qI, aL_qI, aR_qI, nx_qL, kd_qL, ln_qL, fI_qL, fL_qL, fR_qL, aI_qL, aL_qL, aR_qL, nx_qR, kd_qR, ln_qR, fI_qR, fL_qR, fR_qR, aI_qR, aL_qR, aR_qR, nx_mk, kd_mk, ln_mk, fI_mk, fL_mk, fR_mk, aI_mk, aL_mk, aR_mk, false_and, and_false, if_false, if_true, and_self, Int.reduceEq, Nat.reduceEqDiff, ite_self, MLay_pI, MLay_pL, MLay_qI, MLay_qL, ev_X12_ticks, xt_X12_ticks, xf_X12_ticks, us_X12_within, us_X12_tick, hk, en, hM]
      try simp (disch := omega) only [wI_id, dv_nn, rm_nn]
      repeat' (first | intro z | apply And.intro)
      all_goals try omega
      · have := ht ‹Int›
        omega
      · exact ih
  refine go_X12_ticks (ct := fun p => p == 31) 40 ?_
  simp only [oI, oL, oR, o1, lI, lL, lR, popN, catS, gv, stL, stL2, swt, cnd, spObj, List.getElem?_cons_zero, List.getElem?_cons_succ, List.getD_cons_zero, List.getD_cons_succ, List.set_cons_zero, List.set_cons_succ, List.nil_append, List.cons_append, Option.toList, Bool.or_false, Bool.false_or, Bool.or_true, Bool.true_or, Nat.reduceBEq, Nat.reduceAdd, Nat.reduceLT, Nat.reduceLeDiff, Int.reduceAdd, Int.reduceToNat, true_and, and_true, Fin.isValue, Fin.val_zero, Fin.val_one, Fin.val_two, Fin.reduceFinMk, eq_self, Int.reduceNeg, imp_self, Nat.reduceMul, Nat.le_refl, not_true_eq_false, not_false_eq_true, List.getElem?_nil, reduceCtorEq, true_or, or_true, Classical.not_not, implies_true, or_self, wI_0, wI_1, wI_m1, b2i_w, b2i_eq0, b2i_eq1, b2i_bool, nor_self, nx_pI, kd_pI, ln_pI, fI_pI, fL_pI, fR_pI, aI_pI, aL_pI, aR_pI, nx_pL, kd_pL, ln_pL, fI_pL, fL_pL, fR_pL, aI_pL, aL_pL, aR_pL, nx_pR, kd_pR, ln_pR, fI_pR, fL_pR, fR_pR, aI_pR, aL_pR, aR_pR, nx_qI, kd_qI, ln_qI, fI_qI, fL_qI, fR_qI, aI_qI, aL_qI, aR_qI, nx_qL, kd_qL, ln_qL, fI_qL, fL_qL, fR_qL, aI_qL, aL_qL, aR_qL, nx_qR, kd_qR, ln_qR, fI_qR, fL_qR, fR_qR, aI_qR, aL_qR, aR_qR, nx_mk, kd_mk, ln_mk, fI_mk, fL_mk, fR_mk, aI_mk, aL_mk, aR_mk, false_and, and_false, if_false, if_true, and_self, Int.reduceEq, Nat.reduceEqDiff, ite_self, MLay_pI, MLay_pL, MLay_qI, MLay_qL, ev_X12_ticks, xt_X12_ticks, xf_X12_ticks, us_X12_within, us_X12_tick, hk]
  try simp (disch := omega) only [wI_id, dv_nn, rm_nn]
  repeat' (first | intro z | apply And.intro)
  all_goals try omega
  · exact h2 (by omega)
  · rw [wI_id (by omega) (by omega)] at *
    exact loop ⟨by omega, by omega⟩ n.toNat 0 (by omega)
  · rw [wI_id (by omega) (by omega)] at *
    exact h2 (by omega)

/-- what is counted -/
noncomputable def mCut (σ : Hp) : Nat → Int
  | 0 => 0
  | l + 1 => mCut σ l + hwM (fun w => ¬ aI σ 76 (13 * (l : Int) + w) = 0) (aI σ 74 l + 1).toNat
noncomputable def mCn (σ : Hp) (w : Int) : Int :=
  if w = 0 then fI σ 1301 61 else if w = 1 then fI σ 1302 61 else if w = 2 then fI σ 1332 61 else if w = 3 then fI σ 1335 61 else if w = 4 then hwM (fun c => aI σ 89 c < 0) (fI σ 1335 61).toNat
  else if w = 5 then fI σ 1371 61 else if w = 6 then hwM (fun a => aI σ 112 a = 0) (fI σ 1371 61).toNat else if w = 7 then fI σ 1380 61 else if w = 8 then fI σ 1352 61 else if w = 9 then fI σ 1343 61
  else if w = 10 then hwM (fun b => mGoing σ b) (fI σ 1302 61).toNat else if w = 11 then hwM (fun b => ¬ aI σ 70 b = 0) (fI σ 1302 61).toNat else if w = 12 then mCut σ 4 else -1
theorem mCut_in {σ : Hp} (hI : MI σ) : ∀ l : Nat, 0 ≤ mCut σ l ∧ mCut σ l ≤ 13 * l
  | 0 => by unfold mCut; omega
  | l + 1 => by
    have h1 := mCut_in hI l
    have h2 := hwM_in (fun w => ¬ aI σ 76 (13 * (l : Int) + w) = 0) (aI σ 74 l + 1).toNat
    have h3 := hI.many_ l
    unfold mCut
    omega

def sp_X12_count : Sp := fun av σ Q => oR av fun this av => oI av fun w av => av = [] ∧ kd σ this = 13 ∧ (this = 61 ∧ MI σ ∧ inR w ∧ Q (some (vi (mCn σ w))) (pI σ 1300 61 0))
theorem us_X12_count (this : Int) (w : Int) (σ : Hp) (Q : Option AV → Hp → Prop) : sp_X12_count [vr this, vi w] σ Q = (kd σ this = 13 ∧ (this = 61 ∧ MI σ ∧ inR w ∧ Q (some (vi (mCn σ w))) (pI σ 1300 61 0))) := propext ⟨fun h => h.2, fun h => ⟨rfl, h⟩⟩
theorem el_X12_count {av : List AV} {σ : Hp} {Q : Option AV → Hp → Prop} (h : sp_X12_count av σ Q) : ∃ (this : Int) (w : Int), av = [vr this, vi w] ∧ (kd σ this = 13 ∧ (this = 61 ∧ MI σ ∧ inR w ∧ Q (some (vi (mCn σ w))) (pI σ 1300 61 0))) := by
  obtain ⟨this, a0, rfl, h0⟩ := oR_s h
  obtain ⟨w, a1, rfl, h1⟩ := oI_s h0
  obtain ⟨rfl, hz⟩ := h1
  exact ⟨this, w, rfl, hz⟩
theorem rc_X12_count : ∀ (av : List AV) (σ : Hp) (Q : Option AV → Hp → Prop), sp_X12_count av σ Q → ∃ r tl, av = vr r :: tl ∧ kd σ r = 12 + 1 := fun av σ Q h => by
  obtain ⟨this, w, rfl, hz, -⟩ := el_X12_count h
  exact ⟨this, _, rfl, hz⟩

def tb_X12_count : Tab := [(0, .aload_n 0, 1, (0, 0, 0, 0)), (1, .iconst 0, 1, (0, 0, 0, 0)), (2, .putfield 196, 3, (13, 1300, 0, 0)), (5, .iconst 0, 1, (0, 0, 0, 0)), (6, .istore_n 2, 1, (0, 0, 0, 0)), (7, .iload_n 1, 1, (0, 0, 0, 0)), (8, .tableswitch 255 0 12 #[68, 73, 78, 83, 88, 93, 98, 128, 133, 138, 143, 172, 202], 68, (0, 0, 0, 0)), (76, .aload_n 0, 1, (0, 0, 0, 0)), (77, .getfield 217, 3, (13, 1301, 0, 0)), (80, .ireturn, 1, (0, 0, 0, 0)), (81, .aload_n 0, 1, (0, 0, 0, 0)), (82, .getfield 199, 3, (13, 1302, 0, 0)), (85, .ireturn, 1, (0, 0, 0, 0)), (86, .aload_n 0, 1, (0, 0, 0, 0)), (87, .getfield 290, 3, (13, 1332, 0, 0)), (90, .ireturn, 1, (0, 0, 0, 0)), (91, .aload_n 0, 1, (0, 0, 0, 0)), (92, .getfield 293, 3, (13, 1335, 0, 0)), (95, .ireturn, 1, (0, 0, 0, 0)), (96, .aload_n 0, 1, (0, 0, 0, 0)), (97, .invokevirtual 411, 3, (0, 0, 0, 0)), (100, .ireturn, 1, (0, 0, 0, 0)), (101, .aload_n 0, 1, (0, 0, 0, 0)), (102, .getfield 405, 3, (13, 1371, 0, 0)), (105, .ireturn, 1, (0, 0, 0, 0)), (106, .iconst 0, 1, (0, 0, 0, 0)), (107, .istore_n 3, 1, (0, 0, 0, 0)), (108, .iload_n 3, 1, (0, 0, 0, 0)), (109, .aload_n 0, 1, (0, 0, 0, 0)), (110, .getfield 405, 3, (13, 1371, 0, 0)), (113, .if_icmp .ge 21, 3, (0, 0, 0, 0)), (116, .aload_n 0, 1, (0, 0, 0, 0)), (117, .getfield 162, 3, (13, 1375, 2, 0)), (120, .iload_n 3, 1, (0, 0, 0, 0)), (121, .baload, 1, (0, 0, 0, 0)), (122, .ifCond .ne 6, 3, (0, 0, 0, 0)), (125, .iinc 2 1, 3, (0, 0, 0, 0)), (128, .iinc 3 1, 3, (0, 0, 0, 0)), (131, .goto (-23), 3, (0, 0, 0, 0)), (134, .iload_n 2, 1, (0, 0, 0, 0)), (135, .ireturn, 1, (0, 0, 0, 0)), (136, .aload_n 0, 1, (0, 0, 0, 0)), (137, .getfield 469, 3, (13, 1380, 0, 0)), (140, .ireturn, 1, (0, 0, 0, 0)), (141, .aload_n 0, 1, (0, 0, 0, 0)), (142, .getfield 393, 3, (13, 1352, 0, 0)), (145, .ireturn, 1, (0, 0, 0, 0)), (146, .aload_n 0, 1, (0, 0, 0, 0)), (147, .getfield 301, 3, (13, 1343, 0, 0)), (150, .ireturn, 1, (0, 0, 0, 0)), (151, .iconst 0, 1, (0, 0, 0, 0)), (152, .istore_n 3, 1, (0, 0, 0, 0)), (153, .iload_n 3, 1, (0, 0, 0, 0)), (154, .aload_n 0, 1, (0, 0, 0, 0)), (155, .getfield 199, 3, (13, 1302, 0, 0)), (158, .if_icmp .ge 20, 3, (0, 0, 0, 0)), (161, .aload_n 0, 1, (0, 0, 0, 0)), (162, .iload_n 3, 1, (0, 0, 0, 0)), (163, .invokevirtual 478, 3, (0, 0, 0, 0)), (166, .ifCond .eq 6, 3, (0, 0, 0, 0)), (169, .iinc 2 1, 3, (0, 0, 0, 0)), (172, .iinc 3 1, 3, (0, 0, 0, 0)), (175, .goto (-22), 3, (0, 0, 0, 0)), (178, .iload_n 2, 1, (0, 0, 0, 0)), (179, .ireturn, 1, (0, 0, 0, 0)), (180, .iconst 0, 1, (0, 0, 0, 0)), (181, .istore_n 3, 1, (0, 0, 0, 0)), (182, .iload_n 3, 1, (0, 0, 0, 0)), (183, .aload_n 0, 1, (0, 0, 0, 0)), (184, .getfield 199, 3, (13, 1302, 0, 0)), (187, .if_icmp .ge 21, 3, (0, 0, 0, 0)), (190, .aload_n 0, 1, (0, 0, 0, 0)), (191, .getfield 34, 3, (13, 1311, 2, 0)), (194, .iload_n 3, 1, (0, 0, 0, 0)), (195, .baload, 1, (0, 0, 0, 0)), (196, .ifCond .eq 6, 3, (0, 0, 0, 0)), (199, .iinc 2 1, 3, (0, 0, 0, 0)), (202, .iinc 3 1, 3, (0, 0, 0, 0)), (205, .goto (-23), 3, (0, 0, 0, 0)), (208, .iload_n 2, 1, (0, 0, 0, 0)), (209, .ireturn, 1, (0, 0, 0, 0)), (210, .iconst 0, 1, (0, 0, 0, 0)), (211, .istore_n 3, 1, (0, 0, 0, 0)), (212, .iload_n 3, 1, (0, 0, 0, 0)), (213, .iconst 4, 1, (0, 0, 0, 0)), (214, .if_icmp .ge 47, 3, (0, 0, 0, 0)), (217, .iconst 0, 1, (0, 0, 0, 0)), (218, .istore 4, 2, (0, 0, 0, 0)), (220, .iload 4, 2, (0, 0, 0, 0)), (222, .aload_n 0, 1, (0, 0, 0, 0)), (223, .getfield 47, 3, (13, 1315, 2, 0)), (226, .iload_n 3, 1, (0, 0, 0, 0)), (227, .iaload, 1, (0, 0, 0, 0)), (228, .if_icmp .gt 27, 3, (0, 0, 0, 0)), (231, .aload_n 0, 1, (0, 0, 0, 0)), (232, .getfield 53, 3, (13, 1317, 2, 0)), (235, .bipush 13, 2, (0, 0, 0, 0)), (237, .iload_n 3, 1, (0, 0, 0, 0)), (238, .imul, 1, (0, 0, 0, 0)), (239, .iload 4, 2, (0, 0, 0, 0)), (241, .iadd, 1, (0, 0, 0, 0)), (242, .baload, 1, (0, 0, 0, 0)), (243, .ifCond .eq 6, 3, (0, 0, 0, 0)), (246, .iinc 2 1, 3, (0, 0, 0, 0)), (249, .iinc 4 1, 3, (0, 0, 0, 0)), (252, .goto (-32), 3, (0, 0, 0, 0)), (255, .iinc 3 1, 3, (0, 0, 0, 0)), (258, .goto (-46), 3, (0, 0, 0, 0)), (261, .iload_n 2, 1, (0, 0, 0, 0)), (262, .ireturn, 1, (0, 0, 0, 0)), (263, .iconst (-1), 1, (0, 0, 0, 0)), (264, .ireturn, 1, (0, 0, 0, 0))]
set_option maxRecDepth 100000 in
theorem tk_X12_count : TOK RX12 false cX12_count tb_X12_count := chkT_ok ft_X12 (by decide +kernel)
theorem rw_X12_3288 : Row RX12 (.invokevirtual 411) 3 1 0 0 1 sp_X12_sentCount := row_V (n := 0) (ci := 12) c_X12_sentCount ⟨TBL_in 1958 (by decide +kernel) rfl, TBL_in 1961 (by decide +kernel) rfl, TBL_in 123 (by decide +kernel) rfl, by decide +kernel, by decide⟩ (by decide) rfl (TBL_in 1960 (by decide +kernel) rfl) (TBL_in 89 (by decide +kernel) rfl) rc_X12_sentCount
def mt_X12_count : List (Nat × Mt) := [(3288, 1, 0, 0, 1, sp_X12_sentCount), (3824, 2, 0, 0, 3, sp_X12_isGoing)]
theorem em_X12_count : mt_X12_count.lookup 3288 = some (1, 0, 0, 1, sp_X12_sentCount) ∧ mt_X12_count.lookup 3824 = some (2, 0, 0, 3, sp_X12_isGoing) := ⟨rfl, rfl⟩
theorem mk_X12_count : MOK RX12 mt_X12_count := by
  intro q hq
  simp only [mt_X12_count, List.mem_cons, List.not_mem_nil, or_false] at hq
  rcases hq with rfl | rfl
  · exact rw_X12_3288
  · exact rw_X12_3824
noncomputable def xe_X12_count (ct : Nat → Bool) (K : Kt) (R : Option AV → Hp → Prop) (n : Nat) : Kt := exS 5 4 0 0 1 tb_X12_count mt_X12_count ct K R n
noncomputable def xk_X12_count (ct : Nat → Bool) (K : Kt) (R : Option AV → Hp → Prop) (n : Nat) : Kt := exkS 5 4 0 0 1 tb_X12_count mt_X12_count ct K R n
theorem xt_X12_count {ct : Nat → Bool} {K : Kt} {R : Option AV → Hp → Prop} {n pc : Nat} {ls : List (Option AV)} {st : List AV} {σ : Hp} {k : Nat × Nat} (h : ct pc = true) : xk_X12_count ct K R n pc ls st σ k = K pc ls st σ k := by unfold xk_X12_count exkS; rw [h]
theorem xf_X12_count {ct : Nat → Bool} {K : Kt} {R : Option AV → Hp → Prop} {n pc : Nat} {ls : List (Option AV)} {st : List AV} {σ : Hp} {k : Nat × Nat} (h : ct pc = false) : xk_X12_count ct K R n pc ls st σ k = xe_X12_count ct K R n pc ls st σ k := by unfold xk_X12_count exkS xe_X12_count; rw [h]
theorem ev_X12_count {ct : Nat → Bool} {K : Kt} {R : Option AV → Hp → Prop} {n : Nat} {ls : List (Option AV)} {st : List AV} {σ : Hp} {k : Nat × Nat} :
  xe_X12_count ct K R (n + 1) 0 ls st σ k = (lR ls 0 fun x => xk_X12_count ct K R n 1 ls (vr x :: st) σ k) ∧
  xe_X12_count ct K R (n + 1) 1 ls st σ k = (xk_X12_count ct K R n 2 ls (vi (0) :: st) σ k) ∧
  xe_X12_count ct K R (n + 1) 2 ls st σ k = (oI st fun v st => oR st fun x st => kd σ x = 13 ∧ xk_X12_count ct K R n 5 ls st (pI σ 1300 x v) k) ∧
  xe_X12_count ct K R (n + 1) 5 ls st σ k = (xk_X12_count ct K R n 6 ls (vi (0) :: st) σ k) ∧
  xe_X12_count ct K R (n + 1) 6 ls st σ k = (oI st fun x st => 2 < 5 ∧ xk_X12_count ct K R n 7 (stL ls 2 (vi x)) st σ k) ∧
  xe_X12_count ct K R (n + 1) 7 ls st σ k = (lI ls 1 fun x => xk_X12_count ct K R n 8 ls (vi x :: st) σ k) ∧
  xe_X12_count ct K R (n + 1) 8 ls st σ k = (oI st fun x st => (wI x < 0 ∨ 12 < wI x → xk_X12_count ct K R n 263 ls st σ k) ∧ (wI x = 0 → xk_X12_count ct K R n 76 ls st σ k) ∧ (wI x = 1 → xk_X12_count ct K R n 81 ls st σ k) ∧ (wI x = 2 → xk_X12_count ct K R n 86 ls st σ k) ∧ (wI x = 3 → xk_X12_count ct K R n 91 ls st σ k) ∧ (wI x = 4 → xk_X12_count ct K R n 96 ls st σ k) ∧ (wI x = 5 → xk_X12_count ct K R n 101 ls st σ k) ∧ (wI x = 6 → xk_X12_count ct K R n 106 ls st σ k) ∧ (wI x = 7 → xk_X12_count ct K R n 136 ls st σ k) ∧ (wI x = 8 → xk_X12_count ct K R n 141 ls st σ k) ∧ (wI x = 9 → xk_X12_count ct K R n 146 ls st σ k) ∧ (wI x = 10 → xk_X12_count ct K R n 151 ls st σ k) ∧ (wI x = 11 → xk_X12_count ct K R n 180 ls st σ k) ∧ (wI x = 12 → xk_X12_count ct K R n 210 ls st σ k) ∧ True) ∧
  xe_X12_count ct K R (n + 1) 76 ls st σ k = (lR ls 0 fun x => xk_X12_count ct K R n 77 ls (vr x :: st) σ k) ∧
  xe_X12_count ct K R (n + 1) 77 ls st σ k = (oR st fun x st => kd σ x = 13 ∧ xk_X12_count ct K R n 80 ls (vi (fI σ 1301 x) :: st) σ k) ∧
  xe_X12_count ct K R (n + 1) 80 ls st σ k = (oI st fun x st => st = [] ∧ True ∧ R (some (vi x)) σ) ∧
  xe_X12_count ct K R (n + 1) 81 ls st σ k = (lR ls 0 fun x => xk_X12_count ct K R n 82 ls (vr x :: st) σ k) ∧
  xe_X12_count ct K R (n + 1) 82 ls st σ k = (oR st fun x st => kd σ x = 13 ∧ xk_X12_count ct K R n 85 ls (vi (fI σ 1302 x) :: st) σ k) ∧
  xe_X12_count ct K R (n + 1) 85 ls st σ k = (oI st fun x st => st = [] ∧ True ∧ R (some (vi x)) σ) ∧
  xe_X12_count ct K R (n + 1) 86 ls st σ k = (lR ls 0 fun x => xk_X12_count ct K R n 87 ls (vr x :: st) σ k) ∧
  xe_X12_count ct K R (n + 1) 87 ls st σ k = (oR st fun x st => kd σ x = 13 ∧ xk_X12_count ct K R n 90 ls (vi (fI σ 1332 x) :: st) σ k) ∧
  xe_X12_count ct K R (n + 1) 90 ls st σ k = (oI st fun x st => st = [] ∧ True ∧ R (some (vi x)) σ) ∧
  xe_X12_count ct K R (n + 1) 91 ls st σ k = (lR ls 0 fun x => xk_X12_count ct K R n 92 ls (vr x :: st) σ k) ∧
  xe_X12_count ct K R (n + 1) 92 ls st σ k = (oR st fun x st => kd σ x = 13 ∧ xk_X12_count ct K R n 95 ls (vi (fI σ 1335 x) :: st) σ k) ∧
  xe_X12_count ct K R (n + 1) 95 ls st σ k = (oI st fun x st => st = [] ∧ True ∧ R (some (vi x)) σ) ∧
  xe_X12_count ct K R (n + 1) 96 ls st σ k = (lR ls 0 fun x => xk_X12_count ct K R n 97 ls (vr x :: st) σ k) ∧
  xe_X12_count ct K R (n + 1) 97 ls st σ k = (popN 1 st [] fun av rest => (catS rest ≤ 8 ∧ 1 < 4 ∧ k.1 + 0 ≤ 0 ∧ k.2 + 0 ≤ 0) ∧ (sp_X12_sentCount) av σ fun v σ' => xk_X12_count ct K R n 100 ls (v.toList ++ rest) σ' (k.1 + 0, k.2 + 0)) ∧
  xe_X12_count ct K R (n + 1) 100 ls st σ k = (oI st fun x st => st = [] ∧ True ∧ R (some (vi x)) σ) ∧
  xe_X12_count ct K R (n + 1) 101 ls st σ k = (lR ls 0 fun x => xk_X12_count ct K R n 102 ls (vr x :: st) σ k) ∧
  xe_X12_count ct K R (n + 1) 102 ls st σ k = (oR st fun x st => kd σ x = 13 ∧ xk_X12_count ct K R n 105 ls (vi (fI σ 1371 x) :: st) σ k) ∧
  xe_X12_count ct K R (n + 1) 105 ls st σ k = (oI st fun x st => st = [] ∧ True ∧ R (some (vi x)) σ) ∧
  xe_X12_count ct K R (n + 1) 106 ls st σ k = (xk_X12_count ct K R n 107 ls (vi (0) :: st) σ k) ∧
  xe_X12_count ct K R (n + 1) 107 ls st σ k = (oI st fun x st => 3 < 5 ∧ xk_X12_count ct K R n 108 (stL ls 3 (vi x)) st σ k) ∧
  xe_X12_count ct K R (n + 1) 108 ls st σ k = (lI ls 3 fun x => xk_X12_count ct K R n 109 ls (vi x :: st) σ k) ∧
  xe_X12_count ct K R (n + 1) 109 ls st σ k = (lR ls 0 fun x => xk_X12_count ct K R n 110 ls (vr x :: st) σ k) ∧
  xe_X12_count ct K R (n + 1) 110 ls st σ k = (oR st fun x st => kd σ x = 13 ∧ xk_X12_count ct K R n 113 ls (vi (fI σ 1371 x) :: st) σ k) ∧
  xe_X12_count ct K R (n + 1) 113 ls st σ k = (oI st fun y st => oI st fun x st => (wI y ≤ wI x → xk_X12_count ct K R n 134 ls st σ k) ∧ (¬ (wI y ≤ wI x) → xk_X12_count ct K R n 116 ls st σ k)) ∧
  xe_X12_count ct K R (n + 1) 116 ls st σ k = (lR ls 0 fun x => xk_X12_count ct K R n 117 ls (vr x :: st) σ k) ∧
  xe_X12_count ct K R (n + 1) 117 ls st σ k = (oR st fun x st => kd σ x = 13 ∧ xk_X12_count ct K R n 120 ls (vr (fR σ 1375 x) :: st) σ k) ∧
  xe_X12_count ct K R (n + 1) 120 ls st σ k = (lI ls 3 fun x => xk_X12_count ct K R n 121 ls (vi x :: st) σ k) ∧
  xe_X12_count ct K R (n + 1) 121 ls st σ k = (oI st fun j st => oR st fun x st => (kd σ x = 103 ∨ kd σ x = 21) ∧ (0 ≤ j ∧ j < ln σ x) ∧ xk_X12_count ct K R n 122 ls (vi (aI σ x j) :: st) σ k) ∧
  xe_X12_count ct K R (n + 1) 122 ls st σ k = (oI st fun x st => (¬ wI x = wI 0 → xk_X12_count ct K R n 128 ls st σ k) ∧ (¬ (¬ wI x = wI 0) → xk_X12_count ct K R n 125 ls st σ k)) ∧
  xe_X12_count ct K R (n + 1) 125 ls st σ k = (lI ls 2 fun x => 2 < 5 ∧ xk_X12_count ct K R n 128 (stL ls 2 (vi (x + (1)))) st σ k) ∧
  xe_X12_count ct K R (n + 1) 128 ls st σ k = (lI ls 3 fun x => 3 < 5 ∧ xk_X12_count ct K R n 131 (stL ls 3 (vi (x + (1)))) st σ k) ∧
  xe_X12_count ct K R (n + 1) 131 ls st σ k = (xk_X12_count ct K R n 108 ls st σ k) ∧
  xe_X12_count ct K R (n + 1) 134 ls st σ k = (lI ls 2 fun x => xk_X12_count ct K R n 135 ls (vi x :: st) σ k) ∧
  xe_X12_count ct K R (n + 1) 135 ls st σ k = (oI st fun x st => st = [] ∧ True ∧ R (some (vi x)) σ) ∧
  xe_X12_count ct K R (n + 1) 136 ls st σ k = (lR ls 0 fun x => xk_X12_count ct K R n 137 ls (vr x :: st) σ k) ∧
  xe_X12_count ct K R (n + 1) 137 ls st σ k = (oR st fun x st => kd σ x = 13 ∧ xk_X12_count ct K R n 140 ls (vi (fI σ 1380 x) :: st) σ k) ∧
  xe_X12_count ct K R (n + 1) 140 ls st σ k = (oI st fun x st => st = [] ∧ True ∧ R (some (vi x)) σ) ∧
  xe_X12_count ct K R (n + 1) 141 ls st σ k = (lR ls 0 fun x => xk_X12_count ct K R n 142 ls (vr x :: st) σ k) ∧
  xe_X12_count ct K R (n + 1) 142 ls st σ k = (oR st fun x st => kd σ x = 13 ∧ xk_X12_count ct K R n 145 ls (vi (fI σ 1352 x) :: st) σ k) ∧
  xe_X12_count ct K R (n + 1) 145 ls st σ k = (oI st fun x st => st = [] ∧ True ∧ R (some (vi x)) σ) ∧
  xe_X12_count ct K R (n + 1) 146 ls st σ k = (lR ls 0 fun x => xk_X12_count ct K R n 147 ls (vr x :: st) σ k) ∧
  xe_X12_count ct K R (n + 1) 147 ls st σ k = (oR st fun x st => kd σ x = 13 ∧ xk_X12_count ct K R n 150 ls (vi (fI σ 1343 x) :: st) σ k) ∧
  xe_X12_count ct K R (n + 1) 150 ls st σ k = (oI st fun x st => st = [] ∧ True ∧ R (some (vi x)) σ) ∧
  xe_X12_count ct K R (n + 1) 151 ls st σ k = (xk_X12_count ct K R n 152 ls (vi (0) :: st) σ k) ∧
  xe_X12_count ct K R (n + 1) 152 ls st σ k = (oI st fun x st => 3 < 5 ∧ xk_X12_count ct K R n 153 (stL ls 3 (vi x)) st σ k) ∧
  xe_X12_count ct K R (n + 1) 153 ls st σ k = (lI ls 3 fun x => xk_X12_count ct K R n 154 ls (vi x :: st) σ k) ∧
  xe_X12_count ct K R (n + 1) 154 ls st σ k = (lR ls 0 fun x => xk_X12_count ct K R n 155 ls (vr x :: st) σ k) ∧
  xe_X12_count ct K R (n + 1) 155 ls st σ k = (oR st fun x st => kd σ x = 13 ∧ xk_X12_count ct K R n 158 ls (vi (fI σ 1302 x) :: st) σ k) ∧
  xe_X12_count ct K R (n + 1) 158 ls st σ k = (oI st fun y st => oI st fun x st => (wI y ≤ wI x → xk_X12_count ct K R n 178 ls st σ k) ∧ (¬ (wI y ≤ wI x) → xk_X12_count ct K R n 161 ls st σ k)) ∧
  xe_X12_count ct K R (n + 1) 161 ls st σ k = (lR ls 0 fun x => xk_X12_count ct K R n 162 ls (vr x :: st) σ k) ∧
  xe_X12_count ct K R (n + 1) 162 ls st σ k = (lI ls 3 fun x => xk_X12_count ct K R n 163 ls (vi x :: st) σ k) ∧
  xe_X12_count ct K R (n + 1) 163 ls st σ k = (popN 2 st [] fun av rest => (catS rest ≤ 8 ∧ 3 < 4 ∧ k.1 + 0 ≤ 0 ∧ k.2 + 0 ≤ 0) ∧ (sp_X12_isGoing) av σ fun v σ' => xk_X12_count ct K R n 166 ls (v.toList ++ rest) σ' (k.1 + 0, k.2 + 0)) ∧
  xe_X12_count ct K R (n + 1) 166 ls st σ k = (oI st fun x st => (wI x = wI 0 → xk_X12_count ct K R n 172 ls st σ k) ∧ (¬ (wI x = wI 0) → xk_X12_count ct K R n 169 ls st σ k)) ∧
  xe_X12_count ct K R (n + 1) 169 ls st σ k = (lI ls 2 fun x => 2 < 5 ∧ xk_X12_count ct K R n 172 (stL ls 2 (vi (x + (1)))) st σ k) ∧
  xe_X12_count ct K R (n + 1) 172 ls st σ k = (lI ls 3 fun x => 3 < 5 ∧ xk_X12_count ct K R n 175 (stL ls 3 (vi (x + (1)))) st σ k) ∧
  xe_X12_count ct K R (n + 1) 175 ls st σ k = (xk_X12_count ct K R n 153 ls st σ k) ∧
  xe_X12_count ct K R (n + 1) 178 ls st σ k = (lI ls 2 fun x => xk_X12_count ct K R n 179 ls (vi x :: st) σ k) ∧
  xe_X12_count ct K R (n + 1) 179 ls st σ k = (oI st fun x st => st = [] ∧ True ∧ R (some (vi x)) σ) ∧
  xe_X12_count ct K R (n + 1) 180 ls st σ k = (xk_X12_count ct K R n 181 ls (vi (0) :: st) σ k) ∧
  xe_X12_count ct K R (n + 1) 181 ls st σ k = (oI st fun x st => 3 < 5 ∧ xk_X12_count ct K R n 182 (stL ls 3 (vi x)) st σ k) ∧
  xe_X12_count ct K R (n + 1) 182 ls st σ k = (lI ls 3 fun x => xk_X12_count ct K R n 183 ls (vi x :: st) σ k) ∧
  xe_X12_count ct K R (n + 1) 183 ls st σ k = (lR ls 0 fun x => xk_X12_count ct K R n 184 ls (vr x :: st) σ k) ∧
  xe_X12_count ct K R (n + 1) 184 ls st σ k = (oR st fun x st => kd σ x = 13 ∧ xk_X12_count ct K R n 187 ls (vi (fI σ 1302 x) :: st) σ k) ∧
  xe_X12_count ct K R (n + 1) 187 ls st σ k = (oI st fun y st => oI st fun x st => (wI y ≤ wI x → xk_X12_count ct K R n 208 ls st σ k) ∧ (¬ (wI y ≤ wI x) → xk_X12_count ct K R n 190 ls st σ k)) ∧
  xe_X12_count ct K R (n + 1) 190 ls st σ k = (lR ls 0 fun x => xk_X12_count ct K R n 191 ls (vr x :: st) σ k) ∧
  xe_X12_count ct K R (n + 1) 191 ls st σ k = (oR st fun x st => kd σ x = 13 ∧ xk_X12_count ct K R n 194 ls (vr (fR σ 1311 x) :: st) σ k) ∧
  xe_X12_count ct K R (n + 1) 194 ls st σ k = (lI ls 3 fun x => xk_X12_count ct K R n 195 ls (vi x :: st) σ k) ∧
  xe_X12_count ct K R (n + 1) 195 ls st σ k = (oI st fun j st => oR st fun x st => (kd σ x = 103 ∨ kd σ x = 21) ∧ (0 ≤ j ∧ j < ln σ x) ∧ xk_X12_count ct K R n 196 ls (vi (aI σ x j) :: st) σ k) ∧
  xe_X12_count ct K R (n + 1) 196 ls st σ k = (oI st fun x st => (wI x = wI 0 → xk_X12_count ct K R n 202 ls st σ k) ∧ (¬ (wI x = wI 0) → xk_X12_count ct K R n 199 ls st σ k)) ∧
  xe_X12_count ct K R (n + 1) 199 ls st σ k = (lI ls 2 fun x => 2 < 5 ∧ xk_X12_count ct K R n 202 (stL ls 2 (vi (x + (1)))) st σ k) ∧
  xe_X12_count ct K R (n + 1) 202 ls st σ k = (lI ls 3 fun x => 3 < 5 ∧ xk_X12_count ct K R n 205 (stL ls 3 (vi (x + (1)))) st σ k) ∧
  xe_X12_count ct K R (n + 1) 205 ls st σ k = (xk_X12_count ct K R n 182 ls st σ k) ∧
  xe_X12_count ct K R (n + 1) 208 ls st σ k = (lI ls 2 fun x => xk_X12_count ct K R n 209 ls (vi x :: st) σ k) ∧
  xe_X12_count ct K R (n + 1) 209 ls st σ k = (oI st fun x st => st = [] ∧ True ∧ R (some (vi x)) σ) ∧
  xe_X12_count ct K R (n + 1) 210 ls st σ k = (xk_X12_count ct K R n 211 ls (vi (0) :: st) σ k) ∧
  xe_X12_count ct K R (n + 1) 211 ls st σ k = (oI st fun x st => 3 < 5 ∧ xk_X12_count ct K R n 212 (stL ls 3 (vi x)) st σ k) ∧
  xe_X12_count ct K R (n + 1) 212 ls st σ k = (lI ls 3 fun x => xk_X12_count ct K R n 213 ls (vi x :: st) σ k) ∧
  xe_X12_count ct K R (n + 1) 213 ls st σ k = (xk_X12_count ct K R n 214 ls (vi (4) :: st) σ k) ∧
  xe_X12_count ct K R (n + 1) 214 ls st σ k = (oI st fun y st => oI st fun x st => (wI y ≤ wI x → xk_X12_count ct K R n 261 ls st σ k) ∧ (¬ (wI y ≤ wI x) → xk_X12_count ct K R n 217 ls st σ k)) ∧
  xe_X12_count ct K R (n + 1) 217 ls st σ k = (xk_X12_count ct K R n 218 ls (vi (0) :: st) σ k) ∧
  xe_X12_count ct K R (n + 1) 218 ls st σ k = (oI st fun x st => 4 < 5 ∧ xk_X12_count ct K R n 220 (stL ls 4 (vi x)) st σ k) ∧
  xe_X12_count ct K R (n + 1) 220 ls st σ k = (lI ls 4 fun x => xk_X12_count ct K R n 222 ls (vi x :: st) σ k) ∧
  xe_X12_count ct K R (n + 1) 222 ls st σ k = (lR ls 0 fun x => xk_X12_count ct K R n 223 ls (vr x :: st) σ k) ∧
  xe_X12_count ct K R (n + 1) 223 ls st σ k = (oR st fun x st => kd σ x = 13 ∧ xk_X12_count ct K R n 226 ls (vr (fR σ 1315 x) :: st) σ k) ∧
  xe_X12_count ct K R (n + 1) 226 ls st σ k = (lI ls 3 fun x => xk_X12_count ct K R n 227 ls (vi x :: st) σ k) ∧
  xe_X12_count ct K R (n + 1) 227 ls st σ k = (oI st fun j st => oR st fun x st => (kd σ x = 101 ∨ kd σ x = 108) ∧ (0 ≤ j ∧ j < ln σ x) ∧ xk_X12_count ct K R n 228 ls (vi (aI σ x j) :: st) σ k) ∧
  xe_X12_count ct K R (n + 1) 228 ls st σ k = (oI st fun y st => oI st fun x st => (wI y < wI x → xk_X12_count ct K R n 255 ls st σ k) ∧ (¬ (wI y < wI x) → xk_X12_count ct K R n 231 ls st σ k)) ∧
  xe_X12_count ct K R (n + 1) 231 ls st σ k = (lR ls 0 fun x => xk_X12_count ct K R n 232 ls (vr x :: st) σ k) ∧
  xe_X12_count ct K R (n + 1) 232 ls st σ k = (oR st fun x st => kd σ x = 13 ∧ xk_X12_count ct K R n 235 ls (vr (fR σ 1317 x) :: st) σ k) ∧
  xe_X12_count ct K R (n + 1) 235 ls st σ k = (xk_X12_count ct K R n 237 ls (vi (13) :: st) σ k) ∧
  xe_X12_count ct K R (n + 1) 237 ls st σ k = (lI ls 3 fun x => xk_X12_count ct K R n 238 ls (vi x :: st) σ k) ∧
  xe_X12_count ct K R (n + 1) 238 ls st σ k = (oI st fun y st => oI st fun x st => xk_X12_count ct K R n 239 ls (vi (x * y) :: st) σ k) ∧
  xe_X12_count ct K R (n + 1) 239 ls st σ k = (lI ls 4 fun x => xk_X12_count ct K R n 241 ls (vi x :: st) σ k) ∧
  xe_X12_count ct K R (n + 1) 241 ls st σ k = (oI st fun y st => oI st fun x st => xk_X12_count ct K R n 242 ls (vi (x + y) :: st) σ k) ∧
  xe_X12_count ct K R (n + 1) 242 ls st σ k = (oI st fun j st => oR st fun x st => (kd σ x = 103 ∨ kd σ x = 21) ∧ (0 ≤ j ∧ j < ln σ x) ∧ xk_X12_count ct K R n 243 ls (vi (aI σ x j) :: st) σ k) ∧
  xe_X12_count ct K R (n + 1) 243 ls st σ k = (oI st fun x st => (wI x = wI 0 → xk_X12_count ct K R n 249 ls st σ k) ∧ (¬ (wI x = wI 0) → xk_X12_count ct K R n 246 ls st σ k)) ∧
  xe_X12_count ct K R (n + 1) 246 ls st σ k = (lI ls 2 fun x => 2 < 5 ∧ xk_X12_count ct K R n 249 (stL ls 2 (vi (x + (1)))) st σ k) ∧
  xe_X12_count ct K R (n + 1) 249 ls st σ k = (lI ls 4 fun x => 4 < 5 ∧ xk_X12_count ct K R n 252 (stL ls 4 (vi (x + (1)))) st σ k) ∧
  xe_X12_count ct K R (n + 1) 252 ls st σ k = (xk_X12_count ct K R n 220 ls st σ k) ∧
  xe_X12_count ct K R (n + 1) 255 ls st σ k = (lI ls 3 fun x => 3 < 5 ∧ xk_X12_count ct K R n 258 (stL ls 3 (vi (x + (1)))) st σ k) ∧
  xe_X12_count ct K R (n + 1) 258 ls st σ k = (xk_X12_count ct K R n 212 ls st σ k) ∧
  xe_X12_count ct K R (n + 1) 261 ls st σ k = (lI ls 2 fun x => xk_X12_count ct K R n 262 ls (vi x :: st) σ k) ∧
  xe_X12_count ct K R (n + 1) 262 ls st σ k = (oI st fun x st => st = [] ∧ True ∧ R (some (vi x)) σ) ∧
  xe_X12_count ct K R (n + 1) 263 ls st σ k = (xk_X12_count ct K R n 264 ls (vi (-1) :: st) σ k) ∧
  xe_X12_count ct K R (n + 1) 264 ls st σ k = (oI st fun x st => st = [] ∧ True ∧ R (some (vi x)) σ) :=
  ⟨exS_step.trans rfl, exS_step.trans rfl, exS_step.trans rfl, exS_step.trans rfl, exS_step.trans rfl, exS_step.trans rfl, exS_step.trans rfl, exS_step.trans rfl, exS_step.trans rfl, exS_step.trans rfl, exS_step.trans rfl, exS_step.trans rfl, exS_step.trans rfl, exS_step.trans rfl, exS_step.trans rfl, exS_step.trans rfl, exS_step.trans rfl, exS_step.trans rfl, exS_step.trans rfl, exS_step.trans rfl, exS_step.trans rfl, exS_step.trans rfl, exS_step.trans rfl, exS_step.trans rfl, exS_step.trans rfl, exS_step.trans rfl, exS_step.trans rfl, exS_step.trans rfl, exS_step.trans rfl, exS_step.trans rfl, exS_step.trans rfl, exS_step.trans rfl, exS_step.trans rfl, exS_step.trans rfl, exS_step.trans rfl, exS_step.trans rfl, exS_step.trans rfl, exS_step.trans rfl, exS_step.trans rfl, exS_step.trans rfl, exS_step.trans rfl, exS_step.trans rfl, exS_step.trans rfl, exS_step.trans rfl, exS_step.trans rfl, exS_step.trans rfl, exS_step.trans rfl, exS_step.trans rfl, exS_step.trans rfl, exS_step.trans rfl, exS_step.trans rfl, exS_step.trans rfl, exS_step.trans rfl, exS_step.trans rfl, exS_step.trans rfl, exS_step.trans rfl, exS_step.trans rfl, exS_step.trans rfl, exS_step.trans rfl, exS_step.trans rfl, exS_step.trans rfl, exS_step.trans rfl, exS_step.trans rfl, exS_step.trans rfl, exS_step.trans rfl, exS_step.trans rfl, exS_step.trans rfl, exS_step.trans rfl, exS_step.trans rfl, exS_step.trans rfl, exS_step.trans rfl, exS_step.trans rfl, exS_step.trans rfl, exS_step.trans rfl, exS_step.trans rfl, exS_step.trans rfl, exS_step.trans rfl, exS_step.trans rfl, exS_step.trans rfl, exS_step.trans rfl, exS_step.trans rfl, exS_step.trans rfl, exS_step.trans rfl, exS_step.trans rfl, exS_step.trans rfl, exS_step.trans rfl, exS_step.trans rfl, exS_step.trans rfl, exS_step.trans rfl, exS_step.trans rfl, exS_step.trans rfl, exS_step.trans rfl, exS_step.trans rfl, exS_step.trans rfl, exS_step.trans rfl, exS_step.trans rfl, exS_step.trans rfl, exS_step.trans rfl, exS_step.trans rfl, exS_step.trans rfl, exS_step.trans rfl, exS_step.trans rfl, exS_step.trans rfl, exS_step.trans rfl, exS_step.trans rfl, exS_step.trans rfl, exS_step.trans rfl, exS_step.trans rfl, exS_step.trans rfl, exS_step.trans rfl, exS_step.trans rfl, exS_step.trans rfl⟩
def M_X12_count : Md := (yX12_count, cX12_count, 5, (some FieldType.int), 4, 0, 0, 1, false, tb_X12_count, mt_X12_count)
theorem mm_X12_count : MMOK M_X12_count := ⟨by decide +kernel, tk_X12_count, mk_X12_count, rfl, fun h => by cases h⟩
theorem go_X12_count {Q : Option AV → Hp → Prop} {ct : Nat → Bool} {pc : Nat} {ls : List (Option AV)} {st : List AV} {σ : Hp} {k : Nat × Nat} (n : Nat) (h : xe_X12_count ct (Go M_X12_count Q) Q n pc ls st σ k) : Go M_X12_count Q pc ls st σ k := Go.exS mm_X12_count h

set_option maxRecDepth 20000 in
theorem count_108 {Q : Option AV → Hp → Prop} {w : Int} {σ : Hp} (hI : MI σ) (hk : kd σ 61 = 13) (h : Q (some (vi (hwM (fun a => aI σ 112 a = 0) (fI σ 1371 61).toNat))) σ) (a4 : Option AV) : ∀ (n j : Nat), (j : Int) + n = fI σ 1371 61 → Go M_X12_count Q 108 [some (vr 61), some (vi w), some (vi (hwM (fun a => aI σ 112 a = 0) j)), some (vi j), a4] [] σ (0, 0) := by
  have hs := hI.alarms_s
  intro n
  induction n with
  | zero =>
    intro j hj
    have e : (fI σ 1371 61).toNat = j := by omega
    rw [e] at h
    refine go_X12_count (ct := fun p => p == 108 || p == 153 || p == 182 || p == 212 || p == 220) 40 ?_
    simp only [oI, oL, oR, o1, lI, lL, lR, popN, catS, gv, stL, stL2, swt, cnd, spObj, List.getElem?_cons_zero, List.getElem?_cons_succ, List.getD_cons_zero, List.getD_cons_succ, List.set_cons_zero, List.set_cons_succ, List.nil_append, List.cons_append, Option.toList, Bool.or_false, Bool.false_or, Bool.or_true, Bool.true_or, Nat.reduceBEq, Nat.reduceAdd, Nat.reduceLT, Nat.reduceLeDiff, Int.reduceAdd, Int.reduceToNat, true_and, and_true, Fin.isValue, Fin.val_zero, Fin.val_one, Fin.val_two, Fin.reduceFinMk, eq_self, Int.reduceNeg, imp_self, Nat.reduceMul, Nat.le_refl, not_true_eq_false, not_false_eq_true, List.getElem?_nil, reduceCtorEq, true_or, or_true, Classical.not_not, implies_true, or_self, wI_0, wI_1, wI_m1, b2i_w, b2i_eq0, b2i_eq1, b2i_bool, nor_self, nx_pI, kd_pI, ln_pI, fI_pI, fL_pI, fR_pI, aI_pI, aL_pI, aR_pI, nx_pL, kd_pL, ln_pL, fI_pL, fL_pL, fR_pL, aI_pL, aL_pL, aR_pL, nx_pR, kd_pR, ln_pR, fI_pR, fL_pR, fR_pR, aI_pR, aL_pR, aR_pR, nx_qI, kd_qI, ln_qI, fI_qI, fL_qI, fR_qI, aI_qI, aL_qI, aR_qI, nx_qL, kd_qL, ln_qL, fI_qL, fL_qL, fR_qL, aI_qL, aL_qL, aR_qL, nx_qR, kd_qR, ln_qR, fI_qR, fL_qR, fR_qR, aI_qR, aL_qR, aR_qR, nx_mk, kd_mk, ln_mk, fI_mk, fL_mk, fR_mk, aI_mk, aL_mk, aR_mk, false_and, and_false, if_false, if_true, and_self, Int.reduceEq, Nat.reduceEqDiff, ite_self, MLay_pI, MLay_pL, MLay_qI, MLay_qL, ev_X12_count, xt_X12_count, xf_X12_count, us_X12_sentCount, us_X12_isGoing, hk]
    try simp (disch := omega) only [wI_id, dv_nn, rm_nn]
    exact ⟨fun _ => h, fun z => absurd z (by omega)⟩
  | succ n ih =>
    intro j hj
    have ih := ih (j + 1) (by omega)
    have hx := hI.isOver_ j
    refine go_X12_count (ct := fun p => p == 108 || p == 153 || p == 182 || p == 212 || p == 220) 40 ?_
    simp only [oI, oL, oR, o1, lI, lL, lR, popN, catS, gv, stL, stL2, swt, cnd, spObj, List.getElem?_cons_zero, List.getElem?_cons_succ, List.getD_cons_zero, List.getD_cons_succ, List.set_cons_zero, List.set_cons_succ, List.nil_append, List.cons_append, Option.toList, Bool.or_false, Bool.false_or, Bool.or_true, Bool.true_or, Nat.reduceBEq, Nat.reduceAdd, Nat.reduceLT, Nat.reduceLeDiff, Int.reduceAdd, Int.reduceToNat, true_and, and_true, Fin.isValue, Fin.val_zero, Fin.val_one, Fin.val_two, Fin.reduceFinMk, eq_self, Int.reduceNeg, imp_self, Nat.reduceMul, Nat.le_refl, not_true_eq_false, not_false_eq_true, List.getElem?_nil, reduceCtorEq, true_or, or_true, Classical.not_not, implies_true, or_self, wI_0, wI_1, wI_m1, b2i_w, b2i_eq0, b2i_eq1, b2i_bool, nor_self, nx_pI, kd_pI, ln_pI, fI_pI, fL_pI, fR_pI, aI_pI, aL_pI, aR_pI, nx_pL, kd_pL, ln_pL, fI_pL, fL_pL, fR_pL, aI_pL, aL_pL, aR_pL, nx_pR, kd_pR, ln_pR, fI_pR, fL_pR, fR_pR, aI_pR, aL_pR, aR_pR, nx_qI, kd_qI, ln_qI, fI_qI, fL_qI, fR_qI, aI_qI, aL_qI, aR_qI, nx_qL, kd_qL, ln_qL, fI_qL, fL_qL, fR_qL, aI_qL, aL_qL, aR_qL, nx_qR, kd_qR, ln_qR, fI_qR, fL_qR, fR_qR, aI_qR, aL_qR, aR_qR, nx_mk, kd_mk, ln_mk, fI_mk, fL_mk, fR_mk, aI_mk, aL_mk, aR_mk, false_and, and_false, if_false, if_true, and_self, Int.reduceEq, Nat.reduceEqDiff, ite_self, MLay_pI, MLay_pL, MLay_qI, MLay_qL, ev_X12_count, xt_X12_count, xf_X12_count, us_X12_sentCount, us_X12_isGoing, hk, hI.lay.eqs]
    try simp (disch := omega) only [wI_id, dv_nn, rm_nn]
    repeat' (first | intro z | apply And.intro)
    all_goals try omega
    all_goals first
      | (rw [hwM_f (by assumption)] at ih; exact ih)
      | (rw [hwM_t (by omega)] at ih; exact ih)
      | (rw [hwM_f (by omega)] at ih; exact ih)

set_option maxRecDepth 20000 in
theorem count_153 {Q : Option AV → Hp → Prop} {w : Int} {σ : Hp} (hI : MI σ) (hk : kd σ 61 = 13) (h : Q (some (vi (hwM (fun b => mGoing σ b) (fI σ 1302 61).toNat))) σ) (a4 : Option AV) : ∀ (n j : Nat), (j : Int) + n = fI σ 1302 61 → Go M_X12_count Q 153 [some (vr 61), some (vi w), some (vi (hwM (fun b => mGoing σ b) j)), some (vi j), a4] [] σ (0, 0) := by
  have hs := hI.boxes_s
  intro n
  induction n with
  | zero =>
    intro j hj
    have e : (fI σ 1302 61).toNat = j := by omega
    rw [e] at h
    refine go_X12_count (ct := fun p => p == 108 || p == 153 || p == 182 || p == 212 || p == 220) 40 ?_
    simp only [oI, oL, oR, o1, lI, lL, lR, popN, catS, gv, stL, stL2, swt, cnd, spObj, List.getElem?_cons_zero, List.getElem?_cons_succ, List.getD_cons_zero, List.getD_cons_succ, List.set_cons_zero, List.set_cons_succ, List.nil_append, List.cons_append, Option.toList, Bool.or_false, Bool.false_or, Bool.or_true, Bool.true_or, Nat.reduceBEq, Nat.reduceAdd, Nat.reduceLT, Nat.reduceLeDiff, Int.reduceAdd, Int.reduceToNat, true_and, and_true, Fin.isValue, Fin.val_zero, Fin.val_one, Fin.val_two, Fin.reduceFinMk, eq_self, Int.reduceNeg, imp_self, Nat.reduceMul, Nat.le_refl, not_true_eq_false, not_false_eq_true, List.getElem?_nil, reduceCtorEq, true_or, or_true, Classical.not_not, implies_true, or_self, wI_0, wI_1, wI_m1, b2i_w, b2i_eq0, b2i_eq1, b2i_bool, nor_self, nx_pI, kd_pI, ln_pI, fI_pI, fL_pI, fR_pI, aI_pI, aL_pI, aR_pI, nx_pL, kd_pL, ln_pL, fI_pL, fL_pL, fR_pL, aI_pL, aL_pL, aR_pL, nx_pR, kd_pR, ln_pR, fI_pR, fL_pR, fR_pR, aI_pR, aL_pR, aR_pR, nx_qI, kd_qI, ln_qI, fI_qI, fL_qI, fR_qI, aI_qI, aL_qI, aR_qI, nx_qL, kd_qL, ln_qL, fI_qL, fL_qL, fR_qL, aI_qL, aL_qL, aR_qL, nx_qR, kd_qR, ln_qR, fI_qR, fL_qR, fR_qR, aI_qR, aL_qR, aR_qR, nx_mk, kd_mk, ln_mk, fI_mk, fL_mk, fR_mk, aI_mk, aL_mk, aR_mk, false_and, and_false, if_false, if_true, and_self, Int.reduceEq, Nat.reduceEqDiff, ite_self, MLay_pI, MLay_pL, MLay_qI, MLay_qL, ev_X12_count, xt_X12_count, xf_X12_count, us_X12_sentCount, us_X12_isGoing, hk]
    try simp (disch := omega) only [wI_id, dv_nn, rm_nn]
    exact ⟨fun _ => h, fun z => absurd z (by omega)⟩
  | succ n ih =>
    intro j hj
    have ih := ih (j + 1) (by omega)
    refine go_X12_count (ct := fun p => p == 108 || p == 153 || p == 182 || p == 212 || p == 220) 40 ?_
    simp only [oI, oL, oR, o1, lI, lL, lR, popN, catS, gv, stL, stL2, swt, cnd, spObj, List.getElem?_cons_zero, List.getElem?_cons_succ, List.getD_cons_zero, List.getD_cons_succ, List.set_cons_zero, List.set_cons_succ, List.nil_append, List.cons_append, Option.toList, Bool.or_false, Bool.false_or, Bool.or_true, Bool.true_or, Nat.reduceBEq, Nat.reduceAdd, Nat.reduceLT, Nat.reduceLeDiff, Int.reduceAdd, Int.reduceToNat, true_and, and_true, Fin.isValue, Fin.val_zero, Fin.val_one, Fin.val_two, Fin.reduceFinMk, eq_self, Int.reduceNeg, imp_self, Nat.reduceMul, Nat.le_refl, not_true_eq_false, not_false_eq_true, List.getElem?_nil, reduceCtorEq, true_or, or_true, Classical.not_not, implies_true, or_self, wI_0, wI_1, wI_m1, b2i_w, b2i_eq0, b2i_eq1, b2i_bool, nor_self, nx_pI, kd_pI, ln_pI, fI_pI, fL_pI, fR_pI, aI_pI, aL_pI, aR_pI, nx_pL, kd_pL, ln_pL, fI_pL, fL_pL, fR_pL, aI_pL, aL_pL, aR_pL, nx_pR, kd_pR, ln_pR, fI_pR, fL_pR, fR_pR, aI_pR, aL_pR, aR_pR, nx_qI, kd_qI, ln_qI, fI_qI, fL_qI, fR_qI, aI_qI, aL_qI, aR_qI, nx_qL, kd_qL, ln_qL, fI_qL, fL_qL, fR_qL, aI_qL, aL_qL, aR_qL, nx_qR, kd_qR, ln_qR, fI_qR, fL_qR, fR_qR, aI_qR, aL_qR, aR_qR, nx_mk, kd_mk, ln_mk, fI_mk, fL_mk, fR_mk, aI_mk, aL_mk, aR_mk, false_and, and_false, if_false, if_true, and_self, Int.reduceEq, Nat.reduceEqDiff, ite_self, MLay_pI, MLay_pL, MLay_qI, MLay_qL, ev_X12_count, xt_X12_count, xf_X12_count, us_X12_sentCount, us_X12_isGoing, hk, hI]
    try simp (disch := omega) only [wI_id, dv_nn, rm_nn]
    repeat' (first | intro z | apply And.intro)
    all_goals try omega
    all_goals first
      | (rw [hwM_f (by assumption)] at ih; exact ih)
      | (rw [hwM_t (by assumption)] at ih; exact ih)

set_option maxRecDepth 20000 in
theorem count_182 {Q : Option AV → Hp → Prop} {w : Int} {σ : Hp} (hI : MI σ) (hk : kd σ 61 = 13) (h : Q (some (vi (hwM (fun b => ¬ aI σ 70 b = 0) (fI σ 1302 61).toNat))) σ) (a4 : Option AV) : ∀ (n j : Nat), (j : Int) + n = fI σ 1302 61 → Go M_X12_count Q 182 [some (vr 61), some (vi w), some (vi (hwM (fun b => ¬ aI σ 70 b = 0) j)), some (vi j), a4] [] σ (0, 0) := by
  have hs := hI.boxes_s
  intro n
  induction n with
  | zero =>
    intro j hj
    have e : (fI σ 1302 61).toNat = j := by omega
    rw [e] at h
    refine go_X12_count (ct := fun p => p == 108 || p == 153 || p == 182 || p == 212 || p == 220) 40 ?_
    simp only [oI, oL, oR, o1, lI, lL, lR, popN, catS, gv, stL, stL2, swt, cnd, spObj, List.getElem?_cons_zero, List.getElem?_cons_succ, List.getD_cons_zero, List.getD_cons_succ, List.set_cons_zero, List.set_cons_succ, List.nil_append, List.cons_append, Option.toList, Bool.or_false, Bool.false_or, Bool.or_true, Bool.true_or, Nat.reduceBEq, Nat.reduceAdd, Nat.reduceLT, Nat.reduceLeDiff, Int.reduceAdd, Int.reduceToNat, true_and, and_true, Fin.isValue, Fin.val_zero, Fin.val_one, Fin.val_two, Fin.reduceFinMk, eq_self, Int.reduceNeg, imp_self, Nat.reduceMul, Nat.le_refl, not_true_eq_false, not_false_eq_true, List.getElem?_nil, reduceCtorEq, true_or, or_true, Classical.not_not, implies_true, or_self, wI_0, wI_1, wI_m1, b2i_w, b2i_eq0, b2i_eq1, b2i_bool, nor_self, nx_pI, kd_pI, ln_pI, fI_pI, fL_pI, fR_pI, aI_pI, aL_pI, aR_pI, nx_pL, kd_pL, ln_pL, fI_pL, fL_pL, fR_pL, aI_pL, aL_pL, aR_pL, nx_pR, kd_pR, ln_pR, fI_pR, fL_pR, fR_pR, aI_pR, aL_pR, aR_pR, nx_qI, kd_qI, ln_qI, fI_qI, fL_qI, fR_qI, aI_qI, aL_qI, aR_qI, nx_qL, kd_qL, ln_qL, fI_qL, fL_qL, fR_qL, aI_qL, aL_qL, aR_qL, nx_qR, kd_qR, ln_qR, fI_qR, fL_qR, fR_qR, aI_qR, aL_qR, aR_qR, nx_mk, kd_mk, ln_mk, fI_mk, fL_mk, fR_mk, aI_mk, aL_mk, aR_mk, false_and, and_false, if_false, if_true, and_self, Int.reduceEq, Nat.reduceEqDiff, ite_self, MLay_pI, MLay_pL, MLay_qI, MLay_qL, ev_X12_count, xt_X12_count, xf_X12_count, us_X12_sentCount, us_X12_isGoing, hk]
    try simp (disch := omega) only [wI_id, dv_nn, rm_nn]
    exact ⟨fun _ => h, fun z => absurd z (by omega)⟩
  | succ n ih =>
    intro j hj
    have ih := ih (j + 1) (by omega)
    have hx := hI.waits_ j
    refine go_X12_count (ct := fun p => p == 108 || p == 153 || p == 182 || p == 212 || p == 220) 40 ?_
    simp only [oI, oL, oR, o1, lI, lL, lR, popN, catS, gv, stL, stL2, swt, cnd, spObj, List.getElem?_cons_zero, List.getElem?_cons_succ, List.getD_cons_zero, List.getD_cons_succ, List.set_cons_zero, List.set_cons_succ, List.nil_append, List.cons_append, Option.toList, Bool.or_false, Bool.false_or, Bool.or_true, Bool.true_or, Nat.reduceBEq, Nat.reduceAdd, Nat.reduceLT, Nat.reduceLeDiff, Int.reduceAdd, Int.reduceToNat, true_and, and_true, Fin.isValue, Fin.val_zero, Fin.val_one, Fin.val_two, Fin.reduceFinMk, eq_self, Int.reduceNeg, imp_self, Nat.reduceMul, Nat.le_refl, not_true_eq_false, not_false_eq_true, List.getElem?_nil, reduceCtorEq, true_or, or_true, Classical.not_not, implies_true, or_self, wI_0, wI_1, wI_m1, b2i_w, b2i_eq0, b2i_eq1, b2i_bool, nor_self, nx_pI, kd_pI, ln_pI, fI_pI, fL_pI, fR_pI, aI_pI, aL_pI, aR_pI, nx_pL, kd_pL, ln_pL, fI_pL, fL_pL, fR_pL, aI_pL, aL_pL, aR_pL, nx_pR, kd_pR, ln_pR, fI_pR, fL_pR, fR_pR, aI_pR, aL_pR, aR_pR, nx_qI, kd_qI, ln_qI, fI_qI, fL_qI, fR_qI, aI_qI, aL_qI, aR_qI, nx_qL, kd_qL, ln_qL, fI_qL, fL_qL, fR_qL, aI_qL, aL_qL, aR_qL, nx_qR, kd_qR, ln_qR, fI_qR, fL_qR, fR_qR, aI_qR, aL_qR, aR_qR, nx_mk, kd_mk, ln_mk, fI_mk, fL_mk, fR_mk, aI_mk, aL_mk, aR_mk, false_and, and_false, if_false, if_true, and_self, Int.reduceEq, Nat.reduceEqDiff, ite_self, MLay_pI, MLay_pL, MLay_qI, MLay_qL, ev_X12_count, xt_X12_count, xf_X12_count, us_X12_sentCount, us_X12_isGoing, hk, hI.lay.eqs]
    try simp (disch := omega) only [wI_id, dv_nn, rm_nn]
    repeat' (first | intro z | apply And.intro)
    all_goals try omega
    all_goals first
      | (rw [hwM_f (by omega)] at ih; exact ih)
      | (rw [hwM_t (by omega)] at ih; exact ih)

set_option maxRecDepth 20000 in
theorem count_220 {Q : Option AV → Hp → Prop} {w : Int} {σ : Hp} (hI : MI σ) (hk : kd σ 61 = 13) (l : Nat) (hl : l < 4) (h : ∀ a4, Go M_X12_count Q 212 [some (vr 61), some (vi w), some (vi (mCut σ (l + 1))), some (vi (l + 1)), a4] [] σ (0, 0)) : ∀ (n j : Nat), (j : Int) + n = aI σ 74 l + 1 → Go M_X12_count Q 220 [some (vr 61), some (vi w), some (vi (mCut σ l + hwM (fun w => ¬ aI σ 76 (13 * (l : Int) + w) = 0) j)), some (vi l), some (vi j)] [] σ (0, 0) := by
  have hs := hI.many_ l
  intro n
  induction n with
  | zero =>
    intro j hj
    have e : (aI σ 74 l + 1).toNat = j := by omega
    have h := h (some (vi j))
    simp only [mCut] at h
    rw [e] at h
    refine go_X12_count (ct := fun p => p == 108 || p == 153 || p == 182 || p == 212 || p == 220) 40 ?_
    simp only [oI, oL, oR, o1, lI, lL, lR, popN, catS, gv, stL, stL2, swt, cnd, spObj, List.getElem?_cons_zero, List.getElem?_cons_succ, List.getD_cons_zero, List.getD_cons_succ, List.set_cons_zero, List.set_cons_succ, List.nil_append, List.cons_append, Option.toList, Bool.or_false, Bool.false_or, Bool.or_true, Bool.true_or, Nat.reduceBEq, Nat.reduceAdd, Nat.reduceLT, Nat.reduceLeDiff, Int.reduceAdd, Int.reduceToNat, true_and, and_true, Fin.isValue, Fin.val_zero, Fin.val_one, Fin.val_two, Fin.reduceFinMk, eq_self, Int.reduceNeg, imp_self, Nat.reduceMul, Nat.le_refl, not_true_eq_false, not_false_eq_true, List.getElem?_nil, reduceCtorEq, true_or, or_true, Classical.not_not, implies_true, or_self, wI_0, wI_1, wI_m1, b2i_w, b2i_eq0, b2i_eq1, b2i_bool, nor_self, nx_pI, kd_pI, ln_pI, fI_pI, fL_pI, fR_pI, aI_pI, aL_pI, aR_pI, nx_pL, kd_pL, ln_pL, fI_pL, fL_pL, fR_pL, aI_pL, aL_pL, aR_pL, nx_pR, kd_pR, ln_pR, fI_pR, fL_pR, fR_pR, aI_pR, aL_pR, aR_pR, nx_qI, kd_qI, ln_qI, fI_qI, fL_qI, fR_qI, aI_qI, aL_qI, aR_qI, nx_qL, kd_qL, ln_qL, fI_qL, fL_qL, fR_qL, aI_qL, aL_qL, aR_qL, nx_qR, kd_qR, ln_qR, fI_qR, fL_qR, fR_qR, aI_qR, aL_qR, aR_qR, nx_mk, kd_mk, ln_mk, fI_mk, fL_mk, fR_mk, aI_mk, aL_mk, aR_mk, false_and, and_false, if_false, if_true, and_self, Int.reduceEq, Nat.reduceEqDiff, ite_self, MLay_pI, MLay_pL, MLay_qI, MLay_qL, ev_X12_count, xt_X12_count, xf_X12_count, us_X12_sentCount, us_X12_isGoing, hk, hI.lay.eqs]
    try simp (disch := omega) only [wI_id, dv_nn, rm_nn]
    exact ⟨by omega, fun _ => h, fun z => absurd z (by omega)⟩
  | succ n ih =>
    intro j hj
    have ih := ih (j + 1) (by omega)
    have hx := hI.isCut_ (13 * l + j)
    refine go_X12_count (ct := fun p => p == 108 || p == 153 || p == 182 || p == 212 || p == 220) 40 ?_
    simp only [oI, oL, oR, o1, lI, lL, lR, popN, catS, gv, stL, stL2, swt, cnd, spObj, List.getElem?_cons_zero, List.getElem?_cons_succ, List.getD_cons_zero, List.getD_cons_succ, List.set_cons_zero, List.set_cons_succ, List.nil_append, List.cons_append, Option.toList, Bool.or_false, Bool.false_or, Bool.or_true, Bool.true_or, Nat.reduceBEq, Nat.reduceAdd, Nat.reduceLT, Nat.reduceLeDiff, Int.reduceAdd, Int.reduceToNat, true_and, and_true, Fin.isValue, Fin.val_zero, Fin.val_one, Fin.val_two, Fin.reduceFinMk, eq_self, Int.reduceNeg, imp_self, Nat.reduceMul, Nat.le_refl, not_true_eq_false, not_false_eq_true, List.getElem?_nil, reduceCtorEq, true_or, or_true, Classical.not_not, implies_true, or_self, wI_0, wI_1, wI_m1, b2i_w, b2i_eq0, b2i_eq1, b2i_bool, nor_self, nx_pI, kd_pI, ln_pI, fI_pI, fL_pI, fR_pI, aI_pI, aL_pI, aR_pI, nx_pL, kd_pL, ln_pL, fI_pL, fL_pL, fR_pL, aI_pL, aL_pL, aR_pL, nx_pR, kd_pR, ln_pR, fI_pR, fL_pR, fR_pR, aI_pR, aL_pR, aR_pR, nx_qI, kd_qI, ln_qI, fI_qI, fL_qI, fR_qI, aI_qI, aL_qI, aR_qI, nx_qL, kd_qL, ln_qL, fI_qL, fL_qL, fR_qL, aI_qL, aL_qL, aR_qL, nx_qR, kd_qR, ln_qR, fI_qR, fL_qR, fR_qR, aI_qR, aL_qR, aR_qR, nx_mk, kd_mk, ln_mk, fI_mk, fL_mk, fR_mk, aI_mk, aL_mk, aR_mk, false_and, and_false, if_false, if_true, and_self, Int.reduceEq, Nat.reduceEqDiff, ite_self, MLay_pI, MLay_pL, MLay_qI, MLay_qL, ev_X12_count, xt_X12_count, xf_X12_count, us_X12_sentCount, us_X12_isGoing, hk, hI.lay.eqs]
    try simp (disch := omega) only [wI_id, dv_nn, rm_nn]
    repeat' (first | intro z | apply And.intro)
    all_goals try omega
    all_goals first
      | (rw [hwM_f (by omega)] at ih; exact ih)
      | (rw [hwM_t (by omega), ← Int.add_assoc] at ih; exact ih)

set_option maxRecDepth 20000 in
theorem count_212 {Q : Option AV → Hp → Prop} {w : Int} {σ : Hp} (hI : MI σ) (hk : kd σ 61 = 13) (h : Q (some (vi (mCut σ 4))) σ) : ∀ (n l : Nat) (a4 : Option AV), l + n = 4 → Go M_X12_count Q 212 [some (vr 61), some (vi w), some (vi (mCut σ l)), some (vi l), a4] [] σ (0, 0) := by
  intro n
  induction n with
  | zero =>
    intro l a4 hl
    have e : l = 4 := by omega
    subst e
    refine go_X12_count (ct := fun p => p == 108 || p == 153 || p == 182 || p == 212 || p == 220) 40 ?_
    simp only [oI, oL, oR, o1, lI, lL, lR, popN, catS, gv, stL, stL2, swt, cnd, spObj, List.getElem?_cons_zero, List.getElem?_cons_succ, List.getD_cons_zero, List.getD_cons_succ, List.set_cons_zero, List.set_cons_succ, List.nil_append, List.cons_append, Option.toList, Bool.or_false, Bool.false_or, Bool.or_true, Bool.true_or, Nat.reduceBEq, Nat.reduceAdd, Nat.reduceLT, Nat.reduceLeDiff, Int.reduceAdd, Int.reduceToNat, true_and, and_true, Fin.isValue, Fin.val_zero, Fin.val_one, Fin.val_two, Fin.reduceFinMk, eq_self, Int.reduceNeg, imp_self, Nat.reduceMul, Nat.le_refl, not_true_eq_false, not_false_eq_true, List.getElem?_nil, reduceCtorEq, true_or, or_true, Classical.not_not, implies_true, or_self, wI_0, wI_1, wI_m1, b2i_w, b2i_eq0, b2i_eq1, b2i_bool, nor_self, nx_pI, kd_pI, ln_pI, fI_pI, fL_pI, fR_pI, aI_pI, aL_pI, aR_pI, nx_pL, kd_pL, ln_pL, fI_pL, fL_pL, fR_pL, aI_pL, aL_pL, aR_pL, nx_pR, kd_pR, ln_pR, fI_pR, fL_pR, fR_pR, aI_pR, aL_pR, aR_pR, nx_qI, kd_qI, ln_qI, fI_qI, fL_qI, fR_qI, aI_qI, aL_qI, aR_qI, nx_qL, kd_qL, ln_qL, fI_qL, fL_qL, fR_qL, aI_qL, aL_qL, aR_qL, nx_qR, kd_qR, ln_qR, fI_qR, fL_qR, fR_qR, aI_qR, aL_qR, aR_qR, nx_mk, kd_mk, ln_mk, fI_mk, fL_mk, fR_mk, aI_mk, aL_mk, aR_mk, false_and, and_false, if_false, if_true, and_self, Int.reduceEq, Nat.reduceEqDiff, ite_self, MLay_pI, MLay_pL, MLay_qI, MLay_qL, ev_X12_count, xt_X12_count, xf_X12_count, us_X12_sentCount, us_X12_isGoing, hk, Int.cast_ofNat_Int, Int.le_refl]
    exact ⟨fun _ => h, fun z => z.elim⟩
  | succ n ih =>
    intro l a4 hl
    have ih := fun a4 => ih (l + 1) a4 (by omega)
    have hs := hI.many_ l
    have w := count_220 (w := w) hI hk l (by omega) ih (aI σ 74 l + 1).toNat 0 (by omega)
    simp only [hwM, Int.add_zero, Int.cast_ofNat_Int] at w
    refine go_X12_count (ct := fun p => p == 108 || p == 153 || p == 182 || p == 212 || p == 220) 40 ?_
    simp only [oI, oL, oR, o1, lI, lL, lR, popN, catS, gv, stL, stL2, swt, cnd, spObj, List.getElem?_cons_zero, List.getElem?_cons_succ, List.getD_cons_zero, List.getD_cons_succ, List.set_cons_zero, List.set_cons_succ, List.nil_append, List.cons_append, Option.toList, Bool.or_false, Bool.false_or, Bool.or_true, Bool.true_or, Nat.reduceBEq, Nat.reduceAdd, Nat.reduceLT, Nat.reduceLeDiff, Int.reduceAdd, Int.reduceToNat, true_and, and_true, Fin.isValue, Fin.val_zero, Fin.val_one, Fin.val_two, Fin.reduceFinMk, eq_self, Int.reduceNeg, imp_self, Nat.reduceMul, Nat.le_refl, not_true_eq_false, not_false_eq_true, List.getElem?_nil, reduceCtorEq, true_or, or_true, Classical.not_not, implies_true, or_self, wI_0, wI_1, wI_m1, b2i_w, b2i_eq0, b2i_eq1, b2i_bool, nor_self, nx_pI, kd_pI, ln_pI, fI_pI, fL_pI, fR_pI, aI_pI, aL_pI, aR_pI, nx_pL, kd_pL, ln_pL, fI_pL, fL_pL, fR_pL, aI_pL, aL_pL, aR_pL, nx_pR, kd_pR, ln_pR, fI_pR, fL_pR, fR_pR, aI_pR, aL_pR, aR_pR, nx_qI, kd_qI, ln_qI, fI_qI, fL_qI, fR_qI, aI_qI, aL_qI, aR_qI, nx_qL, kd_qL, ln_qL, fI_qL, fL_qL, fR_qL, aI_qL, aL_qL, aR_qL, nx_qR, kd_qR, ln_qR, fI_qR, fL_qR, fR_qR, aI_qR, aL_qR, aR_qR, nx_mk, kd_mk, ln_mk, fI_mk, fL_mk, fR_mk, aI_mk, aL_mk, aR_mk, false_and, and_false, if_false, if_true, and_self, Int.reduceEq, Nat.reduceEqDiff, ite_self, MLay_pI, MLay_pL, MLay_qI, MLay_qL, ev_X12_count, xt_X12_count, xf_X12_count, us_X12_sentCount, us_X12_isGoing, hk]
    try simp (disch := omega) only [wI_id, dv_nn, rm_nn]
    repeat' (first | intro z | apply And.intro)
    all_goals try omega

set_option maxRecDepth 20000 in
theorem c_X12_count : Ct yX12_count cX12_count 5 ((some FieldType.int)) 4 0 0 sp_X12_count := by
  refine Ct.go (M := M_X12_count) mm_X12_count fun av σ Q h0 => ?_
  obtain ⟨this, w, rfl, hk, h⟩ := el_X12_count h0
  clear h0
  refine ⟨Nat.le_of_ble_eq_true rfl, ?_⟩
  show Go M_X12_count Q 0 [some (vr this), some (vi w), none, none, none] [] σ (0, 0)
  obtain ⟨rfl, hI, hw, h⟩ := h
  have hI2 : MI (pI σ 1300 61 0) := MI_fre hI (by decide)
  have hk2 : kd (pI σ 1300 61 0) 61 = 13 := hk
  have b1 := hI.boxes_s
  have b2 := hI.alarms_s
  unfold inR at hw
  have e2 : mCut (pI σ 1300 61 0) 4 = mCut σ 4 := rfl
  unfold mCn at h
  have l1 := fun h => count_108 (Q := Q) (w := w) hI2 hk2 h none (fI σ 1371 61).toNat 0 (show (0 : Int) + (fI σ _ _).toNat = fI σ _ _ by omega)
  have l2 := fun h => count_153 (Q := Q) (w := w) hI2 hk2 h none (fI σ 1302 61).toNat 0 (show (0 : Int) + (fI σ _ _).toNat = fI σ _ _ by omega)
  have l3 := fun h => count_182 (Q := Q) (w := w) hI2 hk2 h none (fI σ 1302 61).toNat 0 (show (0 : Int) + (fI σ _ _).toNat = fI σ _ _ by omega)
  have l4 := fun h => count_212 (Q := Q) (w := w) hI2 hk2 h 4 0 none (by omega)
  refine go_X12_count (ct := fun p => p == 108 || p == 153 || p == 182 || p == 212 || p == 220) 60 ?_
  simp only [oI, oL, oR, o1, lI, lL, lR, popN, catS, gv, stL, stL2, swt, cnd, spObj, List.getElem?_cons_zero, List.getElem?_cons_succ, List.getD_cons_zero, List.getD_cons_succ, List.set_cons_zero, List.set_cons_succ, List.nil_append, List.cons_append, Option.toList, Bool.or_false, Bool.false_or, Bool.or_true, Bool.true_or, Nat.reduceBEq, Nat.reduceAdd, Nat.reduceLT, Nat.reduceLeDiff, Int.reduceAdd, Int.reduceToNat, true_and, and_true, Fin.isValue, Fin.val_zero, Fin.val_one, Fin.val_two, Fin.reduceFinMk, eq_self, Int.reduceNeg, imp_self, Nat.reduceMul, Nat.le_refl, not_true_eq_false, not_false_eq_true, List.getElem?_nil, reduceCtorEq, true_or, or_true, Classical.not_not, implies_true, or_self, wI_0, wI_1, wI_m1, b2i_w, b2i_eq0, b2i_eq1, b2i_bool, nor_self, nx_pI, kd_pI, ln_pI, fI_pI, fL_pI, fR_pI, aI_pI, aL_pI, aR_pI, nx_pL, kd_pL, ln_pL, fI_pL, fL_pL, fR_pL, aI_pL, aL_pL, aR_pL, nx_pR, kd_pR, ln_pR, fI_pR, fL_pR, fR_pR, aI_pR, aL_pR, aR_pR, nx_qI, kd_qI, ln_qI, fI_qI, fL_qI, fR_qI, aI_qI, aL_qI, aR_qI, nx_qL, kd_qL, ln_qL, fI_qL, fL_qL, fR_qL, aI_qL, aL_qL, aR_qL, nx_qR, kd_qR, ln_qR, fI_qR, fL_qR, fR_qR, aI_qR, aL_qR, aR_qR, nx_mk, kd_mk, ln_mk, fI_mk, fL_mk, fR_mk, aI_mk, aL_mk, aR_mk, false_and, and_false, if_false, if_true, and_self, Int.reduceEq, Nat.reduceEqDiff, ite_self, MLay_pI, MLay_pL, MLay_qI, MLay_qL, ev_X12_count, xt_X12_count, xf_X12_count, us_X12_sentCount, us_X12_isGoing, hk, hI.lay.eqs, hI2]
  try simp (disch := omega) only [wI_id, dv_nn, rm_nn]
  repeat' (first | intro z | apply And.intro)
  all_goals try omega
  · repeat rw [if_neg (by omega)] at h
    exact h
  all_goals
    subst w
    simp only [Int.reduceEq, if_true, if_false] at h
    first | exact h | exact l1 h | exact l2 h | exact l3 h | exact l4 h
