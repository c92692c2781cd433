/-! the reference: ticks, counts -/

theorem fI_mSt1 (σ : Hp) (l t : Int) : fI (mSt1 σ l t) = fI σ := by unfold mSt1; split <;> rfl
theorem fI_mSt2 (σ : Hp) (l t : Int) : fI (mSt2 σ l t) = fI σ := by unfold mSt2; split <;> rfl
theorem fI_mTk (σ : Hp) (t : Int) : ∀ n : Nat, fI (mTk σ t n) = fI σ
  | 0 => rfl
  | n + 1 => by
    show fI (mStep (mTk σ t n) n t) = _
    unfold mStep
    rw [fI_mSt2, fI_mSt1, fI_mTk σ t n]
theorem taped_mTk2 (σ : Hp) (t : Int) : ∀ (n : Nat) (j : Int), aI (mTk σ t n) 78 j ≤ aI σ 78 j + (if j < n then 1 else 0)
  | 0, j => by
    show aI σ 78 j ≤ _
    split <;> omega
  | n + 1, j => by
    have ih := taped_mTk2 σ t n j
    show aI (mStep (mTk σ t n) n t) _ j ≤ _
    by_cases e : j = n
    · subst e
      have h2 := taped_mSt2 (mSt1 (mTk σ t n) n t) n t n
      rw [taped_mSt1, taped_mTk σ t n n (Int.le_refl _)] at h2
      rw [if_pos (by omega)]
      exact h2.1
    · rw [taped_mStep _ _ _ e]
      split at ih <;> split <;> omega
theorem began_mSt1 (σ : Hp) (l t j : Int) : aI (mSt1 σ l t) 69 j ≤ aI σ 69 j ∨ aI (mSt1 σ l t) 69 j ≤ t := by
  unfold mSt1
  split
  · simp only [aI_qI]
    split
    · exact Or.inr (Int.le_refl _)
    · simp
  · exact Or.inl (Int.le_refl _)
theorem began_mSt2 (σ : Hp) (l t j : Int) : aI (mSt2 σ l t) 69 j = aI σ 69 j := by
  unfold mSt2
  split
  · simp only [aI_qI]; simp
  · rfl
theorem began_mTk (σ : Hp) (t : Int) (j : Int) : ∀ n : Nat, aI (mTk σ t n) 69 j ≤ aI σ 69 j ∨ aI (mTk σ t n) 69 j ≤ t
  | 0 => Or.inl (Int.le_refl _)
  | n + 1 => by
    show aI (mStep (mTk σ t n) n t) _ j ≤ _ ∨ aI (mStep (mTk σ t n) n t) _ j ≤ _
    unfold mStep
    rw [began_mSt2]
    have h1 := began_mSt1 (mTk σ t n) n t j
    have h2 := began_mTk σ t j n
    omega
/-- what the reference keeps to beside its numbers' ranges -/
def MT (σ : Hp) : Prop := MI σ ∧ (∀ j, aI σ 78 j ≤ fI σ 1301 61) ∧ ∀ j, aI σ 69 j ≤ fI σ 1301 61 + 1
/-- n ticks -/
noncomputable def mTs (σ : Hp) : Nat → Hp
  | 0 => σ
  | n + 1 => mTk (pI (mTs σ n) 1301 61 (fI σ 1301 61 + n + 1)) (fI σ 1301 61 + n + 1) 4
theorem now_mTs (σ : Hp) : ∀ n : Nat, fI (mTs σ n) 1301 61 = fI σ 1301 61 + n
  | 0 => by show fI σ 1301 61 = _; omega
  | n + 1 => by
    show fI (mTk (pI (mTs σ n) 1301 61 (fI σ 1301 61 + n + 1)) (fI σ 1301 61 + n + 1) 4) _ _ = _
    rw [fI_mTk, fI_pI, if_pos ⟨rfl, rfl⟩]; omega
theorem MT_mTs {σ : Hp} (h : MT σ) : ∀ n : Nat, fI σ 1301 61 + n ≤ 999999 → MT (mTs σ n)
  | 0, _ => h
  | n + 1, hn => by
    have ih := MT_mTs h n (by omega)
    have e := now_mTs σ n
    have hs := h.1.now_s
    have hM : MI (pI (mTs σ n) 1301 61 (fI σ 1301 61 + n + 1)) := MI_now_p ih.1 (by omega)
    refine ⟨MI_mTk hM (by omega) (fun j => ?_) 4, fun j => ?_, fun j => ?_⟩
    · have := ih.2.1 j
      rw [aI_pI]; omega
    · have h1 := ih.2.1 j
      have h2 := taped_mTk2 (pI (mTs σ n) 1301 61 (fI σ 1301 61 + n + 1)) (fI σ 1301 61 + n + 1) 4 j
      rw [aI_pI] at h2
      rw [now_mTs]
      show aI (mTk (pI (mTs σ n) 1301 61 (fI σ 1301 61 + n + 1)) (fI σ 1301 61 + n + 1) 4) _ _ ≤ _
      split at h2 <;> omega
    · have h1 := ih.2.2 j
      have h2 := began_mTk (pI (mTs σ n) 1301 61 (fI σ 1301 61 + n + 1)) (fI σ 1301 61 + n + 1) j 4
      rw [aI_pI] at h2
      rw [now_mTs]
      show aI (mTk (pI (mTs σ n) 1301 61 (fI σ 1301 61 + n + 1)) (fI σ 1301 61 + n + 1) 4) _ _ ≤ _
      omega

def sp_X12_ticks : Sp := fun av σ Q => oR av fun this av => oI av fun n av => av = [] ∧ kd σ this = 13 ∧ (this = 61 ∧ MT σ ∧ inR n ∧ (((0 ≤ n ∧ n ≤ 5000) ∧ fI σ 1301 61 + n ≤ 999999) → Q (some (vi (fI σ 1301 61 + n))) (mTs (pI σ 1300 61 0) n.toNat)) ∧ (¬ ((0 ≤ n ∧ n ≤ 5000) ∧ fI σ 1301 61 + n ≤ 999999) → Q (some (vi (-1))) (pI σ 1300 61 0)))
theorem us_X12_ticks (this : Int) (n : Int) (σ : Hp) (Q : Option AV → Hp → Prop) : sp_X12_ticks [vr this, vi n] σ Q = (kd σ this = 13 ∧ (this = 61 ∧ MT σ ∧ inR n ∧ (((0 ≤ n ∧ n ≤ 5000) ∧ fI σ 1301 61 + n ≤ 999999) → Q (some (vi (fI σ 1301 61 + n))) (mTs (pI σ 1300 61 0) n.toNat)) ∧ (¬ ((0 ≤ n ∧ n ≤ 5000) ∧ fI σ 1301 61 + n ≤ 999999) → Q (some (vi (-1))) (pI σ 1300 61 0)))) := propext ⟨fun h => h.2, fun h => ⟨rfl, h⟩⟩
theorem el_X12_ticks {av : List AV} {σ : Hp} {Q : Option AV → Hp → Prop} (h : sp_X12_ticks av σ Q) : ∃ (this : Int) (n : Int), av = [vr this, vi n] ∧ (kd σ this = 13 ∧ (this = 61 ∧ MT σ ∧ inR n ∧ (((0 ≤ n ∧ n ≤ 5000) ∧ fI σ 1301 61 + n ≤ 999999) → Q (some (vi (fI σ 1301 61 + n))) (mTs (pI σ 1300 61 0) n.toNat)) ∧ (¬ ((0 ≤ n ∧ n ≤ 5000) ∧ fI σ 1301 61 + n ≤ 999999) → Q (some (vi (-1))) (pI σ 1300 61 0)))) := by
  obtain ⟨this, a0, rfl, h0⟩ := oR_s h
  obtain ⟨n, a1, rfl, h1⟩ := oI_s h0
  obtain ⟨rfl, hz⟩ := h1
  exact ⟨this, n, rfl, hz⟩
theorem rc_X12_ticks : ∀ (av : List AV) (σ : Hp) (Q : Option AV → Hp → Prop), sp_X12_ticks av σ Q → ∃ r tl, av = vr r :: tl ∧ kd σ r = 12 + 1 := fun av σ Q h => by
  obtain ⟨this, n, rfl, hz, -⟩ := el_X12_ticks h
  exact ⟨this, _, rfl, hz⟩

def tb_X12_ticks : Tab := [(0, .aload_n 0, 1, (0, 0, 0, 0)), (1, .iconst 0, 1, (0, 0, 0, 0)), (2, .putfield 196, 3, (13, 1300, 0, 0)), (5, .iload_n 1, 1, (0, 0, 0, 0)), (6, .iconst 0, 1, (0, 0, 0, 0)), (7, .sipush 5000, 3, (0, 0, 0, 0)), (10, .invokestatic 202, 3, (0, 0, 0, 0)), (13, .ifCond .eq 14, 3, (0, 0, 0, 0)), (16, .aload_n 0, 1, (0, 0, 0, 0)), (17, .getfield 217, 3, (13, 1301, 0, 0)), (20, .iload_n 1, 1, (0, 0, 0, 0)), (21, .iadd, 1, (0, 0, 0, 0)), (22, .ldc 230, 2, (1, 0, 0, 999999)), (24, .if_icmp .le 5, 3, (0, 0, 0, 0)), (27, .iconst (-1), 1, (0, 0, 0, 0)), (28, .ireturn, 1, (0, 0, 0, 0)), (29, .iconst 0, 1, (0, 0, 0, 0)), (30, .istore_n 2, 1, (0, 0, 0, 0)), (31, .iload_n 2, 1, (0, 0, 0, 0)), (32, .iload_n 1, 1, (0, 0, 0, 0)), (33, .if_icmp .ge 27, 3, (0, 0, 0, 0)), (36, .aload_n 0, 1, (0, 0, 0, 0)), (37, .dup, 1, (0, 0, 0, 0)), (38, .getfield 217, 3, (13, 1301, 0, 0)), (41, .iconst 1, 1, (0, 0, 0, 0)), (42, .iadd, 1, (0, 0, 0, 0)), (43, .putfield 217, 3, (13, 1301, 0, 0)), (46, .aload_n 0, 1, (0, 0, 0, 0)), (47, .aload_n 0, 1, (0, 0, 0, 0)), (48, .getfield 217, 3, (13, 1301, 0, 0)), (51, .invokevirtual 231, 3, (0, 0, 0, 0)), (54, .iinc 2 1, 3, (0, 0, 0, 0)), (57, .goto (-26), 3, (0, 0, 0, 0)), (60, .aload_n 0, 1, (0, 0, 0, 0)), (61, .getfield 217, 3, (13, 1301, 0, 0)), (64, .ireturn, 1, (0, 0, 0, 0))]
set_option maxRecDepth 100000 in
theorem tk_X12_ticks : TOK RX12 false cX12_ticks tb_X12_ticks := chkT_ok ft_X12 (by decide +kernel)
theorem rw_X12_1848 : Row RX12 (.invokevirtual 231) 3 2 0 0 4 sp_X12_tick := row_V (n := 1) (ci := 12) c_X12_tick ⟨TBL_in 1795 (by decide +kernel) rfl, TBL_in 1798 (by decide +kernel) rfl, TBL_in 123 (by decide +kernel) rfl, by decide +kernel, by decide⟩ (by decide) rfl (TBL_in 1797 (by decide +kernel) rfl) (TBL_in 67 (by decide +kernel) rfl) rc_X12_tick
def mt_X12_ticks : List (Nat × Mt) := [(1617, 3, 0, 0, 1, sp_X12_within), (1848, 2, 0, 0, 4, sp_X12_tick)]
theorem em_X12_ticks : mt_X12_ticks.lookup 1617 = some (3, 0, 0, 1, sp_X12_within) ∧ mt_X12_ticks.lookup 1848 = some (2, 0, 0, 4, sp_X12_tick) := ⟨rfl, rfl⟩
theorem mk_X12_ticks : MOK RX12 mt_X12_ticks := by
  intro q hq
  simp only [mt_X12_ticks, List.mem_cons, List.not_mem_nil, or_false] at hq
  rcases hq with rfl | rfl
  · exact rw_X12_1617
  · exact rw_X12_1848
noncomputable def xe_X12_ticks (ct : Nat → Bool) (K : Kt) (R : Option AV → Hp → Prop) (n : Nat) : Kt := exS 3 5 0 0 1 tb_X12_ticks mt_X12_ticks ct K R n
noncomputable def xk_X12_ticks (ct : Nat → Bool) (K : Kt) (R : Option AV → Hp → Prop) (n : Nat) : Kt := exkS 3 5 0 0 1 tb_X12_ticks mt_X12_ticks ct K R n
theorem xt_X12_ticks {ct : Nat → Bool} {K : Kt} {R : Option AV → Hp → Prop} {n pc : Nat} {ls : List (Option AV)} {st : List AV} {σ : Hp} {k : Nat × Nat} (h : ct pc = true) : xk_X12_ticks ct K R n pc ls st σ k = K pc ls st σ k := by unfold xk_X12_ticks exkS; rw [h]
theorem xf_X12_ticks {ct : Nat → Bool} {K : Kt} {R : Option AV → Hp → Prop} {n pc : Nat} {ls : List (Option AV)} {st : List AV} {σ : Hp} {k : Nat × Nat} (h : ct pc = false) : xk_X12_ticks ct K R n pc ls st σ k = xe_X12_ticks ct K R n pc ls st σ k := by unfold xk_X12_ticks exkS xe_X12_ticks; rw [h]
theorem ev_X12_ticks {ct : Nat → Bool} {K : Kt} {R : Option AV → Hp → Prop} {n : Nat} {ls : List (Option AV)} {st : List AV} {σ : Hp} {k : Nat × Nat} :
  xe_X12_ticks ct K R (n + 1) 0 ls st σ k = (lR ls 0 fun x => xk_X12_ticks ct K R n 1 ls (vr x :: st) σ k) ∧
  xe_X12_ticks ct K R (n + 1) 1 ls st σ k = (xk_X12_ticks ct K R n 2 ls (vi (0) :: st) σ k) ∧
  xe_X12_ticks ct K R (n + 1) 2 ls st σ k = (oI st fun v st => oR st fun x st => kd σ x = 13 ∧ xk_X12_ticks ct K R n 5 ls st (pI σ 1300 x v) k) ∧
  xe_X12_ticks ct K R (n + 1) 5 ls st σ k = (lI ls 1 fun x => xk_X12_ticks ct K R n 6 ls (vi x :: st) σ k) ∧
  xe_X12_ticks ct K R (n + 1) 6 ls st σ k = (xk_X12_ticks ct K R n 7 ls (vi (0) :: st) σ k) ∧
  xe_X12_ticks ct K R (n + 1) 7 ls st σ k = (xk_X12_ticks ct K R n 10 ls (vi (5000) :: st) σ k) ∧
  xe_X12_ticks ct K R (n + 1) 10 ls st σ k = (popN 3 st [] fun av rest => (catS rest ≤ 8 ∧ 1 < 5 ∧ k.1 + 0 ≤ 0 ∧ k.2 + 0 ≤ 0) ∧ (sp_X12_within) av σ fun v σ' => xk_X12_ticks ct K R n 13 ls (v.toList ++ rest) σ' (k.1 + 0, k.2 + 0)) ∧
  xe_X12_ticks ct K R (n + 1) 13 ls st σ k = (oI st fun x st => (wI x = wI 0 → xk_X12_ticks ct K R n 27 ls st σ k) ∧ (¬ (wI x = wI 0) → xk_X12_ticks ct K R n 16 ls st σ k)) ∧
  xe_X12_ticks ct K R (n + 1) 16 ls st σ k = (lR ls 0 fun x => xk_X12_ticks ct K R n 17 ls (vr x :: st) σ k) ∧
  xe_X12_ticks ct K R (n + 1) 17 ls st σ k = (oR st fun x st => kd σ x = 13 ∧ xk_X12_ticks ct K R n 20 ls (vi (fI σ 1301 x) :: st) σ k) ∧
  xe_X12_ticks ct K R (n + 1) 20 ls st σ k = (lI ls 1 fun x => xk_X12_ticks ct K R n 21 ls (vi x :: st) σ k) ∧
  xe_X12_ticks ct K R (n + 1) 21 ls st σ k = (oI st fun y st => oI st fun x st => xk_X12_ticks ct K R n 22 ls (vi (x + y) :: st) σ k) ∧
  xe_X12_ticks ct K R (n + 1) 22 ls st σ k = (xk_X12_ticks ct K R n 24 ls (vi (999999) :: st) σ k) ∧
  xe_X12_ticks ct K R (n + 1) 24 ls st σ k = (oI st fun y st => oI st fun x st => (wI x ≤ wI y → xk_X12_ticks ct K R n 29 ls st σ k) ∧ (¬ (wI x ≤ wI y) → xk_X12_ticks ct K R n 27 ls st σ k)) ∧
  xe_X12_ticks ct K R (n + 1) 27 ls st σ k = (xk_X12_ticks ct K R n 28 ls (vi (-1) :: st) σ k) ∧
  xe_X12_ticks ct K R (n + 1) 28 ls st σ k = (oI st fun x st => st = [] ∧ True ∧ R (some (vi x)) σ) ∧
  xe_X12_ticks ct K R (n + 1) 29 ls st σ k = (xk_X12_ticks ct K R n 30 ls (vi (0) :: st) σ k) ∧
  xe_X12_ticks ct K R (n + 1) 30 ls st σ k = (oI st fun x st => 2 < 3 ∧ xk_X12_ticks ct K R n 31 (stL ls 2 (vi x)) st σ k) ∧
  xe_X12_ticks ct K R (n + 1) 31 ls st σ k = (lI ls 2 fun x => xk_X12_ticks ct K R n 32 ls (vi x :: st) σ k) ∧
  xe_X12_ticks ct K R (n + 1) 32 ls st σ k = (lI ls 1 fun x => xk_X12_ticks ct K R n 33 ls (vi x :: st) σ k) ∧
  xe_X12_ticks ct K R (n + 1) 33 ls st σ k = (oI st fun y st => oI st fun x st => (wI y ≤ wI x → xk_X12_ticks ct K R n 60 ls st σ k) ∧ (¬ (wI y ≤ wI x) → xk_X12_ticks ct K R n 36 ls st σ k)) ∧
  xe_X12_ticks ct K R (n + 1) 36 ls st σ k = (lR ls 0 fun x => xk_X12_ticks ct K R n 37 ls (vr x :: st) σ k) ∧
  xe_X12_ticks ct K R (n + 1) 37 ls st σ k = (o1 st fun v st => xk_X12_ticks ct K R n 38 ls (v :: v :: st) σ k) ∧
  xe_X12_ticks ct K R (n + 1) 38 ls st σ k = (oR st fun x st => kd σ x = 13 ∧ xk_X12_ticks ct K R n 41 ls (vi (fI σ 1301 x) :: st) σ k) ∧
  xe_X12_ticks ct K R (n + 1) 41 ls st σ k = (xk_X12_ticks ct K R n 42 ls (vi (1) :: st) σ k) ∧
  xe_X12_ticks ct K R (n + 1) 42 ls st σ k = (oI st fun y st => oI st fun x st => xk_X12_ticks ct K R n 43 ls (vi (x + y) :: st) σ k) ∧
  xe_X12_ticks ct K R (n + 1) 43 ls st σ k = (oI st fun v st => oR st fun x st => kd σ x = 13 ∧ xk_X12_ticks ct K R n 46 ls st (pI σ 1301 x v) k) ∧
  xe_X12_ticks ct K R (n + 1) 46 ls st σ k = (lR ls 0 fun x => xk_X12_ticks ct K R n 47 ls (vr x :: st) σ k) ∧
  xe_X12_ticks ct K R (n + 1) 47 ls st σ k = (lR ls 0 fun x => xk_X12_ticks ct K R n 48 ls (vr x :: st) σ k) ∧
  xe_X12_ticks ct K R (n + 1) 48 ls st σ k = (oR st fun x st => kd σ x = 13 ∧ xk_X12_ticks ct K R n 51 ls (vi (fI σ 1301 x) :: st) σ k) ∧
  xe_X12_ticks ct K R (n + 1) 51 ls st σ k = (popN 2 st [] fun av rest => (catS rest ≤ 8 ∧ 4 < 5 ∧ k.1 + 0 ≤ 0 ∧ k.2 + 0 ≤ 0) ∧ (sp_X12_tick) av σ fun v σ' => xk_X12_ticks ct K R n 54 ls (v.toList ++ rest) σ' (k.1 + 0, k.2 + 0)) ∧
  xe_X12_ticks ct K R (n + 1) 54 ls st σ k = (lI ls 2 fun x => 2 < 3 ∧ xk_X12_ticks ct K R n 57 (stL ls 2 (vi (x + (1)))) st σ k) ∧
  xe_X12_ticks ct K R (n + 1) 57 ls st σ k = (xk_X12_ticks ct K R n 31 ls st σ k) ∧
  xe_X12_ticks ct K R (n + 1) 60 ls st σ k = (lR ls 0 fun x => xk_X12_ticks ct K R n 61 ls (vr x :: st) σ k) ∧
  xe_X12_ticks ct K R (n + 1) 61 ls st σ k = (oR st fun x st => kd σ x = 13 ∧ xk_X12_ticks ct K R n 64 ls (vi (fI σ 1301 x) :: st) σ k) ∧
  xe_X12_ticks ct K R (n + 1) 64 ls st σ k = (oI st fun x st => st = [] ∧ True ∧ R (some (vi x)) σ) :=
  ⟨exS_step.trans rfl, exS_step.trans rfl, exS_step.trans rfl, exS_step.trans rfl, exS_step.trans rfl, exS_step.trans rfl, exS_step.trans rfl, exS_step.trans rfl, exS_step.trans rfl, exS_step.trans rfl, exS_step.trans rfl, exS_step.trans rfl, exS_step.trans rfl, exS_step.trans rfl, exS_step.trans rfl, exS_step.trans rfl, exS_step.trans rfl, exS_step.trans rfl, exS_step.trans rfl, exS_step.trans rfl, exS_step.trans rfl, exS_step.trans rfl, exS_step.trans rfl, exS_step.trans rfl, exS_step.trans rfl, exS_step.trans rfl, exS_step.trans rfl, exS_step.trans rfl, exS_step.trans rfl, exS_step.trans rfl, exS_step.trans rfl, exS_step.trans rfl, exS_step.trans rfl, exS_step.trans rfl, exS_step.trans rfl, exS_step.trans rfl⟩
def M_X12_ticks : Md := (yX12_ticks, cX12_ticks, 3, (some FieldType.int), 5, 0, 0, 1, false, tb_X12_ticks, mt_X12_ticks)
theorem mm_X12_ticks : MMOK M_X12_ticks := ⟨by decide +kernel, tk_X12_ticks, mk_X12_ticks, rfl, fun h => by cases h⟩
theorem go_X12_ticks {Q : Option AV → Hp → Prop} {ct : Nat → Bool} {pc : Nat} {ls : List (Option AV)} {st : List AV} {σ : Hp} {k : Nat × Nat} (n : Nat) (h : xe_X12_ticks ct (Go M_X12_ticks Q) Q n pc ls st σ k) : Go M_X12_ticks Q pc ls st σ k := Go.exS mm_X12_ticks h

set_option maxRecDepth 20000 in
theorem c_X12_ticks : Ct yX12_ticks cX12_ticks 3 ((some FieldType.int)) 5 0 0 sp_X12_ticks := by
  refine Ct.go (M := M_X12_ticks) mm_X12_ticks fun av σ Q h0 => ?_
  obtain ⟨this, n, rfl, hk, h⟩ := el_X12_ticks h0
  clear h0
  refine ⟨Nat.le_of_ble_eq_true rfl, ?_⟩
  show Go M_X12_ticks Q 0 [some (vr this), some (vi n), none] [] σ (0, 0)
  obtain ⟨rfl, hT, hn, h1, h2⟩ := h
  have hI := hT.1
  have hs := hI.now_s
  have hT2 : MT (pI σ 1300 61 0) := ⟨MI_fre hI (by decide), hT.2.1, hT.2.2⟩
  have en : ∀ j : Nat, fI (mTs (pI σ 1300 61 0) j) 1301 61 = fI σ 1301 61 + j := fun j => (now_mTs _ j).trans rfl
  have hr := hn
  unfold inR at hr
  have loop : ((0 ≤ n ∧ n ≤ 5000) ∧ fI σ 1301 61 + n ≤ 999999) → ∀ (m j : Nat), (j : Int) + m = n → Go M_X12_ticks Q 31 [some (vr 61), some (vi n), some (vi j)] [] (mTs (pI σ 1300 61 0) j) (0, 0) := by
    intro hc m
    induction m with
    | zero =>
      intro j hj
      have hTj := MT_mTs hT2 j (show fI σ _ _ + j ≤ _ by omega)
      have hk : kd (mTs (pI σ 1300 61 0) j) 61 = 13 := hTj.1.lay.1
      have h1 := h1 hc
      have e : n.toNat = j := by omega
      have e2 : (j : Int) = n := by omega
      rw [e] at h1
      refine go_X12_ticks (ct := fun p => p == 31) 40 ?_
      simp only [oI, oL, oR, o1, lI, lL, lR, popN, catS, gv, stL, stL2, swt, cnd, spObj, List.getElem?_cons_zero, List.getElem?_cons_succ, List.getD_cons_zero, List.getD_cons_succ, List.set_cons_zero, List.set_cons_succ, List.nil_append, List.cons_append, Option.toList, Bool.or_false, Bool.false_or, Bool.or_true, Bool.true_or, Nat.reduceBEq, Nat.reduceAdd, Nat.reduceLT, Nat.reduceLeDiff, Int.reduceAdd, Int.reduceToNat, true_and, and_true, Fin.isValue, Fin.val_zero, Fin.val_one, Fin.val_two, Fin.reduceFinMk, eq_self, Int.reduceNeg, imp_self, Nat.reduceMul, Nat.le_refl, not_true_eq_false, not_false_eq_true, List.getElem?_nil, reduceCtorEq, true_or, or_true, Classical.not_not, implies_true, or_self, wI_0, wI_1, wI_m1, b2i_w, b2i_eq0, b2i_eq1, b2i_bool, nor_self, nx_pI, kd_pI, ln_pI, fI_pI, fL_pI, fR_pI, aI_pI, aL_pI, aR_pI, nx_pL, kd_pL, ln_pL, fI_pL, fL_pL, fR_pL, aI_pL, aL_pL, aR_pL, nx_pR, kd_pR, ln_pR, fI_pR, fL_pR, fR_pR, aI_pR, aL_pR, aR_pR, nx_qI, kd_qI, ln_qI, fI_qI, fL_qI, fR_qI, aI_qI, aL_qI, aR_qI, nx_qL, kd_qL, ln_qL, fI_qL, fL_qL, fR_qL, aI_qL, aL_qL, aR_qL, nx_qR, kd_qR, ln_qR, fI_qR, fL_qR, fR_qR, aI_qR, aL_qR, aR_qR, nx_mk, kd_mk, ln_mk, fI_mk, fL_mk, fR_mk, aI_mk, aL_mk, aR_mk, false_and, and_false, if_false, if_true, and_self, Int.reduceEq, Nat.reduceEqDiff, ite_self, MLay_pI, MLay_pL, MLay_qI, MLay_qL, ev_X12_ticks, xt_X12_ticks, xf_X12_ticks, us_X12_within, us_X12_tick, hk, en, e2]
      try simp (disch := omega) only [wI_id, dv_nn, rm_nn]
      exact ⟨fun _ => h1, fun z => absurd (Int.le_refl _) z⟩
    | succ m ih =>
      intro j hj
      have ih := ih (j + 1) (by omega)
      have hTj := MT_mTs hT2 j (show fI σ _ _ + j ≤ _ by omega)
      have hk : kd (mTs (pI σ 1300 61 0) j) 61 = 13 := hTj.1.lay.1
      have hM : MI (pI (mTs (pI σ 1300 61 0) j) 1301 61 (fI σ 1301 61 + j + 1)) := MI_now_p hTj.1 (by omega)
      have ht := fun i => hTj.2.1 i
      simp only [en] at ht
      simp only [mTs, Int.natCast_add, Int.cast_ofNat_Int] at ih
      refine go_X12_ticks (ct := fun p => p == 31) 40 ?_
      simp only [oI, oL, oR, o1, lI, lL, lR, popN, catS, gv, stL, stL2, swt, cnd, spObj, List.getElem?_cons_zero, List.getElem?_cons_succ, List.getD_cons_zero, List.getD_cons_succ, List.set_cons_zero, List.set_cons_succ, List.nil_append, List.cons_append, Option.toList, Bool.or_false, Bool.false_or, Bool.or_true, Bool.true_or, Nat.reduceBEq, Nat.reduceAdd, Nat.reduceLT, Nat.reduceLeDiff, Int.reduceAdd, Int.reduceToNat, true_and, and_true, Fin.isValue, Fin.val_zero, Fin.val_one, Fin.val_two, Fin.reduceFinMk, eq_self, Int.reduceNeg, imp_self, Nat.reduceMul, Nat.le_refl, not_true_eq_false, not_false_eq_true, List.getElem?_nil, reduceCtorEq, true_or, or_true, Classical.not_not, implies_true, or_self, wI_0, wI_1, wI_m1, b2i_w, b2i_eq0, b2i_eq1, b2i_bool, nor_self, nx_pI, kd_pI, ln_pI, fI_pI, fL_pI, fR_pI, aI_pI, aL_pI, aR_pI, nx_pL, kd_pL, ln_pL, fI_pL, fL_pL, fR_pL, aI_pL, aL_pL, aR_pL, nx_pR, kd_pR, ln_pR, fI_pR, fL_pR, fR_pR, aI_pR, aL_pR, aR_pR, nx_qI, kd_qI, ln_qI, fI_qI, fL_qI, fR_qI, aI_qI, aL_qI, aR_qI, nx_qL, kd_qL, ln_qL, fI_qL, fL_qL, fR_qL, aI_qL, aL_qL, aR_qL, nx_qR, kd_qR, ln_qR, fI_qR, fL_qR, fR_qR, aI_qR, aL_qR, aR_qR, nx_mk, kd_mk, ln_mk, fI_mk, fL_mk, fR_mk, aI_mk, aL_mk, aR_mk, false_and, and_false, if_false, if_true, and_self, Int.reduceEq, Nat.reduceEqDiff, ite_self, MLay_pI, MLay_pL, MLay_qI, MLay_qL, ev_X12_ticks, xt_X12_ticks, xf_X12_ticks, us_X12_within, us_X12_tick, hk, en, hM]
      try simp (disch := omega) only [wI_id, dv_nn, rm_nn]
      repeat' (first | intro z | apply And.intro)
      all_goals try omega
      all_goals trace_state
      all_goals sorry
  refine go_X12_ticks (ct := fun p => p == 31) 40 ?_
  simp only [oI, oL, oR, o1, lI, lL, lR, popN, catS, gv, stL, stL2, swt, cnd, spObj, List.getElem?_cons_zero, List.getElem?_cons_succ, List.getD_cons_zero, List.getD_cons_succ, List.set_cons_zero, List.set_cons_succ, List.nil_append, List.cons_append, Option.toList, Bool.or_false, Bool.false_or, Bool.or_true, Bool.true_or, Nat.reduceBEq, Nat.reduceAdd, Nat.reduceLT, Nat.reduceLeDiff, Int.reduceAdd, Int.reduceToNat, true_and, and_true, Fin.isValue, Fin.val_zero, Fin.val_one, Fin.val_two, Fin.reduceFinMk, eq_self, Int.reduceNeg, imp_self, Nat.reduceMul, Nat.le_refl, not_true_eq_false, not_false_eq_true, List.getElem?_nil, reduceCtorEq, true_or, or_true, Classical.not_not, implies_true, or_self, wI_0, wI_1, wI_m1, b2i_w, b2i_eq0, b2i_eq1, b2i_bool, nor_self, nx_pI, kd_pI, ln_pI, fI_pI, fL_pI, fR_pI, aI_pI, aL_pI, aR_pI, nx_pL, kd_pL, ln_pL, fI_pL, fL_pL, fR_pL, aI_pL, aL_pL, aR_pL, nx_pR, kd_pR, ln_pR, fI_pR, fL_pR, fR_pR, aI_pR, aL_pR, aR_pR, nx_qI, kd_qI, ln_qI, fI_qI, fL_qI, fR_qI, aI_qI, aL_qI, aR_qI, nx_qL, kd_qL, ln_qL, fI_qL, fL_qL, fR_qL, aI_qL, aL_qL, aR_qL, nx_qR, kd_qR, ln_qR, fI_qR, fL_qR, fR_qR, aI_qR, aL_qR, aR_qR, nx_mk, kd_mk, ln_mk, fI_mk, fL_mk, fR_mk, aI_mk, aL_mk, aR_mk, false_and, and_false, if_false, if_true, and_self, Int.reduceEq, Nat.reduceEqDiff, ite_self, MLay_pI, MLay_pL, MLay_qI, MLay_qL, ev_X12_ticks, xt_X12_ticks, xf_X12_ticks, us_X12_within, us_X12_tick, hk]
  try simp (disch := omega) only [wI_id, dv_nn, rm_nn]
  repeat' (first | intro z | apply And.intro)
  all_goals try omega
  all_goals trace_state
  all_goals sorry
