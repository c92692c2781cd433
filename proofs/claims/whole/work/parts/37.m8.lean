/-! the reference: companies sent -/

theorem hwM_up {P P' : Int → Prop} {c : Int} (hn : ¬ P c) (hp : P' c) (h : ∀ j, j ≠ c → (P' j ↔ P j)) (h0 : 0 ≤ c) : ∀ n : Nat, hwM P' n = hwM P n + (if c < n then 1 else 0)
  | 0 => by rw [if_neg (by omega)]; rfl
  | n + 1 => by
    have ih := hwM_up hn hp h h0 n
    show hwM P' n + b2i (P' n) = hwM P n + b2i (P n) + _
    by_cases e : (n : Int) = c
    · rw [← e] at hn hp
      rw [b2i_t hp, b2i_f hn, ih, if_neg (by omega), if_pos (by omega)]
    · rw [b2i_congr (h n e), ih]
      split <;> split <;> omega
theorem hwM_lt {P : Int → Prop} {c : Int} (hn : ¬ P c) (h0 : 0 ≤ c) : ∀ n : Nat, c < n → hwM P n < n
  | 0, h => by omega
  | n + 1, h => by
    show hwM P n + b2i (P n) < _
    by_cases e : (n : Int) = c
    · rw [← e] at hn
      have := hwM_in P n
      rw [b2i_f hn]; omega
    · have ih := hwM_lt hn h0 n (by omega)
      by_cases e2 : P n
      · rw [b2i_t e2]; omega
      · rw [b2i_f e2]; omega
/-- the nearest company of a kind that is in, of the first -/
def mBest (σ : Hp) (kn b : Int) : Nat → Int
  | 0 => -1
  | n + 1 => if aI σ 87 n = kn ∧ 0 ≤ aI σ 89 n ∧ (mBest σ kn b n < 0 ∨ mWay σ (aI σ 89 n) b < mWay σ (aI σ 89 (mBest σ kn b n)) b) then n else mBest σ kn b n
theorem mBest_in (σ : Hp) (kn b : Int) : ∀ n : Nat, -1 ≤ mBest σ kn b n ∧ mBest σ kn b n < n ∧ (0 ≤ mBest σ kn b n → aI σ 87 (mBest σ kn b n) = kn ∧ 0 ≤ aI σ 89 (mBest σ kn b n))
  | 0 => by unfold mBest; omega
  | n + 1 => by
    have ih := mBest_in σ kn b n
    unfold mBest
    by_cases h : aI σ 87 n = kn ∧ 0 ≤ aI σ 89 n ∧ (mBest σ kn b n < 0 ∨ mWay σ (aI σ 89 n) b < mWay σ (aI σ 89 (mBest σ kn b n)) b)
    · rw [if_pos h]
      exact ⟨by omega, by omega, fun _ => ⟨h.1, h.2.1⟩⟩
    · rw [if_neg h]
      exact ⟨by omega, by omega, ih.2.2⟩
/-- one company is sent -/
def mSnd (σ : Hp) (a c : Int) : Hp := qI (qI (qI (qI (qI σ 91 c (fI σ 1301 61 + fI σ 1341 61 * mWay σ (aI σ 89 c) (aI σ 109 a))) 89 c (-1)) 90 c a) 116 (20 * a + aI σ 115 a) c) 115 a (aI σ 115 a + 1)
def mSends (σ : Hp) (a kn : Int) : Nat → Hp
  | 0 => σ
  | n + 1 => if mBest σ kn (aI σ 109 a) (fI σ 1335 61).toNat < 0 then σ else mSends (mSnd σ a (mBest σ kn (aI σ 109 a) (fI σ 1335 61).toNat)) a kn n
/-- how many are sent to an alarm -/
noncomputable def mTo (σ : Hp) (a : Int) : Int := hwM (fun c => aI σ 89 c < 0 ∧ aI σ 90 c = a) (fI σ 1335 61).toNat
theorem mTo_snd {σ : Hp} (hI : MI σ) {a c : Int} (hc : 0 ≤ c ∧ c < fI σ 1335 61) (hx : 0 ≤ aI σ 89 c) : mTo σ a < fI σ 1335 61 ∧ mTo (mSnd σ a c) a = mTo σ a + 1 := by
  have hs := hI.companies_s
  refine ⟨?_, ?_⟩
  · have := hwM_lt (P := fun c => aI σ 89 c < 0 ∧ aI σ 90 c = a) (c := c) (fun q => by omega) hc.1 (fI σ 1335 61).toNat (by omega)
    unfold mTo; omega
  · have := hwM_up (P := fun c => aI σ 89 c < 0 ∧ aI σ 90 c = a) (P' := fun j => aI (mSnd σ a c) 89 j < 0 ∧ aI (mSnd σ a c) 90 j = a) (c := c) (fun q => by omega) (by simp [mSnd, aI_qI]) (fun j hj => by simp [mSnd, aI_qI, hj]) hc.1 (fI σ 1335 61).toNat
    rw [if_pos (by omega)] at this
    exact this
theorem MI_mSnd {σ : Hp} (hI : MI σ) {a c : Int} (ha : 0 ≤ a ∧ a < 100) (hc : 0 ≤ c ∧ c < 20) (hm : aI σ 115 a < 20) : MI (mSnd σ a c) := by
  have h1 := hI.now_s
  have h2 := hI.pace_s
  have h3 := mWay_in hI (aI σ 89 c) (aI σ 109 a)
  have h4 := hI.sentMany_ a
  have h5 : 0 ≤ fI σ 1341 61 * mWay σ (aI σ 89 c) (aI σ 109 a) := Int.mul_nonneg (by omega) (by omega)
  have h6 : fI σ 1341 61 * mWay σ (aI σ 89 c) (aI σ 109 a) ≤ 9 * 198 := Int.mul_le_mul (by omega) (by omega) (by omega) (by omega)
  exact MI_sentMany_q (MI_sentRow_q (MI_sentTo_q (MI_isAt_q (MI_thereAt_q hI (by omega)) (by omega)) (by omega)) (by omega)) (by omega)

def sp_X12_sends : Sp := fun av σ Q => oR av fun this av => oI av fun a av => oI av fun kn av => oI av fun n av => av = [] ∧ kd σ this = 13 ∧ (this = 61 ∧ MI σ ∧ (0 ≤ a ∧ a < 100) ∧ (0 ≤ kn ∧ kn ≤ 1) ∧ (0 ≤ n ∧ n ≤ 9) ∧ aI σ 115 a ≤ mTo σ a ∧ Q none (mSends σ a kn n.toNat))
theorem us_X12_sends (this : Int) (a : Int) (kn : Int) (n : Int) (σ : Hp) (Q : Option AV → Hp → Prop) : sp_X12_sends [vr this, vi a, vi kn, vi n] σ Q = (kd σ this = 13 ∧ (this = 61 ∧ MI σ ∧ (0 ≤ a ∧ a < 100) ∧ (0 ≤ kn ∧ kn ≤ 1) ∧ (0 ≤ n ∧ n ≤ 9) ∧ aI σ 115 a ≤ mTo σ a ∧ Q none (mSends σ a kn n.toNat))) := propext ⟨fun h => h.2, fun h => ⟨rfl, h⟩⟩
theorem el_X12_sends {av : List AV} {σ : Hp} {Q : Option AV → Hp → Prop} (h : sp_X12_sends av σ Q) : ∃ (this : Int) (a : Int) (kn : Int) (n : Int), av = [vr this, vi a, vi kn, vi n] ∧ (kd σ this = 13 ∧ (this = 61 ∧ MI σ ∧ (0 ≤ a ∧ a < 100) ∧ (0 ≤ kn ∧ kn ≤ 1) ∧ (0 ≤ n ∧ n ≤ 9) ∧ aI σ 115 a ≤ mTo σ a ∧ Q none (mSends σ a kn n.toNat))) := by
  obtain ⟨this, a0, rfl, h0⟩ := oR_s h
  obtain ⟨a, a1, rfl, h1⟩ := oI_s h0
  obtain ⟨kn, a2, rfl, h2⟩ := oI_s h1
  obtain ⟨n, a3, rfl, h3⟩ := oI_s h2
  obtain ⟨rfl, hz⟩ := h3
  exact ⟨this, a, kn, n, rfl, hz⟩
theorem rc_X12_sends : ∀ (av : List AV) (σ : Hp) (Q : Option AV → Hp → Prop), sp_X12_sends av σ Q → ∃ r tl, av = vr r :: tl ∧ kd σ r = 12 + 1 := fun av σ Q h => by
  obtain ⟨this, a, kn, n, rfl, hz, -⟩ := el_X12_sends h
  exact ⟨this, _, rfl, hz⟩

def tb_X12_sends : Tab := [(0, .aload_n 0, 1, (0, 0, 0, 0)), (1, .getfield 153, 3, (13, 1372, 2, 0)), (4, .iload_n 1, 1, (0, 0, 0, 0)), (5, .iaload, 1, (0, 0, 0, 0)), (6, .istore 4, 2, (0, 0, 0, 0)), (8, .iconst 0, 1, (0, 0, 0, 0)), (9, .istore 5, 2, (0, 0, 0, 0)), (11, .iload 5, 2, (0, 0, 0, 0)), (13, .iload_n 3, 1, (0, 0, 0, 0)), (14, .if_icmp .ge 172, 3, (0, 0, 0, 0)), (17, .iconst (-1), 1, (0, 0, 0, 0)), (18, .istore 6, 2, (0, 0, 0, 0)), (20, .iconst 0, 1, (0, 0, 0, 0)), (21, .istore 7, 2, (0, 0, 0, 0)), (23, .iload 7, 2, (0, 0, 0, 0)), (25, .aload_n 0, 1, (0, 0, 0, 0)), (26, .getfield 293, 3, (13, 1335, 0, 0)), (29, .if_icmp .ge 71, 3, (0, 0, 0, 0)), (32, .aload_n 0, 1, (0, 0, 0, 0)), (33, .getfield 87, 3, (13, 1336, 2, 0)), (36, .iload 7, 2, (0, 0, 0, 0)), (38, .iaload, 1, (0, 0, 0, 0)), (39, .iload_n 2, 1, (0, 0, 0, 0)), (40, .if_icmp .ne 54, 3, (0, 0, 0, 0)), (43, .aload_n 0, 1, (0, 0, 0, 0)), (44, .getfield 93, 3, (13, 1338, 2, 0)), (47, .iload 7, 2, (0, 0, 0, 0)), (49, .iaload, 1, (0, 0, 0, 0)), (50, .ifCond .ge 6, 3, (0, 0, 0, 0)), (53, .goto 41, 3, (0, 0, 0, 0)), (56, .iload 6, 2, (0, 0, 0, 0)), (58, .ifCond .lt 32, 3, (0, 0, 0, 0)), (61, .aload_n 0, 1, (0, 0, 0, 0)), (62, .aload_n 0, 1, (0, 0, 0, 0)), (63, .getfield 93, 3, (13, 1338, 2, 0)), (66, .iload 7, 2, (0, 0, 0, 0)), (68, .iaload, 1, (0, 0, 0, 0)), (69, .iload 4, 2, (0, 0, 0, 0)), (71, .invokevirtual 408, 3, (0, 0, 0, 0)), (74, .aload_n 0, 1, (0, 0, 0, 0)), (75, .aload_n 0, 1, (0, 0, 0, 0)), (76, .getfield 93, 3, (13, 1338, 2, 0)), (79, .iload 6, 2, (0, 0, 0, 0)), (81, .iaload, 1, (0, 0, 0, 0)), (82, .iload 4, 2, (0, 0, 0, 0)), (84, .invokevirtual 408, 3, (0, 0, 0, 0)), (87, .if_icmp .ge 7, 3, (0, 0, 0, 0)), (90, .iload 7, 2, (0, 0, 0, 0)), (92, .istore 6, 2, (0, 0, 0, 0)), (94, .iinc 7 1, 3, (0, 0, 0, 0)), (97, .goto (-74), 3, (0, 0, 0, 0)), (100, .iload 6, 2, (0, 0, 0, 0)), (102, .ifCond .ge 4, 3, (0, 0, 0, 0)), (105, .return_, 1, (0, 0, 0, 0)), (106, .aload_n 0, 1, (0, 0, 0, 0)), (107, .getfield 99, 3, (13, 1340, 2, 0)), (110, .iload 6, 2, (0, 0, 0, 0)), (112, .aload_n 0, 1, (0, 0, 0, 0)), (113, .getfield 217, 3, (13, 1301, 0, 0)), (116, .aload_n 0, 1, (0, 0, 0, 0)), (117, .getfield 186, 3, (13, 1341, 0, 0)), (120, .aload_n 0, 1, (0, 0, 0, 0)), (121, .aload_n 0, 1, (0, 0, 0, 0)), (122, .getfield 93, 3, (13, 1338, 2, 0)), (125, .iload 6, 2, (0, 0, 0, 0)), (127, .iaload, 1, (0, 0, 0, 0)), (128, .iload 4, 2, (0, 0, 0, 0)), (130, .invokevirtual 408, 3, (0, 0, 0, 0)), (133, .imul, 1, (0, 0, 0, 0)), (134, .iadd, 1, (0, 0, 0, 0)), (135, .iastore, 1, (0, 0, 0, 0)), (136, .aload_n 0, 1, (0, 0, 0, 0)), (137, .getfield 93, 3, (13, 1338, 2, 0)), (140, .iload 6, 2, (0, 0, 0, 0)), (142, .iconst (-1), 1, (0, 0, 0, 0)), (143, .iastore, 1, (0, 0, 0, 0)), (144, .aload_n 0, 1, (0, 0, 0, 0)), (145, .getfield 96, 3, (13, 1339, 2, 0)), (148, .iload 6, 2, (0, 0, 0, 0)), (150, .iload_n 1, 1, (0, 0, 0, 0)), (151, .iastore, 1, (0, 0, 0, 0)), (152, .aload_n 0, 1, (0, 0, 0, 0)), (153, .getfield 174, 3, (13, 1379, 2, 0)), (156, .bipush 20, 2, (0, 0, 0, 0)), (158, .iload_n 1, 1, (0, 0, 0, 0)), (159, .imul, 1, (0, 0, 0, 0)), (160, .aload_n 0, 1, (0, 0, 0, 0)), (161, .getfield 171, 3, (13, 1378, 2, 0)), (164, .iload_n 1, 1, (0, 0, 0, 0)), (165, .iaload, 1, (0, 0, 0, 0)), (166, .iadd, 1, (0, 0, 0, 0)), (167, .iload 6, 2, (0, 0, 0, 0)), (169, .iastore, 1, (0, 0, 0, 0)), (170, .aload_n 0, 1, (0, 0, 0, 0)), (171, .getfield 171, 3, (13, 1378, 2, 0)), (174, .iload_n 1, 1, (0, 0, 0, 0)), (175, .dup2, 1, (0, 0, 0, 0)), (176, .iaload, 1, (0, 0, 0, 0)), (177, .iconst 1, 1, (0, 0, 0, 0)), (178, .iadd, 1, (0, 0, 0, 0)), (179, .iastore, 1, (0, 0, 0, 0)), (180, .iinc 5 1, 3, (0, 0, 0, 0)), (183, .goto (-172), 3, (0, 0, 0, 0)), (186, .return_, 1, (0, 0, 0, 0))]
set_option maxRecDepth 100000 in
theorem tk_X12_sends : TOK RX12 false cX12_sends tb_X12_sends := chkT_ok ft_X12 (by decide +kernel)
def mt_X12_sends : List (Nat × Mt) := [(3264, 3, 0, 0, 2, sp_X12_way)]
theorem em_X12_sends : mt_X12_sends.lookup 3264 = some (3, 0, 0, 2, sp_X12_way) := rfl
theorem mk_X12_sends : MOK RX12 mt_X12_sends := by
  intro q hq
  simp only [mt_X12_sends, List.mem_cons, List.not_mem_nil, or_false] at hq
  rcases hq with rfl
  · exact rw_X12_3264
noncomputable def xe_X12_sends (ct : Nat → Bool) (K : Kt) (R : Option AV → Hp → Prop) (n : Nat) : Kt := exS 8 3 0 0 0 tb_X12_sends mt_X12_sends ct K R n
noncomputable def xk_X12_sends (ct : Nat → Bool) (K : Kt) (R : Option AV → Hp → Prop) (n : Nat) : Kt := exkS 8 3 0 0 0 tb_X12_sends mt_X12_sends ct K R n
theorem xt_X12_sends {ct : Nat → Bool} {K : Kt} {R : Option AV → Hp → Prop} {n pc : Nat} {ls : List (Option AV)} {st : List AV} {σ : Hp} {k : Nat × Nat} (h : ct pc = true) : xk_X12_sends ct K R n pc ls st σ k = K pc ls st σ k := by unfold xk_X12_sends exkS; rw [h]
theorem xf_X12_sends {ct : Nat → Bool} {K : Kt} {R : Option AV → Hp → Prop} {n pc : Nat} {ls : List (Option AV)} {st : List AV} {σ : Hp} {k : Nat × Nat} (h : ct pc = false) : xk_X12_sends ct K R n pc ls st σ k = xe_X12_sends ct K R n pc ls st σ k := by unfold xk_X12_sends exkS xe_X12_sends; rw [h]
theorem ev_X12_sends {ct : Nat → Bool} {K : Kt} {R : Option AV → Hp → Prop} {n : Nat} {ls : List (Option AV)} {st : List AV} {σ : Hp} {k : Nat × Nat} :
  xe_X12_sends ct K R (n + 1) 0 ls st σ k = (lR ls 0 fun x => xk_X12_sends ct K R n 1 ls (vr x :: st) σ k) ∧
  xe_X12_sends ct K R (n + 1) 1 ls st σ k = (oR st fun x st => kd σ x = 13 ∧ xk_X12_sends ct K R n 4 ls (vr (fR σ 1372 x) :: st) σ k) ∧
  xe_X12_sends ct K R (n + 1) 4 ls st σ k = (lI ls 1 fun x => xk_X12_sends ct K R n 5 ls (vi x :: st) σ k) ∧
  xe_X12_sends ct K R (n + 1) 5 ls st σ k = (oI st fun j st => oR st fun x st => (kd σ x = 101 ∨ kd σ x = 108) ∧ (0 ≤ j ∧ j < ln σ x) ∧ xk_X12_sends ct K R n 6 ls (vi (aI σ x j) :: st) σ k) ∧
  xe_X12_sends ct K R (n + 1) 6 ls st σ k = (oI st fun x st => 4 < 8 ∧ xk_X12_sends ct K R n 8 (stL ls 4 (vi x)) st σ k) ∧
  xe_X12_sends ct K R (n + 1) 8 ls st σ k = (xk_X12_sends ct K R n 9 ls (vi (0) :: st) σ k) ∧
  xe_X12_sends ct K R (n + 1) 9 ls st σ k = (oI st fun x st => 5 < 8 ∧ xk_X12_sends ct K R n 11 (stL ls 5 (vi x)) st σ k) ∧
  xe_X12_sends ct K R (n + 1) 11 ls st σ k = (lI ls 5 fun x => xk_X12_sends ct K R n 13 ls (vi x :: st) σ k) ∧
  xe_X12_sends ct K R (n + 1) 13 ls st σ k = (lI ls 3 fun x => xk_X12_sends ct K R n 14 ls (vi x :: st) σ k) ∧
  xe_X12_sends ct K R (n + 1) 14 ls st σ k = (oI st fun y st => oI st fun x st => (wI y ≤ wI x → xk_X12_sends ct K R n 186 ls st σ k) ∧ (¬ (wI y ≤ wI x) → xk_X12_sends ct K R n 17 ls st σ k)) ∧
  xe_X12_sends ct K R (n + 1) 17 ls st σ k = (xk_X12_sends ct K R n 18 ls (vi (-1) :: st) σ k) ∧
  xe_X12_sends ct K R (n + 1) 18 ls st σ k = (oI st fun x st => 6 < 8 ∧ xk_X12_sends ct K R n 20 (stL ls 6 (vi x)) st σ k) ∧
  xe_X12_sends ct K R (n + 1) 20 ls st σ k = (xk_X12_sends ct K R n 21 ls (vi (0) :: st) σ k) ∧
  xe_X12_sends ct K R (n + 1) 21 ls st σ k = (oI st fun x st => 7 < 8 ∧ xk_X12_sends ct K R n 23 (stL ls 7 (vi x)) st σ k) ∧
  xe_X12_sends ct K R (n + 1) 23 ls st σ k = (lI ls 7 fun x => xk_X12_sends ct K R n 25 ls (vi x :: st) σ k) ∧
  xe_X12_sends ct K R (n + 1) 25 ls st σ k = (lR ls 0 fun x => xk_X12_sends ct K R n 26 ls (vr x :: st) σ k) ∧
  xe_X12_sends ct K R (n + 1) 26 ls st σ k = (oR st fun x st => kd σ x = 13 ∧ xk_X12_sends ct K R n 29 ls (vi (fI σ 1335 x) :: st) σ k) ∧
  xe_X12_sends ct K R (n + 1) 29 ls st σ k = (oI st fun y st => oI st fun x st => (wI y ≤ wI x → xk_X12_sends ct K R n 100 ls st σ k) ∧ (¬ (wI y ≤ wI x) → xk_X12_sends ct K R n 32 ls st σ k)) ∧
  xe_X12_sends ct K R (n + 1) 32 ls st σ k = (lR ls 0 fun x => xk_X12_sends ct K R n 33 ls (vr x :: st) σ k) ∧
  xe_X12_sends ct K R (n + 1) 33 ls st σ k = (oR st fun x st => kd σ x = 13 ∧ xk_X12_sends ct K R n 36 ls (vr (fR σ 1336 x) :: st) σ k) ∧
  xe_X12_sends ct K R (n + 1) 36 ls st σ k = (lI ls 7 fun x => xk_X12_sends ct K R n 38 ls (vi x :: st) σ k) ∧
  xe_X12_sends ct K R (n + 1) 38 ls st σ k = (oI st fun j st => oR st fun x st => (kd σ x = 101 ∨ kd σ x = 108) ∧ (0 ≤ j ∧ j < ln σ x) ∧ xk_X12_sends ct K R n 39 ls (vi (aI σ x j) :: st) σ k) ∧
  xe_X12_sends ct K R (n + 1) 39 ls st σ k = (lI ls 2 fun x => xk_X12_sends ct K R n 40 ls (vi x :: st) σ k) ∧
  xe_X12_sends ct K R (n + 1) 40 ls st σ k = (oI st fun y st => oI st fun x st => (¬ wI x = wI y → xk_X12_sends ct K R n 94 ls st σ k) ∧ (¬ (¬ wI x = wI y) → xk_X12_sends ct K R n 43 ls st σ k)) ∧
  xe_X12_sends ct K R (n + 1) 43 ls st σ k = (lR ls 0 fun x => xk_X12_sends ct K R n 44 ls (vr x :: st) σ k) ∧
  xe_X12_sends ct K R (n + 1) 44 ls st σ k = (oR st fun x st => kd σ x = 13 ∧ xk_X12_sends ct K R n 47 ls (vr (fR σ 1338 x) :: st) σ k) ∧
  xe_X12_sends ct K R (n + 1) 47 ls st σ k = (lI ls 7 fun x => xk_X12_sends ct K R n 49 ls (vi x :: st) σ k) ∧
  xe_X12_sends ct K R (n + 1) 49 ls st σ k = (oI st fun j st => oR st fun x st => (kd σ x = 101 ∨ kd σ x = 108) ∧ (0 ≤ j ∧ j < ln σ x) ∧ xk_X12_sends ct K R n 50 ls (vi (aI σ x j) :: st) σ k) ∧
  xe_X12_sends ct K R (n + 1) 50 ls st σ k = (oI st fun x st => (wI 0 ≤ wI x → xk_X12_sends ct K R n 56 ls st σ k) ∧ (¬ (wI 0 ≤ wI x) → xk_X12_sends ct K R n 53 ls st σ k)) ∧
  xe_X12_sends ct K R (n + 1) 53 ls st σ k = (xk_X12_sends ct K R n 94 ls st σ k) ∧
  xe_X12_sends ct K R (n + 1) 56 ls st σ k = (lI ls 6 fun x => xk_X12_sends ct K R n 58 ls (vi x :: st) σ k) ∧
  xe_X12_sends ct K R (n + 1) 58 ls st σ k = (oI st fun x st => (wI x < wI 0 → xk_X12_sends ct K R n 90 ls st σ k) ∧ (¬ (wI x < wI 0) → xk_X12_sends ct K R n 61 ls st σ k)) ∧
  xe_X12_sends ct K R (n + 1) 61 ls st σ k = (lR ls 0 fun x => xk_X12_sends ct K R n 62 ls (vr x :: st) σ k) ∧
  xe_X12_sends ct K R (n + 1) 62 ls st σ k = (lR ls 0 fun x => xk_X12_sends ct K R n 63 ls (vr x :: st) σ k) ∧
  xe_X12_sends ct K R (n + 1) 63 ls st σ k = (oR st fun x st => kd σ x = 13 ∧ xk_X12_sends ct K R n 66 ls (vr (fR σ 1338 x) :: st) σ k) ∧
  xe_X12_sends ct K R (n + 1) 66 ls st σ k = (lI ls 7 fun x => xk_X12_sends ct K R n 68 ls (vi x :: st) σ k) ∧
  xe_X12_sends ct K R (n + 1) 68 ls st σ k = (oI st fun j st => oR st fun x st => (kd σ x = 101 ∨ kd σ x = 108) ∧ (0 ≤ j ∧ j < ln σ x) ∧ xk_X12_sends ct K R n 69 ls (vi (aI σ x j) :: st) σ k) ∧
  xe_X12_sends ct K R (n + 1) 69 ls st σ k = (lI ls 4 fun x => xk_X12_sends ct K R n 71 ls (vi x :: st) σ k) ∧
  xe_X12_sends ct K R (n + 1) 71 ls st σ k = (popN 3 st [] fun av rest => (catS rest ≤ 8 ∧ 2 < 3 ∧ k.1 + 0 ≤ 0 ∧ k.2 + 0 ≤ 0) ∧ (sp_X12_way) av σ fun v σ' => xk_X12_sends ct K R n 74 ls (v.toList ++ rest) σ' (k.1 + 0, k.2 + 0)) ∧
  xe_X12_sends ct K R (n + 1) 74 ls st σ k = (lR ls 0 fun x => xk_X12_sends ct K R n 75 ls (vr x :: st) σ k) ∧
  xe_X12_sends ct K R (n + 1) 75 ls st σ k = (lR ls 0 fun x => xk_X12_sends ct K R n 76 ls (vr x :: st) σ k) ∧
  xe_X12_sends ct K R (n + 1) 76 ls st σ k = (oR st fun x st => kd σ x = 13 ∧ xk_X12_sends ct K R n 79 ls (vr (fR σ 1338 x) :: st) σ k) ∧
  xe_X12_sends ct K R (n + 1) 79 ls st σ k = (lI ls 6 fun x => xk_X12_sends ct K R n 81 ls (vi x :: st) σ k) ∧
  xe_X12_sends ct K R (n + 1) 81 ls st σ k = (oI st fun j st => oR st fun x st => (kd σ x = 101 ∨ kd σ x = 108) ∧ (0 ≤ j ∧ j < ln σ x) ∧ xk_X12_sends ct K R n 82 ls (vi (aI σ x j) :: st) σ k) ∧
  xe_X12_sends ct K R (n + 1) 82 ls st σ k = (lI ls 4 fun x => xk_X12_sends ct K R n 84 ls (vi x :: st) σ k) ∧
  xe_X12_sends ct K R (n + 1) 84 ls st σ k = (popN 3 st [] fun av rest => (catS rest ≤ 8 ∧ 2 < 3 ∧ k.1 + 0 ≤ 0 ∧ k.2 + 0 ≤ 0) ∧ (sp_X12_way) av σ fun v σ' => xk_X12_sends ct K R n 87 ls (v.toList ++ rest) σ' (k.1 + 0, k.2 + 0)) ∧
  xe_X12_sends ct K R (n + 1) 87 ls st σ k = (oI st fun y st => oI st fun x st => (wI y ≤ wI x → xk_X12_sends ct K R n 94 ls st σ k) ∧ (¬ (wI y ≤ wI x) → xk_X12_sends ct K R n 90 ls st σ k)) ∧
  xe_X12_sends ct K R (n + 1) 90 ls st σ k = (lI ls 7 fun x => xk_X12_sends ct K R n 92 ls (vi x :: st) σ k) ∧
  xe_X12_sends ct K R (n + 1) 92 ls st σ k = (oI st fun x st => 6 < 8 ∧ xk_X12_sends ct K R n 94 (stL ls 6 (vi x)) st σ k) ∧
  xe_X12_sends ct K R (n + 1) 94 ls st σ k = (lI ls 7 fun x => 7 < 8 ∧ xk_X12_sends ct K R n 97 (stL ls 7 (vi (x + (1)))) st σ k) ∧
  xe_X12_sends ct K R (n + 1) 97 ls st σ k = (xk_X12_sends ct K R n 23 ls st σ k) ∧
  xe_X12_sends ct K R (n + 1) 100 ls st σ k = (lI ls 6 fun x => xk_X12_sends ct K R n 102 ls (vi x :: st) σ k) ∧
  xe_X12_sends ct K R (n + 1) 102 ls st σ k = (oI st fun x st => (wI 0 ≤ wI x → xk_X12_sends ct K R n 106 ls st σ k) ∧ (¬ (wI 0 ≤ wI x) → xk_X12_sends ct K R n 105 ls st σ k)) ∧
  xe_X12_sends ct K R (n + 1) 105 ls st σ k = (st = [] ∧ 0 = 0 ∧ R none σ) ∧
  xe_X12_sends ct K R (n + 1) 106 ls st σ k = (lR ls 0 fun x => xk_X12_sends ct K R n 107 ls (vr x :: st) σ k) ∧
  xe_X12_sends ct K R (n + 1) 107 ls st σ k = (oR st fun x st => kd σ x = 13 ∧ xk_X12_sends ct K R n 110 ls (vr (fR σ 1340 x) :: st) σ k) ∧
  xe_X12_sends ct K R (n + 1) 110 ls st σ k = (lI ls 6 fun x => xk_X12_sends ct K R n 112 ls (vi x :: st) σ k) ∧
  xe_X12_sends ct K R (n + 1) 112 ls st σ k = (lR ls 0 fun x => xk_X12_sends ct K R n 113 ls (vr x :: st) σ k) ∧
  xe_X12_sends ct K R (n + 1) 113 ls st σ k = (oR st fun x st => kd σ x = 13 ∧ xk_X12_sends ct K R n 116 ls (vi (fI σ 1301 x) :: st) σ k) ∧
  xe_X12_sends ct K R (n + 1) 116 ls st σ k = (lR ls 0 fun x => xk_X12_sends ct K R n 117 ls (vr x :: st) σ k) ∧
  xe_X12_sends ct K R (n + 1) 117 ls st σ k = (oR st fun x st => kd σ x = 13 ∧ xk_X12_sends ct K R n 120 ls (vi (fI σ 1341 x) :: st) σ k) ∧
  xe_X12_sends ct K R (n + 1) 120 ls st σ k = (lR ls 0 fun x => xk_X12_sends ct K R n 121 ls (vr x :: st) σ k) ∧
  xe_X12_sends ct K R (n + 1) 121 ls st σ k = (lR ls 0 fun x => xk_X12_sends ct K R n 122 ls (vr x :: st) σ k) ∧
  xe_X12_sends ct K R (n + 1) 122 ls st σ k = (oR st fun x st => kd σ x = 13 ∧ xk_X12_sends ct K R n 125 ls (vr (fR σ 1338 x) :: st) σ k) ∧
  xe_X12_sends ct K R (n + 1) 125 ls st σ k = (lI ls 6 fun x => xk_X12_sends ct K R n 127 ls (vi x :: st) σ k) ∧
  xe_X12_sends ct K R (n + 1) 127 ls st σ k = (oI st fun j st => oR st fun x st => (kd σ x = 101 ∨ kd σ x = 108) ∧ (0 ≤ j ∧ j < ln σ x) ∧ xk_X12_sends ct K R n 128 ls (vi (aI σ x j) :: st) σ k) ∧
  xe_X12_sends ct K R (n + 1) 128 ls st σ k = (lI ls 4 fun x => xk_X12_sends ct K R n 130 ls (vi x :: st) σ k) ∧
  xe_X12_sends ct K R (n + 1) 130 ls st σ k = (popN 3 st [] fun av rest => (catS rest ≤ 8 ∧ 2 < 3 ∧ k.1 + 0 ≤ 0 ∧ k.2 + 0 ≤ 0) ∧ (sp_X12_way) av σ fun v σ' => xk_X12_sends ct K R n 133 ls (v.toList ++ rest) σ' (k.1 + 0, k.2 + 0)) ∧
  xe_X12_sends ct K R (n + 1) 133 ls st σ k = (oI st fun y st => oI st fun x st => xk_X12_sends ct K R n 134 ls (vi (x * y) :: st) σ k) ∧
  xe_X12_sends ct K R (n + 1) 134 ls st σ k = (oI st fun y st => oI st fun x st => xk_X12_sends ct K R n 135 ls (vi (x + y) :: st) σ k) ∧
  xe_X12_sends ct K R (n + 1) 135 ls st σ k = (oI st fun v st => oI st fun j st => oR st fun x st => kd σ x = 101 ∧ (0 ≤ j ∧ j < ln σ x) ∧ xk_X12_sends ct K R n 136 ls st (qI σ x j v) k) ∧
  xe_X12_sends ct K R (n + 1) 136 ls st σ k = (lR ls 0 fun x => xk_X12_sends ct K R n 137 ls (vr x :: st) σ k) ∧
  xe_X12_sends ct K R (n + 1) 137 ls st σ k = (oR st fun x st => kd σ x = 13 ∧ xk_X12_sends ct K R n 140 ls (vr (fR σ 1338 x) :: st) σ k) ∧
  xe_X12_sends ct K R (n + 1) 140 ls st σ k = (lI ls 6 fun x => xk_X12_sends ct K R n 142 ls (vi x :: st) σ k) ∧
  xe_X12_sends ct K R (n + 1) 142 ls st σ k = (xk_X12_sends ct K R n 143 ls (vi (-1) :: st) σ k) ∧
  xe_X12_sends ct K R (n + 1) 143 ls st σ k = (oI st fun v st => oI st fun j st => oR st fun x st => kd σ x = 101 ∧ (0 ≤ j ∧ j < ln σ x) ∧ xk_X12_sends ct K R n 144 ls st (qI σ x j v) k) ∧
  xe_X12_sends ct K R (n + 1) 144 ls st σ k = (lR ls 0 fun x => xk_X12_sends ct K R n 145 ls (vr x :: st) σ k) ∧
  xe_X12_sends ct K R (n + 1) 145 ls st σ k = (oR st fun x st => kd σ x = 13 ∧ xk_X12_sends ct K R n 148 ls (vr (fR σ 1339 x) :: st) σ k) ∧
  xe_X12_sends ct K R (n + 1) 148 ls st σ k = (lI ls 6 fun x => xk_X12_sends ct K R n 150 ls (vi x :: st) σ k) ∧
  xe_X12_sends ct K R (n + 1) 150 ls st σ k = (lI ls 1 fun x => xk_X12_sends ct K R n 151 ls (vi x :: st) σ k) ∧
  xe_X12_sends ct K R (n + 1) 151 ls st σ k = (oI st fun v st => oI st fun j st => oR st fun x st => kd σ x = 101 ∧ (0 ≤ j ∧ j < ln σ x) ∧ xk_X12_sends ct K R n 152 ls st (qI σ x j v) k) ∧
  xe_X12_sends ct K R (n + 1) 152 ls st σ k = (lR ls 0 fun x => xk_X12_sends ct K R n 153 ls (vr x :: st) σ k) ∧
  xe_X12_sends ct K R (n + 1) 153 ls st σ k = (oR st fun x st => kd σ x = 13 ∧ xk_X12_sends ct K R n 156 ls (vr (fR σ 1379 x) :: st) σ k) ∧
  xe_X12_sends ct K R (n + 1) 156 ls st σ k = (xk_X12_sends ct K R n 158 ls (vi (20) :: st) σ k) ∧
  xe_X12_sends ct K R (n + 1) 158 ls st σ k = (lI ls 1 fun x => xk_X12_sends ct K R n 159 ls (vi x :: st) σ k) ∧
  xe_X12_sends ct K R (n + 1) 159 ls st σ k = (oI st fun y st => oI st fun x st => xk_X12_sends ct K R n 160 ls (vi (x * y) :: st) σ k) ∧
  xe_X12_sends ct K R (n + 1) 160 ls st σ k = (lR ls 0 fun x => xk_X12_sends ct K R n 161 ls (vr x :: st) σ k) ∧
  xe_X12_sends ct K R (n + 1) 161 ls st σ k = (oR st fun x st => kd σ x = 13 ∧ xk_X12_sends ct K R n 164 ls (vr (fR σ 1378 x) :: st) σ k) ∧
  xe_X12_sends ct K R (n + 1) 164 ls st σ k = (lI ls 1 fun x => xk_X12_sends ct K R n 165 ls (vi x :: st) σ k) ∧
  xe_X12_sends ct K R (n + 1) 165 ls st σ k = (oI st fun j st => oR st fun x st => (kd σ x = 101 ∨ kd σ x = 108) ∧ (0 ≤ j ∧ j < ln σ x) ∧ xk_X12_sends ct K R n 166 ls (vi (aI σ x j) :: st) σ k) ∧
  xe_X12_sends ct K R (n + 1) 166 ls st σ k = (oI st fun y st => oI st fun x st => xk_X12_sends ct K R n 167 ls (vi (x + y) :: st) σ k) ∧
  xe_X12_sends ct K R (n + 1) 167 ls st σ k = (lI ls 6 fun x => xk_X12_sends ct K R n 169 ls (vi x :: st) σ k) ∧
  xe_X12_sends ct K R (n + 1) 169 ls st σ k = (oI st fun v st => oI st fun j st => oR st fun x st => kd σ x = 101 ∧ (0 ≤ j ∧ j < ln σ x) ∧ xk_X12_sends ct K R n 170 ls st (qI σ x j v) k) ∧
  xe_X12_sends ct K R (n + 1) 170 ls st σ k = (lR ls 0 fun x => xk_X12_sends ct K R n 171 ls (vr x :: st) σ k) ∧
  xe_X12_sends ct K R (n + 1) 171 ls st σ k = (oR st fun x st => kd σ x = 13 ∧ xk_X12_sends ct K R n 174 ls (vr (fR σ 1378 x) :: st) σ k) ∧
  xe_X12_sends ct K R (n + 1) 174 ls st σ k = (lI ls 1 fun x => xk_X12_sends ct K R n 175 ls (vi x :: st) σ k) ∧
  xe_X12_sends ct K R (n + 1) 175 ls st σ k = (o1 st fun v st => o1 st fun u st => xk_X12_sends ct K R n 176 ls (v :: u :: v :: u :: st) σ k) ∧
  xe_X12_sends ct K R (n + 1) 176 ls st σ k = (oI st fun j st => oR st fun x st => (kd σ x = 101 ∨ kd σ x = 108) ∧ (0 ≤ j ∧ j < ln σ x) ∧ xk_X12_sends ct K R n 177 ls (vi (aI σ x j) :: st) σ k) ∧
  xe_X12_sends ct K R (n + 1) 177 ls st σ k = (xk_X12_sends ct K R n 178 ls (vi (1) :: st) σ k) ∧
  xe_X12_sends ct K R (n + 1) 178 ls st σ k = (oI st fun y st => oI st fun x st => xk_X12_sends ct K R n 179 ls (vi (x + y) :: st) σ k) ∧
  xe_X12_sends ct K R (n + 1) 179 ls st σ k = (oI st fun v st => oI st fun j st => oR st fun x st => kd σ x = 101 ∧ (0 ≤ j ∧ j < ln σ x) ∧ xk_X12_sends ct K R n 180 ls st (qI σ x j v) k) ∧
  xe_X12_sends ct K R (n + 1) 180 ls st σ k = (lI ls 5 fun x => 5 < 8 ∧ xk_X12_sends ct K R n 183 (stL ls 5 (vi (x + (1)))) st σ k) ∧
  xe_X12_sends ct K R (n + 1) 183 ls st σ k = (xk_X12_sends ct K R n 11 ls st σ k) ∧
  xe_X12_sends ct K R (n + 1) 186 ls st σ k = (st = [] ∧ 0 = 0 ∧ R none σ) :=
  ⟨exS_step.trans rfl, exS_step.trans rfl, exS_step.trans rfl, exS_step.trans rfl, exS_step.trans rfl, exS_step.trans rfl, exS_step.trans rfl, exS_step.trans rfl, exS_step.trans rfl, exS_step.trans rfl, exS_step.trans rfl, exS_step.trans rfl, exS_step.trans rfl, exS_step.trans rfl, exS_step.trans rfl, exS_step.trans rfl, exS_step.trans rfl, exS_step.trans rfl, exS_step.trans rfl, exS_step.trans rfl, exS_step.trans rfl, exS_step.trans rfl, exS_step.trans rfl, exS_step.trans rfl, exS_step.trans rfl, exS_step.trans rfl, exS_step.trans rfl, exS_step.trans rfl, exS_step.trans rfl, exS_step.trans rfl, exS_step.trans rfl, exS_step.trans rfl, exS_step.trans rfl, exS_step.trans rfl, exS_step.trans rfl, exS_step.trans rfl, exS_step.trans rfl, exS_step.trans rfl, exS_step.trans rfl, exS_step.trans rfl, exS_step.trans rfl, exS_step.trans rfl, exS_step.trans rfl, exS_step.trans rfl, exS_step.trans rfl, exS_step.trans rfl, exS_step.trans rfl, exS_step.trans rfl, exS_step.trans rfl, exS_step.trans rfl, exS_step.trans rfl, exS_step.trans rfl, exS_step.trans rfl, exS_step.trans rfl, exS_step.trans rfl, exS_step.trans rfl, exS_step.trans rfl, exS_step.trans rfl, exS_step.trans rfl, exS_step.trans rfl, exS_step.trans rfl, exS_step.trans rfl, exS_step.trans rfl, exS_step.trans rfl, exS_step.trans rfl, exS_step.trans rfl, exS_step.trans rfl, exS_step.trans rfl, exS_step.trans rfl, exS_step.trans rfl, exS_step.trans rfl, exS_step.trans rfl, exS_step.trans rfl, exS_step.trans rfl, exS_step.trans rfl, exS_step.trans rfl, exS_step.trans rfl, exS_step.trans rfl, exS_step.trans rfl, exS_step.trans rfl, exS_step.trans rfl, exS_step.trans rfl, exS_step.trans rfl, exS_step.trans rfl, exS_step.trans rfl, exS_step.trans rfl, exS_step.trans rfl, exS_step.trans rfl, exS_step.trans rfl, exS_step.trans rfl, exS_step.trans rfl, exS_step.trans rfl, exS_step.trans rfl, exS_step.trans rfl, exS_step.trans rfl, exS_step.trans rfl, exS_step.trans rfl, exS_step.trans rfl, exS_step.trans rfl, exS_step.trans rfl, exS_step.trans rfl, exS_step.trans rfl, exS_step.trans rfl, exS_step.trans rfl⟩
def M_X12_sends : Md := (yX12_sends, cX12_sends, 8, (none : Option FieldType), 3, 0, 0, 0, false, tb_X12_sends, mt_X12_sends)
theorem mm_X12_sends : MMOK M_X12_sends := ⟨by decide +kernel, tk_X12_sends, mk_X12_sends, rfl, fun h => by cases h⟩
theorem go_X12_sends {Q : Option AV → Hp → Prop} {ct : Nat → Bool} {pc : Nat} {ls : List (Option AV)} {st : List AV} {σ : Hp} {k : Nat × Nat} (n : Nat) (h : xe_X12_sends ct (Go M_X12_sends Q) Q n pc ls st σ k) : Go M_X12_sends Q pc ls st σ k := Go.exS mm_X12_sends h

set_option maxRecDepth 20000 in
theorem sends_23 {Q : Option AV → Hp → Prop} {a kn n : Int} {σ : Hp} (hI : MI σ) (hk : kd σ 61 = 13) (hkn : 0 ≤ kn ∧ kn ≤ 1) (x5 : Int)
    (h : ∀ a7, Go M_X12_sends Q 100 [some (vr 61), some (vi a), some (vi kn), some (vi n), some (vi (aI σ 109 a)), some (vi x5), some (vi (mBest σ kn (aI σ 109 a) (fI σ 1335 61).toNat)), a7] [] σ (0, 0)) :
    ∀ (m c : Nat), (c : Int) + m = fI σ 1335 61 → Go M_X12_sends Q 23 [some (vr 61), some (vi a), some (vi kn), some (vi n), some (vi (aI σ 109 a)), some (vi x5), some (vi (mBest σ kn (aI σ 109 a) c)), some (vi c)] [] σ (0, 0) := by
  have hs := hI.companies_s
  have hb := hI.alarmBox_ a
  intro m
  induction m with
  | zero =>
    intro c hc
    have e : (fI σ 1335 61).toNat = c := by omega
    have h := h (some (vi c))
    rw [e] at h
    refine go_X12_sends (ct := fun p => p == 11 || p == 23 || p == 100) 40 ?_
    simp only [oI, oL, oR, o1, lI, lL, lR, popN, catS, gv, stL, stL2, swt, cnd, spObj, List.getElem?_cons_zero, List.getElem?_cons_succ, List.getD_cons_zero, List.getD_cons_succ, List.set_cons_zero, List.set_cons_succ, List.nil_append, List.cons_append, Option.toList, Bool.or_false, Bool.false_or, Bool.or_true, Bool.true_or, Nat.reduceBEq, Nat.reduceAdd, Nat.reduceLT, Nat.reduceLeDiff, Int.reduceAdd, Int.reduceToNat, true_and, and_true, Fin.isValue, Fin.val_zero, Fin.val_one, Fin.val_two, Fin.reduceFinMk, eq_self, Int.reduceNeg, imp_self, Nat.reduceMul, Nat.le_refl, not_true_eq_false, not_false_eq_true, List.getElem?_nil, reduceCtorEq, true_or, or_true, Classical.not_not, implies_true, or_self, wI_0, wI_1, wI_m1, b2i_w, b2i_eq0, b2i_eq1, b2i_bool, nor_self, nx_pI, kd_pI, ln_pI, fI_pI, fL_pI, fR_pI, aI_pI, aL_pI, aR_pI, nx_pL, kd_pL, ln_pL, fI_pL, fL_pL, fR_pL, aI_pL, aL_pL, aR_pL, nx_pR, kd_pR, ln_pR, fI_pR, fL_pR, fR_pR, aI_pR, aL_pR, aR_pR, nx_qI, kd_qI, ln_qI, fI_qI, fL_qI, fR_qI, aI_qI, aL_qI, aR_qI, nx_qL, kd_qL, ln_qL, fI_qL, fL_qL, fR_qL, aI_qL, aL_qL, aR_qL, nx_qR, kd_qR, ln_qR, fI_qR, fL_qR, fR_qR, aI_qR, aL_qR, aR_qR, nx_mk, kd_mk, ln_mk, fI_mk, fL_mk, fR_mk, aI_mk, aL_mk, aR_mk, false_and, and_false, if_false, if_true, and_self, Int.reduceEq, Nat.reduceEqDiff, ite_self, MLay_pI, MLay_pL, MLay_qI, MLay_qL, ev_X12_sends, xt_X12_sends, xf_X12_sends, us_X12_way, hk]
    try simp (disch := omega) only [wI_id, dv_nn, rm_nn]
    exact ⟨fun _ => h, fun z => absurd z (by omega)⟩
  | succ m ih =>
    intro c hc
    have ih := ih (c + 1) (by omega)
    have h1 := hI.companyKind_ c
    have h2 := hI.isAt_ c
    have h3 := mBest_in σ kn (aI σ 109 a) c
    have h4 := hI.isAt_ (mBest σ kn (aI σ 109 a) c)
    have h5 := mWay_in hI (aI σ 89 c) (aI σ 109 a)
    have h6 := mWay_in hI (aI σ 89 (mBest σ kn (aI σ 109 a) c)) (aI σ 109 a)
    simp only [mBest, Int.natCast_add, Int.cast_ofNat_Int] at ih
    refine go_X12_sends (ct := fun p => p == 11 || p == 23 || p == 100) 60 ?_
    simp only [oI, oL, oR, o1, lI, lL, lR, popN, catS, gv, stL, stL2, swt, cnd, spObj, List.getElem?_cons_zero, List.getElem?_cons_succ, List.getD_cons_zero, List.getD_cons_succ, List.set_cons_zero, List.set_cons_succ, List.nil_append, List.cons_append, Option.toList, Bool.or_false, Bool.false_or, Bool.or_true, Bool.true_or, Nat.reduceBEq, Nat.reduceAdd, Nat.reduceLT, Nat.reduceLeDiff, Int.reduceAdd, Int.reduceToNat, true_and, and_true, Fin.isValue, Fin.val_zero, Fin.val_one, Fin.val_two, Fin.reduceFinMk, eq_self, Int.reduceNeg, imp_self, Nat.reduceMul, Nat.le_refl, not_true_eq_false, not_false_eq_true, List.getElem?_nil, reduceCtorEq, true_or, or_true, Classical.not_not, implies_true, or_self, wI_0, wI_1, wI_m1, b2i_w, b2i_eq0, b2i_eq1, b2i_bool, nor_self, nx_pI, kd_pI, ln_pI, fI_pI, fL_pI, fR_pI, aI_pI, aL_pI, aR_pI, nx_pL, kd_pL, ln_pL, fI_pL, fL_pL, fR_pL, aI_pL, aL_pL, aR_pL, nx_pR, kd_pR, ln_pR, fI_pR, fL_pR, fR_pR, aI_pR, aL_pR, aR_pR, nx_qI, kd_qI, ln_qI, fI_qI, fL_qI, fR_qI, aI_qI, aL_qI, aR_qI, nx_qL, kd_qL, ln_qL, fI_qL, fL_qL, fR_qL, aI_qL, aL_qL, aR_qL, nx_qR, kd_qR, ln_qR, fI_qR, fL_qR, fR_qR, aI_qR, aL_qR, aR_qR, nx_mk, kd_mk, ln_mk, fI_mk, fL_mk, fR_mk, aI_mk, aL_mk, aR_mk, false_and, and_false, if_false, if_true, and_self, Int.reduceEq, Nat.reduceEqDiff, ite_self, MLay_pI, MLay_pL, MLay_qI, MLay_qL, ev_X12_sends, xt_X12_sends, xf_X12_sends, us_X12_way, hk, hI.lay.eqs, hI]
    try simp (disch := omega) only [wI_id, dv_nn, rm_nn]
    repeat' (first | intro z | apply And.intro)
    all_goals try omega
    all_goals grind

set_option maxRecDepth 20000 in
theorem c_X12_sends : Ct yX12_sends cX12_sends 8 ((none : Option FieldType)) 3 0 0 sp_X12_sends := by
  refine Ct.go (M := M_X12_sends) mm_X12_sends fun av σ Q h0 => ?_
  obtain ⟨this, a, kn, n, rfl, hk, h⟩ := el_X12_sends h0
  clear h0
  refine ⟨Nat.le_of_ble_eq_true rfl, ?_⟩
  show Go M_X12_sends Q 0 [some (vr this), some (vi a), some (vi kn), some (vi n), none, none, none, none] [] σ (0, 0)
  obtain ⟨rfl, hI, ha, hkn, hn, hm, h⟩ := h
  have loop : ∀ (m : Nat) (j : Int) (τ : Hp) (a6 a7 : Option AV), MI τ → aI τ 115 a ≤ mTo τ a → 0 ≤ j → j + m = n → Q none (mSends τ a kn m) → Go M_X12_sends Q 11 [some (vr 61), some (vi a), some (vi kn), some (vi n), some (vi (aI τ 109 a)), some (vi j), a6, a7] [] τ (0, 0) := by
    intro m
    induction m with
    | zero =>
      intro j τ a6 a7 hT hm hj hjn hq
      have hk : kd τ 61 = 13 := hT.lay.1
      refine go_X12_sends (ct := fun p => p == 11 || p == 23) 40 ?_
      simp only [oI, oL, oR, o1, lI, lL, lR, popN, catS, gv, stL, stL2, swt, cnd, spObj, List.getElem?_cons_zero, List.getElem?_cons_succ, List.getD_cons_zero, List.getD_cons_succ, List.set_cons_zero, List.set_cons_succ, List.nil_append, List.cons_append, Option.toList, Bool.or_false, Bool.false_or, Bool.or_true, Bool.true_or, Nat.reduceBEq, Nat.reduceAdd, Nat.reduceLT, Nat.reduceLeDiff, Int.reduceAdd, Int.reduceToNat, true_and, and_true, Fin.isValue, Fin.val_zero, Fin.val_one, Fin.val_two, Fin.reduceFinMk, eq_self, Int.reduceNeg, imp_self, Nat.reduceMul, Nat.le_refl, not_true_eq_false, not_false_eq_true, List.getElem?_nil, reduceCtorEq, true_or, or_true, Classical.not_not, implies_true, or_self, wI_0, wI_1, wI_m1, b2i_w, b2i_eq0, b2i_eq1, b2i_bool, nor_self, nx_pI, kd_pI, ln_pI, fI_pI, fL_pI, fR_pI, aI_pI, aL_pI, aR_pI, nx_pL, kd_pL, ln_pL, fI_pL, fL_pL, fR_pL, aI_pL, aL_pL, aR_pL, nx_pR, kd_pR, ln_pR, fI_pR, fL_pR, fR_pR, aI_pR, aL_pR, aR_pR, nx_qI, kd_qI, ln_qI, fI_qI, fL_qI, fR_qI, aI_qI, aL_qI, aR_qI, nx_qL, kd_qL, ln_qL, fI_qL, fL_qL, fR_qL, aI_qL, aL_qL, aR_qL, nx_qR, kd_qR, ln_qR, fI_qR, fL_qR, fR_qR, aI_qR, aL_qR, aR_qR, nx_mk, kd_mk, ln_mk, fI_mk, fL_mk, fR_mk, aI_mk, aL_mk, aR_mk, false_and, and_false, if_false, if_true, and_self, Int.reduceEq, Nat.reduceEqDiff, ite_self, MLay_pI, MLay_pL, MLay_qI, MLay_qL, ev_X12_sends, xt_X12_sends, xf_X12_sends, us_X12_way, hk]
      try simp (disch := omega) only [wI_id, dv_nn, rm_nn]
      exact ⟨fun _ => hq, fun z => absurd z (by omega)⟩
    | succ m ih =>
      intro j τ a6 a7 hT hm hj hjn hq
      have hk : kd τ 61 = 13 := hT.lay.1
      have hs := hT.companies_s
      have hb := hT.alarmBox_ a
      have hbest := mBest_in τ kn (aI τ 109 a) (fI τ 1335 61).toNat
      have hto : 0 ≤ mTo τ a := (hwM_in _ _).1
      have hsm := hT.sentMany_ a
      have hpc := hT.pace_s
      have hnw := hT.now_s
      unfold mSends at hq
      have w100 : ∀ a7, Go M_X12_sends Q 100 [some (vr 61), some (vi a), some (vi kn), some (vi n), some (vi (aI τ 109 a)), some (vi j), some (vi (mBest τ kn (aI τ 109 a) (fI τ 1335 61).toNat)), a7] [] τ (0, 0) := by
        intro a7
        generalize mBest τ kn (aI τ 109 a) (fI τ 1335 61).toNat = c at hbest hq
        by_cases hc : c < 0
        · rw [if_pos hc] at hq
          refine go_X12_sends (ct := fun p => p == 11 || p == 23) 40 ?_
          simp only [oI, oL, oR, o1, lI, lL, lR, popN, catS, gv, stL, stL2, swt, cnd, spObj, List.getElem?_cons_zero, List.getElem?_cons_succ, List.getD_cons_zero, List.getD_cons_succ, List.set_cons_zero, List.set_cons_succ, List.nil_append, List.cons_append, Option.toList, Bool.or_false, Bool.false_or, Bool.or_true, Bool.true_or, Nat.reduceBEq, Nat.reduceAdd, Nat.reduceLT, Nat.reduceLeDiff, Int.reduceAdd, Int.reduceToNat, true_and, and_true, Fin.isValue, Fin.val_zero, Fin.val_one, Fin.val_two, Fin.reduceFinMk, eq_self, Int.reduceNeg, imp_self, Nat.reduceMul, Nat.le_refl, not_true_eq_false, not_false_eq_true, List.getElem?_nil, reduceCtorEq, true_or, or_true, Classical.not_not, implies_true, or_self, wI_0, wI_1, wI_m1, b2i_w, b2i_eq0, b2i_eq1, b2i_bool, nor_self, nx_pI, kd_pI, ln_pI, fI_pI, fL_pI, fR_pI, aI_pI, aL_pI, aR_pI, nx_pL, kd_pL, ln_pL, fI_pL, fL_pL, fR_pL, aI_pL, aL_pL, aR_pL, nx_pR, kd_pR, ln_pR, fI_pR, fL_pR, fR_pR, aI_pR, aL_pR, aR_pR, nx_qI, kd_qI, ln_qI, fI_qI, fL_qI, fR_qI, aI_qI, aL_qI, aR_qI, nx_qL, kd_qL, ln_qL, fI_qL, fL_qL, fR_qL, aI_qL, aL_qL, aR_qL, nx_qR, kd_qR, ln_qR, fI_qR, fL_qR, fR_qR, aI_qR, aL_qR, aR_qR, nx_mk, kd_mk, ln_mk, fI_mk, fL_mk, fR_mk, aI_mk, aL_mk, aR_mk, false_and, and_false, if_false, if_true, and_self, Int.reduceEq, Nat.reduceEqDiff, ite_self, MLay_pI, MLay_pL, MLay_qI, MLay_qL, ev_X12_sends, xt_X12_sends, xf_X12_sends, us_X12_way, hk]
          try simp (disch := omega) only [wI_id, dv_nn, rm_nn]
          exact ⟨fun z => absurd z (by omega), fun _ => hq⟩
        · rw [if_neg hc] at hq
          have h2 := hbest.2.2 (by omega)
          have h3 := hT.isAt_ c
          have h4 := mTo_snd (a := a) hT (c := c) (by omega) h2.2
          have h5 := mWay_in hT (aI τ 89 c) (aI τ 109 a)
          have hT2 := MI_mSnd hT (a := a) (c := c) ha (by omega) (by omega)
          have e1 : aI (mSnd τ a c) 109 a = aI τ 109 a := by simp [mSnd, aI_qI]
          have e2 : aI (mSnd τ a c) 115 a = aI τ 115 a + 1 := by simp [mSnd, aI_qI]
          have w := ih (j + 1) (mSnd τ a c) (some (vi c)) a7 hT2 (by omega) (by omega) (by omega) hq
          rw [e1] at w
          unfold mSnd at w
          refine go_X12_sends (ct := fun p => p == 11 || p == 23) 60 ?_
          simp only [oI, oL, oR, o1, lI, lL, lR, popN, catS, gv, stL, stL2, swt, cnd, spObj, List.getElem?_cons_zero, List.getElem?_cons_succ, List.getD_cons_zero, List.getD_cons_succ, List.set_cons_zero, List.set_cons_succ, List.nil_append, List.cons_append, Option.toList, Bool.or_false, Bool.false_or, Bool.or_true, Bool.true_or, Nat.reduceBEq, Nat.reduceAdd, Nat.reduceLT, Nat.reduceLeDiff, Int.reduceAdd, Int.reduceToNat, true_and, and_true, Fin.isValue, Fin.val_zero, Fin.val_one, Fin.val_two, Fin.reduceFinMk, eq_self, Int.reduceNeg, imp_self, Nat.reduceMul, Nat.le_refl, not_true_eq_false, not_false_eq_true, List.getElem?_nil, reduceCtorEq, true_or, or_true, Classical.not_not, implies_true, or_self, wI_0, wI_1, wI_m1, b2i_w, b2i_eq0, b2i_eq1, b2i_bool, nor_self, nx_pI, kd_pI, ln_pI, fI_pI, fL_pI, fR_pI, aI_pI, aL_pI, aR_pI, nx_pL, kd_pL, ln_pL, fI_pL, fL_pL, fR_pL, aI_pL, aL_pL, aR_pL, nx_pR, kd_pR, ln_pR, fI_pR, fL_pR, fR_pR, aI_pR, aL_pR, aR_pR, nx_qI, kd_qI, ln_qI, fI_qI, fL_qI, fR_qI, aI_qI, aL_qI, aR_qI, nx_qL, kd_qL, ln_qL, fI_qL, fL_qL, fR_qL, aI_qL, aL_qL, aR_qL, nx_qR, kd_qR, ln_qR, fI_qR, fL_qR, fR_qR, aI_qR, aL_qR, aR_qR, nx_mk, kd_mk, ln_mk, fI_mk, fL_mk, fR_mk, aI_mk, aL_mk, aR_mk, false_and, and_false, if_false, if_true, and_self, Int.reduceEq, Nat.reduceEqDiff, ite_self, MLay_pI, MLay_pL, MLay_qI, MLay_qL, ev_X12_sends, xt_X12_sends, xf_X12_sends, us_X12_way, hk, hT.lay.eqs, hT]
          try simp (disch := omega) only [wI_id, dv_nn, rm_nn]
          repeat' (first | intro z | apply And.intro)
          all_goals try omega
          all_goals exact w
      have w23 := sends_23 (a := a) (n := n) hT hk hkn j w100 (fI τ 1335 61).toNat 0 (by omega)
      simp only [mBest, Int.cast_ofNat_Int] at w23
      refine go_X12_sends (ct := fun p => p == 11 || p == 23) 40 ?_
      simp only [oI, oL, oR, o1, lI, lL, lR, popN, catS, gv, stL, stL2, swt, cnd, spObj, List.getElem?_cons_zero, List.getElem?_cons_succ, List.getD_cons_zero, List.getD_cons_succ, List.set_cons_zero, List.set_cons_succ, List.nil_append, List.cons_append, Option.toList, Bool.or_false, Bool.false_or, Bool.or_true, Bool.true_or, Nat.reduceBEq, Nat.reduceAdd, Nat.reduceLT, Nat.reduceLeDiff, Int.reduceAdd, Int.reduceToNat, true_and, and_true, Fin.isValue, Fin.val_zero, Fin.val_one, Fin.val_two, Fin.reduceFinMk, eq_self, Int.reduceNeg, imp_self, Nat.reduceMul, Nat.le_refl, not_true_eq_false, not_false_eq_true, List.getElem?_nil, reduceCtorEq, true_or, or_true, Classical.not_not, implies_true, or_self, wI_0, wI_1, wI_m1, b2i_w, b2i_eq0, b2i_eq1, b2i_bool, nor_self, nx_pI, kd_pI, ln_pI, fI_pI, fL_pI, fR_pI, aI_pI, aL_pI, aR_pI, nx_pL, kd_pL, ln_pL, fI_pL, fL_pL, fR_pL, aI_pL, aL_pL, aR_pL, nx_pR, kd_pR, ln_pR, fI_pR, fL_pR, fR_pR, aI_pR, aL_pR, aR_pR, nx_qI, kd_qI, ln_qI, fI_qI, fL_qI, fR_qI, aI_qI, aL_qI, aR_qI, nx_qL, kd_qL, ln_qL, fI_qL, fL_qL, fR_qL, aI_qL, aL_qL, aR_qL, nx_qR, kd_qR, ln_qR, fI_qR, fL_qR, fR_qR, aI_qR, aL_qR, aR_qR, nx_mk, kd_mk, ln_mk, fI_mk, fL_mk, fR_mk, aI_mk, aL_mk, aR_mk, false_and, and_false, if_false, if_true, and_self, Int.reduceEq, Nat.reduceEqDiff, ite_self, MLay_pI, MLay_pL, MLay_qI, MLay_qL, ev_X12_sends, xt_X12_sends, xf_X12_sends, us_X12_way, hk]
      try simp (disch := omega) only [wI_id, dv_nn, rm_nn]
      exact ⟨fun z => absurd z (by omega), fun _ => w23⟩
  refine go_X12_sends (ct := fun p => p == 11 || p == 23) 40 ?_
  simp only [oI, oL, oR, o1, lI, lL, lR, popN, catS, gv, stL, stL2, swt, cnd, spObj, List.getElem?_cons_zero, List.getElem?_cons_succ, List.getD_cons_zero, List.getD_cons_succ, List.set_cons_zero, List.set_cons_succ, List.nil_append, List.cons_append, Option.toList, Bool.or_false, Bool.false_or, Bool.or_true, Bool.true_or, Nat.reduceBEq, Nat.reduceAdd, Nat.reduceLT, Nat.reduceLeDiff, Int.reduceAdd, Int.reduceToNat, true_and, and_true, Fin.isValue, Fin.val_zero, Fin.val_one, Fin.val_two, Fin.reduceFinMk, eq_self, Int.reduceNeg, imp_self, Nat.reduceMul, Nat.le_refl, not_true_eq_false, not_false_eq_true, List.getElem?_nil, reduceCtorEq, true_or, or_true, Classical.not_not, implies_true, or_self, wI_0, wI_1, wI_m1, b2i_w, b2i_eq0, b2i_eq1, b2i_bool, nor_self, nx_pI, kd_pI, ln_pI, fI_pI, fL_pI, fR_pI, aI_pI, aL_pI, aR_pI, nx_pL, kd_pL, ln_pL, fI_pL, fL_pL, fR_pL, aI_pL, aL_pL, aR_pL, nx_pR, kd_pR, ln_pR, fI_pR, fL_pR, fR_pR, aI_pR, aL_pR, aR_pR, nx_qI, kd_qI, ln_qI, fI_qI, fL_qI, fR_qI, aI_qI, aL_qI, aR_qI, nx_qL, kd_qL, ln_qL, fI_qL, fL_qL, fR_qL, aI_qL, aL_qL, aR_qL, nx_qR, kd_qR, ln_qR, fI_qR, fL_qR, fR_qR, aI_qR, aL_qR, aR_qR, nx_mk, kd_mk, ln_mk, fI_mk, fL_mk, fR_mk, aI_mk, aL_mk, aR_mk, false_and, and_false, if_false, if_true, and_self, Int.reduceEq, Nat.reduceEqDiff, ite_self, MLay_pI, MLay_pL, MLay_qI, MLay_qL, ev_X12_sends, xt_X12_sends, xf_X12_sends, us_X12_way, hk, hI.lay.eqs]
  exact ⟨by omega, loop n.toNat 0 σ none none hI hm (by omega) (by omega) h⟩
