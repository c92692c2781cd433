/-! the reference: a line's worth, a call's answer -/

def mPop (σ : Hp) : Nat → Int → Int × Nat
  | 0, v => (v, 0)
  | n + 1, v => if aI σ 107 ((n : Int) + 1) = 1 then mPop σ n (if wI v = 0 then 1 else 0) else (v, n + 1)
theorem mPop_le (σ : Hp) : ∀ (n : Nat) (v : Int), (mPop σ n v).2 ≤ n
  | 0, v => Nat.le_refl _
  | n + 1, v => by
    unfold mPop
    split
    · exact Nat.le_trans (mPop_le σ n _) (Nat.le_succ _)
    · exact Nat.le_refl _
def mPut (σ : Hp) (v d : Int) : Hp × Int := (qI σ 106 ((mPop σ d.toNat v).2 : Nat) (mPop σ d.toNat v).1, ((mPop σ d.toNat v).2 : Nat))
def mCmp (σ : Hp) (c d : Int) : Hp := qI (qI (qI (qI (mSums σ d) 102 d (aI (mSums σ d) 104 d)) 103 d c) 104 d 0) 105 d 20
/-- one code -/
def mStC (σ : Hp) (d c : Int) : Hp × Int :=
  if c = 28 ∨ c = 30 then (mOpens (qI σ 107 (d + 1) (if c = 30 then 1 else 0)) (d + 1), d + 1)
  else if c = 20 ∨ c = 21 then (qI (mSums σ d) 105 d c, d)
  else if c = 24 ∨ c = 25 then (mCmp σ c d, d)
  else if c = 26 ∨ c = 27 then (qI (mTests σ d) 101 d c, d)
  else if c = 29 then mPut (mTests σ d) (aI (mTests σ d) 100 d) (d - 1)
  else mPut σ (if 100 ≤ c then c - 100 else if c < 10 then aI σ 108 c else 0) d
def mCok (d c : Int) : Prop := (c < 8 ∨ 10 ≤ c) ∧ ((c = 28 ∨ c = 30) → d < 5) ∧ (c = 29 → 1 ≤ d)
def mRuns (σ : Hp) (d k : Int) : Nat → Hp × Int
  | 0 => (σ, d)
  | n + 1 => mRuns (mStC σ d (aI σ 97 k)).1 (mStC σ d (aI σ 97 k)).2 (k + 1) n
def mRok (σ : Hp) (d k : Int) : Nat → Prop
  | 0 => True
  | n + 1 => mCok d (aI σ 97 k) ∧ mRok (mStC σ d (aI σ 97 k)).1 (mStC σ d (aI σ 97 k)).2 (k + 1) n
/-- a line can be reckoned -/
def mLok (σ : Hp) (l : Int) : Prop := 0 ≤ aI σ 95 l ∧ aI σ 96 l ≤ 2000 ∧ mRok (mOpens σ 0) 0 (aI σ 95 l) (aI σ 96 l - aI σ 95 l).toNat
def mWorth (σ : Hp) (l : Int) : Hp := mTests (mRuns (mOpens σ 0) 0 (aI σ 95 l) (aI σ 96 l - aI σ 95 l).toNat).1 0
theorem MI_mPut {σ : Hp} (h : MI σ) (v d : Int) : MI (mPut σ v d).1 := MI_free h (by decide)
theorem MI_mCmp {σ : Hp} (h : MI σ) {c d : Int} (hc : c = 24 ∨ c = 25) : MI (mCmp σ c d) := MI_sumBy_q (MI_free (MI_against_q (MI_free (MI_mSums h d) (by decide)) (by omega)) (by decide)) (by omega)
theorem MI_mStC {σ : Hp} (h : MI σ) (d c : Int) : MI (mStC σ d c).1 := by
  unfold mStC
  split
  · refine MI_mOpens (MI_byNot_q h ?_) _
    split <;> omega
  · split
    · exact MI_sumBy_q (MI_mSums h d) (by omega)
    · split
      · exact MI_mCmp h ‹_›
      · split
        · exact MI_keptBy_q (MI_mTests h d) (by omega)
        · split
          · exact MI_mPut (MI_mTests h d) _ _
          · exact MI_mPut h _ _
theorem Scr_mStC {σ τ : Hp} (h : Scr σ τ) (d c : Int) : Scr σ (mStC τ d c).1 := by
  unfold mStC
  split
  · exact Scr_mOpens (h.q (by decide)) _
  · split
    · exact (Scr_mSums h d).q (by decide)
    · split
      · exact ((((Scr_mSums h d).q (by decide)).q (by decide)).q (by decide)).q (by decide)
      · split
        · exact (Scr_mTests h d).q (by decide)
        · split
          · exact (Scr_mTests h d).q (by decide)
          · exact h.q (by decide)
theorem mPut_d (σ : Hp) (v : Int) {d : Int} : 0 ≤ (mPut σ v d).2 ∧ (mPut σ v d).2 ≤ d.toNat := by
  have := mPop_le σ d.toNat v
  unfold mPut
  dsimp only
  omega
theorem mStC_d {σ : Hp} {d c : Int} (h : mCok d c) (hd : 0 ≤ d ∧ d < 6) : 0 ≤ (mStC σ d c).2 ∧ (mStC σ d c).2 < 6 := by
  unfold mCok at h
  unfold mStC
  by_cases c1 : c = 28 ∨ c = 30
  · rw [if_pos c1]; dsimp only; omega
  rw [if_neg c1]
  by_cases c2 : c = 20 ∨ c = 21
  · rw [if_pos c2]; exact hd
  rw [if_neg c2]
  by_cases c3 : c = 24 ∨ c = 25
  · rw [if_pos c3]; exact hd
  rw [if_neg c3]
  by_cases c4 : c = 26 ∨ c = 27
  · rw [if_pos c4]; exact hd
  rw [if_neg c4]
  by_cases c5 : c = 29
  · rw [if_pos c5]
    have := mPut_d (mTests σ d) (aI (mTests σ d) 100 d) (d := d - 1)
    omega
  · rw [if_neg c5]
    have := mPut_d σ (if 100 ≤ c then c - 100 else if c < 10 then aI σ 108 c else 0) (d := d)
    omega
theorem MI_mRuns : ∀ (n : Nat) {σ : Hp} (d k : Int), MI σ → MI (mRuns σ d k n).1
  | 0, _, _, _, h => h
  | n + 1, σ, d, k, h => MI_mRuns n _ _ (MI_mStC h d _)
theorem Scr_mRuns : ∀ (n : Nat) {σ τ : Hp} (d k : Int), Scr σ τ → Scr σ (mRuns τ d k n).1
  | 0, _, _, _, _, h => h
  | n + 1, σ, τ, d, k, h => Scr_mRuns n _ _ (Scr_mStC h d _)
theorem MI_mWorth {σ : Hp} (h : MI σ) (l : Int) : MI (mWorth σ l) := MI_mTests (MI_mRuns _ _ _ (MI_mOpens h 0)) 0
theorem Scr_mWorth (σ : Hp) (l : Int) : Scr σ (mWorth σ l) := Scr_mTests (Scr_mRuns _ _ _ (Scr_mOpens (Scr.refl σ) 0)) 0

def sp_X12_worth : Sp := fun av σ Q => oR av fun this av => oI av fun l av => av = [] ∧ kd σ this = 13 ∧ (this = 61 ∧ MI σ ∧ (0 ≤ l ∧ l < 48) ∧ mLok σ l ∧ Q (some (vi (aI (mWorth σ l) 100 0))) (mWorth σ l))
theorem us_X12_worth (this : Int) (l : Int) (σ : Hp) (Q : Option AV → Hp → Prop) : sp_X12_worth [vr this, vi l] σ Q = (kd σ this = 13 ∧ (this = 61 ∧ MI σ ∧ (0 ≤ l ∧ l < 48) ∧ mLok σ l ∧ Q (some (vi (aI (mWorth σ l) 100 0))) (mWorth σ l))) := propext ⟨fun h => h.2, fun h => ⟨rfl, h⟩⟩
theorem el_X12_worth {av : List AV} {σ : Hp} {Q : Option AV → Hp → Prop} (h : sp_X12_worth av σ Q) : ∃ (this : Int) (l : Int), av = [vr this, vi l] ∧ (kd σ this = 13 ∧ (this = 61 ∧ MI σ ∧ (0 ≤ l ∧ l < 48) ∧ mLok σ l ∧ Q (some (vi (aI (mWorth σ l) 100 0))) (mWorth σ l))) := by
  obtain ⟨this, a0, rfl, h0⟩ := oR_s h
  obtain ⟨l, a1, rfl, h1⟩ := oI_s h0
  obtain ⟨rfl, hz⟩ := h1
  exact ⟨this, l, rfl, hz⟩
theorem rc_X12_worth : ∀ (av : List AV) (σ : Hp) (Q : Option AV → Hp → Prop), sp_X12_worth av σ Q → ∃ r tl, av = vr r :: tl ∧ kd σ r = 12 + 1 := fun av σ Q h => by
  obtain ⟨this, l, rfl, hz, -⟩ := el_X12_worth h
  exact ⟨this, _, rfl, hz⟩

def tb_X12_worth : Tab := [(0, .iconst 0, 1, (0, 0, 0, 0)), (1, .istore_n 2, 1, (0, 0, 0, 0)), (2, .aload_n 0, 1, (0, 0, 0, 0)), (3, .iconst 0, 1, (0, 0, 0, 0)), (4, .invokevirtual 399, 3, (0, 0, 0, 0)), (7, .aload_n 0, 1, (0, 0, 0, 0)), (8, .getfield 111, 3, (13, 1356, 2, 0)), (11, .iload_n 1, 1, (0, 0, 0, 0)), (12, .iaload, 1, (0, 0, 0, 0)), (13, .istore_n 3, 1, (0, 0, 0, 0)), (14, .iload_n 3, 1, (0, 0, 0, 0)), (15, .aload_n 0, 1, (0, 0, 0, 0)), (16, .getfield 114, 3, (13, 1357, 2, 0)), (19, .iload_n 1, 1, (0, 0, 0, 0)), (20, .iaload, 1, (0, 0, 0, 0)), (21, .if_icmp .ge 275, 3, (0, 0, 0, 0)), (24, .aload_n 0, 1, (0, 0, 0, 0)), (25, .getfield 117, 3, (13, 1358, 2, 0)), (28, .iload_n 3, 1, (0, 0, 0, 0)), (29, .iaload, 1, (0, 0, 0, 0)), (30, .istore 4, 2, (0, 0, 0, 0)), (32, .iload 4, 2, (0, 0, 0, 0)), (34, .bipush 28, 2, (0, 0, 0, 0)), (36, .if_icmp .eq 10, 3, (0, 0, 0, 0)), (39, .iload 4, 2, (0, 0, 0, 0)), (41, .bipush 30, 2, (0, 0, 0, 0)), (43, .if_icmp .ne 32, 3, (0, 0, 0, 0)), (46, .iinc 2 1, 3, (0, 0, 0, 0)), (49, .aload_n 0, 1, (0, 0, 0, 0)), (50, .getfield 147, 3, (13, 1369, 2, 0)), (53, .iload_n 2, 1, (0, 0, 0, 0)), (54, .iload 4, 2, (0, 0, 0, 0)), (56, .bipush 30, 2, (0, 0, 0, 0)), (58, .if_icmp .ne 7, 3, (0, 0, 0, 0)), (61, .iconst 1, 1, (0, 0, 0, 0)), (62, .goto 4, 3, (0, 0, 0, 0)), (65, .iconst 0, 1, (0, 0, 0, 0)), (66, .iastore, 1, (0, 0, 0, 0)), (67, .aload_n 0, 1, (0, 0, 0, 0)), (68, .iload_n 2, 1, (0, 0, 0, 0)), (69, .invokevirtual 399, 3, (0, 0, 0, 0)), (72, .goto 218, 3, (0, 0, 0, 0)), (75, .iload 4, 2, (0, 0, 0, 0)), (77, .bipush 20, 2, (0, 0, 0, 0)), (79, .if_icmp .eq 10, 3, (0, 0, 0, 0)), (82, .iload 4, 2, (0, 0, 0, 0)), (84, .bipush 21, 2, (0, 0, 0, 0)), (86, .if_icmp .ne 19, 3, (0, 0, 0, 0)), (89, .aload_n 0, 1, (0, 0, 0, 0)), (90, .iload_n 2, 1, (0, 0, 0, 0)), (91, .invokevirtual 396, 3, (0, 0, 0, 0)), (94, .aload_n 0, 1, (0, 0, 0, 0)), (95, .getfield 141, 3, (13, 1367, 2, 0)), (98, .iload_n 2, 1, (0, 0, 0, 0)), (99, .iload 4, 2, (0, 0, 0, 0)), (101, .iastore, 1, (0, 0, 0, 0)), (102, .goto 188, 3, (0, 0, 0, 0)), (105, .iload 4, 2, (0, 0, 0, 0)), (107, .bipush 24, 2, (0, 0, 0, 0)), (109, .if_icmp .eq 10, 3, (0, 0, 0, 0)), (112, .iload 4, 2, (0, 0, 0, 0)), (114, .bipush 25, 2, (0, 0, 0, 0)), (116, .if_icmp .ne 46, 3, (0, 0, 0, 0)), (119, .aload_n 0, 1, (0, 0, 0, 0)), (120, .iload_n 2, 1, (0, 0, 0, 0)), (121, .invokevirtual 396, 3, (0, 0, 0, 0)), (124, .aload_n 0, 1, (0, 0, 0, 0)), (125, .getfield 132, 3, (13, 1364, 2, 0)), (128, .iload_n 2, 1, (0, 0, 0, 0)), (129, .aload_n 0, 1, (0, 0, 0, 0)), (130, .getfield 138, 3, (13, 1366, 2, 0)), (133, .iload_n 2, 1, (0, 0, 0, 0)), (134, .iaload, 1, (0, 0, 0, 0)), (135, .iastore, 1, (0, 0, 0, 0)), (136, .aload_n 0, 1, (0, 0, 0, 0)), (137, .getfield 135, 3, (13, 1365, 2, 0)), (140, .iload_n 2, 1, (0, 0, 0, 0)), (141, .iload 4, 2, (0, 0, 0, 0)), (143, .iastore, 1, (0, 0, 0, 0)), (144, .aload_n 0, 1, (0, 0, 0, 0)), (145, .getfield 138, 3, (13, 1366, 2, 0)), (148, .iload_n 2, 1, (0, 0, 0, 0)), (149, .iconst 0, 1, (0, 0, 0, 0)), (150, .iastore, 1, (0, 0, 0, 0)), (151, .aload_n 0, 1, (0, 0, 0, 0)), (152, .getfield 141, 3, (13, 1367, 2, 0)), (155, .iload_n 2, 1, (0, 0, 0, 0)), (156, .bipush 20, 2, (0, 0, 0, 0)), (158, .iastore, 1, (0, 0, 0, 0)), (159, .goto 131, 3, (0, 0, 0, 0)), (162, .iload 4, 2, (0, 0, 0, 0)), (164, .bipush 26, 2, (0, 0, 0, 0)), (166, .if_icmp .eq 10, 3, (0, 0, 0, 0)), (169, .iload 4, 2, (0, 0, 0, 0)), (171, .bipush 27, 2, (0, 0, 0, 0)), (173, .if_icmp .ne 19, 3, (0, 0, 0, 0)), (176, .aload_n 0, 1, (0, 0, 0, 0)), (177, .iload_n 2, 1, (0, 0, 0, 0)), (178, .invokevirtual 402, 3, (0, 0, 0, 0)), (181, .aload_n 0, 1, (0, 0, 0, 0)), (182, .getfield 129, 3, (13, 1363, 2, 0)), (185, .iload_n 2, 1, (0, 0, 0, 0)), (186, .iload 4, 2, (0, 0, 0, 0)), (188, .iastore, 1, (0, 0, 0, 0)), (189, .goto 101, 3, (0, 0, 0, 0)), (192, .iload 4, 2, (0, 0, 0, 0)), (194, .bipush 100, 2, (0, 0, 0, 0)), (196, .if_icmp .lt 11, 3, (0, 0, 0, 0)), (199, .iload 4, 2, (0, 0, 0, 0)), (201, .bipush 100, 2, (0, 0, 0, 0)), (203, .isub, 1, (0, 0, 0, 0)), (204, .goto 21, 3, (0, 0, 0, 0)), (207, .iload 4, 2, (0, 0, 0, 0)), (209, .bipush 10, 2, (0, 0, 0, 0)), (211, .if_icmp .ge 13, 3, (0, 0, 0, 0)), (214, .aload_n 0, 1, (0, 0, 0, 0)), (215, .getfield 150, 3, (13, 1370, 2, 0)), (218, .iload 4, 2, (0, 0, 0, 0)), (220, .iaload, 1, (0, 0, 0, 0)), (221, .goto 4, 3, (0, 0, 0, 0)), (224, .iconst 0, 1, (0, 0, 0, 0)), (225, .istore 5, 2, (0, 0, 0, 0)), (227, .iload 4, 2, (0, 0, 0, 0)), (229, .bipush 29, 2, (0, 0, 0, 0)), (231, .if_icmp .ne 19, 3, (0, 0, 0, 0)), (234, .aload_n 0, 1, (0, 0, 0, 0)), (235, .iload_n 2, 1, (0, 0, 0, 0)), (236, .invokevirtual 402, 3, (0, 0, 0, 0)), (239, .aload_n 0, 1, (0, 0, 0, 0)), (240, .getfield 126, 3, (13, 1362, 2, 0)), (243, .iload_n 2, 1, (0, 0, 0, 0)), (244, .iaload, 1, (0, 0, 0, 0)), (245, .istore 5, 2, (0, 0, 0, 0)), (247, .iinc 2 (-1), 3, (0, 0, 0, 0)), (250, .iload_n 2, 1, (0, 0, 0, 0)), (251, .ifCond .le 31, 3, (0, 0, 0, 0)), (254, .aload_n 0, 1, (0, 0, 0, 0)), (255, .getfield 147, 3, (13, 1369, 2, 0)), (258, .iload_n 2, 1, (0, 0, 0, 0)), (259, .iaload, 1, (0, 0, 0, 0)), (260, .iconst 1, 1, (0, 0, 0, 0)), (261, .if_icmp .ne 21, 3, (0, 0, 0, 0)), (264, .iload 5, 2, (0, 0, 0, 0)), (266, .ifCond .ne 7, 3, (0, 0, 0, 0)), (269, .iconst 1, 1, (0, 0, 0, 0)), (270, .goto 4, 3, (0, 0, 0, 0)), (273, .iconst 0, 1, (0, 0, 0, 0)), (274, .istore 5, 2, (0, 0, 0, 0)), (276, .iinc 2 (-1), 3, (0, 0, 0, 0)), (279, .goto (-29), 3, (0, 0, 0, 0)), (282, .aload_n 0, 1, (0, 0, 0, 0)), (283, .getfield 144, 3, (13, 1368, 2, 0)), (286, .iload_n 2, 1, (0, 0, 0, 0)), (287, .iload 5, 2, (0, 0, 0, 0)), (289, .iastore, 1, (0, 0, 0, 0)), (290, .iinc 3 1, 3, (0, 0, 0, 0)), (293, .goto (-279), 3, (0, 0, 0, 0)), (296, .aload_n 0, 1, (0, 0, 0, 0)), (297, .iconst 0, 1, (0, 0, 0, 0)), (298, .invokevirtual 402, 3, (0, 0, 0, 0)), (301, .aload_n 0, 1, (0, 0, 0, 0)), (302, .getfield 126, 3, (13, 1362, 2, 0)), (305, .iconst 0, 1, (0, 0, 0, 0)), (306, .iaload, 1, (0, 0, 0, 0)), (307, .ireturn, 1, (0, 0, 0, 0))]
set_option maxRecDepth 100000 in
theorem tk_X12_worth : TOK RX12 false cX12_worth tb_X12_worth := chkT_ok ft_X12 (by decide +kernel)
theorem rw_X12_3192 : Row RX12 (.invokevirtual 399) 3 2 0 0 1 sp_X12_opens := row_V (n := 1) (ci := 12) c_X12_opens ⟨TBL_in 1974 (by decide +kernel) rfl, TBL_in 1977 (by decide +kernel) rfl, TBL_in 123 (by decide +kernel) rfl, by decide +kernel, by decide⟩ (by decide) rfl (TBL_in 1976 (by decide +kernel) rfl) (TBL_in 93 (by decide +kernel) rfl) rc_X12_opens
theorem rw_X12_3216 : Row RX12 (.invokevirtual 402) 3 2 0 0 2 sp_X12_tests := row_V (n := 1) (ci := 12) c_X12_tests ⟨TBL_in 1982 (by decide +kernel) rfl, TBL_in 1985 (by decide +kernel) rfl, TBL_in 123 (by decide +kernel) rfl, by decide +kernel, by decide⟩ (by decide) rfl (TBL_in 1984 (by decide +kernel) rfl) (TBL_in 95 (by decide +kernel) rfl) rc_X12_tests
def mt_X12_worth : List (Nat × Mt) := [(3192, 2, 0, 0, 1, sp_X12_opens), (3168, 2, 0, 0, 1, sp_X12_sums), (3216, 2, 0, 0, 2, sp_X12_tests)]
theorem em_X12_worth : mt_X12_worth.lookup 3192 = some (2, 0, 0, 1, sp_X12_opens) ∧ mt_X12_worth.lookup 3168 = some (2, 0, 0, 1, sp_X12_sums) ∧ mt_X12_worth.lookup 3216 = some (2, 0, 0, 2, sp_X12_tests) := ⟨rfl, rfl, rfl⟩
theorem mk_X12_worth : MOK RX12 mt_X12_worth := by
  intro q hq
  simp only [mt_X12_worth, List.mem_cons, List.not_mem_nil, or_false] at hq
  rcases hq with rfl | rfl | rfl
  · exact rw_X12_3192
  · exact rw_X12_3168
  · exact rw_X12_3216
noncomputable def xe_X12_worth (ct : Nat → Bool) (K : Kt) (R : Option AV → Hp → Prop) (n : Nat) : Kt := exS 6 3 0 0 1 tb_X12_worth mt_X12_worth ct K R n
noncomputable def xk_X12_worth (ct : Nat → Bool) (K : Kt) (R : Option AV → Hp → Prop) (n : Nat) : Kt := exkS 6 3 0 0 1 tb_X12_worth mt_X12_worth ct K R n
theorem xt_X12_worth {ct : Nat → Bool} {K : Kt} {R : Option AV → Hp → Prop} {n pc : Nat} {ls : List (Option AV)} {st : List AV} {σ : Hp} {k : Nat × Nat} (h : ct pc = true) : xk_X12_worth ct K R n pc ls st σ k = K pc ls st σ k := by unfold xk_X12_worth exkS; rw [h]
theorem xf_X12_worth {ct : Nat → Bool} {K : Kt} {R : Option AV → Hp → Prop} {n pc : Nat} {ls : List (Option AV)} {st : List AV} {σ : Hp} {k : Nat × Nat} (h : ct pc = false) : xk_X12_worth ct K R n pc ls st σ k = xe_X12_worth ct K R n pc ls st σ k := by unfold xk_X12_worth exkS xe_X12_worth; rw [h]
theorem ev_X12_worth {ct : Nat → Bool} {K : Kt} {R : Option AV → Hp → Prop} {n : Nat} {ls : List (Option AV)} {st : List AV} {σ : Hp} {k : Nat × Nat} :
  xe_X12_worth ct K R (n + 1) 0 ls st σ k = (xk_X12_worth ct K R n 1 ls (vi (0) :: st) σ k) ∧
  xe_X12_worth ct K R (n + 1) 1 ls st σ k = (oI st fun x st => 2 < 6 ∧ xk_X12_worth ct K R n 2 (stL ls 2 (vi x)) st σ k) ∧
  xe_X12_worth ct K R (n + 1) 2 ls st σ k = (lR ls 0 fun x => xk_X12_worth ct K R n 3 ls (vr x :: st) σ k) ∧
  xe_X12_worth ct K R (n + 1) 3 ls st σ k = (xk_X12_worth ct K R n 4 ls (vi (0) :: st) σ k) ∧
  xe_X12_worth ct K R (n + 1) 4 ls st σ k = (popN 2 st [] fun av rest => (catS rest ≤ 8 ∧ 1 < 3 ∧ k.1 + 0 ≤ 0 ∧ k.2 + 0 ≤ 0) ∧ (sp_X12_opens) av σ fun v σ' => xk_X12_worth ct K R n 7 ls (v.toList ++ rest) σ' (k.1 + 0, k.2 + 0)) ∧
  xe_X12_worth ct K R (n + 1) 7 ls st σ k = (lR ls 0 fun x => xk_X12_worth ct K R n 8 ls (vr x :: st) σ k) ∧
  xe_X12_worth ct K R (n + 1) 8 ls st σ k = (oR st fun x st => kd σ x = 13 ∧ xk_X12_worth ct K R n 11 ls (vr (fR σ 1356 x) :: st) σ k) ∧
  xe_X12_worth ct K R (n + 1) 11 ls st σ k = (lI ls 1 fun x => xk_X12_worth ct K R n 12 ls (vi x :: st) σ k) ∧
  xe_X12_worth ct K R (n + 1) 12 ls st σ k = (oI st fun j st => oR st fun x st => (kd σ x = 101 ∨ kd σ x = 108) ∧ (0 ≤ j ∧ j < ln σ x) ∧ xk_X12_worth ct K R n 13 ls (vi (aI σ x j) :: st) σ k) ∧
  xe_X12_worth ct K R (n + 1) 13 ls st σ k = (oI st fun x st => 3 < 6 ∧ xk_X12_worth ct K R n 14 (stL ls 3 (vi x)) st σ k) ∧
  xe_X12_worth ct K R (n + 1) 14 ls st σ k = (lI ls 3 fun x => xk_X12_worth ct K R n 15 ls (vi x :: st) σ k) ∧
  xe_X12_worth ct K R (n + 1) 15 ls st σ k = (lR ls 0 fun x => xk_X12_worth ct K R n 16 ls (vr x :: st) σ k) ∧
  xe_X12_worth ct K R (n + 1) 16 ls st σ k = (oR st fun x st => kd σ x = 13 ∧ xk_X12_worth ct K R n 19 ls (vr (fR σ 1357 x) :: st) σ k) ∧
  xe_X12_worth ct K R (n + 1) 19 ls st σ k = (lI ls 1 fun x => xk_X12_worth ct K R n 20 ls (vi x :: st) σ k) ∧
  xe_X12_worth ct K R (n + 1) 20 ls st σ k = (oI st fun j st => oR st fun x st => (kd σ x = 101 ∨ kd σ x = 108) ∧ (0 ≤ j ∧ j < ln σ x) ∧ xk_X12_worth ct K R n 21 ls (vi (aI σ x j) :: st) σ k) ∧
  xe_X12_worth ct K R (n + 1) 21 ls st σ k = (oI st fun y st => oI st fun x st => (wI y ≤ wI x → xk_X12_worth ct K R n 296 ls st σ k) ∧ (¬ (wI y ≤ wI x) → xk_X12_worth ct K R n 24 ls st σ k)) ∧
  xe_X12_worth ct K R (n + 1) 24 ls st σ k = (lR ls 0 fun x => xk_X12_worth ct K R n 25 ls (vr x :: st) σ k) ∧
  xe_X12_worth ct K R (n + 1) 25 ls st σ k = (oR st fun x st => kd σ x = 13 ∧ xk_X12_worth ct K R n 28 ls (vr (fR σ 1358 x) :: st) σ k) ∧
  xe_X12_worth ct K R (n + 1) 28 ls st σ k = (lI ls 3 fun x => xk_X12_worth ct K R n 29 ls (vi x :: st) σ k) ∧
  xe_X12_worth ct K R (n + 1) 29 ls st σ k = (oI st fun j st => oR st fun x st => (kd σ x = 101 ∨ kd σ x = 108) ∧ (0 ≤ j ∧ j < ln σ x) ∧ xk_X12_worth ct K R n 30 ls (vi (aI σ x j) :: st) σ k) ∧
  xe_X12_worth ct K R (n + 1) 30 ls st σ k = (oI st fun x st => 4 < 6 ∧ xk_X12_worth ct K R n 32 (stL ls 4 (vi x)) st σ k) ∧
  xe_X12_worth ct K R (n + 1) 32 ls st σ k = (lI ls 4 fun x => xk_X12_worth ct K R n 34 ls (vi x :: st) σ k) ∧
  xe_X12_worth ct K R (n + 1) 34 ls st σ k = (xk_X12_worth ct K R n 36 ls (vi (28) :: st) σ k) ∧
  xe_X12_worth ct K R (n + 1) 36 ls st σ k = (oI st fun y st => oI st fun x st => (wI x = wI y → xk_X12_worth ct K R n 46 ls st σ k) ∧ (¬ (wI x = wI y) → xk_X12_worth ct K R n 39 ls st σ k)) ∧
  xe_X12_worth ct K R (n + 1) 39 ls st σ k = (lI ls 4 fun x => xk_X12_worth ct K R n 41 ls (vi x :: st) σ k) ∧
  xe_X12_worth ct K R (n + 1) 41 ls st σ k = (xk_X12_worth ct K R n 43 ls (vi (30) :: st) σ k) ∧
  xe_X12_worth ct K R (n + 1) 43 ls st σ k = (oI st fun y st => oI st fun x st => (¬ wI x = wI y → xk_X12_worth ct K R n 75 ls st σ k) ∧ (¬ (¬ wI x = wI y) → xk_X12_worth ct K R n 46 ls st σ k)) ∧
  xe_X12_worth ct K R (n + 1) 46 ls st σ k = (lI ls 2 fun x => 2 < 6 ∧ xk_X12_worth ct K R n 49 (stL ls 2 (vi (x + (1)))) st σ k) ∧
  xe_X12_worth ct K R (n + 1) 49 ls st σ k = (lR ls 0 fun x => xk_X12_worth ct K R n 50 ls (vr x :: st) σ k) ∧
  xe_X12_worth ct K R (n + 1) 50 ls st σ k = (oR st fun x st => kd σ x = 13 ∧ xk_X12_worth ct K R n 53 ls (vr (fR σ 1369 x) :: st) σ k) ∧
  xe_X12_worth ct K R (n + 1) 53 ls st σ k = (lI ls 2 fun x => xk_X12_worth ct K R n 54 ls (vi x :: st) σ k) ∧
  xe_X12_worth ct K R (n + 1) 54 ls st σ k = (lI ls 4 fun x => xk_X12_worth ct K R n 56 ls (vi x :: st) σ k) ∧
  xe_X12_worth ct K R (n + 1) 56 ls st σ k = (xk_X12_worth ct K R n 58 ls (vi (30) :: st) σ k) ∧
  xe_X12_worth ct K R (n + 1) 58 ls st σ k = (oI st fun y st => oI st fun x st => (¬ wI x = wI y → xk_X12_worth ct K R n 65 ls st σ k) ∧ (¬ (¬ wI x = wI y) → xk_X12_worth ct K R n 61 ls st σ k)) ∧
  xe_X12_worth ct K R (n + 1) 61 ls st σ k = (xk_X12_worth ct K R n 62 ls (vi (1) :: st) σ k) ∧
  xe_X12_worth ct K R (n + 1) 62 ls st σ k = (xk_X12_worth ct K R n 66 ls st σ k) ∧
  xe_X12_worth ct K R (n + 1) 65 ls st σ k = (xk_X12_worth ct K R n 66 ls (vi (0) :: st) σ k) ∧
  xe_X12_worth ct K R (n + 1) 66 ls st σ k = (oI st fun v st => oI st fun j st => oR st fun x st => kd σ x = 101 ∧ (0 ≤ j ∧ j < ln σ x) ∧ xk_X12_worth ct K R n 67 ls st (qI σ x j v) k) ∧
  xe_X12_worth ct K R (n + 1) 67 ls st σ k = (lR ls 0 fun x => xk_X12_worth ct K R n 68 ls (vr x :: st) σ k) ∧
  xe_X12_worth ct K R (n + 1) 68 ls st σ k = (lI ls 2 fun x => xk_X12_worth ct K R n 69 ls (vi x :: st) σ k) ∧
  xe_X12_worth ct K R (n + 1) 69 ls st σ k = (popN 2 st [] fun av rest => (catS rest ≤ 8 ∧ 1 < 3 ∧ k.1 + 0 ≤ 0 ∧ k.2 + 0 ≤ 0) ∧ (sp_X12_opens) av σ fun v σ' => xk_X12_worth ct K R n 72 ls (v.toList ++ rest) σ' (k.1 + 0, k.2 + 0)) ∧
  xe_X12_worth ct K R (n + 1) 72 ls st σ k = (xk_X12_worth ct K R n 290 ls st σ k) ∧
  xe_X12_worth ct K R (n + 1) 75 ls st σ k = (lI ls 4 fun x => xk_X12_worth ct K R n 77 ls (vi x :: st) σ k) ∧
  xe_X12_worth ct K R (n + 1) 77 ls st σ k = (xk_X12_worth ct K R n 79 ls (vi (20) :: st) σ k) ∧
  xe_X12_worth ct K R (n + 1) 79 ls st σ k = (oI st fun y st => oI st fun x st => (wI x = wI y → xk_X12_worth ct K R n 89 ls st σ k) ∧ (¬ (wI x = wI y) → xk_X12_worth ct K R n 82 ls st σ k)) ∧
  xe_X12_worth ct K R (n + 1) 82 ls st σ k = (lI ls 4 fun x => xk_X12_worth ct K R n 84 ls (vi x :: st) σ k) ∧
  xe_X12_worth ct K R (n + 1) 84 ls st σ k = (xk_X12_worth ct K R n 86 ls (vi (21) :: st) σ k) ∧
  xe_X12_worth ct K R (n + 1) 86 ls st σ k = (oI st fun y st => oI st fun x st => (¬ wI x = wI y → xk_X12_worth ct K R n 105 ls st σ k) ∧ (¬ (¬ wI x = wI y) → xk_X12_worth ct K R n 89 ls st σ k)) ∧
  xe_X12_worth ct K R (n + 1) 89 ls st σ k = (lR ls 0 fun x => xk_X12_worth ct K R n 90 ls (vr x :: st) σ k) ∧
  xe_X12_worth ct K R (n + 1) 90 ls st σ k = (lI ls 2 fun x => xk_X12_worth ct K R n 91 ls (vi x :: st) σ k) ∧
  xe_X12_worth ct K R (n + 1) 91 ls st σ k = (popN 2 st [] fun av rest => (catS rest ≤ 8 ∧ 1 < 3 ∧ k.1 + 0 ≤ 0 ∧ k.2 + 0 ≤ 0) ∧ (sp_X12_sums) av σ fun v σ' => xk_X12_worth ct K R n 94 ls (v.toList ++ rest) σ' (k.1 + 0, k.2 + 0)) ∧
  xe_X12_worth ct K R (n + 1) 94 ls st σ k = (lR ls 0 fun x => xk_X12_worth ct K R n 95 ls (vr x :: st) σ k) ∧
  xe_X12_worth ct K R (n + 1) 95 ls st σ k = (oR st fun x st => kd σ x = 13 ∧ xk_X12_worth ct K R n 98 ls (vr (fR σ 1367 x) :: st) σ k) ∧
  xe_X12_worth ct K R (n + 1) 98 ls st σ k = (lI ls 2 fun x => xk_X12_worth ct K R n 99 ls (vi x :: st) σ k) ∧
  xe_X12_worth ct K R (n + 1) 99 ls st σ k = (lI ls 4 fun x => xk_X12_worth ct K R n 101 ls (vi x :: st) σ k) ∧
  xe_X12_worth ct K R (n + 1) 101 ls st σ k = (oI st fun v st => oI st fun j st => oR st fun x st => kd σ x = 101 ∧ (0 ≤ j ∧ j < ln σ x) ∧ xk_X12_worth ct K R n 102 ls st (qI σ x j v) k) ∧
  xe_X12_worth ct K R (n + 1) 102 ls st σ k = (xk_X12_worth ct K R n 290 ls st σ k) ∧
  xe_X12_worth ct K R (n + 1) 105 ls st σ k = (lI ls 4 fun x => xk_X12_worth ct K R n 107 ls (vi x :: st) σ k) ∧
  xe_X12_worth ct K R (n + 1) 107 ls st σ k = (xk_X12_worth ct K R n 109 ls (vi (24) :: st) σ k) ∧
  xe_X12_worth ct K R (n + 1) 109 ls st σ k = (oI st fun y st => oI st fun x st => (wI x = wI y → xk_X12_worth ct K R n 119 ls st σ k) ∧ (¬ (wI x = wI y) → xk_X12_worth ct K R n 112 ls st σ k)) ∧
  xe_X12_worth ct K R (n + 1) 112 ls st σ k = (lI ls 4 fun x => xk_X12_worth ct K R n 114 ls (vi x :: st) σ k) ∧
  xe_X12_worth ct K R (n + 1) 114 ls st σ k = (xk_X12_worth ct K R n 116 ls (vi (25) :: st) σ k) ∧
  xe_X12_worth ct K R (n + 1) 116 ls st σ k = (oI st fun y st => oI st fun x st => (¬ wI x = wI y → xk_X12_worth ct K R n 162 ls st σ k) ∧ (¬ (¬ wI x = wI y) → xk_X12_worth ct K R n 119 ls st σ k)) ∧
  xe_X12_worth ct K R (n + 1) 119 ls st σ k = (lR ls 0 fun x => xk_X12_worth ct K R n 120 ls (vr x :: st) σ k) ∧
  xe_X12_worth ct K R (n + 1) 120 ls st σ k = (lI ls 2 fun x => xk_X12_worth ct K R n 121 ls (vi x :: st) σ k) ∧
  xe_X12_worth ct K R (n + 1) 121 ls st σ k = (popN 2 st [] fun av rest => (catS rest ≤ 8 ∧ 1 < 3 ∧ k.1 + 0 ≤ 0 ∧ k.2 + 0 ≤ 0) ∧ (sp_X12_sums) av σ fun v σ' => xk_X12_worth ct K R n 124 ls (v.toList ++ rest) σ' (k.1 + 0, k.2 + 0)) ∧
  xe_X12_worth ct K R (n + 1) 124 ls st σ k = (lR ls 0 fun x => xk_X12_worth ct K R n 125 ls (vr x :: st) σ k) ∧
  xe_X12_worth ct K R (n + 1) 125 ls st σ k = (oR st fun x st => kd σ x = 13 ∧ xk_X12_worth ct K R n 128 ls (vr (fR σ 1364 x) :: st) σ k) ∧
  xe_X12_worth ct K R (n + 1) 128 ls st σ k = (lI ls 2 fun x => xk_X12_worth ct K R n 129 ls (vi x :: st) σ k) ∧
  xe_X12_worth ct K R (n + 1) 129 ls st σ k = (lR ls 0 fun x => xk_X12_worth ct K R n 130 ls (vr x :: st) σ k) ∧
  xe_X12_worth ct K R (n + 1) 130 ls st σ k = (oR st fun x st => kd σ x = 13 ∧ xk_X12_worth ct K R n 133 ls (vr (fR σ 1366 x) :: st) σ k) ∧
  xe_X12_worth ct K R (n + 1) 133 ls st σ k = (lI ls 2 fun x => xk_X12_worth ct K R n 134 ls (vi x :: st) σ k) ∧
  xe_X12_worth ct K R (n + 1) 134 ls st σ k = (oI st fun j st => oR st fun x st => (kd σ x = 101 ∨ kd σ x = 108) ∧ (0 ≤ j ∧ j < ln σ x) ∧ xk_X12_worth ct K R n 135 ls (vi (aI σ x j) :: st) σ k) ∧
  xe_X12_worth ct K R (n + 1) 135 ls st σ k = (oI st fun v st => oI st fun j st => oR st fun x st => kd σ x = 101 ∧ (0 ≤ j ∧ j < ln σ x) ∧ xk_X12_worth ct K R n 136 ls st (qI σ x j v) k) ∧
  xe_X12_worth ct K R (n + 1) 136 ls st σ k = (lR ls 0 fun x => xk_X12_worth ct K R n 137 ls (vr x :: st) σ k) ∧
  xe_X12_worth ct K R (n + 1) 137 ls st σ k = (oR st fun x st => kd σ x = 13 ∧ xk_X12_worth ct K R n 140 ls (vr (fR σ 1365 x) :: st) σ k) ∧
  xe_X12_worth ct K R (n + 1) 140 ls st σ k = (lI ls 2 fun x => xk_X12_worth ct K R n 141 ls (vi x :: st) σ k) ∧
  xe_X12_worth ct K R (n + 1) 141 ls st σ k = (lI ls 4 fun x => xk_X12_worth ct K R n 143 ls (vi x :: st) σ k) ∧
  xe_X12_worth ct K R (n + 1) 143 ls st σ k = (oI st fun v st => oI st fun j st => oR st fun x st => kd σ x = 101 ∧ (0 ≤ j ∧ j < ln σ x) ∧ xk_X12_worth ct K R n 144 ls st (qI σ x j v) k) ∧
  xe_X12_worth ct K R (n + 1) 144 ls st σ k = (lR ls 0 fun x => xk_X12_worth ct K R n 145 ls (vr x :: st) σ k) ∧
  xe_X12_worth ct K R (n + 1) 145 ls st σ k = (oR st fun x st => kd σ x = 13 ∧ xk_X12_worth ct K R n 148 ls (vr (fR σ 1366 x) :: st) σ k) ∧
  xe_X12_worth ct K R (n + 1) 148 ls st σ k = (lI ls 2 fun x => xk_X12_worth ct K R n 149 ls (vi x :: st) σ k) ∧
  xe_X12_worth ct K R (n + 1) 149 ls st σ k = (xk_X12_worth ct K R n 150 ls (vi (0) :: st) σ k) ∧
  xe_X12_worth ct K R (n + 1) 150 ls st σ k = (oI st fun v st => oI st fun j st => oR st fun x st => kd σ x = 101 ∧ (0 ≤ j ∧ j < ln σ x) ∧ xk_X12_worth ct K R n 151 ls st (qI σ x j v) k) ∧
  xe_X12_worth ct K R (n + 1) 151 ls st σ k = (lR ls 0 fun x => xk_X12_worth ct K R n 152 ls (vr x :: st) σ k) ∧
  xe_X12_worth ct K R (n + 1) 152 ls st σ k = (oR st fun x st => kd σ x = 13 ∧ xk_X12_worth ct K R n 155 ls (vr (fR σ 1367 x) :: st) σ k) ∧
  xe_X12_worth ct K R (n + 1) 155 ls st σ k = (lI ls 2 fun x => xk_X12_worth ct K R n 156 ls (vi x :: st) σ k) ∧
  xe_X12_worth ct K R (n + 1) 156 ls st σ k = (xk_X12_worth ct K R n 158 ls (vi (20) :: st) σ k) ∧
  xe_X12_worth ct K R (n + 1) 158 ls st σ k = (oI st fun v st => oI st fun j st => oR st fun x st => kd σ x = 101 ∧ (0 ≤ j ∧ j < ln σ x) ∧ xk_X12_worth ct K R n 159 ls st (qI σ x j v) k) ∧
  xe_X12_worth ct K R (n + 1) 159 ls st σ k = (xk_X12_worth ct K R n 290 ls st σ k) ∧
  xe_X12_worth ct K R (n + 1) 162 ls st σ k = (lI ls 4 fun x => xk_X12_worth ct K R n 164 ls (vi x :: st) σ k) ∧
  xe_X12_worth ct K R (n + 1) 164 ls st σ k = (xk_X12_worth ct K R n 166 ls (vi (26) :: st) σ k) ∧
  xe_X12_worth ct K R (n + 1) 166 ls st σ k = (oI st fun y st => oI st fun x st => (wI x = wI y → xk_X12_worth ct K R n 176 ls st σ k) ∧ (¬ (wI x = wI y) → xk_X12_worth ct K R n 169 ls st σ k)) ∧
  xe_X12_worth ct K R (n + 1) 169 ls st σ k = (lI ls 4 fun x => xk_X12_worth ct K R n 171 ls (vi x :: st) σ k) ∧
  xe_X12_worth ct K R (n + 1) 171 ls st σ k = (xk_X12_worth ct K R n 173 ls (vi (27) :: st) σ k) ∧
  xe_X12_worth ct K R (n + 1) 173 ls st σ k = (oI st fun y st => oI st fun x st => (¬ wI x = wI y → xk_X12_worth ct K R n 192 ls st σ k) ∧ (¬ (¬ wI x = wI y) → xk_X12_worth ct K R n 176 ls st σ k)) ∧
  xe_X12_worth ct K R (n + 1) 176 ls st σ k = (lR ls 0 fun x => xk_X12_worth ct K R n 177 ls (vr x :: st) σ k) ∧
  xe_X12_worth ct K R (n + 1) 177 ls st σ k = (lI ls 2 fun x => xk_X12_worth ct K R n 178 ls (vi x :: st) σ k) ∧
  xe_X12_worth ct K R (n + 1) 178 ls st σ k = (popN 2 st [] fun av rest => (catS rest ≤ 8 ∧ 2 < 3 ∧ k.1 + 0 ≤ 0 ∧ k.2 + 0 ≤ 0) ∧ (sp_X12_tests) av σ fun v σ' => xk_X12_worth ct K R n 181 ls (v.toList ++ rest) σ' (k.1 + 0, k.2 + 0)) ∧
  xe_X12_worth ct K R (n + 1) 181 ls st σ k = (lR ls 0 fun x => xk_X12_worth ct K R n 182 ls (vr x :: st) σ k) ∧
  xe_X12_worth ct K R (n + 1) 182 ls st σ k = (oR st fun x st => kd σ x = 13 ∧ xk_X12_worth ct K R n 185 ls (vr (fR σ 1363 x) :: st) σ k) ∧
  xe_X12_worth ct K R (n + 1) 185 ls st σ k = (lI ls 2 fun x => xk_X12_worth ct K R n 186 ls (vi x :: st) σ k) ∧
  xe_X12_worth ct K R (n + 1) 186 ls st σ k = (lI ls 4 fun x => xk_X12_worth ct K R n 188 ls (vi x :: st) σ k) ∧
  xe_X12_worth ct K R (n + 1) 188 ls st σ k = (oI st fun v st => oI st fun j st => oR st fun x st => kd σ x = 101 ∧ (0 ≤ j ∧ j < ln σ x) ∧ xk_X12_worth ct K R n 189 ls st (qI σ x j v) k) ∧
  xe_X12_worth ct K R (n + 1) 189 ls st σ k = (xk_X12_worth ct K R n 290 ls st σ k) ∧
  xe_X12_worth ct K R (n + 1) 192 ls st σ k = (lI ls 4 fun x => xk_X12_worth ct K R n 194 ls (vi x :: st) σ k) ∧
  xe_X12_worth ct K R (n + 1) 194 ls st σ k = (xk_X12_worth ct K R n 196 ls (vi (100) :: st) σ k) ∧
  xe_X12_worth ct K R (n + 1) 196 ls st σ k = (oI st fun y st => oI st fun x st => (wI x < wI y → xk_X12_worth ct K R n 207 ls st σ k) ∧ (¬ (wI x < wI y) → xk_X12_worth ct K R n 199 ls st σ k)) ∧
  xe_X12_worth ct K R (n + 1) 199 ls st σ k = (lI ls 4 fun x => xk_X12_worth ct K R n 201 ls (vi x :: st) σ k) ∧
  xe_X12_worth ct K R (n + 1) 201 ls st σ k = (xk_X12_worth ct K R n 203 ls (vi (100) :: st) σ k) ∧
  xe_X12_worth ct K R (n + 1) 203 ls st σ k = (oI st fun y st => oI st fun x st => xk_X12_worth ct K R n 204 ls (vi (x - y) :: st) σ k) ∧
  xe_X12_worth ct K R (n + 1) 204 ls st σ k = (xk_X12_worth ct K R n 225 ls st σ k) ∧
  xe_X12_worth ct K R (n + 1) 207 ls st σ k = (lI ls 4 fun x => xk_X12_worth ct K R n 209 ls (vi x :: st) σ k) ∧
  xe_X12_worth ct K R (n + 1) 209 ls st σ k = (xk_X12_worth ct K R n 211 ls (vi (10) :: st) σ k) ∧
  xe_X12_worth ct K R (n + 1) 211 ls st σ k = (oI st fun y st => oI st fun x st => (wI y ≤ wI x → xk_X12_worth ct K R n 224 ls st σ k) ∧ (¬ (wI y ≤ wI x) → xk_X12_worth ct K R n 214 ls st σ k)) ∧
  xe_X12_worth ct K R (n + 1) 214 ls st σ k = (lR ls 0 fun x => xk_X12_worth ct K R n 215 ls (vr x :: st) σ k) ∧
  xe_X12_worth ct K R (n + 1) 215 ls st σ k = (oR st fun x st => kd σ x = 13 ∧ xk_X12_worth ct K R n 218 ls (vr (fR σ 1370 x) :: st) σ k) ∧
  xe_X12_worth ct K R (n + 1) 218 ls st σ k = (lI ls 4 fun x => xk_X12_worth ct K R n 220 ls (vi x :: st) σ k) ∧
  xe_X12_worth ct K R (n + 1) 220 ls st σ k = (oI st fun j st => oR st fun x st => (kd σ x = 101 ∨ kd σ x = 108) ∧ (0 ≤ j ∧ j < ln σ x) ∧ xk_X12_worth ct K R n 221 ls (vi (aI σ x j) :: st) σ k) ∧
  xe_X12_worth ct K R (n + 1) 221 ls st σ k = (xk_X12_worth ct K R n 225 ls st σ k) ∧
  xe_X12_worth ct K R (n + 1) 224 ls st σ k = (xk_X12_worth ct K R n 225 ls (vi (0) :: st) σ k) ∧
  xe_X12_worth ct K R (n + 1) 225 ls st σ k = (oI st fun x st => 5 < 6 ∧ xk_X12_worth ct K R n 227 (stL ls 5 (vi x)) st σ k) ∧
  xe_X12_worth ct K R (n + 1) 227 ls st σ k = (lI ls 4 fun x => xk_X12_worth ct K R n 229 ls (vi x :: st) σ k) ∧
  xe_X12_worth ct K R (n + 1) 229 ls st σ k = (xk_X12_worth ct K R n 231 ls (vi (29) :: st) σ k) ∧
  xe_X12_worth ct K R (n + 1) 231 ls st σ k = (oI st fun y st => oI st fun x st => (¬ wI x = wI y → xk_X12_worth ct K R n 250 ls st σ k) ∧ (¬ (¬ wI x = wI y) → xk_X12_worth ct K R n 234 ls st σ k)) ∧
  xe_X12_worth ct K R (n + 1) 234 ls st σ k = (lR ls 0 fun x => xk_X12_worth ct K R n 235 ls (vr x :: st) σ k) ∧
  xe_X12_worth ct K R (n + 1) 235 ls st σ k = (lI ls 2 fun x => xk_X12_worth ct K R n 236 ls (vi x :: st) σ k) ∧
  xe_X12_worth ct K R (n + 1) 236 ls st σ k = (popN 2 st [] fun av rest => (catS rest ≤ 8 ∧ 2 < 3 ∧ k.1 + 0 ≤ 0 ∧ k.2 + 0 ≤ 0) ∧ (sp_X12_tests) av σ fun v σ' => xk_X12_worth ct K R n 239 ls (v.toList ++ rest) σ' (k.1 + 0, k.2 + 0)) ∧
  xe_X12_worth ct K R (n + 1) 239 ls st σ k = (lR ls 0 fun x => xk_X12_worth ct K R n 240 ls (vr x :: st) σ k) ∧
  xe_X12_worth ct K R (n + 1) 240 ls st σ k = (oR st fun x st => kd σ x = 13 ∧ xk_X12_worth ct K R n 243 ls (vr (fR σ 1362 x) :: st) σ k) ∧
  xe_X12_worth ct K R (n + 1) 243 ls st σ k = (lI ls 2 fun x => xk_X12_worth ct K R n 244 ls (vi x :: st) σ k) ∧
  xe_X12_worth ct K R (n + 1) 244 ls st σ k = (oI st fun j st => oR st fun x st => (kd σ x = 101 ∨ kd σ x = 108) ∧ (0 ≤ j ∧ j < ln σ x) ∧ xk_X12_worth ct K R n 245 ls (vi (aI σ x j) :: st) σ k) ∧
  xe_X12_worth ct K R (n + 1) 245 ls st σ k = (oI st fun x st => 5 < 6 ∧ xk_X12_worth ct K R n 247 (stL ls 5 (vi x)) st σ k) ∧
  xe_X12_worth ct K R (n + 1) 247 ls st σ k = (lI ls 2 fun x => 2 < 6 ∧ xk_X12_worth ct K R n 250 (stL ls 2 (vi (x + (-1)))) st σ k) ∧
  xe_X12_worth ct K R (n + 1) 250 ls st σ k = (lI ls 2 fun x => xk_X12_worth ct K R n 251 ls (vi x :: st) σ k) ∧
  xe_X12_worth ct K R (n + 1) 251 ls st σ k = (oI st fun x st => (wI x ≤ wI 0 → xk_X12_worth ct K R n 282 ls st σ k) ∧ (¬ (wI x ≤ wI 0) → xk_X12_worth ct K R n 254 ls st σ k)) ∧
  xe_X12_worth ct K R (n + 1) 254 ls st σ k = (lR ls 0 fun x => xk_X12_worth ct K R n 255 ls (vr x :: st) σ k) ∧
  xe_X12_worth ct K R (n + 1) 255 ls st σ k = (oR st fun x st => kd σ x = 13 ∧ xk_X12_worth ct K R n 258 ls (vr (fR σ 1369 x) :: st) σ k) ∧
  xe_X12_worth ct K R (n + 1) 258 ls st σ k = (lI ls 2 fun x => xk_X12_worth ct K R n 259 ls (vi x :: st) σ k) ∧
  xe_X12_worth ct K R (n + 1) 259 ls st σ k = (oI st fun j st => oR st fun x st => (kd σ x = 101 ∨ kd σ x = 108) ∧ (0 ≤ j ∧ j < ln σ x) ∧ xk_X12_worth ct K R n 260 ls (vi (aI σ x j) :: st) σ k) ∧
  xe_X12_worth ct K R (n + 1) 260 ls st σ k = (xk_X12_worth ct K R n 261 ls (vi (1) :: st) σ k) ∧
  xe_X12_worth ct K R (n + 1) 261 ls st σ k = (oI st fun y st => oI st fun x st => (¬ wI x = wI y → xk_X12_worth ct K R n 282 ls st σ k) ∧ (¬ (¬ wI x = wI y) → xk_X12_worth ct K R n 264 ls st σ k)) ∧
  xe_X12_worth ct K R (n + 1) 264 ls st σ k = (lI ls 5 fun x => xk_X12_worth ct K R n 266 ls (vi x :: st) σ k) ∧
  xe_X12_worth ct K R (n + 1) 266 ls st σ k = (oI st fun x st => (¬ wI x = wI 0 → xk_X12_worth ct K R n 273 ls st σ k) ∧ (¬ (¬ wI x = wI 0) → xk_X12_worth ct K R n 269 ls st σ k)) ∧
  xe_X12_worth ct K R (n + 1) 269 ls st σ k = (xk_X12_worth ct K R n 270 ls (vi (1) :: st) σ k) ∧
  xe_X12_worth ct K R (n + 1) 270 ls st σ k = (xk_X12_worth ct K R n 274 ls st σ k) ∧
  xe_X12_worth ct K R (n + 1) 273 ls st σ k = (xk_X12_worth ct K R n 274 ls (vi (0) :: st) σ k) ∧
  xe_X12_worth ct K R (n + 1) 274 ls st σ k = (oI st fun x st => 5 < 6 ∧ xk_X12_worth ct K R n 276 (stL ls 5 (vi x)) st σ k) ∧
  xe_X12_worth ct K R (n + 1) 276 ls st σ k = (lI ls 2 fun x => 2 < 6 ∧ xk_X12_worth ct K R n 279 (stL ls 2 (vi (x + (-1)))) st σ k) ∧
  xe_X12_worth ct K R (n + 1) 279 ls st σ k = (xk_X12_worth ct K R n 250 ls st σ k) ∧
  xe_X12_worth ct K R (n + 1) 282 ls st σ k = (lR ls 0 fun x => xk_X12_worth ct K R n 283 ls (vr x :: st) σ k) ∧
  xe_X12_worth ct K R (n + 1) 283 ls st σ k = (oR st fun x st => kd σ x = 13 ∧ xk_X12_worth ct K R n 286 ls (vr (fR σ 1368 x) :: st) σ k) ∧
  xe_X12_worth ct K R (n + 1) 286 ls st σ k = (lI ls 2 fun x => xk_X12_worth ct K R n 287 ls (vi x :: st) σ k) ∧
  xe_X12_worth ct K R (n + 1) 287 ls st σ k = (lI ls 5 fun x => xk_X12_worth ct K R n 289 ls (vi x :: st) σ k) ∧
  xe_X12_worth ct K R (n + 1) 289 ls st σ k = (oI st fun v st => oI st fun j st => oR st fun x st => kd σ x = 101 ∧ (0 ≤ j ∧ j < ln σ x) ∧ xk_X12_worth ct K R n 290 ls st (qI σ x j v) k) ∧
  xe_X12_worth ct K R (n + 1) 290 ls st σ k = (lI ls 3 fun x => 3 < 6 ∧ xk_X12_worth ct K R n 293 (stL ls 3 (vi (x + (1)))) st σ k) ∧
  xe_X12_worth ct K R (n + 1) 293 ls st σ k = (xk_X12_worth ct K R n 14 ls st σ k) ∧
  xe_X12_worth ct K R (n + 1) 296 ls st σ k = (lR ls 0 fun x => xk_X12_worth ct K R n 297 ls (vr x :: st) σ k) ∧
  xe_X12_worth ct K R (n + 1) 297 ls st σ k = (xk_X12_worth ct K R n 298 ls (vi (0) :: st) σ k) ∧
  xe_X12_worth ct K R (n + 1) 298 ls st σ k = (popN 2 st [] fun av rest => (catS rest ≤ 8 ∧ 2 < 3 ∧ k.1 + 0 ≤ 0 ∧ k.2 + 0 ≤ 0) ∧ (sp_X12_tests) av σ fun v σ' => xk_X12_worth ct K R n 301 ls (v.toList ++ rest) σ' (k.1 + 0, k.2 + 0)) ∧
  xe_X12_worth ct K R (n + 1) 301 ls st σ k = (lR ls 0 fun x => xk_X12_worth ct K R n 302 ls (vr x :: st) σ k) ∧
  xe_X12_worth ct K R (n + 1) 302 ls st σ k = (oR st fun x st => kd σ x = 13 ∧ xk_X12_worth ct K R n 305 ls (vr (fR σ 1362 x) :: st) σ k) ∧
  xe_X12_worth ct K R (n + 1) 305 ls st σ k = (xk_X12_worth ct K R n 306 ls (vi (0) :: st) σ k) ∧
  xe_X12_worth ct K R (n + 1) 306 ls st σ k = (oI st fun j st => oR st fun x st => (kd σ x = 101 ∨ kd σ x = 108) ∧ (0 ≤ j ∧ j < ln σ x) ∧ xk_X12_worth ct K R n 307 ls (vi (aI σ x j) :: st) σ k) ∧
  xe_X12_worth ct K R (n + 1) 307 ls st σ k = (oI st fun x st => st = [] ∧ True ∧ R (some (vi x)) σ) :=
  ⟨exS_step.trans rfl, exS_step.trans rfl, exS_step.trans rfl, exS_step.trans rfl, exS_step.trans rfl, exS_step.trans rfl, exS_step.trans rfl, exS_step.trans rfl, exS_step.trans rfl, exS_step.trans rfl, exS_step.trans rfl, exS_step.trans rfl, exS_step.trans rfl, exS_step.trans rfl, exS_step.trans rfl, exS_step.trans rfl, exS_step.trans rfl, exS_step.trans rfl, exS_step.trans rfl, exS_step.trans rfl, exS_step.trans rfl, exS_step.trans rfl, exS_step.trans rfl, exS_step.trans rfl, exS_step.trans rfl, exS_step.trans rfl, exS_step.trans rfl, exS_step.trans rfl, exS_step.trans rfl, exS_step.trans rfl, exS_step.trans rfl, exS_step.trans rfl, exS_step.trans rfl, exS_step.trans rfl, exS_step.trans rfl, exS_step.trans rfl, exS_step.trans rfl, exS_step.trans rfl, exS_step.trans rfl, exS_step.trans rfl, exS_step.trans rfl, exS_step.trans rfl, exS_step.trans rfl, exS_step.trans rfl, exS_step.trans rfl, exS_step.trans rfl, exS_step.trans rfl, exS_step.trans rfl, exS_step.trans rfl, exS_step.trans rfl, exS_step.trans rfl, exS_step.trans rfl, exS_step.trans rfl, exS_step.trans rfl, exS_step.trans rfl, exS_step.trans rfl, exS_step.trans rfl, exS_step.trans rfl, exS_step.trans rfl, exS_step.trans rfl, exS_step.trans rfl, exS_step.trans rfl, exS_step.trans rfl, exS_step.trans rfl, exS_step.trans rfl, exS_step.trans rfl, exS_step.trans rfl, exS_step.trans rfl, exS_step.trans rfl, exS_step.trans rfl, exS_step.trans rfl, exS_step.trans rfl, exS_step.trans rfl, exS_step.trans rfl, exS_step.trans rfl, exS_step.trans rfl, exS_step.trans rfl, exS_step.trans rfl, exS_step.trans rfl, exS_step.trans rfl, exS_step.trans rfl, exS_step.trans rfl, exS_step.trans rfl, exS_step.trans rfl, exS_step.trans rfl, exS_step.trans rfl, exS_step.trans rfl, exS_step.trans rfl, exS_step.trans rfl, exS_step.trans rfl, exS_step.trans rfl, exS_step.trans rfl, exS_step.trans rfl, exS_step.trans rfl, exS_step.trans rfl, exS_step.trans rfl, exS_step.trans rfl, exS_step.trans rfl, exS_step.trans rfl, exS_step.trans rfl, exS_step.trans rfl, exS_step.trans rfl, exS_step.trans rfl, exS_step.trans rfl, exS_step.trans rfl, exS_step.trans rfl, exS_step.trans rfl, exS_step.trans rfl, exS_step.trans rfl, exS_step.trans rfl, exS_step.trans rfl, exS_step.trans rfl, exS_step.trans rfl, exS_step.trans rfl, exS_step.trans rfl, exS_step.trans rfl, exS_step.trans rfl, exS_step.trans rfl, exS_step.trans rfl, exS_step.trans rfl, exS_step.trans rfl, exS_step.trans rfl, exS_step.trans rfl, exS_step.trans rfl, exS_step.trans rfl, exS_step.trans rfl, exS_step.trans rfl, exS_step.trans rfl, exS_step.trans rfl, exS_step.trans rfl, exS_step.trans rfl, exS_step.trans rfl, exS_step.trans rfl, exS_step.trans rfl, exS_step.trans rfl, exS_step.trans rfl, exS_step.trans rfl, exS_step.trans rfl, exS_step.trans rfl, exS_step.trans rfl, exS_step.trans rfl, exS_step.trans rfl, exS_step.trans rfl, exS_step.trans rfl, exS_step.trans rfl, exS_step.trans rfl, exS_step.trans rfl, exS_step.trans rfl, exS_step.trans rfl, exS_step.trans rfl, exS_step.trans rfl, exS_step.trans rfl, exS_step.trans rfl, exS_step.trans rfl, exS_step.trans rfl, exS_step.trans rfl, exS_step.trans rfl, exS_step.trans rfl, exS_step.trans rfl, exS_step.trans rfl, exS_step.trans rfl, exS_step.trans rfl, exS_step.trans rfl, exS_step.trans rfl, exS_step.trans rfl⟩
def M_X12_worth : Md := (yX12_worth, cX12_worth, 6, (some FieldType.int), 3, 0, 0, 1, false, tb_X12_worth, mt_X12_worth)
theorem mm_X12_worth : MMOK M_X12_worth := ⟨by decide +kernel, tk_X12_worth, mk_X12_worth, rfl, fun h => by cases h⟩
theorem go_X12_worth {Q : Option AV → Hp → Prop} {ct : Nat → Bool} {pc : Nat} {ls : List (Option AV)} {st : List AV} {σ : Hp} {k : Nat × Nat} (n : Nat) (h : xe_X12_worth ct (Go M_X12_worth Q) Q n pc ls st σ k) : Go M_X12_worth Q pc ls st σ k := Go.exS mm_X12_worth h

set_option maxRecDepth 20000 in
theorem worth_250 {Q : Option AV → Hp → Prop} {l k c : Int} {τ : Hp} (hT : MI τ) (hk : kd τ 61 = 13) : ∀ (n : Nat) (v : Int), n ≤ 5 →
    Go M_X12_worth Q 14 [some (vr 61), some (vi l), some (vi ((mPop τ n v).2 : Nat)), some (vi (k + 1)), some (vi c), some (vi (mPop τ n v).1)] [] (qI τ 106 ((mPop τ n v).2 : Nat) (mPop τ n v).1) (0, 0) →
    Go M_X12_worth Q 250 [some (vr 61), some (vi l), some (vi n), some (vi k), some (vi c), some (vi v)] [] τ (0, 0) := by
  intro n
  induction n with
  | zero =>
    intro v hn h
    simp only [mPop] at h
    refine go_X12_worth (ct := fun p => p == 14 || p == 250) 40 ?_
    simp only [oI, oL, oR, o1, lI, lL, lR, popN, catS, gv, stL, stL2, swt, cnd, spObj, List.getElem?_cons_zero, List.getElem?_cons_succ, List.getD_cons_zero, List.getD_cons_succ, List.set_cons_zero, List.set_cons_succ, List.nil_append, List.cons_append, Option.toList, Bool.or_false, Bool.false_or, Bool.or_true, Bool.true_or, Nat.reduceBEq, Nat.reduceAdd, Nat.reduceLT, Nat.reduceLeDiff, Int.reduceAdd, Int.reduceToNat, true_and, and_true, Fin.isValue, Fin.val_zero, Fin.val_one, Fin.val_two, Fin.reduceFinMk, eq_self, Int.reduceNeg, imp_self, Nat.reduceMul, Nat.le_refl, not_true_eq_false, not_false_eq_true, List.getElem?_nil, reduceCtorEq, true_or, or_true, Classical.not_not, implies_true, or_self, wI_0, wI_1, wI_m1, b2i_w, b2i_eq0, b2i_eq1, b2i_bool, nor_self, nx_pI, kd_pI, ln_pI, fI_pI, fL_pI, fR_pI, aI_pI, aL_pI, aR_pI, nx_pL, kd_pL, ln_pL, fI_pL, fL_pL, fR_pL, aI_pL, aL_pL, aR_pL, nx_pR, kd_pR, ln_pR, fI_pR, fL_pR, fR_pR, aI_pR, aL_pR, aR_pR, nx_qI, kd_qI, ln_qI, fI_qI, fL_qI, fR_qI, aI_qI, aL_qI, aR_qI, nx_qL, kd_qL, ln_qL, fI_qL, fL_qL, fR_qL, aI_qL, aL_qL, aR_qL, nx_qR, kd_qR, ln_qR, fI_qR, fL_qR, fR_qR, aI_qR, aL_qR, aR_qR, nx_mk, kd_mk, ln_mk, fI_mk, fL_mk, fR_mk, aI_mk, aL_mk, aR_mk, false_and, and_false, if_false, if_true, and_self, Int.reduceEq, Nat.reduceEqDiff, ite_self, MLay_pI, MLay_pL, MLay_qI, MLay_qL, ev_X12_worth, xt_X12_worth, xf_X12_worth, us_X12_opens, us_X12_sums, us_X12_tests, hk, hT.lay.eqs]
    try simp (disch := omega) only [wI_id, dv_nn, rm_nn]
    repeat' (first | intro z | apply And.intro)
    all_goals try omega
    all_goals exact h
  | succ n ih =>
    intro v hn h
    have h1 := hT.byNot_ (n + 1)
    simp only [mPop] at h
    by_cases e : aI τ 107 ((n : Int) + 1) = 1
    · rw [if_pos e] at h
      have ih := ih (if wI v = 0 then 1 else 0) (by omega) h
      refine go_X12_worth (ct := fun p => p == 14 || p == 250) 40 ?_
      simp only [oI, oL, oR, o1, lI, lL, lR, popN, catS, gv, stL, stL2, swt, cnd, spObj, List.getElem?_cons_zero, List.getElem?_cons_succ, List.getD_cons_zero, List.getD_cons_succ, List.set_cons_zero, List.set_cons_succ, List.nil_append, List.cons_append, Option.toList, Bool.or_false, Bool.false_or, Bool.or_true, Bool.true_or, Nat.reduceBEq, Nat.reduceAdd, Nat.reduceLT, Nat.reduceLeDiff, Int.reduceAdd, Int.reduceToNat, true_and, and_true, Fin.isValue, Fin.val_zero, Fin.val_one, Fin.val_two, Fin.reduceFinMk, eq_self, Int.reduceNeg, imp_self, Nat.reduceMul, Nat.le_refl, not_true_eq_false, not_false_eq_true, List.getElem?_nil, reduceCtorEq, true_or, or_true, Classical.not_not, implies_true, or_self, wI_0, wI_1, wI_m1, b2i_w, b2i_eq0, b2i_eq1, b2i_bool, nor_self, nx_pI, kd_pI, ln_pI, fI_pI, fL_pI, fR_pI, aI_pI, aL_pI, aR_pI, nx_pL, kd_pL, ln_pL, fI_pL, fL_pL, fR_pL, aI_pL, aL_pL, aR_pL, nx_pR, kd_pR, ln_pR, fI_pR, fL_pR, fR_pR, aI_pR, aL_pR, aR_pR, nx_qI, kd_qI, ln_qI, fI_qI, fL_qI, fR_qI, aI_qI, aL_qI, aR_qI, nx_qL, kd_qL, ln_qL, fI_qL, fL_qL, fR_qL, aI_qL, aL_qL, aR_qL, nx_qR, kd_qR, ln_qR, fI_qR, fL_qR, fR_qR, aI_qR, aL_qR, aR_qR, nx_mk, kd_mk, ln_mk, fI_mk, fL_mk, fR_mk, aI_mk, aL_mk, aR_mk, false_and, and_false, if_false, if_true, and_self, Int.reduceEq, Nat.reduceEqDiff, ite_self, MLay_pI, MLay_pL, MLay_qI, MLay_qL, ev_X12_worth, xt_X12_worth, xf_X12_worth, us_X12_opens, us_X12_sums, us_X12_tests, hk, hT.lay.eqs, Int.natCast_add, Int.cast_ofNat_Int]
      try simp (disch := omega) only [wI_id, dv_nn, rm_nn]
      repeat' (first | intro z | apply And.intro)
      all_goals try omega
      all_goals grind
    · rw [if_neg e] at h
      refine go_X12_worth (ct := fun p => p == 14 || p == 250) 40 ?_
      simp only [oI, oL, oR, o1, lI, lL, lR, popN, catS, gv, stL, stL2, swt, cnd, spObj, List.getElem?_cons_zero, List.getElem?_cons_succ, List.getD_cons_zero, List.getD_cons_succ, List.set_cons_zero, List.set_cons_succ, List.nil_append, List.cons_append, Option.toList, Bool.or_false, Bool.false_or, Bool.or_true, Bool.true_or, Nat.reduceBEq, Nat.reduceAdd, Nat.reduceLT, Nat.reduceLeDiff, Int.reduceAdd, Int.reduceToNat, true_and, and_true, Fin.isValue, Fin.val_zero, Fin.val_one, Fin.val_two, Fin.reduceFinMk, eq_self, Int.reduceNeg, imp_self, Nat.reduceMul, Nat.le_refl, not_true_eq_false, not_false_eq_true, List.getElem?_nil, reduceCtorEq, true_or, or_true, Classical.not_not, implies_true, or_self, wI_0, wI_1, wI_m1, b2i_w, b2i_eq0, b2i_eq1, b2i_bool, nor_self, nx_pI, kd_pI, ln_pI, fI_pI, fL_pI, fR_pI, aI_pI, aL_pI, aR_pI, nx_pL, kd_pL, ln_pL, fI_pL, fL_pL, fR_pL, aI_pL, aL_pL, aR_pL, nx_pR, kd_pR, ln_pR, fI_pR, fL_pR, fR_pR, aI_pR, aL_pR, aR_pR, nx_qI, kd_qI, ln_qI, fI_qI, fL_qI, fR_qI, aI_qI, aL_qI, aR_qI, nx_qL, kd_qL, ln_qL, fI_qL, fL_qL, fR_qL, aI_qL, aL_qL, aR_qL, nx_qR, kd_qR, ln_qR, fI_qR, fL_qR, fR_qR, aI_qR, aL_qR, aR_qR, nx_mk, kd_mk, ln_mk, fI_mk, fL_mk, fR_mk, aI_mk, aL_mk, aR_mk, false_and, and_false, if_false, if_true, and_self, Int.reduceEq, Nat.reduceEqDiff, ite_self, MLay_pI, MLay_pL, MLay_qI, MLay_qL, ev_X12_worth, xt_X12_worth, xf_X12_worth, us_X12_opens, us_X12_sums, us_X12_tests, hk, hT.lay.eqs, Int.natCast_add, Int.cast_ofNat_Int]
      try simp (disch := omega) only [wI_id, dv_nn, rm_nn]
      repeat' (first | intro z | apply And.intro)
      all_goals try omega
      all_goals exact h

set_option maxRecDepth 20000 in
theorem c_X12_worth : Ct yX12_worth cX12_worth 6 ((some FieldType.int)) 3 0 0 sp_X12_worth := by
  refine Ct.go (M := M_X12_worth) mm_X12_worth fun av σ Q h0 => ?_
  obtain ⟨this, l, rfl, hk, h⟩ := el_X12_worth h0
  clear h0
  refine ⟨Nat.le_of_ble_eq_true rfl, ?_⟩
  show Go M_X12_worth Q 0 [some (vr this), some (vi l), none, none, none, none] [] σ (0, 0)
  obtain ⟨rfl, hI, hl, hok, h⟩ := h
  obtain ⟨o1, o2, o3⟩ := hok
  have loop : ∀ (n : Nat) (k d : Int) (τ : Hp) (a4 a5 : Option AV), MI τ → Scr σ τ → (0 ≤ d ∧ d < 6) → 0 ≤ k → (k + n = aI σ 96 l ∨ (n = 0 ∧ aI σ 96 l ≤ k ∧ k ≤ 2000)) → mRok τ d k n → Q (some (vi (aI (mTests (mRuns τ d k n).1 0) 100 0))) (mTests (mRuns τ d k n).1 0) → Go M_X12_worth Q 14 [some (vr 61), some (vi l), some (vi d), some (vi k), a4, a5] [] τ (0, 0) := by
    intro n
    induction n with
    | zero =>
      intro k d τ a4 a5 hT hS hd h0 hn ho hq
      have hk : kd τ 61 = 13 := hT.lay.1
      have e1 := hS.a (r := 96) (by decide)
      have x1 := hT.lineTo_ l
      have hT2 := MI_mTests hT 0
      have hk2 : kd (mTests τ 0) 61 = 13 := hT2.lay.1
      unfold mRuns at hq
      generalize e9 : mTests τ 0 = ρ at hT2 hk2 hq
      rw [e1] at x1
      refine go_X12_worth (ct := fun p => p == 14 || p == 250) 40 ?_
      simp only [oI, oL, oR, o1, lI, lL, lR, popN, catS, gv, stL, stL2, swt, cnd, spObj, List.getElem?_cons_zero, List.getElem?_cons_succ, List.getD_cons_zero, List.getD_cons_succ, List.set_cons_zero, List.set_cons_succ, List.nil_append, List.cons_append, Option.toList, Bool.or_false, Bool.false_or, Bool.or_true, Bool.true_or, Nat.reduceBEq, Nat.reduceAdd, Nat.reduceLT, Nat.reduceLeDiff, Int.reduceAdd, Int.reduceToNat, true_and, and_true, Fin.isValue, Fin.val_zero, Fin.val_one, Fin.val_two, Fin.reduceFinMk, eq_self, Int.reduceNeg, imp_self, Nat.reduceMul, Nat.le_refl, not_true_eq_false, not_false_eq_true, List.getElem?_nil, reduceCtorEq, true_or, or_true, Classical.not_not, implies_true, or_self, wI_0, wI_1, wI_m1, b2i_w, b2i_eq0, b2i_eq1, b2i_bool, nor_self, nx_pI, kd_pI, ln_pI, fI_pI, fL_pI, fR_pI, aI_pI, aL_pI, aR_pI, nx_pL, kd_pL, ln_pL, fI_pL, fL_pL, fR_pL, aI_pL, aL_pL, aR_pL, nx_pR, kd_pR, ln_pR, fI_pR, fL_pR, fR_pR, aI_pR, aL_pR, aR_pR, nx_qI, kd_qI, ln_qI, fI_qI, fL_qI, fR_qI, aI_qI, aL_qI, aR_qI, nx_qL, kd_qL, ln_qL, fI_qL, fL_qL, fR_qL, aI_qL, aL_qL, aR_qL, nx_qR, kd_qR, ln_qR, fI_qR, fL_qR, fR_qR, aI_qR, aL_qR, aR_qR, nx_mk, kd_mk, ln_mk, fI_mk, fL_mk, fR_mk, aI_mk, aL_mk, aR_mk, false_and, and_false, if_false, if_true, and_self, Int.reduceEq, Nat.reduceEqDiff, ite_self, MLay_pI, MLay_pL, MLay_qI, MLay_qL, ev_X12_worth, xt_X12_worth, xf_X12_worth, us_X12_opens, us_X12_sums, us_X12_tests, hk, hT.lay.eqs, hT, e1, e9, hk2, hT2.lay.eqs]
      try simp (disch := omega) only [wI_id, dv_nn, rm_nn]
      repeat' (first | intro z | apply And.intro)
      all_goals try omega
      all_goals exact hq
    | succ n ih =>
      intro k d τ a4 a5 hT hS hd h0 hn ho hq
      have hk : kd τ 61 = 13 := hT.lay.1
      have e1 := hS.a (r := 96) (by decide)
      have x1 := hT.lineTo_ l
      have hcr := hT.codes_ k
      obtain ⟨hc, ho⟩ := ho
      have hT2 := MI_mStC hT d (aI τ 97 k)
      have hS2 := Scr_mStC hS d (aI τ 97 k)
      have hd2 := mStC_d (σ := τ) hc hd
      have w := fun a4 a5 => ih (k + 1) _ _ a4 a5 hT2 hS2 hd2 (by omega) (by omega) ho hq
      clear ih hq ho hT2 hS2 hd2
      unfold mCok at hc
      unfold mStC mCmp at w
      have hTs := MI_mSums hT d
      have hTt := MI_mTests hT d
      have hO0 : MI (qI τ 107 (d + 1) 0) := MI_byNot_q hT (by omega)
      have hO1 : MI (qI τ 107 (d + 1) 1) := MI_byNot_q hT (by omega)
      have hks : kd (mSums τ d) 61 = 13 := hTs.lay.1
      have hkt : kd (mTests τ d) 61 = 13 := hTt.lay.1
      generalize eS : mSums τ d = s at w hTs hks
      generalize eT : mTests τ d = t at w hTt hkt
      rw [e1] at x1
      generalize ec : aI τ 97 k = c at w hcr hc
      obtain ⟨dn, rfl⟩ : ∃ dn : Nat, d = dn := ⟨d.toNat, by omega⟩
      by_cases c1 : c = 28 ∨ c = 30
      · rw [if_pos c1] at w
        refine go_X12_worth (ct := fun p => p == 14 || p == 250) 60 ?_
        simp only [oI, oL, oR, o1, lI, lL, lR, popN, catS, gv, stL, stL2, swt, cnd, spObj, List.getElem?_cons_zero, List.getElem?_cons_succ, List.getD_cons_zero, List.getD_cons_succ, List.set_cons_zero, List.set_cons_succ, List.nil_append, List.cons_append, Option.toList, Bool.or_false, Bool.false_or, Bool.or_true, Bool.true_or, Nat.reduceBEq, Nat.reduceAdd, Nat.reduceLT, Nat.reduceLeDiff, Int.reduceAdd, Int.reduceToNat, true_and, and_true, Fin.isValue, Fin.val_zero, Fin.val_one, Fin.val_two, Fin.reduceFinMk, eq_self, Int.reduceNeg, imp_self, Nat.reduceMul, Nat.le_refl, not_true_eq_false, not_false_eq_true, List.getElem?_nil, reduceCtorEq, true_or, or_true, Classical.not_not, implies_true, or_self, wI_0, wI_1, wI_m1, b2i_w, b2i_eq0, b2i_eq1, b2i_bool, nor_self, nx_pI, kd_pI, ln_pI, fI_pI, fL_pI, fR_pI, aI_pI, aL_pI, aR_pI, nx_pL, kd_pL, ln_pL, fI_pL, fL_pL, fR_pL, aI_pL, aL_pL, aR_pL, nx_pR, kd_pR, ln_pR, fI_pR, fL_pR, fR_pR, aI_pR, aL_pR, aR_pR, nx_qI, kd_qI, ln_qI, fI_qI, fL_qI, fR_qI, aI_qI, aL_qI, aR_qI, nx_qL, kd_qL, ln_qL, fI_qL, fL_qL, fR_qL, aI_qL, aL_qL, aR_qL, nx_qR, kd_qR, ln_qR, fI_qR, fL_qR, fR_qR, aI_qR, aL_qR, aR_qR, nx_mk, kd_mk, ln_mk, fI_mk, fL_mk, fR_mk, aI_mk, aL_mk, aR_mk, false_and, and_false, if_false, if_true, and_self, Int.reduceEq, Nat.reduceEqDiff, ite_self, MLay_pI, MLay_pL, MLay_qI, MLay_qL, ev_X12_worth, xt_X12_worth, xf_X12_worth, us_X12_opens, us_X12_sums, us_X12_tests, hk, hT.lay.eqs, hT, e1, ec, hO0, hO1]
        try simp (disch := omega) only [wI_id, dv_nn, rm_nn]
        repeat' (first | intro z | apply And.intro)
        all_goals try omega
        all_goals grind
      rw [if_neg c1] at w
      by_cases c2 : c = 20 ∨ c = 21
      · rw [if_pos c2] at w
        refine go_X12_worth (ct := fun p => p == 14 || p == 250) 60 ?_
        simp only [oI, oL, oR, o1, lI, lL, lR, popN, catS, gv, stL, stL2, swt, cnd, spObj, List.getElem?_cons_zero, List.getElem?_cons_succ, List.getD_cons_zero, List.getD_cons_succ, List.set_cons_zero, List.set_cons_succ, List.nil_append, List.cons_append, Option.toList, Bool.or_false, Bool.false_or, Bool.or_true, Bool.true_or, Nat.reduceBEq, Nat.reduceAdd, Nat.reduceLT, Nat.reduceLeDiff, Int.reduceAdd, Int.reduceToNat, true_and, and_true, Fin.isValue, Fin.val_zero, Fin.val_one, Fin.val_two, Fin.reduceFinMk, eq_self, Int.reduceNeg, imp_self, Nat.reduceMul, Nat.le_refl, not_true_eq_false, not_false_eq_true, List.getElem?_nil, reduceCtorEq, true_or, or_true, Classical.not_not, implies_true, or_self, wI_0, wI_1, wI_m1, b2i_w, b2i_eq0, b2i_eq1, b2i_bool, nor_self, nx_pI, kd_pI, ln_pI, fI_pI, fL_pI, fR_pI, aI_pI, aL_pI, aR_pI, nx_pL, kd_pL, ln_pL, fI_pL, fL_pL, fR_pL, aI_pL, aL_pL, aR_pL, nx_pR, kd_pR, ln_pR, fI_pR, fL_pR, fR_pR, aI_pR, aL_pR, aR_pR, nx_qI, kd_qI, ln_qI, fI_qI, fL_qI, fR_qI, aI_qI, aL_qI, aR_qI, nx_qL, kd_qL, ln_qL, fI_qL, fL_qL, fR_qL, aI_qL, aL_qL, aR_qL, nx_qR, kd_qR, ln_qR, fI_qR, fL_qR, fR_qR, aI_qR, aL_qR, aR_qR, nx_mk, kd_mk, ln_mk, fI_mk, fL_mk, fR_mk, aI_mk, aL_mk, aR_mk, false_and, and_false, if_false, if_true, and_self, Int.reduceEq, Nat.reduceEqDiff, ite_self, MLay_pI, MLay_pL, MLay_qI, MLay_qL, ev_X12_worth, xt_X12_worth, xf_X12_worth, us_X12_opens, us_X12_sums, us_X12_tests, hk, hT.lay.eqs, hT, e1, ec, eS, hks, hTs.lay.eqs]
        try simp (disch := omega) only [wI_id, dv_nn, rm_nn]
        repeat' (first | intro z | apply And.intro)
        all_goals try omega
        all_goals exact w _ _
      rw [if_neg c2] at w
      by_cases c3 : c = 24 ∨ c = 25
      · rw [if_pos c3] at w
        refine go_X12_worth (ct := fun p => p == 14 || p == 250) 60 ?_
        simp only [oI, oL, oR, o1, lI, lL, lR, popN, catS, gv, stL, stL2, swt, cnd, spObj, List.getElem?_cons_zero, List.getElem?_cons_succ, List.getD_cons_zero, List.getD_cons_succ, List.set_cons_zero, List.set_cons_succ, List.nil_append, List.cons_append, Option.toList, Bool.or_false, Bool.false_or, Bool.or_true, Bool.true_or, Nat.reduceBEq, Nat.reduceAdd, Nat.reduceLT, Nat.reduceLeDiff, Int.reduceAdd, Int.reduceToNat, true_and, and_true, Fin.isValue, Fin.val_zero, Fin.val_one, Fin.val_two, Fin.reduceFinMk, eq_self, Int.reduceNeg, imp_self, Nat.reduceMul, Nat.le_refl, not_true_eq_false, not_false_eq_true, List.getElem?_nil, reduceCtorEq, true_or, or_true, Classical.not_not, implies_true, or_self, wI_0, wI_1, wI_m1, b2i_w, b2i_eq0, b2i_eq1, b2i_bool, nor_self, nx_pI, kd_pI, ln_pI, fI_pI, fL_pI, fR_pI, aI_pI, aL_pI, aR_pI, nx_pL, kd_pL, ln_pL, fI_pL, fL_pL, fR_pL, aI_pL, aL_pL, aR_pL, nx_pR, kd_pR, ln_pR, fI_pR, fL_pR, fR_pR, aI_pR, aL_pR, aR_pR, nx_qI, kd_qI, ln_qI, fI_qI, fL_qI, fR_qI, aI_qI, aL_qI, aR_qI, nx_qL, kd_qL, ln_qL, fI_qL, fL_qL, fR_qL, aI_qL, aL_qL, aR_qL, nx_qR, kd_qR, ln_qR, fI_qR, fL_qR, fR_qR, aI_qR, aL_qR, aR_qR, nx_mk, kd_mk, ln_mk, fI_mk, fL_mk, fR_mk, aI_mk, aL_mk, aR_mk, false_and, and_false, if_false, if_true, and_self, Int.reduceEq, Nat.reduceEqDiff, ite_self, MLay_pI, MLay_pL, MLay_qI, MLay_qL, ev_X12_worth, xt_X12_worth, xf_X12_worth, us_X12_opens, us_X12_sums, us_X12_tests, hk, hT.lay.eqs, hT, e1, ec, eS, hks, hTs.lay.eqs]
        try simp (disch := omega) only [wI_id, dv_nn, rm_nn]
        repeat' (first | intro z | apply And.intro)
        all_goals try omega
        all_goals exact w _ _
      rw [if_neg c3] at w
      by_cases c4 : c = 26 ∨ c = 27
      · rw [if_pos c4] at w
        refine go_X12_worth (ct := fun p => p == 14 || p == 250) 60 ?_
        simp only [oI, oL, oR, o1, lI, lL, lR, popN, catS, gv, stL, stL2, swt, cnd, spObj, List.getElem?_cons_zero, List.getElem?_cons_succ, List.getD_cons_zero, List.getD_cons_succ, List.set_cons_zero, List.set_cons_succ, List.nil_append, List.cons_append, Option.toList, Bool.or_false, Bool.false_or, Bool.or_true, Bool.true_or, Nat.reduceBEq, Nat.reduceAdd, Nat.reduceLT, Nat.reduceLeDiff, Int.reduceAdd, Int.reduceToNat, true_and, and_true, Fin.isValue, Fin.val_zero, Fin.val_one, Fin.val_two, Fin.reduceFinMk, eq_self, Int.reduceNeg, imp_self, Nat.reduceMul, Nat.le_refl, not_true_eq_false, not_false_eq_true, List.getElem?_nil, reduceCtorEq, true_or, or_true, Classical.not_not, implies_true, or_self, wI_0, wI_1, wI_m1, b2i_w, b2i_eq0, b2i_eq1, b2i_bool, nor_self, nx_pI, kd_pI, ln_pI, fI_pI, fL_pI, fR_pI, aI_pI, aL_pI, aR_pI, nx_pL, kd_pL, ln_pL, fI_pL, fL_pL, fR_pL, aI_pL, aL_pL, aR_pL, nx_pR, kd_pR, ln_pR, fI_pR, fL_pR, fR_pR, aI_pR, aL_pR, aR_pR, nx_qI, kd_qI, ln_qI, fI_qI, fL_qI, fR_qI, aI_qI, aL_qI, aR_qI, nx_qL, kd_qL, ln_qL, fI_qL, fL_qL, fR_qL, aI_qL, aL_qL, aR_qL, nx_qR, kd_qR, ln_qR, fI_qR, fL_qR, fR_qR, aI_qR, aL_qR, aR_qR, nx_mk, kd_mk, ln_mk, fI_mk, fL_mk, fR_mk, aI_mk, aL_mk, aR_mk, false_and, and_false, if_false, if_true, and_self, Int.reduceEq, Nat.reduceEqDiff, ite_self, MLay_pI, MLay_pL, MLay_qI, MLay_qL, ev_X12_worth, xt_X12_worth, xf_X12_worth, us_X12_opens, us_X12_sums, us_X12_tests, hk, hT.lay.eqs, hT, e1, ec, eT, hkt, hTt.lay.eqs]
        try simp (disch := omega) only [wI_id, dv_nn, rm_nn]
        repeat' (first | intro z | apply And.intro)
        all_goals try omega
        all_goals exact w _ _
      rw [if_neg c4] at w
      by_cases c5 : c = 29
      · rw [if_pos c5] at w
        obtain ⟨m, rfl⟩ : ∃ m : Nat, dn = m + 1 := ⟨dn - 1, by omega⟩
        have ed : ((m + 1 : Nat) : Int) + -1 = m := by omega
        have ed2 : (((m + 1 : Nat) : Int) - 1).toNat = m := by omega
        unfold mPut at w
        rw [ed2] at w
        have wp := worth_250 (l := l) (k := k) (c := c) hTt hkt m (aI t 100 (m + 1 : Nat)) (by omega) (w _ _)
        refine go_X12_worth (ct := fun p => p == 14 || p == 250) 60 ?_
        simp only [oI, oL, oR, o1, lI, lL, lR, popN, catS, gv, stL, stL2, swt, cnd, spObj, List.getElem?_cons_zero, List.getElem?_cons_succ, List.getD_cons_zero, List.getD_cons_succ, List.set_cons_zero, List.set_cons_succ, List.nil_append, List.cons_append, Option.toList, Bool.or_false, Bool.false_or, Bool.or_true, Bool.true_or, Nat.reduceBEq, Nat.reduceAdd, Nat.reduceLT, Nat.reduceLeDiff, Int.reduceAdd, Int.reduceToNat, true_and, and_true, Fin.isValue, Fin.val_zero, Fin.val_one, Fin.val_two, Fin.reduceFinMk, eq_self, Int.reduceNeg, imp_self, Nat.reduceMul, Nat.le_refl, not_true_eq_false, not_false_eq_true, List.getElem?_nil, reduceCtorEq, true_or, or_true, Classical.not_not, implies_true, or_self, wI_0, wI_1, wI_m1, b2i_w, b2i_eq0, b2i_eq1, b2i_bool, nor_self, nx_pI, kd_pI, ln_pI, fI_pI, fL_pI, fR_pI, aI_pI, aL_pI, aR_pI, nx_pL, kd_pL, ln_pL, fI_pL, fL_pL, fR_pL, aI_pL, aL_pL, aR_pL, nx_pR, kd_pR, ln_pR, fI_pR, fL_pR, fR_pR, aI_pR, aL_pR, aR_pR, nx_qI, kd_qI, ln_qI, fI_qI, fL_qI, fR_qI, aI_qI, aL_qI, aR_qI, nx_qL, kd_qL, ln_qL, fI_qL, fL_qL, fR_qL, aI_qL, aL_qL, aR_qL, nx_qR, kd_qR, ln_qR, fI_qR, fL_qR, fR_qR, aI_qR, aL_qR, aR_qR, nx_mk, kd_mk, ln_mk, fI_mk, fL_mk, fR_mk, aI_mk, aL_mk, aR_mk, false_and, and_false, if_false, if_true, and_self, Int.reduceEq, Nat.reduceEqDiff, ite_self, MLay_pI, MLay_pL, MLay_qI, MLay_qL, ev_X12_worth, xt_X12_worth, xf_X12_worth, us_X12_opens, us_X12_sums, us_X12_tests, hk, hT.lay.eqs, hT, e1, ec, eT, hkt, hTt.lay.eqs, ed]
        try simp (disch := omega) only [wI_id, dv_nn, rm_nn]
        repeat' (first | intro z | apply And.intro)
        all_goals try omega
        all_goals exact wp
      · rw [if_neg c5] at w
        unfold mPut at w
        rw [Int.toNat_natCast] at w
        have wp := worth_250 (l := l) (k := k) (c := c) hT hk dn (if 100 ≤ c then c - 100 else if c < 10 then aI τ 108 c else 0) (by omega) (w _ _)
        refine go_X12_worth (ct := fun p => p == 14 || p == 250) 60 ?_
        simp only [oI, oL, oR, o1, lI, lL, lR, popN, catS, gv, stL, stL2, swt, cnd, spObj, List.getElem?_cons_zero, List.getElem?_cons_succ, List.getD_cons_zero, List.getD_cons_succ, List.set_cons_zero, List.set_cons_succ, List.nil_append, List.cons_append, Option.toList, Bool.or_false, Bool.false_or, Bool.or_true, Bool.true_or, Nat.reduceBEq, Nat.reduceAdd, Nat.reduceLT, Nat.reduceLeDiff, Int.reduceAdd, Int.reduceToNat, true_and, and_true, Fin.isValue, Fin.val_zero, Fin.val_one, Fin.val_two, Fin.reduceFinMk, eq_self, Int.reduceNeg, imp_self, Nat.reduceMul, Nat.le_refl, not_true_eq_false, not_false_eq_true, List.getElem?_nil, reduceCtorEq, true_or, or_true, Classical.not_not, implies_true, or_self, wI_0, wI_1, wI_m1, b2i_w, b2i_eq0, b2i_eq1, b2i_bool, nor_self, nx_pI, kd_pI, ln_pI, fI_pI, fL_pI, fR_pI, aI_pI, aL_pI, aR_pI, nx_pL, kd_pL, ln_pL, fI_pL, fL_pL, fR_pL, aI_pL, aL_pL, aR_pL, nx_pR, kd_pR, ln_pR, fI_pR, fL_pR, fR_pR, aI_pR, aL_pR, aR_pR, nx_qI, kd_qI, ln_qI, fI_qI, fL_qI, fR_qI, aI_qI, aL_qI, aR_qI, nx_qL, kd_qL, ln_qL, fI_qL, fL_qL, fR_qL, aI_qL, aL_qL, aR_qL, nx_qR, kd_qR, ln_qR, fI_qR, fL_qR, fR_qR, aI_qR, aL_qR, aR_qR, nx_mk, kd_mk, ln_mk, fI_mk, fL_mk, fR_mk, aI_mk, aL_mk, aR_mk, false_and, and_false, if_false, if_true, and_self, Int.reduceEq, Nat.reduceEqDiff, ite_self, MLay_pI, MLay_pL, MLay_qI, MLay_qL, ev_X12_worth, xt_X12_worth, xf_X12_worth, us_X12_opens, us_X12_sums, us_X12_tests, hk, hT.lay.eqs, hT, e1, ec]
        try simp (disch := omega) only [wI_id, dv_nn, rm_nn]
        repeat' (first | intro z | apply And.intro)
        all_goals try omega
        all_goals grind
  have x1 := hI.lineFrom_ l
  have x2 := hI.lineTo_ l
  refine go_X12_worth (ct := fun p => p == 14 || p == 250) 40 ?_
  simp only [oI, oL, oR, o1, lI, lL, lR, popN, catS, gv, stL, stL2, swt, cnd, spObj, List.getElem?_cons_zero, List.getElem?_cons_succ, List.getD_cons_zero, List.getD_cons_succ, List.set_cons_zero, List.set_cons_succ, List.nil_append, List.cons_append, Option.toList, Bool.or_false, Bool.false_or, Bool.or_true, Bool.true_or, Nat.reduceBEq, Nat.reduceAdd, Nat.reduceLT, Nat.reduceLeDiff, Int.reduceAdd, Int.reduceToNat, true_and, and_true, Fin.isValue, Fin.val_zero, Fin.val_one, Fin.val_two, Fin.reduceFinMk, eq_self, Int.reduceNeg, imp_self, Nat.reduceMul, Nat.le_refl, not_true_eq_false, not_false_eq_true, List.getElem?_nil, reduceCtorEq, true_or, or_true, Classical.not_not, implies_true, or_self, wI_0, wI_1, wI_m1, b2i_w, b2i_eq0, b2i_eq1, b2i_bool, nor_self, nx_pI, kd_pI, ln_pI, fI_pI, fL_pI, fR_pI, aI_pI, aL_pI, aR_pI, nx_pL, kd_pL, ln_pL, fI_pL, fL_pL, fR_pL, aI_pL, aL_pL, aR_pL, nx_pR, kd_pR, ln_pR, fI_pR, fL_pR, fR_pR, aI_pR, aL_pR, aR_pR, nx_qI, kd_qI, ln_qI, fI_qI, fL_qI, fR_qI, aI_qI, aL_qI, aR_qI, nx_qL, kd_qL, ln_qL, fI_qL, fL_qL, fR_qL, aI_qL, aL_qL, aR_qL, nx_qR, kd_qR, ln_qR, fI_qR, fL_qR, fR_qR, aI_qR, aL_qR, aR_qR, nx_mk, kd_mk, ln_mk, fI_mk, fL_mk, fR_mk, aI_mk, aL_mk, aR_mk, false_and, and_false, if_false, if_true, and_self, Int.reduceEq, Nat.reduceEqDiff, ite_self, MLay_pI, MLay_pL, MLay_qI, MLay_qL, ev_X12_worth, xt_X12_worth, xf_X12_worth, us_X12_opens, us_X12_sums, us_X12_tests, hk, hI.lay.eqs, hI]
  have eL : aI (mOpens σ 0) 95 = aI σ 95 := (Scr_mOpens (Scr.refl σ) 0).a (by decide)
  have hT := MI_mOpens hI 0
  have hk2 : kd (mOpens σ 0) 61 = 13 := hT.lay.1
  simp only [hk2, hT.lay.eqs, eL]
  repeat' (first | intro z | apply And.intro)
  all_goals try omega
  all_goals first | trivial | exact loop _ _ 0 _ none none hT (Scr_mOpens (Scr.refl σ) 0) (by omega) o1 (by omega) o3 h
