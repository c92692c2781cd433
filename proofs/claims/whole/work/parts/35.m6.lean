/-! the reference: moves -/

theorem pI_pI (σ : Hp) (f : Nat) (k v w : Int) : pI (pI σ f k v) f k w = pI σ f k w := by
  show (nx σ, kd σ, ln σ, uf (uf (fI σ) f k v) f k w, fL σ, fR σ, aI σ, aL σ, aR σ) = (nx σ, kd σ, ln σ, uf (fI σ) f k w, fL σ, fR σ, aI σ, aL σ, aR σ)
  have : uf (uf (fI σ) f k v) f k w = uf (fI σ) f k w := by
    funext g j
    unfold uf
    by_cases e : g = f ∧ j = k
    · simp only [if_pos e]
    · simp only [if_neg e]
  rw [this]
theorem pI_cm (σ : Hp) {f g : Nat} (h : f ≠ g) (k j v w : Int) : pI (pI σ f k v) g j w = pI (pI σ g j w) f k v := by
  show (nx σ, kd σ, ln σ, uf (uf (fI σ) f k v) g j w, fL σ, fR σ, aI σ, aL σ, aR σ) = (nx σ, kd σ, ln σ, uf (uf (fI σ) g j w) f k v, fL σ, fR σ, aI σ, aL σ, aR σ)
  have : uf (uf (fI σ) f k v) g j w = uf (uf (fI σ) g j w) f k v := by
    funext x y
    unfold uf
    by_cases e : x = f ∧ y = k <;> by_cases e2 : x = g ∧ y = j
    · exact absurd (e.1.symm.trans e2.1) h
    · simp only [if_pos e, if_neg e2]
    · simp only [if_neg e, if_pos e2]
    · simp only [if_neg e, if_neg e2]
  rw [this]
theorem pI_self (σ : Hp) (f : Nat) (k : Int) : pI σ f k (fI σ f k) = σ := by
  have : uf (fI σ) f k (fI σ f k) = fI σ := by
    funext x y
    unfold uf
    by_cases e : x = f ∧ y = k
    · rw [if_pos e, e.1, e.2]
    · rw [if_neg e]
  show (nx σ, kd σ, ln σ, uf (fI σ) f k (fI σ f k), fL σ, fR σ, aI σ, aL σ, aR σ) = σ
  rw [this]; rfl
/-- two companies moved in thought -/
def mv (σ : Hp) (A a B b : Int) : Hp := pI (pI (pI (pI σ 1384 61 A) 1385 61 a) 1386 61 B) 1387 61 b
theorem mv_A (σ : Hp) (A a B b v : Int) : pI (mv σ A a B b) 1384 61 v = mv σ v a B b := by
  unfold mv
  rw [pI_cm _ (show (1387 : Nat) ≠ 1384 by decide), pI_cm _ (show (1386 : Nat) ≠ 1384 by decide), pI_cm _ (show (1385 : Nat) ≠ 1384 by decide), pI_pI]
theorem mv_a (σ : Hp) (A a B b v : Int) : pI (mv σ A a B b) 1385 61 v = mv σ A v B b := by
  unfold mv
  rw [pI_cm _ (show (1387 : Nat) ≠ 1385 by decide), pI_cm _ (show (1386 : Nat) ≠ 1385 by decide), pI_pI]
theorem mv_B (σ : Hp) (A a B b v : Int) : pI (mv σ A a B b) 1386 61 v = mv σ A a v b := by
  unfold mv
  rw [pI_cm _ (show (1387 : Nat) ≠ 1386 by decide), pI_pI]
theorem mv_b (σ : Hp) (A a B b v : Int) : pI (mv σ A a B b) 1387 61 v = mv σ A a B v := by
  unfold mv
  rw [pI_pI]
theorem mv_0 (σ : Hp) : mv σ (fI σ 1384 61) (fI σ 1385 61) (fI σ 1386 61) (fI σ 1387 61) = σ := by
  unfold mv
  rw [pI_self]
  have e1 := pI_self σ 1385 61
  rw [e1]
  have e2 := pI_self σ 1386 61
  rw [e2]
  exact pI_self σ 1387 61
theorem kd_mv (σ : Hp) (A a B b : Int) : kd (mv σ A a B b) = kd σ := rfl
theorem aI_mv (σ : Hp) (A a B b : Int) : aI (mv σ A a B b) = aI σ := rfl
theorem co_mv (σ : Hp) (A a B b : Int) : fI (mv σ A a B b) 1335 61 = fI σ 1335 61 := rfl
theorem ho_mv (σ : Hp) (A a B b : Int) : fI (mv σ A a B b) 1332 61 = fI σ 1332 61 := rfl
theorem mEng_mv (σ : Hp) (A a B b c : Int) : mEng (mv σ A a B b) c = mEng σ c := rfl
theorem mWo0_mv (σ : Hp) (A a B b c : Int) : mWo0 (mv σ A a B b) c = mWo0 σ c := rfl
def mR (A a B b : Int) : Prop := (-1 ≤ A ∧ A ≤ 19) ∧ (0 ≤ a ∧ a ≤ 11) ∧ (-1 ≤ B ∧ B ≤ 19) ∧ (0 ≤ b ∧ b ≤ 11)
theorem MI_mv {σ : Hp} (h : MI σ) {A a B b : Int} (r : mR A a B b) : MI (mv σ A a B b) := MI_toB_p (MI_movedB_p (MI_toA_p (MI_movedA_p h r.1) r.2.1) r.2.2.1) r.2.2.2
/-- one move covers all -/
def mP1 (σ : Hp) (c u : Int) : Prop := (0 ≤ c ∧ c < fI σ 1335 61) ∧ mEng σ c ∧ (0 ≤ u ∧ u < fI σ 1332 61) ∧ mWo0 σ u ∧ mAll (mv σ c u (-1) (fI σ 1387 61))
/-- two moves cover all -/
def mP2 (σ : Hp) (c u d g : Int) : Prop := (0 ≤ c ∧ c < d ∧ d < fI σ 1335 61) ∧ mEng σ c ∧ (0 ≤ u ∧ u < fI σ 1332 61) ∧ mWo0 σ u ∧ mEng σ d ∧ (0 ≤ g ∧ g < fI σ 1332 61) ∧ ¬ g = u ∧ mWo0 σ g ∧ mAll (mv σ c u d g)
/-- the fewest moves, and which -/
def mFew (σ : Hp) (n A a B b : Int) : Prop := mR A a B b ∧
  ((n = 0 ∧ mAll (mv σ (-1) (fI σ 1385 61) (-1) (fI σ 1387 61)) ∧ A = -1 ∧ a = fI σ 1385 61 ∧ B = -1 ∧ b = fI σ 1387 61) ∨
  (¬ mAll (mv σ (-1) (fI σ 1385 61) (-1) (fI σ 1387 61)) ∧
    ((n = 1 ∧ mP1 σ A a ∧ (∀ c u, c < A ∨ (c = A ∧ u < a) → ¬ mP1 σ c u) ∧ B = -1 ∧ b = fI σ 1387 61) ∨
    ((∀ c u, ¬ mP1 σ c u) ∧
      ((n = 2 ∧ mP2 σ A a B b ∧ ∀ c u d g, c < A ∨ (c = A ∧ (u < a ∨ (u = a ∧ (d < B ∨ (d = B ∧ g < b))))) → ¬ mP2 σ c u d g) ∨
      (n = -1 ∧ ∀ c u d g, ¬ mP2 σ c u d g))))))

def sp_X12_fewest : Sp := fun av σ Q => oR av fun this av => av = [] ∧ kd σ this = 13 ∧ (this = 61 ∧ MI σ ∧ ∀ n A a B b, mFew σ n A a B b → Q (some (vi n)) (mv σ A a B b))
theorem us_X12_fewest (this : Int) (σ : Hp) (Q : Option AV → Hp → Prop) : sp_X12_fewest [vr this] σ Q = (kd σ this = 13 ∧ (this = 61 ∧ MI σ ∧ ∀ n A a B b, mFew σ n A a B b → Q (some (vi n)) (mv σ A a B b))) := propext ⟨fun h => h.2, fun h => ⟨rfl, h⟩⟩
theorem el_X12_fewest {av : List AV} {σ : Hp} {Q : Option AV → Hp → Prop} (h : sp_X12_fewest av σ Q) : ∃ (this : Int), av = [vr this] ∧ (kd σ this = 13 ∧ (this = 61 ∧ MI σ ∧ ∀ n A a B b, mFew σ n A a B b → Q (some (vi n)) (mv σ A a B b))) := by
  obtain ⟨this, a0, rfl, h0⟩ := oR_s h
  obtain ⟨rfl, hz⟩ := h0
  exact ⟨this, rfl, hz⟩
theorem rc_X12_fewest : ∀ (av : List AV) (σ : Hp) (Q : Option AV → Hp → Prop), sp_X12_fewest av σ Q → ∃ r tl, av = vr r :: tl ∧ kd σ r = 12 + 1 := fun av σ Q h => by
  obtain ⟨this, rfl, hz, -⟩ := el_X12_fewest h
  exact ⟨this, _, rfl, hz⟩

def tb_X12_fewest : Tab := [(0, .aload_n 0, 1, (0, 0, 0, 0)), (1, .iconst (-1), 1, (0, 0, 0, 0)), (2, .putfield 433, 3, (13, 1384, 0, 0)), (5, .aload_n 0, 1, (0, 0, 0, 0)), (6, .iconst (-1), 1, (0, 0, 0, 0)), (7, .putfield 439, 3, (13, 1386, 0, 0)), (10, .aload_n 0, 1, (0, 0, 0, 0)), (11, .invokevirtual 460, 3, (0, 0, 0, 0)), (14, .ifCond .eq 5, 3, (0, 0, 0, 0)), (17, .iconst 0, 1, (0, 0, 0, 0)), (18, .ireturn, 1, (0, 0, 0, 0)), (19, .iconst 0, 1, (0, 0, 0, 0)), (20, .istore_n 1, 1, (0, 0, 0, 0)), (21, .iload_n 1, 1, (0, 0, 0, 0)), (22, .aload_n 0, 1, (0, 0, 0, 0)), (23, .getfield 293, 3, (13, 1335, 0, 0)), (26, .if_icmp .ge 66, 3, (0, 0, 0, 0)), (29, .aload_n 0, 1, (0, 0, 0, 0)), (30, .iload_n 1, 1, (0, 0, 0, 0)), (31, .invokevirtual 457, 3, (0, 0, 0, 0)), (34, .ifCond .ne 6, 3, (0, 0, 0, 0)), (37, .goto 49, 3, (0, 0, 0, 0)), (40, .iconst 0, 1, (0, 0, 0, 0)), (41, .istore_n 2, 1, (0, 0, 0, 0)), (42, .iload_n 2, 1, (0, 0, 0, 0)), (43, .aload_n 0, 1, (0, 0, 0, 0)), (44, .getfield 290, 3, (13, 1332, 0, 0)), (47, .if_icmp .ge 39, 3, (0, 0, 0, 0)), (50, .aload_n 0, 1, (0, 0, 0, 0)), (51, .iload_n 2, 1, (0, 0, 0, 0)), (52, .invokevirtual 463, 3, (0, 0, 0, 0)), (55, .ifCond .ne 6, 3, (0, 0, 0, 0)), (58, .goto 22, 3, (0, 0, 0, 0)), (61, .aload_n 0, 1, (0, 0, 0, 0)), (62, .iload_n 1, 1, (0, 0, 0, 0)), (63, .putfield 433, 3, (13, 1384, 0, 0)), (66, .aload_n 0, 1, (0, 0, 0, 0)), (67, .iload_n 2, 1, (0, 0, 0, 0)), (68, .putfield 436, 3, (13, 1385, 0, 0)), (71, .aload_n 0, 1, (0, 0, 0, 0)), (72, .invokevirtual 460, 3, (0, 0, 0, 0)), (75, .ifCond .eq 5, 3, (0, 0, 0, 0)), (78, .iconst 1, 1, (0, 0, 0, 0)), (79, .ireturn, 1, (0, 0, 0, 0)), (80, .iinc 2 1, 3, (0, 0, 0, 0)), (83, .goto (-41), 3, (0, 0, 0, 0)), (86, .iinc 1 1, 3, (0, 0, 0, 0)), (89, .goto (-68), 3, (0, 0, 0, 0)), (92, .iconst 0, 1, (0, 0, 0, 0)), (93, .istore_n 1, 1, (0, 0, 0, 0)), (94, .iload_n 1, 1, (0, 0, 0, 0)), (95, .aload_n 0, 1, (0, 0, 0, 0)), (96, .getfield 293, 3, (13, 1335, 0, 0)), (99, .if_icmp .ge 142, 3, (0, 0, 0, 0)), (102, .aload_n 0, 1, (0, 0, 0, 0)), (103, .iload_n 1, 1, (0, 0, 0, 0)), (104, .invokevirtual 457, 3, (0, 0, 0, 0)), (107, .ifCond .ne 6, 3, (0, 0, 0, 0)), (110, .goto 125, 3, (0, 0, 0, 0)), (113, .iconst 0, 1, (0, 0, 0, 0)), (114, .istore_n 2, 1, (0, 0, 0, 0)), (115, .iload_n 2, 1, (0, 0, 0, 0)), (116, .aload_n 0, 1, (0, 0, 0, 0)), (117, .getfield 290, 3, (13, 1332, 0, 0)), (120, .if_icmp .ge 115, 3, (0, 0, 0, 0)), (123, .aload_n 0, 1, (0, 0, 0, 0)), (124, .iload_n 2, 1, (0, 0, 0, 0)), (125, .invokevirtual 463, 3, (0, 0, 0, 0)), (128, .ifCond .ne 6, 3, (0, 0, 0, 0)), (131, .goto 98, 3, (0, 0, 0, 0)), (134, .iload_n 1, 1, (0, 0, 0, 0)), (135, .iconst 1, 1, (0, 0, 0, 0)), (136, .iadd, 1, (0, 0, 0, 0)), (137, .istore_n 3, 1, (0, 0, 0, 0)), (138, .iload_n 3, 1, (0, 0, 0, 0)), (139, .aload_n 0, 1, (0, 0, 0, 0)), (140, .getfield 293, 3, (13, 1335, 0, 0)), (143, .if_icmp .ge 86, 3, (0, 0, 0, 0)), (146, .aload_n 0, 1, (0, 0, 0, 0)), (147, .iload_n 3, 1, (0, 0, 0, 0)), (148, .invokevirtual 457, 3, (0, 0, 0, 0)), (151, .ifCond .ne 6, 3, (0, 0, 0, 0)), (154, .goto 69, 3, (0, 0, 0, 0)), (157, .iconst 0, 1, (0, 0, 0, 0)), (158, .istore 4, 2, (0, 0, 0, 0)), (160, .iload 4, 2, (0, 0, 0, 0)), (162, .aload_n 0, 1, (0, 0, 0, 0)), (163, .getfield 290, 3, (13, 1332, 0, 0)), (166, .if_icmp .ge 57, 3, (0, 0, 0, 0)), (169, .iload 4, 2, (0, 0, 0, 0)), (171, .iload_n 2, 1, (0, 0, 0, 0)), (172, .if_icmp .eq 45, 3, (0, 0, 0, 0)), (175, .aload_n 0, 1, (0, 0, 0, 0)), (176, .iload 4, 2, (0, 0, 0, 0)), (178, .invokevirtual 463, 3, (0, 0, 0, 0)), (181, .ifCond .ne 6, 3, (0, 0, 0, 0)), (184, .goto 33, 3, (0, 0, 0, 0)), (187, .aload_n 0, 1, (0, 0, 0, 0)), (188, .iload_n 1, 1, (0, 0, 0, 0)), (189, .putfield 433, 3, (13, 1384, 0, 0)), (192, .aload_n 0, 1, (0, 0, 0, 0)), (193, .iload_n 2, 1, (0, 0, 0, 0)), (194, .putfield 436, 3, (13, 1385, 0, 0)), (197, .aload_n 0, 1, (0, 0, 0, 0)), (198, .iload_n 3, 1, (0, 0, 0, 0)), (199, .putfield 439, 3, (13, 1386, 0, 0)), (202, .aload_n 0, 1, (0, 0, 0, 0)), (203, .iload 4, 2, (0, 0, 0, 0)), (205, .putfield 442, 3, (13, 1387, 0, 0)), (208, .aload_n 0, 1, (0, 0, 0, 0)), (209, .invokevirtual 460, 3, (0, 0, 0, 0)), (212, .ifCond .eq 5, 3, (0, 0, 0, 0)), (215, .iconst 2, 1, (0, 0, 0, 0)), (216, .ireturn, 1, (0, 0, 0, 0)), (217, .iinc 4 1, 3, (0, 0, 0, 0)), (220, .goto (-60), 3, (0, 0, 0, 0)), (223, .iinc 3 1, 3, (0, 0, 0, 0)), (226, .goto (-88), 3, (0, 0, 0, 0)), (229, .iinc 2 1, 3, (0, 0, 0, 0)), (232, .goto (-117), 3, (0, 0, 0, 0)), (235, .iinc 1 1, 3, (0, 0, 0, 0)), (238, .goto (-144), 3, (0, 0, 0, 0)), (241, .iconst (-1), 1, (0, 0, 0, 0)), (242, .ireturn, 1, (0, 0, 0, 0))]
set_option maxRecDepth 100000 in
theorem tk_X12_fewest : TOK RX12 false cX12_fewest tb_X12_fewest := chkT_ok ft_X12 (by decide +kernel)
theorem rw_X12_3680 : Row RX12 (.invokevirtual 460) 3 1 0 0 4 sp_X12_allCovered := row_V (n := 0) (ci := 12) c_X12_allCovered ⟨TBL_in 2051 (by decide +kernel) rfl, TBL_in 2054 (by decide +kernel) rfl, TBL_in 123 (by decide +kernel) rfl, by decide +kernel, by decide⟩ (by decide) rfl (TBL_in 2053 (by decide +kernel) rfl) (TBL_in 105 (by decide +kernel) rfl) rc_X12_allCovered
theorem rw_X12_3704 : Row RX12 (.invokevirtual 463) 3 2 0 0 2 sp_X12_isWithout := row_V (n := 1) (ci := 12) c_X12_isWithout ⟨TBL_in 2059 (by decide +kernel) rfl, TBL_in 2062 (by decide +kernel) rfl, TBL_in 123 (by decide +kernel) rfl, by decide +kernel, by decide⟩ (by decide) rfl (TBL_in 2061 (by decide +kernel) rfl) (TBL_in 107 (by decide +kernel) rfl) rc_X12_isWithout
def mt_X12_fewest : List (Nat × Mt) := [(3680, 1, 0, 0, 4, sp_X12_allCovered), (3656, 2, 0, 0, 1, sp_X12_isEngineIn), (3704, 2, 0, 0, 2, sp_X12_isWithout)]
theorem em_X12_fewest : mt_X12_fewest.lookup 3680 = some (1, 0, 0, 4, sp_X12_allCovered) ∧ mt_X12_fewest.lookup 3656 = some (2, 0, 0, 1, sp_X12_isEngineIn) ∧ mt_X12_fewest.lookup 3704 = some (2, 0, 0, 2, sp_X12_isWithout) := ⟨rfl, rfl, rfl⟩
theorem mk_X12_fewest : MOK RX12 mt_X12_fewest := by
  intro q hq
  simp only [mt_X12_fewest, List.mem_cons, List.not_mem_nil, or_false] at hq
  rcases hq with rfl | rfl | rfl
  · exact rw_X12_3680
  · exact rw_X12_3656
  · exact rw_X12_3704
noncomputable def xe_X12_fewest (ct : Nat → Bool) (K : Kt) (R : Option AV → Hp → Prop) (n : Nat) : Kt := exS 5 5 0 0 1 tb_X12_fewest mt_X12_fewest ct K R n
noncomputable def xk_X12_fewest (ct : Nat → Bool) (K : Kt) (R : Option AV → Hp → Prop) (n : Nat) : Kt := exkS 5 5 0 0 1 tb_X12_fewest mt_X12_fewest ct K R n
theorem xt_X12_fewest {ct : Nat → Bool} {K : Kt} {R : Option AV → Hp → Prop} {n pc : Nat} {ls : List (Option AV)} {st : List AV} {σ : Hp} {k : Nat × Nat} (h : ct pc = true) : xk_X12_fewest ct K R n pc ls st σ k = K pc ls st σ k := by unfold xk_X12_fewest exkS; rw [h]
theorem xf_X12_fewest {ct : Nat → Bool} {K : Kt} {R : Option AV → Hp → Prop} {n pc : Nat} {ls : List (Option AV)} {st : List AV} {σ : Hp} {k : Nat × Nat} (h : ct pc = false) : xk_X12_fewest ct K R n pc ls st σ k = xe_X12_fewest ct K R n pc ls st σ k := by unfold xk_X12_fewest exkS xe_X12_fewest; rw [h]
theorem ev_X12_fewest {ct : Nat → Bool} {K : Kt} {R : Option AV → Hp → Prop} {n : Nat} {ls : List (Option AV)} {st : List AV} {σ : Hp} {k : Nat × Nat} :
  xe_X12_fewest ct K R (n + 1) 0 ls st σ k = (lR ls 0 fun x => xk_X12_fewest ct K R n 1 ls (vr x :: st) σ k) ∧
  xe_X12_fewest ct K R (n + 1) 1 ls st σ k = (xk_X12_fewest ct K R n 2 ls (vi (-1) :: st) σ k) ∧
  xe_X12_fewest ct K R (n + 1) 2 ls st σ k = (oI st fun v st => oR st fun x st => kd σ x = 13 ∧ xk_X12_fewest ct K R n 5 ls st (pI σ 1384 x v) k) ∧
  xe_X12_fewest ct K R (n + 1) 5 ls st σ k = (lR ls 0 fun x => xk_X12_fewest ct K R n 6 ls (vr x :: st) σ k) ∧
  xe_X12_fewest ct K R (n + 1) 6 ls st σ k = (xk_X12_fewest ct K R n 7 ls (vi (-1) :: st) σ k) ∧
  xe_X12_fewest ct K R (n + 1) 7 ls st σ k = (oI st fun v st => oR st fun x st => kd σ x = 13 ∧ xk_X12_fewest ct K R n 10 ls st (pI σ 1386 x v) k) ∧
  xe_X12_fewest ct K R (n + 1) 10 ls st σ k = (lR ls 0 fun x => xk_X12_fewest ct K R n 11 ls (vr x :: st) σ k) ∧
  xe_X12_fewest ct K R (n + 1) 11 ls st σ k = (popN 1 st [] fun av rest => (catS rest ≤ 8 ∧ 4 < 5 ∧ k.1 + 0 ≤ 0 ∧ k.2 + 0 ≤ 0) ∧ (sp_X12_allCovered) av σ fun v σ' => xk_X12_fewest ct K R n 14 ls (v.toList ++ rest) σ' (k.1 + 0, k.2 + 0)) ∧
  xe_X12_fewest ct K R (n + 1) 14 ls st σ k = (oI st fun x st => (wI x = wI 0 → xk_X12_fewest ct K R n 19 ls st σ k) ∧ (¬ (wI x = wI 0) → xk_X12_fewest ct K R n 17 ls st σ k)) ∧
  xe_X12_fewest ct K R (n + 1) 17 ls st σ k = (xk_X12_fewest ct K R n 18 ls (vi (0) :: st) σ k) ∧
  xe_X12_fewest ct K R (n + 1) 18 ls st σ k = (oI st fun x st => st = [] ∧ True ∧ R (some (vi x)) σ) ∧
  xe_X12_fewest ct K R (n + 1) 19 ls st σ k = (xk_X12_fewest ct K R n 20 ls (vi (0) :: st) σ k) ∧
  xe_X12_fewest ct K R (n + 1) 20 ls st σ k = (oI st fun x st => 1 < 5 ∧ xk_X12_fewest ct K R n 21 (stL ls 1 (vi x)) st σ k) ∧
  xe_X12_fewest ct K R (n + 1) 21 ls st σ k = (lI ls 1 fun x => xk_X12_fewest ct K R n 22 ls (vi x :: st) σ k) ∧
  xe_X12_fewest ct K R (n + 1) 22 ls st σ k = (lR ls 0 fun x => xk_X12_fewest ct K R n 23 ls (vr x :: st) σ k) ∧
  xe_X12_fewest ct K R (n + 1) 23 ls st σ k = (oR st fun x st => kd σ x = 13 ∧ xk_X12_fewest ct K R n 26 ls (vi (fI σ 1335 x) :: st) σ k) ∧
  xe_X12_fewest ct K R (n + 1) 26 ls st σ k = (oI st fun y st => oI st fun x st => (wI y ≤ wI x → xk_X12_fewest ct K R n 92 ls st σ k) ∧ (¬ (wI y ≤ wI x) → xk_X12_fewest ct K R n 29 ls st σ k)) ∧
  xe_X12_fewest ct K R (n + 1) 29 ls st σ k = (lR ls 0 fun x => xk_X12_fewest ct K R n 30 ls (vr x :: st) σ k) ∧
  xe_X12_fewest ct K R (n + 1) 30 ls st σ k = (lI ls 1 fun x => xk_X12_fewest ct K R n 31 ls (vi x :: st) σ k) ∧
  xe_X12_fewest ct K R (n + 1) 31 ls st σ k = (popN 2 st [] fun av rest => (catS rest ≤ 8 ∧ 1 < 5 ∧ k.1 + 0 ≤ 0 ∧ k.2 + 0 ≤ 0) ∧ (sp_X12_isEngineIn) av σ fun v σ' => xk_X12_fewest ct K R n 34 ls (v.toList ++ rest) σ' (k.1 + 0, k.2 + 0)) ∧
  xe_X12_fewest ct K R (n + 1) 34 ls st σ k = (oI st fun x st => (¬ wI x = wI 0 → xk_X12_fewest ct K R n 40 ls st σ k) ∧ (¬ (¬ wI x = wI 0) → xk_X12_fewest ct K R n 37 ls st σ k)) ∧
  xe_X12_fewest ct K R (n + 1) 37 ls st σ k = (xk_X12_fewest ct K R n 86 ls st σ k) ∧
  xe_X12_fewest ct K R (n + 1) 40 ls st σ k = (xk_X12_fewest ct K R n 41 ls (vi (0) :: st) σ k) ∧
  xe_X12_fewest ct K R (n + 1) 41 ls st σ k = (oI st fun x st => 2 < 5 ∧ xk_X12_fewest ct K R n 42 (stL ls 2 (vi x)) st σ k) ∧
  xe_X12_fewest ct K R (n + 1) 42 ls st σ k = (lI ls 2 fun x => xk_X12_fewest ct K R n 43 ls (vi x :: st) σ k) ∧
  xe_X12_fewest ct K R (n + 1) 43 ls st σ k = (lR ls 0 fun x => xk_X12_fewest ct K R n 44 ls (vr x :: st) σ k) ∧
  xe_X12_fewest ct K R (n + 1) 44 ls st σ k = (oR st fun x st => kd σ x = 13 ∧ xk_X12_fewest ct K R n 47 ls (vi (fI σ 1332 x) :: st) σ k) ∧
  xe_X12_fewest ct K R (n + 1) 47 ls st σ k = (oI st fun y st => oI st fun x st => (wI y ≤ wI x → xk_X12_fewest ct K R n 86 ls st σ k) ∧ (¬ (wI y ≤ wI x) → xk_X12_fewest ct K R n 50 ls st σ k)) ∧
  xe_X12_fewest ct K R (n + 1) 50 ls st σ k = (lR ls 0 fun x => xk_X12_fewest ct K R n 51 ls (vr x :: st) σ k) ∧
  xe_X12_fewest ct K R (n + 1) 51 ls st σ k = (lI ls 2 fun x => xk_X12_fewest ct K R n 52 ls (vi x :: st) σ k) ∧
  xe_X12_fewest ct K R (n + 1) 52 ls st σ k = (popN 2 st [] fun av rest => (catS rest ≤ 8 ∧ 2 < 5 ∧ k.1 + 0 ≤ 0 ∧ k.2 + 0 ≤ 0) ∧ (sp_X12_isWithout) av σ fun v σ' => xk_X12_fewest ct K R n 55 ls (v.toList ++ rest) σ' (k.1 + 0, k.2 + 0)) ∧
  xe_X12_fewest ct K R (n + 1) 55 ls st σ k = (oI st fun x st => (¬ wI x = wI 0 → xk_X12_fewest ct K R n 61 ls st σ k) ∧ (¬ (¬ wI x = wI 0) → xk_X12_fewest ct K R n 58 ls st σ k)) ∧
  xe_X12_fewest ct K R (n + 1) 58 ls st σ k = (xk_X12_fewest ct K R n 80 ls st σ k) ∧
  xe_X12_fewest ct K R (n + 1) 61 ls st σ k = (lR ls 0 fun x => xk_X12_fewest ct K R n 62 ls (vr x :: st) σ k) ∧
  xe_X12_fewest ct K R (n + 1) 62 ls st σ k = (lI ls 1 fun x => xk_X12_fewest ct K R n 63 ls (vi x :: st) σ k) ∧
  xe_X12_fewest ct K R (n + 1) 63 ls st σ k = (oI st fun v st => oR st fun x st => kd σ x = 13 ∧ xk_X12_fewest ct K R n 66 ls st (pI σ 1384 x v) k) ∧
  xe_X12_fewest ct K R (n + 1) 66 ls st σ k = (lR ls 0 fun x => xk_X12_fewest ct K R n 67 ls (vr x :: st) σ k) ∧
  xe_X12_fewest ct K R (n + 1) 67 ls st σ k = (lI ls 2 fun x => xk_X12_fewest ct K R n 68 ls (vi x :: st) σ k) ∧
  xe_X12_fewest ct K R (n + 1) 68 ls st σ k = (oI st fun v st => oR st fun x st => kd σ x = 13 ∧ xk_X12_fewest ct K R n 71 ls st (pI σ 1385 x v) k) ∧
  xe_X12_fewest ct K R (n + 1) 71 ls st σ k = (lR ls 0 fun x => xk_X12_fewest ct K R n 72 ls (vr x :: st) σ k) ∧
  xe_X12_fewest ct K R (n + 1) 72 ls st σ k = (popN 1 st [] fun av rest => (catS rest ≤ 8 ∧ 4 < 5 ∧ k.1 + 0 ≤ 0 ∧ k.2 + 0 ≤ 0) ∧ (sp_X12_allCovered) av σ fun v σ' => xk_X12_fewest ct K R n 75 ls (v.toList ++ rest) σ' (k.1 + 0, k.2 + 0)) ∧
  xe_X12_fewest ct K R (n + 1) 75 ls st σ k = (oI st fun x st => (wI x = wI 0 → xk_X12_fewest ct K R n 80 ls st σ k) ∧ (¬ (wI x = wI 0) → xk_X12_fewest ct K R n 78 ls st σ k)) ∧
  xe_X12_fewest ct K R (n + 1) 78 ls st σ k = (xk_X12_fewest ct K R n 79 ls (vi (1) :: st) σ k) ∧
  xe_X12_fewest ct K R (n + 1) 79 ls st σ k = (oI st fun x st => st = [] ∧ True ∧ R (some (vi x)) σ) ∧
  xe_X12_fewest ct K R (n + 1) 80 ls st σ k = (lI ls 2 fun x => 2 < 5 ∧ xk_X12_fewest ct K R n 83 (stL ls 2 (vi (x + (1)))) st σ k) ∧
  xe_X12_fewest ct K R (n + 1) 83 ls st σ k = (xk_X12_fewest ct K R n 42 ls st σ k) ∧
  xe_X12_fewest ct K R (n + 1) 86 ls st σ k = (lI ls 1 fun x => 1 < 5 ∧ xk_X12_fewest ct K R n 89 (stL ls 1 (vi (x + (1)))) st σ k) ∧
  xe_X12_fewest ct K R (n + 1) 89 ls st σ k = (xk_X12_fewest ct K R n 21 ls st σ k) ∧
  xe_X12_fewest ct K R (n + 1) 92 ls st σ k = (xk_X12_fewest ct K R n 93 ls (vi (0) :: st) σ k) ∧
  xe_X12_fewest ct K R (n + 1) 93 ls st σ k = (oI st fun x st => 1 < 5 ∧ xk_X12_fewest ct K R n 94 (stL ls 1 (vi x)) st σ k) ∧
  xe_X12_fewest ct K R (n + 1) 94 ls st σ k = (lI ls 1 fun x => xk_X12_fewest ct K R n 95 ls (vi x :: st) σ k) ∧
  xe_X12_fewest ct K R (n + 1) 95 ls st σ k = (lR ls 0 fun x => xk_X12_fewest ct K R n 96 ls (vr x :: st) σ k) ∧
  xe_X12_fewest ct K R (n + 1) 96 ls st σ k = (oR st fun x st => kd σ x = 13 ∧ xk_X12_fewest ct K R n 99 ls (vi (fI σ 1335 x) :: st) σ k) ∧
  xe_X12_fewest ct K R (n + 1) 99 ls st σ k = (oI st fun y st => oI st fun x st => (wI y ≤ wI x → xk_X12_fewest ct K R n 241 ls st σ k) ∧ (¬ (wI y ≤ wI x) → xk_X12_fewest ct K R n 102 ls st σ k)) ∧
  xe_X12_fewest ct K R (n + 1) 102 ls st σ k = (lR ls 0 fun x => xk_X12_fewest ct K R n 103 ls (vr x :: st) σ k) ∧
  xe_X12_fewest ct K R (n + 1) 103 ls st σ k = (lI ls 1 fun x => xk_X12_fewest ct K R n 104 ls (vi x :: st) σ k) ∧
  xe_X12_fewest ct K R (n + 1) 104 ls st σ k = (popN 2 st [] fun av rest => (catS rest ≤ 8 ∧ 1 < 5 ∧ k.1 + 0 ≤ 0 ∧ k.2 + 0 ≤ 0) ∧ (sp_X12_isEngineIn) av σ fun v σ' => xk_X12_fewest ct K R n 107 ls (v.toList ++ rest) σ' (k.1 + 0, k.2 + 0)) ∧
  xe_X12_fewest ct K R (n + 1) 107 ls st σ k = (oI st fun x st => (¬ wI x = wI 0 → xk_X12_fewest ct K R n 113 ls st σ k) ∧ (¬ (¬ wI x = wI 0) → xk_X12_fewest ct K R n 110 ls st σ k)) ∧
  xe_X12_fewest ct K R (n + 1) 110 ls st σ k = (xk_X12_fewest ct K R n 235 ls st σ k) ∧
  xe_X12_fewest ct K R (n + 1) 113 ls st σ k = (xk_X12_fewest ct K R n 114 ls (vi (0) :: st) σ k) ∧
  xe_X12_fewest ct K R (n + 1) 114 ls st σ k = (oI st fun x st => 2 < 5 ∧ xk_X12_fewest ct K R n 115 (stL ls 2 (vi x)) st σ k) ∧
  xe_X12_fewest ct K R (n + 1) 115 ls st σ k = (lI ls 2 fun x => xk_X12_fewest ct K R n 116 ls (vi x :: st) σ k) ∧
  xe_X12_fewest ct K R (n + 1) 116 ls st σ k = (lR ls 0 fun x => xk_X12_fewest ct K R n 117 ls (vr x :: st) σ k) ∧
  xe_X12_fewest ct K R (n + 1) 117 ls st σ k = (oR st fun x st => kd σ x = 13 ∧ xk_X12_fewest ct K R n 120 ls (vi (fI σ 1332 x) :: st) σ k) ∧
  xe_X12_fewest ct K R (n + 1) 120 ls st σ k = (oI st fun y st => oI st fun x st => (wI y ≤ wI x → xk_X12_fewest ct K R n 235 ls st σ k) ∧ (¬ (wI y ≤ wI x) → xk_X12_fewest ct K R n 123 ls st σ k)) ∧
  xe_X12_fewest ct K R (n + 1) 123 ls st σ k = (lR ls 0 fun x => xk_X12_fewest ct K R n 124 ls (vr x :: st) σ k) ∧
  xe_X12_fewest ct K R (n + 1) 124 ls st σ k = (lI ls 2 fun x => xk_X12_fewest ct K R n 125 ls (vi x :: st) σ k) ∧
  xe_X12_fewest ct K R (n + 1) 125 ls st σ k = (popN 2 st [] fun av rest => (catS rest ≤ 8 ∧ 2 < 5 ∧ k.1 + 0 ≤ 0 ∧ k.2 + 0 ≤ 0) ∧ (sp_X12_isWithout) av σ fun v σ' => xk_X12_fewest ct K R n 128 ls (v.toList ++ rest) σ' (k.1 + 0, k.2 + 0)) ∧
  xe_X12_fewest ct K R (n + 1) 128 ls st σ k = (oI st fun x st => (¬ wI x = wI 0 → xk_X12_fewest ct K R n 134 ls st σ k) ∧ (¬ (¬ wI x = wI 0) → xk_X12_fewest ct K R n 131 ls st σ k)) ∧
  xe_X12_fewest ct K R (n + 1) 131 ls st σ k = (xk_X12_fewest ct K R n 229 ls st σ k) ∧
  xe_X12_fewest ct K R (n + 1) 134 ls st σ k = (lI ls 1 fun x => xk_X12_fewest ct K R n 135 ls (vi x :: st) σ k) ∧
  xe_X12_fewest ct K R (n + 1) 135 ls st σ k = (xk_X12_fewest ct K R n 136 ls (vi (1) :: st) σ k) ∧
  xe_X12_fewest ct K R (n + 1) 136 ls st σ k = (oI st fun y st => oI st fun x st => xk_X12_fewest ct K R n 137 ls (vi (x + y) :: st) σ k) ∧
  xe_X12_fewest ct K R (n + 1) 137 ls st σ k = (oI st fun x st => 3 < 5 ∧ xk_X12_fewest ct K R n 138 (stL ls 3 (vi x)) st σ k) ∧
  xe_X12_fewest ct K R (n + 1) 138 ls st σ k = (lI ls 3 fun x => xk_X12_fewest ct K R n 139 ls (vi x :: st) σ k) ∧
  xe_X12_fewest ct K R (n + 1) 139 ls st σ k = (lR ls 0 fun x => xk_X12_fewest ct K R n 140 ls (vr x :: st) σ k) ∧
  xe_X12_fewest ct K R (n + 1) 140 ls st σ k = (oR st fun x st => kd σ x = 13 ∧ xk_X12_fewest ct K R n 143 ls (vi (fI σ 1335 x) :: st) σ k) ∧
  xe_X12_fewest ct K R (n + 1) 143 ls st σ k = (oI st fun y st => oI st fun x st => (wI y ≤ wI x → xk_X12_fewest ct K R n 229 ls st σ k) ∧ (¬ (wI y ≤ wI x) → xk_X12_fewest ct K R n 146 ls st σ k)) ∧
  xe_X12_fewest ct K R (n + 1) 146 ls st σ k = (lR ls 0 fun x => xk_X12_fewest ct K R n 147 ls (vr x :: st) σ k) ∧
  xe_X12_fewest ct K R (n + 1) 147 ls st σ k = (lI ls 3 fun x => xk_X12_fewest ct K R n 148 ls (vi x :: st) σ k) ∧
  xe_X12_fewest ct K R (n + 1) 148 ls st σ k = (popN 2 st [] fun av rest => (catS rest ≤ 8 ∧ 1 < 5 ∧ k.1 + 0 ≤ 0 ∧ k.2 + 0 ≤ 0) ∧ (sp_X12_isEngineIn) av σ fun v σ' => xk_X12_fewest ct K R n 151 ls (v.toList ++ rest) σ' (k.1 + 0, k.2 + 0)) ∧
  xe_X12_fewest ct K R (n + 1) 151 ls st σ k = (oI st fun x st => (¬ wI x = wI 0 → xk_X12_fewest ct K R n 157 ls st σ k) ∧ (¬ (¬ wI x = wI 0) → xk_X12_fewest ct K R n 154 ls st σ k)) ∧
  xe_X12_fewest ct K R (n + 1) 154 ls st σ k = (xk_X12_fewest ct K R n 223 ls st σ k) ∧
  xe_X12_fewest ct K R (n + 1) 157 ls st σ k = (xk_X12_fewest ct K R n 158 ls (vi (0) :: st) σ k) ∧
  xe_X12_fewest ct K R (n + 1) 158 ls st σ k = (oI st fun x st => 4 < 5 ∧ xk_X12_fewest ct K R n 160 (stL ls 4 (vi x)) st σ k) ∧
  xe_X12_fewest ct K R (n + 1) 160 ls st σ k = (lI ls 4 fun x => xk_X12_fewest ct K R n 162 ls (vi x :: st) σ k) ∧
  xe_X12_fewest ct K R (n + 1) 162 ls st σ k = (lR ls 0 fun x => xk_X12_fewest ct K R n 163 ls (vr x :: st) σ k) ∧
  xe_X12_fewest ct K R (n + 1) 163 ls st σ k = (oR st fun x st => kd σ x = 13 ∧ xk_X12_fewest ct K R n 166 ls (vi (fI σ 1332 x) :: st) σ k) ∧
  xe_X12_fewest ct K R (n + 1) 166 ls st σ k = (oI st fun y st => oI st fun x st => (wI y ≤ wI x → xk_X12_fewest ct K R n 223 ls st σ k) ∧ (¬ (wI y ≤ wI x) → xk_X12_fewest ct K R n 169 ls st σ k)) ∧
  xe_X12_fewest ct K R (n + 1) 169 ls st σ k = (lI ls 4 fun x => xk_X12_fewest ct K R n 171 ls (vi x :: st) σ k) ∧
  xe_X12_fewest ct K R (n + 1) 171 ls st σ k = (lI ls 2 fun x => xk_X12_fewest ct K R n 172 ls (vi x :: st) σ k) ∧
  xe_X12_fewest ct K R (n + 1) 172 ls st σ k = (oI st fun y st => oI st fun x st => (wI x = wI y → xk_X12_fewest ct K R n 217 ls st σ k) ∧ (¬ (wI x = wI y) → xk_X12_fewest ct K R n 175 ls st σ k)) ∧
  xe_X12_fewest ct K R (n + 1) 175 ls st σ k = (lR ls 0 fun x => xk_X12_fewest ct K R n 176 ls (vr x :: st) σ k) ∧
  xe_X12_fewest ct K R (n + 1) 176 ls st σ k = (lI ls 4 fun x => xk_X12_fewest ct K R n 178 ls (vi x :: st) σ k) ∧
  xe_X12_fewest ct K R (n + 1) 178 ls st σ k = (popN 2 st [] fun av rest => (catS rest ≤ 8 ∧ 2 < 5 ∧ k.1 + 0 ≤ 0 ∧ k.2 + 0 ≤ 0) ∧ (sp_X12_isWithout) av σ fun v σ' => xk_X12_fewest ct K R n 181 ls (v.toList ++ rest) σ' (k.1 + 0, k.2 + 0)) ∧
  xe_X12_fewest ct K R (n + 1) 181 ls st σ k = (oI st fun x st => (¬ wI x = wI 0 → xk_X12_fewest ct K R n 187 ls st σ k) ∧ (¬ (¬ wI x = wI 0) → xk_X12_fewest ct K R n 184 ls st σ k)) ∧
  xe_X12_fewest ct K R (n + 1) 184 ls st σ k = (xk_X12_fewest ct K R n 217 ls st σ k) ∧
  xe_X12_fewest ct K R (n + 1) 187 ls st σ k = (lR ls 0 fun x => xk_X12_fewest ct K R n 188 ls (vr x :: st) σ k) ∧
  xe_X12_fewest ct K R (n + 1) 188 ls st σ k = (lI ls 1 fun x => xk_X12_fewest ct K R n 189 ls (vi x :: st) σ k) ∧
  xe_X12_fewest ct K R (n + 1) 189 ls st σ k = (oI st fun v st => oR st fun x st => kd σ x = 13 ∧ xk_X12_fewest ct K R n 192 ls st (pI σ 1384 x v) k) ∧
  xe_X12_fewest ct K R (n + 1) 192 ls st σ k = (lR ls 0 fun x => xk_X12_fewest ct K R n 193 ls (vr x :: st) σ k) ∧
  xe_X12_fewest ct K R (n + 1) 193 ls st σ k = (lI ls 2 fun x => xk_X12_fewest ct K R n 194 ls (vi x :: st) σ k) ∧
  xe_X12_fewest ct K R (n + 1) 194 ls st σ k = (oI st fun v st => oR st fun x st => kd σ x = 13 ∧ xk_X12_fewest ct K R n 197 ls st (pI σ 1385 x v) k) ∧
  xe_X12_fewest ct K R (n + 1) 197 ls st σ k = (lR ls 0 fun x => xk_X12_fewest ct K R n 198 ls (vr x :: st) σ k) ∧
  xe_X12_fewest ct K R (n + 1) 198 ls st σ k = (lI ls 3 fun x => xk_X12_fewest ct K R n 199 ls (vi x :: st) σ k) ∧
  xe_X12_fewest ct K R (n + 1) 199 ls st σ k = (oI st fun v st => oR st fun x st => kd σ x = 13 ∧ xk_X12_fewest ct K R n 202 ls st (pI σ 1386 x v) k) ∧
  xe_X12_fewest ct K R (n + 1) 202 ls st σ k = (lR ls 0 fun x => xk_X12_fewest ct K R n 203 ls (vr x :: st) σ k) ∧
  xe_X12_fewest ct K R (n + 1) 203 ls st σ k = (lI ls 4 fun x => xk_X12_fewest ct K R n 205 ls (vi x :: st) σ k) ∧
  xe_X12_fewest ct K R (n + 1) 205 ls st σ k = (oI st fun v st => oR st fun x st => kd σ x = 13 ∧ xk_X12_fewest ct K R n 208 ls st (pI σ 1387 x v) k) ∧
  xe_X12_fewest ct K R (n + 1) 208 ls st σ k = (lR ls 0 fun x => xk_X12_fewest ct K R n 209 ls (vr x :: st) σ k) ∧
  xe_X12_fewest ct K R (n + 1) 209 ls st σ k = (popN 1 st [] fun av rest => (catS rest ≤ 8 ∧ 4 < 5 ∧ k.1 + 0 ≤ 0 ∧ k.2 + 0 ≤ 0) ∧ (sp_X12_allCovered) av σ fun v σ' => xk_X12_fewest ct K R n 212 ls (v.toList ++ rest) σ' (k.1 + 0, k.2 + 0)) ∧
  xe_X12_fewest ct K R (n + 1) 212 ls st σ k = (oI st fun x st => (wI x = wI 0 → xk_X12_fewest ct K R n 217 ls st σ k) ∧ (¬ (wI x = wI 0) → xk_X12_fewest ct K R n 215 ls st σ k)) ∧
  xe_X12_fewest ct K R (n + 1) 215 ls st σ k = (xk_X12_fewest ct K R n 216 ls (vi (2) :: st) σ k) ∧
  xe_X12_fewest ct K R (n + 1) 216 ls st σ k = (oI st fun x st => st = [] ∧ True ∧ R (some (vi x)) σ) ∧
  xe_X12_fewest ct K R (n + 1) 217 ls st σ k = (lI ls 4 fun x => 4 < 5 ∧ xk_X12_fewest ct K R n 220 (stL ls 4 (vi (x + (1)))) st σ k) ∧
  xe_X12_fewest ct K R (n + 1) 220 ls st σ k = (xk_X12_fewest ct K R n 160 ls st σ k) ∧
  xe_X12_fewest ct K R (n + 1) 223 ls st σ k = (lI ls 3 fun x => 3 < 5 ∧ xk_X12_fewest ct K R n 226 (stL ls 3 (vi (x + (1)))) st σ k) ∧
  xe_X12_fewest ct K R (n + 1) 226 ls st σ k = (xk_X12_fewest ct K R n 138 ls st σ k) ∧
  xe_X12_fewest ct K R (n + 1) 229 ls st σ k = (lI ls 2 fun x => 2 < 5 ∧ xk_X12_fewest ct K R n 232 (stL ls 2 (vi (x + (1)))) st σ k) ∧
  xe_X12_fewest ct K R (n + 1) 232 ls st σ k = (xk_X12_fewest ct K R n 115 ls st σ k) ∧
  xe_X12_fewest ct K R (n + 1) 235 ls st σ k = (lI ls 1 fun x => 1 < 5 ∧ xk_X12_fewest ct K R n 238 (stL ls 1 (vi (x + (1)))) st σ k) ∧
  xe_X12_fewest ct K R (n + 1) 238 ls st σ k = (xk_X12_fewest ct K R n 94 ls st σ k) ∧
  xe_X12_fewest ct K R (n + 1) 241 ls st σ k = (xk_X12_fewest ct K R n 242 ls (vi (-1) :: st) σ k) ∧
  xe_X12_fewest ct K R (n + 1) 242 ls st σ k = (oI st fun x st => st = [] ∧ True ∧ R (some (vi x)) σ) :=
  ⟨exS_step.trans rfl, exS_step.trans rfl, exS_step.trans rfl, exS_step.trans rfl, exS_step.trans rfl, exS_step.trans rfl, exS_step.trans rfl, exS_step.trans rfl, exS_step.trans rfl, exS_step.trans rfl, exS_step.trans rfl, exS_step.trans rfl, exS_step.trans rfl, exS_step.trans rfl, exS_step.trans rfl, exS_step.trans rfl, exS_step.trans rfl, exS_step.trans rfl, exS_step.trans rfl, exS_step.trans rfl, exS_step.trans rfl, exS_step.trans rfl, exS_step.trans rfl, exS_step.trans rfl, exS_step.trans rfl, exS_step.trans rfl, exS_step.trans rfl, exS_step.trans rfl, exS_step.trans rfl, exS_step.trans rfl, exS_step.trans rfl, exS_step.trans rfl, exS_step.trans rfl, exS_step.trans rfl, exS_step.trans rfl, exS_step.trans rfl, exS_step.trans rfl, exS_step.trans rfl, exS_step.trans rfl, exS_step.trans rfl, exS_step.trans rfl, exS_step.trans rfl, exS_step.trans rfl, exS_step.trans rfl, exS_step.trans rfl, exS_step.trans rfl, exS_step.trans rfl, exS_step.trans rfl, exS_step.trans rfl, exS_step.trans rfl, exS_step.trans rfl, exS_step.trans rfl, exS_step.trans rfl, exS_step.trans rfl, exS_step.trans rfl, exS_step.trans rfl, exS_step.trans rfl, exS_step.trans rfl, exS_step.trans rfl, exS_step.trans rfl, exS_step.trans rfl, exS_step.trans rfl, exS_step.trans rfl, exS_step.trans rfl, exS_step.trans rfl, exS_step.trans rfl, exS_step.trans rfl, exS_step.trans rfl, exS_step.trans rfl, exS_step.trans rfl, exS_step.trans rfl, exS_step.trans rfl, exS_step.trans rfl, exS_step.trans rfl, exS_step.trans rfl, exS_step.trans rfl, exS_step.trans rfl, exS_step.trans rfl, exS_step.trans rfl, exS_step.trans rfl, exS_step.trans rfl, exS_step.trans rfl, exS_step.trans rfl, exS_step.trans rfl, exS_step.trans rfl, exS_step.trans rfl, exS_step.trans rfl, exS_step.trans rfl, exS_step.trans rfl, exS_step.trans rfl, exS_step.trans rfl, exS_step.trans rfl, exS_step.trans rfl, exS_step.trans rfl, exS_step.trans rfl, exS_step.trans rfl, exS_step.trans rfl, exS_step.trans rfl, exS_step.trans rfl, exS_step.trans rfl, exS_step.trans rfl, exS_step.trans rfl, exS_step.trans rfl, exS_step.trans rfl, exS_step.trans rfl, exS_step.trans rfl, exS_step.trans rfl, exS_step.trans rfl, exS_step.trans rfl, exS_step.trans rfl, exS_step.trans rfl, exS_step.trans rfl, exS_step.trans rfl, exS_step.trans rfl, exS_step.trans rfl, exS_step.trans rfl, exS_step.trans rfl, exS_step.trans rfl, exS_step.trans rfl, exS_step.trans rfl, exS_step.trans rfl, exS_step.trans rfl, exS_step.trans rfl, exS_step.trans rfl⟩
def M_X12_fewest : Md := (yX12_fewest, cX12_fewest, 5, (some FieldType.int), 5, 0, 0, 1, false, tb_X12_fewest, mt_X12_fewest)
theorem mm_X12_fewest : MMOK M_X12_fewest := ⟨by decide +kernel, tk_X12_fewest, mk_X12_fewest, rfl, fun h => by cases h⟩
theorem go_X12_fewest {Q : Option AV → Hp → Prop} {ct : Nat → Bool} {pc : Nat} {ls : List (Option AV)} {st : List AV} {σ : Hp} {k : Nat × Nat} (n : Nat) (h : xe_X12_fewest ct (Go M_X12_fewest Q) Q n pc ls st σ k) : Go M_X12_fewest Q pc ls st σ k := Go.exS mm_X12_fewest h

set_option maxRecDepth 20000 in
theorem few_42 {Q : Option AV → Hp → Prop} {σ : Hp} (hI : MI σ) (hk : kd σ 61 = 13) {c : Nat} (hc : (c : Int) < fI σ 1335 61) (he : mEng σ c) {x3 x4 : Option AV}
    (hq : ∀ u : Int, mP1 σ c u → (∀ u', u' < u → ¬ mP1 σ c u') → Q (some (vi 1)) (mv σ c u (-1) (fI σ 1387 61)))
    (hn : (∀ u, ¬ mP1 σ c u) → ∀ A a a2, (-1 ≤ A ∧ A ≤ 19) → (0 ≤ a ∧ a ≤ 11) → Go M_X12_fewest Q 21 [some (vr 61), some (vi (c + 1)), a2, x3, x4] [] (mv σ A a (-1) (fI σ 1387 61)) (0, 0)) :
    ∀ (n u : Nat) (A a : Int), (u : Int) + n = fI σ 1332 61 → (∀ u', u' < (u : Int) → ¬ mP1 σ c u') → (-1 ≤ A ∧ A ≤ 19) → (0 ≤ a ∧ a ≤ 11) → Go M_X12_fewest Q 42 [some (vr 61), some (vi c), some (vi u), x3, x4] [] (mv σ A a (-1) (fI σ 1387 61)) (0, 0) := by
  have h1 := hI.companies_s
  have h2 := hI.houses_s
  have h3 := hI.toB_s
  intro n
  induction n with
  | zero =>
    intro u A a hu hno r1 r2
    have hn := hn (fun u' q => by
      by_cases e : u' < u
      · exact hno u' e q
      · have := q.2.2.1.2
        omega) A a (some (vi u)) r1 r2
    refine go_X12_fewest (ct := fun p => p == 21 || p == 42 || p == 94 || p == 115 || p == 138 || p == 160) 40 ?_
    simp only [oI, oL, oR, o1, lI, lL, lR, popN, catS, gv, stL, stL2, swt, cnd, spObj, List.getElem?_cons_zero, List.getElem?_cons_succ, List.getD_cons_zero, List.getD_cons_succ, List.set_cons_zero, List.set_cons_succ, List.nil_append, List.cons_append, Option.toList, Bool.or_false, Bool.false_or, Bool.or_true, Bool.true_or, Nat.reduceBEq, Nat.reduceAdd, Nat.reduceLT, Nat.reduceLeDiff, Int.reduceAdd, Int.reduceToNat, true_and, and_true, Fin.isValue, Fin.val_zero, Fin.val_one, Fin.val_two, Fin.reduceFinMk, eq_self, Int.reduceNeg, imp_self, Nat.reduceMul, Nat.le_refl, not_true_eq_false, not_false_eq_true, List.getElem?_nil, reduceCtorEq, true_or, or_true, Classical.not_not, implies_true, or_self, wI_0, wI_1, wI_m1, b2i_w, b2i_eq0, b2i_eq1, b2i_bool, nor_self, nx_pI, kd_pI, ln_pI, fI_pI, fL_pI, fR_pI, aI_pI, aL_pI, aR_pI, nx_pL, kd_pL, ln_pL, fI_pL, fL_pL, fR_pL, aI_pL, aL_pL, aR_pL, nx_pR, kd_pR, ln_pR, fI_pR, fL_pR, fR_pR, aI_pR, aL_pR, aR_pR, nx_qI, kd_qI, ln_qI, fI_qI, fL_qI, fR_qI, aI_qI, aL_qI, aR_qI, nx_qL, kd_qL, ln_qL, fI_qL, fL_qL, fR_qL, aI_qL, aL_qL, aR_qL, nx_qR, kd_qR, ln_qR, fI_qR, fL_qR, fR_qR, aI_qR, aL_qR, aR_qR, nx_mk, kd_mk, ln_mk, fI_mk, fL_mk, fR_mk, aI_mk, aL_mk, aR_mk, false_and, and_false, if_false, if_true, and_self, Int.reduceEq, Nat.reduceEqDiff, ite_self, MLay_pI, MLay_pL, MLay_qI, MLay_qL, ev_X12_fewest, xt_X12_fewest, xf_X12_fewest, us_X12_allCovered, us_X12_isEngineIn, us_X12_isWithout, hk, kd_mv, co_mv, ho_mv]
    try simp (disch := omega) only [wI_id, dv_nn, rm_nn]
    exact ⟨fun _ => hn, fun z => absurd z (by omega)⟩
  | succ n ih =>
    intro u A a hu hno r1 r2
    have hM1 : MI (mv σ A a (-1) (fI σ 1387 61)) := MI_mv hI ⟨r1, r2, by omega, h3⟩
    have hM2 : MI (mv σ c u (-1) (fI σ 1387 61)) := MI_mv hI ⟨by omega, by omega, by omega, h3⟩
    have hr : inR (u : Int) := by unfold inR; omega
    have ih := fun (z : ¬ mP1 σ c u) A a r1 r2 => ih (u + 1) A a (by omega) (fun u' q => by
      by_cases e : u' = u
      · subst e; exact z
      · exact hno u' (by omega)) r1 r2
    refine go_X12_fewest (ct := fun p => p == 21 || p == 42 || p == 94 || p == 115 || p == 138 || p == 160) 40 ?_
    simp only [oI, oL, oR, o1, lI, lL, lR, popN, catS, gv, stL, stL2, swt, cnd, spObj, List.getElem?_cons_zero, List.getElem?_cons_succ, List.getD_cons_zero, List.getD_cons_succ, List.set_cons_zero, List.set_cons_succ, List.nil_append, List.cons_append, Option.toList, Bool.or_false, Bool.false_or, Bool.or_true, Bool.true_or, Nat.reduceBEq, Nat.reduceAdd, Nat.reduceLT, Nat.reduceLeDiff, Int.reduceAdd, Int.reduceToNat, true_and, and_true, Fin.isValue, Fin.val_zero, Fin.val_one, Fin.val_two, Fin.reduceFinMk, eq_self, Int.reduceNeg, imp_self, Nat.reduceMul, Nat.le_refl, not_true_eq_false, not_false_eq_true, List.getElem?_nil, reduceCtorEq, true_or, or_true, Classical.not_not, implies_true, or_self, wI_0, wI_1, wI_m1, b2i_w, b2i_eq0, b2i_eq1, b2i_bool, nor_self, nx_pI, kd_pI, ln_pI, fI_pI, fL_pI, fR_pI, aI_pI, aL_pI, aR_pI, nx_pL, kd_pL, ln_pL, fI_pL, fL_pL, fR_pL, aI_pL, aL_pL, aR_pL, nx_pR, kd_pR, ln_pR, fI_pR, fL_pR, fR_pR, aI_pR, aL_pR, aR_pR, nx_qI, kd_qI, ln_qI, fI_qI, fL_qI, fR_qI, aI_qI, aL_qI, aR_qI, nx_qL, kd_qL, ln_qL, fI_qL, fL_qL, fR_qL, aI_qL, aL_qL, aR_qL, nx_qR, kd_qR, ln_qR, fI_qR, fL_qR, fR_qR, aI_qR, aL_qR, aR_qR, nx_mk, kd_mk, ln_mk, fI_mk, fL_mk, fR_mk, aI_mk, aL_mk, aR_mk, false_and, and_false, if_false, if_true, and_self, Int.reduceEq, Nat.reduceEqDiff, ite_self, MLay_pI, MLay_pL, MLay_qI, MLay_qL, ev_X12_fewest, xt_X12_fewest, xf_X12_fewest, us_X12_allCovered, us_X12_isEngineIn, us_X12_isWithout, hk, kd_mv, co_mv, ho_mv, hM1, hM2, hr, mv_A, mv_a, mWo0_mv]
    try simp (disch := omega) only [wI_id, dv_nn, rm_nn]
    repeat' (first | intro z | apply And.intro)
    all_goals try omega
    · exact ih (fun q => absurd q.2.2.2.2 ‹_›) c u (by omega) (by omega)
    · exact hq u ⟨by omega, he, by omega, by assumption, by assumption⟩ hno
    · exact ih (fun q => absurd q.2.2.2.1 ‹_›) A a r1 r2

set_option maxRecDepth 20000 in
theorem few_21 {Q : Option AV → Hp → Prop} {σ : Hp} (hI : MI σ) (hk : kd σ 61 = 13) {x3 x4 : Option AV}
    (hq : ∀ c u : Int, mP1 σ c u → (∀ c' u', c' < c ∨ (c' = c ∧ u' < u) → ¬ mP1 σ c' u') → Q (some (vi 1)) (mv σ c u (-1) (fI σ 1387 61)))
    (hn : (∀ c u, ¬ mP1 σ c u) → ∀ A a a2, (-1 ≤ A ∧ A ≤ 19) → (0 ≤ a ∧ a ≤ 11) → Go M_X12_fewest Q 94 [some (vr 61), some (vi 0), a2, x3, x4] [] (mv σ A a (-1) (fI σ 1387 61)) (0, 0)) :
    ∀ (n c : Nat) (A a : Int) (a2 : Option AV), (c : Int) + n = fI σ 1335 61 → (∀ c' u', c' < (c : Int) → ¬ mP1 σ c' u') → (-1 ≤ A ∧ A ≤ 19) → (0 ≤ a ∧ a ≤ 11) → Go M_X12_fewest Q 21 [some (vr 61), some (vi c), a2, x3, x4] [] (mv σ A a (-1) (fI σ 1387 61)) (0, 0) := by
  have h1 := hI.companies_s
  have h2 := hI.houses_s
  have h3 := hI.toB_s
  intro n
  induction n with
  | zero =>
    intro c A a a2 hc hno r1 r2
    have hn := hn (fun c' u' q => by
      by_cases e : c' < c
      · exact hno c' u' e q
      · have := q.1.2
        omega) A a a2 r1 r2
    refine go_X12_fewest (ct := fun p => p == 21 || p == 42 || p == 94 || p == 115 || p == 138 || p == 160) 40 ?_
    simp only [oI, oL, oR, o1, lI, lL, lR, popN, catS, gv, stL, stL2, swt, cnd, spObj, List.getElem?_cons_zero, List.getElem?_cons_succ, List.getD_cons_zero, List.getD_cons_succ, List.set_cons_zero, List.set_cons_succ, List.nil_append, List.cons_append, Option.toList, Bool.or_false, Bool.false_or, Bool.or_true, Bool.true_or, Nat.reduceBEq, Nat.reduceAdd, Nat.reduceLT, Nat.reduceLeDiff, Int.reduceAdd, Int.reduceToNat, true_and, and_true, Fin.isValue, Fin.val_zero, Fin.val_one, Fin.val_two, Fin.reduceFinMk, eq_self, Int.reduceNeg, imp_self, Nat.reduceMul, Nat.le_refl, not_true_eq_false, not_false_eq_true, List.getElem?_nil, reduceCtorEq, true_or, or_true, Classical.not_not, implies_true, or_self, wI_0, wI_1, wI_m1, b2i_w, b2i_eq0, b2i_eq1, b2i_bool, nor_self, nx_pI, kd_pI, ln_pI, fI_pI, fL_pI, fR_pI, aI_pI, aL_pI, aR_pI, nx_pL, kd_pL, ln_pL, fI_pL, fL_pL, fR_pL, aI_pL, aL_pL, aR_pL, nx_pR, kd_pR, ln_pR, fI_pR, fL_pR, fR_pR, aI_pR, aL_pR, aR_pR, nx_qI, kd_qI, ln_qI, fI_qI, fL_qI, fR_qI, aI_qI, aL_qI, aR_qI, nx_qL, kd_qL, ln_qL, fI_qL, fL_qL, fR_qL, aI_qL, aL_qL, aR_qL, nx_qR, kd_qR, ln_qR, fI_qR, fL_qR, fR_qR, aI_qR, aL_qR, aR_qR, nx_mk, kd_mk, ln_mk, fI_mk, fL_mk, fR_mk, aI_mk, aL_mk, aR_mk, false_and, and_false, if_false, if_true, and_self, Int.reduceEq, Nat.reduceEqDiff, ite_self, MLay_pI, MLay_pL, MLay_qI, MLay_qL, ev_X12_fewest, xt_X12_fewest, xf_X12_fewest, us_X12_allCovered, us_X12_isEngineIn, us_X12_isWithout, hk, kd_mv, co_mv, ho_mv]
    try simp (disch := omega) only [wI_id, dv_nn, rm_nn]
    exact ⟨fun _ => hn, fun z => absurd z (by omega)⟩
  | succ n ih =>
    intro c A a a2 hc hno r1 r2
    have hM1 : MI (mv σ A a (-1) (fI σ 1387 61)) := MI_mv hI ⟨r1, r2, by omega, h3⟩
    have ih := fun (z : ∀ u, ¬ mP1 σ c u) A a a2 r1 r2 => ih (c + 1) A a a2 (by omega) (fun c' u' q => by
      by_cases e : c' = c
      · subst e; exact z u'
      · exact hno c' u' (by omega)) r1 r2
    refine go_X12_fewest (ct := fun p => p == 21 || p == 42 || p == 94 || p == 115 || p == 138 || p == 160) 40 ?_
    simp only [oI, oL, oR, o1, lI, lL, lR, popN, catS, gv, stL, stL2, swt, cnd, spObj, List.getElem?_cons_zero, List.getElem?_cons_succ, List.getD_cons_zero, List.getD_cons_succ, List.set_cons_zero, List.set_cons_succ, List.nil_append, List.cons_append, Option.toList, Bool.or_false, Bool.false_or, Bool.or_true, Bool.true_or, Nat.reduceBEq, Nat.reduceAdd, Nat.reduceLT, Nat.reduceLeDiff, Int.reduceAdd, Int.reduceToNat, true_and, and_true, Fin.isValue, Fin.val_zero, Fin.val_one, Fin.val_two, Fin.reduceFinMk, eq_self, Int.reduceNeg, imp_self, Nat.reduceMul, Nat.le_refl, not_true_eq_false, not_false_eq_true, List.getElem?_nil, reduceCtorEq, true_or, or_true, Classical.not_not, implies_true, or_self, wI_0, wI_1, wI_m1, b2i_w, b2i_eq0, b2i_eq1, b2i_bool, nor_self, nx_pI, kd_pI, ln_pI, fI_pI, fL_pI, fR_pI, aI_pI, aL_pI, aR_pI, nx_pL, kd_pL, ln_pL, fI_pL, fL_pL, fR_pL, aI_pL, aL_pL, aR_pL, nx_pR, kd_pR, ln_pR, fI_pR, fL_pR, fR_pR, aI_pR, aL_pR, aR_pR, nx_qI, kd_qI, ln_qI, fI_qI, fL_qI, fR_qI, aI_qI, aL_qI, aR_qI, nx_qL, kd_qL, ln_qL, fI_qL, fL_qL, fR_qL, aI_qL, aL_qL, aR_qL, nx_qR, kd_qR, ln_qR, fI_qR, fL_qR, fR_qR, aI_qR, aL_qR, aR_qR, nx_mk, kd_mk, ln_mk, fI_mk, fL_mk, fR_mk, aI_mk, aL_mk, aR_mk, false_and, and_false, if_false, if_true, and_self, Int.reduceEq, Nat.reduceEqDiff, ite_self, MLay_pI, MLay_pL, MLay_qI, MLay_qL, ev_X12_fewest, xt_X12_fewest, xf_X12_fewest, us_X12_allCovered, us_X12_isEngineIn, us_X12_isWithout, hk, kd_mv, co_mv, ho_mv, hM1, mEng_mv]
    try simp (disch := omega) only [wI_id, dv_nn, rm_nn]
    repeat' (first | intro z | apply And.intro)
    all_goals try omega
    · refine few_42 hI hk (by omega) ‹_› (fun u q1 q2 => hq c u q1 fun c' u' q3 => ?_) (fun z A a a2 r1 r2 => ih z A a a2 r1 r2) (fI σ 1332 61).toNat 0 A a (by omega) (fun u' q q2 => by have := q2.2.2.1.1; omega) r1 r2
      rcases q3 with q3 | ⟨q3, q4⟩
      · exact hno c' u' q3
      · rw [q3]; exact q2 u' q4
    · exact ih (fun u q => absurd q.2.1 ‹_›) A a a2 r1 r2

set_option maxRecDepth 20000 in
theorem few_160 {Q : Option AV → Hp → Prop} {σ : Hp} (hI : MI σ) (hk : kd σ 61 = 13) {c u d : Nat} (hcd : c < d) (hd : (d : Int) < fI σ 1335 61) (he : mEng σ c) (hu : (u : Int) < fI σ 1332 61) (hw : mWo0 σ u) (he2 : mEng σ d)
    (hq : ∀ g : Int, mP2 σ c u d g → (∀ g', g' < g → ¬ mP2 σ c u d g') → Q (some (vi 2)) (mv σ c u d g))
    (hn : (∀ g, ¬ mP2 σ c u d g) → ∀ A a B b a4, mR A a B b → Go M_X12_fewest Q 138 [some (vr 61), some (vi c), some (vi u), some (vi (d + 1)), a4] [] (mv σ A a B b) (0, 0)) :
    ∀ (n g : Nat) (A a B b : Int), (g : Int) + n = fI σ 1332 61 → (∀ g', g' < (g : Int) → ¬ mP2 σ c u d g') → mR A a B b → Go M_X12_fewest Q 160 [some (vr 61), some (vi c), some (vi u), some (vi d), some (vi g)] [] (mv σ A a B b) (0, 0) := by
  have h1 := hI.companies_s
  have h2 := hI.houses_s
  intro n
  induction n with
  | zero =>
    intro g A a B b hg hno r
    have hn := hn (fun g' q => by
      by_cases e : g' < g
      · exact hno g' e q
      · have := q.2.2.2.2.2.1.2
        omega) A a B b (some (vi g)) r
    refine go_X12_fewest (ct := fun p => p == 21 || p == 42 || p == 94 || p == 115 || p == 138 || p == 160) 40 ?_
    simp only [oI, oL, oR, o1, lI, lL, lR, popN, catS, gv, stL, stL2, swt, cnd, spObj, List.getElem?_cons_zero, List.getElem?_cons_succ, List.getD_cons_zero, List.getD_cons_succ, List.set_cons_zero, List.set_cons_succ, List.nil_append, List.cons_append, Option.toList, Bool.or_false, Bool.false_or, Bool.or_true, Bool.true_or, Nat.reduceBEq, Nat.reduceAdd, Nat.reduceLT, Nat.reduceLeDiff, Int.reduceAdd, Int.reduceToNat, true_and, and_true, Fin.isValue, Fin.val_zero, Fin.val_one, Fin.val_two, Fin.reduceFinMk, eq_self, Int.reduceNeg, imp_self, Nat.reduceMul, Nat.le_refl, not_true_eq_false, not_false_eq_true, List.getElem?_nil, reduceCtorEq, true_or, or_true, Classical.not_not, implies_true, or_self, wI_0, wI_1, wI_m1, b2i_w, b2i_eq0, b2i_eq1, b2i_bool, nor_self, nx_pI, kd_pI, ln_pI, fI_pI, fL_pI, fR_pI, aI_pI, aL_pI, aR_pI, nx_pL, kd_pL, ln_pL, fI_pL, fL_pL, fR_pL, aI_pL, aL_pL, aR_pL, nx_pR, kd_pR, ln_pR, fI_pR, fL_pR, fR_pR, aI_pR, aL_pR, aR_pR, nx_qI, kd_qI, ln_qI, fI_qI, fL_qI, fR_qI, aI_qI, aL_qI, aR_qI, nx_qL, kd_qL, ln_qL, fI_qL, fL_qL, fR_qL, aI_qL, aL_qL, aR_qL, nx_qR, kd_qR, ln_qR, fI_qR, fL_qR, fR_qR, aI_qR, aL_qR, aR_qR, nx_mk, kd_mk, ln_mk, fI_mk, fL_mk, fR_mk, aI_mk, aL_mk, aR_mk, false_and, and_false, if_false, if_true, and_self, Int.reduceEq, Nat.reduceEqDiff, ite_self, MLay_pI, MLay_pL, MLay_qI, MLay_qL, ev_X12_fewest, xt_X12_fewest, xf_X12_fewest, us_X12_allCovered, us_X12_isEngineIn, us_X12_isWithout, hk, kd_mv, co_mv, ho_mv]
    try simp (disch := omega) only [wI_id, dv_nn, rm_nn]
    exact ⟨fun _ => hn, fun z => absurd z (by omega)⟩
  | succ n ih =>
    intro g A a B b hg hno r
    have hM1 : MI (mv σ A a B b) := MI_mv hI r
    have r2 : mR c u d g := ⟨by omega, by omega, by omega, by omega⟩
    have hM2 : MI (mv σ c u d g) := MI_mv hI r2
    have hr : inR (g : Int) := by unfold inR; omega
    have ih := fun (z : ¬ mP2 σ c u d g) A a B b r => ih (g + 1) A a B b (by omega) (fun g' q => by
      by_cases e : g' = g
      · subst e; exact z
      · exact hno g' (by omega)) r
    refine go_X12_fewest (ct := fun p => p == 21 || p == 42 || p == 94 || p == 115 || p == 138 || p == 160) 40 ?_
    simp only [oI, oL, oR, o1, lI, lL, lR, popN, catS, gv, stL, stL2, swt, cnd, spObj, List.getElem?_cons_zero, List.getElem?_cons_succ, List.getD_cons_zero, List.getD_cons_succ, List.set_cons_zero, List.set_cons_succ, List.nil_append, List.cons_append, Option.toList, Bool.or_false, Bool.false_or, Bool.or_true, Bool.true_or, Nat.reduceBEq, Nat.reduceAdd, Nat.reduceLT, Nat.reduceLeDiff, Int.reduceAdd, Int.reduceToNat, true_and, and_true, Fin.isValue, Fin.val_zero, Fin.val_one, Fin.val_two, Fin.reduceFinMk, eq_self, Int.reduceNeg, imp_self, Nat.reduceMul, Nat.le_refl, not_true_eq_false, not_false_eq_true, List.getElem?_nil, reduceCtorEq, true_or, or_true, Classical.not_not, implies_true, or_self, wI_0, wI_1, wI_m1, b2i_w, b2i_eq0, b2i_eq1, b2i_bool, nor_self, nx_pI, kd_pI, ln_pI, fI_pI, fL_pI, fR_pI, aI_pI, aL_pI, aR_pI, nx_pL, kd_pL, ln_pL, fI_pL, fL_pL, fR_pL, aI_pL, aL_pL, aR_pL, nx_pR, kd_pR, ln_pR, fI_pR, fL_pR, fR_pR, aI_pR, aL_pR, aR_pR, nx_qI, kd_qI, ln_qI, fI_qI, fL_qI, fR_qI, aI_qI, aL_qI, aR_qI, nx_qL, kd_qL, ln_qL, fI_qL, fL_qL, fR_qL, aI_qL, aL_qL, aR_qL, nx_qR, kd_qR, ln_qR, fI_qR, fL_qR, fR_qR, aI_qR, aL_qR, aR_qR, nx_mk, kd_mk, ln_mk, fI_mk, fL_mk, fR_mk, aI_mk, aL_mk, aR_mk, false_and, and_false, if_false, if_true, and_self, Int.reduceEq, Nat.reduceEqDiff, ite_self, MLay_pI, MLay_pL, MLay_qI, MLay_qL, ev_X12_fewest, xt_X12_fewest, xf_X12_fewest, us_X12_allCovered, us_X12_isEngineIn, us_X12_isWithout, hk, kd_mv, co_mv, ho_mv, hM1, hM2, hr, mv_A, mv_a, mv_B, mv_b, mWo0_mv]
    try simp (disch := omega) only [wI_id, dv_nn, rm_nn]
    repeat' (first | intro z | apply And.intro)
    all_goals try omega
    all_goals first
      | exact ih (fun q => absurd q.2.2.2.2.2.2.2.1 ‹_›) A a B b r
      | exact ih (fun q => absurd q.2.2.2.2.2.2.2.2 ‹_›) c u d g r2
      | exact ih (fun q => q.2.2.2.2.2.2.1 (by omega)) A a B b r
      | exact hq g ⟨by omega, he, by omega, hw, he2, by omega, by omega, by assumption, by assumption⟩ hno

set_option maxRecDepth 20000 in
theorem few_138 {Q : Option AV → Hp → Prop} {σ : Hp} (hI : MI σ) (hk : kd σ 61 = 13) {c u : Nat} (hc : (c : Int) < fI σ 1335 61) (he : mEng σ c) (hu : (u : Int) < fI σ 1332 61) (hw : mWo0 σ u)
    (hq : ∀ d g : Int, mP2 σ c u d g → (∀ d' g', d' < d ∨ (d' = d ∧ g' < g) → ¬ mP2 σ c u d' g') → Q (some (vi 2)) (mv σ c u d g))
    (hn : (∀ d g, ¬ mP2 σ c u d g) → ∀ A a B b a3 a4, mR A a B b → Go M_X12_fewest Q 115 [some (vr 61), some (vi c), some (vi (u + 1)), a3, a4] [] (mv σ A a B b) (0, 0)) :
    ∀ (n d : Nat) (A a B b : Int) (a4 : Option AV), (d : Int) + n = fI σ 1335 61 → c < d → (∀ d' g', d' < (d : Int) → ¬ mP2 σ c u d' g') → mR A a B b → Go M_X12_fewest Q 138 [some (vr 61), some (vi c), some (vi u), some (vi d), a4] [] (mv σ A a B b) (0, 0) := by
  have h1 := hI.companies_s
  have h2 := hI.houses_s
  intro n
  induction n with
  | zero =>
    intro d A a B b a4 hd hcd hno r
    have hn := hn (fun d' g' q => by
      by_cases e : d' < d
      · exact hno d' g' e q
      · have := q.1.2.2
        omega) A a B b (some (vi d)) a4 r
    refine go_X12_fewest (ct := fun p => p == 21 || p == 42 || p == 94 || p == 115 || p == 138 || p == 160) 40 ?_
    simp only [oI, oL, oR, o1, lI, lL, lR, popN, catS, gv, stL, stL2, swt, cnd, spObj, List.getElem?_cons_zero, List.getElem?_cons_succ, List.getD_cons_zero, List.getD_cons_succ, List.set_cons_zero, List.set_cons_succ, List.nil_append, List.cons_append, Option.toList, Bool.or_false, Bool.false_or, Bool.or_true, Bool.true_or, Nat.reduceBEq, Nat.reduceAdd, Nat.reduceLT, Nat.reduceLeDiff, Int.reduceAdd, Int.reduceToNat, true_and, and_true, Fin.isValue, Fin.val_zero, Fin.val_one, Fin.val_two, Fin.reduceFinMk, eq_self, Int.reduceNeg, imp_self, Nat.reduceMul, Nat.le_refl, not_true_eq_false, not_false_eq_true, List.getElem?_nil, reduceCtorEq, true_or, or_true, Classical.not_not, implies_true, or_self, wI_0, wI_1, wI_m1, b2i_w, b2i_eq0, b2i_eq1, b2i_bool, nor_self, nx_pI, kd_pI, ln_pI, fI_pI, fL_pI, fR_pI, aI_pI, aL_pI, aR_pI, nx_pL, kd_pL, ln_pL, fI_pL, fL_pL, fR_pL, aI_pL, aL_pL, aR_pL, nx_pR, kd_pR, ln_pR, fI_pR, fL_pR, fR_pR, aI_pR, aL_pR, aR_pR, nx_qI, kd_qI, ln_qI, fI_qI, fL_qI, fR_qI, aI_qI, aL_qI, aR_qI, nx_qL, kd_qL, ln_qL, fI_qL, fL_qL, fR_qL, aI_qL, aL_qL, aR_qL, nx_qR, kd_qR, ln_qR, fI_qR, fL_qR, fR_qR, aI_qR, aL_qR, aR_qR, nx_mk, kd_mk, ln_mk, fI_mk, fL_mk, fR_mk, aI_mk, aL_mk, aR_mk, false_and, and_false, if_false, if_true, and_self, Int.reduceEq, Nat.reduceEqDiff, ite_self, MLay_pI, MLay_pL, MLay_qI, MLay_qL, ev_X12_fewest, xt_X12_fewest, xf_X12_fewest, us_X12_allCovered, us_X12_isEngineIn, us_X12_isWithout, hk, kd_mv, co_mv, ho_mv]
    try simp (disch := omega) only [wI_id, dv_nn, rm_nn]
    exact ⟨fun _ => hn, fun z => absurd z (by omega)⟩
  | succ n ih =>
    intro d A a B b a4 hd hcd hno r
    have hM1 : MI (mv σ A a B b) := MI_mv hI r
    have ih := fun (z : ∀ g, ¬ mP2 σ c u d g) A a B b a4 r => ih (d + 1) A a B b a4 (by omega) (by omega) (fun d' g' q => by
      by_cases e : d' = d
      · subst e; exact z g'
      · exact hno d' g' (by omega)) r
    refine go_X12_fewest (ct := fun p => p == 21 || p == 42 || p == 94 || p == 115 || p == 138 || p == 160) 40 ?_
    simp only [oI, oL, oR, o1, lI, lL, lR, popN, catS, gv, stL, stL2, swt, cnd, spObj, List.getElem?_cons_zero, List.getElem?_cons_succ, List.getD_cons_zero, List.getD_cons_succ, List.set_cons_zero, List.set_cons_succ, List.nil_append, List.cons_append, Option.toList, Bool.or_false, Bool.false_or, Bool.or_true, Bool.true_or, Nat.reduceBEq, Nat.reduceAdd, Nat.reduceLT, Nat.reduceLeDiff, Int.reduceAdd, Int.reduceToNat, true_and, and_true, Fin.isValue, Fin.val_zero, Fin.val_one, Fin.val_two, Fin.reduceFinMk, eq_self, Int.reduceNeg, imp_self, Nat.reduceMul, Nat.le_refl, not_true_eq_false, not_false_eq_true, List.getElem?_nil, reduceCtorEq, true_or, or_true, Classical.not_not, implies_true, or_self, wI_0, wI_1, wI_m1, b2i_w, b2i_eq0, b2i_eq1, b2i_bool, nor_self, nx_pI, kd_pI, ln_pI, fI_pI, fL_pI, fR_pI, aI_pI, aL_pI, aR_pI, nx_pL, kd_pL, ln_pL, fI_pL, fL_pL, fR_pL, aI_pL, aL_pL, aR_pL, nx_pR, kd_pR, ln_pR, fI_pR, fL_pR, fR_pR, aI_pR, aL_pR, aR_pR, nx_qI, kd_qI, ln_qI, fI_qI, fL_qI, fR_qI, aI_qI, aL_qI, aR_qI, nx_qL, kd_qL, ln_qL, fI_qL, fL_qL, fR_qL, aI_qL, aL_qL, aR_qL, nx_qR, kd_qR, ln_qR, fI_qR, fL_qR, fR_qR, aI_qR, aL_qR, aR_qR, nx_mk, kd_mk, ln_mk, fI_mk, fL_mk, fR_mk, aI_mk, aL_mk, aR_mk, false_and, and_false, if_false, if_true, and_self, Int.reduceEq, Nat.reduceEqDiff, ite_self, MLay_pI, MLay_pL, MLay_qI, MLay_qL, ev_X12_fewest, xt_X12_fewest, xf_X12_fewest, us_X12_allCovered, us_X12_isEngineIn, us_X12_isWithout, hk, kd_mv, co_mv, ho_mv, hM1, mEng_mv]
    try simp (disch := omega) only [wI_id, dv_nn, rm_nn]
    repeat' (first | intro z | apply And.intro)
    all_goals try omega
    · refine few_160 hI hk hcd (by omega) he hu hw ‹_› (fun g q1 q2 => hq d g q1 fun d' g' q3 => ?_) (fun z A a B b a4 r => ih z A a B b a4 r) (fI σ 1332 61).toNat 0 A a B b (by omega) (fun g' q q2 => by have := q2.2.2.2.2.2.1.1; omega) r
      rcases q3 with q3 | ⟨q3, q4⟩
      · exact hno d' g' q3
      · rw [q3]; exact q2 g' q4
    · exact ih (fun g q => absurd q.2.2.2.2.1 ‹_›) A a B b a4 r

set_option maxRecDepth 20000 in
theorem few_115 {Q : Option AV → Hp → Prop} {σ : Hp} (hI : MI σ) (hk : kd σ 61 = 13) {c : Nat} (hc : (c : Int) < fI σ 1335 61) (he : mEng σ c)
    (hq : ∀ u d g : Int, mP2 σ c u d g → (∀ u' d' g', u' < u ∨ (u' = u ∧ (d' < d ∨ (d' = d ∧ g' < g))) → ¬ mP2 σ c u' d' g') → Q (some (vi 2)) (mv σ c u d g))
    (hn : (∀ u d g, ¬ mP2 σ c u d g) → ∀ A a B b a2 a3 a4, mR A a B b → Go M_X12_fewest Q 94 [some (vr 61), some (vi (c + 1)), a2, a3, a4] [] (mv σ A a B b) (0, 0)) :
    ∀ (n u : Nat) (A a B b : Int) (a3 a4 : Option AV), (u : Int) + n = fI σ 1332 61 → (∀ u' d' g', u' < (u : Int) → ¬ mP2 σ c u' d' g') → mR A a B b → Go M_X12_fewest Q 115 [some (vr 61), some (vi c), some (vi u), a3, a4] [] (mv σ A a B b) (0, 0) := by
  have h1 := hI.companies_s
  have h2 := hI.houses_s
  intro n
  induction n with
  | zero =>
    intro u A a B b a3 a4 hu hno r
    have hn := hn (fun u' d' g' q => by
      by_cases e : u' < u
      · exact hno u' d' g' e q
      · have := q.2.2.1.2
        omega) A a B b (some (vi u)) a3 a4 r
    refine go_X12_fewest (ct := fun p => p == 21 || p == 42 || p == 94 || p == 115 || p == 138 || p == 160) 40 ?_
    simp only [oI, oL, oR, o1, lI, lL, lR, popN, catS, gv, stL, stL2, swt, cnd, spObj, List.getElem?_cons_zero, List.getElem?_cons_succ, List.getD_cons_zero, List.getD_cons_succ, List.set_cons_zero, List.set_cons_succ, List.nil_append, List.cons_append, Option.toList, Bool.or_false, Bool.false_or, Bool.or_true, Bool.true_or, Nat.reduceBEq, Nat.reduceAdd, Nat.reduceLT, Nat.reduceLeDiff, Int.reduceAdd, Int.reduceToNat, true_and, and_true, Fin.isValue, Fin.val_zero, Fin.val_one, Fin.val_two, Fin.reduceFinMk, eq_self, Int.reduceNeg, imp_self, Nat.reduceMul, Nat.le_refl, not_true_eq_false, not_false_eq_true, List.getElem?_nil, reduceCtorEq, true_or, or_true, Classical.not_not, implies_true, or_self, wI_0, wI_1, wI_m1, b2i_w, b2i_eq0, b2i_eq1, b2i_bool, nor_self, nx_pI, kd_pI, ln_pI, fI_pI, fL_pI, fR_pI, aI_pI, aL_pI, aR_pI, nx_pL, kd_pL, ln_pL, fI_pL, fL_pL, fR_pL, aI_pL, aL_pL, aR_pL, nx_pR, kd_pR, ln_pR, fI_pR, fL_pR, fR_pR, aI_pR, aL_pR, aR_pR, nx_qI, kd_qI, ln_qI, fI_qI, fL_qI, fR_qI, aI_qI, aL_qI, aR_qI, nx_qL, kd_qL, ln_qL, fI_qL, fL_qL, fR_qL, aI_qL, aL_qL, aR_qL, nx_qR, kd_qR, ln_qR, fI_qR, fL_qR, fR_qR, aI_qR, aL_qR, aR_qR, nx_mk, kd_mk, ln_mk, fI_mk, fL_mk, fR_mk, aI_mk, aL_mk, aR_mk, false_and, and_false, if_false, if_true, and_self, Int.reduceEq, Nat.reduceEqDiff, ite_self, MLay_pI, MLay_pL, MLay_qI, MLay_qL, ev_X12_fewest, xt_X12_fewest, xf_X12_fewest, us_X12_allCovered, us_X12_isEngineIn, us_X12_isWithout, hk, kd_mv, co_mv, ho_mv]
    try simp (disch := omega) only [wI_id, dv_nn, rm_nn]
    exact ⟨fun _ => hn, fun z => absurd z (by omega)⟩
  | succ n ih =>
    intro u A a B b a3 a4 hu hno r
    have hM1 : MI (mv σ A a B b) := MI_mv hI r
    have hr : inR (u : Int) := by unfold inR; omega
    have ih := fun (z : ∀ d g, ¬ mP2 σ c u d g) A a B b a3 a4 r => ih (u + 1) A a B b a3 a4 (by omega) (fun u' d' g' q => by
      by_cases e : u' = u
      · subst e; exact z d' g'
      · exact hno u' d' g' (by omega)) r
    refine go_X12_fewest (ct := fun p => p == 21 || p == 42 || p == 94 || p == 115 || p == 138 || p == 160) 40 ?_
    simp only [oI, oL, oR, o1, lI, lL, lR, popN, catS, gv, stL, stL2, swt, cnd, spObj, List.getElem?_cons_zero, List.getElem?_cons_succ, List.getD_cons_zero, List.getD_cons_succ, List.set_cons_zero, List.set_cons_succ, List.nil_append, List.cons_append, Option.toList, Bool.or_false, Bool.false_or, Bool.or_true, Bool.true_or, Nat.reduceBEq, Nat.reduceAdd, Nat.reduceLT, Nat.reduceLeDiff, Int.reduceAdd, Int.reduceToNat, true_and, and_true, Fin.isValue, Fin.val_zero, Fin.val_one, Fin.val_two, Fin.reduceFinMk, eq_self, Int.reduceNeg, imp_self, Nat.reduceMul, Nat.le_refl, not_true_eq_false, not_false_eq_true, List.getElem?_nil, reduceCtorEq, true_or, or_true, Classical.not_not, implies_true, or_self, wI_0, wI_1, wI_m1, b2i_w, b2i_eq0, b2i_eq1, b2i_bool, nor_self, nx_pI, kd_pI, ln_pI, fI_pI, fL_pI, fR_pI, aI_pI, aL_pI, aR_pI, nx_pL, kd_pL, ln_pL, fI_pL, fL_pL, fR_pL, aI_pL, aL_pL, aR_pL, nx_pR, kd_pR, ln_pR, fI_pR, fL_pR, fR_pR, aI_pR, aL_pR, aR_pR, nx_qI, kd_qI, ln_qI, fI_qI, fL_qI, fR_qI, aI_qI, aL_qI, aR_qI, nx_qL, kd_qL, ln_qL, fI_qL, fL_qL, fR_qL, aI_qL, aL_qL, aR_qL, nx_qR, kd_qR, ln_qR, fI_qR, fL_qR, fR_qR, aI_qR, aL_qR, aR_qR, nx_mk, kd_mk, ln_mk, fI_mk, fL_mk, fR_mk, aI_mk, aL_mk, aR_mk, false_and, and_false, if_false, if_true, and_self, Int.reduceEq, Nat.reduceEqDiff, ite_self, MLay_pI, MLay_pL, MLay_qI, MLay_qL, ev_X12_fewest, xt_X12_fewest, xf_X12_fewest, us_X12_allCovered, us_X12_isEngineIn, us_X12_isWithout, hk, kd_mv, co_mv, ho_mv, hM1, hr, mWo0_mv]
    try simp (disch := omega) only [wI_id, dv_nn, rm_nn]
    repeat' (first | intro z | apply And.intro)
    all_goals try omega
    · have w := few_138 hI hk hc he (by omega) ‹mWo0 σ u› (fun d g q1 q2 => hq u d g q1 fun u' d' g' q3 => by
        rcases q3 with q3 | ⟨q3, q4⟩
        · exact hno u' d' g' q3
        · rw [q3]; exact q2 d' g' q4) (fun z A a B b a3 a4 r => ih z A a B b a3 a4 r) (fI σ 1335 61 - c - 1).toNat (c + 1) A a B b a4 (by omega) (by omega) (fun d' g' q q2 => by have := q2.1.2.1; omega) r
      exact w
    · exact ih (fun d g q => absurd q.2.2.2.1 ‹_›) A a B b a3 a4 r

set_option maxRecDepth 20000 in
theorem few_94 {Q : Option AV → Hp → Prop} {σ : Hp} (hI : MI σ) (hk : kd σ 61 = 13)
    (hq : ∀ c u d g : Int, mP2 σ c u d g → (∀ c' u' d' g', c' < c ∨ (c' = c ∧ (u' < u ∨ (u' = u ∧ (d' < d ∨ (d' = d ∧ g' < g))))) → ¬ mP2 σ c' u' d' g') → Q (some (vi 2)) (mv σ c u d g))
    (hn : (∀ c u d g, ¬ mP2 σ c u d g) → ∀ A a B b, mR A a B b → Q (some (vi (-1))) (mv σ A a B b)) :
    ∀ (n c : Nat) (A a B b : Int) (a2 a3 a4 : Option AV), (c : Int) + n = fI σ 1335 61 → (∀ c' u' d' g', c' < (c : Int) → ¬ mP2 σ c' u' d' g') → mR A a B b → Go M_X12_fewest Q 94 [some (vr 61), some (vi c), a2, a3, a4] [] (mv σ A a B b) (0, 0) := by
  have h1 := hI.companies_s
  have h2 := hI.houses_s
  intro n
  induction n with
  | zero =>
    intro c A a B b a2 a3 a4 hc hno r
    have hn := hn (fun c' u' d' g' q => by
      by_cases e : c' < c
      · exact hno c' u' d' g' e q
      · have := q.1
        omega) A a B b r
    refine go_X12_fewest (ct := fun p => p == 21 || p == 42 || p == 94 || p == 115 || p == 138 || p == 160) 40 ?_
    simp only [oI, oL, oR, o1, lI, lL, lR, popN, catS, gv, stL, stL2, swt, cnd, spObj, List.getElem?_cons_zero, List.getElem?_cons_succ, List.getD_cons_zero, List.getD_cons_succ, List.set_cons_zero, List.set_cons_succ, List.nil_append, List.cons_append, Option.toList, Bool.or_false, Bool.false_or, Bool.or_true, Bool.true_or, Nat.reduceBEq, Nat.reduceAdd, Nat.reduceLT, Nat.reduceLeDiff, Int.reduceAdd, Int.reduceToNat, true_and, and_true, Fin.isValue, Fin.val_zero, Fin.val_one, Fin.val_two, Fin.reduceFinMk, eq_self, Int.reduceNeg, imp_self, Nat.reduceMul, Nat.le_refl, not_true_eq_false, not_false_eq_true, List.getElem?_nil, reduceCtorEq, true_or, or_true, Classical.not_not, implies_true, or_self, wI_0, wI_1, wI_m1, b2i_w, b2i_eq0, b2i_eq1, b2i_bool, nor_self, nx_pI, kd_pI, ln_pI, fI_pI, fL_pI, fR_pI, aI_pI, aL_pI, aR_pI, nx_pL, kd_pL, ln_pL, fI_pL, fL_pL, fR_pL, aI_pL, aL_pL, aR_pL, nx_pR, kd_pR, ln_pR, fI_pR, fL_pR, fR_pR, aI_pR, aL_pR, aR_pR, nx_qI, kd_qI, ln_qI, fI_qI, fL_qI, fR_qI, aI_qI, aL_qI, aR_qI, nx_qL, kd_qL, ln_qL, fI_qL, fL_qL, fR_qL, aI_qL, aL_qL, aR_qL, nx_qR, kd_qR, ln_qR, fI_qR, fL_qR, fR_qR, aI_qR, aL_qR, aR_qR, nx_mk, kd_mk, ln_mk, fI_mk, fL_mk, fR_mk, aI_mk, aL_mk, aR_mk, false_and, and_false, if_false, if_true, and_self, Int.reduceEq, Nat.reduceEqDiff, ite_self, MLay_pI, MLay_pL, MLay_qI, MLay_qL, ev_X12_fewest, xt_X12_fewest, xf_X12_fewest, us_X12_allCovered, us_X12_isEngineIn, us_X12_isWithout, hk, kd_mv, co_mv, ho_mv]
    try simp (disch := omega) only [wI_id, dv_nn, rm_nn]
    exact ⟨fun _ => hn, fun z => absurd z (by omega)⟩
  | succ n ih =>
    intro c A a B b a2 a3 a4 hc hno r
    have hM1 : MI (mv σ A a B b) := MI_mv hI r
    have ih := fun (z : ∀ u d g, ¬ mP2 σ c u d g) A a B b a2 a3 a4 r => ih (c + 1) A a B b a2 a3 a4 (by omega) (fun c' u' d' g' q => by
      by_cases e : c' = c
      · subst e; exact z u' d' g'
      · exact hno c' u' d' g' (by omega)) r
    refine go_X12_fewest (ct := fun p => p == 21 || p == 42 || p == 94 || p == 115 || p == 138 || p == 160) 40 ?_
    simp only [oI, oL, oR, o1, lI, lL, lR, popN, catS, gv, stL, stL2, swt, cnd, spObj, List.getElem?_cons_zero, List.getElem?_cons_succ, List.getD_cons_zero, List.getD_cons_succ, List.set_cons_zero, List.set_cons_succ, List.nil_append, List.cons_append, Option.toList, Bool.or_false, Bool.false_or, Bool.or_true, Bool.true_or, Nat.reduceBEq, Nat.reduceAdd, Nat.reduceLT, Nat.reduceLeDiff, Int.reduceAdd, Int.reduceToNat, true_and, and_true, Fin.isValue, Fin.val_zero, Fin.val_one, Fin.val_two, Fin.reduceFinMk, eq_self, Int.reduceNeg, imp_self, Nat.reduceMul, Nat.le_refl, not_true_eq_false, not_false_eq_true, List.getElem?_nil, reduceCtorEq, true_or, or_true, Classical.not_not, implies_true, or_self, wI_0, wI_1, wI_m1, b2i_w, b2i_eq0, b2i_eq1, b2i_bool, nor_self, nx_pI, kd_pI, ln_pI, fI_pI, fL_pI, fR_pI, aI_pI, aL_pI, aR_pI, nx_pL, kd_pL, ln_pL, fI_pL, fL_pL, fR_pL, aI_pL, aL_pL, aR_pL, nx_pR, kd_pR, ln_pR, fI_pR, fL_pR, fR_pR, aI_pR, aL_pR, aR_pR, nx_qI, kd_qI, ln_qI, fI_qI, fL_qI, fR_qI, aI_qI, aL_qI, aR_qI, nx_qL, kd_qL, ln_qL, fI_qL, fL_qL, fR_qL, aI_qL, aL_qL, aR_qL, nx_qR, kd_qR, ln_qR, fI_qR, fL_qR, fR_qR, aI_qR, aL_qR, aR_qR, nx_mk, kd_mk, ln_mk, fI_mk, fL_mk, fR_mk, aI_mk, aL_mk, aR_mk, false_and, and_false, if_false, if_true, and_self, Int.reduceEq, Nat.reduceEqDiff, ite_self, MLay_pI, MLay_pL, MLay_qI, MLay_qL, ev_X12_fewest, xt_X12_fewest, xf_X12_fewest, us_X12_allCovered, us_X12_isEngineIn, us_X12_isWithout, hk, kd_mv, co_mv, ho_mv, hM1, mEng_mv]
    try simp (disch := omega) only [wI_id, dv_nn, rm_nn]
    repeat' (first | intro z | apply And.intro)
    all_goals try omega
    · refine few_115 hI hk (by omega) ‹_› (fun u d g q1 q2 => hq c u d g q1 fun c' u' d' g' q3 => ?_) (fun z A a B b a2 a3 a4 r => ih z A a B b a2 a3 a4 r) (fI σ 1332 61).toNat 0 A a B b a3 a4 (by omega) (fun u' d' g' q q2 => by have := q2.2.2.1.1; omega) r
      rcases q3 with q3 | ⟨q3, q4⟩
      · exact hno c' u' d' g' q3
      · rw [q3]; exact q2 u' d' g' q4
    · exact ih (fun u d g q => absurd q.2.1 ‹_›) A a B b a2 a3 a4 r

set_option maxRecDepth 20000 in
theorem c_X12_fewest : Ct yX12_fewest cX12_fewest 5 ((some FieldType.int)) 5 0 0 sp_X12_fewest := by
  refine Ct.go (M := M_X12_fewest) mm_X12_fewest fun av σ Q h0 => ?_
  obtain ⟨this, rfl, hk, h⟩ := el_X12_fewest h0
  clear h0
  refine ⟨Nat.le_of_ble_eq_true rfl, ?_⟩
  show Go M_X12_fewest Q 0 [some (vr this), none, none, none, none] [] σ (0, 0)
  obtain ⟨rfl, hI, h⟩ := h
  have h1 := hI.companies_s
  have h3 := hI.toA_s
  have h4 := hI.toB_s
  have r0 : mR (-1) (fI σ 1385 61) (-1) (fI σ 1387 61) := ⟨by omega, h3, by omega, h4⟩
  have hM := MI_mv hI r0
  have e0 : pI (pI σ 1384 61 (-1)) 1386 61 (-1) = mv σ (-1) (fI σ 1385 61) (-1) (fI σ 1387 61) := by
    have := mv_0 σ
    rw [← mv_A σ (fI σ 1384 61) (fI σ 1385 61) (-1) (fI σ 1387 61), ← mv_B σ (fI σ 1384 61) (fI σ 1385 61) (fI σ 1386 61) (fI σ 1387 61), this, pI_cm _ (by decide)]
  refine go_X12_fewest (ct := fun p => p == 21 || p == 42 || p == 94 || p == 115 || p == 138 || p == 160) 40 ?_
  simp only [oI, oL, oR, o1, lI, lL, lR, popN, catS, gv, stL, stL2, swt, cnd, spObj, List.getElem?_cons_zero, List.getElem?_cons_succ, List.getD_cons_zero, List.getD_cons_succ, List.set_cons_zero, List.set_cons_succ, List.nil_append, List.cons_append, Option.toList, Bool.or_false, Bool.false_or, Bool.or_true, Bool.true_or, Nat.reduceBEq, Nat.reduceAdd, Nat.reduceLT, Nat.reduceLeDiff, Int.reduceAdd, Int.reduceToNat, true_and, and_true, Fin.isValue, Fin.val_zero, Fin.val_one, Fin.val_two, Fin.reduceFinMk, eq_self, Int.reduceNeg, imp_self, Nat.reduceMul, Nat.le_refl, not_true_eq_false, not_false_eq_true, List.getElem?_nil, reduceCtorEq, true_or, or_true, Classical.not_not, implies_true, or_self, wI_0, wI_1, wI_m1, b2i_w, b2i_eq0, b2i_eq1, b2i_bool, nor_self, nx_pI, kd_pI, ln_pI, fI_pI, fL_pI, fR_pI, aI_pI, aL_pI, aR_pI, nx_pL, kd_pL, ln_pL, fI_pL, fL_pL, fR_pL, aI_pL, aL_pL, aR_pL, nx_pR, kd_pR, ln_pR, fI_pR, fL_pR, fR_pR, aI_pR, aL_pR, aR_pR, nx_qI, kd_qI, ln_qI, fI_qI, fL_qI, fR_qI, aI_qI, aL_qI, aR_qI, nx_qL, kd_qL, ln_qL, fI_qL, fL_qL, fR_qL, aI_qL, aL_qL, aR_qL, nx_qR, kd_qR, ln_qR, fI_qR, fL_qR, fR_qR, aI_qR, aL_qR, aR_qR, nx_mk, kd_mk, ln_mk, fI_mk, fL_mk, fR_mk, aI_mk, aL_mk, aR_mk, false_and, and_false, if_false, if_true, and_self, Int.reduceEq, Nat.reduceEqDiff, ite_self, MLay_pI, MLay_pL, MLay_qI, MLay_qL, ev_X12_fewest, xt_X12_fewest, xf_X12_fewest, us_X12_allCovered, us_X12_isEngineIn, us_X12_isWithout, hk]
  simp only [e0, hM, kd_mv, hk, us_X12_allCovered, oI, oL, oR, o1, lI, lL, lR, popN, catS, gv, stL, stL2, swt, cnd, spObj, List.getElem?_cons_zero, List.getElem?_cons_succ, List.getD_cons_zero, List.getD_cons_succ, List.set_cons_zero, List.set_cons_succ, List.nil_append, List.cons_append, Option.toList, Bool.or_false, Bool.false_or, Bool.or_true, Bool.true_or, Nat.reduceBEq, Nat.reduceAdd, Nat.reduceLT, Nat.reduceLeDiff, Int.reduceAdd, Int.reduceToNat, true_and, and_true, Fin.isValue, Fin.val_zero, Fin.val_one, Fin.val_two, Fin.reduceFinMk, eq_self, Int.reduceNeg, imp_self, Nat.reduceMul, Nat.le_refl, not_true_eq_false, not_false_eq_true, List.getElem?_nil, reduceCtorEq, true_or, or_true, Classical.not_not, implies_true, or_self, wI_0, wI_1, wI_m1, b2i_w, b2i_eq0, b2i_eq1, b2i_bool, nor_self, nx_pI, kd_pI, ln_pI, fI_pI, fL_pI, fR_pI, aI_pI, aL_pI, aR_pI, nx_pL, kd_pL, ln_pL, fI_pL, fL_pL, fR_pL, aI_pL, aL_pL, aR_pL, nx_pR, kd_pR, ln_pR, fI_pR, fL_pR, fR_pR, aI_pR, aL_pR, aR_pR, nx_qI, kd_qI, ln_qI, fI_qI, fL_qI, fR_qI, aI_qI, aL_qI, aR_qI, nx_qL, kd_qL, ln_qL, fI_qL, fL_qL, fR_qL, aI_qL, aL_qL, aR_qL, nx_qR, kd_qR, ln_qR, fI_qR, fL_qR, fR_qR, aI_qR, aL_qR, aR_qR, nx_mk, kd_mk, ln_mk, fI_mk, fL_mk, fR_mk, aI_mk, aL_mk, aR_mk, false_and, and_false, if_false, if_true, and_self, Int.reduceEq, Nat.reduceEqDiff, ite_self, MLay_pI, MLay_pL, MLay_qI, MLay_qL, ev_X12_fewest, xt_X12_fewest, xf_X12_fewest, us_X12_allCovered, us_X12_isEngineIn, us_X12_isWithout]
  repeat' (first | intro z | apply And.intro)
  all_goals try omega
  · refine few_21 hI hk (fun c u q1 q2 => h 1 c u (-1) (fI σ 1387 61) ⟨⟨?_, ?_, by omega, h4⟩, Or.inr ⟨‹_›, Or.inl ⟨rfl, q1, q2, rfl, rfl⟩⟩⟩) (fun hno A a a2 r1 r2 => ?_) (fI σ 1335 61).toNat 0 (-1) (fI σ 1385 61) none (by omega) (fun c' u' q q2 => by have := q2.1.1; omega) (by omega) h3
    · have := q1.1; omega
    · have := q1.2.2.1; have := hI.houses_s; omega
    · refine few_94 hI hk (fun c u d g q1 q2 => h 2 c u d g ⟨⟨?_, ?_, ?_, ?_⟩, Or.inr ⟨‹_›, Or.inr ⟨hno, Or.inl ⟨rfl, q1, q2⟩⟩⟩⟩) (fun hno2 A a B b r => h (-1) A a B b ⟨r, Or.inr ⟨‹_›, Or.inr ⟨hno, Or.inr ⟨rfl, hno2⟩⟩⟩⟩) (fI σ 1335 61).toNat 0 A a (-1) (fI σ 1387 61) a2 none none (by omega) (fun c' u' d' g' q q2 => by have := q2.1; omega) ⟨r1, r2, by omega, h4⟩
      · have := q1.1; omega
      · have := q1.2.2.1; have := hI.houses_s; omega
      · have := q1.1; omega
      · have := q1.2.2.2.2.2.1; have := hI.houses_s; omega
  · exact h 0 _ _ _ _ ⟨r0, Or.inl ⟨rfl, ‹_›, rfl, rfl, rfl, rfl⟩⟩
