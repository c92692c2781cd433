/-! the class: cover, the survey -/

theorem hwM_cg {P P' : Int → Prop} (h : ∀ j : Int, 0 ≤ j → (P' j ↔ P j)) : ∀ n : Nat, hwM P' n = hwM P n
  | 0 => rfl
  | n + 1 => by rw [hwM_s, hwM_s, hwM_cg h n, b2i_congr (h n (by omega))]
/-- how many of the companies that S holds stand by f in a house -/
noncomputable def cnt (n : Nat) (S : Int → Prop) (f : Int → Int) (u : Int) : Int := hwM (fun c => S c ∧ f c = u) n
theorem cnt_in (n : Nat) (S : Int → Prop) (f : Int → Int) (u : Int) : 0 ≤ cnt n S f u ∧ cnt n S f u ≤ n := hwM_in _ n
theorem cnt_pos {n : Nat} {S : Int → Prop} {f : Int → Int} {u : Int} : 0 < cnt n S f u ↔ ∃ c, (0 ≤ c ∧ c < n) ∧ S c ∧ f c = u := by
  unfold cnt
  induction n with
  | zero => exact ⟨fun z => absurd z (by unfold hwM; omega), fun ⟨c, a, _⟩ => by omega⟩
  | succ n ih =>
    rw [hwM_s]
    have h0 := hwM_in (fun c => S c ∧ f c = u) n
    by_cases e : S n ∧ f n = u
    · rw [b2i_t e]
      exact ⟨fun _ => ⟨n, by omega, e⟩, fun _ => by omega⟩
    · rw [b2i_f e, Int.add_zero, ih]
      constructor
      · rintro ⟨c, a, b⟩
        exact ⟨c, by omega, b⟩
      · rintro ⟨c, a, b⟩
        by_cases e2 : c = n
        · subst e2; exact absurd b e
        · exact ⟨c, by omega, b⟩
theorem cnt_up {n : Nat} {S S' : Int → Prop} {f f' : Int → Int} {c u : Int} (hc : 0 ≤ c ∧ c < n) (h1 : ¬ S c) (h2 : S' c ∧ f' c = u) (h3 : ∀ j, ¬ j = c → (S' j ↔ S j) ∧ f' j = f j) (v : Int) : cnt n S' f' v = cnt n S f v + if v = u then 1 else 0 := by
  unfold cnt
  by_cases e : v = u
  · subst e
    rw [hwM_up (P := fun c => S c ∧ f c = v) (P' := fun c => S' c ∧ f' c = v) (c := c) (fun z => h1 z.1) h2 (fun j hj => by rw [(h3 j hj).1, (h3 j hj).2]) hc.1 n, if_pos hc.2, if_pos rfl]
  · rw [if_neg e, Int.add_zero]
    refine hwM_cg (fun j hj => ?_) n
    by_cases z : j = c
    · subst z
      exact ⟨fun q => absurd (q.2.symm.trans h2.2) e, fun q => absurd q.1 h1⟩
    · rw [(h3 j z).1, (h3 j z).2]
/-- the engines in their houses -/
def CVS (n : Nat) (S : Int → Prop) (f : Int → Int) (σ : Hp) : Prop := (∀ u, 0 ≤ u → u < 12 → aI σ 21 u = cnt n S f u) ∧ ∀ j : Nat, btb (fI σ 707 19) j = true ↔ (j < 12 ∧ 0 < cnt n S f j)
theorem CVS_put' {σ : Hp} {n n' : Nat} {S S' : Int → Prop} {f f' : Int → Int} {u : Int} (h : CVS n S f σ) (hu : 0 ≤ u ∧ u < 12) (hc : ∀ v, cnt n' S' f' v = cnt n S f v + if v = u then 1 else 0) : CVS n' S' f' (cPut σ u) := by
  unfold cPut
  refine ⟨fun v a b => ?_, fun j => ?_⟩
  · rw [aI_pI, aI_qI, hc v]
    by_cases e : v = u
    · subst e
      rw [if_pos ⟨rfl, rfl⟩, if_pos rfl, h.1 v a b]
    · rw [if_neg (fun z => e z.2), if_neg e, h.1 v a b, Int.add_zero]
  · rw [fI_pI, if_pos ⟨rfl, rfl⟩, btb_or, btb_shl (by omega), Bool.or_eq_true, h.2 j, decide_eq_true_eq, hc j]
    have := (cnt_in n S f j).1
    by_cases e : (j : Int) = u
    · rw [if_pos e]
      constructor
      · rintro (q | q) <;> omega
      · intro q; exact Or.inr e
    · rw [if_neg e, Int.add_zero]
      constructor
      · rintro (q | q)
        · exact q
        · exact absurd q e
      · exact Or.inl
theorem CVS_lft' {σ : Hp} {n : Nat} {S S' : Int → Prop} {f f' : Int → Int} {u : Int} (h : CVS n S f σ) (hu : 0 ≤ u ∧ u < 12) (hc : ∀ v, cnt n S f v = cnt n S' f' v + if v = u then 1 else 0) : CVS n S' f' (cLft σ u) := by
  unfold cLft
  have h1 := h.1 u hu.1 hu.2
  have h2 := hc u
  rw [if_pos rfl] at h2
  refine ⟨fun v a b => ?_, fun j => ?_⟩
  · rw [aI_pI, aI_qI]
    have h3 := hc v
    by_cases e : v = u
    · subst e
      rw [if_pos ⟨rfl, rfl⟩]
      omega
    · rw [if_neg (fun z => e z.2), h.1 v a b]
      rw [if_neg e] at h3
      omega
  · rw [fI_pI, if_pos ⟨rfl, rfl⟩, btb_and, Bool.and_eq_true, h.2 j]
    have h3 := hc j
    have h4 := (cnt_in n S' f' j).1
    have h5 := (cnt_in n S' f' u).1
    by_cases c : 0 < aI σ 21 u - 1
    · rw [if_pos c]
      by_cases e : (j : Int) = u
      · rw [e] at h3 ⊢
        constructor
        · rintro ⟨q1, q2⟩
          omega
        · rintro ⟨q1, q2⟩
          exact ⟨by omega, btb_m1 (by omega)⟩
      · rw [if_neg e] at h3
        constructor
        · rintro ⟨q1, q2⟩
          omega
        · rintro ⟨q1, q2⟩
          exact ⟨by omega, btb_m1 (by omega)⟩
    · rw [if_neg c, btb_xor, btb_shl (by omega)]
      by_cases e : (j : Int) = u
      · rw [decide_eq_true e, btb_m1 (by omega)]
        rw [e] at h3 ⊢
        constructor
        · rintro ⟨q1, q2⟩
          cases q2
        · rintro ⟨q1, q2⟩
          omega
      · rw [decide_eq_false e]
        rw [if_neg e] at h3
        constructor
        · rintro ⟨q1, q2⟩
          omega
        · rintro ⟨q1, q2⟩
          refine ⟨by omega, ?_⟩
          rw [btb_m1 (by omega)]
          rfl
/-- what is near which box -/
def NR (σ τ : Hp) : Prop := fI σ 706 19 = fI τ 1302 61 ∧ ∀ i, 0 ≤ i → i < fI τ 1302 61 → ∀ j : Nat, btb (aI σ 20 i) j = true ↔ ((j : Int) < fI τ 1332 61 ∧ mWay τ j i ≤ fI τ 1342 61)
def TKn (σ τ : Hp) : Prop := ∀ j : Nat, btb (fI σ 708 19) j = true ↔ (j < 12 ∧ 0 < cnt (fI τ 1335 61).toNat (mEng τ) (aI τ 89) j)
abbrev surF : List Nat := [706, 707, 708]
abbrev surA : Int → Prop := fun r => r = 20 ∨ r = 21
theorem BX.xy {σ τ : Hp} (h : BX σ τ) (hI : MI τ) {i : Int} (a : 0 ≤ i) (b : i < fI τ 1302 61) : (0 ≤ fI σ 305 (lat σ 3 i) ∧ fI σ 305 (lat σ 3 i) ≤ 99) ∧ (0 ≤ fI σ 306 (lat σ 3 i) ∧ fI σ 306 (lat σ 3 i) ≤ 99) ∧ fI σ 305 (lat σ 3 i) = aI τ 65 i ∧ fI σ 306 (lat σ 3 i) = aI τ 66 i := by
  obtain ⟨-, -, -, -, -, -, h1, h2, -⟩ := h.2.2 i a b
  have h3 := hI.x_ i
  have h4 := hI.y_ i
  refine ⟨?_, ?_, h1, h2⟩ <;> omega

def sp_X6_survey : Sp := fun av σ Q => oR av fun this av => av = [] ∧ kd σ this = 7 ∧ (this = 19 ∧ CLay σ ∧ ∃ τ, BX σ τ ∧ BG σ τ ∧ MI τ ∧ (∀ σ', Fz surF surA noR σ σ' → NR σ' τ → CVS (fI τ 1335 61).toNat (mEng τ) (aI τ 89) σ' → TKn σ' τ → Q none σ'))
theorem us_X6_survey (this : Int) (σ : Hp) (Q : Option AV → Hp → Prop) : sp_X6_survey [vr this] σ Q = (kd σ this = 7 ∧ (this = 19 ∧ CLay σ ∧ ∃ τ, BX σ τ ∧ BG σ τ ∧ MI τ ∧ (∀ σ', Fz surF surA noR σ σ' → NR σ' τ → CVS (fI τ 1335 61).toNat (mEng τ) (aI τ 89) σ' → TKn σ' τ → Q none σ'))) := propext ⟨fun h => h.2, fun h => ⟨rfl, h⟩⟩
theorem el_X6_survey {av : List AV} {σ : Hp} {Q : Option AV → Hp → Prop} (h : sp_X6_survey av σ Q) : ∃ (this : Int), av = [vr this] ∧ (kd σ this = 7 ∧ (this = 19 ∧ CLay σ ∧ ∃ τ, BX σ τ ∧ BG σ τ ∧ MI τ ∧ (∀ σ', Fz surF surA noR σ σ' → NR σ' τ → CVS (fI τ 1335 61).toNat (mEng τ) (aI τ 89) σ' → TKn σ' τ → Q none σ'))) := by
  obtain ⟨this, a0, rfl, h0⟩ := oR_s h
  obtain ⟨rfl, hz⟩ := h0
  exact ⟨this, rfl, hz⟩
theorem rc_X6_survey : ∀ (av : List AV) (σ : Hp) (Q : Option AV → Hp → Prop), sp_X6_survey av σ Q → ∃ r tl, av = vr r :: tl ∧ kd σ r = 6 + 1 := fun av σ Q h => by
  obtain ⟨this, rfl, hz, -⟩ := el_X6_survey h
  exact ⟨this, _, rfl, hz⟩

def tb_X6_survey : Tab := [(0, .aload_n 0, 1, (0, 0, 0, 0)), (1, .aload_n 0, 1, (0, 0, 0, 0)), (2, .getfield 34, 3, (7, 705, 2, 0)), (5, .invokevirtual 48, 3, (0, 0, 0, 0)), (8, .aload_n 0, 1, (0, 0, 0, 0)), (9, .getfield 9, 3, (7, 700, 2, 0)), (12, .arraylength, 1, (0, 0, 0, 0)), (13, .invokestatic 52, 3, (0, 0, 0, 0)), (16, .putfield 38, 3, (7, 706, 0, 0)), (19, .iconst 0, 1, (0, 0, 0, 0)), (20, .istore_n 1, 1, (0, 0, 0, 0)), (21, .iload_n 1, 1, (0, 0, 0, 0)), (22, .aload_n 0, 1, (0, 0, 0, 0)), (23, .getfield 38, 3, (7, 706, 0, 0)), (26, .if_icmp .ge 30, 3, (0, 0, 0, 0)), (29, .aload_n 0, 1, (0, 0, 0, 0)), (30, .getfield 9, 3, (7, 700, 2, 0)), (33, .iload_n 1, 1, (0, 0, 0, 0)), (34, .aload_n 0, 1, (0, 0, 0, 0)), (35, .aload_n 0, 1, (0, 0, 0, 0)), (36, .getfield 34, 3, (7, 705, 2, 0)), (39, .iload_n 1, 1, (0, 0, 0, 0)), (40, .invokevirtual 58, 3, (0, 0, 0, 0)), (43, .checkcast 62, 3, (3, 0, 0, 0)), (46, .invokevirtual 64, 3, (0, 0, 0, 0)), (49, .iastore, 1, (0, 0, 0, 0)), (50, .iinc 1 1, 3, (0, 0, 0, 0)), (53, .goto (-32), 3, (0, 0, 0, 0)), (56, .aload_n 0, 1, (0, 0, 0, 0)), (57, .iconst 0, 1, (0, 0, 0, 0)), (58, .putfield 42, 3, (7, 707, 0, 0)), (61, .iconst 0, 1, (0, 0, 0, 0)), (62, .istore_n 1, 1, (0, 0, 0, 0)), (63, .iload_n 1, 1, (0, 0, 0, 0)), (64, .aload_n 0, 1, (0, 0, 0, 0)), (65, .getfield 15, 3, (7, 701, 2, 0)), (68, .arraylength, 1, (0, 0, 0, 0)), (69, .if_icmp .ge 16, 3, (0, 0, 0, 0)), (72, .aload_n 0, 1, (0, 0, 0, 0)), (73, .getfield 15, 3, (7, 701, 2, 0)), (76, .iload_n 1, 1, (0, 0, 0, 0)), (77, .iconst 0, 1, (0, 0, 0, 0)), (78, .iastore, 1, (0, 0, 0, 0)), (79, .iinc 1 1, 3, (0, 0, 0, 0)), (82, .goto (-19), 3, (0, 0, 0, 0)), (85, .iconst 0, 1, (0, 0, 0, 0)), (86, .istore_n 1, 1, (0, 0, 0, 0)), (87, .iload_n 1, 1, (0, 0, 0, 0)), (88, .aload_n 0, 1, (0, 0, 0, 0)), (89, .getfield 27, 3, (7, 704, 2, 0)), (92, .getfield 68, 3, (4, 402, 2, 0)), (95, .invokevirtual 48, 3, (0, 0, 0, 0)), (98, .if_icmp .ge 40, 3, (0, 0, 0, 0)), (101, .aload_n 0, 1, (0, 0, 0, 0)), (102, .getfield 27, 3, (7, 704, 2, 0)), (105, .getfield 68, 3, (4, 402, 2, 0)), (108, .iload_n 1, 1, (0, 0, 0, 0)), (109, .invokevirtual 58, 3, (0, 0, 0, 0)), (112, .checkcast 71, 3, (6, 0, 0, 0)), (115, .astore_n 2, 1, (0, 0, 0, 0)), (116, .aload_n 2, 1, (0, 0, 0, 0)), (117, .iconst 0, 1, (0, 0, 0, 0)), (118, .invokevirtual 73, 3, (0, 0, 0, 0)), (121, .ifCond .eq 11, 3, (0, 0, 0, 0)), (124, .aload_n 0, 1, (0, 0, 0, 0)), (125, .aload_n 2, 1, (0, 0, 0, 0)), (126, .getfield 77, 3, (6, 602, 0, 0)), (129, .invokevirtual 80, 3, (0, 0, 0, 0)), (132, .iinc 1 1, 3, (0, 0, 0, 0)), (135, .goto (-48), 3, (0, 0, 0, 0)), (138, .aload_n 0, 1, (0, 0, 0, 0)), (139, .aload_n 0, 1, (0, 0, 0, 0)), (140, .getfield 42, 3, (7, 707, 0, 0)), (143, .putfield 45, 3, (7, 708, 0, 0)), (146, .return_, 1, (0, 0, 0, 0))]
set_option maxRecDepth 100000 in
theorem tk_X6_survey : TOK RX6 false cX6_survey tb_X6_survey := chkT_ok ft_X6 (by decide +kernel)
theorem rw_X6_417 : Row RX6 (.invokestatic 52) 3 2 0 0 1 sp_J9_min_7cf53 := row_S c_J9_min_7cf53 ⟨TBL_in 1304 (by decide +kernel) rfl, TBL_in 687 (by decide +kernel) rfl, TBL_in 128 (by decide +kernel) rfl, by decide +kernel, by decide⟩ (TBL_in 686 (by decide +kernel) rfl)
theorem rw_X6_512 : Row RX6 (.invokevirtual 64) 3 2 0 0 3 sp_X6_housesNear := row_V (n := 1) (ci := 6) c_X6_housesNear ⟨TBL_in 1307 (by decide +kernel) rfl, TBL_in 1310 (by decide +kernel) rfl, TBL_in 116 (by decide +kernel) rfl, by decide +kernel, by decide⟩ (by decide) rfl (TBL_in 1309 (by decide +kernel) rfl) (TBL_in 52 (by decide +kernel) rfl) rc_X6_housesNear
theorem rw_X6_584 : Row RX6 (.invokevirtual 73) 3 2 0 0 1 sp_X5_isIn := row_V (n := 1) (ci := 5) c_X5_isIn ⟨TBL_in 1313 (by decide +kernel) rfl, TBL_in 1247 (by decide +kernel) rfl, TBL_in 132 (by decide +kernel) rfl, by decide +kernel, by decide⟩ (by decide) rfl (TBL_in 1245 (by decide +kernel) rfl) (TBL_in 1246 (by decide +kernel) rfl) rc_X5_isIn
theorem rw_X6_640 : Row RX6 (.invokevirtual 80) 3 2 0 0 1 sp_X6_putEngine := row_V (n := 1) (ci := 6) c_X6_putEngine ⟨TBL_in 1314 (by decide +kernel) rfl, TBL_in 1317 (by decide +kernel) rfl, TBL_in 116 (by decide +kernel) rfl, by decide +kernel, by decide⟩ (by decide) rfl (TBL_in 1316 (by decide +kernel) rfl) (TBL_in 53 (by decide +kernel) rfl) rc_X6_putEngine
def mt_X6_survey : List (Nat × Mt) := [(384, 1, 0, 0, 1, sp_Jx4a65c_size_8abf5), (417, 2, 0, 0, 1, sp_J9_min_7cf53), (464, 2, 0, 0, 3, sp_Jx4a65c_get_915e3), (512, 2, 0, 0, 3, sp_X6_housesNear), (584, 2, 0, 0, 1, sp_X5_isIn), (640, 2, 0, 0, 1, sp_X6_putEngine)]
theorem em_X6_survey : mt_X6_survey.lookup 384 = some (1, 0, 0, 1, sp_Jx4a65c_size_8abf5) ∧ mt_X6_survey.lookup 417 = some (2, 0, 0, 1, sp_J9_min_7cf53) ∧ mt_X6_survey.lookup 464 = some (2, 0, 0, 3, sp_Jx4a65c_get_915e3) ∧ mt_X6_survey.lookup 512 = some (2, 0, 0, 3, sp_X6_housesNear) ∧ mt_X6_survey.lookup 584 = some (2, 0, 0, 1, sp_X5_isIn) ∧ mt_X6_survey.lookup 640 = some (2, 0, 0, 1, sp_X6_putEngine) := ⟨rfl, rfl, rfl, rfl, rfl, rfl⟩
theorem mk_X6_survey : MOK RX6 mt_X6_survey := by
  intro q hq
  simp only [mt_X6_survey, List.mem_cons, List.not_mem_nil, or_false] at hq
  rcases hq with rfl | rfl | rfl | rfl | rfl | rfl
  · exact rw_X6_384
  · exact rw_X6_417
  · exact rw_X6_464
  · exact rw_X6_512
  · exact rw_X6_584
  · exact rw_X6_640
noncomputable def xe_X6_survey (ct : Nat → Bool) (K : Kt) (R : Option AV → Hp → Prop) (n : Nat) : Kt := exS 3 4 0 0 0 tb_X6_survey mt_X6_survey ct K R n
noncomputable def xk_X6_survey (ct : Nat → Bool) (K : Kt) (R : Option AV → Hp → Prop) (n : Nat) : Kt := exkS 3 4 0 0 0 tb_X6_survey mt_X6_survey ct K R n
theorem xt_X6_survey {ct : Nat → Bool} {K : Kt} {R : Option AV → Hp → Prop} {n pc : Nat} {ls : List (Option AV)} {st : List AV} {σ : Hp} {k : Nat × Nat} (h : ct pc = true) : xk_X6_survey ct K R n pc ls st σ k = K pc ls st σ k := by unfold xk_X6_survey exkS; rw [h]
theorem xf_X6_survey {ct : Nat → Bool} {K : Kt} {R : Option AV → Hp → Prop} {n pc : Nat} {ls : List (Option AV)} {st : List AV} {σ : Hp} {k : Nat × Nat} (h : ct pc = false) : xk_X6_survey ct K R n pc ls st σ k = xe_X6_survey ct K R n pc ls st σ k := by unfold xk_X6_survey exkS xe_X6_survey; rw [h]
theorem ev_X6_survey_0 {ct : Nat → Bool} {K : Kt} {R : Option AV → Hp → Prop} {n : Nat} {ls : List (Option AV)} {st : List AV} {σ : Hp} {k : Nat × Nat} : xe_X6_survey ct K R (n + 1) 0 ls st σ k = (lR ls 0 fun x => xk_X6_survey ct K R n 1 ls (vr x :: st) σ k) := exS_step.trans rfl
theorem ev_X6_survey_1 {ct : Nat → Bool} {K : Kt} {R : Option AV → Hp → Prop} {n : Nat} {ls : List (Option AV)} {st : List AV} {σ : Hp} {k : Nat × Nat} : xe_X6_survey ct K R (n + 1) 1 ls st σ k = (lR ls 0 fun x => xk_X6_survey ct K R n 2 ls (vr x :: st) σ k) := exS_step.trans rfl
theorem ev_X6_survey_2 {ct : Nat → Bool} {K : Kt} {R : Option AV → Hp → Prop} {n : Nat} {ls : List (Option AV)} {st : List AV} {σ : Hp} {k : Nat × Nat} : xe_X6_survey ct K R (n + 1) 2 ls st σ k = (oR st fun x st => kd σ x = 7 ∧ xk_X6_survey ct K R n 5 ls (vr (fR σ 705 x) :: st) σ k) := exS_step.trans rfl
theorem ev_X6_survey_5 {ct : Nat → Bool} {K : Kt} {R : Option AV → Hp → Prop} {n : Nat} {ls : List (Option AV)} {st : List AV} {σ : Hp} {k : Nat × Nat} : xe_X6_survey ct K R (n + 1) 5 ls st σ k = (popN 1 st [] fun av rest => (catS rest ≤ 8 ∧ 1 < 4 ∧ k.1 + 0 ≤ 0 ∧ k.2 + 0 ≤ 0) ∧ (sp_Jx4a65c_size_8abf5) av σ fun v σ' => xk_X6_survey ct K R n 8 ls (v.toList ++ rest) σ' (k.1 + 0, k.2 + 0)) := exS_step.trans rfl
theorem ev_X6_survey_8 {ct : Nat → Bool} {K : Kt} {R : Option AV → Hp → Prop} {n : Nat} {ls : List (Option AV)} {st : List AV} {σ : Hp} {k : Nat × Nat} : xe_X6_survey ct K R (n + 1) 8 ls st σ k = (lR ls 0 fun x => xk_X6_survey ct K R n 9 ls (vr x :: st) σ k) := exS_step.trans rfl
theorem ev_X6_survey_9 {ct : Nat → Bool} {K : Kt} {R : Option AV → Hp → Prop} {n : Nat} {ls : List (Option AV)} {st : List AV} {σ : Hp} {k : Nat × Nat} : xe_X6_survey ct K R (n + 1) 9 ls st σ k = (oR st fun x st => kd σ x = 7 ∧ xk_X6_survey ct K R n 12 ls (vr (fR σ 700 x) :: st) σ k) := exS_step.trans rfl
theorem ev_X6_survey_12 {ct : Nat → Bool} {K : Kt} {R : Option AV → Hp → Prop} {n : Nat} {ls : List (Option AV)} {st : List AV} {σ : Hp} {k : Nat × Nat} : xe_X6_survey ct K R (n + 1) 12 ls st σ k = (oR st fun x st => (101 ≤ kd σ x ∨ kd σ x = 21) ∧ xk_X6_survey ct K R n 13 ls (vi (ln σ x) :: st) σ k) := exS_step.trans rfl
theorem ev_X6_survey_13 {ct : Nat → Bool} {K : Kt} {R : Option AV → Hp → Prop} {n : Nat} {ls : List (Option AV)} {st : List AV} {σ : Hp} {k : Nat × Nat} : xe_X6_survey ct K R (n + 1) 13 ls st σ k = (popN 2 st [] fun av rest => (catS rest ≤ 8 ∧ 1 < 4 ∧ k.1 + 0 ≤ 0 ∧ k.2 + 0 ≤ 0) ∧ (sp_J9_min_7cf53) av σ fun v σ' => xk_X6_survey ct K R n 16 ls (v.toList ++ rest) σ' (k.1 + 0, k.2 + 0)) := exS_step.trans rfl
theorem ev_X6_survey_16 {ct : Nat → Bool} {K : Kt} {R : Option AV → Hp → Prop} {n : Nat} {ls : List (Option AV)} {st : List AV} {σ : Hp} {k : Nat × Nat} : xe_X6_survey ct K R (n + 1) 16 ls st σ k = (oI st fun v st => oR st fun x st => kd σ x = 7 ∧ xk_X6_survey ct K R n 19 ls st (pI σ 706 x v) k) := exS_step.trans rfl
theorem ev_X6_survey_19 {ct : Nat → Bool} {K : Kt} {R : Option AV → Hp → Prop} {n : Nat} {ls : List (Option AV)} {st : List AV} {σ : Hp} {k : Nat × Nat} : xe_X6_survey ct K R (n + 1) 19 ls st σ k = (xk_X6_survey ct K R n 20 ls (vi (0) :: st) σ k) := exS_step.trans rfl
theorem ev_X6_survey_20 {ct : Nat → Bool} {K : Kt} {R : Option AV → Hp → Prop} {n : Nat} {ls : List (Option AV)} {st : List AV} {σ : Hp} {k : Nat × Nat} : xe_X6_survey ct K R (n + 1) 20 ls st σ k = (oI st fun x st => 1 < 3 ∧ xk_X6_survey ct K R n 21 (stL ls 1 (vi x)) st σ k) := exS_step.trans rfl
theorem ev_X6_survey_21 {ct : Nat → Bool} {K : Kt} {R : Option AV → Hp → Prop} {n : Nat} {ls : List (Option AV)} {st : List AV} {σ : Hp} {k : Nat × Nat} : xe_X6_survey ct K R (n + 1) 21 ls st σ k = (lI ls 1 fun x => xk_X6_survey ct K R n 22 ls (vi x :: st) σ k) := exS_step.trans rfl
theorem ev_X6_survey_22 {ct : Nat → Bool} {K : Kt} {R : Option AV → Hp → Prop} {n : Nat} {ls : List (Option AV)} {st : List AV} {σ : Hp} {k : Nat × Nat} : xe_X6_survey ct K R (n + 1) 22 ls st σ k = (lR ls 0 fun x => xk_X6_survey ct K R n 23 ls (vr x :: st) σ k) := exS_step.trans rfl
theorem ev_X6_survey_23 {ct : Nat → Bool} {K : Kt} {R : Option AV → Hp → Prop} {n : Nat} {ls : List (Option AV)} {st : List AV} {σ : Hp} {k : Nat × Nat} : xe_X6_survey ct K R (n + 1) 23 ls st σ k = (oR st fun x st => kd σ x = 7 ∧ xk_X6_survey ct K R n 26 ls (vi (fI σ 706 x) :: st) σ k) := exS_step.trans rfl
theorem ev_X6_survey_26 {ct : Nat → Bool} {K : Kt} {R : Option AV → Hp → Prop} {n : Nat} {ls : List (Option AV)} {st : List AV} {σ : Hp} {k : Nat × Nat} : xe_X6_survey ct K R (n + 1) 26 ls st σ k = (oI st fun y st => oI st fun x st => (wI y ≤ wI x → xk_X6_survey ct K R n 56 ls st σ k) ∧ (¬ (wI y ≤ wI x) → xk_X6_survey ct K R n 29 ls st σ k)) := exS_step.trans rfl
theorem ev_X6_survey_29 {ct : Nat → Bool} {K : Kt} {R : Option AV → Hp → Prop} {n : Nat} {ls : List (Option AV)} {st : List AV} {σ : Hp} {k : Nat × Nat} : xe_X6_survey ct K R (n + 1) 29 ls st σ k = (lR ls 0 fun x => xk_X6_survey ct K R n 30 ls (vr x :: st) σ k) := exS_step.trans rfl
theorem ev_X6_survey_30 {ct : Nat → Bool} {K : Kt} {R : Option AV → Hp → Prop} {n : Nat} {ls : List (Option AV)} {st : List AV} {σ : Hp} {k : Nat × Nat} : xe_X6_survey ct K R (n + 1) 30 ls st σ k = (oR st fun x st => kd σ x = 7 ∧ xk_X6_survey ct K R n 33 ls (vr (fR σ 700 x) :: st) σ k) := exS_step.trans rfl
theorem ev_X6_survey_33 {ct : Nat → Bool} {K : Kt} {R : Option AV → Hp → Prop} {n : Nat} {ls : List (Option AV)} {st : List AV} {σ : Hp} {k : Nat × Nat} : xe_X6_survey ct K R (n + 1) 33 ls st σ k = (lI ls 1 fun x => xk_X6_survey ct K R n 34 ls (vi x :: st) σ k) := exS_step.trans rfl
theorem ev_X6_survey_34 {ct : Nat → Bool} {K : Kt} {R : Option AV → Hp → Prop} {n : Nat} {ls : List (Option AV)} {st : List AV} {σ : Hp} {k : Nat × Nat} : xe_X6_survey ct K R (n + 1) 34 ls st σ k = (lR ls 0 fun x => xk_X6_survey ct K R n 35 ls (vr x :: st) σ k) := exS_step.trans rfl
theorem ev_X6_survey_35 {ct : Nat → Bool} {K : Kt} {R : Option AV → Hp → Prop} {n : Nat} {ls : List (Option AV)} {st : List AV} {σ : Hp} {k : Nat × Nat} : xe_X6_survey ct K R (n + 1) 35 ls st σ k = (lR ls 0 fun x => xk_X6_survey ct K R n 36 ls (vr x :: st) σ k) := exS_step.trans rfl
theorem ev_X6_survey_36 {ct : Nat → Bool} {K : Kt} {R : Option AV → Hp → Prop} {n : Nat} {ls : List (Option AV)} {st : List AV} {σ : Hp} {k : Nat × Nat} : xe_X6_survey ct K R (n + 1) 36 ls st σ k = (oR st fun x st => kd σ x = 7 ∧ xk_X6_survey ct K R n 39 ls (vr (fR σ 705 x) :: st) σ k) := exS_step.trans rfl
theorem ev_X6_survey_39 {ct : Nat → Bool} {K : Kt} {R : Option AV → Hp → Prop} {n : Nat} {ls : List (Option AV)} {st : List AV} {σ : Hp} {k : Nat × Nat} : xe_X6_survey ct K R (n + 1) 39 ls st σ k = (lI ls 1 fun x => xk_X6_survey ct K R n 40 ls (vi x :: st) σ k) := exS_step.trans rfl
theorem ev_X6_survey_40 {ct : Nat → Bool} {K : Kt} {R : Option AV → Hp → Prop} {n : Nat} {ls : List (Option AV)} {st : List AV} {σ : Hp} {k : Nat × Nat} : xe_X6_survey ct K R (n + 1) 40 ls st σ k = (popN 2 st [] fun av rest => (catS rest ≤ 8 ∧ 3 < 4 ∧ k.1 + 0 ≤ 0 ∧ k.2 + 0 ≤ 0) ∧ (sp_Jx4a65c_get_915e3) av σ fun v σ' => xk_X6_survey ct K R n 43 ls (v.toList ++ rest) σ' (k.1 + 0, k.2 + 0)) := exS_step.trans rfl
theorem ev_X6_survey_43 {ct : Nat → Bool} {K : Kt} {R : Option AV → Hp → Prop} {n : Nat} {ls : List (Option AV)} {st : List AV} {σ : Hp} {k : Nat × Nat} : xe_X6_survey ct K R (n + 1) 43 ls st σ k = (oR st fun x st => kd σ x = 3 ∧ xk_X6_survey ct K R n 46 ls (vr x :: st) σ k) := exS_step.trans rfl
theorem ev_X6_survey_46 {ct : Nat → Bool} {K : Kt} {R : Option AV → Hp → Prop} {n : Nat} {ls : List (Option AV)} {st : List AV} {σ : Hp} {k : Nat × Nat} : xe_X6_survey ct K R (n + 1) 46 ls st σ k = (popN 2 st [] fun av rest => (catS rest ≤ 8 ∧ 3 < 4 ∧ k.1 + 0 ≤ 0 ∧ k.2 + 0 ≤ 0) ∧ (sp_X6_housesNear) av σ fun v σ' => xk_X6_survey ct K R n 49 ls (v.toList ++ rest) σ' (k.1 + 0, k.2 + 0)) := exS_step.trans rfl
theorem ev_X6_survey_49 {ct : Nat → Bool} {K : Kt} {R : Option AV → Hp → Prop} {n : Nat} {ls : List (Option AV)} {st : List AV} {σ : Hp} {k : Nat × Nat} : xe_X6_survey ct K R (n + 1) 49 ls st σ k = (oI st fun v st => oI st fun j st => oR st fun x st => kd σ x = 101 ∧ (0 ≤ j ∧ j < ln σ x) ∧ xk_X6_survey ct K R n 50 ls st (qI σ x j v) k) := exS_step.trans rfl
theorem ev_X6_survey_50 {ct : Nat → Bool} {K : Kt} {R : Option AV → Hp → Prop} {n : Nat} {ls : List (Option AV)} {st : List AV} {σ : Hp} {k : Nat × Nat} : xe_X6_survey ct K R (n + 1) 50 ls st σ k = (lI ls 1 fun x => 1 < 3 ∧ xk_X6_survey ct K R n 53 (stL ls 1 (vi (x + (1)))) st σ k) := exS_step.trans rfl
theorem ev_X6_survey_53 {ct : Nat → Bool} {K : Kt} {R : Option AV → Hp → Prop} {n : Nat} {ls : List (Option AV)} {st : List AV} {σ : Hp} {k : Nat × Nat} : xe_X6_survey ct K R (n + 1) 53 ls st σ k = (xk_X6_survey ct K R n 21 ls st σ k) := exS_step.trans rfl
theorem ev_X6_survey_56 {ct : Nat → Bool} {K : Kt} {R : Option AV → Hp → Prop} {n : Nat} {ls : List (Option AV)} {st : List AV} {σ : Hp} {k : Nat × Nat} : xe_X6_survey ct K R (n + 1) 56 ls st σ k = (lR ls 0 fun x => xk_X6_survey ct K R n 57 ls (vr x :: st) σ k) := exS_step.trans rfl
theorem ev_X6_survey_57 {ct : Nat → Bool} {K : Kt} {R : Option AV → Hp → Prop} {n : Nat} {ls : List (Option AV)} {st : List AV} {σ : Hp} {k : Nat × Nat} : xe_X6_survey ct K R (n + 1) 57 ls st σ k = (xk_X6_survey ct K R n 58 ls (vi (0) :: st) σ k) := exS_step.trans rfl
theorem ev_X6_survey_58 {ct : Nat → Bool} {K : Kt} {R : Option AV → Hp → Prop} {n : Nat} {ls : List (Option AV)} {st : List AV} {σ : Hp} {k : Nat × Nat} : xe_X6_survey ct K R (n + 1) 58 ls st σ k = (oI st fun v st => oR st fun x st => kd σ x = 7 ∧ xk_X6_survey ct K R n 61 ls st (pI σ 707 x v) k) := exS_step.trans rfl
theorem ev_X6_survey_61 {ct : Nat → Bool} {K : Kt} {R : Option AV → Hp → Prop} {n : Nat} {ls : List (Option AV)} {st : List AV} {σ : Hp} {k : Nat × Nat} : xe_X6_survey ct K R (n + 1) 61 ls st σ k = (xk_X6_survey ct K R n 62 ls (vi (0) :: st) σ k) := exS_step.trans rfl
theorem ev_X6_survey_62 {ct : Nat → Bool} {K : Kt} {R : Option AV → Hp → Prop} {n : Nat} {ls : List (Option AV)} {st : List AV} {σ : Hp} {k : Nat × Nat} : xe_X6_survey ct K R (n + 1) 62 ls st σ k = (oI st fun x st => 1 < 3 ∧ xk_X6_survey ct K R n 63 (stL ls 1 (vi x)) st σ k) := exS_step.trans rfl
theorem ev_X6_survey_63 {ct : Nat → Bool} {K : Kt} {R : Option AV → Hp → Prop} {n : Nat} {ls : List (Option AV)} {st : List AV} {σ : Hp} {k : Nat × Nat} : xe_X6_survey ct K R (n + 1) 63 ls st σ k = (lI ls 1 fun x => xk_X6_survey ct K R n 64 ls (vi x :: st) σ k) := exS_step.trans rfl
theorem ev_X6_survey_64 {ct : Nat → Bool} {K : Kt} {R : Option AV → Hp → Prop} {n : Nat} {ls : List (Option AV)} {st : List AV} {σ : Hp} {k : Nat × Nat} : xe_X6_survey ct K R (n + 1) 64 ls st σ k = (lR ls 0 fun x => xk_X6_survey ct K R n 65 ls (vr x :: st) σ k) := exS_step.trans rfl
theorem ev_X6_survey_65 {ct : Nat → Bool} {K : Kt} {R : Option AV → Hp → Prop} {n : Nat} {ls : List (Option AV)} {st : List AV} {σ : Hp} {k : Nat × Nat} : xe_X6_survey ct K R (n + 1) 65 ls st σ k = (oR st fun x st => kd σ x = 7 ∧ xk_X6_survey ct K R n 68 ls (vr (fR σ 701 x) :: st) σ k) := exS_step.trans rfl
theorem ev_X6_survey_68 {ct : Nat → Bool} {K : Kt} {R : Option AV → Hp → Prop} {n : Nat} {ls : List (Option AV)} {st : List AV} {σ : Hp} {k : Nat × Nat} : xe_X6_survey ct K R (n + 1) 68 ls st σ k = (oR st fun x st => (101 ≤ kd σ x ∨ kd σ x = 21) ∧ xk_X6_survey ct K R n 69 ls (vi (ln σ x) :: st) σ k) := exS_step.trans rfl
theorem ev_X6_survey_69 {ct : Nat → Bool} {K : Kt} {R : Option AV → Hp → Prop} {n : Nat} {ls : List (Option AV)} {st : List AV} {σ : Hp} {k : Nat × Nat} : xe_X6_survey ct K R (n + 1) 69 ls st σ k = (oI st fun y st => oI st fun x st => (wI y ≤ wI x → xk_X6_survey ct K R n 85 ls st σ k) ∧ (¬ (wI y ≤ wI x) → xk_X6_survey ct K R n 72 ls st σ k)) := exS_step.trans rfl
theorem ev_X6_survey_72 {ct : Nat → Bool} {K : Kt} {R : Option AV → Hp → Prop} {n : Nat} {ls : List (Option AV)} {st : List AV} {σ : Hp} {k : Nat × Nat} : xe_X6_survey ct K R (n + 1) 72 ls st σ k = (lR ls 0 fun x => xk_X6_survey ct K R n 73 ls (vr x :: st) σ k) := exS_step.trans rfl
theorem ev_X6_survey_73 {ct : Nat → Bool} {K : Kt} {R : Option AV → Hp → Prop} {n : Nat} {ls : List (Option AV)} {st : List AV} {σ : Hp} {k : Nat × Nat} : xe_X6_survey ct K R (n + 1) 73 ls st σ k = (oR st fun x st => kd σ x = 7 ∧ xk_X6_survey ct K R n 76 ls (vr (fR σ 701 x) :: st) σ k) := exS_step.trans rfl
theorem ev_X6_survey_76 {ct : Nat → Bool} {K : Kt} {R : Option AV → Hp → Prop} {n : Nat} {ls : List (Option AV)} {st : List AV} {σ : Hp} {k : Nat × Nat} : xe_X6_survey ct K R (n + 1) 76 ls st σ k = (lI ls 1 fun x => xk_X6_survey ct K R n 77 ls (vi x :: st) σ k) := exS_step.trans rfl
theorem ev_X6_survey_77 {ct : Nat → Bool} {K : Kt} {R : Option AV → Hp → Prop} {n : Nat} {ls : List (Option AV)} {st : List AV} {σ : Hp} {k : Nat × Nat} : xe_X6_survey ct K R (n + 1) 77 ls st σ k = (xk_X6_survey ct K R n 78 ls (vi (0) :: st) σ k) := exS_step.trans rfl
theorem ev_X6_survey_78 {ct : Nat → Bool} {K : Kt} {R : Option AV → Hp → Prop} {n : Nat} {ls : List (Option AV)} {st : List AV} {σ : Hp} {k : Nat × Nat} : xe_X6_survey ct K R (n + 1) 78 ls st σ k = (oI st fun v st => oI st fun j st => oR st fun x st => kd σ x = 101 ∧ (0 ≤ j ∧ j < ln σ x) ∧ xk_X6_survey ct K R n 79 ls st (qI σ x j v) k) := exS_step.trans rfl
theorem ev_X6_survey_79 {ct : Nat → Bool} {K : Kt} {R : Option AV → Hp → Prop} {n : Nat} {ls : List (Option AV)} {st : List AV} {σ : Hp} {k : Nat × Nat} : xe_X6_survey ct K R (n + 1) 79 ls st σ k = (lI ls 1 fun x => 1 < 3 ∧ xk_X6_survey ct K R n 82 (stL ls 1 (vi (x + (1)))) st σ k) := exS_step.trans rfl
theorem ev_X6_survey_82 {ct : Nat → Bool} {K : Kt} {R : Option AV → Hp → Prop} {n : Nat} {ls : List (Option AV)} {st : List AV} {σ : Hp} {k : Nat × Nat} : xe_X6_survey ct K R (n + 1) 82 ls st σ k = (xk_X6_survey ct K R n 63 ls st σ k) := exS_step.trans rfl
theorem ev_X6_survey_85 {ct : Nat → Bool} {K : Kt} {R : Option AV → Hp → Prop} {n : Nat} {ls : List (Option AV)} {st : List AV} {σ : Hp} {k : Nat × Nat} : xe_X6_survey ct K R (n + 1) 85 ls st σ k = (xk_X6_survey ct K R n 86 ls (vi (0) :: st) σ k) := exS_step.trans rfl
theorem ev_X6_survey_86 {ct : Nat → Bool} {K : Kt} {R : Option AV → Hp → Prop} {n : Nat} {ls : List (Option AV)} {st : List AV} {σ : Hp} {k : Nat × Nat} : xe_X6_survey ct K R (n + 1) 86 ls st σ k = (oI st fun x st => 1 < 3 ∧ xk_X6_survey ct K R n 87 (stL ls 1 (vi x)) st σ k) := exS_step.trans rfl
theorem ev_X6_survey_87 {ct : Nat → Bool} {K : Kt} {R : Option AV → Hp → Prop} {n : Nat} {ls : List (Option AV)} {st : List AV} {σ : Hp} {k : Nat × Nat} : xe_X6_survey ct K R (n + 1) 87 ls st σ k = (lI ls 1 fun x => xk_X6_survey ct K R n 88 ls (vi x :: st) σ k) := exS_step.trans rfl
theorem ev_X6_survey_88 {ct : Nat → Bool} {K : Kt} {R : Option AV → Hp → Prop} {n : Nat} {ls : List (Option AV)} {st : List AV} {σ : Hp} {k : Nat × Nat} : xe_X6_survey ct K R (n + 1) 88 ls st σ k = (lR ls 0 fun x => xk_X6_survey ct K R n 89 ls (vr x :: st) σ k) := exS_step.trans rfl
theorem ev_X6_survey_89 {ct : Nat → Bool} {K : Kt} {R : Option AV → Hp → Prop} {n : Nat} {ls : List (Option AV)} {st : List AV} {σ : Hp} {k : Nat × Nat} : xe_X6_survey ct K R (n + 1) 89 ls st σ k = (oR st fun x st => kd σ x = 7 ∧ xk_X6_survey ct K R n 92 ls (vr (fR σ 704 x) :: st) σ k) := exS_step.trans rfl
theorem ev_X6_survey_92 {ct : Nat → Bool} {K : Kt} {R : Option AV → Hp → Prop} {n : Nat} {ls : List (Option AV)} {st : List AV} {σ : Hp} {k : Nat × Nat} : xe_X6_survey ct K R (n + 1) 92 ls st σ k = (oR st fun x st => kd σ x = 4 ∧ xk_X6_survey ct K R n 95 ls (vr (fR σ 402 x) :: st) σ k) := exS_step.trans rfl
theorem ev_X6_survey_95 {ct : Nat → Bool} {K : Kt} {R : Option AV → Hp → Prop} {n : Nat} {ls : List (Option AV)} {st : List AV} {σ : Hp} {k : Nat × Nat} : xe_X6_survey ct K R (n + 1) 95 ls st σ k = (popN 1 st [] fun av rest => (catS rest ≤ 8 ∧ 1 < 4 ∧ k.1 + 0 ≤ 0 ∧ k.2 + 0 ≤ 0) ∧ (sp_Jx4a65c_size_8abf5) av σ fun v σ' => xk_X6_survey ct K R n 98 ls (v.toList ++ rest) σ' (k.1 + 0, k.2 + 0)) := exS_step.trans rfl
theorem ev_X6_survey_98 {ct : Nat → Bool} {K : Kt} {R : Option AV → Hp → Prop} {n : Nat} {ls : List (Option AV)} {st : List AV} {σ : Hp} {k : Nat × Nat} : xe_X6_survey ct K R (n + 1) 98 ls st σ k = (oI st fun y st => oI st fun x st => (wI y ≤ wI x → xk_X6_survey ct K R n 138 ls st σ k) ∧ (¬ (wI y ≤ wI x) → xk_X6_survey ct K R n 101 ls st σ k)) := exS_step.trans rfl
theorem ev_X6_survey_101 {ct : Nat → Bool} {K : Kt} {R : Option AV → Hp → Prop} {n : Nat} {ls : List (Option AV)} {st : List AV} {σ : Hp} {k : Nat × Nat} : xe_X6_survey ct K R (n + 1) 101 ls st σ k = (lR ls 0 fun x => xk_X6_survey ct K R n 102 ls (vr x :: st) σ k) := exS_step.trans rfl
theorem ev_X6_survey_102 {ct : Nat → Bool} {K : Kt} {R : Option AV → Hp → Prop} {n : Nat} {ls : List (Option AV)} {st : List AV} {σ : Hp} {k : Nat × Nat} : xe_X6_survey ct K R (n + 1) 102 ls st σ k = (oR st fun x st => kd σ x = 7 ∧ xk_X6_survey ct K R n 105 ls (vr (fR σ 704 x) :: st) σ k) := exS_step.trans rfl
theorem ev_X6_survey_105 {ct : Nat → Bool} {K : Kt} {R : Option AV → Hp → Prop} {n : Nat} {ls : List (Option AV)} {st : List AV} {σ : Hp} {k : Nat × Nat} : xe_X6_survey ct K R (n + 1) 105 ls st σ k = (oR st fun x st => kd σ x = 4 ∧ xk_X6_survey ct K R n 108 ls (vr (fR σ 402 x) :: st) σ k) := exS_step.trans rfl
theorem ev_X6_survey_108 {ct : Nat → Bool} {K : Kt} {R : Option AV → Hp → Prop} {n : Nat} {ls : List (Option AV)} {st : List AV} {σ : Hp} {k : Nat × Nat} : xe_X6_survey ct K R (n + 1) 108 ls st σ k = (lI ls 1 fun x => xk_X6_survey ct K R n 109 ls (vi x :: st) σ k) := exS_step.trans rfl
theorem ev_X6_survey_109 {ct : Nat → Bool} {K : Kt} {R : Option AV → Hp → Prop} {n : Nat} {ls : List (Option AV)} {st : List AV} {σ : Hp} {k : Nat × Nat} : xe_X6_survey ct K R (n + 1) 109 ls st σ k = (popN 2 st [] fun av rest => (catS rest ≤ 8 ∧ 3 < 4 ∧ k.1 + 0 ≤ 0 ∧ k.2 + 0 ≤ 0) ∧ (sp_Jx4a65c_get_915e3) av σ fun v σ' => xk_X6_survey ct K R n 112 ls (v.toList ++ rest) σ' (k.1 + 0, k.2 + 0)) := exS_step.trans rfl
theorem ev_X6_survey_112 {ct : Nat → Bool} {K : Kt} {R : Option AV → Hp → Prop} {n : Nat} {ls : List (Option AV)} {st : List AV} {σ : Hp} {k : Nat × Nat} : xe_X6_survey ct K R (n + 1) 112 ls st σ k = (oR st fun x st => kd σ x = 6 ∧ xk_X6_survey ct K R n 115 ls (vr x :: st) σ k) := exS_step.trans rfl
theorem ev_X6_survey_115 {ct : Nat → Bool} {K : Kt} {R : Option AV → Hp → Prop} {n : Nat} {ls : List (Option AV)} {st : List AV} {σ : Hp} {k : Nat × Nat} : xe_X6_survey ct K R (n + 1) 115 ls st σ k = (oR st fun x st => 2 < 3 ∧ xk_X6_survey ct K R n 116 (stL ls 2 (vr x)) st σ k) := exS_step.trans rfl
theorem ev_X6_survey_116 {ct : Nat → Bool} {K : Kt} {R : Option AV → Hp → Prop} {n : Nat} {ls : List (Option AV)} {st : List AV} {σ : Hp} {k : Nat × Nat} : xe_X6_survey ct K R (n + 1) 116 ls st σ k = (lR ls 2 fun x => xk_X6_survey ct K R n 117 ls (vr x :: st) σ k) := exS_step.trans rfl
theorem ev_X6_survey_117 {ct : Nat → Bool} {K : Kt} {R : Option AV → Hp → Prop} {n : Nat} {ls : List (Option AV)} {st : List AV} {σ : Hp} {k : Nat × Nat} : xe_X6_survey ct K R (n + 1) 117 ls st σ k = (xk_X6_survey ct K R n 118 ls (vi (0) :: st) σ k) := exS_step.trans rfl
theorem ev_X6_survey_118 {ct : Nat → Bool} {K : Kt} {R : Option AV → Hp → Prop} {n : Nat} {ls : List (Option AV)} {st : List AV} {σ : Hp} {k : Nat × Nat} : xe_X6_survey ct K R (n + 1) 118 ls st σ k = (popN 2 st [] fun av rest => (catS rest ≤ 8 ∧ 1 < 4 ∧ k.1 + 0 ≤ 0 ∧ k.2 + 0 ≤ 0) ∧ (sp_X5_isIn) av σ fun v σ' => xk_X6_survey ct K R n 121 ls (v.toList ++ rest) σ' (k.1 + 0, k.2 + 0)) := exS_step.trans rfl
theorem ev_X6_survey_121 {ct : Nat → Bool} {K : Kt} {R : Option AV → Hp → Prop} {n : Nat} {ls : List (Option AV)} {st : List AV} {σ : Hp} {k : Nat × Nat} : xe_X6_survey ct K R (n + 1) 121 ls st σ k = (oI st fun x st => (wI x = wI 0 → xk_X6_survey ct K R n 132 ls st σ k) ∧ (¬ (wI x = wI 0) → xk_X6_survey ct K R n 124 ls st σ k)) := exS_step.trans rfl
theorem ev_X6_survey_124 {ct : Nat → Bool} {K : Kt} {R : Option AV → Hp → Prop} {n : Nat} {ls : List (Option AV)} {st : List AV} {σ : Hp} {k : Nat × Nat} : xe_X6_survey ct K R (n + 1) 124 ls st σ k = (lR ls 0 fun x => xk_X6_survey ct K R n 125 ls (vr x :: st) σ k) := exS_step.trans rfl
theorem ev_X6_survey_125 {ct : Nat → Bool} {K : Kt} {R : Option AV → Hp → Prop} {n : Nat} {ls : List (Option AV)} {st : List AV} {σ : Hp} {k : Nat × Nat} : xe_X6_survey ct K R (n + 1) 125 ls st σ k = (lR ls 2 fun x => xk_X6_survey ct K R n 126 ls (vr x :: st) σ k) := exS_step.trans rfl
theorem ev_X6_survey_126 {ct : Nat → Bool} {K : Kt} {R : Option AV → Hp → Prop} {n : Nat} {ls : List (Option AV)} {st : List AV} {σ : Hp} {k : Nat × Nat} : xe_X6_survey ct K R (n + 1) 126 ls st σ k = (oR st fun x st => kd σ x = 6 ∧ xk_X6_survey ct K R n 129 ls (vi (fI σ 602 x) :: st) σ k) := exS_step.trans rfl
theorem ev_X6_survey_129 {ct : Nat → Bool} {K : Kt} {R : Option AV → Hp → Prop} {n : Nat} {ls : List (Option AV)} {st : List AV} {σ : Hp} {k : Nat × Nat} : xe_X6_survey ct K R (n + 1) 129 ls st σ k = (popN 2 st [] fun av rest => (catS rest ≤ 8 ∧ 1 < 4 ∧ k.1 + 0 ≤ 0 ∧ k.2 + 0 ≤ 0) ∧ (sp_X6_putEngine) av σ fun v σ' => xk_X6_survey ct K R n 132 ls (v.toList ++ rest) σ' (k.1 + 0, k.2 + 0)) := exS_step.trans rfl
theorem ev_X6_survey_132 {ct : Nat → Bool} {K : Kt} {R : Option AV → Hp → Prop} {n : Nat} {ls : List (Option AV)} {st : List AV} {σ : Hp} {k : Nat × Nat} : xe_X6_survey ct K R (n + 1) 132 ls st σ k = (lI ls 1 fun x => 1 < 3 ∧ xk_X6_survey ct K R n 135 (stL ls 1 (vi (x + (1)))) st σ k) := exS_step.trans rfl
theorem ev_X6_survey_135 {ct : Nat → Bool} {K : Kt} {R : Option AV → Hp → Prop} {n : Nat} {ls : List (Option AV)} {st : List AV} {σ : Hp} {k : Nat × Nat} : xe_X6_survey ct K R (n + 1) 135 ls st σ k = (xk_X6_survey ct K R n 87 ls st σ k) := exS_step.trans rfl
theorem ev_X6_survey_138 {ct : Nat → Bool} {K : Kt} {R : Option AV → Hp → Prop} {n : Nat} {ls : List (Option AV)} {st : List AV} {σ : Hp} {k : Nat × Nat} : xe_X6_survey ct K R (n + 1) 138 ls st σ k = (lR ls 0 fun x => xk_X6_survey ct K R n 139 ls (vr x :: st) σ k) := exS_step.trans rfl
theorem ev_X6_survey_139 {ct : Nat → Bool} {K : Kt} {R : Option AV → Hp → Prop} {n : Nat} {ls : List (Option AV)} {st : List AV} {σ : Hp} {k : Nat × Nat} : xe_X6_survey ct K R (n + 1) 139 ls st σ k = (lR ls 0 fun x => xk_X6_survey ct K R n 140 ls (vr x :: st) σ k) := exS_step.trans rfl
theorem ev_X6_survey_140 {ct : Nat → Bool} {K : Kt} {R : Option AV → Hp → Prop} {n : Nat} {ls : List (Option AV)} {st : List AV} {σ : Hp} {k : Nat × Nat} : xe_X6_survey ct K R (n + 1) 140 ls st σ k = (oR st fun x st => kd σ x = 7 ∧ xk_X6_survey ct K R n 143 ls (vi (fI σ 707 x) :: st) σ k) := exS_step.trans rfl
theorem ev_X6_survey_143 {ct : Nat → Bool} {K : Kt} {R : Option AV → Hp → Prop} {n : Nat} {ls : List (Option AV)} {st : List AV} {σ : Hp} {k : Nat × Nat} : xe_X6_survey ct K R (n + 1) 143 ls st σ k = (oI st fun v st => oR st fun x st => kd σ x = 7 ∧ xk_X6_survey ct K R n 146 ls st (pI σ 708 x v) k) := exS_step.trans rfl
theorem ev_X6_survey_146 {ct : Nat → Bool} {K : Kt} {R : Option AV → Hp → Prop} {n : Nat} {ls : List (Option AV)} {st : List AV} {σ : Hp} {k : Nat × Nat} : xe_X6_survey ct K R (n + 1) 146 ls st σ k = (st = [] ∧ 0 = 0 ∧ R none σ) := exS_step.trans rfl
def M_X6_survey : Md := (yX6_survey, cX6_survey, 3, (none : Option FieldType), 4, 0, 0, 0, false, tb_X6_survey, mt_X6_survey)
theorem mm_X6_survey : MMOK M_X6_survey := ⟨by decide +kernel, tk_X6_survey, mk_X6_survey, rfl, fun h => by cases h⟩
theorem go_X6_survey {Q : Option AV → Hp → Prop} {ct : Nat → Bool} {pc : Nat} {ls : List (Option AV)} {st : List AV} {σ : Hp} {k : Nat × Nat} (n : Nat) (h : xe_X6_survey ct (Go M_X6_survey Q) Q n pc ls st σ k) : Go M_X6_survey Q pc ls st σ k := Go.exS mm_X6_survey h

set_option maxRecDepth 20000 in
theorem sur_87 {Q : Option AV → Hp → Prop} {σ τ : Hp} (hC : CLay σ) (hG : BG σ τ) (hI : MI τ) (h : ∀ σ', Fz surF surA noR σ σ' → NR σ' τ → CVS (fI τ 1335 61).toNat (mEng τ) (aI τ 89) σ' → TKn σ' τ → Q none σ') : ∀ (m k : Nat) (ρ : Hp) (a2 : Option AV), (k : Int) + m = fI τ 1335 61 → Fz surF surA noR σ ρ → NR ρ τ → CVS k (mEng τ) (aI τ 89) ρ → Go M_X6_survey Q 87 [some (vr 19), some (vi k), a2] [] ρ (0, 0) := by
  have hs := hI.companies_s
  intro m
  induction m with
  | zero =>
    intro k ρ a2 hk2 hz hN hV
    have e : (fI τ 1335 61).toNat = k := by omega
    rw [e] at h
    have hC2 := hC.fz hz (by decide)
    have hk : kd ρ 19 = 7 := by simp only [hC2.eqs]
    have hL2 := hG.1.fz hz (by decide) (by decide) (by decide)
    have hsz : fI ρ 1402 18 = fI τ 1335 61 := by rw [hz.fI (by decide)]; exact hG.2.1
    have hz2 : Fz surF surA noR ρ (pI ρ 708 19 (fI ρ 707 19)) := Fz_pI _ _ _ (by decide)
    have h := h _ (hz.tr hz2) (by unfold NR at hN ⊢; simp only [fI_pI, aI_pI, Nat.reduceEqDiff, false_and, if_false]; exact hN) (by unfold CVS at hV ⊢; simp only [fI_pI, aI_pI, Nat.reduceEqDiff, false_and, if_false]; exact hV) (by unfold TKn; rw [fI_pI, if_pos ⟨rfl, rfl⟩, e]; exact hV.2)
    clear hN hV hz2
    refine go_X6_survey (ct := fun p => p == 101) 60 ?_
    simp only [oI, oL, oR, o1, lI, lL, lR, popN, catS, gv, stL, stL2, swt, cnd, spObj, List.getElem?_cons_zero, List.getElem?_cons_succ, List.getD_cons_zero, List.getD_cons_succ, List.set_cons_zero, List.set_cons_succ, List.nil_append, List.cons_append, Option.toList, Bool.or_false, Bool.false_or, Bool.or_true, Bool.true_or, Nat.reduceBEq, Nat.reduceAdd, Nat.reduceLT, Nat.reduceLeDiff, Int.reduceAdd, Int.reduceToNat, true_and, and_true, Fin.isValue, Fin.val_zero, Fin.val_one, Fin.val_two, Fin.reduceFinMk, eq_self, Int.reduceNeg, imp_self, Nat.reduceMul, Nat.le_refl, not_true_eq_false, not_false_eq_true, List.getElem?_nil, reduceCtorEq, true_or, or_true, Classical.not_not, implies_true, or_self, wI_0, wI_1, wI_m1, b2i_w, b2i_eq0, b2i_eq1, b2i_bool, nor_self, nx_pI, kd_pI, ln_pI, fI_pI, fL_pI, fR_pI, aI_pI, aL_pI, aR_pI, nx_pL, kd_pL, ln_pL, fI_pL, fL_pL, fR_pL, aI_pL, aL_pL, aR_pL, nx_pR, kd_pR, ln_pR, fI_pR, fL_pR, fR_pR, aI_pR, aL_pR, aR_pR, nx_qI, kd_qI, ln_qI, fI_qI, fL_qI, fR_qI, aI_qI, aL_qI, aR_qI, nx_qL, kd_qL, ln_qL, fI_qL, fL_qL, fR_qL, aI_qL, aL_qL, aR_qL, nx_qR, kd_qR, ln_qR, fI_qR, fL_qR, fR_qR, aI_qR, aL_qR, aR_qR, nx_mk, kd_mk, ln_mk, fI_mk, fL_mk, fR_mk, aI_mk, aL_mk, aR_mk, false_and, and_false, if_false, if_true, and_self, Int.reduceEq, Nat.reduceEqDiff, ite_self, MLay_pI, MLay_pL, MLay_qI, MLay_qL, ev_X6_survey_87, ev_X6_survey_88, ev_X6_survey_89, ev_X6_survey_92, ev_X6_survey_95, ev_X6_survey_98, ev_X6_survey_138, ev_X6_survey_139, ev_X6_survey_140, ev_X6_survey_143, ev_X6_survey_146, xt_X6_survey, xf_X6_survey, us_Jx4a65c_size_8abf5, us_J9_min_7cf53, us_Jx4a65c_get_915e3, us_X6_housesNear, us_X5_isIn, us_X6_putEngine, hC2.eqs, hsz]
    try simp (disch := omega) only [wI_id, dv_nn, rm_nn]
    repeat' (first | intro z | apply And.intro)
    all_goals try omega
    all_goals try contradiction
    all_goals exact h
  | succ m ih =>
    intro k ρ a2 hk2 hz hN hV
    have hC2 := hC.fz hz (by decide)
    have hk : kd ρ 19 = 7 := by simp only [hC2.eqs]
    have hL2 := hG.1.fz hz (by decide) (by decide) (by decide)
    have hLe : ∃ ci, LOk ρ 18 ci := ⟨5, hL2⟩
    have hlt := lat_fz hz (by decide)
    have hsz : fI ρ 1402 18 = fI τ 1335 61 := by rw [hz.fI (by decide)]; exact hG.2.1
    have hkc : kd ρ (lat σ 18 k) = 6 := by rw [hz.kd]; exact hG.1.2.2.2.2.2 k (by omega) (by have := hG.2.1; omega)
    obtain ⟨c1, c2, c3, c4, c5, c6⟩ := hG.2.2.1 k (by omega) (by omega)
    have f1 : fI ρ 603 = fI σ 603 := hz.fI (by decide)
    have f2 : fI ρ 600 = fI σ 600 := hz.fI (by decide)
    have f3 : fI ρ 602 = fI σ 602 := hz.fI (by decide)
    have hK := hI.companyKind_ k
    have hS : 0 ≤ fI σ 603 (lat σ 18 k) ∧ fI σ 603 (lat σ 18 k) ≤ 1 := by
      by_cases z : aI τ 89 k < 0
      · have := (c4 z).1; omega
      · have := (c5 (by omega)).1; omega
    have hcs : ∀ v, cnt (k + 1) (mEng τ) (aI τ 89) v = cnt k (mEng τ) (aI τ 89) v + b2i (mEng τ k ∧ aI τ 89 k = v) := fun v => rfl
    by_cases y : fI σ 603 (lat σ 18 k) = 0 ∧ fI σ 600 (lat σ 18 k) = 0
    · have y0 : 0 ≤ aI τ 89 k := by
        by_cases z : aI τ 89 k < 0
        · have := (c4 z).1; omega
        · omega
      have hst := (c5 y0).2
      have hz2 : Fz surF surA noR ρ (cPut ρ (aI τ 89 k)) := Fz.tr (Fz_qI (fs := surF) _ _ _ (Or.inr rfl)) (Fz_pI (fs := surF) (f := 707) _ _ _ (by decide))
      have w := ih (k + 1) (cPut ρ (aI τ 89 k)) (some (vr (lat σ 18 k))) (by omega) (hz.tr hz2) (by
          unfold NR cPut at *
          simp only [fI_pI, aI_pI, fI_qI, aI_qI, Nat.reduceEqDiff, Int.reduceEq, false_and, if_false]
          exact hN) (CVS_put' hV (by omega) (fun v => by
          rw [hcs v]
          congr 1
          by_cases e : v = aI τ 89 k
          · rw [if_pos e, b2i_t ⟨⟨by omega, y0⟩, e.symm⟩]
          · rw [if_neg e, b2i_f (fun z => e z.2.symm)]))
      clear ih h hN hV hz2 c4 c5 hcs
      refine go_X6_survey (ct := fun p => p == 138 || p == 87) 60 ?_
      simp only [oI, oL, oR, o1, lI, lL, lR, popN, catS, gv, stL, stL2, swt, cnd, spObj, List.getElem?_cons_zero, List.getElem?_cons_succ, List.getD_cons_zero, List.getD_cons_succ, List.set_cons_zero, List.set_cons_succ, List.nil_append, List.cons_append, Option.toList, Bool.or_false, Bool.false_or, Bool.or_true, Bool.true_or, Nat.reduceBEq, Nat.reduceAdd, Nat.reduceLT, Nat.reduceLeDiff, Int.reduceAdd, Int.reduceToNat, true_and, and_true, Fin.isValue, Fin.val_zero, Fin.val_one, Fin.val_two, Fin.reduceFinMk, eq_self, Int.reduceNeg, imp_self, Nat.reduceMul, Nat.le_refl, not_true_eq_false, not_false_eq_true, List.getElem?_nil, reduceCtorEq, true_or, or_true, Classical.not_not, implies_true, or_self, wI_0, wI_1, wI_m1, b2i_w, b2i_eq0, b2i_eq1, b2i_bool, nor_self, nx_pI, kd_pI, ln_pI, fI_pI, fL_pI, fR_pI, aI_pI, aL_pI, aR_pI, nx_pL, kd_pL, ln_pL, fI_pL, fL_pL, fR_pL, aI_pL, aL_pL, aR_pL, nx_pR, kd_pR, ln_pR, fI_pR, fL_pR, fR_pR, aI_pR, aL_pR, aR_pR, nx_qI, kd_qI, ln_qI, fI_qI, fL_qI, fR_qI, aI_qI, aL_qI, aR_qI, nx_qL, kd_qL, ln_qL, fI_qL, fL_qL, fR_qL, aI_qL, aL_qL, aR_qL, nx_qR, kd_qR, ln_qR, fI_qR, fL_qR, fR_qR, aI_qR, aL_qR, aR_qR, nx_mk, kd_mk, ln_mk, fI_mk, fL_mk, fR_mk, aI_mk, aL_mk, aR_mk, false_and, and_false, if_false, if_true, and_self, Int.reduceEq, Nat.reduceEqDiff, ite_self, MLay_pI, MLay_pL, MLay_qI, MLay_qL, ev_X6_survey_87, ev_X6_survey_88, ev_X6_survey_89, ev_X6_survey_92, ev_X6_survey_95, ev_X6_survey_98, ev_X6_survey_101, ev_X6_survey_102, ev_X6_survey_105, ev_X6_survey_108, ev_X6_survey_109, ev_X6_survey_112, ev_X6_survey_115, ev_X6_survey_116, ev_X6_survey_117, ev_X6_survey_118, ev_X6_survey_121, ev_X6_survey_124, ev_X6_survey_125, ev_X6_survey_126, ev_X6_survey_129, ev_X6_survey_132, ev_X6_survey_135, xt_X6_survey, xf_X6_survey, us_Jx4a65c_size_8abf5, us_J9_min_7cf53, us_Jx4a65c_get_915e3, us_X6_housesNear, us_X5_isIn, us_X6_putEngine, hC2.eqs, hC2, hsz, hLe, hlt, hkc, f1, f2, f3, y, hst]
      try simp (disch := omega) only [wI_id, dv_nn, rm_nn]
      repeat' (first | intro z | apply And.intro)
      all_goals try omega
      all_goals try contradiction
      all_goals exact w
    · have w := ih (k + 1) ρ (some (vr (lat σ 18 k))) (by omega) hz hN (by
          unfold CVS at hV ⊢
          have : ∀ v, cnt (k + 1) (mEng τ) (aI τ 89) v = cnt k (mEng τ) (aI τ 89) v := fun v => by
            rw [hcs v, b2i_f, Int.add_zero]
            rintro ⟨⟨z1, z2⟩, -⟩
            exact y ⟨(c5 z2).1, by omega⟩
          simp only [this]
          exact hV)
      clear ih h hN hV c4 c5 hcs
      refine go_X6_survey (ct := fun p => p == 138 || p == 87 || p == 124) 60 ?_
      simp only [oI, oL, oR, o1, lI, lL, lR, popN, catS, gv, stL, stL2, swt, cnd, spObj, List.getElem?_cons_zero, List.getElem?_cons_succ, List.getD_cons_zero, List.getD_cons_succ, List.set_cons_zero, List.set_cons_succ, List.nil_append, List.cons_append, Option.toList, Bool.or_false, Bool.false_or, Bool.or_true, Bool.true_or, Nat.reduceBEq, Nat.reduceAdd, Nat.reduceLT, Nat.reduceLeDiff, Int.reduceAdd, Int.reduceToNat, true_and, and_true, Fin.isValue, Fin.val_zero, Fin.val_one, Fin.val_two, Fin.reduceFinMk, eq_self, Int.reduceNeg, imp_self, Nat.reduceMul, Nat.le_refl, not_true_eq_false, not_false_eq_true, List.getElem?_nil, reduceCtorEq, true_or, or_true, Classical.not_not, implies_true, or_self, wI_0, wI_1, wI_m1, b2i_w, b2i_eq0, b2i_eq1, b2i_bool, nor_self, nx_pI, kd_pI, ln_pI, fI_pI, fL_pI, fR_pI, aI_pI, aL_pI, aR_pI, nx_pL, kd_pL, ln_pL, fI_pL, fL_pL, fR_pL, aI_pL, aL_pL, aR_pL, nx_pR, kd_pR, ln_pR, fI_pR, fL_pR, fR_pR, aI_pR, aL_pR, aR_pR, nx_qI, kd_qI, ln_qI, fI_qI, fL_qI, fR_qI, aI_qI, aL_qI, aR_qI, nx_qL, kd_qL, ln_qL, fI_qL, fL_qL, fR_qL, aI_qL, aL_qL, aR_qL, nx_qR, kd_qR, ln_qR, fI_qR, fL_qR, fR_qR, aI_qR, aL_qR, aR_qR, nx_mk, kd_mk, ln_mk, fI_mk, fL_mk, fR_mk, aI_mk, aL_mk, aR_mk, false_and, and_false, if_false, if_true, and_self, Int.reduceEq, Nat.reduceEqDiff, ite_self, MLay_pI, MLay_pL, MLay_qI, MLay_qL, ev_X6_survey_87, ev_X6_survey_88, ev_X6_survey_89, ev_X6_survey_92, ev_X6_survey_95, ev_X6_survey_98, ev_X6_survey_101, ev_X6_survey_102, ev_X6_survey_105, ev_X6_survey_108, ev_X6_survey_109, ev_X6_survey_112, ev_X6_survey_115, ev_X6_survey_116, ev_X6_survey_117, ev_X6_survey_118, ev_X6_survey_121, ev_X6_survey_124, ev_X6_survey_125, ev_X6_survey_126, ev_X6_survey_129, ev_X6_survey_132, ev_X6_survey_135, xt_X6_survey, xf_X6_survey, us_Jx4a65c_size_8abf5, us_J9_min_7cf53, us_Jx4a65c_get_915e3, us_X6_housesNear, us_X5_isIn, us_X6_putEngine, hC2.eqs, hC2, hsz, hLe, hlt, hkc, f1, f2, f3, y]
      try simp (disch := omega) only [wI_id, dv_nn, rm_nn]
      repeat' (first | intro z | apply And.intro)
      all_goals try omega
      all_goals try contradiction
      all_goals exact w

set_option maxRecDepth 20000 in
theorem sur_63 {Q : Option AV → Hp → Prop} {σ τ : Hp} (hC : CLay σ) (hG : BG σ τ) (hI : MI τ) (h : ∀ σ', Fz surF surA noR σ σ' → NR σ' τ → CVS (fI τ 1335 61).toNat (mEng τ) (aI τ 89) σ' → TKn σ' τ → Q none σ') : ∀ (m k : Nat) (ρ : Hp) (a2 : Option AV), k + m = 12 → Fz surF surA noR σ ρ → NR ρ τ → fI ρ 707 19 = 0 → (∀ j, 0 ≤ j → j < (k : Int) → aI ρ 21 j = 0) → Go M_X6_survey Q 63 [some (vr 19), some (vi k), a2] [] ρ (0, 0) := by
  intro m
  induction m with
  | zero =>
    intro k ρ a2 hk2 hz hN hM hE
    have e : k = 12 := by omega
    subst e
    have hC2 := hC.fz hz (by decide)
    have hk : kd ρ 19 = 7 := by simp only [hC2.eqs]
    have hs := hI.companies_s
    have w := sur_87 (Q := Q) hC hG hI h (fI τ 1335 61).toNat 0 ρ a2 (by omega) hz hN ⟨fun u a b => by rw [hE u a (by omega)]; rfl, fun j => by
      rw [hM, btb_0]
      constructor
      · intro q; cases q
      · rintro ⟨-, q⟩
        exact absurd q (by show ¬ (0 : Int) < 0; omega)⟩
    have w : Go M_X6_survey Q 87 [some (vr 19), some (vi 0), a2] [] ρ (0, 0) := w
    clear h hN hE
    refine go_X6_survey (ct := fun p => p == 87 || p == 72) 40 ?_
    simp only [oI, oL, oR, o1, lI, lL, lR, popN, catS, gv, stL, stL2, swt, cnd, spObj, List.getElem?_cons_zero, List.getElem?_cons_succ, List.getD_cons_zero, List.getD_cons_succ, List.set_cons_zero, List.set_cons_succ, List.nil_append, List.cons_append, Option.toList, Bool.or_false, Bool.false_or, Bool.or_true, Bool.true_or, Nat.reduceBEq, Nat.reduceAdd, Nat.reduceLT, Nat.reduceLeDiff, Int.reduceAdd, Int.reduceToNat, true_and, and_true, Fin.isValue, Fin.val_zero, Fin.val_one, Fin.val_two, Fin.reduceFinMk, eq_self, Int.reduceNeg, imp_self, Nat.reduceMul, Nat.le_refl, not_true_eq_false, not_false_eq_true, List.getElem?_nil, reduceCtorEq, true_or, or_true, Classical.not_not, implies_true, or_self, wI_0, wI_1, wI_m1, b2i_w, b2i_eq0, b2i_eq1, b2i_bool, nor_self, nx_pI, kd_pI, ln_pI, fI_pI, fL_pI, fR_pI, aI_pI, aL_pI, aR_pI, nx_pL, kd_pL, ln_pL, fI_pL, fL_pL, fR_pL, aI_pL, aL_pL, aR_pL, nx_pR, kd_pR, ln_pR, fI_pR, fL_pR, fR_pR, aI_pR, aL_pR, aR_pR, nx_qI, kd_qI, ln_qI, fI_qI, fL_qI, fR_qI, aI_qI, aL_qI, aR_qI, nx_qL, kd_qL, ln_qL, fI_qL, fL_qL, fR_qL, aI_qL, aL_qL, aR_qL, nx_qR, kd_qR, ln_qR, fI_qR, fL_qR, fR_qR, aI_qR, aL_qR, aR_qR, nx_mk, kd_mk, ln_mk, fI_mk, fL_mk, fR_mk, aI_mk, aL_mk, aR_mk, false_and, and_false, if_false, if_true, and_self, Int.reduceEq, Nat.reduceEqDiff, ite_self, MLay_pI, MLay_pL, MLay_qI, MLay_qL, ev_X6_survey_63, ev_X6_survey_64, ev_X6_survey_65, ev_X6_survey_68, ev_X6_survey_69, ev_X6_survey_72, ev_X6_survey_73, ev_X6_survey_76, ev_X6_survey_77, ev_X6_survey_78, ev_X6_survey_79, ev_X6_survey_82, ev_X6_survey_85, ev_X6_survey_86, xt_X6_survey, xf_X6_survey, us_Jx4a65c_size_8abf5, us_J9_min_7cf53, us_Jx4a65c_get_915e3, us_X6_housesNear, us_X5_isIn, us_X6_putEngine, hC2.eqs]
    try simp (disch := omega) only [wI_id, dv_nn, rm_nn]
    repeat' (first | intro z | apply And.intro)
    all_goals try omega
    all_goals try contradiction
    all_goals exact w
  | succ m ih =>
    intro k ρ a2 hk2 hz hN hM hE
    have hC2 := hC.fz hz (by decide)
    have hk : kd ρ 19 = 7 := by simp only [hC2.eqs]
    have hz2 : Fz surF surA noR ρ (qI ρ 21 k 0) := Fz_qI _ _ _ (Or.inr rfl)
    have w := ih (k + 1) (qI ρ 21 k 0) a2 (by omega) (hz.tr hz2) (by
      unfold NR at *
      simp only [fI_qI, aI_qI, Int.reduceEq, false_and, if_false]
      exact hN) (by rw [fI_qI]; exact hM) (fun j a b => by
      rw [aI_qI]
      by_cases e : j = k
      · rw [if_pos ⟨rfl, e⟩]
      · rw [if_neg (fun z => e z.2)]; exact hE j a (by omega))
    clear h hN hE ih hz2
    refine go_X6_survey (ct := fun p => p == 85 || p == 63) 40 ?_
    simp only [oI, oL, oR, o1, lI, lL, lR, popN, catS, gv, stL, stL2, swt, cnd, spObj, List.getElem?_cons_zero, List.getElem?_cons_succ, List.getD_cons_zero, List.getD_cons_succ, List.set_cons_zero, List.set_cons_succ, List.nil_append, List.cons_append, Option.toList, Bool.or_false, Bool.false_or, Bool.or_true, Bool.true_or, Nat.reduceBEq, Nat.reduceAdd, Nat.reduceLT, Nat.reduceLeDiff, Int.reduceAdd, Int.reduceToNat, true_and, and_true, Fin.isValue, Fin.val_zero, Fin.val_one, Fin.val_two, Fin.reduceFinMk, eq_self, Int.reduceNeg, imp_self, Nat.reduceMul, Nat.le_refl, not_true_eq_false, not_false_eq_true, List.getElem?_nil, reduceCtorEq, true_or, or_true, Classical.not_not, implies_true, or_self, wI_0, wI_1, wI_m1, b2i_w, b2i_eq0, b2i_eq1, b2i_bool, nor_self, nx_pI, kd_pI, ln_pI, fI_pI, fL_pI, fR_pI, aI_pI, aL_pI, aR_pI, nx_pL, kd_pL, ln_pL, fI_pL, fL_pL, fR_pL, aI_pL, aL_pL, aR_pL, nx_pR, kd_pR, ln_pR, fI_pR, fL_pR, fR_pR, aI_pR, aL_pR, aR_pR, nx_qI, kd_qI, ln_qI, fI_qI, fL_qI, fR_qI, aI_qI, aL_qI, aR_qI, nx_qL, kd_qL, ln_qL, fI_qL, fL_qL, fR_qL, aI_qL, aL_qL, aR_qL, nx_qR, kd_qR, ln_qR, fI_qR, fL_qR, fR_qR, aI_qR, aL_qR, aR_qR, nx_mk, kd_mk, ln_mk, fI_mk, fL_mk, fR_mk, aI_mk, aL_mk, aR_mk, false_and, and_false, if_false, if_true, and_self, Int.reduceEq, Nat.reduceEqDiff, ite_self, MLay_pI, MLay_pL, MLay_qI, MLay_qL, ev_X6_survey_63, ev_X6_survey_64, ev_X6_survey_65, ev_X6_survey_68, ev_X6_survey_69, ev_X6_survey_72, ev_X6_survey_73, ev_X6_survey_76, ev_X6_survey_77, ev_X6_survey_78, ev_X6_survey_79, ev_X6_survey_82, xt_X6_survey, xf_X6_survey, us_Jx4a65c_size_8abf5, us_J9_min_7cf53, us_Jx4a65c_get_915e3, us_X6_housesNear, us_X5_isIn, us_X6_putEngine, hC2.eqs]
    try simp (disch := omega) only [wI_id, dv_nn, rm_nn]
    repeat' (first | intro z | apply And.intro)
    all_goals try omega
    all_goals try contradiction
    all_goals exact w

set_option maxRecDepth 20000 in
theorem sur_21 {Q : Option AV → Hp → Prop} {σ τ : Hp} (hC : CLay σ) (hB : BX σ τ) (hG : BG σ τ) (hI : MI τ) (h : ∀ σ', Fz surF surA noR σ σ' → NR σ' τ → CVS (fI τ 1335 61).toNat (mEng τ) (aI τ 89) σ' → TKn σ' τ → Q none σ') : ∀ (m k : Nat) (ρ : Hp) (a2 : Option AV), (k : Int) + m = fI τ 1302 61 → Fz surF surA noR σ ρ → fI ρ 706 19 = fI τ 1302 61 → (∀ i, 0 ≤ i → i < (k : Int) → ∀ j : Nat, btb (aI ρ 20 i) j = true ↔ ((j : Int) < fI τ 1332 61 ∧ mWay τ j i ≤ fI τ 1342 61)) → Go M_X6_survey Q 21 [some (vr 19), some (vi k), a2] [] ρ (0, 0) := by
  have hbs := hI.boxes_s
  intro m
  induction m with
  | zero =>
    intro k ρ a2 hk2 hz hN hE
    have hC2 := hC.fz hz (by decide)
    have hk : kd ρ 19 = 7 := by simp only [hC2.eqs]
    have hz2 : Fz surF surA noR ρ (pI ρ 707 19 0) := Fz_pI _ _ _ (by decide)
    have w := sur_63 (Q := Q) hC hG hI h 12 0 (pI ρ 707 19 0) a2 rfl (hz.tr hz2) (by
      unfold NR
      simp only [fI_pI, aI_pI, Nat.reduceEqDiff, false_and, if_false]
      refine ⟨hN, fun i a b => hE i a (by omega)⟩) (by rw [fI_pI, if_pos ⟨rfl, rfl⟩]) (fun j a b => by omega)
    have w : Go M_X6_survey Q 63 [some (vr 19), some (vi 0), a2] [] (pI ρ 707 19 0) (0, 0) := w
    clear h hE hz2
    refine go_X6_survey (ct := fun p => p == 63 || p == 29) 40 ?_
    simp only [oI, oL, oR, o1, lI, lL, lR, popN, catS, gv, stL, stL2, swt, cnd, spObj, List.getElem?_cons_zero, List.getElem?_cons_succ, List.getD_cons_zero, List.getD_cons_succ, List.set_cons_zero, List.set_cons_succ, List.nil_append, List.cons_append, Option.toList, Bool.or_false, Bool.false_or, Bool.or_true, Bool.true_or, Nat.reduceBEq, Nat.reduceAdd, Nat.reduceLT, Nat.reduceLeDiff, Int.reduceAdd, Int.reduceToNat, true_and, and_true, Fin.isValue, Fin.val_zero, Fin.val_one, Fin.val_two, Fin.reduceFinMk, eq_self, Int.reduceNeg, imp_self, Nat.reduceMul, Nat.le_refl, not_true_eq_false, not_false_eq_true, List.getElem?_nil, reduceCtorEq, true_or, or_true, Classical.not_not, implies_true, or_self, wI_0, wI_1, wI_m1, b2i_w, b2i_eq0, b2i_eq1, b2i_bool, nor_self, nx_pI, kd_pI, ln_pI, fI_pI, fL_pI, fR_pI, aI_pI, aL_pI, aR_pI, nx_pL, kd_pL, ln_pL, fI_pL, fL_pL, fR_pL, aI_pL, aL_pL, aR_pL, nx_pR, kd_pR, ln_pR, fI_pR, fL_pR, fR_pR, aI_pR, aL_pR, aR_pR, nx_qI, kd_qI, ln_qI, fI_qI, fL_qI, fR_qI, aI_qI, aL_qI, aR_qI, nx_qL, kd_qL, ln_qL, fI_qL, fL_qL, fR_qL, aI_qL, aL_qL, aR_qL, nx_qR, kd_qR, ln_qR, fI_qR, fL_qR, fR_qR, aI_qR, aL_qR, aR_qR, nx_mk, kd_mk, ln_mk, fI_mk, fL_mk, fR_mk, aI_mk, aL_mk, aR_mk, false_and, and_false, if_false, if_true, and_self, Int.reduceEq, Nat.reduceEqDiff, ite_self, MLay_pI, MLay_pL, MLay_qI, MLay_qL, ev_X6_survey_21, ev_X6_survey_22, ev_X6_survey_23, ev_X6_survey_26, ev_X6_survey_29, ev_X6_survey_30, ev_X6_survey_33, ev_X6_survey_34, ev_X6_survey_35, ev_X6_survey_36, ev_X6_survey_39, ev_X6_survey_40, ev_X6_survey_43, ev_X6_survey_46, ev_X6_survey_49, ev_X6_survey_50, ev_X6_survey_53, ev_X6_survey_56, ev_X6_survey_57, ev_X6_survey_58, ev_X6_survey_61, ev_X6_survey_62, xt_X6_survey, xf_X6_survey, us_Jx4a65c_size_8abf5, us_J9_min_7cf53, us_Jx4a65c_get_915e3, us_X6_housesNear, us_X5_isIn, us_X6_putEngine, hC2.eqs, hN]
    try simp (disch := omega) only [wI_id, dv_nn, rm_nn]
    repeat' (first | intro z | apply And.intro)
    all_goals try omega
    all_goals try contradiction
    all_goals exact w
  | succ m ih =>
    intro k ρ a2 hk2 hz hN hE
    have hC2 := hC.fz hz (by decide)
    have hk : kd ρ 19 = 7 := by simp only [hC2.eqs]
    have hL2 := hB.1.fz hz (by decide) (by decide) (by decide)
    have hLe : ∃ ci, LOk ρ 3 ci := ⟨2, hL2⟩
    have hlt := lat_fz hz (by decide)
    have hsz : fI ρ 1402 3 = fI τ 1302 61 := by rw [hz.fI (by decide)]; exact hB.2.1
    have hkc : kd ρ (lat σ 3 k) = 3 := by rw [hz.kd]; exact hB.1.2.2.2.2.2 k (by omega) (by have := hB.2.1; omega)
    obtain ⟨x1, x2, x3, x4⟩ := hB.xy hI (i := k) (by omega) (by omega)
    have f1 : fI ρ 305 = fI σ 305 := hz.fI (by decide)
    have f2 : fI ρ 306 = fI σ 306 := hz.fI (by decide)
    have f3 : fI ρ 403 = fI σ 403 := hz.fI (by decide)
    have f4 : fI ρ 405 = fI σ 405 := hz.fI (by decide)
    have a16 : aI ρ 16 = aI σ 16 := hz.aI (by omega)
    have a17 : aI ρ 17 = aI σ 17 := hz.aI (by omega)
    have hwy := hG.way hI
    have hh := hI.houses_s
    have hr := hI.reach_s
    have g1 := hG.2.2.2.2.1
    have g2 := hG.2.2.2.2.2.2.2
    have hz2 : Fz surF surA noR ρ (qI ρ 20 k (cNb ρ (lat σ 3 k) (fI τ 1332 61).toNat)) := Fz_qI _ _ _ (Or.inl rfl)
    have w := ih (k + 1) (qI ρ 20 k (cNb ρ (lat σ 3 k) (fI τ 1332 61).toNat)) a2 (by omega) (hz.tr hz2) (by rw [fI_qI]; exact hN) (fun i a b j => by
      rw [aI_qI]
      by_cases e : i = k
      · subst e
        rw [if_pos ⟨rfl, rfl⟩, btb_cNb ρ _ _ (by omega), f4, g2]
        have ew : cWay ρ j (lat σ 3 k) = mWay τ j k := by
          rw [← hG.cWay x3 x4 j]
          unfold cWay
          rw [a16, a17, f1, f2]
        rw [ew]
        constructor
        · rintro ⟨q1, q2⟩; exact ⟨by omega, q2⟩
        · rintro ⟨q1, q2⟩; exact ⟨by omega, q2⟩
      · rw [if_neg (fun z => e z.2)]; exact hE i a (by omega) j)
    clear h hE ih hz2
    refine go_X6_survey (ct := fun p => p == 56 || p == 21) 60 ?_
    simp only [oI, oL, oR, o1, lI, lL, lR, popN, catS, gv, stL, stL2, swt, cnd, spObj, List.getElem?_cons_zero, List.getElem?_cons_succ, List.getD_cons_zero, List.getD_cons_succ, List.set_cons_zero, List.set_cons_succ, List.nil_append, List.cons_append, Option.toList, Bool.or_false, Bool.false_or, Bool.or_true, Bool.true_or, Nat.reduceBEq, Nat.reduceAdd, Nat.reduceLT, Nat.reduceLeDiff, Int.reduceAdd, Int.reduceToNat, true_and, and_true, Fin.isValue, Fin.val_zero, Fin.val_one, Fin.val_two, Fin.reduceFinMk, eq_self, Int.reduceNeg, imp_self, Nat.reduceMul, Nat.le_refl, not_true_eq_false, not_false_eq_true, List.getElem?_nil, reduceCtorEq, true_or, or_true, Classical.not_not, implies_true, or_self, wI_0, wI_1, wI_m1, b2i_w, b2i_eq0, b2i_eq1, b2i_bool, nor_self, nx_pI, kd_pI, ln_pI, fI_pI, fL_pI, fR_pI, aI_pI, aL_pI, aR_pI, nx_pL, kd_pL, ln_pL, fI_pL, fL_pL, fR_pL, aI_pL, aL_pL, aR_pL, nx_pR, kd_pR, ln_pR, fI_pR, fL_pR, fR_pR, aI_pR, aL_pR, aR_pR, nx_qI, kd_qI, ln_qI, fI_qI, fL_qI, fR_qI, aI_qI, aL_qI, aR_qI, nx_qL, kd_qL, ln_qL, fI_qL, fL_qL, fR_qL, aI_qL, aL_qL, aR_qL, nx_qR, kd_qR, ln_qR, fI_qR, fL_qR, fR_qR, aI_qR, aL_qR, aR_qR, nx_mk, kd_mk, ln_mk, fI_mk, fL_mk, fR_mk, aI_mk, aL_mk, aR_mk, false_and, and_false, if_false, if_true, and_self, Int.reduceEq, Nat.reduceEqDiff, ite_self, MLay_pI, MLay_pL, MLay_qI, MLay_qL, ev_X6_survey_21, ev_X6_survey_22, ev_X6_survey_23, ev_X6_survey_26, ev_X6_survey_29, ev_X6_survey_30, ev_X6_survey_33, ev_X6_survey_34, ev_X6_survey_35, ev_X6_survey_36, ev_X6_survey_39, ev_X6_survey_40, ev_X6_survey_43, ev_X6_survey_46, ev_X6_survey_49, ev_X6_survey_50, ev_X6_survey_53, xt_X6_survey, xf_X6_survey, us_Jx4a65c_size_8abf5, us_J9_min_7cf53, us_Jx4a65c_get_915e3, us_X6_housesNear, us_X5_isIn, us_X6_putEngine, hC2.eqs, hC2, hsz, hLe, hlt, hkc, hN, f1, f2, f3, f4, a16, a17, hwy, x1, x2, g1, g2]
    try simp (disch := omega) only [wI_id, dv_nn, rm_nn]
    repeat' (first | intro z | apply And.intro)
    all_goals try omega
    all_goals try contradiction
    all_goals exact w

set_option maxRecDepth 20000 in
theorem c_X6_survey : Ct yX6_survey cX6_survey 3 ((none : Option FieldType)) 4 0 0 sp_X6_survey := by
  refine Ct.go (M := M_X6_survey) mm_X6_survey fun av σ Q h0 => ?_
  obtain ⟨this, rfl, hk, h⟩ := el_X6_survey h0
  clear h0
  refine ⟨Nat.le_of_ble_eq_true rfl, ?_⟩
  show Go M_X6_survey Q 0 [some (vr this), none, none] [] σ (0, 0)
  obtain ⟨rfl, hC, τ, hB, hG, hI, h⟩ := h
  have hbs := hI.boxes_s
  have hz2 : Fz surF surA noR σ (pI σ 706 19 (fI τ 1302 61)) := Fz_pI _ _ _ (by decide)
  have w := sur_21 (Q := Q) hC hB hG hI h (fI τ 1302 61).toNat 0 _ none (by omega) hz2 (by rw [fI_pI, if_pos ⟨rfl, rfl⟩]) (fun i a b => by omega)
  have w : Go M_X6_survey Q 21 [some (vr 19), some (vi 0), none] [] (pI σ 706 19 (fI τ 1302 61)) (0, 0) := w
  have hsz := hB.2.1
  have em : (if (32 : Int) < fI τ 1302 61 then 32 else fI τ 1302 61) = fI τ 1302 61 := if_neg (by omega)
  clear h hz2
  refine go_X6_survey (ct := fun p => p == 21) 40 ?_
  simp only [oI, oL, oR, o1, lI, lL, lR, popN, catS, gv, stL, stL2, swt, cnd, spObj, List.getElem?_cons_zero, List.getElem?_cons_succ, List.getD_cons_zero, List.getD_cons_succ, List.set_cons_zero, List.set_cons_succ, List.nil_append, List.cons_append, Option.toList, Bool.or_false, Bool.false_or, Bool.or_true, Bool.true_or, Nat.reduceBEq, Nat.reduceAdd, Nat.reduceLT, Nat.reduceLeDiff, Int.reduceAdd, Int.reduceToNat, true_and, and_true, Fin.isValue, Fin.val_zero, Fin.val_one, Fin.val_two, Fin.reduceFinMk, eq_self, Int.reduceNeg, imp_self, Nat.reduceMul, Nat.le_refl, not_true_eq_false, not_false_eq_true, List.getElem?_nil, reduceCtorEq, true_or, or_true, Classical.not_not, implies_true, or_self, wI_0, wI_1, wI_m1, b2i_w, b2i_eq0, b2i_eq1, b2i_bool, nor_self, nx_pI, kd_pI, ln_pI, fI_pI, fL_pI, fR_pI, aI_pI, aL_pI, aR_pI, nx_pL, kd_pL, ln_pL, fI_pL, fL_pL, fR_pL, aI_pL, aL_pL, aR_pL, nx_pR, kd_pR, ln_pR, fI_pR, fL_pR, fR_pR, aI_pR, aL_pR, aR_pR, nx_qI, kd_qI, ln_qI, fI_qI, fL_qI, fR_qI, aI_qI, aL_qI, aR_qI, nx_qL, kd_qL, ln_qL, fI_qL, fL_qL, fR_qL, aI_qL, aL_qL, aR_qL, nx_qR, kd_qR, ln_qR, fI_qR, fL_qR, fR_qR, aI_qR, aL_qR, aR_qR, nx_mk, kd_mk, ln_mk, fI_mk, fL_mk, fR_mk, aI_mk, aL_mk, aR_mk, false_and, and_false, if_false, if_true, and_self, Int.reduceEq, Nat.reduceEqDiff, ite_self, MLay_pI, MLay_pL, MLay_qI, MLay_qL, ev_X6_survey_0, ev_X6_survey_1, ev_X6_survey_2, ev_X6_survey_5, ev_X6_survey_8, ev_X6_survey_9, ev_X6_survey_12, ev_X6_survey_13, ev_X6_survey_16, ev_X6_survey_19, ev_X6_survey_20, xt_X6_survey, xf_X6_survey, us_Jx4a65c_size_8abf5, us_J9_min_7cf53, us_Jx4a65c_get_915e3, us_X6_housesNear, us_X5_isIn, us_X6_putEngine, hC.eqs, hsz, em]
  repeat' (first | intro z | apply And.intro)
  all_goals try omega
  all_goals try contradiction
  all_goals exact w
