/-! the reference: a call's answer -/

/-- what the cards may ask for, laid down -/
noncomputable def mFacts (σ : Hp) (a : Int) : Hp := qI (qI (qI (qI (qI (qI (qI σ 108 1 (aI σ 63 (aI σ 109 a))) 108 2 (aI σ 67 (aI σ 109 a))) 108 3 (aI σ 62 (aI σ 109 a))) 108 4 (fI σ 1301 61 / 3600 % 24)) 108 5 (aI σ 111 a)) 108 6 (hwM (fun c => aI σ 89 c < 0) (fI σ 1335 61).toNat)) 108 7 (mRate σ (aI σ 109 a) (fI σ 1301 61 / 86400))
noncomputable def mLines (σ : Hp) (a : Int) : Nat → Nat → Hp
  | 0, _ => σ
  | n + 1, l => if wI (aI (mWorth σ l) 100 0) = 0 then mLines (mWorth σ l) a n (l + 1) else mSends (mSends (mWorth σ l) a 0 (aI σ 93 l).toNat) a 1 (aI σ 94 l).toNat
noncomputable def mAns (σ : Hp) (a : Int) : Hp := mLines (mFacts σ a) a (fI σ 1352 61).toNat 0
/-- all lines can be reckoned, whatever lies in the scratch places -/
def mCards (σ : Hp) : Prop := ∀ σ', aI σ' 95 = aI σ 95 → aI σ' 96 = aI σ 96 → aI σ' 97 = aI σ 97 → ∀ l : Nat, l < fI σ 1352 61 → mLok σ' l
theorem mCards.scr {σ τ : Hp} (h : mCards σ) (hS : Scr σ τ) (l : Nat) (hl : l < fI σ 1352 61) : mLok τ l := h τ (hS.a (by decide)) (hS.a (by decide)) (hS.a (by decide)) l hl
theorem mCards.of {σ τ : Hp} (h : mCards σ) (h1 : aI τ 95 = aI σ 95) (h2 : aI τ 96 = aI σ 96) (h3 : aI τ 97 = aI σ 97) (h4 : fI τ 1352 61 = fI σ 1352 61) : mCards τ := fun σ' a b c l hl => h σ' (a.trans h1) (b.trans h2) (c.trans h3) l (by rw [← h4]; exact hl)
theorem mSends_c : ∀ (n : Nat) {σ : Hp} (a kn : Int), MI σ → (0 ≤ a ∧ a < 100) → aI σ 115 a ≤ mTo σ a → MI (mSends σ a kn n) ∧ aI (mSends σ a kn n) 115 a ≤ mTo (mSends σ a kn n) a ∧ fI (mSends σ a kn n) = fI σ ∧ kd (mSends σ a kn n) = kd σ
  | 0, σ, a, kn, hI, _, h => ⟨hI, h, rfl, rfl⟩
  | n + 1, σ, a, kn, hI, ha, h => by
    have hs := hI.companies_s
    have hb := mBest_in σ kn (aI σ 109 a) (fI σ 1335 61).toNat
    unfold mSends
    generalize mBest σ kn (aI σ 109 a) (fI σ 1335 61).toNat = c at hb
    by_cases hc : c < 0
    · rw [if_pos hc]; exact ⟨hI, h, rfl, rfl⟩
    · rw [if_neg hc]
      have h2 := hb.2.2 (by omega)
      have h4 := mTo_snd (a := a) hI (c := c) (by omega) h2.2
      have hsm := hI.sentMany_ a
      have e2 : aI (mSnd σ a c) 115 a = aI σ 115 a + 1 := by simp [mSnd, aI_qI]
      have ih := mSends_c n a kn (MI_mSnd hI (a := a) (c := c) ha (by omega) (by omega)) ha (by omega)
      exact ⟨ih.1, ih.2.1, ih.2.2.1, ih.2.2.2⟩
theorem mSends_a : ∀ (n : Nat) (σ : Hp) (a kn : Int) {r : Int}, ([91, 89, 90, 116, 115] : List Int).contains r = false → aI (mSends σ a kn n) r = aI σ r
  | 0, σ, a, kn, r, h => rfl
  | n + 1, σ, a, kn, r, h => by
    unfold mSends
    split
    · rfl
    · rw [mSends_a n _ a kn h]
      simp only [List.contains_cons, Bool.or_eq_false_iff, beq_eq_false_iff_ne, ne_eq, List.contains_nil] at h
      funext i
      simp only [mSnd, aI_qI, h, false_and, if_false]
theorem Scr_mFacts (σ : Hp) (a : Int) : Scr σ (mFacts σ a) := (((((((Scr.refl σ).q (by decide)).q (by decide)).q (by decide)).q (by decide)).q (by decide)).q (by decide)).q (by decide)
theorem MI_mFacts {σ : Hp} (h : MI σ) (a : Int) : MI (mFacts σ a) := by
  have h0 := h.companies_s
  have h1 := h.number_ (aI σ 109 a)
  have h2 := h.ward_ (aI σ 109 a)
  have h3 := h.loop_ (aI σ 109 a)
  have h4 := h.now_s
  have h5 := h.calls_ a
  have h6 := hwM_in (fun c => aI σ 89 c < 0) (fI σ 1335 61).toNat
  have h7 := mRate_in h (aI σ 109 a) (fI σ 1301 61 / 86400)
  exact MI_valueOf_q (MI_valueOf_q (MI_valueOf_q (MI_valueOf_q (MI_valueOf_q (MI_valueOf_q (MI_valueOf_q h (by omega)) (by omega)) (by omega)) (by omega)) (by omega)) (by omega)) (by omega)
theorem mTo_Scr {σ τ : Hp} (h : Scr σ τ) (a : Int) : mTo τ a = mTo σ a := by
  unfold mTo
  rw [h.fI, h.a (r := 89) (by decide), h.a (r := 90) (by decide)]
theorem mRt_qI (σ : Hp) (j v : Int) (b d : Int) : mRate (qI σ 108 j v) b d = mRate σ b d := by
  have e1 : ∀ a n, mKn (qI σ 108 j v) a d n = mKn σ a d n := by
    intro a n
    induction n with
    | zero => simp only [mKn, aI_qI]; simp
    | succ n ih => simp only [mKn, ih, aI_qI]; simp
  have e : ∀ P, mRt (qI σ 108 j v) b d P = mRt σ b d P := fun P => funext fun i => by
    unfold mRt
    rw [e1]
    simp only [aI_qI, fI_qI]; simp
  unfold mRate
  rw [e, e]; rfl

def sp_X12_answers : Sp := fun av σ Q => oR av fun this av => oI av fun a av => av = [] ∧ kd σ this = 13 ∧ (this = 61 ∧ MI σ ∧ (0 ≤ a ∧ a < 100) ∧ mCards σ ∧ aI σ 115 a ≤ mTo σ a ∧ Q none (mAns σ a))
theorem us_X12_answers (this : Int) (a : Int) (σ : Hp) (Q : Option AV → Hp → Prop) : sp_X12_answers [vr this, vi a] σ Q = (kd σ this = 13 ∧ (this = 61 ∧ MI σ ∧ (0 ≤ a ∧ a < 100) ∧ mCards σ ∧ aI σ 115 a ≤ mTo σ a ∧ Q none (mAns σ a))) := propext ⟨fun h => h.2, fun h => ⟨rfl, h⟩⟩
theorem el_X12_answers {av : List AV} {σ : Hp} {Q : Option AV → Hp → Prop} (h : sp_X12_answers av σ Q) : ∃ (this : Int) (a : Int), av = [vr this, vi a] ∧ (kd σ this = 13 ∧ (this = 61 ∧ MI σ ∧ (0 ≤ a ∧ a < 100) ∧ mCards σ ∧ aI σ 115 a ≤ mTo σ a ∧ Q none (mAns σ a))) := by
  obtain ⟨this, a0, rfl, h0⟩ := oR_s h
  obtain ⟨a, a1, rfl, h1⟩ := oI_s h0
  obtain ⟨rfl, hz⟩ := h1
  exact ⟨this, a, rfl, hz⟩
theorem rc_X12_answers : ∀ (av : List AV) (σ : Hp) (Q : Option AV → Hp → Prop), sp_X12_answers av σ Q → ∃ r tl, av = vr r :: tl ∧ kd σ r = 12 + 1 := fun av σ Q h => by
  obtain ⟨this, a, rfl, hz, -⟩ := el_X12_answers h
  exact ⟨this, _, rfl, hz⟩

def tb_X12_answers : Tab := [(0, .aload_n 0, 1, (0, 0, 0, 0)), (1, .getfield 153, 3, (13, 1372, 2, 0)), (4, .iload_n 1, 1, (0, 0, 0, 0)), (5, .iaload, 1, (0, 0, 0, 0)), (6, .istore_n 2, 1, (0, 0, 0, 0)), (7, .aload_n 0, 1, (0, 0, 0, 0)), (8, .getfield 150, 3, (13, 1370, 2, 0)), (11, .iconst 1, 1, (0, 0, 0, 0)), (12, .aload_n 0, 1, (0, 0, 0, 0)), (13, .getfield 13, 3, (13, 1304, 2, 0)), (16, .iload_n 2, 1, (0, 0, 0, 0)), (17, .iaload, 1, (0, 0, 0, 0)), (18, .iastore, 1, (0, 0, 0, 0)), (19, .aload_n 0, 1, (0, 0, 0, 0)), (20, .getfield 150, 3, (13, 1370, 2, 0)), (23, .iconst 2, 1, (0, 0, 0, 0)), (24, .aload_n 0, 1, (0, 0, 0, 0)), (25, .getfield 25, 3, (13, 1308, 2, 0)), (28, .iload_n 2, 1, (0, 0, 0, 0)), (29, .iaload, 1, (0, 0, 0, 0)), (30, .iastore, 1, (0, 0, 0, 0)), (31, .aload_n 0, 1, (0, 0, 0, 0)), (32, .getfield 150, 3, (13, 1370, 2, 0)), (35, .iconst 3, 1, (0, 0, 0, 0)), (36, .aload_n 0, 1, (0, 0, 0, 0)), (37, .getfield 7, 3, (13, 1303, 2, 0)), (40, .iload_n 2, 1, (0, 0, 0, 0)), (41, .iaload, 1, (0, 0, 0, 0)), (42, .iastore, 1, (0, 0, 0, 0)), (43, .aload_n 0, 1, (0, 0, 0, 0)), (44, .getfield 150, 3, (13, 1370, 2, 0)), (47, .iconst 4, 1, (0, 0, 0, 0)), (48, .aload_n 0, 1, (0, 0, 0, 0)), (49, .getfield 217, 3, (13, 1301, 0, 0)), (52, .sipush 3600, 3, (0, 0, 0, 0)), (55, .idiv, 1, (0, 0, 0, 0)), (56, .bipush 24, 2, (0, 0, 0, 0)), (58, .irem, 1, (0, 0, 0, 0)), (59, .iastore, 1, (0, 0, 0, 0)), (60, .aload_n 0, 1, (0, 0, 0, 0)), (61, .getfield 150, 3, (13, 1370, 2, 0)), (64, .iconst 5, 1, (0, 0, 0, 0)), (65, .aload_n 0, 1, (0, 0, 0, 0)), (66, .getfield 159, 3, (13, 1374, 2, 0)), (69, .iload_n 1, 1, (0, 0, 0, 0)), (70, .iaload, 1, (0, 0, 0, 0)), (71, .iastore, 1, (0, 0, 0, 0)), (72, .aload_n 0, 1, (0, 0, 0, 0)), (73, .getfield 150, 3, (13, 1370, 2, 0)), (76, .bipush 6, 2, (0, 0, 0, 0)), (78, .aload_n 0, 1, (0, 0, 0, 0)), (79, .invokevirtual 411, 3, (0, 0, 0, 0)), (82, .iastore, 1, (0, 0, 0, 0)), (83, .aload_n 0, 1, (0, 0, 0, 0)), (84, .getfield 150, 3, (13, 1370, 2, 0)), (87, .bipush 7, 2, (0, 0, 0, 0)), (89, .aload_n 0, 1, (0, 0, 0, 0)), (90, .iload_n 2, 1, (0, 0, 0, 0)), (91, .aload_n 0, 1, (0, 0, 0, 0)), (92, .getfield 217, 3, (13, 1301, 0, 0)), (95, .ldc_w 414, 3, (1, 0, 0, 86400)), (98, .idiv, 1, (0, 0, 0, 0)), (99, .invokevirtual 415, 3, (0, 0, 0, 0)), (102, .iastore, 1, (0, 0, 0, 0)), (103, .iconst 0, 1, (0, 0, 0, 0)), (104, .istore_n 3, 1, (0, 0, 0, 0)), (105, .iload_n 3, 1, (0, 0, 0, 0)), (106, .aload_n 0, 1, (0, 0, 0, 0)), (107, .getfield 393, 3, (13, 1352, 0, 0)), (110, .if_icmp .ge 45, 3, (0, 0, 0, 0)), (113, .aload_n 0, 1, (0, 0, 0, 0)), (114, .iload_n 3, 1, (0, 0, 0, 0)), (115, .invokevirtual 418, 3, (0, 0, 0, 0)), (118, .ifCond .ne 6, 3, (0, 0, 0, 0)), (121, .goto 28, 3, (0, 0, 0, 0)), (124, .aload_n 0, 1, (0, 0, 0, 0)), (125, .iload_n 1, 1, (0, 0, 0, 0)), (126, .iconst 0, 1, (0, 0, 0, 0)), (127, .aload_n 0, 1, (0, 0, 0, 0)), (128, .getfield 105, 3, (13, 1354, 2, 0)), (131, .iload_n 3, 1, (0, 0, 0, 0)), (132, .iaload, 1, (0, 0, 0, 0)), (133, .invokevirtual 421, 3, (0, 0, 0, 0)), (136, .aload_n 0, 1, (0, 0, 0, 0)), (137, .iload_n 1, 1, (0, 0, 0, 0)), (138, .iconst 1, 1, (0, 0, 0, 0)), (139, .aload_n 0, 1, (0, 0, 0, 0)), (140, .getfield 108, 3, (13, 1355, 2, 0)), (143, .iload_n 3, 1, (0, 0, 0, 0)), (144, .iaload, 1, (0, 0, 0, 0)), (145, .invokevirtual 421, 3, (0, 0, 0, 0)), (148, .return_, 1, (0, 0, 0, 0)), (149, .iinc 3 1, 3, (0, 0, 0, 0)), (152, .goto (-47), 3, (0, 0, 0, 0)), (155, .return_, 1, (0, 0, 0, 0))]
set_option maxRecDepth 100000 in
theorem tk_X12_answers : TOK RX12 false cX12_answers tb_X12_answers := chkT_ok ft_X12 (by decide +kernel)
theorem rw_X12_3344 : Row RX12 (.invokevirtual 418) 3 2 0 0 3 sp_X12_worth := row_V (n := 1) (ci := 12) c_X12_worth ⟨TBL_in 1970 (by decide +kernel) rfl, TBL_in 1973 (by decide +kernel) rfl, TBL_in 123 (by decide +kernel) rfl, by decide +kernel, by decide⟩ (by decide) rfl (TBL_in 1972 (by decide +kernel) rfl) (TBL_in 92 (by decide +kernel) rfl) rc_X12_worth
theorem rw_X12_3368 : Row RX12 (.invokevirtual 421) 3 4 0 0 3 sp_X12_sends := row_V (n := 3) (ci := 12) c_X12_sends ⟨TBL_in 1986 (by decide +kernel) rfl, TBL_in 1989 (by decide +kernel) rfl, TBL_in 123 (by decide +kernel) rfl, by decide +kernel, by decide⟩ (by decide) rfl (TBL_in 1988 (by decide +kernel) rfl) (TBL_in 96 (by decide +kernel) rfl) rc_X12_sends
def mt_X12_answers : List (Nat × Mt) := [(3288, 1, 0, 0, 1, sp_X12_sentCount), (3320, 3, 0, 0, 2, sp_X12_rateOf), (3344, 2, 0, 0, 3, sp_X12_worth), (3368, 4, 0, 0, 3, sp_X12_sends)]
theorem em_X12_answers : mt_X12_answers.lookup 3288 = some (1, 0, 0, 1, sp_X12_sentCount) ∧ mt_X12_answers.lookup 3320 = some (3, 0, 0, 2, sp_X12_rateOf) ∧ mt_X12_answers.lookup 3344 = some (2, 0, 0, 3, sp_X12_worth) ∧ mt_X12_answers.lookup 3368 = some (4, 0, 0, 3, sp_X12_sends) := ⟨rfl, rfl, rfl, rfl⟩
theorem mk_X12_answers : MOK RX12 mt_X12_answers := by
  intro q hq
  simp only [mt_X12_answers, List.mem_cons, List.not_mem_nil, or_false] at hq
  rcases hq with rfl | rfl | rfl | rfl
  · exact rw_X12_3288
  · exact rw_X12_3320
  · exact rw_X12_3344
  · exact rw_X12_3368
noncomputable def xe_X12_answers (ct : Nat → Bool) (K : Kt) (R : Option AV → Hp → Prop) (n : Nat) : Kt := exS 4 4 0 0 0 tb_X12_answers mt_X12_answers ct K R n
noncomputable def xk_X12_answers (ct : Nat → Bool) (K : Kt) (R : Option AV → Hp → Prop) (n : Nat) : Kt := exkS 4 4 0 0 0 tb_X12_answers mt_X12_answers ct K R n
theorem xt_X12_answers {ct : Nat → Bool} {K : Kt} {R : Option AV → Hp → Prop} {n pc : Nat} {ls : List (Option AV)} {st : List AV} {σ : Hp} {k : Nat × Nat} (h : ct pc = true) : xk_X12_answers ct K R n pc ls st σ k = K pc ls st σ k := by unfold xk_X12_answers exkS; rw [h]
theorem xf_X12_answers {ct : Nat → Bool} {K : Kt} {R : Option AV → Hp → Prop} {n pc : Nat} {ls : List (Option AV)} {st : List AV} {σ : Hp} {k : Nat × Nat} (h : ct pc = false) : xk_X12_answers ct K R n pc ls st σ k = xe_X12_answers ct K R n pc ls st σ k := by unfold xk_X12_answers exkS xe_X12_answers; rw [h]
theorem ev_X12_answers {ct : Nat → Bool} {K : Kt} {R : Option AV → Hp → Prop} {n : Nat} {ls : List (Option AV)} {st : List AV} {σ : Hp} {k : Nat × Nat} :
  xe_X12_answers ct K R (n + 1) 0 ls st σ k = (lR ls 0 fun x => xk_X12_answers ct K R n 1 ls (vr x :: st) σ k) ∧
  xe_X12_answers ct K R (n + 1) 1 ls st σ k = (oR st fun x st => kd σ x = 13 ∧ xk_X12_answers ct K R n 4 ls (vr (fR σ 1372 x) :: st) σ k) ∧
  xe_X12_answers ct K R (n + 1) 4 ls st σ k = (lI ls 1 fun x => xk_X12_answers ct K R n 5 ls (vi x :: st) σ k) ∧
  xe_X12_answers ct K R (n + 1) 5 ls st σ k = (oI st fun j st => oR st fun x st => (kd σ x = 101 ∨ kd σ x = 108) ∧ (0 ≤ j ∧ j < ln σ x) ∧ xk_X12_answers ct K R n 6 ls (vi (aI σ x j) :: st) σ k) ∧
  xe_X12_answers ct K R (n + 1) 6 ls st σ k = (oI st fun x st => 2 < 4 ∧ xk_X12_answers ct K R n 7 (stL ls 2 (vi x)) st σ k) ∧
  xe_X12_answers ct K R (n + 1) 7 ls st σ k = (lR ls 0 fun x => xk_X12_answers ct K R n 8 ls (vr x :: st) σ k) ∧
  xe_X12_answers ct K R (n + 1) 8 ls st σ k = (oR st fun x st => kd σ x = 13 ∧ xk_X12_answers ct K R n 11 ls (vr (fR σ 1370 x) :: st) σ k) ∧
  xe_X12_answers ct K R (n + 1) 11 ls st σ k = (xk_X12_answers ct K R n 12 ls (vi (1) :: st) σ k) ∧
  xe_X12_answers ct K R (n + 1) 12 ls st σ k = (lR ls 0 fun x => xk_X12_answers ct K R n 13 ls (vr x :: st) σ k) ∧
  xe_X12_answers ct K R (n + 1) 13 ls st σ k = (oR st fun x st => kd σ x = 13 ∧ xk_X12_answers ct K R n 16 ls (vr (fR σ 1304 x) :: st) σ k) ∧
  xe_X12_answers ct K R (n + 1) 16 ls st σ k = (lI ls 2 fun x => xk_X12_answers ct K R n 17 ls (vi x :: st) σ k) ∧
  xe_X12_answers ct K R (n + 1) 17 ls st σ k = (oI st fun j st => oR st fun x st => (kd σ x = 101 ∨ kd σ x = 108) ∧ (0 ≤ j ∧ j < ln σ x) ∧ xk_X12_answers ct K R n 18 ls (vi (aI σ x j) :: st) σ k) ∧
  xe_X12_answers ct K R (n + 1) 18 ls st σ k = (oI st fun v st => oI st fun j st => oR st fun x st => kd σ x = 101 ∧ (0 ≤ j ∧ j < ln σ x) ∧ xk_X12_answers ct K R n 19 ls st (qI σ x j v) k) ∧
  xe_X12_answers ct K R (n + 1) 19 ls st σ k = (lR ls 0 fun x => xk_X12_answers ct K R n 20 ls (vr x :: st) σ k) ∧
  xe_X12_answers ct K R (n + 1) 20 ls st σ k = (oR st fun x st => kd σ x = 13 ∧ xk_X12_answers ct K R n 23 ls (vr (fR σ 1370 x) :: st) σ k) ∧
  xe_X12_answers ct K R (n + 1) 23 ls st σ k = (xk_X12_answers ct K R n 24 ls (vi (2) :: st) σ k) ∧
  xe_X12_answers ct K R (n + 1) 24 ls st σ k = (lR ls 0 fun x => xk_X12_answers ct K R n 25 ls (vr x :: st) σ k) ∧
  xe_X12_answers ct K R (n + 1) 25 ls st σ k = (oR st fun x st => kd σ x = 13 ∧ xk_X12_answers ct K R n 28 ls (vr (fR σ 1308 x) :: st) σ k) ∧
  xe_X12_answers ct K R (n + 1) 28 ls st σ k = (lI ls 2 fun x => xk_X12_answers ct K R n 29 ls (vi x :: st) σ k) ∧
  xe_X12_answers ct K R (n + 1) 29 ls st σ k = (oI st fun j st => oR st fun x st => (kd σ x = 101 ∨ kd σ x = 108) ∧ (0 ≤ j ∧ j < ln σ x) ∧ xk_X12_answers ct K R n 30 ls (vi (aI σ x j) :: st) σ k) ∧
  xe_X12_answers ct K R (n + 1) 30 ls st σ k = (oI st fun v st => oI st fun j st => oR st fun x st => kd σ x = 101 ∧ (0 ≤ j ∧ j < ln σ x) ∧ xk_X12_answers ct K R n 31 ls st (qI σ x j v) k) ∧
  xe_X12_answers ct K R (n + 1) 31 ls st σ k = (lR ls 0 fun x => xk_X12_answers ct K R n 32 ls (vr x :: st) σ k) ∧
  xe_X12_answers ct K R (n + 1) 32 ls st σ k = (oR st fun x st => kd σ x = 13 ∧ xk_X12_answers ct K R n 35 ls (vr (fR σ 1370 x) :: st) σ k) ∧
  xe_X12_answers ct K R (n + 1) 35 ls st σ k = (xk_X12_answers ct K R n 36 ls (vi (3) :: st) σ k) ∧
  xe_X12_answers ct K R (n + 1) 36 ls st σ k = (lR ls 0 fun x => xk_X12_answers ct K R n 37 ls (vr x :: st) σ k) ∧
  xe_X12_answers ct K R (n + 1) 37 ls st σ k = (oR st fun x st => kd σ x = 13 ∧ xk_X12_answers ct K R n 40 ls (vr (fR σ 1303 x) :: st) σ k) ∧
  xe_X12_answers ct K R (n + 1) 40 ls st σ k = (lI ls 2 fun x => xk_X12_answers ct K R n 41 ls (vi x :: st) σ k) ∧
  xe_X12_answers ct K R (n + 1) 41 ls st σ k = (oI st fun j st => oR st fun x st => (kd σ x = 101 ∨ kd σ x = 108) ∧ (0 ≤ j ∧ j < ln σ x) ∧ xk_X12_answers ct K R n 42 ls (vi (aI σ x j) :: st) σ k) ∧
  xe_X12_answers ct K R (n + 1) 42 ls st σ k = (oI st fun v st => oI st fun j st => oR st fun x st => kd σ x = 101 ∧ (0 ≤ j ∧ j < ln σ x) ∧ xk_X12_answers ct K R n 43 ls st (qI σ x j v) k) ∧
  xe_X12_answers ct K R (n + 1) 43 ls st σ k = (lR ls 0 fun x => xk_X12_answers ct K R n 44 ls (vr x :: st) σ k) ∧
  xe_X12_answers ct K R (n + 1) 44 ls st σ k = (oR st fun x st => kd σ x = 13 ∧ xk_X12_answers ct K R n 47 ls (vr (fR σ 1370 x) :: st) σ k) ∧
  xe_X12_answers ct K R (n + 1) 47 ls st σ k = (xk_X12_answers ct K R n 48 ls (vi (4) :: st) σ k) ∧
  xe_X12_answers ct K R (n + 1) 48 ls st σ k = (lR ls 0 fun x => xk_X12_answers ct K R n 49 ls (vr x :: st) σ k) ∧
  xe_X12_answers ct K R (n + 1) 49 ls st σ k = (oR st fun x st => kd σ x = 13 ∧ xk_X12_answers ct K R n 52 ls (vi (fI σ 1301 x) :: st) σ k) ∧
  xe_X12_answers ct K R (n + 1) 52 ls st σ k = (xk_X12_answers ct K R n 55 ls (vi (3600) :: st) σ k) ∧
  xe_X12_answers ct K R (n + 1) 55 ls st σ k = (oI st fun y st => oI st fun x st => ¬ wI y = 0 ∧ xk_X12_answers ct K R n 56 ls (vi (dvI x y) :: st) σ k) ∧
  xe_X12_answers ct K R (n + 1) 56 ls st σ k = (xk_X12_answers ct K R n 58 ls (vi (24) :: st) σ k) ∧
  xe_X12_answers ct K R (n + 1) 58 ls st σ k = (oI st fun y st => oI st fun x st => ¬ wI y = 0 ∧ xk_X12_answers ct K R n 59 ls (vi (rmI x y) :: st) σ k) ∧
  xe_X12_answers ct K R (n + 1) 59 ls st σ k = (oI st fun v st => oI st fun j st => oR st fun x st => kd σ x = 101 ∧ (0 ≤ j ∧ j < ln σ x) ∧ xk_X12_answers ct K R n 60 ls st (qI σ x j v) k) ∧
  xe_X12_answers ct K R (n + 1) 60 ls st σ k = (lR ls 0 fun x => xk_X12_answers ct K R n 61 ls (vr x :: st) σ k) ∧
  xe_X12_answers ct K R (n + 1) 61 ls st σ k = (oR st fun x st => kd σ x = 13 ∧ xk_X12_answers ct K R n 64 ls (vr (fR σ 1370 x) :: st) σ k) ∧
  xe_X12_answers ct K R (n + 1) 64 ls st σ k = (xk_X12_answers ct K R n 65 ls (vi (5) :: st) σ k) ∧
  xe_X12_answers ct K R (n + 1) 65 ls st σ k = (lR ls 0 fun x => xk_X12_answers ct K R n 66 ls (vr x :: st) σ k) ∧
  xe_X12_answers ct K R (n + 1) 66 ls st σ k = (oR st fun x st => kd σ x = 13 ∧ xk_X12_answers ct K R n 69 ls (vr (fR σ 1374 x) :: st) σ k) ∧
  xe_X12_answers ct K R (n + 1) 69 ls st σ k = (lI ls 1 fun x => xk_X12_answers ct K R n 70 ls (vi x :: st) σ k) ∧
  xe_X12_answers ct K R (n + 1) 70 ls st σ k = (oI st fun j st => oR st fun x st => (kd σ x = 101 ∨ kd σ x = 108) ∧ (0 ≤ j ∧ j < ln σ x) ∧ xk_X12_answers ct K R n 71 ls (vi (aI σ x j) :: st) σ k) ∧
  xe_X12_answers ct K R (n + 1) 71 ls st σ k = (oI st fun v st => oI st fun j st => oR st fun x st => kd σ x = 101 ∧ (0 ≤ j ∧ j < ln σ x) ∧ xk_X12_answers ct K R n 72 ls st (qI σ x j v) k) ∧
  xe_X12_answers ct K R (n + 1) 72 ls st σ k = (lR ls 0 fun x => xk_X12_answers ct K R n 73 ls (vr x :: st) σ k) ∧
  xe_X12_answers ct K R (n + 1) 73 ls st σ k = (oR st fun x st => kd σ x = 13 ∧ xk_X12_answers ct K R n 76 ls (vr (fR σ 1370 x) :: st) σ k) ∧
  xe_X12_answers ct K R (n + 1) 76 ls st σ k = (xk_X12_answers ct K R n 78 ls (vi (6) :: st) σ k) ∧
  xe_X12_answers ct K R (n + 1) 78 ls st σ k = (lR ls 0 fun x => xk_X12_answers ct K R n 79 ls (vr x :: st) σ k) ∧
  xe_X12_answers ct K R (n + 1) 79 ls st σ k = (popN 1 st [] fun av rest => (catS rest ≤ 8 ∧ 1 < 4 ∧ k.1 + 0 ≤ 0 ∧ k.2 + 0 ≤ 0) ∧ (sp_X12_sentCount) av σ fun v σ' => xk_X12_answers ct K R n 82 ls (v.toList ++ rest) σ' (k.1 + 0, k.2 + 0)) ∧
  xe_X12_answers ct K R (n + 1) 82 ls st σ k = (oI st fun v st => oI st fun j st => oR st fun x st => kd σ x = 101 ∧ (0 ≤ j ∧ j < ln σ x) ∧ xk_X12_answers ct K R n 83 ls st (qI σ x j v) k) ∧
  xe_X12_answers ct K R (n + 1) 83 ls st σ k = (lR ls 0 fun x => xk_X12_answers ct K R n 84 ls (vr x :: st) σ k) ∧
  xe_X12_answers ct K R (n + 1) 84 ls st σ k = (oR st fun x st => kd σ x = 13 ∧ xk_X12_answers ct K R n 87 ls (vr (fR σ 1370 x) :: st) σ k) ∧
  xe_X12_answers ct K R (n + 1) 87 ls st σ k = (xk_X12_answers ct K R n 89 ls (vi (7) :: st) σ k) ∧
  xe_X12_answers ct K R (n + 1) 89 ls st σ k = (lR ls 0 fun x => xk_X12_answers ct K R n 90 ls (vr x :: st) σ k) ∧
  xe_X12_answers ct K R (n + 1) 90 ls st σ k = (lI ls 2 fun x => xk_X12_answers ct K R n 91 ls (vi x :: st) σ k) ∧
  xe_X12_answers ct K R (n + 1) 91 ls st σ k = (lR ls 0 fun x => xk_X12_answers ct K R n 92 ls (vr x :: st) σ k) ∧
  xe_X12_answers ct K R (n + 1) 92 ls st σ k = (oR st fun x st => kd σ x = 13 ∧ xk_X12_answers ct K R n 95 ls (vi (fI σ 1301 x) :: st) σ k) ∧
  xe_X12_answers ct K R (n + 1) 95 ls st σ k = (xk_X12_answers ct K R n 98 ls (vi (86400) :: st) σ k) ∧
  xe_X12_answers ct K R (n + 1) 98 ls st σ k = (oI st fun y st => oI st fun x st => ¬ wI y = 0 ∧ xk_X12_answers ct K R n 99 ls (vi (dvI x y) :: st) σ k) ∧
  xe_X12_answers ct K R (n + 1) 99 ls st σ k = (popN 3 st [] fun av rest => (catS rest ≤ 8 ∧ 2 < 4 ∧ k.1 + 0 ≤ 0 ∧ k.2 + 0 ≤ 0) ∧ (sp_X12_rateOf) av σ fun v σ' => xk_X12_answers ct K R n 102 ls (v.toList ++ rest) σ' (k.1 + 0, k.2 + 0)) ∧
  xe_X12_answers ct K R (n + 1) 102 ls st σ k = (oI st fun v st => oI st fun j st => oR st fun x st => kd σ x = 101 ∧ (0 ≤ j ∧ j < ln σ x) ∧ xk_X12_answers ct K R n 103 ls st (qI σ x j v) k) ∧
  xe_X12_answers ct K R (n + 1) 103 ls st σ k = (xk_X12_answers ct K R n 104 ls (vi (0) :: st) σ k) ∧
  xe_X12_answers ct K R (n + 1) 104 ls st σ k = (oI st fun x st => 3 < 4 ∧ xk_X12_answers ct K R n 105 (stL ls 3 (vi x)) st σ k) ∧
  xe_X12_answers ct K R (n + 1) 105 ls st σ k = (lI ls 3 fun x => xk_X12_answers ct K R n 106 ls (vi x :: st) σ k) ∧
  xe_X12_answers ct K R (n + 1) 106 ls st σ k = (lR ls 0 fun x => xk_X12_answers ct K R n 107 ls (vr x :: st) σ k) ∧
  xe_X12_answers ct K R (n + 1) 107 ls st σ k = (oR st fun x st => kd σ x = 13 ∧ xk_X12_answers ct K R n 110 ls (vi (fI σ 1352 x) :: st) σ k) ∧
  xe_X12_answers ct K R (n + 1) 110 ls st σ k = (oI st fun y st => oI st fun x st => (wI y ≤ wI x → xk_X12_answers ct K R n 155 ls st σ k) ∧ (¬ (wI y ≤ wI x) → xk_X12_answers ct K R n 113 ls st σ k)) ∧
  xe_X12_answers ct K R (n + 1) 113 ls st σ k = (lR ls 0 fun x => xk_X12_answers ct K R n 114 ls (vr x :: st) σ k) ∧
  xe_X12_answers ct K R (n + 1) 114 ls st σ k = (lI ls 3 fun x => xk_X12_answers ct K R n 115 ls (vi x :: st) σ k) ∧
  xe_X12_answers ct K R (n + 1) 115 ls st σ k = (popN 2 st [] fun av rest => (catS rest ≤ 8 ∧ 3 < 4 ∧ k.1 + 0 ≤ 0 ∧ k.2 + 0 ≤ 0) ∧ (sp_X12_worth) av σ fun v σ' => xk_X12_answers ct K R n 118 ls (v.toList ++ rest) σ' (k.1 + 0, k.2 + 0)) ∧
  xe_X12_answers ct K R (n + 1) 118 ls st σ k = (oI st fun x st => (¬ wI x = wI 0 → xk_X12_answers ct K R n 124 ls st σ k) ∧ (¬ (¬ wI x = wI 0) → xk_X12_answers ct K R n 121 ls st σ k)) ∧
  xe_X12_answers ct K R (n + 1) 121 ls st σ k = (xk_X12_answers ct K R n 149 ls st σ k) ∧
  xe_X12_answers ct K R (n + 1) 124 ls st σ k = (lR ls 0 fun x => xk_X12_answers ct K R n 125 ls (vr x :: st) σ k) ∧
  xe_X12_answers ct K R (n + 1) 125 ls st σ k = (lI ls 1 fun x => xk_X12_answers ct K R n 126 ls (vi x :: st) σ k) ∧
  xe_X12_answers ct K R (n + 1) 126 ls st σ k = (xk_X12_answers ct K R n 127 ls (vi (0) :: st) σ k) ∧
  xe_X12_answers ct K R (n + 1) 127 ls st σ k = (lR ls 0 fun x => xk_X12_answers ct K R n 128 ls (vr x :: st) σ k) ∧
  xe_X12_answers ct K R (n + 1) 128 ls st σ k = (oR st fun x st => kd σ x = 13 ∧ xk_X12_answers ct K R n 131 ls (vr (fR σ 1354 x) :: st) σ k) ∧
  xe_X12_answers ct K R (n + 1) 131 ls st σ k = (lI ls 3 fun x => xk_X12_answers ct K R n 132 ls (vi x :: st) σ k) ∧
  xe_X12_answers ct K R (n + 1) 132 ls st σ k = (oI st fun j st => oR st fun x st => (kd σ x = 101 ∨ kd σ x = 108) ∧ (0 ≤ j ∧ j < ln σ x) ∧ xk_X12_answers ct K R n 133 ls (vi (aI σ x j) :: st) σ k) ∧
  xe_X12_answers ct K R (n + 1) 133 ls st σ k = (popN 4 st [] fun av rest => (catS rest ≤ 8 ∧ 3 < 4 ∧ k.1 + 0 ≤ 0 ∧ k.2 + 0 ≤ 0) ∧ (sp_X12_sends) av σ fun v σ' => xk_X12_answers ct K R n 136 ls (v.toList ++ rest) σ' (k.1 + 0, k.2 + 0)) ∧
  xe_X12_answers ct K R (n + 1) 136 ls st σ k = (lR ls 0 fun x => xk_X12_answers ct K R n 137 ls (vr x :: st) σ k) ∧
  xe_X12_answers ct K R (n + 1) 137 ls st σ k = (lI ls 1 fun x => xk_X12_answers ct K R n 138 ls (vi x :: st) σ k) ∧
  xe_X12_answers ct K R (n + 1) 138 ls st σ k = (xk_X12_answers ct K R n 139 ls (vi (1) :: st) σ k) ∧
  xe_X12_answers ct K R (n + 1) 139 ls st σ k = (lR ls 0 fun x => xk_X12_answers ct K R n 140 ls (vr x :: st) σ k) ∧
  xe_X12_answers ct K R (n + 1) 140 ls st σ k = (oR st fun x st => kd σ x = 13 ∧ xk_X12_answers ct K R n 143 ls (vr (fR σ 1355 x) :: st) σ k) ∧
  xe_X12_answers ct K R (n + 1) 143 ls st σ k = (lI ls 3 fun x => xk_X12_answers ct K R n 144 ls (vi x :: st) σ k) ∧
  xe_X12_answers ct K R (n + 1) 144 ls st σ k = (oI st fun j st => oR st fun x st => (kd σ x = 101 ∨ kd σ x = 108) ∧ (0 ≤ j ∧ j < ln σ x) ∧ xk_X12_answers ct K R n 145 ls (vi (aI σ x j) :: st) σ k) ∧
  xe_X12_answers ct K R (n + 1) 145 ls st σ k = (popN 4 st [] fun av rest => (catS rest ≤ 8 ∧ 3 < 4 ∧ k.1 + 0 ≤ 0 ∧ k.2 + 0 ≤ 0) ∧ (sp_X12_sends) av σ fun v σ' => xk_X12_answers ct K R n 148 ls (v.toList ++ rest) σ' (k.1 + 0, k.2 + 0)) ∧
  xe_X12_answers ct K R (n + 1) 148 ls st σ k = (st = [] ∧ 0 = 0 ∧ R none σ) ∧
  xe_X12_answers ct K R (n + 1) 149 ls st σ k = (lI ls 3 fun x => 3 < 4 ∧ xk_X12_answers ct K R n 152 (stL ls 3 (vi (x + (1)))) st σ k) ∧
  xe_X12_answers ct K R (n + 1) 152 ls st σ k = (xk_X12_answers ct K R n 105 ls st σ k) ∧
  xe_X12_answers ct K R (n + 1) 155 ls st σ k = (st = [] ∧ 0 = 0 ∧ R none σ) :=
  ⟨exS_step.trans rfl, exS_step.trans rfl, exS_step.trans rfl, exS_step.trans rfl, exS_step.trans rfl, exS_step.trans rfl, exS_step.trans rfl, exS_step.trans rfl, exS_step.trans rfl, exS_step.trans rfl, exS_step.trans rfl, exS_step.trans rfl, exS_step.trans rfl, exS_step.trans rfl, exS_step.trans rfl, exS_step.trans rfl, exS_step.trans rfl, exS_step.trans rfl, exS_step.trans rfl, exS_step.trans rfl, exS_step.trans rfl, exS_step.trans rfl, exS_step.trans rfl, exS_step.trans rfl, exS_step.trans rfl, exS_step.trans rfl, exS_step.trans rfl, exS_step.trans rfl, exS_step.trans rfl, exS_step.trans rfl, exS_step.trans rfl, exS_step.trans rfl, exS_step.trans rfl, exS_step.trans rfl, exS_step.trans rfl, exS_step.trans rfl, exS_step.trans rfl, exS_step.trans rfl, exS_step.trans rfl, exS_step.trans rfl, exS_step.trans rfl, exS_step.trans rfl, exS_step.trans rfl, exS_step.trans rfl, exS_step.trans rfl, exS_step.trans rfl, exS_step.trans rfl, exS_step.trans rfl, exS_step.trans rfl, exS_step.trans rfl, exS_step.trans rfl, exS_step.trans rfl, exS_step.trans rfl, exS_step.trans rfl, exS_step.trans rfl, exS_step.trans rfl, exS_step.trans rfl, exS_step.trans rfl, exS_step.trans rfl, exS_step.trans rfl, exS_step.trans rfl, exS_step.trans rfl, exS_step.trans rfl, exS_step.trans rfl, exS_step.trans rfl, exS_step.trans rfl, exS_step.trans rfl, exS_step.trans rfl, exS_step.trans rfl, exS_step.trans rfl, exS_step.trans rfl, exS_step.trans rfl, exS_step.trans rfl, exS_step.trans rfl, exS_step.trans rfl, exS_step.trans rfl, exS_step.trans rfl, exS_step.trans rfl, exS_step.trans rfl, exS_step.trans rfl, exS_step.trans rfl, exS_step.trans rfl, exS_step.trans rfl, exS_step.trans rfl, exS_step.trans rfl, exS_step.trans rfl, exS_step.trans rfl, exS_step.trans rfl, exS_step.trans rfl, exS_step.trans rfl, exS_step.trans rfl, exS_step.trans rfl, exS_step.trans rfl, exS_step.trans rfl, exS_step.trans rfl⟩
def M_X12_answers : Md := (yX12_answers, cX12_answers, 4, (none : Option FieldType), 4, 0, 0, 0, false, tb_X12_answers, mt_X12_answers)
theorem mm_X12_answers : MMOK M_X12_answers := ⟨by decide +kernel, tk_X12_answers, mk_X12_answers, rfl, fun h => by cases h⟩
theorem go_X12_answers {Q : Option AV → Hp → Prop} {ct : Nat → Bool} {pc : Nat} {ls : List (Option AV)} {st : List AV} {σ : Hp} {k : Nat × Nat} (n : Nat) (h : xe_X12_answers ct (Go M_X12_answers Q) Q n pc ls st σ k) : Go M_X12_answers Q pc ls st σ k := Go.exS mm_X12_answers h

set_option maxRecDepth 20000 in
theorem c_X12_answers : Ct yX12_answers cX12_answers 4 ((none : Option FieldType)) 4 0 0 sp_X12_answers := by
  refine Ct.go (M := M_X12_answers) mm_X12_answers fun av σ Q h0 => ?_
  obtain ⟨this, a, rfl, hk, h⟩ := el_X12_answers h0
  clear h0
  refine ⟨Nat.le_of_ble_eq_true rfl, ?_⟩
  show Go M_X12_answers Q 0 [some (vr this), some (vi a), none, none] [] σ (0, 0)
  obtain ⟨rfl, hI, ha, hC, hm, h⟩ := h
  have hbx := hI.alarmBox_ a
  have loop : ∀ (n l : Nat) (τ : Hp), MI τ → Scr σ τ → (l : Int) + n = fI σ 1352 61 → Q none (mLines τ a n l) → Go M_X12_answers Q 105 [some (vr 61), some (vi a), some (vi (aI σ 109 a)), some (vi l)] [] τ (0, 0) := by
    intro n
    induction n with
    | zero =>
      intro l τ hT hS hl hq
      have hk : kd τ 61 = 13 := hT.lay.1
      have x1 := hI.cardLines_s
      refine go_X12_answers (ct := fun p => p == 105) 40 ?_
      simp only [oI, oL, oR, o1, lI, lL, lR, popN, catS, gv, stL, stL2, swt, cnd, spObj, List.getElem?_cons_zero, List.getElem?_cons_succ, List.getD_cons_zero, List.getD_cons_succ, List.set_cons_zero, List.set_cons_succ, List.nil_append, List.cons_append, Option.toList, Bool.or_false, Bool.false_or, Bool.or_true, Bool.true_or, Nat.reduceBEq, Nat.reduceAdd, Nat.reduceLT, Nat.reduceLeDiff, Int.reduceAdd, Int.reduceToNat, true_and, and_true, Fin.isValue, Fin.val_zero, Fin.val_one, Fin.val_two, Fin.reduceFinMk, eq_self, Int.reduceNeg, imp_self, Nat.reduceMul, Nat.le_refl, not_true_eq_false, not_false_eq_true, List.getElem?_nil, reduceCtorEq, true_or, or_true, Classical.not_not, implies_true, or_self, wI_0, wI_1, wI_m1, b2i_w, b2i_eq0, b2i_eq1, b2i_bool, nor_self, nx_pI, kd_pI, ln_pI, fI_pI, fL_pI, fR_pI, aI_pI, aL_pI, aR_pI, nx_pL, kd_pL, ln_pL, fI_pL, fL_pL, fR_pL, aI_pL, aL_pL, aR_pL, nx_pR, kd_pR, ln_pR, fI_pR, fL_pR, fR_pR, aI_pR, aL_pR, aR_pR, nx_qI, kd_qI, ln_qI, fI_qI, fL_qI, fR_qI, aI_qI, aL_qI, aR_qI, nx_qL, kd_qL, ln_qL, fI_qL, fL_qL, fR_qL, aI_qL, aL_qL, aR_qL, nx_qR, kd_qR, ln_qR, fI_qR, fL_qR, fR_qR, aI_qR, aL_qR, aR_qR, nx_mk, kd_mk, ln_mk, fI_mk, fL_mk, fR_mk, aI_mk, aL_mk, aR_mk, false_and, and_false, if_false, if_true, and_self, Int.reduceEq, Nat.reduceEqDiff, ite_self, MLay_pI, MLay_pL, MLay_qI, MLay_qL, ev_X12_answers, xt_X12_answers, xf_X12_answers, us_X12_sentCount, us_X12_rateOf, us_X12_worth, us_X12_sends, hk, hS.fI]
      try simp (disch := omega) only [wI_id, dv_nn, rm_nn]
      repeat' (first | intro z | apply And.intro)
      all_goals try omega
      all_goals exact hq
    | succ n ih =>
      intro l τ hT hS hl hq
      have hk : kd τ 61 = 13 := hT.lay.1
      have x1 := hI.cardLines_s
      have hL := hC.scr hS l (by omega)
      have hT2 := MI_mWorth hT l
      have hS2 := Scr_mWorth τ l
      have hk2 : kd (mWorth τ l) 61 = 13 := hT2.lay.1
      have hm2 : aI (mWorth τ l) 115 a ≤ mTo (mWorth τ l) a := by
        rw [hS2.a (by decide), hS.a (by decide), mTo_Scr hS2, mTo_Scr hS]; exact hm
      have ih := fun z => ih (l + 1) (mWorth τ l) hT2 (hS.trans hS2) (by omega) z
      simp only [Int.natCast_add, Int.cast_ofNat_Int] at ih
      have y1 := hT.lineEngines_ l
      have y2 := hT.lineLadders_ l
      have hc := mSends_c (aI τ 93 l).toNat a 0 hT2 ha hm2
      have z1 : aI (mWorth τ l) 93 = aI τ 93 := hS2.a (by decide)
      have z0 : aI (mWorth τ l) 94 = aI τ 94 := hS2.a (by decide)
      unfold mLines at hq
      generalize e9 : mWorth τ l = ρ at *
      have hk3 : kd (mSends ρ a 0 (aI τ 93 l).toNat) 61 = 13 := hc.1.lay.1
      have z2 : aI (mSends ρ a 0 (aI τ 93 l).toNat) 94 = aI τ 94 := (mSends_a _ _ _ _ (by decide)).trans z0
      refine go_X12_answers (ct := fun p => p == 105) 60 ?_
      simp only [oI, oL, oR, o1, lI, lL, lR, popN, catS, gv, stL, stL2, swt, cnd, spObj, List.getElem?_cons_zero, List.getElem?_cons_succ, List.getD_cons_zero, List.getD_cons_succ, List.set_cons_zero, List.set_cons_succ, List.nil_append, List.cons_append, Option.toList, Bool.or_false, Bool.false_or, Bool.or_true, Bool.true_or, Nat.reduceBEq, Nat.reduceAdd, Nat.reduceLT, Nat.reduceLeDiff, Int.reduceAdd, Int.reduceToNat, true_and, and_true, Fin.isValue, Fin.val_zero, Fin.val_one, Fin.val_two, Fin.reduceFinMk, eq_self, Int.reduceNeg, imp_self, Nat.reduceMul, Nat.le_refl, not_true_eq_false, not_false_eq_true, List.getElem?_nil, reduceCtorEq, true_or, or_true, Classical.not_not, implies_true, or_self, wI_0, wI_1, wI_m1, b2i_w, b2i_eq0, b2i_eq1, b2i_bool, nor_self, nx_pI, kd_pI, ln_pI, fI_pI, fL_pI, fR_pI, aI_pI, aL_pI, aR_pI, nx_pL, kd_pL, ln_pL, fI_pL, fL_pL, fR_pL, aI_pL, aL_pL, aR_pL, nx_pR, kd_pR, ln_pR, fI_pR, fL_pR, fR_pR, aI_pR, aL_pR, aR_pR, nx_qI, kd_qI, ln_qI, fI_qI, fL_qI, fR_qI, aI_qI, aL_qI, aR_qI, nx_qL, kd_qL, ln_qL, fI_qL, fL_qL, fR_qL, aI_qL, aL_qL, aR_qL, nx_qR, kd_qR, ln_qR, fI_qR, fL_qR, fR_qR, aI_qR, aL_qR, aR_qR, nx_mk, kd_mk, ln_mk, fI_mk, fL_mk, fR_mk, aI_mk, aL_mk, aR_mk, false_and, and_false, if_false, if_true, and_self, Int.reduceEq, Nat.reduceEqDiff, ite_self, MLay_pI, MLay_pL, MLay_qI, MLay_qL, ev_X12_answers, xt_X12_answers, xf_X12_answers, us_X12_sentCount, us_X12_rateOf, us_X12_worth, us_X12_sends, hk, hS.fI, hT, hL, e9, hk2, hT2.lay.eqs, z1, hm2, hT2, hc.1, hc.2.1, hk3, hc.1.lay.eqs, z2]
      try simp (disch := omega) only [wI_id, dv_nn, rm_nn]
      repeat' (first | intro z | apply And.intro)
      all_goals try omega
      · rw [if_neg ‹_›] at hq; exact hq
      · rw [if_pos ‹_›] at hq; exact ih hq
  have x1 := hI.now_s
  have hT := MI_mFacts hI a
  have h1 := hI.number_ (aI σ 109 a)
  have h2 := hI.ward_ (aI σ 109 a)
  have h3 := hI.loop_ (aI σ 109 a)
  have h5 := hI.calls_ a
  have h6 := hwM_in (fun c => aI σ 89 c < 0) (fI σ 1335 61).toNat
  have x2 := hI.companies_s
  have hM5 := MI_valueOf_q (k := 5) (v := aI σ 111 a) (MI_valueOf_q (k := 4) (v := fI σ 1301 61 / 3600 % 24) (MI_valueOf_q (k := 3) (v := aI σ 62 (aI σ 109 a)) (MI_valueOf_q (k := 2) (v := aI σ 67 (aI σ 109 a)) (MI_valueOf_q (k := 1) (v := aI σ 63 (aI σ 109 a)) hI (by omega)) (by omega)) (by omega)) (by omega)) (by omega)
  have hM6 := MI_valueOf_q (k := 6) (v := hwM (fun c => aI σ 89 c < 0) (fI σ 1335 61).toNat) hM5 (by omega)
  have w := loop (fI σ 1352 61).toNat 0 _ hT (Scr_mFacts σ a) (by have := hI.cardLines_s; omega) h
  unfold mFacts at w
  have hd : inR (fI σ 1301 61 / 86400) := by unfold inR; omega
  have ed : wI 86400 = 86400 := by decide
  have ee : wI 3600 = 3600 := by decide
  have ef : wI 24 = 24 := by decide
  have r1 : rmI (fI σ 1301 61 / 3600) 24 = fI σ 1301 61 / 3600 % 24 := rm_nn (by omega) (by omega) (by omega) (by omega)
  have r2 : dvI (fI σ 1301 61) 3600 = fI σ 1301 61 / 3600 := dv_nn (by omega) (by omega) (by omega) (by omega)
  have r3 : dvI (fI σ 1301 61) 86400 = fI σ 1301 61 / 86400 := dv_nn (by omega) (by omega) (by omega) (by omega)
  refine go_X12_answers (ct := fun p => p == 105) 90 ?_
  simp only [oI, oL, oR, o1, lI, lL, lR, popN, catS, gv, stL, stL2, swt, cnd, spObj, List.getElem?_cons_zero, List.getElem?_cons_succ, List.getD_cons_zero, List.getD_cons_succ, List.set_cons_zero, List.set_cons_succ, List.nil_append, List.cons_append, Option.toList, Bool.or_false, Bool.false_or, Bool.or_true, Bool.true_or, Nat.reduceBEq, Nat.reduceAdd, Nat.reduceLT, Nat.reduceLeDiff, Int.reduceAdd, Int.reduceToNat, true_and, and_true, Fin.isValue, Fin.val_zero, Fin.val_one, Fin.val_two, Fin.reduceFinMk, eq_self, Int.reduceNeg, imp_self, Nat.reduceMul, Nat.le_refl, not_true_eq_false, not_false_eq_true, List.getElem?_nil, reduceCtorEq, true_or, or_true, Classical.not_not, implies_true, or_self, wI_0, wI_1, wI_m1, b2i_w, b2i_eq0, b2i_eq1, b2i_bool, nor_self, nx_pI, kd_pI, ln_pI, fI_pI, fL_pI, fR_pI, aI_pI, aL_pI, aR_pI, nx_pL, kd_pL, ln_pL, fI_pL, fL_pL, fR_pL, aI_pL, aL_pL, aR_pL, nx_pR, kd_pR, ln_pR, fI_pR, fL_pR, fR_pR, aI_pR, aL_pR, aR_pR, nx_qI, kd_qI, ln_qI, fI_qI, fL_qI, fR_qI, aI_qI, aL_qI, aR_qI, nx_qL, kd_qL, ln_qL, fI_qL, fL_qL, fR_qL, aI_qL, aL_qL, aR_qL, nx_qR, kd_qR, ln_qR, fI_qR, fL_qR, fR_qR, aI_qR, aL_qR, aR_qR, nx_mk, kd_mk, ln_mk, fI_mk, fL_mk, fR_mk, aI_mk, aL_mk, aR_mk, false_and, and_false, if_false, if_true, and_self, Int.reduceEq, Nat.reduceEqDiff, ite_self, MLay_pI, MLay_pL, MLay_qI, MLay_qL, ev_X12_answers, xt_X12_answers, xf_X12_answers, us_X12_sentCount, us_X12_rateOf, us_X12_worth, us_X12_sends, hk, hI.lay.eqs, hI, ed, ee, ef, r1, r2, r3, hM5, hM6, mRt_qI, hd]
  repeat' (first | intro z | apply And.intro)
  all_goals try omega
  all_goals exact w

theorem fI_mLines {a : Int} (ha : 0 ≤ a ∧ a < 100) : ∀ (n l : Nat) {σ : Hp}, MI σ → aI σ 115 a ≤ mTo σ a → fI (mLines σ a n l) = fI σ ∧ MI (mLines σ a n l) ∧ kd (mLines σ a n l) = kd σ
  | 0, l, σ, hI, _ => ⟨rfl, hI, rfl⟩
  | n + 1, l, σ, hI, hm => by
    have hT2 := MI_mWorth hI l
    have hS2 := Scr_mWorth σ l
    have hm2 : aI (mWorth σ l) 115 a ≤ mTo (mWorth σ l) a := by
      rw [hS2.a (by decide), mTo_Scr hS2]; exact hm
    unfold mLines
    split
    · have := fI_mLines ha n (l + 1) hT2 hm2
      exact ⟨this.1.trans hS2.fI, this.2.1, this.2.2.trans hS2.kd⟩
    · have c1 := mSends_c (aI σ 93 l).toNat a 0 hT2 ha hm2
      have c2 := mSends_c (aI σ 94 l).toNat a 1 c1.1 ha c1.2.1
      exact ⟨(c2.2.2.1.trans c1.2.2.1).trans hS2.fI, c2.1, (c2.2.2.2.trans c1.2.2.2).trans hS2.kd⟩
theorem mAns_c {σ : Hp} {a : Int} (ha : 0 ≤ a ∧ a < 100) (hI : MI σ) (hm : aI σ 115 a ≤ mTo σ a) : fI (mAns σ a) = fI σ ∧ MI (mAns σ a) ∧ kd (mAns σ a) = kd σ := by
  have hS := Scr_mFacts σ a
  have := fI_mLines ha (fI σ 1352 61).toNat 0 (MI_mFacts hI a) (by rw [hS.a (by decide), mTo_Scr hS]; exact hm)
  exact ⟨this.1.trans hS.fI, this.2.1, this.2.2.trans hS.kd⟩
theorem mLines_a (a : Int) : ∀ (n l : Nat) (σ : Hp) {r : Int}, scrA.contains r = false → ([91, 89, 90, 116, 115] : List Int).contains r = false → aI (mLines σ a n l) r = aI σ r
  | 0, l, σ, r, _, _ => rfl
  | n + 1, l, σ, r, h1, h2 => by
    have hS2 := Scr_mWorth σ l
    unfold mLines
    split
    · exact (mLines_a a n (l + 1) _ h1 h2).trans (hS2.a h1)
    · exact ((mSends_a _ _ _ _ h2).trans (mSends_a _ _ _ _ h2)).trans (hS2.a h1)
theorem mAns_a (σ : Hp) (a : Int) {r : Int} (h1 : scrA.contains r = false) (h2 : ([91, 89, 90, 116, 115] : List Int).contains r = false) : aI (mAns σ a) r = aI σ r :=
  (mLines_a a _ _ _ h1 h2).trans ((Scr_mFacts σ a).a h1)
/-- an alarm more -/
def mRaise (σ : Hp) (b : Int) : Hp := pI (qI (qI (qI (pI σ 1300 61 0) 109 (fI σ 1371 61) b) 110 (fI σ 1371 61) (fI σ 1301 61 / 86400)) 111 (fI σ 1371 61) 1) 1371 61 (fI σ 1371 61 + 1)
def mCall (σ : Hp) (a : Int) : Hp := qI (pI σ 1300 61 0) 111 a (aI σ 111 a + 1)

def sp_X12_alarm : Sp := fun av σ Q => oR av fun this av => oI av fun b av => av = [] ∧ kd σ this = 13 ∧ (this = 61 ∧ MI σ ∧ inR b ∧ mCards σ ∧ aI σ 115 (fI σ 1371 61) = 0 ∧ (((0 ≤ b ∧ b < fI σ 1302 61) ∧ ¬ fI σ 1371 61 = 100) → Q (some (vi (fI σ 1371 61))) (mAns (mRaise σ b) (fI σ 1371 61))) ∧ (¬ ((0 ≤ b ∧ b < fI σ 1302 61) ∧ ¬ fI σ 1371 61 = 100) → Q (some (vi (-1))) (pI σ 1300 61 0)))
theorem us_X12_alarm (this : Int) (b : Int) (σ : Hp) (Q : Option AV → Hp → Prop) : sp_X12_alarm [vr this, vi b] σ Q = (kd σ this = 13 ∧ (this = 61 ∧ MI σ ∧ inR b ∧ mCards σ ∧ aI σ 115 (fI σ 1371 61) = 0 ∧ (((0 ≤ b ∧ b < fI σ 1302 61) ∧ ¬ fI σ 1371 61 = 100) → Q (some (vi (fI σ 1371 61))) (mAns (mRaise σ b) (fI σ 1371 61))) ∧ (¬ ((0 ≤ b ∧ b < fI σ 1302 61) ∧ ¬ fI σ 1371 61 = 100) → Q (some (vi (-1))) (pI σ 1300 61 0)))) := propext ⟨fun h => h.2, fun h => ⟨rfl, h⟩⟩
theorem el_X12_alarm {av : List AV} {σ : Hp} {Q : Option AV → Hp → Prop} (h : sp_X12_alarm av σ Q) : ∃ (this : Int) (b : Int), av = [vr this, vi b] ∧ (kd σ this = 13 ∧ (this = 61 ∧ MI σ ∧ inR b ∧ mCards σ ∧ aI σ 115 (fI σ 1371 61) = 0 ∧ (((0 ≤ b ∧ b < fI σ 1302 61) ∧ ¬ fI σ 1371 61 = 100) → Q (some (vi (fI σ 1371 61))) (mAns (mRaise σ b) (fI σ 1371 61))) ∧ (¬ ((0 ≤ b ∧ b < fI σ 1302 61) ∧ ¬ fI σ 1371 61 = 100) → Q (some (vi (-1))) (pI σ 1300 61 0)))) := by
  obtain ⟨this, a0, rfl, h0⟩ := oR_s h
  obtain ⟨b, a1, rfl, h1⟩ := oI_s h0
  obtain ⟨rfl, hz⟩ := h1
  exact ⟨this, b, rfl, hz⟩
theorem rc_X12_alarm : ∀ (av : List AV) (σ : Hp) (Q : Option AV → Hp → Prop), sp_X12_alarm av σ Q → ∃ r tl, av = vr r :: tl ∧ kd σ r = 12 + 1 := fun av σ Q h => by
  obtain ⟨this, b, rfl, hz, -⟩ := el_X12_alarm h
  exact ⟨this, _, rfl, hz⟩

def tb_X12_alarm : Tab := [(0, .aload_n 0, 1, (0, 0, 0, 0)), (1, .iconst 0, 1, (0, 0, 0, 0)), (2, .putfield 196, 3, (13, 1300, 0, 0)), (5, .aload_n 0, 1, (0, 0, 0, 0)), (6, .iload_n 1, 1, (0, 0, 0, 0)), (7, .invokevirtual 214, 3, (0, 0, 0, 0)), (10, .ifCond .eq 12, 3, (0, 0, 0, 0)), (13, .aload_n 0, 1, (0, 0, 0, 0)), (14, .getfield 405, 3, (13, 1371, 0, 0)), (17, .bipush 100, 2, (0, 0, 0, 0)), (19, .if_icmp .ne 5, 3, (0, 0, 0, 0)), (22, .iconst (-1), 1, (0, 0, 0, 0)), (23, .ireturn, 1, (0, 0, 0, 0)), (24, .aload_n 0, 1, (0, 0, 0, 0)), (25, .getfield 153, 3, (13, 1372, 2, 0)), (28, .aload_n 0, 1, (0, 0, 0, 0)), (29, .getfield 405, 3, (13, 1371, 0, 0)), (32, .iload_n 1, 1, (0, 0, 0, 0)), (33, .iastore, 1, (0, 0, 0, 0)), (34, .aload_n 0, 1, (0, 0, 0, 0)), (35, .getfield 156, 3, (13, 1373, 2, 0)), (38, .aload_n 0, 1, (0, 0, 0, 0)), (39, .getfield 405, 3, (13, 1371, 0, 0)), (42, .aload_n 0, 1, (0, 0, 0, 0)), (43, .getfield 217, 3, (13, 1301, 0, 0)), (46, .ldc_w 414, 3, (1, 0, 0, 86400)), (49, .idiv, 1, (0, 0, 0, 0)), (50, .iastore, 1, (0, 0, 0, 0)), (51, .aload_n 0, 1, (0, 0, 0, 0)), (52, .getfield 159, 3, (13, 1374, 2, 0)), (55, .aload_n 0, 1, (0, 0, 0, 0)), (56, .getfield 405, 3, (13, 1371, 0, 0)), (59, .iconst 1, 1, (0, 0, 0, 0)), (60, .iastore, 1, (0, 0, 0, 0)), (61, .aload_n 0, 1, (0, 0, 0, 0)), (62, .dup, 1, (0, 0, 0, 0)), (63, .getfield 405, 3, (13, 1371, 0, 0)), (66, .iconst 1, 1, (0, 0, 0, 0)), (67, .iadd, 1, (0, 0, 0, 0)), (68, .putfield 405, 3, (13, 1371, 0, 0)), (71, .aload_n 0, 1, (0, 0, 0, 0)), (72, .aload_n 0, 1, (0, 0, 0, 0)), (73, .getfield 405, 3, (13, 1371, 0, 0)), (76, .iconst 1, 1, (0, 0, 0, 0)), (77, .isub, 1, (0, 0, 0, 0)), (78, .invokevirtual 424, 3, (0, 0, 0, 0)), (81, .aload_n 0, 1, (0, 0, 0, 0)), (82, .getfield 405, 3, (13, 1371, 0, 0)), (85, .iconst 1, 1, (0, 0, 0, 0)), (86, .isub, 1, (0, 0, 0, 0)), (87, .ireturn, 1, (0, 0, 0, 0))]
set_option maxRecDepth 100000 in
theorem tk_X12_alarm : TOK RX12 false cX12_alarm tb_X12_alarm := chkT_ok ft_X12 (by decide +kernel)
theorem rw_X12_3392 : Row RX12 (.invokevirtual 424) 3 2 0 0 4 sp_X12_answers := row_V (n := 1) (ci := 12) c_X12_answers ⟨TBL_in 1954 (by decide +kernel) rfl, TBL_in 1957 (by decide +kernel) rfl, TBL_in 123 (by decide +kernel) rfl, by decide +kernel, by decide⟩ (by decide) rfl (TBL_in 1956 (by decide +kernel) rfl) (TBL_in 88 (by decide +kernel) rfl) rc_X12_answers
def mt_X12_alarm : List (Nat × Mt) := [(1712, 2, 0, 0, 2, sp_X12_isBox), (3392, 2, 0, 0, 4, sp_X12_answers)]
theorem em_X12_alarm : mt_X12_alarm.lookup 1712 = some (2, 0, 0, 2, sp_X12_isBox) ∧ mt_X12_alarm.lookup 3392 = some (2, 0, 0, 4, sp_X12_answers) := ⟨rfl, rfl⟩
theorem mk_X12_alarm : MOK RX12 mt_X12_alarm := by
  intro q hq
  simp only [mt_X12_alarm, List.mem_cons, List.not_mem_nil, or_false] at hq
  rcases hq with rfl | rfl
  · exact rw_X12_1712
  · exact rw_X12_3392
noncomputable def xe_X12_alarm (ct : Nat → Bool) (K : Kt) (R : Option AV → Hp → Prop) (n : Nat) : Kt := exS 2 5 0 0 1 tb_X12_alarm mt_X12_alarm ct K R n
noncomputable def xk_X12_alarm (ct : Nat → Bool) (K : Kt) (R : Option AV → Hp → Prop) (n : Nat) : Kt := exkS 2 5 0 0 1 tb_X12_alarm mt_X12_alarm ct K R n
theorem xt_X12_alarm {ct : Nat → Bool} {K : Kt} {R : Option AV → Hp → Prop} {n pc : Nat} {ls : List (Option AV)} {st : List AV} {σ : Hp} {k : Nat × Nat} (h : ct pc = true) : xk_X12_alarm ct K R n pc ls st σ k = K pc ls st σ k := by unfold xk_X12_alarm exkS; rw [h]
theorem xf_X12_alarm {ct : Nat → Bool} {K : Kt} {R : Option AV → Hp → Prop} {n pc : Nat} {ls : List (Option AV)} {st : List AV} {σ : Hp} {k : Nat × Nat} (h : ct pc = false) : xk_X12_alarm ct K R n pc ls st σ k = xe_X12_alarm ct K R n pc ls st σ k := by unfold xk_X12_alarm exkS xe_X12_alarm; rw [h]
theorem ev_X12_alarm {ct : Nat → Bool} {K : Kt} {R : Option AV → Hp → Prop} {n : Nat} {ls : List (Option AV)} {st : List AV} {σ : Hp} {k : Nat × Nat} :
  xe_X12_alarm ct K R (n + 1) 0 ls st σ k = (lR ls 0 fun x => xk_X12_alarm ct K R n 1 ls (vr x :: st) σ k) ∧
  xe_X12_alarm ct K R (n + 1) 1 ls st σ k = (xk_X12_alarm ct K R n 2 ls (vi (0) :: st) σ k) ∧
  xe_X12_alarm ct K R (n + 1) 2 ls st σ k = (oI st fun v st => oR st fun x st => kd σ x = 13 ∧ xk_X12_alarm ct K R n 5 ls st (pI σ 1300 x v) k) ∧
  xe_X12_alarm ct K R (n + 1) 5 ls st σ k = (lR ls 0 fun x => xk_X12_alarm ct K R n 6 ls (vr x :: st) σ k) ∧
  xe_X12_alarm ct K R (n + 1) 6 ls st σ k = (lI ls 1 fun x => xk_X12_alarm ct K R n 7 ls (vi x :: st) σ k) ∧
  xe_X12_alarm ct K R (n + 1) 7 ls st σ k = (popN 2 st [] fun av rest => (catS rest ≤ 8 ∧ 2 < 5 ∧ k.1 + 0 ≤ 0 ∧ k.2 + 0 ≤ 0) ∧ (sp_X12_isBox) av σ fun v σ' => xk_X12_alarm ct K R n 10 ls (v.toList ++ rest) σ' (k.1 + 0, k.2 + 0)) ∧
  xe_X12_alarm ct K R (n + 1) 10 ls st σ k = (oI st fun x st => (wI x = wI 0 → xk_X12_alarm ct K R n 22 ls st σ k) ∧ (¬ (wI x = wI 0) → xk_X12_alarm ct K R n 13 ls st σ k)) ∧
  xe_X12_alarm ct K R (n + 1) 13 ls st σ k = (lR ls 0 fun x => xk_X12_alarm ct K R n 14 ls (vr x :: st) σ k) ∧
  xe_X12_alarm ct K R (n + 1) 14 ls st σ k = (oR st fun x st => kd σ x = 13 ∧ xk_X12_alarm ct K R n 17 ls (vi (fI σ 1371 x) :: st) σ k) ∧
  xe_X12_alarm ct K R (n + 1) 17 ls st σ k = (xk_X12_alarm ct K R n 19 ls (vi (100) :: st) σ k) ∧
  xe_X12_alarm ct K R (n + 1) 19 ls st σ k = (oI st fun y st => oI st fun x st => (¬ wI x = wI y → xk_X12_alarm ct K R n 24 ls st σ k) ∧ (¬ (¬ wI x = wI y) → xk_X12_alarm ct K R n 22 ls st σ k)) ∧
  xe_X12_alarm ct K R (n + 1) 22 ls st σ k = (xk_X12_alarm ct K R n 23 ls (vi (-1) :: st) σ k) ∧
  xe_X12_alarm ct K R (n + 1) 23 ls st σ k = (oI st fun x st => st = [] ∧ True ∧ R (some (vi x)) σ) ∧
  xe_X12_alarm ct K R (n + 1) 24 ls st σ k = (lR ls 0 fun x => xk_X12_alarm ct K R n 25 ls (vr x :: st) σ k) ∧
  xe_X12_alarm ct K R (n + 1) 25 ls st σ k = (oR st fun x st => kd σ x = 13 ∧ xk_X12_alarm ct K R n 28 ls (vr (fR σ 1372 x) :: st) σ k) ∧
  xe_X12_alarm ct K R (n + 1) 28 ls st σ k = (lR ls 0 fun x => xk_X12_alarm ct K R n 29 ls (vr x :: st) σ k) ∧
  xe_X12_alarm ct K R (n + 1) 29 ls st σ k = (oR st fun x st => kd σ x = 13 ∧ xk_X12_alarm ct K R n 32 ls (vi (fI σ 1371 x) :: st) σ k) ∧
  xe_X12_alarm ct K R (n + 1) 32 ls st σ k = (lI ls 1 fun x => xk_X12_alarm ct K R n 33 ls (vi x :: st) σ k) ∧
  xe_X12_alarm ct K R (n + 1) 33 ls st σ k = (oI st fun v st => oI st fun j st => oR st fun x st => kd σ x = 101 ∧ (0 ≤ j ∧ j < ln σ x) ∧ xk_X12_alarm ct K R n 34 ls st (qI σ x j v) k) ∧
  xe_X12_alarm ct K R (n + 1) 34 ls st σ k = (lR ls 0 fun x => xk_X12_alarm ct K R n 35 ls (vr x :: st) σ k) ∧
  xe_X12_alarm ct K R (n + 1) 35 ls st σ k = (oR st fun x st => kd σ x = 13 ∧ xk_X12_alarm ct K R n 38 ls (vr (fR σ 1373 x) :: st) σ k) ∧
  xe_X12_alarm ct K R (n + 1) 38 ls st σ k = (lR ls 0 fun x => xk_X12_alarm ct K R n 39 ls (vr x :: st) σ k) ∧
  xe_X12_alarm ct K R (n + 1) 39 ls st σ k = (oR st fun x st => kd σ x = 13 ∧ xk_X12_alarm ct K R n 42 ls (vi (fI σ 1371 x) :: st) σ k) ∧
  xe_X12_alarm ct K R (n + 1) 42 ls st σ k = (lR ls 0 fun x => xk_X12_alarm ct K R n 43 ls (vr x :: st) σ k) ∧
  xe_X12_alarm ct K R (n + 1) 43 ls st σ k = (oR st fun x st => kd σ x = 13 ∧ xk_X12_alarm ct K R n 46 ls (vi (fI σ 1301 x) :: st) σ k) ∧
  xe_X12_alarm ct K R (n + 1) 46 ls st σ k = (xk_X12_alarm ct K R n 49 ls (vi (86400) :: st) σ k) ∧
  xe_X12_alarm ct K R (n + 1) 49 ls st σ k = (oI st fun y st => oI st fun x st => ¬ wI y = 0 ∧ xk_X12_alarm ct K R n 50 ls (vi (dvI x y) :: st) σ k) ∧
  xe_X12_alarm ct K R (n + 1) 50 ls st σ k = (oI st fun v st => oI st fun j st => oR st fun x st => kd σ x = 101 ∧ (0 ≤ j ∧ j < ln σ x) ∧ xk_X12_alarm ct K R n 51 ls st (qI σ x j v) k) ∧
  xe_X12_alarm ct K R (n + 1) 51 ls st σ k = (lR ls 0 fun x => xk_X12_alarm ct K R n 52 ls (vr x :: st) σ k) ∧
  xe_X12_alarm ct K R (n + 1) 52 ls st σ k = (oR st fun x st => kd σ x = 13 ∧ xk_X12_alarm ct K R n 55 ls (vr (fR σ 1374 x) :: st) σ k) ∧
  xe_X12_alarm ct K R (n + 1) 55 ls st σ k = (lR ls 0 fun x => xk_X12_alarm ct K R n 56 ls (vr x :: st) σ k) ∧
  xe_X12_alarm ct K R (n + 1) 56 ls st σ k = (oR st fun x st => kd σ x = 13 ∧ xk_X12_alarm ct K R n 59 ls (vi (fI σ 1371 x) :: st) σ k) ∧
  xe_X12_alarm ct K R (n + 1) 59 ls st σ k = (xk_X12_alarm ct K R n 60 ls (vi (1) :: st) σ k) ∧
  xe_X12_alarm ct K R (n + 1) 60 ls st σ k = (oI st fun v st => oI st fun j st => oR st fun x st => kd σ x = 101 ∧ (0 ≤ j ∧ j < ln σ x) ∧ xk_X12_alarm ct K R n 61 ls st (qI σ x j v) k) ∧
  xe_X12_alarm ct K R (n + 1) 61 ls st σ k = (lR ls 0 fun x => xk_X12_alarm ct K R n 62 ls (vr x :: st) σ k) ∧
  xe_X12_alarm ct K R (n + 1) 62 ls st σ k = (o1 st fun v st => xk_X12_alarm ct K R n 63 ls (v :: v :: st) σ k) ∧
  xe_X12_alarm ct K R (n + 1) 63 ls st σ k = (oR st fun x st => kd σ x = 13 ∧ xk_X12_alarm ct K R n 66 ls (vi (fI σ 1371 x) :: st) σ k) ∧
  xe_X12_alarm ct K R (n + 1) 66 ls st σ k = (xk_X12_alarm ct K R n 67 ls (vi (1) :: st) σ k) ∧
  xe_X12_alarm ct K R (n + 1) 67 ls st σ k = (oI st fun y st => oI st fun x st => xk_X12_alarm ct K R n 68 ls (vi (x + y) :: st) σ k) ∧
  xe_X12_alarm ct K R (n + 1) 68 ls st σ k = (oI st fun v st => oR st fun x st => kd σ x = 13 ∧ xk_X12_alarm ct K R n 71 ls st (pI σ 1371 x v) k) ∧
  xe_X12_alarm ct K R (n + 1) 71 ls st σ k = (lR ls 0 fun x => xk_X12_alarm ct K R n 72 ls (vr x :: st) σ k) ∧
  xe_X12_alarm ct K R (n + 1) 72 ls st σ k = (lR ls 0 fun x => xk_X12_alarm ct K R n 73 ls (vr x :: st) σ k) ∧
  xe_X12_alarm ct K R (n + 1) 73 ls st σ k = (oR st fun x st => kd σ x = 13 ∧ xk_X12_alarm ct K R n 76 ls (vi (fI σ 1371 x) :: st) σ k) ∧
  xe_X12_alarm ct K R (n + 1) 76 ls st σ k = (xk_X12_alarm ct K R n 77 ls (vi (1) :: st) σ k) ∧
  xe_X12_alarm ct K R (n + 1) 77 ls st σ k = (oI st fun y st => oI st fun x st => xk_X12_alarm ct K R n 78 ls (vi (x - y) :: st) σ k) ∧
  xe_X12_alarm ct K R (n + 1) 78 ls st σ k = (popN 2 st [] fun av rest => (catS rest ≤ 8 ∧ 4 < 5 ∧ k.1 + 0 ≤ 0 ∧ k.2 + 0 ≤ 0) ∧ (sp_X12_answers) av σ fun v σ' => xk_X12_alarm ct K R n 81 ls (v.toList ++ rest) σ' (k.1 + 0, k.2 + 0)) ∧
  xe_X12_alarm ct K R (n + 1) 81 ls st σ k = (lR ls 0 fun x => xk_X12_alarm ct K R n 82 ls (vr x :: st) σ k) ∧
  xe_X12_alarm ct K R (n + 1) 82 ls st σ k = (oR st fun x st => kd σ x = 13 ∧ xk_X12_alarm ct K R n 85 ls (vi (fI σ 1371 x) :: st) σ k) ∧
  xe_X12_alarm ct K R (n + 1) 85 ls st σ k = (xk_X12_alarm ct K R n 86 ls (vi (1) :: st) σ k) ∧
  xe_X12_alarm ct K R (n + 1) 86 ls st σ k = (oI st fun y st => oI st fun x st => xk_X12_alarm ct K R n 87 ls (vi (x - y) :: st) σ k) ∧
  xe_X12_alarm ct K R (n + 1) 87 ls st σ k = (oI st fun x st => st = [] ∧ True ∧ R (some (vi x)) σ) :=
  ⟨exS_step.trans rfl, exS_step.trans rfl, exS_step.trans rfl, exS_step.trans rfl, exS_step.trans rfl, exS_step.trans rfl, exS_step.trans rfl, exS_step.trans rfl, exS_step.trans rfl, exS_step.trans rfl, exS_step.trans rfl, exS_step.trans rfl, exS_step.trans rfl, exS_step.trans rfl, exS_step.trans rfl, exS_step.trans rfl, exS_step.trans rfl, exS_step.trans rfl, exS_step.trans rfl, exS_step.trans rfl, exS_step.trans rfl, exS_step.trans rfl, exS_step.trans rfl, exS_step.trans rfl, exS_step.trans rfl, exS_step.trans rfl, exS_step.trans rfl, exS_step.trans rfl, exS_step.trans rfl, exS_step.trans rfl, exS_step.trans rfl, exS_step.trans rfl, exS_step.trans rfl, exS_step.trans rfl, exS_step.trans rfl, exS_step.trans rfl, exS_step.trans rfl, exS_step.trans rfl, exS_step.trans rfl, exS_step.trans rfl, exS_step.trans rfl, exS_step.trans rfl, exS_step.trans rfl, exS_step.trans rfl, exS_step.trans rfl, exS_step.trans rfl, exS_step.trans rfl, exS_step.trans rfl, exS_step.trans rfl, exS_step.trans rfl, exS_step.trans rfl⟩
def M_X12_alarm : Md := (yX12_alarm, cX12_alarm, 2, (some FieldType.int), 5, 0, 0, 1, false, tb_X12_alarm, mt_X12_alarm)
theorem mm_X12_alarm : MMOK M_X12_alarm := ⟨by decide +kernel, tk_X12_alarm, mk_X12_alarm, rfl, fun h => by cases h⟩
theorem go_X12_alarm {Q : Option AV → Hp → Prop} {ct : Nat → Bool} {pc : Nat} {ls : List (Option AV)} {st : List AV} {σ : Hp} {k : Nat × Nat} (n : Nat) (h : xe_X12_alarm ct (Go M_X12_alarm Q) Q n pc ls st σ k) : Go M_X12_alarm Q pc ls st σ k := Go.exS mm_X12_alarm h

set_option maxRecDepth 20000 in
theorem c_X12_alarm : Ct yX12_alarm cX12_alarm 2 ((some FieldType.int)) 5 0 0 sp_X12_alarm := by
  refine Ct.go (M := M_X12_alarm) mm_X12_alarm fun av σ Q h0 => ?_
  obtain ⟨this, b, rfl, hk, h⟩ := el_X12_alarm h0
  clear h0
  refine ⟨Nat.le_of_ble_eq_true rfl, ?_⟩
  show Go M_X12_alarm Q 0 [some (vr this), some (vi b)] [] σ (0, 0)
  obtain ⟨rfl, hI, hb, hC, hz, h1, h2⟩ := h
  have hI2 : MI (pI σ 1300 61 0) := MI_fre hI (by decide)
  have x1 := hI.alarms_s
  have x2 := hI.now_s
  have x3 := hI.boxes_s
  have ed : wI 86400 = 86400 := by decide
  have r3 : dvI (fI σ 1301 61) 86400 = fI σ 1301 61 / 86400 := dv_nn (by omega) (by omega) (by omega) (by omega)
  by_cases c1 : (0 ≤ b ∧ b < fI σ 1302 61) ∧ ¬ fI σ 1371 61 = 100
  · have h1 := h1 c1
    have hM : MI (mRaise σ b) := MI_alarms_p (MI_calls_q (MI_alarmDay_q (MI_alarmBox_q hI2 (by omega)) (by omega)) (by omega)) (by omega)
    have hm : aI (mRaise σ b) 115 (fI σ 1371 61) ≤ mTo (mRaise σ b) (fI σ 1371 61) := by
      have e : aI (mRaise σ b) 115 (fI σ 1371 61) = aI σ 115 (fI σ 1371 61) := rfl
      rw [e, hz]; exact (hwM_in _ _).1
    have hC2 : mCards (mRaise σ b) := hC.of rfl rfl rfl rfl
    have hc := mAns_c (a := fI σ 1371 61) (by omega) hM hm
    have hk2 : kd (mAns (mRaise σ b) (fI σ 1371 61)) 61 = 13 := hc.2.1.lay.1
    have ef : fI (mAns (mRaise σ b) (fI σ 1371 61)) 1371 61 = fI σ 1371 61 + 1 := by rw [hc.1]; rfl
    have e1 : fI σ 1371 61 + 1 - 1 = fI σ 1371 61 := by omega
    generalize e9 : mRaise σ b = τ at hM hm hC2 hk2 ef h1
    unfold mRaise at e9
    refine go_X12_alarm (ct := fun p => false) 90 ?_
    simp only [oI, oL, oR, o1, lI, lL, lR, popN, catS, gv, stL, stL2, swt, cnd, spObj, List.getElem?_cons_zero, List.getElem?_cons_succ, List.getD_cons_zero, List.getD_cons_succ, List.set_cons_zero, List.set_cons_succ, List.nil_append, List.cons_append, Option.toList, Bool.or_false, Bool.false_or, Bool.or_true, Bool.true_or, Nat.reduceBEq, Nat.reduceAdd, Nat.reduceLT, Nat.reduceLeDiff, Int.reduceAdd, Int.reduceToNat, true_and, and_true, Fin.isValue, Fin.val_zero, Fin.val_one, Fin.val_two, Fin.reduceFinMk, eq_self, Int.reduceNeg, imp_self, Nat.reduceMul, Nat.le_refl, not_true_eq_false, not_false_eq_true, List.getElem?_nil, reduceCtorEq, true_or, or_true, Classical.not_not, implies_true, or_self, wI_0, wI_1, wI_m1, b2i_w, b2i_eq0, b2i_eq1, b2i_bool, nor_self, nx_pI, kd_pI, ln_pI, fI_pI, fL_pI, fR_pI, aI_pI, aL_pI, aR_pI, nx_pL, kd_pL, ln_pL, fI_pL, fL_pL, fR_pL, aI_pL, aL_pL, aR_pL, nx_pR, kd_pR, ln_pR, fI_pR, fL_pR, fR_pR, aI_pR, aL_pR, aR_pR, nx_qI, kd_qI, ln_qI, fI_qI, fL_qI, fR_qI, aI_qI, aL_qI, aR_qI, nx_qL, kd_qL, ln_qL, fI_qL, fL_qL, fR_qL, aI_qL, aL_qL, aR_qL, nx_qR, kd_qR, ln_qR, fI_qR, fL_qR, fR_qR, aI_qR, aL_qR, aR_qR, nx_mk, kd_mk, ln_mk, fI_mk, fL_mk, fR_mk, aI_mk, aL_mk, aR_mk, false_and, and_false, if_false, if_true, and_self, Int.reduceEq, Nat.reduceEqDiff, ite_self, MLay_pI, MLay_pL, MLay_qI, MLay_qL, ev_X12_alarm, xt_X12_alarm, xf_X12_alarm, us_X12_isBox, us_X12_answers, hk, hI.lay.eqs, hI2, hb, ed, r3, e1, e9, hM, hm, hC2, hk2, ef]
    try simp (disch := omega) only [wI_id, dv_nn, rm_nn]
    repeat' (first | intro z | apply And.intro)
    all_goals try omega
    all_goals first | exact h1 | exact hm | (rw [hz]; exact (hwM_in _ _).1)
  · have h2 := h2 c1
    refine go_X12_alarm (ct := fun p => false) 90 ?_
    simp only [oI, oL, oR, o1, lI, lL, lR, popN, catS, gv, stL, stL2, swt, cnd, spObj, List.getElem?_cons_zero, List.getElem?_cons_succ, List.getD_cons_zero, List.getD_cons_succ, List.set_cons_zero, List.set_cons_succ, List.nil_append, List.cons_append, Option.toList, Bool.or_false, Bool.false_or, Bool.or_true, Bool.true_or, Nat.reduceBEq, Nat.reduceAdd, Nat.reduceLT, Nat.reduceLeDiff, Int.reduceAdd, Int.reduceToNat, true_and, and_true, Fin.isValue, Fin.val_zero, Fin.val_one, Fin.val_two, Fin.reduceFinMk, eq_self, Int.reduceNeg, imp_self, Nat.reduceMul, Nat.le_refl, not_true_eq_false, not_false_eq_true, List.getElem?_nil, reduceCtorEq, true_or, or_true, Classical.not_not, implies_true, or_self, wI_0, wI_1, wI_m1, b2i_w, b2i_eq0, b2i_eq1, b2i_bool, nor_self, nx_pI, kd_pI, ln_pI, fI_pI, fL_pI, fR_pI, aI_pI, aL_pI, aR_pI, nx_pL, kd_pL, ln_pL, fI_pL, fL_pL, fR_pL, aI_pL, aL_pL, aR_pL, nx_pR, kd_pR, ln_pR, fI_pR, fL_pR, fR_pR, aI_pR, aL_pR, aR_pR, nx_qI, kd_qI, ln_qI, fI_qI, fL_qI, fR_qI, aI_qI, aL_qI, aR_qI, nx_qL, kd_qL, ln_qL, fI_qL, fL_qL, fR_qL, aI_qL, aL_qL, aR_qL, nx_qR, kd_qR, ln_qR, fI_qR, fL_qR, fR_qR, aI_qR, aL_qR, aR_qR, nx_mk, kd_mk, ln_mk, fI_mk, fL_mk, fR_mk, aI_mk, aL_mk, aR_mk, false_and, and_false, if_false, if_true, and_self, Int.reduceEq, Nat.reduceEqDiff, ite_self, MLay_pI, MLay_pL, MLay_qI, MLay_qL, ev_X12_alarm, xt_X12_alarm, xf_X12_alarm, us_X12_isBox, us_X12_answers, hk, hI.lay.eqs, hI2, hb, ed, r3]
    try simp (disch := omega) only [wI_id, dv_nn, rm_nn]
    repeat' (first | intro z | apply And.intro)
    all_goals try omega
    all_goals exact h2

def sp_X12_again : Sp := fun av σ Q => oR av fun this av => oI av fun a av => av = [] ∧ kd σ this = 13 ∧ (this = 61 ∧ MI σ ∧ inR a ∧ mCards σ ∧ (0 ≤ a → a < fI σ 1371 61 → aI σ 112 a = 0 → aI σ 115 a ≤ mTo σ a) ∧ (((0 ≤ a ∧ a < fI σ 1371 61) ∧ aI σ 112 a = 0 ∧ ¬ aI σ 111 a = 3) → Q (some (vi (aI σ 111 a + 1))) (mAns (mCall σ a) a)) ∧ (¬ ((0 ≤ a ∧ a < fI σ 1371 61) ∧ aI σ 112 a = 0 ∧ ¬ aI σ 111 a = 3) → Q (some (vi (-1))) (pI σ 1300 61 0)))
theorem us_X12_again (this : Int) (a : Int) (σ : Hp) (Q : Option AV → Hp → Prop) : sp_X12_again [vr this, vi a] σ Q = (kd σ this = 13 ∧ (this = 61 ∧ MI σ ∧ inR a ∧ mCards σ ∧ (0 ≤ a → a < fI σ 1371 61 → aI σ 112 a = 0 → aI σ 115 a ≤ mTo σ a) ∧ (((0 ≤ a ∧ a < fI σ 1371 61) ∧ aI σ 112 a = 0 ∧ ¬ aI σ 111 a = 3) → Q (some (vi (aI σ 111 a + 1))) (mAns (mCall σ a) a)) ∧ (¬ ((0 ≤ a ∧ a < fI σ 1371 61) ∧ aI σ 112 a = 0 ∧ ¬ aI σ 111 a = 3) → Q (some (vi (-1))) (pI σ 1300 61 0)))) := propext ⟨fun h => h.2, fun h => ⟨rfl, h⟩⟩
theorem el_X12_again {av : List AV} {σ : Hp} {Q : Option AV → Hp → Prop} (h : sp_X12_again av σ Q) : ∃ (this : Int) (a : Int), av = [vr this, vi a] ∧ (kd σ this = 13 ∧ (this = 61 ∧ MI σ ∧ inR a ∧ mCards σ ∧ (0 ≤ a → a < fI σ 1371 61 → aI σ 112 a = 0 → aI σ 115 a ≤ mTo σ a) ∧ (((0 ≤ a ∧ a < fI σ 1371 61) ∧ aI σ 112 a = 0 ∧ ¬ aI σ 111 a = 3) → Q (some (vi (aI σ 111 a + 1))) (mAns (mCall σ a) a)) ∧ (¬ ((0 ≤ a ∧ a < fI σ 1371 61) ∧ aI σ 112 a = 0 ∧ ¬ aI σ 111 a = 3) → Q (some (vi (-1))) (pI σ 1300 61 0)))) := by
  obtain ⟨this, a0, rfl, h0⟩ := oR_s h
  obtain ⟨a, a1, rfl, h1⟩ := oI_s h0
  obtain ⟨rfl, hz⟩ := h1
  exact ⟨this, a, rfl, hz⟩
theorem rc_X12_again : ∀ (av : List AV) (σ : Hp) (Q : Option AV → Hp → Prop), sp_X12_again av σ Q → ∃ r tl, av = vr r :: tl ∧ kd σ r = 12 + 1 := fun av σ Q h => by
  obtain ⟨this, a, rfl, hz, -⟩ := el_X12_again h
  exact ⟨this, _, rfl, hz⟩

def tb_X12_again : Tab := [(0, .aload_n 0, 1, (0, 0, 0, 0)), (1, .iconst 0, 1, (0, 0, 0, 0)), (2, .putfield 196, 3, (13, 1300, 0, 0)), (5, .aload_n 0, 1, (0, 0, 0, 0)), (6, .iload_n 1, 1, (0, 0, 0, 0)), (7, .invokevirtual 427, 3, (0, 0, 0, 0)), (10, .ifCond .eq 22, 3, (0, 0, 0, 0)), (13, .aload_n 0, 1, (0, 0, 0, 0)), (14, .getfield 162, 3, (13, 1375, 2, 0)), (17, .iload_n 1, 1, (0, 0, 0, 0)), (18, .baload, 1, (0, 0, 0, 0)), (19, .ifCond .ne 13, 3, (0, 0, 0, 0)), (22, .aload_n 0, 1, (0, 0, 0, 0)), (23, .getfield 159, 3, (13, 1374, 2, 0)), (26, .iload_n 1, 1, (0, 0, 0, 0)), (27, .iaload, 1, (0, 0, 0, 0)), (28, .iconst 3, 1, (0, 0, 0, 0)), (29, .if_icmp .ne 5, 3, (0, 0, 0, 0)), (32, .iconst (-1), 1, (0, 0, 0, 0)), (33, .ireturn, 1, (0, 0, 0, 0)), (34, .aload_n 0, 1, (0, 0, 0, 0)), (35, .getfield 159, 3, (13, 1374, 2, 0)), (38, .iload_n 1, 1, (0, 0, 0, 0)), (39, .dup2, 1, (0, 0, 0, 0)), (40, .iaload, 1, (0, 0, 0, 0)), (41, .iconst 1, 1, (0, 0, 0, 0)), (42, .iadd, 1, (0, 0, 0, 0)), (43, .iastore, 1, (0, 0, 0, 0)), (44, .aload_n 0, 1, (0, 0, 0, 0)), (45, .iload_n 1, 1, (0, 0, 0, 0)), (46, .invokevirtual 424, 3, (0, 0, 0, 0)), (49, .aload_n 0, 1, (0, 0, 0, 0)), (50, .getfield 159, 3, (13, 1374, 2, 0)), (53, .iload_n 1, 1, (0, 0, 0, 0)), (54, .iaload, 1, (0, 0, 0, 0)), (55, .ireturn, 1, (0, 0, 0, 0))]
set_option maxRecDepth 100000 in
theorem tk_X12_again : TOK RX12 false cX12_again tb_X12_again := chkT_ok ft_X12 (by decide +kernel)
def mt_X12_again : List (Nat × Mt) := [(3416, 2, 0, 0, 2, sp_X12_isAlarm), (3392, 2, 0, 0, 4, sp_X12_answers)]
theorem em_X12_again : mt_X12_again.lookup 3416 = some (2, 0, 0, 2, sp_X12_isAlarm) ∧ mt_X12_again.lookup 3392 = some (2, 0, 0, 4, sp_X12_answers) := ⟨rfl, rfl⟩
theorem mk_X12_again : MOK RX12 mt_X12_again := by
  intro q hq
  simp only [mt_X12_again, List.mem_cons, List.not_mem_nil, or_false] at hq
  rcases hq with rfl | rfl
  · exact rw_X12_3416
  · exact rw_X12_3392
noncomputable def xe_X12_again (ct : Nat → Bool) (K : Kt) (R : Option AV → Hp → Prop) (n : Nat) : Kt := exS 2 5 0 0 1 tb_X12_again mt_X12_again ct K R n
noncomputable def xk_X12_again (ct : Nat → Bool) (K : Kt) (R : Option AV → Hp → Prop) (n : Nat) : Kt := exkS 2 5 0 0 1 tb_X12_again mt_X12_again ct K R n
theorem xt_X12_again {ct : Nat → Bool} {K : Kt} {R : Option AV → Hp → Prop} {n pc : Nat} {ls : List (Option AV)} {st : List AV} {σ : Hp} {k : Nat × Nat} (h : ct pc = true) : xk_X12_again ct K R n pc ls st σ k = K pc ls st σ k := by unfold xk_X12_again exkS; rw [h]
theorem xf_X12_again {ct : Nat → Bool} {K : Kt} {R : Option AV → Hp → Prop} {n pc : Nat} {ls : List (Option AV)} {st : List AV} {σ : Hp} {k : Nat × Nat} (h : ct pc = false) : xk_X12_again ct K R n pc ls st σ k = xe_X12_again ct K R n pc ls st σ k := by unfold xk_X12_again exkS xe_X12_again; rw [h]
theorem ev_X12_again {ct : Nat → Bool} {K : Kt} {R : Option AV → Hp → Prop} {n : Nat} {ls : List (Option AV)} {st : List AV} {σ : Hp} {k : Nat × Nat} :
  xe_X12_again ct K R (n + 1) 0 ls st σ k = (lR ls 0 fun x => xk_X12_again ct K R n 1 ls (vr x :: st) σ k) ∧
  xe_X12_again ct K R (n + 1) 1 ls st σ k = (xk_X12_again ct K R n 2 ls (vi (0) :: st) σ k) ∧
  xe_X12_again ct K R (n + 1) 2 ls st σ k = (oI st fun v st => oR st fun x st => kd σ x = 13 ∧ xk_X12_again ct K R n 5 ls st (pI σ 1300 x v) k) ∧
  xe_X12_again ct K R (n + 1) 5 ls st σ k = (lR ls 0 fun x => xk_X12_again ct K R n 6 ls (vr x :: st) σ k) ∧
  xe_X12_again ct K R (n + 1) 6 ls st σ k = (lI ls 1 fun x => xk_X12_again ct K R n 7 ls (vi x :: st) σ k) ∧
  xe_X12_again ct K R (n + 1) 7 ls st σ k = (popN 2 st [] fun av rest => (catS rest ≤ 8 ∧ 2 < 5 ∧ k.1 + 0 ≤ 0 ∧ k.2 + 0 ≤ 0) ∧ (sp_X12_isAlarm) av σ fun v σ' => xk_X12_again ct K R n 10 ls (v.toList ++ rest) σ' (k.1 + 0, k.2 + 0)) ∧
  xe_X12_again ct K R (n + 1) 10 ls st σ k = (oI st fun x st => (wI x = wI 0 → xk_X12_again ct K R n 32 ls st σ k) ∧ (¬ (wI x = wI 0) → xk_X12_again ct K R n 13 ls st σ k)) ∧
  xe_X12_again ct K R (n + 1) 13 ls st σ k = (lR ls 0 fun x => xk_X12_again ct K R n 14 ls (vr x :: st) σ k) ∧
  xe_X12_again ct K R (n + 1) 14 ls st σ k = (oR st fun x st => kd σ x = 13 ∧ xk_X12_again ct K R n 17 ls (vr (fR σ 1375 x) :: st) σ k) ∧
  xe_X12_again ct K R (n + 1) 17 ls st σ k = (lI ls 1 fun x => xk_X12_again ct K R n 18 ls (vi x :: st) σ k) ∧
  xe_X12_again ct K R (n + 1) 18 ls st σ k = (oI st fun j st => oR st fun x st => (kd σ x = 103 ∨ kd σ x = 21) ∧ (0 ≤ j ∧ j < ln σ x) ∧ xk_X12_again ct K R n 19 ls (vi (aI σ x j) :: st) σ k) ∧
  xe_X12_again ct K R (n + 1) 19 ls st σ k = (oI st fun x st => (¬ wI x = wI 0 → xk_X12_again ct K R n 32 ls st σ k) ∧ (¬ (¬ wI x = wI 0) → xk_X12_again ct K R n 22 ls st σ k)) ∧
  xe_X12_again ct K R (n + 1) 22 ls st σ k = (lR ls 0 fun x => xk_X12_again ct K R n 23 ls (vr x :: st) σ k) ∧
  xe_X12_again ct K R (n + 1) 23 ls st σ k = (oR st fun x st => kd σ x = 13 ∧ xk_X12_again ct K R n 26 ls (vr (fR σ 1374 x) :: st) σ k) ∧
  xe_X12_again ct K R (n + 1) 26 ls st σ k = (lI ls 1 fun x => xk_X12_again ct K R n 27 ls (vi x :: st) σ k) ∧
  xe_X12_again ct K R (n + 1) 27 ls st σ k = (oI st fun j st => oR st fun x st => (kd σ x = 101 ∨ kd σ x = 108) ∧ (0 ≤ j ∧ j < ln σ x) ∧ xk_X12_again ct K R n 28 ls (vi (aI σ x j) :: st) σ k) ∧
  xe_X12_again ct K R (n + 1) 28 ls st σ k = (xk_X12_again ct K R n 29 ls (vi (3) :: st) σ k) ∧
  xe_X12_again ct K R (n + 1) 29 ls st σ k = (oI st fun y st => oI st fun x st => (¬ wI x = wI y → xk_X12_again ct K R n 34 ls st σ k) ∧ (¬ (¬ wI x = wI y) → xk_X12_again ct K R n 32 ls st σ k)) ∧
  xe_X12_again ct K R (n + 1) 32 ls st σ k = (xk_X12_again ct K R n 33 ls (vi (-1) :: st) σ k) ∧
  xe_X12_again ct K R (n + 1) 33 ls st σ k = (oI st fun x st => st = [] ∧ True ∧ R (some (vi x)) σ) ∧
  xe_X12_again ct K R (n + 1) 34 ls st σ k = (lR ls 0 fun x => xk_X12_again ct K R n 35 ls (vr x :: st) σ k) ∧
  xe_X12_again ct K R (n + 1) 35 ls st σ k = (oR st fun x st => kd σ x = 13 ∧ xk_X12_again ct K R n 38 ls (vr (fR σ 1374 x) :: st) σ k) ∧
  xe_X12_again ct K R (n + 1) 38 ls st σ k = (lI ls 1 fun x => xk_X12_again ct K R n 39 ls (vi x :: st) σ k) ∧
  xe_X12_again ct K R (n + 1) 39 ls st σ k = (o1 st fun v st => o1 st fun u st => xk_X12_again ct K R n 40 ls (v :: u :: v :: u :: st) σ k) ∧
  xe_X12_again ct K R (n + 1) 40 ls st σ k = (oI st fun j st => oR st fun x st => (kd σ x = 101 ∨ kd σ x = 108) ∧ (0 ≤ j ∧ j < ln σ x) ∧ xk_X12_again ct K R n 41 ls (vi (aI σ x j) :: st) σ k) ∧
  xe_X12_again ct K R (n + 1) 41 ls st σ k = (xk_X12_again ct K R n 42 ls (vi (1) :: st) σ k) ∧
  xe_X12_again ct K R (n + 1) 42 ls st σ k = (oI st fun y st => oI st fun x st => xk_X12_again ct K R n 43 ls (vi (x + y) :: st) σ k) ∧
  xe_X12_again ct K R (n + 1) 43 ls st σ k = (oI st fun v st => oI st fun j st => oR st fun x st => kd σ x = 101 ∧ (0 ≤ j ∧ j < ln σ x) ∧ xk_X12_again ct K R n 44 ls st (qI σ x j v) k) ∧
  xe_X12_again ct K R (n + 1) 44 ls st σ k = (lR ls 0 fun x => xk_X12_again ct K R n 45 ls (vr x :: st) σ k) ∧
  xe_X12_again ct K R (n + 1) 45 ls st σ k = (lI ls 1 fun x => xk_X12_again ct K R n 46 ls (vi x :: st) σ k) ∧
  xe_X12_again ct K R (n + 1) 46 ls st σ k = (popN 2 st [] fun av rest => (catS rest ≤ 8 ∧ 4 < 5 ∧ k.1 + 0 ≤ 0 ∧ k.2 + 0 ≤ 0) ∧ (sp_X12_answers) av σ fun v σ' => xk_X12_again ct K R n 49 ls (v.toList ++ rest) σ' (k.1 + 0, k.2 + 0)) ∧
  xe_X12_again ct K R (n + 1) 49 ls st σ k = (lR ls 0 fun x => xk_X12_again ct K R n 50 ls (vr x :: st) σ k) ∧
  xe_X12_again ct K R (n + 1) 50 ls st σ k = (oR st fun x st => kd σ x = 13 ∧ xk_X12_again ct K R n 53 ls (vr (fR σ 1374 x) :: st) σ k) ∧
  xe_X12_again ct K R (n + 1) 53 ls st σ k = (lI ls 1 fun x => xk_X12_again ct K R n 54 ls (vi x :: st) σ k) ∧
  xe_X12_again ct K R (n + 1) 54 ls st σ k = (oI st fun j st => oR st fun x st => (kd σ x = 101 ∨ kd σ x = 108) ∧ (0 ≤ j ∧ j < ln σ x) ∧ xk_X12_again ct K R n 55 ls (vi (aI σ x j) :: st) σ k) ∧
  xe_X12_again ct K R (n + 1) 55 ls st σ k = (oI st fun x st => st = [] ∧ True ∧ R (some (vi x)) σ) :=
  ⟨exS_step.trans rfl, exS_step.trans rfl, exS_step.trans rfl, exS_step.trans rfl, exS_step.trans rfl, exS_step.trans rfl, exS_step.trans rfl, exS_step.trans rfl, exS_step.trans rfl, exS_step.trans rfl, exS_step.trans rfl, exS_step.trans rfl, exS_step.trans rfl, exS_step.trans rfl, exS_step.trans rfl, exS_step.trans rfl, exS_step.trans rfl, exS_step.trans rfl, exS_step.trans rfl, exS_step.trans rfl, exS_step.trans rfl, exS_step.trans rfl, exS_step.trans rfl, exS_step.trans rfl, exS_step.trans rfl, exS_step.trans rfl, exS_step.trans rfl, exS_step.trans rfl, exS_step.trans rfl, exS_step.trans rfl, exS_step.trans rfl, exS_step.trans rfl, exS_step.trans rfl, exS_step.trans rfl, exS_step.trans rfl, exS_step.trans rfl⟩
def M_X12_again : Md := (yX12_again, cX12_again, 2, (some FieldType.int), 5, 0, 0, 1, false, tb_X12_again, mt_X12_again)
theorem mm_X12_again : MMOK M_X12_again := ⟨by decide +kernel, tk_X12_again, mk_X12_again, rfl, fun h => by cases h⟩
theorem go_X12_again {Q : Option AV → Hp → Prop} {ct : Nat → Bool} {pc : Nat} {ls : List (Option AV)} {st : List AV} {σ : Hp} {k : Nat × Nat} (n : Nat) (h : xe_X12_again ct (Go M_X12_again Q) Q n pc ls st σ k) : Go M_X12_again Q pc ls st σ k := Go.exS mm_X12_again h

set_option maxRecDepth 20000 in
theorem c_X12_again : Ct yX12_again cX12_again 2 ((some FieldType.int)) 5 0 0 sp_X12_again := by
  refine Ct.go (M := M_X12_again) mm_X12_again fun av σ Q h0 => ?_
  obtain ⟨this, a, rfl, hk, h⟩ := el_X12_again h0
  clear h0
  refine ⟨Nat.le_of_ble_eq_true rfl, ?_⟩
  show Go M_X12_again Q 0 [some (vr this), some (vi a)] [] σ (0, 0)
  obtain ⟨rfl, hI, hb, hC, hz, h1, h2⟩ := h
  have hI2 : MI (pI σ 1300 61 0) := MI_fre hI (by decide)
  have x1 := hI.alarms_s
  have x2 := hI.isOver_ a
  have x3 := hI.calls_ a
  by_cases c1 : (0 ≤ a ∧ a < fI σ 1371 61) ∧ aI σ 112 a = 0 ∧ ¬ aI σ 111 a = 3
  · have h1 := h1 c1
    have hz := hz (by omega) (by omega) c1.2.1
    have hM : MI (mCall σ a) := MI_calls_q hI2 (by omega)
    have hm0 : aI (mCall σ a) 115 a ≤ mTo (mCall σ a) a := hz
    have hm : aI σ 115 a ≤ mTo (mCall σ a) a := hz
    have hC2 : mCards (mCall σ a) := hC.of rfl rfl rfl rfl
    have hc := mAns_c (a := a) (by omega) hM hm0
    have hk2 : kd (mAns (mCall σ a) a) 61 = 13 := hc.2.1.lay.1
    have ef : aI (mAns (mCall σ a) a) 111 a = aI σ 111 a + 1 := by rw [mAns_a _ _ (by decide) (by decide)]; simp [mCall, aI_qI]
    generalize e9 : mCall σ a = τ at hM hm hC2 hk2 ef h1 hc
    unfold mCall at e9
    refine go_X12_again (ct := fun p => false) 90 ?_
    simp only [oI, oL, oR, o1, lI, lL, lR, popN, catS, gv, stL, stL2, swt, cnd, spObj, List.getElem?_cons_zero, List.getElem?_cons_succ, List.getD_cons_zero, List.getD_cons_succ, List.set_cons_zero, List.set_cons_succ, List.nil_append, List.cons_append, Option.toList, Bool.or_false, Bool.false_or, Bool.or_true, Bool.true_or, Nat.reduceBEq, Nat.reduceAdd, Nat.reduceLT, Nat.reduceLeDiff, Int.reduceAdd, Int.reduceToNat, true_and, and_true, Fin.isValue, Fin.val_zero, Fin.val_one, Fin.val_two, Fin.reduceFinMk, eq_self, Int.reduceNeg, imp_self, Nat.reduceMul, Nat.le_refl, not_true_eq_false, not_false_eq_true, List.getElem?_nil, reduceCtorEq, true_or, or_true, Classical.not_not, implies_true, or_self, wI_0, wI_1, wI_m1, b2i_w, b2i_eq0, b2i_eq1, b2i_bool, nor_self, nx_pI, kd_pI, ln_pI, fI_pI, fL_pI, fR_pI, aI_pI, aL_pI, aR_pI, nx_pL, kd_pL, ln_pL, fI_pL, fL_pL, fR_pL, aI_pL, aL_pL, aR_pL, nx_pR, kd_pR, ln_pR, fI_pR, fL_pR, fR_pR, aI_pR, aL_pR, aR_pR, nx_qI, kd_qI, ln_qI, fI_qI, fL_qI, fR_qI, aI_qI, aL_qI, aR_qI, nx_qL, kd_qL, ln_qL, fI_qL, fL_qL, fR_qL, aI_qL, aL_qL, aR_qL, nx_qR, kd_qR, ln_qR, fI_qR, fL_qR, fR_qR, aI_qR, aL_qR, aR_qR, nx_mk, kd_mk, ln_mk, fI_mk, fL_mk, fR_mk, aI_mk, aL_mk, aR_mk, false_and, and_false, if_false, if_true, and_self, Int.reduceEq, Nat.reduceEqDiff, ite_self, MLay_pI, MLay_pL, MLay_qI, MLay_qL, ev_X12_again, xt_X12_again, xf_X12_again, us_X12_isAlarm, us_X12_answers, hk, hI.lay.eqs, hI2, hb, e9, hM, hm, hC2, hk2, ef, hc.2.1.lay.eqs]
    try simp (disch := omega) only [wI_id, dv_nn, rm_nn]
    repeat' (first | intro z | apply And.intro)
    all_goals try omega
    all_goals first | exact h1 | exact hm | (rw [hz]; exact (hwM_in _ _).1)
  · have h2 := h2 c1
    refine go_X12_again (ct := fun p => false) 90 ?_
    simp only [oI, oL, oR, o1, lI, lL, lR, popN, catS, gv, stL, stL2, swt, cnd, spObj, List.getElem?_cons_zero, List.getElem?_cons_succ, List.getD_cons_zero, List.getD_cons_succ, List.set_cons_zero, List.set_cons_succ, List.nil_append, List.cons_append, Option.toList, Bool.or_false, Bool.false_or, Bool.or_true, Bool.true_or, Nat.reduceBEq, Nat.reduceAdd, Nat.reduceLT, Nat.reduceLeDiff, Int.reduceAdd, Int.reduceToNat, true_and, and_true, Fin.isValue, Fin.val_zero, Fin.val_one, Fin.val_two, Fin.reduceFinMk, eq_self, Int.reduceNeg, imp_self, Nat.reduceMul, Nat.le_refl, not_true_eq_false, not_false_eq_true, List.getElem?_nil, reduceCtorEq, true_or, or_true, Classical.not_not, implies_true, or_self, wI_0, wI_1, wI_m1, b2i_w, b2i_eq0, b2i_eq1, b2i_bool, nor_self, nx_pI, kd_pI, ln_pI, fI_pI, fL_pI, fR_pI, aI_pI, aL_pI, aR_pI, nx_pL, kd_pL, ln_pL, fI_pL, fL_pL, fR_pL, aI_pL, aL_pL, aR_pL, nx_pR, kd_pR, ln_pR, fI_pR, fL_pR, fR_pR, aI_pR, aL_pR, aR_pR, nx_qI, kd_qI, ln_qI, fI_qI, fL_qI, fR_qI, aI_qI, aL_qI, aR_qI, nx_qL, kd_qL, ln_qL, fI_qL, fL_qL, fR_qL, aI_qL, aL_qL, aR_qL, nx_qR, kd_qR, ln_qR, fI_qR, fL_qR, fR_qR, aI_qR, aL_qR, aR_qR, nx_mk, kd_mk, ln_mk, fI_mk, fL_mk, fR_mk, aI_mk, aL_mk, aR_mk, false_and, and_false, if_false, if_true, and_self, Int.reduceEq, Nat.reduceEqDiff, ite_self, MLay_pI, MLay_pL, MLay_qI, MLay_qL, ev_X12_again, xt_X12_again, xf_X12_again, us_X12_isAlarm, us_X12_answers, hk, hI.lay.eqs, hI2, hb]
    try simp (disch := omega) only [wI_id, dv_nn, rm_nn]
    repeat' (first | intro z | apply And.intro)
    all_goals try omega
    all_goals exact h2
