/-! the reference: a line's test, step by step -/

/-- the same but for some fields of the reference and some elements -/
def Ut (fs : List Nat) (ar : Int → Int → Prop) (σ τ : Hp) : Prop := nx τ = nx σ ∧ kd τ = kd σ ∧ ln τ = ln σ ∧ fR τ = fR σ ∧ aL τ = aL σ ∧ aR τ = aR σ ∧ (∀ f k, ¬ (k = 61 ∧ f ∈ fs) → fI τ f k = fI σ f k) ∧ (∀ f k, ¬ (k = 61 ∧ f ∈ fs) → fL τ f k = fL σ f k) ∧ ∀ r j, ¬ ar r j → aI τ r j = aI σ r j
theorem Ut.refl (fs : List Nat) (ar : Int → Int → Prop) (σ : Hp) : Ut fs ar σ σ := ⟨rfl, rfl, rfl, rfl, rfl, rfl, fun _ _ _ => rfl, fun _ _ _ => rfl, fun _ _ _ => rfl⟩
theorem Ut.trans {fs : List Nat} {ar : Int → Int → Prop} {σ τ ρ : Hp} (h : Ut fs ar σ τ) (g : Ut fs ar τ ρ) : Ut fs ar σ ρ :=
  ⟨g.1.trans h.1, g.2.1.trans h.2.1, g.2.2.1.trans h.2.2.1, g.2.2.2.1.trans h.2.2.2.1, g.2.2.2.2.1.trans h.2.2.2.2.1, g.2.2.2.2.2.1.trans h.2.2.2.2.2.1,
   fun f k q => (g.2.2.2.2.2.2.1 f k q).trans (h.2.2.2.2.2.2.1 f k q), fun f k q => (g.2.2.2.2.2.2.2.1 f k q).trans (h.2.2.2.2.2.2.2.1 f k q), fun r j q => (g.2.2.2.2.2.2.2.2 r j q).trans (h.2.2.2.2.2.2.2.2 r j q)⟩
theorem Ut.mono {fs fs' : List Nat} {ar ar' : Int → Int → Prop} {σ τ : Hp} (h : Ut fs ar σ τ) (h1 : ∀ f ∈ fs, f ∈ fs') (h2 : ∀ r j, ar r j → ar' r j) : Ut fs' ar' σ τ :=
  ⟨h.1, h.2.1, h.2.2.1, h.2.2.2.1, h.2.2.2.2.1, h.2.2.2.2.2.1, fun f k q => h.2.2.2.2.2.2.1 f k (fun z => q ⟨z.1, h1 f z.2⟩), fun f k q => h.2.2.2.2.2.2.2.1 f k (fun z => q ⟨z.1, h1 f z.2⟩), fun r j q => h.2.2.2.2.2.2.2.2 r j (fun z => q (h2 r j z))⟩
theorem Ut.pI {fs : List Nat} {ar : Int → Int → Prop} {σ τ : Hp} (h : Ut fs ar σ τ) {f : Nat} (v : Int) (hf : f ∈ fs) : Ut fs ar σ (pI τ f 61 v) :=
  ⟨h.1, h.2.1, h.2.2.1, h.2.2.2.1, h.2.2.2.2.1, h.2.2.2.2.2.1, fun g k q => by
    rw [fI_pI, if_neg (fun y : g = f ∧ k = 61 => q ⟨y.2, by rw [y.1]; exact hf⟩)]
    exact h.2.2.2.2.2.2.1 g k q, h.2.2.2.2.2.2.2.1, h.2.2.2.2.2.2.2.2⟩
theorem Ut.pL {fs : List Nat} {ar : Int → Int → Prop} {σ τ : Hp} (h : Ut fs ar σ τ) {f : Nat} (v : BitVec 64) (hf : f ∈ fs) : Ut fs ar σ (pL τ f 61 v) :=
  ⟨h.1, h.2.1, h.2.2.1, h.2.2.2.1, h.2.2.2.2.1, h.2.2.2.2.2.1, h.2.2.2.2.2.2.1, fun g k q => by
    rw [fL_pL, if_neg (fun y : g = f ∧ k = 61 => q ⟨y.2, by rw [y.1]; exact hf⟩)]
    exact h.2.2.2.2.2.2.2.1 g k q, h.2.2.2.2.2.2.2.2⟩
theorem Ut.qI {fs : List Nat} {ar : Int → Int → Prop} {σ τ : Hp} (h : Ut fs ar σ τ) {r j : Int} (v : Int) (hr : ar r j) : Ut fs ar σ (qI τ r j v) :=
  ⟨h.1, h.2.1, h.2.2.1, h.2.2.2.1, h.2.2.2.2.1, h.2.2.2.2.2.1, h.2.2.2.2.2.2.1, h.2.2.2.2.2.2.2.1, fun s i q => by
    rw [aI_qI, if_neg (fun y : s = r ∧ i = j => q (by rw [y.1, y.2]; exact hr))]
    exact h.2.2.2.2.2.2.2.2 s i q⟩
def fsR : List Nat := [1347, 1346, 1350, 1348, 1349, 1351, 1359]
def arR (r j : Int) : Prop := r = 98 ∨ r = 99 ∨ (r = 97 ∧ 1000 ≤ j)
/-- ahead of the next token; at a token -/
def PV (L : Int → Int) (z : Int) (σ τ : Hp) (p : Int) : Prop := MI τ ∧ Ut fsR arR σ τ ∧ aI τ 92 = L ∧ fI τ 1345 61 = z ∧ z ≤ 1000 ∧ fI τ 1346 61 = p ∧ (0 ≤ p ∧ p ≤ z) ∧ 1000 ≤ fI τ 1359 61 ∧ fI τ 1359 61 ≤ 1000 + p
def TT (L : Int → Int) (z : Int) (τ : Hp) (p : Int) : Prop := fI τ 1347 61 = kB L z p ∧ fI τ 1346 61 = tE L z p ∧ fL τ 1349 61 = tW L z p ∧ fI τ 1350 61 = tT L z p ∧ fI τ 1348 61 = tK L z p
def IV (L : Int → Int) (z : Int) (σ τ : Hp) (p : Int) : Prop := MI τ ∧ Ut fsR arR σ τ ∧ aI τ 92 = L ∧ fI τ 1345 61 = z ∧ z ≤ 1000 ∧ TT L z τ p ∧ (0 ≤ p ∧ p ≤ z) ∧ 1000 ≤ fI τ 1359 61 ∧ fI τ 1359 61 ≤ 1000 + p
theorem MI_mNext {τ : Hp} (h : MI τ) (hp : fI τ 1346 61 ≤ fI τ 1345 61) : MI (mNext τ) := by
  have h1 := h.size_s
  have h2 := h.place_s
  have h3 := tok_in (aI τ 92) hp
  have h4 := tT_in (aI τ 92) (fI τ 1345 61) (fI τ 1346 61) hp
  exact MI_tk h (by omega) (by omega) h4 (tKb_in _ _ _)
theorem PV.next {L : Int → Int} {z : Int} {σ τ : Hp} {p : Int} (h : PV L z σ τ p) : IV L z σ (mNext τ) p := by
  obtain ⟨h1, h2, h3, h4, h5, h6, h7, h8⟩ := h
  refine ⟨MI_mNext h1 (by omega), ?_, h3, h4, h5, ?_, h7, h8⟩
  · exact ((((h2.pI _ (by decide)).pI _ (by decide)).pL _ (by decide)).pI _ (by decide)).pI _ (by decide)
  · unfold mNext
    rw [h3, h4, h6]
    exact ⟨rfl, rfl, rfl, rfl, rfl⟩
theorem IV.code {L : Int → Int} {z : Int} {σ τ : Hp} {p : Int} (h : IV L z σ τ p) (hz : tK L z p ≠ 0) {c : Int} (hc : 0 ≤ c ∧ c ≤ 11000) : PV L z σ (mCode τ c) (tE L z p) := by
  obtain ⟨h1, h2, h3, h4, h5, h6, h7, h8⟩ := h
  have ht := tok_in L h7.2
  have ht2 := ht.2.2.2.2 hz
  have e : fI τ 1359 61 = fI τ 1359 61 := rfl
  refine ⟨MI_code_p (MI_codes_q h1 hc) (by omega), (h2.qI _ (Or.inr (Or.inr ⟨rfl, h8.1⟩))).pI _ (by decide), h3, h4, h5, h6.2.1, by omega, ?_⟩
  rw [show fI (mCode τ c) 1359 61 = fI τ 1359 61 + 1 from rfl]
  omega
theorem PV.op {L : Int → Int} {z : Int} {σ τ : Hp} {p : Int} (h : PV L z σ τ p) {j v : Int} (hv : 0 ≤ v ∧ v ≤ 2) : PV L z σ (qI τ 98 j v) p := by
  obtain ⟨h1, h2, h3, h4, h5, h6, h7, h8⟩ := h
  exact ⟨MI_opened_q h1 hv, h2.qI _ (Or.inl rfl), h3, h4, h5, h6, h7, h8⟩
theorem PV.cm {L : Int → Int} {z : Int} {σ τ : Hp} {p : Int} (h : PV L z σ τ p) {j v : Int} (hv : 0 ≤ v ∧ v ≤ 1) : PV L z σ (qI τ 99 j v) p := by
  obtain ⟨h1, h2, h3, h4, h5, h6, h7, h8⟩ := h
  exact ⟨MI_compared_q h1 hv, h2.qI _ (Or.inr (Or.inl rfl)), h3, h4, h5, h6, h7, h8⟩
theorem b2i_F : b2i False = 0 := b2i_f id
theorem b2i_T : b2i True = 1 := b2i_t trivial
/-- the level that a part's end leads to -/
def bs (τ : Hp) : Nat → Nat
  | 0 => 0
  | d + 1 => if aI τ 98 ((d : Int) + 1) = 1 then bs τ d else d + 1
theorem bs_le (τ : Hp) : ∀ d, bs τ d ≤ d
  | 0 => Nat.le_refl _
  | d + 1 => by
    unfold bs
    split
    · exact Nat.le_trans (bs_le τ d) (Nat.le_succ _)
    · exact Nat.le_refl _
def mOp (τ : Hp) (c : Int) (d : Int) (v : Int) : Hp := qI (qI (mCode τ c) 98 (d + 1) v) 99 (d + 1) 0

def sp_X12_reads : Sp := fun av σ Q => oR av fun this av => oI av fun l av => av = [] ∧ kd σ this = 13 ∧ (False ∧ Q none σ)
theorem us_X12_reads (this : Int) (l : Int) (σ : Hp) (Q : Option AV → Hp → Prop) : sp_X12_reads [vr this, vi l] σ Q = (kd σ this = 13 ∧ (False ∧ Q none σ)) := propext ⟨fun h => h.2, fun h => ⟨rfl, h⟩⟩
theorem el_X12_reads {av : List AV} {σ : Hp} {Q : Option AV → Hp → Prop} (h : sp_X12_reads av σ Q) : ∃ (this : Int) (l : Int), av = [vr this, vi l] ∧ (kd σ this = 13 ∧ (False ∧ Q none σ)) := by
  obtain ⟨this, a0, rfl, h0⟩ := oR_s h
  obtain ⟨l, a1, rfl, h1⟩ := oI_s h0
  obtain ⟨rfl, hz⟩ := h1
  exact ⟨this, l, rfl, hz⟩
theorem rc_X12_reads : ∀ (av : List AV) (σ : Hp) (Q : Option AV → Hp → Prop), sp_X12_reads av σ Q → ∃ r tl, av = vr r :: tl ∧ kd σ r = 12 + 1 := fun av σ Q h => by
  obtain ⟨this, l, rfl, hz, -⟩ := el_X12_reads h
  exact ⟨this, _, rfl, hz⟩

def tb_X12_reads : Tab := [(0, .iconst 0, 1, (0, 0, 0, 0)), (1, .istore_n 2, 1, (0, 0, 0, 0)), (2, .iconst 1, 1, (0, 0, 0, 0)), (3, .istore_n 3, 1, (0, 0, 0, 0)), (4, .aload_n 0, 1, (0, 0, 0, 0)), (5, .getfield 123, 3, (13, 1361, 2, 0)), (8, .iconst 0, 1, (0, 0, 0, 0)), (9, .iconst 0, 1, (0, 0, 0, 0)), (10, .bastore, 1, (0, 0, 0, 0)), (11, .aload_n 0, 1, (0, 0, 0, 0)), (12, .getfield 111, 3, (13, 1356, 2, 0)), (15, .iload_n 1, 1, (0, 0, 0, 0)), (16, .aload_n 0, 1, (0, 0, 0, 0)), (17, .getfield 333, 3, (13, 1359, 0, 0)), (20, .iastore, 1, (0, 0, 0, 0)), (21, .iload_n 3, 1, (0, 0, 0, 0)), (22, .ifCond .eq 171, 3, (0, 0, 0, 0)), (25, .aload_n 0, 1, (0, 0, 0, 0)), (26, .invokevirtual 350, 3, (0, 0, 0, 0)), (29, .istore 4, 2, (0, 0, 0, 0)), (31, .aload_n 0, 1, (0, 0, 0, 0)), (32, .ldc2_w 354, 3, (1, 0, 0, 10631)), (35, .invokevirtual 356, 3, (0, 0, 0, 0)), (38, .istore 5, 2, (0, 0, 0, 0)), (40, .aload_n 0, 1, (0, 0, 0, 0)), (41, .bipush 40, 2, (0, 0, 0, 0)), (43, .invokevirtual 360, 3, (0, 0, 0, 0)), (46, .istore 6, 2, (0, 0, 0, 0)), (48, .iload 4, 2, (0, 0, 0, 0)), (50, .ifCond .ne 27, 3, (0, 0, 0, 0)), (53, .iload 5, 2, (0, 0, 0, 0)), (55, .ifCond .ne 22, 3, (0, 0, 0, 0)), (58, .iload 6, 2, (0, 0, 0, 0)), (60, .ifCond .ne 17, 3, (0, 0, 0, 0)), (63, .aload_n 0, 1, (0, 0, 0, 0)), (64, .getfield 320, 3, (13, 1348, 0, 0)), (67, .iconst 2, 1, (0, 0, 0, 0)), (68, .if_icmp .eq 9, 3, (0, 0, 0, 0)), (71, .aload_n 0, 1, (0, 0, 0, 0)), (72, .iconst 1, 1, (0, 0, 0, 0)), (73, .invokevirtual 363, 3, (0, 0, 0, 0)), (76, .ireturn, 1, (0, 0, 0, 0)), (77, .iload_n 2, 1, (0, 0, 0, 0)), (78, .iconst 5, 1, (0, 0, 0, 0)), (79, .if_icmp .ne 9, 3, (0, 0, 0, 0)), (82, .aload_n 0, 1, (0, 0, 0, 0)), (83, .iconst 5, 1, (0, 0, 0, 0)), (84, .invokevirtual 363, 3, (0, 0, 0, 0)), (87, .ireturn, 1, (0, 0, 0, 0)), (88, .iload 5, 2, (0, 0, 0, 0)), (90, .ifCond .ne 8, 3, (0, 0, 0, 0)), (93, .iload 6, 2, (0, 0, 0, 0)), (95, .ifCond .eq 48, 3, (0, 0, 0, 0)), (98, .aload_n 0, 1, (0, 0, 0, 0)), (99, .iload 5, 2, (0, 0, 0, 0)), (101, .ifCond .eq 8, 3, (0, 0, 0, 0)), (104, .bipush 30, 2, (0, 0, 0, 0)), (106, .goto 5, 3, (0, 0, 0, 0)), (109, .bipush 28, 2, (0, 0, 0, 0)), (111, .invokevirtual 366, 3, (0, 0, 0, 0)), (114, .iinc 2 1, 3, (0, 0, 0, 0)), (117, .aload_n 0, 1, (0, 0, 0, 0)), (118, .getfield 120, 3, (13, 1360, 2, 0)), (121, .iload_n 2, 1, (0, 0, 0, 0)), (122, .iload 5, 2, (0, 0, 0, 0)), (124, .ifCond .eq 7, 3, (0, 0, 0, 0)), (127, .iconst 1, 1, (0, 0, 0, 0)), (128, .goto 4, 3, (0, 0, 0, 0)), (131, .iconst 2, 1, (0, 0, 0, 0)), (132, .iastore, 1, (0, 0, 0, 0)), (133, .aload_n 0, 1, (0, 0, 0, 0)), (134, .getfield 123, 3, (13, 1361, 2, 0)), (137, .iload_n 2, 1, (0, 0, 0, 0)), (138, .iconst 0, 1, (0, 0, 0, 0)), (139, .bastore, 1, (0, 0, 0, 0)), (140, .goto 46, 3, (0, 0, 0, 0)), (143, .aload_n 0, 1, (0, 0, 0, 0)), (144, .iload 4, 2, (0, 0, 0, 0)), (146, .ifCond .le 8, 3, (0, 0, 0, 0)), (149, .iload 4, 2, (0, 0, 0, 0)), (151, .goto 10, 3, (0, 0, 0, 0)), (154, .bipush 100, 2, (0, 0, 0, 0)), (156, .aload_n 0, 1, (0, 0, 0, 0)), (157, .getfield 317, 3, (13, 1350, 0, 0)), (160, .iadd, 1, (0, 0, 0, 0)), (161, .invokevirtual 366, 3, (0, 0, 0, 0)), (164, .iconst 0, 1, (0, 0, 0, 0)), (165, .istore_n 3, 1, (0, 0, 0, 0)), (166, .iload_n 2, 1, (0, 0, 0, 0)), (167, .ifCond .le 19, 3, (0, 0, 0, 0)), (170, .aload_n 0, 1, (0, 0, 0, 0)), (171, .getfield 120, 3, (13, 1360, 2, 0)), (174, .iload_n 2, 1, (0, 0, 0, 0)), (175, .iaload, 1, (0, 0, 0, 0)), (176, .iconst 1, 1, (0, 0, 0, 0)), (177, .if_icmp .ne 9, 3, (0, 0, 0, 0)), (180, .iinc 2 (-1), 3, (0, 0, 0, 0)), (183, .goto (-17), 3, (0, 0, 0, 0)), (186, .aload_n 0, 1, (0, 0, 0, 0)), (187, .invokevirtual 368, 3, (0, 0, 0, 0)), (190, .goto (-169), 3, (0, 0, 0, 0)), (193, .aload_n 0, 1, (0, 0, 0, 0)), (194, .bipush 43, 2, (0, 0, 0, 0)), (196, .invokevirtual 360, 3, (0, 0, 0, 0)), (199, .ifCond .ne 12, 3, (0, 0, 0, 0)), (202, .aload_n 0, 1, (0, 0, 0, 0)), (203, .bipush 45, 2, (0, 0, 0, 0)), (205, .invokevirtual 360, 3, (0, 0, 0, 0)), (208, .ifCond .eq 28, 3, (0, 0, 0, 0)), (211, .aload_n 0, 1, (0, 0, 0, 0)), (212, .aload_n 0, 1, (0, 0, 0, 0)), (213, .bipush 43, 2, (0, 0, 0, 0)), (215, .invokevirtual 360, 3, (0, 0, 0, 0)), (218, .ifCond .eq 8, 3, (0, 0, 0, 0)), (221, .bipush 20, 2, (0, 0, 0, 0)), (223, .goto 5, 3, (0, 0, 0, 0)), (226, .bipush 21, 2, (0, 0, 0, 0)), (228, .invokevirtual 366, 3, (0, 0, 0, 0)), (231, .iconst 1, 1, (0, 0, 0, 0)), (232, .istore_n 3, 1, (0, 0, 0, 0)), (233, .goto 192, 3, (0, 0, 0, 0)), (236, .aload_n 0, 1, (0, 0, 0, 0)), (237, .bipush 60, 2, (0, 0, 0, 0)), (239, .invokevirtual 360, 3, (0, 0, 0, 0)), (242, .ifCond .ne 12, 3, (0, 0, 0, 0)), (245, .aload_n 0, 1, (0, 0, 0, 0)), (246, .bipush 61, 2, (0, 0, 0, 0)), (248, .invokevirtual 360, 3, (0, 0, 0, 0)), (251, .ifCond .eq 44, 3, (0, 0, 0, 0)), (254, .aload_n 0, 1, (0, 0, 0, 0)), (255, .getfield 123, 3, (13, 1361, 2, 0)), (258, .iload_n 2, 1, (0, 0, 0, 0)), (259, .baload, 1, (0, 0, 0, 0)), (260, .ifCond .ne 35, 3, (0, 0, 0, 0)), (263, .aload_n 0, 1, (0, 0, 0, 0)), (264, .aload_n 0, 1, (0, 0, 0, 0)), (265, .bipush 60, 2, (0, 0, 0, 0)), (267, .invokevirtual 360, 3, (0, 0, 0, 0)), (270, .ifCond .eq 8, 3, (0, 0, 0, 0)), (273, .bipush 24, 2, (0, 0, 0, 0)), (275, .goto 5, 3, (0, 0, 0, 0)), (278, .bipush 25, 2, (0, 0, 0, 0)), (280, .invokevirtual 366, 3, (0, 0, 0, 0)), (283, .aload_n 0, 1, (0, 0, 0, 0)), (284, .getfield 123, 3, (13, 1361, 2, 0)), (287, .iload_n 2, 1, (0, 0, 0, 0)), (288, .iconst 1, 1, (0, 0, 0, 0)), (289, .bastore, 1, (0, 0, 0, 0)), (290, .iconst 1, 1, (0, 0, 0, 0)), (291, .istore_n 3, 1, (0, 0, 0, 0)), (292, .goto 133, 3, (0, 0, 0, 0)), (295, .aload_n 0, 1, (0, 0, 0, 0)), (296, .ldc2_w 371, 3, (1, 0, 0, 1111)), (299, .invokevirtual 356, 3, (0, 0, 0, 0)), (302, .ifCond .ne 13, 3, (0, 0, 0, 0)), (305, .aload_n 0, 1, (0, 0, 0, 0)), (306, .ldc2_w 373, 3, (1, 0, 0, 423)), (309, .invokevirtual 356, 3, (0, 0, 0, 0)), (312, .ifCond .eq 36, 3, (0, 0, 0, 0)), (315, .aload_n 0, 1, (0, 0, 0, 0)), (316, .aload_n 0, 1, (0, 0, 0, 0)), (317, .ldc2_w 371, 3, (1, 0, 0, 1111)), (320, .invokevirtual 356, 3, (0, 0, 0, 0)), (323, .ifCond .eq 8, 3, (0, 0, 0, 0)), (326, .bipush 26, 2, (0, 0, 0, 0)), (328, .goto 5, 3, (0, 0, 0, 0)), (331, .bipush 27, 2, (0, 0, 0, 0)), (333, .invokevirtual 366, 3, (0, 0, 0, 0)), (336, .aload_n 0, 1, (0, 0, 0, 0)), (337, .getfield 123, 3, (13, 1361, 2, 0)), (340, .iload_n 2, 1, (0, 0, 0, 0)), (341, .iconst 0, 1, (0, 0, 0, 0)), (342, .bastore, 1, (0, 0, 0, 0)), (343, .iconst 1, 1, (0, 0, 0, 0)), (344, .istore_n 3, 1, (0, 0, 0, 0)), (345, .goto 80, 3, (0, 0, 0, 0)), (348, .aload_n 0, 1, (0, 0, 0, 0)), (349, .bipush 41, 2, (0, 0, 0, 0)), (351, .invokevirtual 360, 3, (0, 0, 0, 0)), (354, .ifCond .eq 36, 3, (0, 0, 0, 0)), (357, .iload_n 2, 1, (0, 0, 0, 0)), (358, .ifCond .le 32, 3, (0, 0, 0, 0)), (361, .aload_n 0, 1, (0, 0, 0, 0)), (362, .bipush 29, 2, (0, 0, 0, 0)), (364, .invokevirtual 366, 3, (0, 0, 0, 0)), (367, .iinc 2 (-1), 3, (0, 0, 0, 0)), (370, .iload_n 2, 1, (0, 0, 0, 0)), (371, .ifCond .le 54, 3, (0, 0, 0, 0)), (374, .aload_n 0, 1, (0, 0, 0, 0)), (375, .getfield 120, 3, (13, 1360, 2, 0)), (378, .iload_n 2, 1, (0, 0, 0, 0)), (379, .iaload, 1, (0, 0, 0, 0)), (380, .iconst 1, 1, (0, 0, 0, 0)), (381, .if_icmp .ne 44, 3, (0, 0, 0, 0)), (384, .iinc 2 (-1), 3, (0, 0, 0, 0)), (387, .goto (-17), 3, (0, 0, 0, 0)), (390, .aload_n 0, 1, (0, 0, 0, 0)), (391, .bipush 59, 2, (0, 0, 0, 0)), (393, .invokevirtual 360, 3, (0, 0, 0, 0)), (396, .ifCond .eq 23, 3, (0, 0, 0, 0)), (399, .iload_n 2, 1, (0, 0, 0, 0)), (400, .ifCond .ne 19, 3, (0, 0, 0, 0)), (403, .aload_n 0, 1, (0, 0, 0, 0)), (404, .getfield 114, 3, (13, 1357, 2, 0)), (407, .iload_n 1, 1, (0, 0, 0, 0)), (408, .aload_n 0, 1, (0, 0, 0, 0)), (409, .getfield 333, 3, (13, 1359, 0, 0)), (412, .iastore, 1, (0, 0, 0, 0)), (413, .aload_n 0, 1, (0, 0, 0, 0)), (414, .invokevirtual 368, 3, (0, 0, 0, 0)), (417, .iconst 1, 1, (0, 0, 0, 0)), (418, .ireturn, 1, (0, 0, 0, 0)), (419, .aload_n 0, 1, (0, 0, 0, 0)), (420, .iconst 1, 1, (0, 0, 0, 0)), (421, .invokevirtual 363, 3, (0, 0, 0, 0)), (424, .ireturn, 1, (0, 0, 0, 0)), (425, .aload_n 0, 1, (0, 0, 0, 0)), (426, .invokevirtual 368, 3, (0, 0, 0, 0)), (429, .goto (-408), 3, (0, 0, 0, 0))]
set_option maxRecDepth 100000 in
theorem tk_X12_reads : TOK RX12 false cX12_reads tb_X12_reads := chkT_ok ft_X12 (by decide +kernel)
theorem rw_X12_2800 : Row RX12 (.invokevirtual 350) 3 1 0 0 1 sp_X12_fact := row_V (n := 0) (ci := 12) c_X12_fact ⟨TBL_in 1919 (by decide +kernel) rfl, TBL_in 1922 (by decide +kernel) rfl, TBL_in 123 (by decide +kernel) rfl, by decide +kernel, by decide⟩ (by decide) rfl (TBL_in 1921 (by decide +kernel) rfl) (TBL_in 85 (by decide +kernel) rfl) rc_X12_fact
theorem rw_X12_2848 : Row RX12 (.invokevirtual 356) 3 2 0 0 1 sp_X12_isWord := row_V (n := 1) (ci := 12) c_X12_isWord ⟨TBL_in 1904 (by decide +kernel) rfl, TBL_in 1907 (by decide +kernel) rfl, TBL_in 123 (by decide +kernel) rfl, by decide +kernel, by decide⟩ (by decide) rfl (TBL_in 1906 (by decide +kernel) rfl) (TBL_in 82 (by decide +kernel) rfl) rc_X12_isWord
theorem rw_X12_2880 : Row RX12 (.invokevirtual 360) 3 2 0 0 1 sp_X12_isSign := row_V (n := 1) (ci := 12) c_X12_isSign ⟨TBL_in 1931 (by decide +kernel) rfl, TBL_in 1934 (by decide +kernel) rfl, TBL_in 123 (by decide +kernel) rfl, by decide +kernel, by decide⟩ (by decide) rfl (TBL_in 1933 (by decide +kernel) rfl) (TBL_in 86 (by decide +kernel) rfl) rc_X12_isSign
theorem rw_X12_2904 : Row RX12 (.invokevirtual 363) 3 2 0 0 1 sp_X12_fails := row_V (n := 1) (ci := 12) c_X12_fails ⟨TBL_in 1908 (by decide +kernel) rfl, TBL_in 1911 (by decide +kernel) rfl, TBL_in 123 (by decide +kernel) rfl, by decide +kernel, by decide⟩ (by decide) rfl (TBL_in 1910 (by decide +kernel) rfl) (TBL_in 83 (by decide +kernel) rfl) rc_X12_fails
theorem rw_X12_2928 : Row RX12 (.invokevirtual 366) 3 2 0 0 1 sp_X12_code := row_V (n := 1) (ci := 12) c_X12_code ⟨TBL_in 1935 (by decide +kernel) rfl, TBL_in 1938 (by decide +kernel) rfl, TBL_in 123 (by decide +kernel) rfl, by decide +kernel, by decide⟩ (by decide) rfl (TBL_in 1937 (by decide +kernel) rfl) (TBL_in 87 (by decide +kernel) rfl) rc_X12_code
theorem rw_X12_2944 : Row RX12 (.invokevirtual 368) 3 1 0 0 2 sp_X12_next := row_V (n := 0) (ci := 12) c_X12_next ⟨TBL_in 1889 (by decide +kernel) rfl, TBL_in 1892 (by decide +kernel) rfl, TBL_in 123 (by decide +kernel) rfl, by decide +kernel, by decide⟩ (by decide) rfl (TBL_in 1891 (by decide +kernel) rfl) (TBL_in 79 (by decide +kernel) rfl) rc_X12_next
def mt_X12_reads : List (Nat × Mt) := [(2800, 1, 0, 0, 1, sp_X12_fact), (2848, 2, 0, 0, 1, sp_X12_isWord), (2880, 2, 0, 0, 1, sp_X12_isSign), (2904, 2, 0, 0, 1, sp_X12_fails), (2928, 2, 0, 0, 1, sp_X12_code), (2944, 1, 0, 0, 2, sp_X12_next)]
theorem em_X12_reads : mt_X12_reads.lookup 2800 = some (1, 0, 0, 1, sp_X12_fact) ∧ mt_X12_reads.lookup 2848 = some (2, 0, 0, 1, sp_X12_isWord) ∧ mt_X12_reads.lookup 2880 = some (2, 0, 0, 1, sp_X12_isSign) ∧ mt_X12_reads.lookup 2904 = some (2, 0, 0, 1, sp_X12_fails) ∧ mt_X12_reads.lookup 2928 = some (2, 0, 0, 1, sp_X12_code) ∧ mt_X12_reads.lookup 2944 = some (1, 0, 0, 2, sp_X12_next) := ⟨rfl, rfl, rfl, rfl, rfl, rfl⟩
theorem mk_X12_reads : MOK RX12 mt_X12_reads := by
  intro q hq
  simp only [mt_X12_reads, List.mem_cons, List.not_mem_nil, or_false] at hq
  rcases hq with rfl | rfl | rfl | rfl | rfl | rfl
  · exact rw_X12_2800
  · exact rw_X12_2848
  · exact rw_X12_2880
  · exact rw_X12_2904
  · exact rw_X12_2928
  · exact rw_X12_2944
noncomputable def xe_X12_reads (ct : Nat → Bool) (K : Kt) (R : Option AV → Hp → Prop) (n : Nat) : Kt := exS 7 3 0 0 2 tb_X12_reads mt_X12_reads ct K R n
noncomputable def xk_X12_reads (ct : Nat → Bool) (K : Kt) (R : Option AV → Hp → Prop) (n : Nat) : Kt := exkS 7 3 0 0 2 tb_X12_reads mt_X12_reads ct K R n
theorem xt_X12_reads {ct : Nat → Bool} {K : Kt} {R : Option AV → Hp → Prop} {n pc : Nat} {ls : List (Option AV)} {st : List AV} {σ : Hp} {k : Nat × Nat} (h : ct pc = true) : xk_X12_reads ct K R n pc ls st σ k = K pc ls st σ k := by unfold xk_X12_reads exkS; rw [h]
theorem xf_X12_reads {ct : Nat → Bool} {K : Kt} {R : Option AV → Hp → Prop} {n pc : Nat} {ls : List (Option AV)} {st : List AV} {σ : Hp} {k : Nat × Nat} (h : ct pc = false) : xk_X12_reads ct K R n pc ls st σ k = xe_X12_reads ct K R n pc ls st σ k := by unfold xk_X12_reads exkS xe_X12_reads; rw [h]
set_option maxRecDepth 20000 in
theorem ev_X12_reads {ct : Nat → Bool} {K : Kt} {R : Option AV → Hp → Prop} {n : Nat} {ls : List (Option AV)} {st : List AV} {σ : Hp} {k : Nat × Nat} :
  xe_X12_reads ct K R (n + 1) 0 ls st σ k = (xk_X12_reads ct K R n 1 ls (vi (0) :: st) σ k) ∧
  xe_X12_reads ct K R (n + 1) 1 ls st σ k = (oI st fun x st => 2 < 7 ∧ xk_X12_reads ct K R n 2 (stL ls 2 (vi x)) st σ k) ∧
  xe_X12_reads ct K R (n + 1) 2 ls st σ k = (xk_X12_reads ct K R n 3 ls (vi (1) :: st) σ k) ∧
  xe_X12_reads ct K R (n + 1) 3 ls st σ k = (oI st fun x st => 3 < 7 ∧ xk_X12_reads ct K R n 4 (stL ls 3 (vi x)) st σ k) ∧
  xe_X12_reads ct K R (n + 1) 4 ls st σ k = (lR ls 0 fun x => xk_X12_reads ct K R n 5 ls (vr x :: st) σ k) ∧
  xe_X12_reads ct K R (n + 1) 5 ls st σ k = (oR st fun x st => kd σ x = 13 ∧ xk_X12_reads ct K R n 8 ls (vr (fR σ 1361 x) :: st) σ k) ∧
  xe_X12_reads ct K R (n + 1) 8 ls st σ k = (xk_X12_reads ct K R n 9 ls (vi (0) :: st) σ k) ∧
  xe_X12_reads ct K R (n + 1) 9 ls st σ k = (xk_X12_reads ct K R n 10 ls (vi (0) :: st) σ k) ∧
  xe_X12_reads ct K R (n + 1) 10 ls st σ k = (oI st fun v st => oI st fun j st => oR st fun x st => kd σ x = 103 ∧ (0 ≤ j ∧ j < ln σ x) ∧ (v = 0 ∨ v = 1) ∧ xk_X12_reads ct K R n 11 ls st (qI σ x j v) k) ∧
  xe_X12_reads ct K R (n + 1) 11 ls st σ k = (lR ls 0 fun x => xk_X12_reads ct K R n 12 ls (vr x :: st) σ k) ∧
  xe_X12_reads ct K R (n + 1) 12 ls st σ k = (oR st fun x st => kd σ x = 13 ∧ xk_X12_reads ct K R n 15 ls (vr (fR σ 1356 x) :: st) σ k) ∧
  xe_X12_reads ct K R (n + 1) 15 ls st σ k = (lI ls 1 fun x => xk_X12_reads ct K R n 16 ls (vi x :: st) σ k) ∧
  xe_X12_reads ct K R (n + 1) 16 ls st σ k = (lR ls 0 fun x => xk_X12_reads ct K R n 17 ls (vr x :: st) σ k) ∧
  xe_X12_reads ct K R (n + 1) 17 ls st σ k = (oR st fun x st => kd σ x = 13 ∧ xk_X12_reads ct K R n 20 ls (vi (fI σ 1359 x) :: st) σ k) ∧
  xe_X12_reads ct K R (n + 1) 20 ls st σ k = (oI st fun v st => oI st fun j st => oR st fun x st => kd σ x = 101 ∧ (0 ≤ j ∧ j < ln σ x) ∧ xk_X12_reads ct K R n 21 ls st (qI σ x j v) k) ∧
  xe_X12_reads ct K R (n + 1) 21 ls st σ k = (lI ls 3 fun x => xk_X12_reads ct K R n 22 ls (vi x :: st) σ k) ∧
  xe_X12_reads ct K R (n + 1) 22 ls st σ k = (oI st fun x st => (wI x = wI 0 → xk_X12_reads ct K R n 193 ls st σ k) ∧ (¬ (wI x = wI 0) → xk_X12_reads ct K R n 25 ls st σ k)) ∧
  xe_X12_reads ct K R (n + 1) 25 ls st σ k = (lR ls 0 fun x => xk_X12_reads ct K R n 26 ls (vr x :: st) σ k) ∧
  xe_X12_reads ct K R (n + 1) 26 ls st σ k = (popN 1 st [] fun av rest => (catS rest ≤ 8 ∧ 1 < 3 ∧ k.1 + 0 ≤ 0 ∧ k.2 + 0 ≤ 0) ∧ (sp_X12_fact) av σ fun v σ' => xk_X12_reads ct K R n 29 ls (v.toList ++ rest) σ' (k.1 + 0, k.2 + 0)) ∧
  xe_X12_reads ct K R (n + 1) 29 ls st σ k = (oI st fun x st => 4 < 7 ∧ xk_X12_reads ct K R n 31 (stL ls 4 (vi x)) st σ k) ∧
  xe_X12_reads ct K R (n + 1) 31 ls st σ k = (lR ls 0 fun x => xk_X12_reads ct K R n 32 ls (vr x :: st) σ k) ∧
  xe_X12_reads ct K R (n + 1) 32 ls st σ k = (xk_X12_reads ct K R n 35 ls (vl (BitVec.ofInt 64 (10631)) :: st) σ k) ∧
  xe_X12_reads ct K R (n + 1) 35 ls st σ k = (popN 2 st [] fun av rest => (catS rest ≤ 8 ∧ 1 < 3 ∧ k.1 + 0 ≤ 0 ∧ k.2 + 0 ≤ 0) ∧ (sp_X12_isWord) av σ fun v σ' => xk_X12_reads ct K R n 38 ls (v.toList ++ rest) σ' (k.1 + 0, k.2 + 0)) ∧
  xe_X12_reads ct K R (n + 1) 38 ls st σ k = (oI st fun x st => 5 < 7 ∧ xk_X12_reads ct K R n 40 (stL ls 5 (vi x)) st σ k) ∧
  xe_X12_reads ct K R (n + 1) 40 ls st σ k = (lR ls 0 fun x => xk_X12_reads ct K R n 41 ls (vr x :: st) σ k) ∧
  xe_X12_reads ct K R (n + 1) 41 ls st σ k = (xk_X12_reads ct K R n 43 ls (vi (40) :: st) σ k) ∧
  xe_X12_reads ct K R (n + 1) 43 ls st σ k = (popN 2 st [] fun av rest => (catS rest ≤ 8 ∧ 1 < 3 ∧ k.1 + 0 ≤ 0 ∧ k.2 + 0 ≤ 0) ∧ (sp_X12_isSign) av σ fun v σ' => xk_X12_reads ct K R n 46 ls (v.toList ++ rest) σ' (k.1 + 0, k.2 + 0)) ∧
  xe_X12_reads ct K R (n + 1) 46 ls st σ k = (oI st fun x st => 6 < 7 ∧ xk_X12_reads ct K R n 48 (stL ls 6 (vi x)) st σ k) ∧
  xe_X12_reads ct K R (n + 1) 48 ls st σ k = (lI ls 4 fun x => xk_X12_reads ct K R n 50 ls (vi x :: st) σ k) ∧
  xe_X12_reads ct K R (n + 1) 50 ls st σ k = (oI st fun x st => (¬ wI x = wI 0 → xk_X12_reads ct K R n 77 ls st σ k) ∧ (¬ (¬ wI x = wI 0) → xk_X12_reads ct K R n 53 ls st σ k)) ∧
  xe_X12_reads ct K R (n + 1) 53 ls st σ k = (lI ls 5 fun x => xk_X12_reads ct K R n 55 ls (vi x :: st) σ k) ∧
  xe_X12_reads ct K R (n + 1) 55 ls st σ k = (oI st fun x st => (¬ wI x = wI 0 → xk_X12_reads ct K R n 77 ls st σ k) ∧ (¬ (¬ wI x = wI 0) → xk_X12_reads ct K R n 58 ls st σ k)) ∧
  xe_X12_reads ct K R (n + 1) 58 ls st σ k = (lI ls 6 fun x => xk_X12_reads ct K R n 60 ls (vi x :: st) σ k) ∧
  xe_X12_reads ct K R (n + 1) 60 ls st σ k = (oI st fun x st => (¬ wI x = wI 0 → xk_X12_reads ct K R n 77 ls st σ k) ∧ (¬ (¬ wI x = wI 0) → xk_X12_reads ct K R n 63 ls st σ k)) ∧
  xe_X12_reads ct K R (n + 1) 63 ls st σ k = (lR ls 0 fun x => xk_X12_reads ct K R n 64 ls (vr x :: st) σ k) ∧
  xe_X12_reads ct K R (n + 1) 64 ls st σ k = (oR st fun x st => kd σ x = 13 ∧ xk_X12_reads ct K R n 67 ls (vi (fI σ 1348 x) :: st) σ k) ∧
  xe_X12_reads ct K R (n + 1) 67 ls st σ k = (xk_X12_reads ct K R n 68 ls (vi (2) :: st) σ k) ∧
  xe_X12_reads ct K R (n + 1) 68 ls st σ k = (oI st fun y st => oI st fun x st => (wI x = wI y → xk_X12_reads ct K R n 77 ls st σ k) ∧ (¬ (wI x = wI y) → xk_X12_reads ct K R n 71 ls st σ k)) ∧
  xe_X12_reads ct K R (n + 1) 71 ls st σ k = (lR ls 0 fun x => xk_X12_reads ct K R n 72 ls (vr x :: st) σ k) ∧
  xe_X12_reads ct K R (n + 1) 72 ls st σ k = (xk_X12_reads ct K R n 73 ls (vi (1) :: st) σ k) ∧
  xe_X12_reads ct K R (n + 1) 73 ls st σ k = (popN 2 st [] fun av rest => (catS rest ≤ 8 ∧ 1 < 3 ∧ k.1 + 0 ≤ 0 ∧ k.2 + 0 ≤ 0) ∧ (sp_X12_fails) av σ fun v σ' => xk_X12_reads ct K R n 76 ls (v.toList ++ rest) σ' (k.1 + 0, k.2 + 0)) ∧
  xe_X12_reads ct K R (n + 1) 76 ls st σ k = (oI st fun x st => st = [] ∧ (x = 0 ∨ x = 1) ∧ R (some (vi x)) σ) ∧
  xe_X12_reads ct K R (n + 1) 77 ls st σ k = (lI ls 2 fun x => xk_X12_reads ct K R n 78 ls (vi x :: st) σ k) ∧
  xe_X12_reads ct K R (n + 1) 78 ls st σ k = (xk_X12_reads ct K R n 79 ls (vi (5) :: st) σ k) ∧
  xe_X12_reads ct K R (n + 1) 79 ls st σ k = (oI st fun y st => oI st fun x st => (¬ wI x = wI y → xk_X12_reads ct K R n 88 ls st σ k) ∧ (¬ (¬ wI x = wI y) → xk_X12_reads ct K R n 82 ls st σ k)) ∧
  xe_X12_reads ct K R (n + 1) 82 ls st σ k = (lR ls 0 fun x => xk_X12_reads ct K R n 83 ls (vr x :: st) σ k) ∧
  xe_X12_reads ct K R (n + 1) 83 ls st σ k = (xk_X12_reads ct K R n 84 ls (vi (5) :: st) σ k) ∧
  xe_X12_reads ct K R (n + 1) 84 ls st σ k = (popN 2 st [] fun av rest => (catS rest ≤ 8 ∧ 1 < 3 ∧ k.1 + 0 ≤ 0 ∧ k.2 + 0 ≤ 0) ∧ (sp_X12_fails) av σ fun v σ' => xk_X12_reads ct K R n 87 ls (v.toList ++ rest) σ' (k.1 + 0, k.2 + 0)) ∧
  xe_X12_reads ct K R (n + 1) 87 ls st σ k = (oI st fun x st => st = [] ∧ (x = 0 ∨ x = 1) ∧ R (some (vi x)) σ) ∧
  xe_X12_reads ct K R (n + 1) 88 ls st σ k = (lI ls 5 fun x => xk_X12_reads ct K R n 90 ls (vi x :: st) σ k) ∧
  xe_X12_reads ct K R (n + 1) 90 ls st σ k = (oI st fun x st => (¬ wI x = wI 0 → xk_X12_reads ct K R n 98 ls st σ k) ∧ (¬ (¬ wI x = wI 0) → xk_X12_reads ct K R n 93 ls st σ k)) ∧
  xe_X12_reads ct K R (n + 1) 93 ls st σ k = (lI ls 6 fun x => xk_X12_reads ct K R n 95 ls (vi x :: st) σ k) ∧
  xe_X12_reads ct K R (n + 1) 95 ls st σ k = (oI st fun x st => (wI x = wI 0 → xk_X12_reads ct K R n 143 ls st σ k) ∧ (¬ (wI x = wI 0) → xk_X12_reads ct K R n 98 ls st σ k)) ∧
  xe_X12_reads ct K R (n + 1) 98 ls st σ k = (lR ls 0 fun x => xk_X12_reads ct K R n 99 ls (vr x :: st) σ k) ∧
  xe_X12_reads ct K R (n + 1) 99 ls st σ k = (lI ls 5 fun x => xk_X12_reads ct K R n 101 ls (vi x :: st) σ k) ∧
  xe_X12_reads ct K R (n + 1) 101 ls st σ k = (oI st fun x st => (wI x = wI 0 → xk_X12_reads ct K R n 109 ls st σ k) ∧ (¬ (wI x = wI 0) → xk_X12_reads ct K R n 104 ls st σ k)) ∧
  xe_X12_reads ct K R (n + 1) 104 ls st σ k = (xk_X12_reads ct K R n 106 ls (vi (30) :: st) σ k) ∧
  xe_X12_reads ct K R (n + 1) 106 ls st σ k = (xk_X12_reads ct K R n 111 ls st σ k) ∧
  xe_X12_reads ct K R (n + 1) 109 ls st σ k = (xk_X12_reads ct K R n 111 ls (vi (28) :: st) σ k) ∧
  xe_X12_reads ct K R (n + 1) 111 ls st σ k = (popN 2 st [] fun av rest => (catS rest ≤ 8 ∧ 1 < 3 ∧ k.1 + 0 ≤ 0 ∧ k.2 + 0 ≤ 0) ∧ (sp_X12_code) av σ fun v σ' => xk_X12_reads ct K R n 114 ls (v.toList ++ rest) σ' (k.1 + 0, k.2 + 0)) ∧
  xe_X12_reads ct K R (n + 1) 114 ls st σ k = (lI ls 2 fun x => 2 < 7 ∧ xk_X12_reads ct K R n 117 (stL ls 2 (vi (x + (1)))) st σ k) ∧
  xe_X12_reads ct K R (n + 1) 117 ls st σ k = (lR ls 0 fun x => xk_X12_reads ct K R n 118 ls (vr x :: st) σ k) ∧
  xe_X12_reads ct K R (n + 1) 118 ls st σ k = (oR st fun x st => kd σ x = 13 ∧ xk_X12_reads ct K R n 121 ls (vr (fR σ 1360 x) :: st) σ k) ∧
  xe_X12_reads ct K R (n + 1) 121 ls st σ k = (lI ls 2 fun x => xk_X12_reads ct K R n 122 ls (vi x :: st) σ k) ∧
  xe_X12_reads ct K R (n + 1) 122 ls st σ k = (lI ls 5 fun x => xk_X12_reads ct K R n 124 ls (vi x :: st) σ k) ∧
  xe_X12_reads ct K R (n + 1) 124 ls st σ k = (oI st fun x st => (wI x = wI 0 → xk_X12_reads ct K R n 131 ls st σ k) ∧ (¬ (wI x = wI 0) → xk_X12_reads ct K R n 127 ls st σ k)) ∧
  xe_X12_reads ct K R (n + 1) 127 ls st σ k = (xk_X12_reads ct K R n 128 ls (vi (1) :: st) σ k) ∧
  xe_X12_reads ct K R (n + 1) 128 ls st σ k = (xk_X12_reads ct K R n 132 ls st σ k) ∧
  xe_X12_reads ct K R (n + 1) 131 ls st σ k = (xk_X12_reads ct K R n 132 ls (vi (2) :: st) σ k) ∧
  xe_X12_reads ct K R (n + 1) 132 ls st σ k = (oI st fun v st => oI st fun j st => oR st fun x st => kd σ x = 101 ∧ (0 ≤ j ∧ j < ln σ x) ∧ xk_X12_reads ct K R n 133 ls st (qI σ x j v) k) ∧
  xe_X12_reads ct K R (n + 1) 133 ls st σ k = (lR ls 0 fun x => xk_X12_reads ct K R n 134 ls (vr x :: st) σ k) ∧
  xe_X12_reads ct K R (n + 1) 134 ls st σ k = (oR st fun x st => kd σ x = 13 ∧ xk_X12_reads ct K R n 137 ls (vr (fR σ 1361 x) :: st) σ k) ∧
  xe_X12_reads ct K R (n + 1) 137 ls st σ k = (lI ls 2 fun x => xk_X12_reads ct K R n 138 ls (vi x :: st) σ k) ∧
  xe_X12_reads ct K R (n + 1) 138 ls st σ k = (xk_X12_reads ct K R n 139 ls (vi (0) :: st) σ k) ∧
  xe_X12_reads ct K R (n + 1) 139 ls st σ k = (oI st fun v st => oI st fun j st => oR st fun x st => kd σ x = 103 ∧ (0 ≤ j ∧ j < ln σ x) ∧ (v = 0 ∨ v = 1) ∧ xk_X12_reads ct K R n 140 ls st (qI σ x j v) k) ∧
  xe_X12_reads ct K R (n + 1) 140 ls st σ k = (xk_X12_reads ct K R n 186 ls st σ k) ∧
  xe_X12_reads ct K R (n + 1) 143 ls st σ k = (lR ls 0 fun x => xk_X12_reads ct K R n 144 ls (vr x :: st) σ k) ∧
  xe_X12_reads ct K R (n + 1) 144 ls st σ k = (lI ls 4 fun x => xk_X12_reads ct K R n 146 ls (vi x :: st) σ k) ∧
  xe_X12_reads ct K R (n + 1) 146 ls st σ k = (oI st fun x st => (wI x ≤ wI 0 → xk_X12_reads ct K R n 154 ls st σ k) ∧ (¬ (wI x ≤ wI 0) → xk_X12_reads ct K R n 149 ls st σ k)) ∧
  xe_X12_reads ct K R (n + 1) 149 ls st σ k = (lI ls 4 fun x => xk_X12_reads ct K R n 151 ls (vi x :: st) σ k) ∧
  xe_X12_reads ct K R (n + 1) 151 ls st σ k = (xk_X12_reads ct K R n 161 ls st σ k) ∧
  xe_X12_reads ct K R (n + 1) 154 ls st σ k = (xk_X12_reads ct K R n 156 ls (vi (100) :: st) σ k) ∧
  xe_X12_reads ct K R (n + 1) 156 ls st σ k = (lR ls 0 fun x => xk_X12_reads ct K R n 157 ls (vr x :: st) σ k) ∧
  xe_X12_reads ct K R (n + 1) 157 ls st σ k = (oR st fun x st => kd σ x = 13 ∧ xk_X12_reads ct K R n 160 ls (vi (fI σ 1350 x) :: st) σ k) ∧
  xe_X12_reads ct K R (n + 1) 160 ls st σ k = (oI st fun y st => oI st fun x st => xk_X12_reads ct K R n 161 ls (vi (x + y) :: st) σ k) ∧
  xe_X12_reads ct K R (n + 1) 161 ls st σ k = (popN 2 st [] fun av rest => (catS rest ≤ 8 ∧ 1 < 3 ∧ k.1 + 0 ≤ 0 ∧ k.2 + 0 ≤ 0) ∧ (sp_X12_code) av σ fun v σ' => xk_X12_reads ct K R n 164 ls (v.toList ++ rest) σ' (k.1 + 0, k.2 + 0)) ∧
  xe_X12_reads ct K R (n + 1) 164 ls st σ k = (xk_X12_reads ct K R n 165 ls (vi (0) :: st) σ k) ∧
  xe_X12_reads ct K R (n + 1) 165 ls st σ k = (oI st fun x st => 3 < 7 ∧ xk_X12_reads ct K R n 166 (stL ls 3 (vi x)) st σ k) ∧
  xe_X12_reads ct K R (n + 1) 166 ls st σ k = (lI ls 2 fun x => xk_X12_reads ct K R n 167 ls (vi x :: st) σ k) ∧
  xe_X12_reads ct K R (n + 1) 167 ls st σ k = (oI st fun x st => (wI x ≤ wI 0 → xk_X12_reads ct K R n 186 ls st σ k) ∧ (¬ (wI x ≤ wI 0) → xk_X12_reads ct K R n 170 ls st σ k)) ∧
  xe_X12_reads ct K R (n + 1) 170 ls st σ k = (lR ls 0 fun x => xk_X12_reads ct K R n 171 ls (vr x :: st) σ k) ∧
  xe_X12_reads ct K R (n + 1) 171 ls st σ k = (oR st fun x st => kd σ x = 13 ∧ xk_X12_reads ct K R n 174 ls (vr (fR σ 1360 x) :: st) σ k) ∧
  xe_X12_reads ct K R (n + 1) 174 ls st σ k = (lI ls 2 fun x => xk_X12_reads ct K R n 175 ls (vi x :: st) σ k) ∧
  xe_X12_reads ct K R (n + 1) 175 ls st σ k = (oI st fun j st => oR st fun x st => (kd σ x = 101 ∨ kd σ x = 108) ∧ (0 ≤ j ∧ j < ln σ x) ∧ xk_X12_reads ct K R n 176 ls (vi (aI σ x j) :: st) σ k) ∧
  xe_X12_reads ct K R (n + 1) 176 ls st σ k = (xk_X12_reads ct K R n 177 ls (vi (1) :: st) σ k) ∧
  xe_X12_reads ct K R (n + 1) 177 ls st σ k = (oI st fun y st => oI st fun x st => (¬ wI x = wI y → xk_X12_reads ct K R n 186 ls st σ k) ∧ (¬ (¬ wI x = wI y) → xk_X12_reads ct K R n 180 ls st σ k)) ∧
  xe_X12_reads ct K R (n + 1) 180 ls st σ k = (lI ls 2 fun x => 2 < 7 ∧ xk_X12_reads ct K R n 183 (stL ls 2 (vi (x + (-1)))) st σ k) ∧
  xe_X12_reads ct K R (n + 1) 183 ls st σ k = (xk_X12_reads ct K R n 166 ls st σ k) ∧
  xe_X12_reads ct K R (n + 1) 186 ls st σ k = (lR ls 0 fun x => xk_X12_reads ct K R n 187 ls (vr x :: st) σ k) ∧
  xe_X12_reads ct K R (n + 1) 187 ls st σ k = (popN 1 st [] fun av rest => (catS rest ≤ 8 ∧ 2 < 3 ∧ k.1 + 0 ≤ 0 ∧ k.2 + 0 ≤ 0) ∧ (sp_X12_next) av σ fun v σ' => xk_X12_reads ct K R n 190 ls (v.toList ++ rest) σ' (k.1 + 0, k.2 + 0)) ∧
  xe_X12_reads ct K R (n + 1) 190 ls st σ k = (xk_X12_reads ct K R n 21 ls st σ k) ∧
  xe_X12_reads ct K R (n + 1) 193 ls st σ k = (lR ls 0 fun x => xk_X12_reads ct K R n 194 ls (vr x :: st) σ k) ∧
  xe_X12_reads ct K R (n + 1) 194 ls st σ k = (xk_X12_reads ct K R n 196 ls (vi (43) :: st) σ k) ∧
  xe_X12_reads ct K R (n + 1) 196 ls st σ k = (popN 2 st [] fun av rest => (catS rest ≤ 8 ∧ 1 < 3 ∧ k.1 + 0 ≤ 0 ∧ k.2 + 0 ≤ 0) ∧ (sp_X12_isSign) av σ fun v σ' => xk_X12_reads ct K R n 199 ls (v.toList ++ rest) σ' (k.1 + 0, k.2 + 0)) ∧
  xe_X12_reads ct K R (n + 1) 199 ls st σ k = (oI st fun x st => (¬ wI x = wI 0 → xk_X12_reads ct K R n 211 ls st σ k) ∧ (¬ (¬ wI x = wI 0) → xk_X12_reads ct K R n 202 ls st σ k)) ∧
  xe_X12_reads ct K R (n + 1) 202 ls st σ k = (lR ls 0 fun x => xk_X12_reads ct K R n 203 ls (vr x :: st) σ k) ∧
  xe_X12_reads ct K R (n + 1) 203 ls st σ k = (xk_X12_reads ct K R n 205 ls (vi (45) :: st) σ k) ∧
  xe_X12_reads ct K R (n + 1) 205 ls st σ k = (popN 2 st [] fun av rest => (catS rest ≤ 8 ∧ 1 < 3 ∧ k.1 + 0 ≤ 0 ∧ k.2 + 0 ≤ 0) ∧ (sp_X12_isSign) av σ fun v σ' => xk_X12_reads ct K R n 208 ls (v.toList ++ rest) σ' (k.1 + 0, k.2 + 0)) ∧
  xe_X12_reads ct K R (n + 1) 208 ls st σ k = (oI st fun x st => (wI x = wI 0 → xk_X12_reads ct K R n 236 ls st σ k) ∧ (¬ (wI x = wI 0) → xk_X12_reads ct K R n 211 ls st σ k)) ∧
  xe_X12_reads ct K R (n + 1) 211 ls st σ k = (lR ls 0 fun x => xk_X12_reads ct K R n 212 ls (vr x :: st) σ k) ∧
  xe_X12_reads ct K R (n + 1) 212 ls st σ k = (lR ls 0 fun x => xk_X12_reads ct K R n 213 ls (vr x :: st) σ k) ∧
  xe_X12_reads ct K R (n + 1) 213 ls st σ k = (xk_X12_reads ct K R n 215 ls (vi (43) :: st) σ k) ∧
  xe_X12_reads ct K R (n + 1) 215 ls st σ k = (popN 2 st [] fun av rest => (catS rest ≤ 8 ∧ 1 < 3 ∧ k.1 + 0 ≤ 0 ∧ k.2 + 0 ≤ 0) ∧ (sp_X12_isSign) av σ fun v σ' => xk_X12_reads ct K R n 218 ls (v.toList ++ rest) σ' (k.1 + 0, k.2 + 0)) ∧
  xe_X12_reads ct K R (n + 1) 218 ls st σ k = (oI st fun x st => (wI x = wI 0 → xk_X12_reads ct K R n 226 ls st σ k) ∧ (¬ (wI x = wI 0) → xk_X12_reads ct K R n 221 ls st σ k)) ∧
  xe_X12_reads ct K R (n + 1) 221 ls st σ k = (xk_X12_reads ct K R n 223 ls (vi (20) :: st) σ k) ∧
  xe_X12_reads ct K R (n + 1) 223 ls st σ k = (xk_X12_reads ct K R n 228 ls st σ k) ∧
  xe_X12_reads ct K R (n + 1) 226 ls st σ k = (xk_X12_reads ct K R n 228 ls (vi (21) :: st) σ k) ∧
  xe_X12_reads ct K R (n + 1) 228 ls st σ k = (popN 2 st [] fun av rest => (catS rest ≤ 8 ∧ 1 < 3 ∧ k.1 + 0 ≤ 0 ∧ k.2 + 0 ≤ 0) ∧ (sp_X12_code) av σ fun v σ' => xk_X12_reads ct K R n 231 ls (v.toList ++ rest) σ' (k.1 + 0, k.2 + 0)) ∧
  xe_X12_reads ct K R (n + 1) 231 ls st σ k = (xk_X12_reads ct K R n 232 ls (vi (1) :: st) σ k) ∧
  xe_X12_reads ct K R (n + 1) 232 ls st σ k = (oI st fun x st => 3 < 7 ∧ xk_X12_reads ct K R n 233 (stL ls 3 (vi x)) st σ k) ∧
  xe_X12_reads ct K R (n + 1) 233 ls st σ k = (xk_X12_reads ct K R n 425 ls st σ k) ∧
  xe_X12_reads ct K R (n + 1) 236 ls st σ k = (lR ls 0 fun x => xk_X12_reads ct K R n 237 ls (vr x :: st) σ k) ∧
  xe_X12_reads ct K R (n + 1) 237 ls st σ k = (xk_X12_reads ct K R n 239 ls (vi (60) :: st) σ k) ∧
  xe_X12_reads ct K R (n + 1) 239 ls st σ k = (popN 2 st [] fun av rest => (catS rest ≤ 8 ∧ 1 < 3 ∧ k.1 + 0 ≤ 0 ∧ k.2 + 0 ≤ 0) ∧ (sp_X12_isSign) av σ fun v σ' => xk_X12_reads ct K R n 242 ls (v.toList ++ rest) σ' (k.1 + 0, k.2 + 0)) ∧
  xe_X12_reads ct K R (n + 1) 242 ls st σ k = (oI st fun x st => (¬ wI x = wI 0 → xk_X12_reads ct K R n 254 ls st σ k) ∧ (¬ (¬ wI x = wI 0) → xk_X12_reads ct K R n 245 ls st σ k)) ∧
  xe_X12_reads ct K R (n + 1) 245 ls st σ k = (lR ls 0 fun x => xk_X12_reads ct K R n 246 ls (vr x :: st) σ k) ∧
  xe_X12_reads ct K R (n + 1) 246 ls st σ k = (xk_X12_reads ct K R n 248 ls (vi (61) :: st) σ k) ∧
  xe_X12_reads ct K R (n + 1) 248 ls st σ k = (popN 2 st [] fun av rest => (catS rest ≤ 8 ∧ 1 < 3 ∧ k.1 + 0 ≤ 0 ∧ k.2 + 0 ≤ 0) ∧ (sp_X12_isSign) av σ fun v σ' => xk_X12_reads ct K R n 251 ls (v.toList ++ rest) σ' (k.1 + 0, k.2 + 0)) ∧
  xe_X12_reads ct K R (n + 1) 251 ls st σ k = (oI st fun x st => (wI x = wI 0 → xk_X12_reads ct K R n 295 ls st σ k) ∧ (¬ (wI x = wI 0) → xk_X12_reads ct K R n 254 ls st σ k)) ∧
  xe_X12_reads ct K R (n + 1) 254 ls st σ k = (lR ls 0 fun x => xk_X12_reads ct K R n 255 ls (vr x :: st) σ k) ∧
  xe_X12_reads ct K R (n + 1) 255 ls st σ k = (oR st fun x st => kd σ x = 13 ∧ xk_X12_reads ct K R n 258 ls (vr (fR σ 1361 x) :: st) σ k) ∧
  xe_X12_reads ct K R (n + 1) 258 ls st σ k = (lI ls 2 fun x => xk_X12_reads ct K R n 259 ls (vi x :: st) σ k) ∧
  xe_X12_reads ct K R (n + 1) 259 ls st σ k = (oI st fun j st => oR st fun x st => (kd σ x = 103 ∨ kd σ x = 21) ∧ (0 ≤ j ∧ j < ln σ x) ∧ xk_X12_reads ct K R n 260 ls (vi (aI σ x j) :: st) σ k) ∧
  xe_X12_reads ct K R (n + 1) 260 ls st σ k = (oI st fun x st => (¬ wI x = wI 0 → xk_X12_reads ct K R n 295 ls st σ k) ∧ (¬ (¬ wI x = wI 0) → xk_X12_reads ct K R n 263 ls st σ k)) ∧
  xe_X12_reads ct K R (n + 1) 263 ls st σ k = (lR ls 0 fun x => xk_X12_reads ct K R n 264 ls (vr x :: st) σ k) ∧
  xe_X12_reads ct K R (n + 1) 264 ls st σ k = (lR ls 0 fun x => xk_X12_reads ct K R n 265 ls (vr x :: st) σ k) ∧
  xe_X12_reads ct K R (n + 1) 265 ls st σ k = (xk_X12_reads ct K R n 267 ls (vi (60) :: st) σ k) ∧
  xe_X12_reads ct K R (n + 1) 267 ls st σ k = (popN 2 st [] fun av rest => (catS rest ≤ 8 ∧ 1 < 3 ∧ k.1 + 0 ≤ 0 ∧ k.2 + 0 ≤ 0) ∧ (sp_X12_isSign) av σ fun v σ' => xk_X12_reads ct K R n 270 ls (v.toList ++ rest) σ' (k.1 + 0, k.2 + 0)) ∧
  xe_X12_reads ct K R (n + 1) 270 ls st σ k = (oI st fun x st => (wI x = wI 0 → xk_X12_reads ct K R n 278 ls st σ k) ∧ (¬ (wI x = wI 0) → xk_X12_reads ct K R n 273 ls st σ k)) ∧
  xe_X12_reads ct K R (n + 1) 273 ls st σ k = (xk_X12_reads ct K R n 275 ls (vi (24) :: st) σ k) ∧
  xe_X12_reads ct K R (n + 1) 275 ls st σ k = (xk_X12_reads ct K R n 280 ls st σ k) ∧
  xe_X12_reads ct K R (n + 1) 278 ls st σ k = (xk_X12_reads ct K R n 280 ls (vi (25) :: st) σ k) ∧
  xe_X12_reads ct K R (n + 1) 280 ls st σ k = (popN 2 st [] fun av rest => (catS rest ≤ 8 ∧ 1 < 3 ∧ k.1 + 0 ≤ 0 ∧ k.2 + 0 ≤ 0) ∧ (sp_X12_code) av σ fun v σ' => xk_X12_reads ct K R n 283 ls (v.toList ++ rest) σ' (k.1 + 0, k.2 + 0)) ∧
  xe_X12_reads ct K R (n + 1) 283 ls st σ k = (lR ls 0 fun x => xk_X12_reads ct K R n 284 ls (vr x :: st) σ k) ∧
  xe_X12_reads ct K R (n + 1) 284 ls st σ k = (oR st fun x st => kd σ x = 13 ∧ xk_X12_reads ct K R n 287 ls (vr (fR σ 1361 x) :: st) σ k) ∧
  xe_X12_reads ct K R (n + 1) 287 ls st σ k = (lI ls 2 fun x => xk_X12_reads ct K R n 288 ls (vi x :: st) σ k) ∧
  xe_X12_reads ct K R (n + 1) 288 ls st σ k = (xk_X12_reads ct K R n 289 ls (vi (1) :: st) σ k) ∧
  xe_X12_reads ct K R (n + 1) 289 ls st σ k = (oI st fun v st => oI st fun j st => oR st fun x st => kd σ x = 103 ∧ (0 ≤ j ∧ j < ln σ x) ∧ (v = 0 ∨ v = 1) ∧ xk_X12_reads ct K R n 290 ls st (qI σ x j v) k) ∧
  xe_X12_reads ct K R (n + 1) 290 ls st σ k = (xk_X12_reads ct K R n 291 ls (vi (1) :: st) σ k) ∧
  xe_X12_reads ct K R (n + 1) 291 ls st σ k = (oI st fun x st => 3 < 7 ∧ xk_X12_reads ct K R n 292 (stL ls 3 (vi x)) st σ k) ∧
  xe_X12_reads ct K R (n + 1) 292 ls st σ k = (xk_X12_reads ct K R n 425 ls st σ k) ∧
  xe_X12_reads ct K R (n + 1) 295 ls st σ k = (lR ls 0 fun x => xk_X12_reads ct K R n 296 ls (vr x :: st) σ k) ∧
  xe_X12_reads ct K R (n + 1) 296 ls st σ k = (xk_X12_reads ct K R n 299 ls (vl (BitVec.ofInt 64 (1111)) :: st) σ k) ∧
  xe_X12_reads ct K R (n + 1) 299 ls st σ k = (popN 2 st [] fun av rest => (catS rest ≤ 8 ∧ 1 < 3 ∧ k.1 + 0 ≤ 0 ∧ k.2 + 0 ≤ 0) ∧ (sp_X12_isWord) av σ fun v σ' => xk_X12_reads ct K R n 302 ls (v.toList ++ rest) σ' (k.1 + 0, k.2 + 0)) ∧
  xe_X12_reads ct K R (n + 1) 302 ls st σ k = (oI st fun x st => (¬ wI x = wI 0 → xk_X12_reads ct K R n 315 ls st σ k) ∧ (¬ (¬ wI x = wI 0) → xk_X12_reads ct K R n 305 ls st σ k)) ∧
  xe_X12_reads ct K R (n + 1) 305 ls st σ k = (lR ls 0 fun x => xk_X12_reads ct K R n 306 ls (vr x :: st) σ k) ∧
  xe_X12_reads ct K R (n + 1) 306 ls st σ k = (xk_X12_reads ct K R n 309 ls (vl (BitVec.ofInt 64 (423)) :: st) σ k) ∧
  xe_X12_reads ct K R (n + 1) 309 ls st σ k = (popN 2 st [] fun av rest => (catS rest ≤ 8 ∧ 1 < 3 ∧ k.1 + 0 ≤ 0 ∧ k.2 + 0 ≤ 0) ∧ (sp_X12_isWord) av σ fun v σ' => xk_X12_reads ct K R n 312 ls (v.toList ++ rest) σ' (k.1 + 0, k.2 + 0)) ∧
  xe_X12_reads ct K R (n + 1) 312 ls st σ k = (oI st fun x st => (wI x = wI 0 → xk_X12_reads ct K R n 348 ls st σ k) ∧ (¬ (wI x = wI 0) → xk_X12_reads ct K R n 315 ls st σ k)) ∧
  xe_X12_reads ct K R (n + 1) 315 ls st σ k = (lR ls 0 fun x => xk_X12_reads ct K R n 316 ls (vr x :: st) σ k) ∧
  xe_X12_reads ct K R (n + 1) 316 ls st σ k = (lR ls 0 fun x => xk_X12_reads ct K R n 317 ls (vr x :: st) σ k) ∧
  xe_X12_reads ct K R (n + 1) 317 ls st σ k = (xk_X12_reads ct K R n 320 ls (vl (BitVec.ofInt 64 (1111)) :: st) σ k) ∧
  xe_X12_reads ct K R (n + 1) 320 ls st σ k = (popN 2 st [] fun av rest => (catS rest ≤ 8 ∧ 1 < 3 ∧ k.1 + 0 ≤ 0 ∧ k.2 + 0 ≤ 0) ∧ (sp_X12_isWord) av σ fun v σ' => xk_X12_reads ct K R n 323 ls (v.toList ++ rest) σ' (k.1 + 0, k.2 + 0)) ∧
  xe_X12_reads ct K R (n + 1) 323 ls st σ k = (oI st fun x st => (wI x = wI 0 → xk_X12_reads ct K R n 331 ls st σ k) ∧ (¬ (wI x = wI 0) → xk_X12_reads ct K R n 326 ls st σ k)) ∧
  xe_X12_reads ct K R (n + 1) 326 ls st σ k = (xk_X12_reads ct K R n 328 ls (vi (26) :: st) σ k) ∧
  xe_X12_reads ct K R (n + 1) 328 ls st σ k = (xk_X12_reads ct K R n 333 ls st σ k) ∧
  xe_X12_reads ct K R (n + 1) 331 ls st σ k = (xk_X12_reads ct K R n 333 ls (vi (27) :: st) σ k) ∧
  xe_X12_reads ct K R (n + 1) 333 ls st σ k = (popN 2 st [] fun av rest => (catS rest ≤ 8 ∧ 1 < 3 ∧ k.1 + 0 ≤ 0 ∧ k.2 + 0 ≤ 0) ∧ (sp_X12_code) av σ fun v σ' => xk_X12_reads ct K R n 336 ls (v.toList ++ rest) σ' (k.1 + 0, k.2 + 0)) ∧
  xe_X12_reads ct K R (n + 1) 336 ls st σ k = (lR ls 0 fun x => xk_X12_reads ct K R n 337 ls (vr x :: st) σ k) ∧
  xe_X12_reads ct K R (n + 1) 337 ls st σ k = (oR st fun x st => kd σ x = 13 ∧ xk_X12_reads ct K R n 340 ls (vr (fR σ 1361 x) :: st) σ k) ∧
  xe_X12_reads ct K R (n + 1) 340 ls st σ k = (lI ls 2 fun x => xk_X12_reads ct K R n 341 ls (vi x :: st) σ k) ∧
  xe_X12_reads ct K R (n + 1) 341 ls st σ k = (xk_X12_reads ct K R n 342 ls (vi (0) :: st) σ k) ∧
  xe_X12_reads ct K R (n + 1) 342 ls st σ k = (oI st fun v st => oI st fun j st => oR st fun x st => kd σ x = 103 ∧ (0 ≤ j ∧ j < ln σ x) ∧ (v = 0 ∨ v = 1) ∧ xk_X12_reads ct K R n 343 ls st (qI σ x j v) k) ∧
  xe_X12_reads ct K R (n + 1) 343 ls st σ k = (xk_X12_reads ct K R n 344 ls (vi (1) :: st) σ k) ∧
  xe_X12_reads ct K R (n + 1) 344 ls st σ k = (oI st fun x st => 3 < 7 ∧ xk_X12_reads ct K R n 345 (stL ls 3 (vi x)) st σ k) ∧
  xe_X12_reads ct K R (n + 1) 345 ls st σ k = (xk_X12_reads ct K R n 425 ls st σ k) ∧
  xe_X12_reads ct K R (n + 1) 348 ls st σ k = (lR ls 0 fun x => xk_X12_reads ct K R n 349 ls (vr x :: st) σ k) ∧
  xe_X12_reads ct K R (n + 1) 349 ls st σ k = (xk_X12_reads ct K R n 351 ls (vi (41) :: st) σ k) ∧
  xe_X12_reads ct K R (n + 1) 351 ls st σ k = (popN 2 st [] fun av rest => (catS rest ≤ 8 ∧ 1 < 3 ∧ k.1 + 0 ≤ 0 ∧ k.2 + 0 ≤ 0) ∧ (sp_X12_isSign) av σ fun v σ' => xk_X12_reads ct K R n 354 ls (v.toList ++ rest) σ' (k.1 + 0, k.2 + 0)) ∧
  xe_X12_reads ct K R (n + 1) 354 ls st σ k = (oI st fun x st => (wI x = wI 0 → xk_X12_reads ct K R n 390 ls st σ k) ∧ (¬ (wI x = wI 0) → xk_X12_reads ct K R n 357 ls st σ k)) ∧
  xe_X12_reads ct K R (n + 1) 357 ls st σ k = (lI ls 2 fun x => xk_X12_reads ct K R n 358 ls (vi x :: st) σ k) ∧
  xe_X12_reads ct K R (n + 1) 358 ls st σ k = (oI st fun x st => (wI x ≤ wI 0 → xk_X12_reads ct K R n 390 ls st σ k) ∧ (¬ (wI x ≤ wI 0) → xk_X12_reads ct K R n 361 ls st σ k)) ∧
  xe_X12_reads ct K R (n + 1) 361 ls st σ k = (lR ls 0 fun x => xk_X12_reads ct K R n 362 ls (vr x :: st) σ k) ∧
  xe_X12_reads ct K R (n + 1) 362 ls st σ k = (xk_X12_reads ct K R n 364 ls (vi (29) :: st) σ k) ∧
  xe_X12_reads ct K R (n + 1) 364 ls st σ k = (popN 2 st [] fun av rest => (catS rest ≤ 8 ∧ 1 < 3 ∧ k.1 + 0 ≤ 0 ∧ k.2 + 0 ≤ 0) ∧ (sp_X12_code) av σ fun v σ' => xk_X12_reads ct K R n 367 ls (v.toList ++ rest) σ' (k.1 + 0, k.2 + 0)) ∧
  xe_X12_reads ct K R (n + 1) 367 ls st σ k = (lI ls 2 fun x => 2 < 7 ∧ xk_X12_reads ct K R n 370 (stL ls 2 (vi (x + (-1)))) st σ k) ∧
  xe_X12_reads ct K R (n + 1) 370 ls st σ k = (lI ls 2 fun x => xk_X12_reads ct K R n 371 ls (vi x :: st) σ k) ∧
  xe_X12_reads ct K R (n + 1) 371 ls st σ k = (oI st fun x st => (wI x ≤ wI 0 → xk_X12_reads ct K R n 425 ls st σ k) ∧ (¬ (wI x ≤ wI 0) → xk_X12_reads ct K R n 374 ls st σ k)) ∧
  xe_X12_reads ct K R (n + 1) 374 ls st σ k = (lR ls 0 fun x => xk_X12_reads ct K R n 375 ls (vr x :: st) σ k) ∧
  xe_X12_reads ct K R (n + 1) 375 ls st σ k = (oR st fun x st => kd σ x = 13 ∧ xk_X12_reads ct K R n 378 ls (vr (fR σ 1360 x) :: st) σ k) ∧
  xe_X12_reads ct K R (n + 1) 378 ls st σ k = (lI ls 2 fun x => xk_X12_reads ct K R n 379 ls (vi x :: st) σ k) ∧
  xe_X12_reads ct K R (n + 1) 379 ls st σ k = (oI st fun j st => oR st fun x st => (kd σ x = 101 ∨ kd σ x = 108) ∧ (0 ≤ j ∧ j < ln σ x) ∧ xk_X12_reads ct K R n 380 ls (vi (aI σ x j) :: st) σ k) ∧
  xe_X12_reads ct K R (n + 1) 380 ls st σ k = (xk_X12_reads ct K R n 381 ls (vi (1) :: st) σ k) ∧
  xe_X12_reads ct K R (n + 1) 381 ls st σ k = (oI st fun y st => oI st fun x st => (¬ wI x = wI y → xk_X12_reads ct K R n 425 ls st σ k) ∧ (¬ (¬ wI x = wI y) → xk_X12_reads ct K R n 384 ls st σ k)) ∧
  xe_X12_reads ct K R (n + 1) 384 ls st σ k = (lI ls 2 fun x => 2 < 7 ∧ xk_X12_reads ct K R n 387 (stL ls 2 (vi (x + (-1)))) st σ k) ∧
  xe_X12_reads ct K R (n + 1) 387 ls st σ k = (xk_X12_reads ct K R n 370 ls st σ k) ∧
  xe_X12_reads ct K R (n + 1) 390 ls st σ k = (lR ls 0 fun x => xk_X12_reads ct K R n 391 ls (vr x :: st) σ k) ∧
  xe_X12_reads ct K R (n + 1) 391 ls st σ k = (xk_X12_reads ct K R n 393 ls (vi (59) :: st) σ k) ∧
  xe_X12_reads ct K R (n + 1) 393 ls st σ k = (popN 2 st [] fun av rest => (catS rest ≤ 8 ∧ 1 < 3 ∧ k.1 + 0 ≤ 0 ∧ k.2 + 0 ≤ 0) ∧ (sp_X12_isSign) av σ fun v σ' => xk_X12_reads ct K R n 396 ls (v.toList ++ rest) σ' (k.1 + 0, k.2 + 0)) ∧
  xe_X12_reads ct K R (n + 1) 396 ls st σ k = (oI st fun x st => (wI x = wI 0 → xk_X12_reads ct K R n 419 ls st σ k) ∧ (¬ (wI x = wI 0) → xk_X12_reads ct K R n 399 ls st σ k)) ∧
  xe_X12_reads ct K R (n + 1) 399 ls st σ k = (lI ls 2 fun x => xk_X12_reads ct K R n 400 ls (vi x :: st) σ k) ∧
  xe_X12_reads ct K R (n + 1) 400 ls st σ k = (oI st fun x st => (¬ wI x = wI 0 → xk_X12_reads ct K R n 419 ls st σ k) ∧ (¬ (¬ wI x = wI 0) → xk_X12_reads ct K R n 403 ls st σ k)) ∧
  xe_X12_reads ct K R (n + 1) 403 ls st σ k = (lR ls 0 fun x => xk_X12_reads ct K R n 404 ls (vr x :: st) σ k) ∧
  xe_X12_reads ct K R (n + 1) 404 ls st σ k = (oR st fun x st => kd σ x = 13 ∧ xk_X12_reads ct K R n 407 ls (vr (fR σ 1357 x) :: st) σ k) ∧
  xe_X12_reads ct K R (n + 1) 407 ls st σ k = (lI ls 1 fun x => xk_X12_reads ct K R n 408 ls (vi x :: st) σ k) ∧
  xe_X12_reads ct K R (n + 1) 408 ls st σ k = (lR ls 0 fun x => xk_X12_reads ct K R n 409 ls (vr x :: st) σ k) ∧
  xe_X12_reads ct K R (n + 1) 409 ls st σ k = (oR st fun x st => kd σ x = 13 ∧ xk_X12_reads ct K R n 412 ls (vi (fI σ 1359 x) :: st) σ k) ∧
  xe_X12_reads ct K R (n + 1) 412 ls st σ k = (oI st fun v st => oI st fun j st => oR st fun x st => kd σ x = 101 ∧ (0 ≤ j ∧ j < ln σ x) ∧ xk_X12_reads ct K R n 413 ls st (qI σ x j v) k) ∧
  xe_X12_reads ct K R (n + 1) 413 ls st σ k = (lR ls 0 fun x => xk_X12_reads ct K R n 414 ls (vr x :: st) σ k) ∧
  xe_X12_reads ct K R (n + 1) 414 ls st σ k = (popN 1 st [] fun av rest => (catS rest ≤ 8 ∧ 2 < 3 ∧ k.1 + 0 ≤ 0 ∧ k.2 + 0 ≤ 0) ∧ (sp_X12_next) av σ fun v σ' => xk_X12_reads ct K R n 417 ls (v.toList ++ rest) σ' (k.1 + 0, k.2 + 0)) ∧
  xe_X12_reads ct K R (n + 1) 417 ls st σ k = (xk_X12_reads ct K R n 418 ls (vi (1) :: st) σ k) ∧
  xe_X12_reads ct K R (n + 1) 418 ls st σ k = (oI st fun x st => st = [] ∧ (x = 0 ∨ x = 1) ∧ R (some (vi x)) σ) ∧
  xe_X12_reads ct K R (n + 1) 419 ls st σ k = (lR ls 0 fun x => xk_X12_reads ct K R n 420 ls (vr x :: st) σ k) ∧
  xe_X12_reads ct K R (n + 1) 420 ls st σ k = (xk_X12_reads ct K R n 421 ls (vi (1) :: st) σ k) ∧
  xe_X12_reads ct K R (n + 1) 421 ls st σ k = (popN 2 st [] fun av rest => (catS rest ≤ 8 ∧ 1 < 3 ∧ k.1 + 0 ≤ 0 ∧ k.2 + 0 ≤ 0) ∧ (sp_X12_fails) av σ fun v σ' => xk_X12_reads ct K R n 424 ls (v.toList ++ rest) σ' (k.1 + 0, k.2 + 0)) ∧
  xe_X12_reads ct K R (n + 1) 424 ls st σ k = (oI st fun x st => st = [] ∧ (x = 0 ∨ x = 1) ∧ R (some (vi x)) σ) ∧
  xe_X12_reads ct K R (n + 1) 425 ls st σ k = (lR ls 0 fun x => xk_X12_reads ct K R n 426 ls (vr x :: st) σ k) ∧
  xe_X12_reads ct K R (n + 1) 426 ls st σ k = (popN 1 st [] fun av rest => (catS rest ≤ 8 ∧ 2 < 3 ∧ k.1 + 0 ≤ 0 ∧ k.2 + 0 ≤ 0) ∧ (sp_X12_next) av σ fun v σ' => xk_X12_reads ct K R n 429 ls (v.toList ++ rest) σ' (k.1 + 0, k.2 + 0)) ∧
  xe_X12_reads ct K R (n + 1) 429 ls st σ k = (xk_X12_reads ct K R n 21 ls st σ k) :=
  ⟨exS_step.trans rfl, exS_step.trans rfl, exS_step.trans rfl, exS_step.trans rfl, exS_step.trans rfl, exS_step.trans rfl, exS_step.trans rfl, exS_step.trans rfl, exS_step.trans rfl, exS_step.trans rfl, exS_step.trans rfl, exS_step.trans rfl, exS_step.trans rfl, exS_step.trans rfl, exS_step.trans rfl, exS_step.trans rfl, exS_step.trans rfl, exS_step.trans rfl, exS_step.trans rfl, exS_step.trans rfl, exS_step.trans rfl, exS_step.trans rfl, exS_step.trans rfl, exS_step.trans rfl, exS_step.trans rfl, exS_step.trans rfl, exS_step.trans rfl, exS_step.trans rfl, exS_step.trans rfl, exS_step.trans rfl, exS_step.trans rfl, exS_step.trans rfl, exS_step.trans rfl, exS_step.trans rfl, exS_step.trans rfl, exS_step.trans rfl, exS_step.trans rfl, exS_step.trans rfl, exS_step.trans rfl, exS_step.trans rfl, exS_step.trans rfl, exS_step.trans rfl, exS_step.trans rfl, exS_step.trans rfl, exS_step.trans rfl, exS_step.trans rfl, exS_step.trans rfl, exS_step.trans rfl, exS_step.trans rfl, exS_step.trans rfl, exS_step.trans rfl, exS_step.trans rfl, exS_step.trans rfl, exS_step.trans rfl, exS_step.trans rfl, exS_step.trans rfl, exS_step.trans rfl, exS_step.trans rfl, exS_step.trans rfl, exS_step.trans rfl, exS_step.trans rfl, exS_step.trans rfl, exS_step.trans rfl, exS_step.trans rfl, exS_step.trans rfl, exS_step.trans rfl, exS_step.trans rfl, exS_step.trans rfl, exS_step.trans rfl, exS_step.trans rfl, exS_step.trans rfl, exS_step.trans rfl, exS_step.trans rfl, exS_step.trans rfl, exS_step.trans rfl, exS_step.trans rfl, exS_step.trans rfl, exS_step.trans rfl, exS_step.trans rfl, exS_step.trans rfl, exS_step.trans rfl, exS_step.trans rfl, exS_step.trans rfl, exS_step.trans rfl, exS_step.trans rfl, exS_step.trans rfl, exS_step.trans rfl, exS_step.trans rfl, exS_step.trans rfl, exS_step.trans rfl, exS_step.trans rfl, exS_step.trans rfl, exS_step.trans rfl, exS_step.trans rfl, exS_step.trans rfl, exS_step.trans rfl, exS_step.trans rfl, exS_step.trans rfl, exS_step.trans rfl, exS_step.trans rfl, exS_step.trans rfl, exS_step.trans rfl, exS_step.trans rfl, exS_step.trans rfl, exS_step.trans rfl, exS_step.trans rfl, exS_step.trans rfl, exS_step.trans rfl, exS_step.trans rfl, exS_step.trans rfl, exS_step.trans rfl, exS_step.trans rfl, exS_step.trans rfl, exS_step.trans rfl, exS_step.trans rfl, exS_step.trans rfl, exS_step.trans rfl, exS_step.trans rfl, exS_step.trans rfl, exS_step.trans rfl, exS_step.trans rfl, exS_step.trans rfl, exS_step.trans rfl, exS_step.trans rfl, exS_step.trans rfl, exS_step.trans rfl, exS_step.trans rfl, exS_step.trans rfl, exS_step.trans rfl, exS_step.trans rfl, exS_step.trans rfl, exS_step.trans rfl, exS_step.trans rfl, exS_step.trans rfl, exS_step.trans rfl, exS_step.trans rfl, exS_step.trans rfl, exS_step.trans rfl, exS_step.trans rfl, exS_step.trans rfl, exS_step.trans rfl, exS_step.trans rfl, exS_step.trans rfl, exS_step.trans rfl, exS_step.trans rfl, exS_step.trans rfl, exS_step.trans rfl, exS_step.trans rfl, exS_step.trans rfl, exS_step.trans rfl, exS_step.trans rfl, exS_step.trans rfl, exS_step.trans rfl, exS_step.trans rfl, exS_step.trans rfl, exS_step.trans rfl, exS_step.trans rfl, exS_step.trans rfl, exS_step.trans rfl, exS_step.trans rfl, exS_step.trans rfl, exS_step.trans rfl, exS_step.trans rfl, exS_step.trans rfl, exS_step.trans rfl, exS_step.trans rfl, exS_step.trans rfl, exS_step.trans rfl, exS_step.trans rfl, exS_step.trans rfl, exS_step.trans rfl, exS_step.trans rfl, exS_step.trans rfl, exS_step.trans rfl, exS_step.trans rfl, exS_step.trans rfl, exS_step.trans rfl, exS_step.trans rfl, exS_step.trans rfl, exS_step.trans rfl, exS_step.trans rfl, exS_step.trans rfl, exS_step.trans rfl, exS_step.trans rfl, exS_step.trans rfl, exS_step.trans rfl, exS_step.trans rfl, exS_step.trans rfl, exS_step.trans rfl, exS_step.trans rfl, exS_step.trans rfl, exS_step.trans rfl, exS_step.trans rfl, exS_step.trans rfl, exS_step.trans rfl, exS_step.trans rfl, exS_step.trans rfl, exS_step.trans rfl, exS_step.trans rfl, exS_step.trans rfl, exS_step.trans rfl, exS_step.trans rfl, exS_step.trans rfl, exS_step.trans rfl, exS_step.trans rfl, exS_step.trans rfl, exS_step.trans rfl, exS_step.trans rfl, exS_step.trans rfl, exS_step.trans rfl, exS_step.trans rfl, exS_step.trans rfl, exS_step.trans rfl, exS_step.trans rfl, exS_step.trans rfl, exS_step.trans rfl, exS_step.trans rfl, exS_step.trans rfl, exS_step.trans rfl⟩
def M_X12_reads : Md := (yX12_reads, cX12_reads, 7, (some FieldType.boolean), 3, 0, 0, 2, false, tb_X12_reads, mt_X12_reads)
theorem mm_X12_reads : MMOK M_X12_reads := ⟨by decide +kernel, tk_X12_reads, mk_X12_reads, rfl, fun h => by cases h⟩
theorem go_X12_reads {Q : Option AV → Hp → Prop} {ct : Nat → Bool} {pc : Nat} {ls : List (Option AV)} {st : List AV} {σ : Hp} {k : Nat × Nat} (n : Nat) (h : xe_X12_reads ct (Go M_X12_reads Q) Q n pc ls st σ k) : Go M_X12_reads Q pc ls st σ k := Go.exS mm_X12_reads h

section RD
variable {Q : Option AV → Hp → Prop} {l : Int} {σ : Hp} {L : Int → Int} {z : Int}

set_option maxRecDepth 20000 in
theorem rd_425 {τ : Hp} {p d wn : Int} (h : PV L z σ τ p) {a4 a5 a6 : Option AV} (w : Go M_X12_reads Q 21 [some (vr 61), some (vi l), some (vi d), some (vi wn), a4, a5, a6] [] (mNext τ) (0, 0)) : Go M_X12_reads Q 425 [some (vr 61), some (vi l), some (vi d), some (vi wn), a4, a5, a6] [] τ (0, 0) := by
  have hI := h.1
  have hk : kd τ 61 = 13 := hI.lay.1
  have hp : fI τ 1346 61 ≤ fI τ 1345 61 := by have := h.2.2.2.2.2.2.1; rw [h.2.2.2.2.2.1, h.2.2.2.1]; omega
  refine go_X12_reads (ct := fun p => p == 21 || p == 166 || p == 370) 10 ?_
  simp only [oI, oL, oR, o1, lI, lL, lR, popN, catS, gv, stL, stL2, swt, cnd, spObj, List.getElem?_cons_zero, List.getElem?_cons_succ, List.getD_cons_zero, List.getD_cons_succ, List.set_cons_zero, List.set_cons_succ, List.nil_append, List.cons_append, Option.toList, Bool.or_false, Bool.false_or, Bool.or_true, Bool.true_or, Nat.reduceBEq, Nat.reduceAdd, Nat.reduceLT, Nat.reduceLeDiff, Int.reduceAdd, Int.reduceToNat, true_and, and_true, Fin.isValue, Fin.val_zero, Fin.val_one, Fin.val_two, Fin.reduceFinMk, eq_self, Int.reduceNeg, imp_self, Nat.reduceMul, Nat.le_refl, not_true_eq_false, not_false_eq_true, List.getElem?_nil, reduceCtorEq, true_or, or_true, Classical.not_not, implies_true, or_self, wI_0, wI_1, wI_m1, b2i_w, b2i_eq0, b2i_eq1, b2i_bool, nor_self, nx_pI, kd_pI, ln_pI, fI_pI, fL_pI, fR_pI, aI_pI, aL_pI, aR_pI, nx_pL, kd_pL, ln_pL, fI_pL, fL_pL, fR_pL, aI_pL, aL_pL, aR_pL, nx_pR, kd_pR, ln_pR, fI_pR, fL_pR, fR_pR, aI_pR, aL_pR, aR_pR, nx_qI, kd_qI, ln_qI, fI_qI, fL_qI, fR_qI, aI_qI, aL_qI, aR_qI, nx_qL, kd_qL, ln_qL, fI_qL, fL_qL, fR_qL, aI_qL, aL_qL, aR_qL, nx_qR, kd_qR, ln_qR, fI_qR, fL_qR, fR_qR, aI_qR, aL_qR, aR_qR, nx_mk, kd_mk, ln_mk, fI_mk, fL_mk, fR_mk, aI_mk, aL_mk, aR_mk, false_and, and_false, if_false, if_true, and_self, Int.reduceEq, Nat.reduceEqDiff, ite_self, MLay_pI, MLay_pL, MLay_qI, MLay_qL, ev_X12_reads, xt_X12_reads, xf_X12_reads, us_X12_fact, us_X12_isWord, us_X12_isSign, us_X12_fails, us_X12_code, us_X12_next, hk, hI, hp]
  exact w

set_option maxRecDepth 20000 in
theorem rd_186 {τ : Hp} {p d wn : Int} (h : PV L z σ τ p) {a4 a5 a6 : Option AV} (w : Go M_X12_reads Q 21 [some (vr 61), some (vi l), some (vi d), some (vi wn), a4, a5, a6] [] (mNext τ) (0, 0)) : Go M_X12_reads Q 186 [some (vr 61), some (vi l), some (vi d), some (vi wn), a4, a5, a6] [] τ (0, 0) := by
  have hI := h.1
  have hk : kd τ 61 = 13 := hI.lay.1
  have hp : fI τ 1346 61 ≤ fI τ 1345 61 := by have := h.2.2.2.2.2.2.1; rw [h.2.2.2.2.2.1, h.2.2.2.1]; omega
  refine go_X12_reads (ct := fun p => p == 21 || p == 166 || p == 370) 10 ?_
  simp only [oI, oL, oR, o1, lI, lL, lR, popN, catS, gv, stL, stL2, swt, cnd, spObj, List.getElem?_cons_zero, List.getElem?_cons_succ, List.getD_cons_zero, List.getD_cons_succ, List.set_cons_zero, List.set_cons_succ, List.nil_append, List.cons_append, Option.toList, Bool.or_false, Bool.false_or, Bool.or_true, Bool.true_or, Nat.reduceBEq, Nat.reduceAdd, Nat.reduceLT, Nat.reduceLeDiff, Int.reduceAdd, Int.reduceToNat, true_and, and_true, Fin.isValue, Fin.val_zero, Fin.val_one, Fin.val_two, Fin.reduceFinMk, eq_self, Int.reduceNeg, imp_self, Nat.reduceMul, Nat.le_refl, not_true_eq_false, not_false_eq_true, List.getElem?_nil, reduceCtorEq, true_or, or_true, Classical.not_not, implies_true, or_self, wI_0, wI_1, wI_m1, b2i_w, b2i_eq0, b2i_eq1, b2i_bool, nor_self, nx_pI, kd_pI, ln_pI, fI_pI, fL_pI, fR_pI, aI_pI, aL_pI, aR_pI, nx_pL, kd_pL, ln_pL, fI_pL, fL_pL, fR_pL, aI_pL, aL_pL, aR_pL, nx_pR, kd_pR, ln_pR, fI_pR, fL_pR, fR_pR, aI_pR, aL_pR, aR_pR, nx_qI, kd_qI, ln_qI, fI_qI, fL_qI, fR_qI, aI_qI, aL_qI, aR_qI, nx_qL, kd_qL, ln_qL, fI_qL, fL_qL, fR_qL, aI_qL, aL_qL, aR_qL, nx_qR, kd_qR, ln_qR, fI_qR, fL_qR, fR_qR, aI_qR, aL_qR, aR_qR, nx_mk, kd_mk, ln_mk, fI_mk, fL_mk, fR_mk, aI_mk, aL_mk, aR_mk, false_and, and_false, if_false, if_true, and_self, Int.reduceEq, Nat.reduceEqDiff, ite_self, MLay_pI, MLay_pL, MLay_qI, MLay_qL, ev_X12_reads, xt_X12_reads, xf_X12_reads, us_X12_fact, us_X12_isWord, us_X12_isSign, us_X12_fails, us_X12_code, us_X12_next, hk, hI, hp]
  exact w

set_option maxRecDepth 20000 in
theorem rd_166 {τ : Hp} (hI : MI τ) {wn : Int} {a4 a5 a6 : Option AV} : ∀ d : Nat, d ≤ 5 → Go M_X12_reads Q 186 [some (vr 61), some (vi l), some (vi (bs τ d : Nat)), some (vi wn), a4, a5, a6] [] τ (0, 0) → Go M_X12_reads Q 166 [some (vr 61), some (vi l), some (vi d), some (vi wn), a4, a5, a6] [] τ (0, 0) := by
  have hk : kd τ 61 = 13 := hI.lay.1
  intro d
  induction d with
  | zero =>
    intro hd w
    refine go_X12_reads (ct := fun p => p == 166 || p == 186) 20 ?_
    simp only [oI, oL, oR, o1, lI, lL, lR, popN, catS, gv, stL, stL2, swt, cnd, spObj, List.getElem?_cons_zero, List.getElem?_cons_succ, List.getD_cons_zero, List.getD_cons_succ, List.set_cons_zero, List.set_cons_succ, List.nil_append, List.cons_append, Option.toList, Bool.or_false, Bool.false_or, Bool.or_true, Bool.true_or, Nat.reduceBEq, Nat.reduceAdd, Nat.reduceLT, Nat.reduceLeDiff, Int.reduceAdd, Int.reduceToNat, true_and, and_true, Fin.isValue, Fin.val_zero, Fin.val_one, Fin.val_two, Fin.reduceFinMk, eq_self, Int.reduceNeg, imp_self, Nat.reduceMul, Nat.le_refl, not_true_eq_false, not_false_eq_true, List.getElem?_nil, reduceCtorEq, true_or, or_true, Classical.not_not, implies_true, or_self, wI_0, wI_1, wI_m1, b2i_w, b2i_eq0, b2i_eq1, b2i_bool, nor_self, nx_pI, kd_pI, ln_pI, fI_pI, fL_pI, fR_pI, aI_pI, aL_pI, aR_pI, nx_pL, kd_pL, ln_pL, fI_pL, fL_pL, fR_pL, aI_pL, aL_pL, aR_pL, nx_pR, kd_pR, ln_pR, fI_pR, fL_pR, fR_pR, aI_pR, aL_pR, aR_pR, nx_qI, kd_qI, ln_qI, fI_qI, fL_qI, fR_qI, aI_qI, aL_qI, aR_qI, nx_qL, kd_qL, ln_qL, fI_qL, fL_qL, fR_qL, aI_qL, aL_qL, aR_qL, nx_qR, kd_qR, ln_qR, fI_qR, fL_qR, fR_qR, aI_qR, aL_qR, aR_qR, nx_mk, kd_mk, ln_mk, fI_mk, fL_mk, fR_mk, aI_mk, aL_mk, aR_mk, false_and, and_false, if_false, if_true, and_self, Int.reduceEq, Nat.reduceEqDiff, ite_self, MLay_pI, MLay_pL, MLay_qI, MLay_qL, ev_X12_reads, xt_X12_reads, xf_X12_reads, us_X12_fact, us_X12_isWord, us_X12_isSign, us_X12_fails, us_X12_code, us_X12_next, hk, hI.lay.eqs]
    try simp (disch := omega) only [wI_id, dv_nn, rm_nn]
    repeat' (first | intro z | apply And.intro)
    all_goals try omega
    all_goals exact w
  | succ d ih =>
    intro hd w
    have h1 := hI.opened_ (d + 1)
    unfold bs at w
    by_cases e : aI τ 98 ((d : Int) + 1) = 1
    · rw [if_pos e] at w
      have ih := ih (by omega) w
      refine go_X12_reads (ct := fun p => p == 166 || p == 186) 20 ?_
      simp only [oI, oL, oR, o1, lI, lL, lR, popN, catS, gv, stL, stL2, swt, cnd, spObj, List.getElem?_cons_zero, List.getElem?_cons_succ, List.getD_cons_zero, List.getD_cons_succ, List.set_cons_zero, List.set_cons_succ, List.nil_append, List.cons_append, Option.toList, Bool.or_false, Bool.false_or, Bool.or_true, Bool.true_or, Nat.reduceBEq, Nat.reduceAdd, Nat.reduceLT, Nat.reduceLeDiff, Int.reduceAdd, Int.reduceToNat, true_and, and_true, Fin.isValue, Fin.val_zero, Fin.val_one, Fin.val_two, Fin.reduceFinMk, eq_self, Int.reduceNeg, imp_self, Nat.reduceMul, Nat.le_refl, not_true_eq_false, not_false_eq_true, List.getElem?_nil, reduceCtorEq, true_or, or_true, Classical.not_not, implies_true, or_self, wI_0, wI_1, wI_m1, b2i_w, b2i_eq0, b2i_eq1, b2i_bool, nor_self, nx_pI, kd_pI, ln_pI, fI_pI, fL_pI, fR_pI, aI_pI, aL_pI, aR_pI, nx_pL, kd_pL, ln_pL, fI_pL, fL_pL, fR_pL, aI_pL, aL_pL, aR_pL, nx_pR, kd_pR, ln_pR, fI_pR, fL_pR, fR_pR, aI_pR, aL_pR, aR_pR, nx_qI, kd_qI, ln_qI, fI_qI, fL_qI, fR_qI, aI_qI, aL_qI, aR_qI, nx_qL, kd_qL, ln_qL, fI_qL, fL_qL, fR_qL, aI_qL, aL_qL, aR_qL, nx_qR, kd_qR, ln_qR, fI_qR, fL_qR, fR_qR, aI_qR, aL_qR, aR_qR, nx_mk, kd_mk, ln_mk, fI_mk, fL_mk, fR_mk, aI_mk, aL_mk, aR_mk, false_and, and_false, if_false, if_true, and_self, Int.reduceEq, Nat.reduceEqDiff, ite_self, MLay_pI, MLay_pL, MLay_qI, MLay_qL, ev_X12_reads, xt_X12_reads, xf_X12_reads, us_X12_fact, us_X12_isWord, us_X12_isSign, us_X12_fails, us_X12_code, us_X12_next, hk, hI.lay.eqs, Int.natCast_add, Int.cast_ofNat_Int]
      try simp (disch := omega) only [wI_id, dv_nn, rm_nn]
      repeat' (first | intro z | apply And.intro)
      all_goals try omega
      all_goals grind
    · rw [if_neg e] at w
      simp only [Int.natCast_add, Int.cast_ofNat_Int] at w
      refine go_X12_reads (ct := fun p => p == 166 || p == 186) 20 ?_
      simp only [oI, oL, oR, o1, lI, lL, lR, popN, catS, gv, stL, stL2, swt, cnd, spObj, List.getElem?_cons_zero, List.getElem?_cons_succ, List.getD_cons_zero, List.getD_cons_succ, List.set_cons_zero, List.set_cons_succ, List.nil_append, List.cons_append, Option.toList, Bool.or_false, Bool.false_or, Bool.or_true, Bool.true_or, Nat.reduceBEq, Nat.reduceAdd, Nat.reduceLT, Nat.reduceLeDiff, Int.reduceAdd, Int.reduceToNat, true_and, and_true, Fin.isValue, Fin.val_zero, Fin.val_one, Fin.val_two, Fin.reduceFinMk, eq_self, Int.reduceNeg, imp_self, Nat.reduceMul, Nat.le_refl, not_true_eq_false, not_false_eq_true, List.getElem?_nil, reduceCtorEq, true_or, or_true, Classical.not_not, implies_true, or_self, wI_0, wI_1, wI_m1, b2i_w, b2i_eq0, b2i_eq1, b2i_bool, nor_self, nx_pI, kd_pI, ln_pI, fI_pI, fL_pI, fR_pI, aI_pI, aL_pI, aR_pI, nx_pL, kd_pL, ln_pL, fI_pL, fL_pL, fR_pL, aI_pL, aL_pL, aR_pL, nx_pR, kd_pR, ln_pR, fI_pR, fL_pR, fR_pR, aI_pR, aL_pR, aR_pR, nx_qI, kd_qI, ln_qI, fI_qI, fL_qI, fR_qI, aI_qI, aL_qI, aR_qI, nx_qL, kd_qL, ln_qL, fI_qL, fL_qL, fR_qL, aI_qL, aL_qL, aR_qL, nx_qR, kd_qR, ln_qR, fI_qR, fL_qR, fR_qR, aI_qR, aL_qR, aR_qR, nx_mk, kd_mk, ln_mk, fI_mk, fL_mk, fR_mk, aI_mk, aL_mk, aR_mk, false_and, and_false, if_false, if_true, and_self, Int.reduceEq, Nat.reduceEqDiff, ite_self, MLay_pI, MLay_pL, MLay_qI, MLay_qL, ev_X12_reads, xt_X12_reads, xf_X12_reads, us_X12_fact, us_X12_isWord, us_X12_isSign, us_X12_fails, us_X12_code, us_X12_next, hk, hI.lay.eqs, Int.natCast_add, Int.cast_ofNat_Int]
      try simp (disch := omega) only [wI_id, dv_nn, rm_nn]
      repeat' (first | intro z | apply And.intro)
      all_goals try omega
      all_goals exact w

set_option maxRecDepth 20000 in
theorem rd_370 {τ : Hp} (hI : MI τ) {wn : Int} {a4 a5 a6 : Option AV} : ∀ d : Nat, d ≤ 5 → Go M_X12_reads Q 425 [some (vr 61), some (vi l), some (vi (bs τ d : Nat)), some (vi wn), a4, a5, a6] [] τ (0, 0) → Go M_X12_reads Q 370 [some (vr 61), some (vi l), some (vi d), some (vi wn), a4, a5, a6] [] τ (0, 0) := by
  have hk : kd τ 61 = 13 := hI.lay.1
  intro d
  induction d with
  | zero =>
    intro hd w
    refine go_X12_reads (ct := fun p => p == 370 || p == 425) 20 ?_
    simp only [oI, oL, oR, o1, lI, lL, lR, popN, catS, gv, stL, stL2, swt, cnd, spObj, List.getElem?_cons_zero, List.getElem?_cons_succ, List.getD_cons_zero, List.getD_cons_succ, List.set_cons_zero, List.set_cons_succ, List.nil_append, List.cons_append, Option.toList, Bool.or_false, Bool.false_or, Bool.or_true, Bool.true_or, Nat.reduceBEq, Nat.reduceAdd, Nat.reduceLT, Nat.reduceLeDiff, Int.reduceAdd, Int.reduceToNat, true_and, and_true, Fin.isValue, Fin.val_zero, Fin.val_one, Fin.val_two, Fin.reduceFinMk, eq_self, Int.reduceNeg, imp_self, Nat.reduceMul, Nat.le_refl, not_true_eq_false, not_false_eq_true, List.getElem?_nil, reduceCtorEq, true_or, or_true, Classical.not_not, implies_true, or_self, wI_0, wI_1, wI_m1, b2i_w, b2i_eq0, b2i_eq1, b2i_bool, nor_self, nx_pI, kd_pI, ln_pI, fI_pI, fL_pI, fR_pI, aI_pI, aL_pI, aR_pI, nx_pL, kd_pL, ln_pL, fI_pL, fL_pL, fR_pL, aI_pL, aL_pL, aR_pL, nx_pR, kd_pR, ln_pR, fI_pR, fL_pR, fR_pR, aI_pR, aL_pR, aR_pR, nx_qI, kd_qI, ln_qI, fI_qI, fL_qI, fR_qI, aI_qI, aL_qI, aR_qI, nx_qL, kd_qL, ln_qL, fI_qL, fL_qL, fR_qL, aI_qL, aL_qL, aR_qL, nx_qR, kd_qR, ln_qR, fI_qR, fL_qR, fR_qR, aI_qR, aL_qR, aR_qR, nx_mk, kd_mk, ln_mk, fI_mk, fL_mk, fR_mk, aI_mk, aL_mk, aR_mk, false_and, and_false, if_false, if_true, and_self, Int.reduceEq, Nat.reduceEqDiff, ite_self, MLay_pI, MLay_pL, MLay_qI, MLay_qL, ev_X12_reads, xt_X12_reads, xf_X12_reads, us_X12_fact, us_X12_isWord, us_X12_isSign, us_X12_fails, us_X12_code, us_X12_next, hk, hI.lay.eqs]
    try simp (disch := omega) only [wI_id, dv_nn, rm_nn]
    repeat' (first | intro z | apply And.intro)
    all_goals try omega
    all_goals exact w
  | succ d ih =>
    intro hd w
    have h1 := hI.opened_ (d + 1)
    unfold bs at w
    by_cases e : aI τ 98 ((d : Int) + 1) = 1
    · rw [if_pos e] at w
      have ih := ih (by omega) w
      refine go_X12_reads (ct := fun p => p == 370 || p == 425) 20 ?_
      simp only [oI, oL, oR, o1, lI, lL, lR, popN, catS, gv, stL, stL2, swt, cnd, spObj, List.getElem?_cons_zero, List.getElem?_cons_succ, List.getD_cons_zero, List.getD_cons_succ, List.set_cons_zero, List.set_cons_succ, List.nil_append, List.cons_append, Option.toList, Bool.or_false, Bool.false_or, Bool.or_true, Bool.true_or, Nat.reduceBEq, Nat.reduceAdd, Nat.reduceLT, Nat.reduceLeDiff, Int.reduceAdd, Int.reduceToNat, true_and, and_true, Fin.isValue, Fin.val_zero, Fin.val_one, Fin.val_two, Fin.reduceFinMk, eq_self, Int.reduceNeg, imp_self, Nat.reduceMul, Nat.le_refl, not_true_eq_false, not_false_eq_true, List.getElem?_nil, reduceCtorEq, true_or, or_true, Classical.not_not, implies_true, or_self, wI_0, wI_1, wI_m1, b2i_w, b2i_eq0, b2i_eq1, b2i_bool, nor_self, nx_pI, kd_pI, ln_pI, fI_pI, fL_pI, fR_pI, aI_pI, aL_pI, aR_pI, nx_pL, kd_pL, ln_pL, fI_pL, fL_pL, fR_pL, aI_pL, aL_pL, aR_pL, nx_pR, kd_pR, ln_pR, fI_pR, fL_pR, fR_pR, aI_pR, aL_pR, aR_pR, nx_qI, kd_qI, ln_qI, fI_qI, fL_qI, fR_qI, aI_qI, aL_qI, aR_qI, nx_qL, kd_qL, ln_qL, fI_qL, fL_qL, fR_qL, aI_qL, aL_qL, aR_qL, nx_qR, kd_qR, ln_qR, fI_qR, fL_qR, fR_qR, aI_qR, aL_qR, aR_qR, nx_mk, kd_mk, ln_mk, fI_mk, fL_mk, fR_mk, aI_mk, aL_mk, aR_mk, false_and, and_false, if_false, if_true, and_self, Int.reduceEq, Nat.reduceEqDiff, ite_self, MLay_pI, MLay_pL, MLay_qI, MLay_qL, ev_X12_reads, xt_X12_reads, xf_X12_reads, us_X12_fact, us_X12_isWord, us_X12_isSign, us_X12_fails, us_X12_code, us_X12_next, hk, hI.lay.eqs, Int.natCast_add, Int.cast_ofNat_Int]
      try simp (disch := omega) only [wI_id, dv_nn, rm_nn]
      repeat' (first | intro z | apply And.intro)
      all_goals try omega
      all_goals grind
    · rw [if_neg e] at w
      simp only [Int.natCast_add, Int.cast_ofNat_Int] at w
      refine go_X12_reads (ct := fun p => p == 370 || p == 425) 20 ?_
      simp only [oI, oL, oR, o1, lI, lL, lR, popN, catS, gv, stL, stL2, swt, cnd, spObj, List.getElem?_cons_zero, List.getElem?_cons_succ, List.getD_cons_zero, List.getD_cons_succ, List.set_cons_zero, List.set_cons_succ, List.nil_append, List.cons_append, Option.toList, Bool.or_false, Bool.false_or, Bool.or_true, Bool.true_or, Nat.reduceBEq, Nat.reduceAdd, Nat.reduceLT, Nat.reduceLeDiff, Int.reduceAdd, Int.reduceToNat, true_and, and_true, Fin.isValue, Fin.val_zero, Fin.val_one, Fin.val_two, Fin.reduceFinMk, eq_self, Int.reduceNeg, imp_self, Nat.reduceMul, Nat.le_refl, not_true_eq_false, not_false_eq_true, List.getElem?_nil, reduceCtorEq, true_or, or_true, Classical.not_not, implies_true, or_self, wI_0, wI_1, wI_m1, b2i_w, b2i_eq0, b2i_eq1, b2i_bool, nor_self, nx_pI, kd_pI, ln_pI, fI_pI, fL_pI, fR_pI, aI_pI, aL_pI, aR_pI, nx_pL, kd_pL, ln_pL, fI_pL, fL_pL, fR_pL, aI_pL, aL_pL, aR_pL, nx_pR, kd_pR, ln_pR, fI_pR, fL_pR, fR_pR, aI_pR, aL_pR, aR_pR, nx_qI, kd_qI, ln_qI, fI_qI, fL_qI, fR_qI, aI_qI, aL_qI, aR_qI, nx_qL, kd_qL, ln_qL, fI_qL, fL_qL, fR_qL, aI_qL, aL_qL, aR_qL, nx_qR, kd_qR, ln_qR, fI_qR, fL_qR, fR_qR, aI_qR, aL_qR, aR_qR, nx_mk, kd_mk, ln_mk, fI_mk, fL_mk, fR_mk, aI_mk, aL_mk, aR_mk, false_and, and_false, if_false, if_true, and_self, Int.reduceEq, Nat.reduceEqDiff, ite_self, MLay_pI, MLay_pL, MLay_qI, MLay_qL, ev_X12_reads, xt_X12_reads, xf_X12_reads, us_X12_fact, us_X12_isWord, us_X12_isSign, us_X12_fails, us_X12_code, us_X12_next, hk, hI.lay.eqs, Int.natCast_add, Int.cast_ofNat_Int]
      try simp (disch := omega) only [wI_id, dv_nn, rm_nn]
      repeat' (first | intro z | apply And.intro)
      all_goals try omega
      all_goals exact w

set_option maxRecDepth 20000 in
theorem rd_f1 {τ : Hp} {p d : Int} (h : IV L z σ τ p) (c : fc L z p = 0 ∧ ¬ isW L z p 10631 ∧ ¬ isS L z p 40 ∧ ¬ tK L z p = 2) (w : Q (some (vi 0)) (pI τ 1351 61 (1 + 16 * kB L z p))) (a4 a5 a6 : Option AV) : Go M_X12_reads Q 21 [some (vr 61), some (vi l), some (vi d), some (vi 1), a4, a5, a6] [] τ (0, 0) := by
  obtain ⟨hI, h2, h3, h4, h5, ⟨t1, t2, t3, t4, t5⟩, h7, h8⟩ := h
  have hk : kd τ 61 = 13 := hI.lay.1
  have ht := tok_in L h7.2
  have tk1 := tKb_in L z (kB L z p)
  have hb3 : (tK L z p = 3 → kB L z p < 1000) = True := eq_true fun q => by have := ht.2.2.2.2 (by omega); omega
  have e1 : BitVec.ofInt 64 10631 = 10631#64 := by decide
  have ef : (if tK L z p = 1 then fctW (tW L z p) else 0) = fc L z p := rfl
  have tw : 0 ≤ tK L z p ∧ tK L z p ≤ 4 := tk1
  have n1 : (tK L z p = 1 ∧ tW L z p = 10631#64) = False := eq_false c.2.1
  have n2 : (tK L z p = 3 ∧ L (kB L z p) = 40) = False := eq_false c.2.2.1
  have n3 : (tK L z p = 2) = False := eq_false c.2.2.2
  have hw2 : wI 2 = 2 := by decide
  have hwk : wI (tK L z p) = tK L z p := wI_id (by omega) (by omega)
  refine go_X12_reads (ct := fun p => p == 193 || p == 77) 60 ?_
  simp only [oI, oL, oR, o1, lI, lL, lR, popN, catS, gv, stL, stL2, swt, cnd, spObj, List.getElem?_cons_zero, List.getElem?_cons_succ, List.getD_cons_zero, List.getD_cons_succ, List.set_cons_zero, List.set_cons_succ, List.nil_append, List.cons_append, Option.toList, Bool.or_false, Bool.false_or, Bool.or_true, Bool.true_or, Nat.reduceBEq, Nat.reduceAdd, Nat.reduceLT, Nat.reduceLeDiff, Int.reduceAdd, Int.reduceToNat, true_and, and_true, Fin.isValue, Fin.val_zero, Fin.val_one, Fin.val_two, Fin.reduceFinMk, eq_self, Int.reduceNeg, imp_self, Nat.reduceMul, Nat.le_refl, not_true_eq_false, not_false_eq_true, List.getElem?_nil, reduceCtorEq, true_or, or_true, Classical.not_not, implies_true, or_self, wI_0, wI_1, wI_m1, b2i_w, b2i_eq0, b2i_eq1, b2i_bool, nor_self, nx_pI, kd_pI, ln_pI, fI_pI, fL_pI, fR_pI, aI_pI, aL_pI, aR_pI, nx_pL, kd_pL, ln_pL, fI_pL, fL_pL, fR_pL, aI_pL, aL_pL, aR_pL, nx_pR, kd_pR, ln_pR, fI_pR, fL_pR, fR_pR, aI_pR, aL_pR, aR_pR, nx_qI, kd_qI, ln_qI, fI_qI, fL_qI, fR_qI, aI_qI, aL_qI, aR_qI, nx_qL, kd_qL, ln_qL, fI_qL, fL_qL, fR_qL, aI_qL, aL_qL, aR_qL, nx_qR, kd_qR, ln_qR, fI_qR, fL_qR, fR_qR, aI_qR, aL_qR, aR_qR, nx_mk, kd_mk, ln_mk, fI_mk, fL_mk, fR_mk, aI_mk, aL_mk, aR_mk, false_and, and_false, if_false, if_true, and_self, Int.reduceEq, Nat.reduceEqDiff, ite_self, MLay_pI, MLay_pL, MLay_qI, MLay_qL, ev_X12_reads, xt_X12_reads, xf_X12_reads, us_X12_fact, us_X12_isWord, us_X12_isSign, us_X12_fails, us_X12_code, us_X12_next, hk, hI, h3, t1, t3, t5, hb3, e1, ef, c.1, n1, n2, n3, b2i_F, hw2, hwk, show (0 : Int) ≤ 40 from by decide, show (40 : Int) ≤ 255 from by decide, not_false_eq_true, false_imp_iff, true_imp_iff]
  exact w

set_option maxRecDepth 20000 in
theorem rd_f5 {τ : Hp} {p : Int} (h : IV L z σ τ p) (c : ¬ (fc L z p = 0 ∧ ¬ isW L z p 10631 ∧ ¬ isS L z p 40 ∧ ¬ tK L z p = 2)) (w : Q (some (vi 0)) (pI τ 1351 61 (5 + 16 * kB L z p))) (a4 a5 a6 : Option AV) : Go M_X12_reads Q 21 [some (vr 61), some (vi l), some (vi 5), some (vi 1), a4, a5, a6] [] τ (0, 0) := by
  obtain ⟨hI, h2, h3, h4, h5, ⟨t1, t2, t3, t4, t5⟩, h7, h8⟩ := h
  have hk : kd τ 61 = 13 := hI.lay.1
  have ht := tok_in L h7.2
  have tw : 0 ≤ tK L z p ∧ tK L z p ≤ 4 := tKb_in L z (kB L z p)
  have hb3 : (tK L z p = 3 → kB L z p < 1000) = True := eq_true fun q => by have := ht.2.2.2.2 (by omega); omega
  have e1 : BitVec.ofInt 64 10631 = 10631#64 := by decide
  have ef : (if tK L z p = 1 then fctW (tW L z p) else 0) = fc L z p := rfl
  have hf := fc_in L z p
  have hw2 : wI 2 = 2 := by decide
  have hw5 : wI 5 = 5 := by decide
  have hwk : wI (tK L z p) = tK L z p := wI_id (by omega) (by omega)
  have hwf : wI (fc L z p) = fc L z p := wI_id (by omega) (by omega)
  have x1 : (0 : Int) ≤ 40 := by decide
  have x2 : (40 : Int) ≤ 255 := by decide
  by_cases hO : tK L z p = 3 ∧ L (kB L z p) = 40
  · have hO := eq_true hO
    by_cases hN : tK L z p = 1 ∧ tW L z p = 10631#64
    · have hN := eq_true hN
      refine go_X12_reads (ct := fun p => p == 193 || p == 88) 60 ?_
      simp only [oI, oL, oR, o1, lI, lL, lR, popN, catS, gv, stL, stL2, swt, cnd, spObj, List.getElem?_cons_zero, List.getElem?_cons_succ, List.getD_cons_zero, List.getD_cons_succ, List.set_cons_zero, List.set_cons_succ, List.nil_append, List.cons_append, Option.toList, Bool.or_false, Bool.false_or, Bool.or_true, Bool.true_or, Nat.reduceBEq, Nat.reduceAdd, Nat.reduceLT, Nat.reduceLeDiff, Int.reduceAdd, Int.reduceToNat, true_and, and_true, Fin.isValue, Fin.val_zero, Fin.val_one, Fin.val_two, Fin.reduceFinMk, eq_self, Int.reduceNeg, imp_self, Nat.reduceMul, Nat.le_refl, not_true_eq_false, not_false_eq_true, List.getElem?_nil, reduceCtorEq, true_or, or_true, Classical.not_not, implies_true, or_self, wI_0, wI_1, wI_m1, b2i_w, b2i_eq0, b2i_eq1, b2i_bool, nor_self, nx_pI, kd_pI, ln_pI, fI_pI, fL_pI, fR_pI, aI_pI, aL_pI, aR_pI, nx_pL, kd_pL, ln_pL, fI_pL, fL_pL, fR_pL, aI_pL, aL_pL, aR_pL, nx_pR, kd_pR, ln_pR, fI_pR, fL_pR, fR_pR, aI_pR, aL_pR, aR_pR, nx_qI, kd_qI, ln_qI, fI_qI, fL_qI, fR_qI, aI_qI, aL_qI, aR_qI, nx_qL, kd_qL, ln_qL, fI_qL, fL_qL, fR_qL, aI_qL, aL_qL, aR_qL, nx_qR, kd_qR, ln_qR, fI_qR, fL_qR, fR_qR, aI_qR, aL_qR, aR_qR, nx_mk, kd_mk, ln_mk, fI_mk, fL_mk, fR_mk, aI_mk, aL_mk, aR_mk, false_and, and_false, if_false, if_true, and_self, Int.reduceEq, Nat.reduceEqDiff, ite_self, MLay_pI, MLay_pL, MLay_qI, MLay_qL, ev_X12_reads, xt_X12_reads, xf_X12_reads, us_X12_fact, us_X12_isWord, us_X12_isSign, us_X12_fails, us_X12_code, us_X12_next, hk, hI, h3, t1, t3, t5, hb3, e1, ef, hO, hN, b2i_T, hw2, hw5, hwk, hwf, x1, x2, not_false_eq_true, false_imp_iff, true_imp_iff]
      first | exact w | exact ⟨fun _ => w, fun _ => w⟩
    · have hN := eq_false hN
      refine go_X12_reads (ct := fun p => p == 193 || p == 88) 60 ?_
      simp only [oI, oL, oR, o1, lI, lL, lR, popN, catS, gv, stL, stL2, swt, cnd, spObj, List.getElem?_cons_zero, List.getElem?_cons_succ, List.getD_cons_zero, List.getD_cons_succ, List.set_cons_zero, List.set_cons_succ, List.nil_append, List.cons_append, Option.toList, Bool.or_false, Bool.false_or, Bool.or_true, Bool.true_or, Nat.reduceBEq, Nat.reduceAdd, Nat.reduceLT, Nat.reduceLeDiff, Int.reduceAdd, Int.reduceToNat, true_and, and_true, Fin.isValue, Fin.val_zero, Fin.val_one, Fin.val_two, Fin.reduceFinMk, eq_self, Int.reduceNeg, imp_self, Nat.reduceMul, Nat.le_refl, not_true_eq_false, not_false_eq_true, List.getElem?_nil, reduceCtorEq, true_or, or_true, Classical.not_not, implies_true, or_self, wI_0, wI_1, wI_m1, b2i_w, b2i_eq0, b2i_eq1, b2i_bool, nor_self, nx_pI, kd_pI, ln_pI, fI_pI, fL_pI, fR_pI, aI_pI, aL_pI, aR_pI, nx_pL, kd_pL, ln_pL, fI_pL, fL_pL, fR_pL, aI_pL, aL_pL, aR_pL, nx_pR, kd_pR, ln_pR, fI_pR, fL_pR, fR_pR, aI_pR, aL_pR, aR_pR, nx_qI, kd_qI, ln_qI, fI_qI, fL_qI, fR_qI, aI_qI, aL_qI, aR_qI, nx_qL, kd_qL, ln_qL, fI_qL, fL_qL, fR_qL, aI_qL, aL_qL, aR_qL, nx_qR, kd_qR, ln_qR, fI_qR, fL_qR, fR_qR, aI_qR, aL_qR, aR_qR, nx_mk, kd_mk, ln_mk, fI_mk, fL_mk, fR_mk, aI_mk, aL_mk, aR_mk, false_and, and_false, if_false, if_true, and_self, Int.reduceEq, Nat.reduceEqDiff, ite_self, MLay_pI, MLay_pL, MLay_qI, MLay_qL, ev_X12_reads, xt_X12_reads, xf_X12_reads, us_X12_fact, us_X12_isWord, us_X12_isSign, us_X12_fails, us_X12_code, us_X12_next, hk, hI, h3, t1, t3, t5, hb3, e1, ef, hO, hN, b2i_T, b2i_F, hw2, hw5, hwk, hwf, x1, x2, not_false_eq_true, false_imp_iff, true_imp_iff]
      first | exact w | exact ⟨fun _ => w, fun _ => w⟩
  · have hOf := eq_false hO
    by_cases hN : tK L z p = 1 ∧ tW L z p = 10631#64
    · have hN := eq_true hN
      refine go_X12_reads (ct := fun p => p == 193 || p == 88) 60 ?_
      simp only [oI, oL, oR, o1, lI, lL, lR, popN, catS, gv, stL, stL2, swt, cnd, spObj, List.getElem?_cons_zero, List.getElem?_cons_succ, List.getD_cons_zero, List.getD_cons_succ, List.set_cons_zero, List.set_cons_succ, List.nil_append, List.cons_append, Option.toList, Bool.or_false, Bool.false_or, Bool.or_true, Bool.true_or, Nat.reduceBEq, Nat.reduceAdd, Nat.reduceLT, Nat.reduceLeDiff, Int.reduceAdd, Int.reduceToNat, true_and, and_true, Fin.isValue, Fin.val_zero, Fin.val_one, Fin.val_two, Fin.reduceFinMk, eq_self, Int.reduceNeg, imp_self, Nat.reduceMul, Nat.le_refl, not_true_eq_false, not_false_eq_true, List.getElem?_nil, reduceCtorEq, true_or, or_true, Classical.not_not, implies_true, or_self, wI_0, wI_1, wI_m1, b2i_w, b2i_eq0, b2i_eq1, b2i_bool, nor_self, nx_pI, kd_pI, ln_pI, fI_pI, fL_pI, fR_pI, aI_pI, aL_pI, aR_pI, nx_pL, kd_pL, ln_pL, fI_pL, fL_pL, fR_pL, aI_pL, aL_pL, aR_pL, nx_pR, kd_pR, ln_pR, fI_pR, fL_pR, fR_pR, aI_pR, aL_pR, aR_pR, nx_qI, kd_qI, ln_qI, fI_qI, fL_qI, fR_qI, aI_qI, aL_qI, aR_qI, nx_qL, kd_qL, ln_qL, fI_qL, fL_qL, fR_qL, aI_qL, aL_qL, aR_qL, nx_qR, kd_qR, ln_qR, fI_qR, fL_qR, fR_qR, aI_qR, aL_qR, aR_qR, nx_mk, kd_mk, ln_mk, fI_mk, fL_mk, fR_mk, aI_mk, aL_mk, aR_mk, false_and, and_false, if_false, if_true, and_self, Int.reduceEq, Nat.reduceEqDiff, ite_self, MLay_pI, MLay_pL, MLay_qI, MLay_qL, ev_X12_reads, xt_X12_reads, xf_X12_reads, us_X12_fact, us_X12_isWord, us_X12_isSign, us_X12_fails, us_X12_code, us_X12_next, hk, hI, h3, t1, t3, t5, hb3, e1, ef, hOf, hN, b2i_T, b2i_F, hw2, hw5, hwk, hwf, x1, x2, not_false_eq_true, false_imp_iff, true_imp_iff]
      first | exact w | exact ⟨fun _ => w, fun _ => w⟩
    · have hNf := eq_false hN
      refine go_X12_reads (ct := fun p => p == 193 || p == 88) 60 ?_
      simp only [oI, oL, oR, o1, lI, lL, lR, popN, catS, gv, stL, stL2, swt, cnd, spObj, List.getElem?_cons_zero, List.getElem?_cons_succ, List.getD_cons_zero, List.getD_cons_succ, List.set_cons_zero, List.set_cons_succ, List.nil_append, List.cons_append, Option.toList, Bool.or_false, Bool.false_or, Bool.or_true, Bool.true_or, Nat.reduceBEq, Nat.reduceAdd, Nat.reduceLT, Nat.reduceLeDiff, Int.reduceAdd, Int.reduceToNat, true_and, and_true, Fin.isValue, Fin.val_zero, Fin.val_one, Fin.val_two, Fin.reduceFinMk, eq_self, Int.reduceNeg, imp_self, Nat.reduceMul, Nat.le_refl, not_true_eq_false, not_false_eq_true, List.getElem?_nil, reduceCtorEq, true_or, or_true, Classical.not_not, implies_true, or_self, wI_0, wI_1, wI_m1, b2i_w, b2i_eq0, b2i_eq1, b2i_bool, nor_self, nx_pI, kd_pI, ln_pI, fI_pI, fL_pI, fR_pI, aI_pI, aL_pI, aR_pI, nx_pL, kd_pL, ln_pL, fI_pL, fL_pL, fR_pL, aI_pL, aL_pL, aR_pL, nx_pR, kd_pR, ln_pR, fI_pR, fL_pR, fR_pR, aI_pR, aL_pR, aR_pR, nx_qI, kd_qI, ln_qI, fI_qI, fL_qI, fR_qI, aI_qI, aL_qI, aR_qI, nx_qL, kd_qL, ln_qL, fI_qL, fL_qL, fR_qL, aI_qL, aL_qL, aR_qL, nx_qR, kd_qR, ln_qR, fI_qR, fL_qR, fR_qR, aI_qR, aL_qR, aR_qR, nx_mk, kd_mk, ln_mk, fI_mk, fL_mk, fR_mk, aI_mk, aL_mk, aR_mk, false_and, and_false, if_false, if_true, and_self, Int.reduceEq, Nat.reduceEqDiff, ite_self, MLay_pI, MLay_pL, MLay_qI, MLay_qL, ev_X12_reads, xt_X12_reads, xf_X12_reads, us_X12_fact, us_X12_isWord, us_X12_isSign, us_X12_fails, us_X12_code, us_X12_next, hk, hI, h3, t1, t3, t5, hb3, e1, ef, hOf, hNf, b2i_T, b2i_F, hw2, hw5, hwk, hwf, x1, x2, not_false_eq_true, false_imp_iff, true_imp_iff]
      refine ⟨fun _ => w, fun y => ⟨fun _ => w, fun y2 => ?_⟩⟩
      exact absurd ⟨y, hN, hO, y2⟩ c

end RD
