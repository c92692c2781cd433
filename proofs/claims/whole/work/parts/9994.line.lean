/-! the card reader: a line -/

theorem sp_rdp_no (av : List AV) (σ : Hp) (Q : Option AV → Hp → Prop) : ¬ sp_X4_readPart 0 av σ Q := fun h => by
  obtain ⟨this, dep, rfl, -, -, L, z, D, css, ss, p, m, ⟨-, hd, -⟩, -⟩ := el_X4_readPart 0 h
  omega
theorem sp_rdw_no (av : List AV) (σ : Hp) (Q : Option AV → Hp → Prop) : ¬ sp_X4_readWhole 0 av σ Q := fun h => by
  obtain ⟨this, dep, rfl, -, -, L, z, D, css, ss, p, m, ⟨-, hd, -⟩, -⟩ := el_X4_readWhole 0 h
  omega
theorem rd_all : ∀ d : Nat, HR_X4_readInner d
  | 0 => ⟨Ct.no sp_rdw_no, Ct.no sp_rdp_no⟩
  | d + 1 => by
    have hi : HR_X4_readPart (d + 1) := cr_X4_readInner (rd_all d)
    have hp : HR_X4_readSum (d + 1) := cr_X4_readPart hi
    have hs : HR_X4_readTest (d + 1) := cr_X4_readSum hp
    have ht : HR_X4_readWhole (d + 1) := cr_X4_readTest hs
    exact ⟨cr_X4_readWhole ht, hp⟩
theorem c_X4_readWhole (d : Nat) : Ct yX4_readWhole cX4_readWhole 4 (some .boolean) (5 * d + 9) 0 0 (sp_X4_readWhole d) := (rd_all d).1
/-- what reading lines may change -/
abbrev rlF : List Nat := 807 :: rfF
def dkB (D : Int) (r : Int) : Prop := D + 1 ≤ r ∧ r ≤ D + 4
def RdF (D : Int) (σ σ' : Hp) : Prop := Fz rlF (dkB D) noR σ σ' ∧ ∀ k, k ≠ D → fI σ' 807 k = fI σ 807 k
theorem RdF.tr {D : Int} {σ τ ρ : Hp} (h : RdF D σ τ) (g : RdF D τ ρ) : RdF D σ ρ := ⟨h.1.tr g.1, fun k q => (g.2 k q).trans (h.2 k q)⟩
theorem RF.rl {D : Int} {σ σ' : Hp} (h : RF D σ σ') : RdF D σ σ' := ⟨h.up (by decide) (fun r q => by unfold dkA at q; unfold dkB; omega) (fun r q => q), fun k _ => by rw [h.fI (by decide)]⟩
theorem Fz.rl {D : Int} {σ σ' : Hp} {fs : List Nat} (h : Fz fs noR noR σ σ') (hf : ∀ f ∈ fs, f ∈ rfF) : RdF D σ σ' := RF.rl (h.up hf (fun r q => absurd q id) (fun r q => q))
theorem RdF.opn (σ : Hp) (D n m : Int) : RdF D σ (cOpn σ D n m) := by
  unfold cOpn
  refine ⟨(((Fz_qI (fs := rlF) (ars := dkB D) (als := noR) _ _ _ (by unfold dkB; omega)).tr (Fz_qI _ _ _ (by unfold dkB; omega))).tr (Fz_qI _ _ _ (by unfold dkB; omega))).tr (Fz_pI _ _ _ (by decide)), fun k q => ?_⟩
  rw [fI_pI, if_neg (fun y => q y.2), fI_qI, fI_qI, fI_qI]
theorem RdF.flt {D : Int} (σ : Hp) (v : Int) : RdF D σ (pI σ 507 26 v) := (RF.flt σ v).rl
theorem dkB.k {σ : Hp} {D : Int} (hC : CLay σ) (hD : D = 33 ∨ D = 39) : ∀ r, dkB D r → kd σ r ≠ 21 := fun r q => by
  have dk := DkO.of hC hD
  have e : r = D + 1 ∨ r = D + 2 ∨ r = D + 3 ∨ r = D + 4 := by unfold dkB at q; omega
  rcases e with e | e | e | e
  · rw [e, dk.2.2.1.1]; decide
  · rw [e, dk.2.2.2.1.1]; decide
  · rw [e, dk.2.2.2.2.1.1]; decide
  · rw [e, dk.2.2.2.2.2.1.1]; decide
theorem RD.b {σ : Hp} {p : Int} (h : RD σ p) : RD σ (kB (aI σ 25) (fI σ 901 24) p) := by
  obtain ⟨hT, hp, r1, r2, r3, r4⟩ := h
  have e := kB_kB (aI σ 25) hp.2
  have h1 := kB_in (aI σ 25) hp.2
  refine ⟨hT, by omega, by rw [e]; exact r1, ?_, ?_, ?_⟩
  · rw [r2]; unfold tE; rw [e]
  · rw [r3]; unfold tK; rw [e]
  · unfold tK tT; rw [e]; exact r4
theorem RdL.fx {L : Int → Int} {z D p : Int} {css : List (List Int)} {σ : Hp} (h : RdL L z D css σ) (hR : RD σ p) : kd σ 26 = 5 ∧ CLay σ ∧ TXT σ ∧ Sgt σ ∧ LTT σ ∧ aI σ 25 = L ∧ fI σ 901 24 = z ∧ fR σ 501 26 = D ∧ DkO σ D ∧ kd σ D = 8 ∧ (0 ≤ p ∧ p ≤ z) ∧ (0 ≤ z ∧ z ≤ 1000) ∧ fI σ 503 26 = kB L z p ∧ fI σ 504 26 = tE L z p ∧ fI σ 502 26 = km (tK L z p) := by
  obtain ⟨h1, h2, h3, h4, h5, h6, h7, h8, h9⟩ := h
  have dk := DkO.of h1 h7
  obtain ⟨-, r0, r1, r2, r3, r4⟩ := hR
  rw [h4, h5] at r1 r2 r3
  rw [h5] at r0
  exact ⟨by simp only [h1.eqs], h1, h2, h2.1, h3, h4, h5, h6, dk, dk.1, r0, by rw [← h5]; exact h3.1, r1, r2, r3⟩
theorem RdL.opn {L : Int → Int} {z D : Int} {css : List (List Int)} {σ : Hp} (h : RdL L z D css σ) (hc : css.length < 24) (n m : Int) : RdL L z D (css ++ [[]]) (cOpn σ D n m) := by
  obtain ⟨h1, h2, h3, h4, h5, h6, h7, h8, h9⟩ := h
  have y := (RdF.opn σ D n m).1
  have n25 : ¬ dkB D 25 := by unfold dkB; omega
  have t := h3.fz y (by decide) n25
  have y2 : Fz [807] (dkB D) noR σ (cOpn σ D n m) := by
    unfold cOpn
    exact (((Fz_qI (fs := [807]) (ars := dkB D) (als := noR) _ _ _ (by unfold dkB; omega)).tr (Fz_qI _ _ _ (by unfold dkB; omega))).tr (Fz_qI _ _ _ (by unfold dkB; omega))).tr (Fz_pI _ _ _ (by decide))
  exact ⟨h1.fz y (by decide), h2.fz y (by decide) (dkB.k h1 h7), t.1, t.2.2.trans h4, t.2.1.trans h5, by rw [y.fR (by decide)]; exact h6, h7, (h8.opn hc n m).1, by rw [y2.fI (by decide)]; exact h9⟩
theorem RD.opn {σ : Hp} {D p : Int} (hD : D = 33 ∨ D = 39) (h : RD σ p) (n m : Int) : RD (cOpn σ D n m) p := by
  have y2 : Fz [807] (dkB D) noR σ (cOpn σ D n m) := by
    unfold cOpn
    exact (((Fz_qI (fs := [807]) (ars := dkB D) (als := noR) _ _ _ (by unfold dkB; omega)).tr (Fz_qI _ _ _ (by unfold dkB; omega))).tr (Fz_qI _ _ _ (by unfold dkB; omega))).tr (Fz_pI _ _ _ (by decide))
  exact h.fz y2 (by decide) (by unfold dkB; omega)

def sp_X4_readLine : Sp := fun av σ Q => oR av fun this av => oI av fun nl av => av = [] ∧ kd σ this = 5 ∧ (this = 26 ∧ ∃ (L : Int → Int) (z D : Int) (css : List (List Int)) (p : Int), RdL L z D css σ ∧ RD σ p ∧ nl = css.length ∧ css.length ≤ 24 ∧ (css.flatten.length : Int) ≤ p ∧ ((lnR L z css.length p).1 ≠ 0 → ∀ σ', RdF D σ σ' → fI σ' 507 26 = (lnR L z css.length p).1 → Q (some (vi 0)) σ') ∧ ((lnR L z css.length p).1 = 0 → ∀ σ', RdF D σ σ' → RdL L z D (css ++ [(lnR L z css.length p).2.2.2.2.2.2.1]) σ' → RD σ' (lnR L z css.length p).2.2.2.2.1 → (∀ j, aI σ' (D + 1) j = if j = css.length then (lnR L z css.length p).2.1 else aI σ (D + 1) j) → (∀ j, aI σ' (D + 2) j = if j = css.length then (lnR L z css.length p).2.2.1 else aI σ (D + 2) j) → Q (some (vi 1)) σ'))
theorem us_X4_readLine (this : Int) (nl : Int) (σ : Hp) (Q : Option AV → Hp → Prop) : sp_X4_readLine [vr this, vi nl] σ Q = (kd σ this = 5 ∧ (this = 26 ∧ ∃ (L : Int → Int) (z D : Int) (css : List (List Int)) (p : Int), RdL L z D css σ ∧ RD σ p ∧ nl = css.length ∧ css.length ≤ 24 ∧ (css.flatten.length : Int) ≤ p ∧ ((lnR L z css.length p).1 ≠ 0 → ∀ σ', RdF D σ σ' → fI σ' 507 26 = (lnR L z css.length p).1 → Q (some (vi 0)) σ') ∧ ((lnR L z css.length p).1 = 0 → ∀ σ', RdF D σ σ' → RdL L z D (css ++ [(lnR L z css.length p).2.2.2.2.2.2.1]) σ' → RD σ' (lnR L z css.length p).2.2.2.2.1 → (∀ j, aI σ' (D + 1) j = if j = css.length then (lnR L z css.length p).2.1 else aI σ (D + 1) j) → (∀ j, aI σ' (D + 2) j = if j = css.length then (lnR L z css.length p).2.2.1 else aI σ (D + 2) j) → Q (some (vi 1)) σ'))) := propext ⟨fun h => h.2, fun h => ⟨rfl, h⟩⟩
theorem el_X4_readLine {av : List AV} {σ : Hp} {Q : Option AV → Hp → Prop} (h : sp_X4_readLine av σ Q) : ∃ (this : Int) (nl : Int), av = [vr this, vi nl] ∧ (kd σ this = 5 ∧ (this = 26 ∧ ∃ (L : Int → Int) (z D : Int) (css : List (List Int)) (p : Int), RdL L z D css σ ∧ RD σ p ∧ nl = css.length ∧ css.length ≤ 24 ∧ (css.flatten.length : Int) ≤ p ∧ ((lnR L z css.length p).1 ≠ 0 → ∀ σ', RdF D σ σ' → fI σ' 507 26 = (lnR L z css.length p).1 → Q (some (vi 0)) σ') ∧ ((lnR L z css.length p).1 = 0 → ∀ σ', RdF D σ σ' → RdL L z D (css ++ [(lnR L z css.length p).2.2.2.2.2.2.1]) σ' → RD σ' (lnR L z css.length p).2.2.2.2.1 → (∀ j, aI σ' (D + 1) j = if j = css.length then (lnR L z css.length p).2.1 else aI σ (D + 1) j) → (∀ j, aI σ' (D + 2) j = if j = css.length then (lnR L z css.length p).2.2.1 else aI σ (D + 2) j) → Q (some (vi 1)) σ'))) := by
  obtain ⟨this, a0, rfl, h0⟩ := oR_s h
  obtain ⟨nl, a1, rfl, h1⟩ := oI_s h0
  obtain ⟨rfl, hz⟩ := h1
  exact ⟨this, nl, rfl, hz⟩
theorem rc_X4_readLine : ∀ (av : List AV) (σ : Hp) (Q : Option AV → Hp → Prop), sp_X4_readLine av σ Q → ∃ r tl, av = vr r :: tl ∧ kd σ r = 4 + 1 := fun av σ Q h => by
  obtain ⟨this, nl, rfl, hz, -⟩ := el_X4_readLine h
  exact ⟨this, _, rfl, hz⟩

def tb_X4_readLine : Tab := [(0, .aload_n 0, 1, (0, 0, 0, 0)), (1, .ldc 54, 2, (2, 0, 0, 1)), (3, .invokevirtual 56, 3, (0, 0, 0, 0)), (6, .ifCond .ne 9, 3, (0, 0, 0, 0)), (9, .aload_n 0, 1, (0, 0, 0, 0)), (10, .iconst 1, 1, (0, 0, 0, 0)), (11, .invokevirtual 60, 3, (0, 0, 0, 0)), (14, .ireturn, 1, (0, 0, 0, 0)), (15, .iload_n 1, 1, (0, 0, 0, 0)), (16, .bipush 24, 2, (0, 0, 0, 0)), (18, .if_icmp .lt 9, 3, (0, 0, 0, 0)), (21, .aload_n 0, 1, (0, 0, 0, 0)), (22, .iconst 5, 1, (0, 0, 0, 0)), (23, .invokevirtual 60, 3, (0, 0, 0, 0)), (26, .ireturn, 1, (0, 0, 0, 0)), (27, .aload_n 0, 1, (0, 0, 0, 0)), (28, .invokevirtual 47, 3, (0, 0, 0, 0)), (31, .aload_n 0, 1, (0, 0, 0, 0)), (32, .invokevirtual 63, 3, (0, 0, 0, 0)), (35, .ifCond .ne 5, 3, (0, 0, 0, 0)), (38, .iconst 0, 1, (0, 0, 0, 0)), (39, .ireturn, 1, (0, 0, 0, 0)), (40, .aload_n 0, 1, (0, 0, 0, 0)), (41, .getfield 38, 3, (5, 506, 0, 0)), (44, .istore_n 2, 1, (0, 0, 0, 0)), (45, .aload_n 0, 1, (0, 0, 0, 0)), (46, .ldc 67, 2, (2, 0, 0, 2)), (48, .invokevirtual 69, 3, (0, 0, 0, 0)), (51, .ifCond .eq 10, 3, (0, 0, 0, 0)), (54, .aload_n 0, 1, (0, 0, 0, 0)), (55, .invokevirtual 63, 3, (0, 0, 0, 0)), (58, .ifCond .ne 5, 3, (0, 0, 0, 0)), (61, .iconst 0, 1, (0, 0, 0, 0)), (62, .ireturn, 1, (0, 0, 0, 0)), (63, .aload_n 0, 1, (0, 0, 0, 0)), (64, .getfield 38, 3, (5, 506, 0, 0)), (67, .istore_n 3, 1, (0, 0, 0, 0)), (68, .aload_n 0, 1, (0, 0, 0, 0)), (69, .ldc 72, 2, (2, 0, 0, 3)), (71, .invokevirtual 69, 3, (0, 0, 0, 0)), (74, .ifCond .eq 12, 3, (0, 0, 0, 0)), (77, .aload_n 0, 1, (0, 0, 0, 0)), (78, .ldc 74, 2, (2, 0, 0, 4)), (80, .invokevirtual 69, 3, (0, 0, 0, 0)), (83, .ifCond .ne 5, 3, (0, 0, 0, 0)), (86, .iconst 0, 1, (0, 0, 0, 0)), (87, .ireturn, 1, (0, 0, 0, 0)), (88, .aload_n 0, 1, (0, 0, 0, 0)), (89, .getfield 21, 3, (5, 501, 2, 0)), (92, .iload_n 2, 1, (0, 0, 0, 0)), (93, .iload_n 3, 1, (0, 0, 0, 0)), (94, .invokevirtual 76, 3, (0, 0, 0, 0)), (97, .aload_n 0, 1, (0, 0, 0, 0)), (98, .iconst 0, 1, (0, 0, 0, 0)), (99, .invokevirtual 80, 3, (0, 0, 0, 0)), (102, .ifCond .eq 16, 3, (0, 0, 0, 0)), (105, .aload_n 0, 1, (0, 0, 0, 0)), (106, .bipush 59, 2, (0, 0, 0, 0)), (108, .invokevirtual 83, 3, (0, 0, 0, 0)), (111, .ifCond .eq 7, 3, (0, 0, 0, 0)), (114, .iconst 1, 1, (0, 0, 0, 0)), (115, .goto 4, 3, (0, 0, 0, 0)), (118, .iconst 0, 1, (0, 0, 0, 0)), (119, .ireturn, 1, (0, 0, 0, 0))]
set_option maxRecDepth 100000 in
theorem tk_X4_readLine : TOK RX4 false cX4_readLine tb_X4_readLine := chkT_ok ft_X4 (by decide +kernel)
theorem rw_X4_504 : Row RX4 (.invokevirtual 63) 3 1 0 0 7 sp_X4_takeAmount := row_V (n := 0) (ci := 4) c_X4_takeAmount ⟨TBL_in 1060 (by decide +kernel) rfl, TBL_in 1063 (by decide +kernel) rfl, TBL_in 118 (by decide +kernel) rfl, by decide +kernel, by decide⟩ (by decide) rfl (TBL_in 1062 (by decide +kernel) rfl) (TBL_in 34 (by decide +kernel) rfl) rc_X4_takeAmount
theorem rw_X4_552 : Row RX4 (.invokevirtual 69) 3 2 0 0 7 sp_X4_takeWord := row_V (n := 1) (ci := 4) c_X4_takeWord ⟨TBL_in 1065 (by decide +kernel) rfl, TBL_in 1068 (by decide +kernel) rfl, TBL_in 118 (by decide +kernel) rfl, by decide +kernel, by decide⟩ (by decide) rfl (TBL_in 1067 (by decide +kernel) rfl) (TBL_in 35 (by decide +kernel) rfl) rc_X4_takeWord
theorem rw_X4_608 : Row RX4 (.invokevirtual 76) 3 3 0 0 1 sp_X7_openLine := row_V (n := 2) (ci := 7) c_X7_openLine ⟨TBL_in 1071 (by decide +kernel) rfl, TBL_in 1074 (by decide +kernel) rfl, TBL_in 120 (by decide +kernel) rfl, by decide +kernel, by decide⟩ (by decide) rfl (TBL_in 1072 (by decide +kernel) rfl) (TBL_in 1073 (by decide +kernel) rfl) rc_X7_openLine
def mt_X4_readLine : List (Nat × Mt) := [(448, 2, 0, 0, 5, sp_X4_isWord), (480, 2, 0, 0, 1, sp_X4_refuse), (376, 1, 0, 0, 6, sp_X4_nextToken), (504, 1, 0, 0, 7, sp_X4_takeAmount), (552, 2, 0, 0, 7, sp_X4_takeWord), (608, 3, 0, 0, 1, sp_X7_openLine), (640, 2, 0, 0, 5*(6)+9, sp_X4_readWhole (6)), (664, 2, 0, 0, 7, sp_X4_takeSign)]
theorem em_X4_readLine : mt_X4_readLine.lookup 448 = some (2, 0, 0, 5, sp_X4_isWord) ∧ mt_X4_readLine.lookup 480 = some (2, 0, 0, 1, sp_X4_refuse) ∧ mt_X4_readLine.lookup 376 = some (1, 0, 0, 6, sp_X4_nextToken) ∧ mt_X4_readLine.lookup 504 = some (1, 0, 0, 7, sp_X4_takeAmount) ∧ mt_X4_readLine.lookup 552 = some (2, 0, 0, 7, sp_X4_takeWord) ∧ mt_X4_readLine.lookup 608 = some (3, 0, 0, 1, sp_X7_openLine) ∧ mt_X4_readLine.lookup 640 = some (2, 0, 0, 5*(6)+9, sp_X4_readWhole (6)) ∧ mt_X4_readLine.lookup 664 = some (2, 0, 0, 7, sp_X4_takeSign) := ⟨rfl, rfl, rfl, rfl, rfl, rfl, rfl, rfl⟩
theorem mk_X4_readLine : MOK RX4 mt_X4_readLine := by
  intro q hq
  simp only [mt_X4_readLine, List.mem_cons, List.not_mem_nil, or_false] at hq
  rcases hq with rfl | rfl | rfl | rfl | rfl | rfl | rfl | rfl
  · exact rw_X4_448
  · exact rw_X4_480
  · exact rw_X4_376
  · exact rw_X4_504
  · exact rw_X4_552
  · exact rw_X4_608
  · exact rr_X4_640 (c_X4_readWhole (6))
  · exact rw_X4_664
noncomputable def xe_X4_readLine (ct : Nat → Bool) (K : Kt) (R : Option AV → Hp → Prop) (n : Nat) : Kt := exS 4 40 0 0 2 tb_X4_readLine mt_X4_readLine ct K R n
noncomputable def xk_X4_readLine (ct : Nat → Bool) (K : Kt) (R : Option AV → Hp → Prop) (n : Nat) : Kt := exkS 4 40 0 0 2 tb_X4_readLine mt_X4_readLine ct K R n
theorem xt_X4_readLine {ct : Nat → Bool} {K : Kt} {R : Option AV → Hp → Prop} {n pc : Nat} {ls : List (Option AV)} {st : List AV} {σ : Hp} {k : Nat × Nat} (h : ct pc = true) : xk_X4_readLine ct K R n pc ls st σ k = K pc ls st σ k := by unfold xk_X4_readLine exkS; rw [h]
theorem xf_X4_readLine {ct : Nat → Bool} {K : Kt} {R : Option AV → Hp → Prop} {n pc : Nat} {ls : List (Option AV)} {st : List AV} {σ : Hp} {k : Nat × Nat} (h : ct pc = false) : xk_X4_readLine ct K R n pc ls st σ k = xe_X4_readLine ct K R n pc ls st σ k := by unfold xk_X4_readLine exkS xe_X4_readLine; rw [h]
theorem ev_X4_readLine_0 {ct : Nat → Bool} {K : Kt} {R : Option AV → Hp → Prop} {n : Nat} {ls : List (Option AV)} {st : List AV} {σ : Hp} {k : Nat × Nat} : xe_X4_readLine ct K R (n + 1) 0 ls st σ k = (lR ls 0 fun x => xk_X4_readLine ct K R n 1 ls (vr x :: st) σ k) := exS_step.trans rfl
theorem ev_X4_readLine_1 {ct : Nat → Bool} {K : Kt} {R : Option AV → Hp → Prop} {n : Nat} {ls : List (Option AV)} {st : List AV} {σ : Hp} {k : Nat × Nat} : xe_X4_readLine ct K R (n + 1) 1 ls st σ k = (xk_X4_readLine ct K R n 3 ls (vr (-(1)) :: st) σ k) := exS_step.trans rfl
theorem ev_X4_readLine_3 {ct : Nat → Bool} {K : Kt} {R : Option AV → Hp → Prop} {n : Nat} {ls : List (Option AV)} {st : List AV} {σ : Hp} {k : Nat × Nat} : xe_X4_readLine ct K R (n + 1) 3 ls st σ k = (popN 2 st [] fun av rest => (catS rest ≤ 8 ∧ 5 < 40 ∧ k.1 + 0 ≤ 0 ∧ k.2 + 0 ≤ 0) ∧ (sp_X4_isWord) av σ fun v σ' => xk_X4_readLine ct K R n 6 ls (v.toList ++ rest) σ' (k.1 + 0, k.2 + 0)) := exS_step.trans rfl
theorem ev_X4_readLine_6 {ct : Nat → Bool} {K : Kt} {R : Option AV → Hp → Prop} {n : Nat} {ls : List (Option AV)} {st : List AV} {σ : Hp} {k : Nat × Nat} : xe_X4_readLine ct K R (n + 1) 6 ls st σ k = (oI st fun x st => (¬ wI x = wI 0 → xk_X4_readLine ct K R n 15 ls st σ k) ∧ (¬ (¬ wI x = wI 0) → xk_X4_readLine ct K R n 9 ls st σ k)) := exS_step.trans rfl
theorem ev_X4_readLine_9 {ct : Nat → Bool} {K : Kt} {R : Option AV → Hp → Prop} {n : Nat} {ls : List (Option AV)} {st : List AV} {σ : Hp} {k : Nat × Nat} : xe_X4_readLine ct K R (n + 1) 9 ls st σ k = (lR ls 0 fun x => xk_X4_readLine ct K R n 10 ls (vr x :: st) σ k) := exS_step.trans rfl
theorem ev_X4_readLine_10 {ct : Nat → Bool} {K : Kt} {R : Option AV → Hp → Prop} {n : Nat} {ls : List (Option AV)} {st : List AV} {σ : Hp} {k : Nat × Nat} : xe_X4_readLine ct K R (n + 1) 10 ls st σ k = (xk_X4_readLine ct K R n 11 ls (vi (1) :: st) σ k) := exS_step.trans rfl
theorem ev_X4_readLine_11 {ct : Nat → Bool} {K : Kt} {R : Option AV → Hp → Prop} {n : Nat} {ls : List (Option AV)} {st : List AV} {σ : Hp} {k : Nat × Nat} : xe_X4_readLine ct K R (n + 1) 11 ls st σ k = (popN 2 st [] fun av rest => (catS rest ≤ 8 ∧ 1 < 40 ∧ k.1 + 0 ≤ 0 ∧ k.2 + 0 ≤ 0) ∧ (sp_X4_refuse) av σ fun v σ' => xk_X4_readLine ct K R n 14 ls (v.toList ++ rest) σ' (k.1 + 0, k.2 + 0)) := exS_step.trans rfl
theorem ev_X4_readLine_14 {ct : Nat → Bool} {K : Kt} {R : Option AV → Hp → Prop} {n : Nat} {ls : List (Option AV)} {st : List AV} {σ : Hp} {k : Nat × Nat} : xe_X4_readLine ct K R (n + 1) 14 ls st σ k = (oI st fun x st => st = [] ∧ (x = 0 ∨ x = 1) ∧ R (some (vi x)) σ) := exS_step.trans rfl
theorem ev_X4_readLine_15 {ct : Nat → Bool} {K : Kt} {R : Option AV → Hp → Prop} {n : Nat} {ls : List (Option AV)} {st : List AV} {σ : Hp} {k : Nat × Nat} : xe_X4_readLine ct K R (n + 1) 15 ls st σ k = (lI ls 1 fun x => xk_X4_readLine ct K R n 16 ls (vi x :: st) σ k) := exS_step.trans rfl
theorem ev_X4_readLine_16 {ct : Nat → Bool} {K : Kt} {R : Option AV → Hp → Prop} {n : Nat} {ls : List (Option AV)} {st : List AV} {σ : Hp} {k : Nat × Nat} : xe_X4_readLine ct K R (n + 1) 16 ls st σ k = (xk_X4_readLine ct K R n 18 ls (vi (24) :: st) σ k) := exS_step.trans rfl
theorem ev_X4_readLine_18 {ct : Nat → Bool} {K : Kt} {R : Option AV → Hp → Prop} {n : Nat} {ls : List (Option AV)} {st : List AV} {σ : Hp} {k : Nat × Nat} : xe_X4_readLine ct K R (n + 1) 18 ls st σ k = (oI st fun y st => oI st fun x st => (wI x < wI y → xk_X4_readLine ct K R n 27 ls st σ k) ∧ (¬ (wI x < wI y) → xk_X4_readLine ct K R n 21 ls st σ k)) := exS_step.trans rfl
theorem ev_X4_readLine_21 {ct : Nat → Bool} {K : Kt} {R : Option AV → Hp → Prop} {n : Nat} {ls : List (Option AV)} {st : List AV} {σ : Hp} {k : Nat × Nat} : xe_X4_readLine ct K R (n + 1) 21 ls st σ k = (lR ls 0 fun x => xk_X4_readLine ct K R n 22 ls (vr x :: st) σ k) := exS_step.trans rfl
theorem ev_X4_readLine_22 {ct : Nat → Bool} {K : Kt} {R : Option AV → Hp → Prop} {n : Nat} {ls : List (Option AV)} {st : List AV} {σ : Hp} {k : Nat × Nat} : xe_X4_readLine ct K R (n + 1) 22 ls st σ k = (xk_X4_readLine ct K R n 23 ls (vi (5) :: st) σ k) := exS_step.trans rfl
theorem ev_X4_readLine_23 {ct : Nat → Bool} {K : Kt} {R : Option AV → Hp → Prop} {n : Nat} {ls : List (Option AV)} {st : List AV} {σ : Hp} {k : Nat × Nat} : xe_X4_readLine ct K R (n + 1) 23 ls st σ k = (popN 2 st [] fun av rest => (catS rest ≤ 8 ∧ 1 < 40 ∧ k.1 + 0 ≤ 0 ∧ k.2 + 0 ≤ 0) ∧ (sp_X4_refuse) av σ fun v σ' => xk_X4_readLine ct K R n 26 ls (v.toList ++ rest) σ' (k.1 + 0, k.2 + 0)) := exS_step.trans rfl
theorem ev_X4_readLine_26 {ct : Nat → Bool} {K : Kt} {R : Option AV → Hp → Prop} {n : Nat} {ls : List (Option AV)} {st : List AV} {σ : Hp} {k : Nat × Nat} : xe_X4_readLine ct K R (n + 1) 26 ls st σ k = (oI st fun x st => st = [] ∧ (x = 0 ∨ x = 1) ∧ R (some (vi x)) σ) := exS_step.trans rfl
theorem ev_X4_readLine_27 {ct : Nat → Bool} {K : Kt} {R : Option AV → Hp → Prop} {n : Nat} {ls : List (Option AV)} {st : List AV} {σ : Hp} {k : Nat × Nat} : xe_X4_readLine ct K R (n + 1) 27 ls st σ k = (lR ls 0 fun x => xk_X4_readLine ct K R n 28 ls (vr x :: st) σ k) := exS_step.trans rfl
theorem ev_X4_readLine_28 {ct : Nat → Bool} {K : Kt} {R : Option AV → Hp → Prop} {n : Nat} {ls : List (Option AV)} {st : List AV} {σ : Hp} {k : Nat × Nat} : xe_X4_readLine ct K R (n + 1) 28 ls st σ k = (popN 1 st [] fun av rest => (catS rest ≤ 8 ∧ 6 < 40 ∧ k.1 + 0 ≤ 0 ∧ k.2 + 0 ≤ 0) ∧ (sp_X4_nextToken) av σ fun v σ' => xk_X4_readLine ct K R n 31 ls (v.toList ++ rest) σ' (k.1 + 0, k.2 + 0)) := exS_step.trans rfl
theorem ev_X4_readLine_31 {ct : Nat → Bool} {K : Kt} {R : Option AV → Hp → Prop} {n : Nat} {ls : List (Option AV)} {st : List AV} {σ : Hp} {k : Nat × Nat} : xe_X4_readLine ct K R (n + 1) 31 ls st σ k = (lR ls 0 fun x => xk_X4_readLine ct K R n 32 ls (vr x :: st) σ k) := exS_step.trans rfl
theorem ev_X4_readLine_32 {ct : Nat → Bool} {K : Kt} {R : Option AV → Hp → Prop} {n : Nat} {ls : List (Option AV)} {st : List AV} {σ : Hp} {k : Nat × Nat} : xe_X4_readLine ct K R (n + 1) 32 ls st σ k = (popN 1 st [] fun av rest => (catS rest ≤ 8 ∧ 7 < 40 ∧ k.1 + 0 ≤ 0 ∧ k.2 + 0 ≤ 0) ∧ (sp_X4_takeAmount) av σ fun v σ' => xk_X4_readLine ct K R n 35 ls (v.toList ++ rest) σ' (k.1 + 0, k.2 + 0)) := exS_step.trans rfl
theorem ev_X4_readLine_35 {ct : Nat → Bool} {K : Kt} {R : Option AV → Hp → Prop} {n : Nat} {ls : List (Option AV)} {st : List AV} {σ : Hp} {k : Nat × Nat} : xe_X4_readLine ct K R (n + 1) 35 ls st σ k = (oI st fun x st => (¬ wI x = wI 0 → xk_X4_readLine ct K R n 40 ls st σ k) ∧ (¬ (¬ wI x = wI 0) → xk_X4_readLine ct K R n 38 ls st σ k)) := exS_step.trans rfl
theorem ev_X4_readLine_38 {ct : Nat → Bool} {K : Kt} {R : Option AV → Hp → Prop} {n : Nat} {ls : List (Option AV)} {st : List AV} {σ : Hp} {k : Nat × Nat} : xe_X4_readLine ct K R (n + 1) 38 ls st σ k = (xk_X4_readLine ct K R n 39 ls (vi (0) :: st) σ k) := exS_step.trans rfl
theorem ev_X4_readLine_39 {ct : Nat → Bool} {K : Kt} {R : Option AV → Hp → Prop} {n : Nat} {ls : List (Option AV)} {st : List AV} {σ : Hp} {k : Nat × Nat} : xe_X4_readLine ct K R (n + 1) 39 ls st σ k = (oI st fun x st => st = [] ∧ (x = 0 ∨ x = 1) ∧ R (some (vi x)) σ) := exS_step.trans rfl
theorem ev_X4_readLine_40 {ct : Nat → Bool} {K : Kt} {R : Option AV → Hp → Prop} {n : Nat} {ls : List (Option AV)} {st : List AV} {σ : Hp} {k : Nat × Nat} : xe_X4_readLine ct K R (n + 1) 40 ls st σ k = (lR ls 0 fun x => xk_X4_readLine ct K R n 41 ls (vr x :: st) σ k) := exS_step.trans rfl
theorem ev_X4_readLine_41 {ct : Nat → Bool} {K : Kt} {R : Option AV → Hp → Prop} {n : Nat} {ls : List (Option AV)} {st : List AV} {σ : Hp} {k : Nat × Nat} : xe_X4_readLine ct K R (n + 1) 41 ls st σ k = (oR st fun x st => kd σ x = 5 ∧ xk_X4_readLine ct K R n 44 ls (vi (fI σ 506 x) :: st) σ k) := exS_step.trans rfl
theorem ev_X4_readLine_44 {ct : Nat → Bool} {K : Kt} {R : Option AV → Hp → Prop} {n : Nat} {ls : List (Option AV)} {st : List AV} {σ : Hp} {k : Nat × Nat} : xe_X4_readLine ct K R (n + 1) 44 ls st σ k = (oI st fun x st => 2 < 4 ∧ xk_X4_readLine ct K R n 45 (stL ls 2 (vi x)) st σ k) := exS_step.trans rfl
theorem ev_X4_readLine_45 {ct : Nat → Bool} {K : Kt} {R : Option AV → Hp → Prop} {n : Nat} {ls : List (Option AV)} {st : List AV} {σ : Hp} {k : Nat × Nat} : xe_X4_readLine ct K R (n + 1) 45 ls st σ k = (lR ls 0 fun x => xk_X4_readLine ct K R n 46 ls (vr x :: st) σ k) := exS_step.trans rfl
theorem ev_X4_readLine_46 {ct : Nat → Bool} {K : Kt} {R : Option AV → Hp → Prop} {n : Nat} {ls : List (Option AV)} {st : List AV} {σ : Hp} {k : Nat × Nat} : xe_X4_readLine ct K R (n + 1) 46 ls st σ k = (xk_X4_readLine ct K R n 48 ls (vr (-(2)) :: st) σ k) := exS_step.trans rfl
theorem ev_X4_readLine_48 {ct : Nat → Bool} {K : Kt} {R : Option AV → Hp → Prop} {n : Nat} {ls : List (Option AV)} {st : List AV} {σ : Hp} {k : Nat × Nat} : xe_X4_readLine ct K R (n + 1) 48 ls st σ k = (popN 2 st [] fun av rest => (catS rest ≤ 8 ∧ 7 < 40 ∧ k.1 + 0 ≤ 0 ∧ k.2 + 0 ≤ 0) ∧ (sp_X4_takeWord) av σ fun v σ' => xk_X4_readLine ct K R n 51 ls (v.toList ++ rest) σ' (k.1 + 0, k.2 + 0)) := exS_step.trans rfl
theorem ev_X4_readLine_51 {ct : Nat → Bool} {K : Kt} {R : Option AV → Hp → Prop} {n : Nat} {ls : List (Option AV)} {st : List AV} {σ : Hp} {k : Nat × Nat} : xe_X4_readLine ct K R (n + 1) 51 ls st σ k = (oI st fun x st => (wI x = wI 0 → xk_X4_readLine ct K R n 61 ls st σ k) ∧ (¬ (wI x = wI 0) → xk_X4_readLine ct K R n 54 ls st σ k)) := exS_step.trans rfl
theorem ev_X4_readLine_54 {ct : Nat → Bool} {K : Kt} {R : Option AV → Hp → Prop} {n : Nat} {ls : List (Option AV)} {st : List AV} {σ : Hp} {k : Nat × Nat} : xe_X4_readLine ct K R (n + 1) 54 ls st σ k = (lR ls 0 fun x => xk_X4_readLine ct K R n 55 ls (vr x :: st) σ k) := exS_step.trans rfl
theorem ev_X4_readLine_55 {ct : Nat → Bool} {K : Kt} {R : Option AV → Hp → Prop} {n : Nat} {ls : List (Option AV)} {st : List AV} {σ : Hp} {k : Nat × Nat} : xe_X4_readLine ct K R (n + 1) 55 ls st σ k = (popN 1 st [] fun av rest => (catS rest ≤ 8 ∧ 7 < 40 ∧ k.1 + 0 ≤ 0 ∧ k.2 + 0 ≤ 0) ∧ (sp_X4_takeAmount) av σ fun v σ' => xk_X4_readLine ct K R n 58 ls (v.toList ++ rest) σ' (k.1 + 0, k.2 + 0)) := exS_step.trans rfl
theorem ev_X4_readLine_58 {ct : Nat → Bool} {K : Kt} {R : Option AV → Hp → Prop} {n : Nat} {ls : List (Option AV)} {st : List AV} {σ : Hp} {k : Nat × Nat} : xe_X4_readLine ct K R (n + 1) 58 ls st σ k = (oI st fun x st => (¬ wI x = wI 0 → xk_X4_readLine ct K R n 63 ls st σ k) ∧ (¬ (¬ wI x = wI 0) → xk_X4_readLine ct K R n 61 ls st σ k)) := exS_step.trans rfl
theorem ev_X4_readLine_61 {ct : Nat → Bool} {K : Kt} {R : Option AV → Hp → Prop} {n : Nat} {ls : List (Option AV)} {st : List AV} {σ : Hp} {k : Nat × Nat} : xe_X4_readLine ct K R (n + 1) 61 ls st σ k = (xk_X4_readLine ct K R n 62 ls (vi (0) :: st) σ k) := exS_step.trans rfl
theorem ev_X4_readLine_62 {ct : Nat → Bool} {K : Kt} {R : Option AV → Hp → Prop} {n : Nat} {ls : List (Option AV)} {st : List AV} {σ : Hp} {k : Nat × Nat} : xe_X4_readLine ct K R (n + 1) 62 ls st σ k = (oI st fun x st => st = [] ∧ (x = 0 ∨ x = 1) ∧ R (some (vi x)) σ) := exS_step.trans rfl
theorem ev_X4_readLine_63 {ct : Nat → Bool} {K : Kt} {R : Option AV → Hp → Prop} {n : Nat} {ls : List (Option AV)} {st : List AV} {σ : Hp} {k : Nat × Nat} : xe_X4_readLine ct K R (n + 1) 63 ls st σ k = (lR ls 0 fun x => xk_X4_readLine ct K R n 64 ls (vr x :: st) σ k) := exS_step.trans rfl
theorem ev_X4_readLine_64 {ct : Nat → Bool} {K : Kt} {R : Option AV → Hp → Prop} {n : Nat} {ls : List (Option AV)} {st : List AV} {σ : Hp} {k : Nat × Nat} : xe_X4_readLine ct K R (n + 1) 64 ls st σ k = (oR st fun x st => kd σ x = 5 ∧ xk_X4_readLine ct K R n 67 ls (vi (fI σ 506 x) :: st) σ k) := exS_step.trans rfl
theorem ev_X4_readLine_67 {ct : Nat → Bool} {K : Kt} {R : Option AV → Hp → Prop} {n : Nat} {ls : List (Option AV)} {st : List AV} {σ : Hp} {k : Nat × Nat} : xe_X4_readLine ct K R (n + 1) 67 ls st σ k = (oI st fun x st => 3 < 4 ∧ xk_X4_readLine ct K R n 68 (stL ls 3 (vi x)) st σ k) := exS_step.trans rfl
theorem ev_X4_readLine_68 {ct : Nat → Bool} {K : Kt} {R : Option AV → Hp → Prop} {n : Nat} {ls : List (Option AV)} {st : List AV} {σ : Hp} {k : Nat × Nat} : xe_X4_readLine ct K R (n + 1) 68 ls st σ k = (lR ls 0 fun x => xk_X4_readLine ct K R n 69 ls (vr x :: st) σ k) := exS_step.trans rfl
theorem ev_X4_readLine_69 {ct : Nat → Bool} {K : Kt} {R : Option AV → Hp → Prop} {n : Nat} {ls : List (Option AV)} {st : List AV} {σ : Hp} {k : Nat × Nat} : xe_X4_readLine ct K R (n + 1) 69 ls st σ k = (xk_X4_readLine ct K R n 71 ls (vr (-(3)) :: st) σ k) := exS_step.trans rfl
theorem ev_X4_readLine_71 {ct : Nat → Bool} {K : Kt} {R : Option AV → Hp → Prop} {n : Nat} {ls : List (Option AV)} {st : List AV} {σ : Hp} {k : Nat × Nat} : xe_X4_readLine ct K R (n + 1) 71 ls st σ k = (popN 2 st [] fun av rest => (catS rest ≤ 8 ∧ 7 < 40 ∧ k.1 + 0 ≤ 0 ∧ k.2 + 0 ≤ 0) ∧ (sp_X4_takeWord) av σ fun v σ' => xk_X4_readLine ct K R n 74 ls (v.toList ++ rest) σ' (k.1 + 0, k.2 + 0)) := exS_step.trans rfl
theorem ev_X4_readLine_74 {ct : Nat → Bool} {K : Kt} {R : Option AV → Hp → Prop} {n : Nat} {ls : List (Option AV)} {st : List AV} {σ : Hp} {k : Nat × Nat} : xe_X4_readLine ct K R (n + 1) 74 ls st σ k = (oI st fun x st => (wI x = wI 0 → xk_X4_readLine ct K R n 86 ls st σ k) ∧ (¬ (wI x = wI 0) → xk_X4_readLine ct K R n 77 ls st σ k)) := exS_step.trans rfl
theorem ev_X4_readLine_77 {ct : Nat → Bool} {K : Kt} {R : Option AV → Hp → Prop} {n : Nat} {ls : List (Option AV)} {st : List AV} {σ : Hp} {k : Nat × Nat} : xe_X4_readLine ct K R (n + 1) 77 ls st σ k = (lR ls 0 fun x => xk_X4_readLine ct K R n 78 ls (vr x :: st) σ k) := exS_step.trans rfl
theorem ev_X4_readLine_78 {ct : Nat → Bool} {K : Kt} {R : Option AV → Hp → Prop} {n : Nat} {ls : List (Option AV)} {st : List AV} {σ : Hp} {k : Nat × Nat} : xe_X4_readLine ct K R (n + 1) 78 ls st σ k = (xk_X4_readLine ct K R n 80 ls (vr (-(4)) :: st) σ k) := exS_step.trans rfl
theorem ev_X4_readLine_80 {ct : Nat → Bool} {K : Kt} {R : Option AV → Hp → Prop} {n : Nat} {ls : List (Option AV)} {st : List AV} {σ : Hp} {k : Nat × Nat} : xe_X4_readLine ct K R (n + 1) 80 ls st σ k = (popN 2 st [] fun av rest => (catS rest ≤ 8 ∧ 7 < 40 ∧ k.1 + 0 ≤ 0 ∧ k.2 + 0 ≤ 0) ∧ (sp_X4_takeWord) av σ fun v σ' => xk_X4_readLine ct K R n 83 ls (v.toList ++ rest) σ' (k.1 + 0, k.2 + 0)) := exS_step.trans rfl
theorem ev_X4_readLine_83 {ct : Nat → Bool} {K : Kt} {R : Option AV → Hp → Prop} {n : Nat} {ls : List (Option AV)} {st : List AV} {σ : Hp} {k : Nat × Nat} : xe_X4_readLine ct K R (n + 1) 83 ls st σ k = (oI st fun x st => (¬ wI x = wI 0 → xk_X4_readLine ct K R n 88 ls st σ k) ∧ (¬ (¬ wI x = wI 0) → xk_X4_readLine ct K R n 86 ls st σ k)) := exS_step.trans rfl
theorem ev_X4_readLine_86 {ct : Nat → Bool} {K : Kt} {R : Option AV → Hp → Prop} {n : Nat} {ls : List (Option AV)} {st : List AV} {σ : Hp} {k : Nat × Nat} : xe_X4_readLine ct K R (n + 1) 86 ls st σ k = (xk_X4_readLine ct K R n 87 ls (vi (0) :: st) σ k) := exS_step.trans rfl
theorem ev_X4_readLine_87 {ct : Nat → Bool} {K : Kt} {R : Option AV → Hp → Prop} {n : Nat} {ls : List (Option AV)} {st : List AV} {σ : Hp} {k : Nat × Nat} : xe_X4_readLine ct K R (n + 1) 87 ls st σ k = (oI st fun x st => st = [] ∧ (x = 0 ∨ x = 1) ∧ R (some (vi x)) σ) := exS_step.trans rfl
theorem ev_X4_readLine_88 {ct : Nat → Bool} {K : Kt} {R : Option AV → Hp → Prop} {n : Nat} {ls : List (Option AV)} {st : List AV} {σ : Hp} {k : Nat × Nat} : xe_X4_readLine ct K R (n + 1) 88 ls st σ k = (lR ls 0 fun x => xk_X4_readLine ct K R n 89 ls (vr x :: st) σ k) := exS_step.trans rfl
theorem ev_X4_readLine_89 {ct : Nat → Bool} {K : Kt} {R : Option AV → Hp → Prop} {n : Nat} {ls : List (Option AV)} {st : List AV} {σ : Hp} {k : Nat × Nat} : xe_X4_readLine ct K R (n + 1) 89 ls st σ k = (oR st fun x st => kd σ x = 5 ∧ xk_X4_readLine ct K R n 92 ls (vr (fR σ 501 x) :: st) σ k) := exS_step.trans rfl
theorem ev_X4_readLine_92 {ct : Nat → Bool} {K : Kt} {R : Option AV → Hp → Prop} {n : Nat} {ls : List (Option AV)} {st : List AV} {σ : Hp} {k : Nat × Nat} : xe_X4_readLine ct K R (n + 1) 92 ls st σ k = (lI ls 2 fun x => xk_X4_readLine ct K R n 93 ls (vi x :: st) σ k) := exS_step.trans rfl
theorem ev_X4_readLine_93 {ct : Nat → Bool} {K : Kt} {R : Option AV → Hp → Prop} {n : Nat} {ls : List (Option AV)} {st : List AV} {σ : Hp} {k : Nat × Nat} : xe_X4_readLine ct K R (n + 1) 93 ls st σ k = (lI ls 3 fun x => xk_X4_readLine ct K R n 94 ls (vi x :: st) σ k) := exS_step.trans rfl
theorem ev_X4_readLine_94 {ct : Nat → Bool} {K : Kt} {R : Option AV → Hp → Prop} {n : Nat} {ls : List (Option AV)} {st : List AV} {σ : Hp} {k : Nat × Nat} : xe_X4_readLine ct K R (n + 1) 94 ls st σ k = (popN 3 st [] fun av rest => (catS rest ≤ 8 ∧ 1 < 40 ∧ k.1 + 0 ≤ 0 ∧ k.2 + 0 ≤ 0) ∧ (sp_X7_openLine) av σ fun v σ' => xk_X4_readLine ct K R n 97 ls (v.toList ++ rest) σ' (k.1 + 0, k.2 + 0)) := exS_step.trans rfl
theorem ev_X4_readLine_97 {ct : Nat → Bool} {K : Kt} {R : Option AV → Hp → Prop} {n : Nat} {ls : List (Option AV)} {st : List AV} {σ : Hp} {k : Nat × Nat} : xe_X4_readLine ct K R (n + 1) 97 ls st σ k = (lR ls 0 fun x => xk_X4_readLine ct K R n 98 ls (vr x :: st) σ k) := exS_step.trans rfl
theorem ev_X4_readLine_98 {ct : Nat → Bool} {K : Kt} {R : Option AV → Hp → Prop} {n : Nat} {ls : List (Option AV)} {st : List AV} {σ : Hp} {k : Nat × Nat} : xe_X4_readLine ct K R (n + 1) 98 ls st σ k = (xk_X4_readLine ct K R n 99 ls (vi (0) :: st) σ k) := exS_step.trans rfl
theorem ev_X4_readLine_99 {ct : Nat → Bool} {K : Kt} {R : Option AV → Hp → Prop} {n : Nat} {ls : List (Option AV)} {st : List AV} {σ : Hp} {k : Nat × Nat} : xe_X4_readLine ct K R (n + 1) 99 ls st σ k = (popN 2 st [] fun av rest => (catS rest ≤ 8 ∧ 5*(6)+9 < 40 ∧ k.1 + 0 ≤ 0 ∧ k.2 + 0 ≤ 0) ∧ (sp_X4_readWhole (6)) av σ fun v σ' => xk_X4_readLine ct K R n 102 ls (v.toList ++ rest) σ' (k.1 + 0, k.2 + 0)) := exS_step.trans rfl
theorem ev_X4_readLine_102 {ct : Nat → Bool} {K : Kt} {R : Option AV → Hp → Prop} {n : Nat} {ls : List (Option AV)} {st : List AV} {σ : Hp} {k : Nat × Nat} : xe_X4_readLine ct K R (n + 1) 102 ls st σ k = (oI st fun x st => (wI x = wI 0 → xk_X4_readLine ct K R n 118 ls st σ k) ∧ (¬ (wI x = wI 0) → xk_X4_readLine ct K R n 105 ls st σ k)) := exS_step.trans rfl
theorem ev_X4_readLine_105 {ct : Nat → Bool} {K : Kt} {R : Option AV → Hp → Prop} {n : Nat} {ls : List (Option AV)} {st : List AV} {σ : Hp} {k : Nat × Nat} : xe_X4_readLine ct K R (n + 1) 105 ls st σ k = (lR ls 0 fun x => xk_X4_readLine ct K R n 106 ls (vr x :: st) σ k) := exS_step.trans rfl
theorem ev_X4_readLine_106 {ct : Nat → Bool} {K : Kt} {R : Option AV → Hp → Prop} {n : Nat} {ls : List (Option AV)} {st : List AV} {σ : Hp} {k : Nat × Nat} : xe_X4_readLine ct K R (n + 1) 106 ls st σ k = (xk_X4_readLine ct K R n 108 ls (vi (59) :: st) σ k) := exS_step.trans rfl
theorem ev_X4_readLine_108 {ct : Nat → Bool} {K : Kt} {R : Option AV → Hp → Prop} {n : Nat} {ls : List (Option AV)} {st : List AV} {σ : Hp} {k : Nat × Nat} : xe_X4_readLine ct K R (n + 1) 108 ls st σ k = (popN 2 st [] fun av rest => (catS rest ≤ 8 ∧ 7 < 40 ∧ k.1 + 0 ≤ 0 ∧ k.2 + 0 ≤ 0) ∧ (sp_X4_takeSign) av σ fun v σ' => xk_X4_readLine ct K R n 111 ls (v.toList ++ rest) σ' (k.1 + 0, k.2 + 0)) := exS_step.trans rfl
theorem ev_X4_readLine_111 {ct : Nat → Bool} {K : Kt} {R : Option AV → Hp → Prop} {n : Nat} {ls : List (Option AV)} {st : List AV} {σ : Hp} {k : Nat × Nat} : xe_X4_readLine ct K R (n + 1) 111 ls st σ k = (oI st fun x st => (wI x = wI 0 → xk_X4_readLine ct K R n 118 ls st σ k) ∧ (¬ (wI x = wI 0) → xk_X4_readLine ct K R n 114 ls st σ k)) := exS_step.trans rfl
theorem ev_X4_readLine_114 {ct : Nat → Bool} {K : Kt} {R : Option AV → Hp → Prop} {n : Nat} {ls : List (Option AV)} {st : List AV} {σ : Hp} {k : Nat × Nat} : xe_X4_readLine ct K R (n + 1) 114 ls st σ k = (xk_X4_readLine ct K R n 115 ls (vi (1) :: st) σ k) := exS_step.trans rfl
theorem ev_X4_readLine_115 {ct : Nat → Bool} {K : Kt} {R : Option AV → Hp → Prop} {n : Nat} {ls : List (Option AV)} {st : List AV} {σ : Hp} {k : Nat × Nat} : xe_X4_readLine ct K R (n + 1) 115 ls st σ k = (xk_X4_readLine ct K R n 119 ls st σ k) := exS_step.trans rfl
theorem ev_X4_readLine_118 {ct : Nat → Bool} {K : Kt} {R : Option AV → Hp → Prop} {n : Nat} {ls : List (Option AV)} {st : List AV} {σ : Hp} {k : Nat × Nat} : xe_X4_readLine ct K R (n + 1) 118 ls st σ k = (xk_X4_readLine ct K R n 119 ls (vi (0) :: st) σ k) := exS_step.trans rfl
theorem ev_X4_readLine_119 {ct : Nat → Bool} {K : Kt} {R : Option AV → Hp → Prop} {n : Nat} {ls : List (Option AV)} {st : List AV} {σ : Hp} {k : Nat × Nat} : xe_X4_readLine ct K R (n + 1) 119 ls st σ k = (oI st fun x st => st = [] ∧ (x = 0 ∨ x = 1) ∧ R (some (vi x)) σ) := exS_step.trans rfl
def M_X4_readLine : Md := (yX4_readLine, cX4_readLine, 4, (some FieldType.boolean), 40, 0, 0, 2, false, tb_X4_readLine, mt_X4_readLine)
theorem mm_X4_readLine : MMOK M_X4_readLine := ⟨by decide +kernel, tk_X4_readLine, mk_X4_readLine, rfl, fun h => by cases h⟩
theorem go_X4_readLine {Q : Option AV → Hp → Prop} {ct : Nat → Bool} {pc : Nat} {ls : List (Option AV)} {st : List AV} {σ : Hp} {k : Nat × Nat} (n : Nat) (h : xe_X4_readLine ct (Go M_X4_readLine Q) Q n pc ls st σ k) : Go M_X4_readLine Q pc ls st σ k := Go.exS mm_X4_readLine h

set_option maxRecDepth 20000 in
theorem rl_61 {Q : Option AV → Hp → Prop} {σ : Hp} {z D p nl : Int} {L : Int → Int} {css : List (List Int)} {n m : Int} (hL : RdL L z D css σ) (hR : RD σ p) (hc : css.length < 24) (hf : (css.flatten.length : Int) ≤ p) (h0 : (rdR L z (kB L z p)).1 ≠ 0 → ∀ σ', RdF D σ σ' → fI σ' 507 26 = (rdR L z (kB L z p)).1 → Q (some (vi 0)) σ') (h1 : (rdR L z (kB L z p)).1 = 0 → ∀ σ', RdF D σ σ' → RdL L z D (css ++ [(rdR L z (kB L z p)).2.2.2.1]) σ' → RD σ' (rdR L z (kB L z p)).2.1 → (∀ j, aI σ' (D + 1) j = if j = css.length then n else aI σ (D + 1) j) → (∀ j, aI σ' (D + 2) j = if j = css.length then m else aI σ (D + 2) j) → Q (some (vi 1)) σ') : Go M_X4_readLine Q 88 [some (vr 26), some (vi nl), some (vi n), some (vi m)] [] σ (0, 0) := by
  obtain ⟨hk, hC, hX, hG, hT, eL, ez, hD, hO, hkD, hp, hz, r1, r2, r3⟩ := hL.fx hR
  have hb := kB_in L hp.2
  have hD12 := hL.2.2.2.2.2.2.1
  have hcl : (0 ≤ fI σ 807 D ∧ fI σ 807 D < 24) ∧ (0 ≤ fI σ 805 D ∧ fI σ 805 D ≤ 1000) := by
    obtain ⟨⟨g1, -⟩, g2⟩ := hL.2.2.2.2.2.2.2.1
    omega
  have y0 := RdF.opn σ D n m
  have L7 := hL.opn hc n m
  have R7 := (hR.opn hD12 n m).b
  have en := (hL.2.2.2.2.2.2.2.1.opn hc n m).2.1
  have em := (hL.2.2.2.2.2.2.2.1.opn hc n m).2.2
  have e25 : aI (cOpn σ D n m) 25 = L := L7.2.2.2.1
  have e24 : fI (cOpn σ D n m) 901 24 = z := L7.2.2.2.2.1
  rw [e25, e24] at R7
  unfold rdR at h0 h1
  have w70 : Go M_X4_readLine Q 97 [some (vr 26), some (vi nl), some (vi n), some (vi m)] [] (cOpn σ D n m) (0, 0) := by
    generalize cOpn σ D n m = ρ at *
    have hk7 : kd ρ 26 = 5 := (L7.fx R7).1
    have g0 : (pp L z (8 * (z - kB L z p).toNat + 4) 4 0 (a0 (kB L z p))).1 ≠ 0 → ∀ σ', RF D ρ σ' → fI σ' 507 26 = (pp L z (8 * (z - kB L z p).toNat + 4) 4 0 (a0 (kB L z p))).1 → Go M_X4_readLine Q 102 [some (vr 26), some (vi nl), some (vi n), some (vi m)] [vi 0] σ' (0, 0) := fun q σ' y1 y2 => by
      unfold rdF at h0
      rw [if_pos q] at h0
      have h := h0 q σ' (y0.tr y1.rl) y2
      clear h0 h1 L7 R7 hL hR hX hT hG hC
      refine go_X4_readLine (ct := fun p => p == 105) 10 ?_
      simp only [oI, oL, oR, o1, lI, lL, lR, popN, catS, gv, stL, stL2, swt, cnd, spObj, List.getElem?_cons_zero, List.getElem?_cons_succ, List.getD_cons_zero, List.getD_cons_succ, List.set_cons_zero, List.set_cons_succ, List.nil_append, List.cons_append, Option.toList, Bool.or_false, Bool.false_or, Bool.or_true, Bool.true_or, Nat.reduceBEq, Nat.reduceAdd, Nat.reduceLT, Nat.reduceLeDiff, Int.reduceAdd, Int.reduceToNat, true_and, and_true, Fin.isValue, Fin.val_zero, Fin.val_one, Fin.val_two, Fin.reduceFinMk, eq_self, Int.reduceNeg, imp_self, Nat.reduceMul, Nat.le_refl, not_true_eq_false, not_false_eq_true, List.getElem?_nil, reduceCtorEq, true_or, or_true, Classical.not_not, implies_true, or_self, wI_0, wI_1, wI_m1, b2i_w, b2i_eq0, b2i_eq1, b2i_bool, nor_self, nx_pI, kd_pI, ln_pI, fI_pI, fL_pI, fR_pI, aI_pI, aL_pI, aR_pI, nx_pL, kd_pL, ln_pL, fI_pL, fL_pL, fR_pL, aI_pL, aL_pL, aR_pL, nx_pR, kd_pR, ln_pR, fI_pR, fL_pR, fR_pR, aI_pR, aL_pR, aR_pR, nx_qI, kd_qI, ln_qI, fI_qI, fL_qI, fR_qI, aI_qI, aL_qI, aR_qI, nx_qL, kd_qL, ln_qL, fI_qL, fL_qL, fR_qL, aI_qL, aL_qL, aR_qL, nx_qR, kd_qR, ln_qR, fI_qR, fL_qR, fR_qR, aI_qR, aL_qR, aR_qR, nx_mk, kd_mk, ln_mk, fI_mk, fL_mk, fR_mk, aI_mk, aL_mk, aR_mk, false_and, and_false, if_false, if_true, and_self, Int.reduceEq, Nat.reduceEqDiff, ite_self, MLay_pI, MLay_pL, MLay_qI, MLay_qL, ev_X4_readLine_102, ev_X4_readLine_105, ev_X4_readLine_106, ev_X4_readLine_108, ev_X4_readLine_111, ev_X4_readLine_114, ev_X4_readLine_115, ev_X4_readLine_118, ev_X4_readLine_119, xt_X4_readLine, xf_X4_readLine, us_X4_isWord, us_X4_refuse, us_X4_nextToken, us_X4_takeAmount, us_X4_takeWord, us_X7_openLine, us_X4_readWhole, us_X4_takeSign]
      repeat' (first | intro z | apply And.intro)
      all_goals try omega
      all_goals try contradiction
      all_goals exact h
    have g1 : (pp L z (8 * (z - kB L z p).toNat + 4) 4 0 (a0 (kB L z p))).1 = 0 → ∀ σ', RF D ρ σ' → RS L z D css ([] ++ (pp L z (8 * (z - kB L z p).toNat + 4) 4 0 (a0 (kB L z p))).2.2.2.1) (pp L z (8 * (z - kB L z p).toNat + 4) 4 0 (a0 (kB L z p))).2.1 σ' → Go M_X4_readLine Q 102 [some (vr 26), some (vi nl), some (vi n), some (vi m)] [vi 1] σ' (0, 0) := fun q σ' y1 y2 => by
      unfold rdF at h0 h1
      rw [if_neg (fun z => z q)] at h0 h1
      generalize pp L z (8 * (z - kB L z p).toNat + 4) 4 0 (a0 (kB L z p)) = r at *
      obtain ⟨k2, C2, X2, G2, T2, R2, l2, z2, -, -, -, p2, -⟩ := y2.fx
      have w1 : isS L z r.2.1 59 → ∀ σ'', Fz tkF noR noR σ' σ'' → RD σ'' (tE L z r.2.1) → Go M_X4_readLine Q 111 [some (vr 26), some (vi nl), some (vi n), some (vi m)] [vi 1] σ'' (0, 0) := fun c σ'' u1 u2 => by
        rw [if_pos c] at h1
        have yy : RdF D ρ σ'' := y1.rl.tr (u1.rl (by decide))
        have y1' : RF D ρ σ'' := y1.tr (Fz_rd u1)
        have h := h1 rfl σ'' (y0.tr yy) (RdL.rd y2.1 u1) u2 (fun j => by rw [y1'.aI (by unfold dkA; omega)]; exact en j) (fun j => by rw [y1'.aI (by unfold dkA; omega)]; exact em j)
        clear h0 h1 L7 R7 hL hR hX hT hG hC X2 T2 R2 y2
        refine go_X4_readLine (ct := fun p => p == 118) 10 ?_
        simp only [oI, oL, oR, o1, lI, lL, lR, popN, catS, gv, stL, stL2, swt, cnd, spObj, List.getElem?_cons_zero, List.getElem?_cons_succ, List.getD_cons_zero, List.getD_cons_succ, List.set_cons_zero, List.set_cons_succ, List.nil_append, List.cons_append, Option.toList, Bool.or_false, Bool.false_or, Bool.or_true, Bool.true_or, Nat.reduceBEq, Nat.reduceAdd, Nat.reduceLT, Nat.reduceLeDiff, Int.reduceAdd, Int.reduceToNat, true_and, and_true, Fin.isValue, Fin.val_zero, Fin.val_one, Fin.val_two, Fin.reduceFinMk, eq_self, Int.reduceNeg, imp_self, Nat.reduceMul, Nat.le_refl, not_true_eq_false, not_false_eq_true, List.getElem?_nil, reduceCtorEq, true_or, or_true, Classical.not_not, implies_true, or_self, wI_0, wI_1, wI_m1, b2i_w, b2i_eq0, b2i_eq1, b2i_bool, nor_self, nx_pI, kd_pI, ln_pI, fI_pI, fL_pI, fR_pI, aI_pI, aL_pI, aR_pI, nx_pL, kd_pL, ln_pL, fI_pL, fL_pL, fR_pL, aI_pL, aL_pL, aR_pL, nx_pR, kd_pR, ln_pR, fI_pR, fL_pR, fR_pR, aI_pR, aL_pR, aR_pR, nx_qI, kd_qI, ln_qI, fI_qI, fL_qI, fR_qI, aI_qI, aL_qI, aR_qI, nx_qL, kd_qL, ln_qL, fI_qL, fL_qL, fR_qL, aI_qL, aL_qL, aR_qL, nx_qR, kd_qR, ln_qR, fI_qR, fL_qR, fR_qR, aI_qR, aL_qR, aR_qR, nx_mk, kd_mk, ln_mk, fI_mk, fL_mk, fR_mk, aI_mk, aL_mk, aR_mk, false_and, and_false, if_false, if_true, and_self, Int.reduceEq, Nat.reduceEqDiff, ite_self, MLay_pI, MLay_pL, MLay_qI, MLay_qL, ev_X4_readLine_111, ev_X4_readLine_114, ev_X4_readLine_115, ev_X4_readLine_118, ev_X4_readLine_119, xt_X4_readLine, xf_X4_readLine, us_X4_isWord, us_X4_refuse, us_X4_nextToken, us_X4_takeAmount, us_X4_takeWord, us_X7_openLine, us_X4_readWhole, us_X4_takeSign]
        repeat' (first | intro z | apply And.intro)
        all_goals try omega
        all_goals try contradiction
        all_goals exact h
      have w2 : ¬ isS L z r.2.1 59 → Go M_X4_readLine Q 111 [some (vr 26), some (vi nl), some (vi n), some (vi m)] [vi 0] (pI σ' 507 26 (1 + 16 * kB L z r.2.1)) (0, 0) := fun c => by
        rw [if_neg c] at h0
        have hkr := kB_in L p2.2
        have h := h0 (by show ¬ (1 + 16 * kB L z r.2.1 = 0); omega) _ ((y0.tr y1.rl).tr (RdF.flt σ' _)) (by rw [fI_pI, if_pos ⟨rfl, rfl⟩])
        clear h0 h1 L7 R7 hL hR hX hT hG hC X2 T2 R2 y2
        refine go_X4_readLine (ct := fun p => p == 114) 10 ?_
        simp only [oI, oL, oR, o1, lI, lL, lR, popN, catS, gv, stL, stL2, swt, cnd, spObj, List.getElem?_cons_zero, List.getElem?_cons_succ, List.getD_cons_zero, List.getD_cons_succ, List.set_cons_zero, List.set_cons_succ, List.nil_append, List.cons_append, Option.toList, Bool.or_false, Bool.false_or, Bool.or_true, Bool.true_or, Nat.reduceBEq, Nat.reduceAdd, Nat.reduceLT, Nat.reduceLeDiff, Int.reduceAdd, Int.reduceToNat, true_and, and_true, Fin.isValue, Fin.val_zero, Fin.val_one, Fin.val_two, Fin.reduceFinMk, eq_self, Int.reduceNeg, imp_self, Nat.reduceMul, Nat.le_refl, not_true_eq_false, not_false_eq_true, List.getElem?_nil, reduceCtorEq, true_or, or_true, Classical.not_not, implies_true, or_self, wI_0, wI_1, wI_m1, b2i_w, b2i_eq0, b2i_eq1, b2i_bool, nor_self, nx_pI, kd_pI, ln_pI, fI_pI, fL_pI, fR_pI, aI_pI, aL_pI, aR_pI, nx_pL, kd_pL, ln_pL, fI_pL, fL_pL, fR_pL, aI_pL, aL_pL, aR_pL, nx_pR, kd_pR, ln_pR, fI_pR, fL_pR, fR_pR, aI_pR, aL_pR, aR_pR, nx_qI, kd_qI, ln_qI, fI_qI, fL_qI, fR_qI, aI_qI, aL_qI, aR_qI, nx_qL, kd_qL, ln_qL, fI_qL, fL_qL, fR_qL, aI_qL, aL_qL, aR_qL, nx_qR, kd_qR, ln_qR, fI_qR, fL_qR, fR_qR, aI_qR, aL_qR, aR_qR, nx_mk, kd_mk, ln_mk, fI_mk, fL_mk, fR_mk, aI_mk, aL_mk, aR_mk, false_and, and_false, if_false, if_true, and_self, Int.reduceEq, Nat.reduceEqDiff, ite_self, MLay_pI, MLay_pL, MLay_qI, MLay_qL, ev_X4_readLine_111, ev_X4_readLine_114, ev_X4_readLine_115, ev_X4_readLine_118, ev_X4_readLine_119, xt_X4_readLine, xf_X4_readLine, us_X4_isWord, us_X4_refuse, us_X4_nextToken, us_X4_takeAmount, us_X4_takeWord, us_X7_openLine, us_X4_readWhole, us_X4_takeSign]
        repeat' (first | intro z | apply And.intro)
        all_goals try omega
        all_goals try contradiction
        all_goals exact h
      clear h0 h1 L7 R7 hL hR hX hT hG hC X2 T2 y2
      refine go_X4_readLine (ct := fun p => p == 111 || p == 118) 10 ?_
      simp only [oI, oL, oR, o1, lI, lL, lR, popN, catS, gv, stL, stL2, swt, cnd, spObj, List.getElem?_cons_zero, List.getElem?_cons_succ, List.getD_cons_zero, List.getD_cons_succ, List.set_cons_zero, List.set_cons_succ, List.nil_append, List.cons_append, Option.toList, Bool.or_false, Bool.false_or, Bool.or_true, Bool.true_or, Nat.reduceBEq, Nat.reduceAdd, Nat.reduceLT, Nat.reduceLeDiff, Int.reduceAdd, Int.reduceToNat, true_and, and_true, Fin.isValue, Fin.val_zero, Fin.val_one, Fin.val_two, Fin.reduceFinMk, eq_self, Int.reduceNeg, imp_self, Nat.reduceMul, Nat.le_refl, not_true_eq_false, not_false_eq_true, List.getElem?_nil, reduceCtorEq, true_or, or_true, Classical.not_not, implies_true, or_self, wI_0, wI_1, wI_m1, b2i_w, b2i_eq0, b2i_eq1, b2i_bool, nor_self, nx_pI, kd_pI, ln_pI, fI_pI, fL_pI, fR_pI, aI_pI, aL_pI, aR_pI, nx_pL, kd_pL, ln_pL, fI_pL, fL_pL, fR_pL, aI_pL, aL_pL, aR_pL, nx_pR, kd_pR, ln_pR, fI_pR, fL_pR, fR_pR, aI_pR, aL_pR, aR_pR, nx_qI, kd_qI, ln_qI, fI_qI, fL_qI, fR_qI, aI_qI, aL_qI, aR_qI, nx_qL, kd_qL, ln_qL, fI_qL, fL_qL, fR_qL, aI_qL, aL_qL, aR_qL, nx_qR, kd_qR, ln_qR, fI_qR, fL_qR, fR_qR, aI_qR, aL_qR, aR_qR, nx_mk, kd_mk, ln_mk, fI_mk, fL_mk, fR_mk, aI_mk, aL_mk, aR_mk, false_and, and_false, if_false, if_true, and_self, Int.reduceEq, Nat.reduceEqDiff, ite_self, MLay_pI, MLay_pL, MLay_qI, MLay_qL, ev_X4_readLine_102, ev_X4_readLine_105, ev_X4_readLine_106, ev_X4_readLine_108, xt_X4_readLine, xf_X4_readLine, us_X4_isWord, us_X4_refuse, us_X4_nextToken, us_X4_takeAmount, us_X4_takeWord, us_X7_openLine, us_X4_readWhole, us_X4_takeSign, k2, C2, G2, l2, z2]
      repeat' (first | intro z | apply And.intro)
      all_goals try omega
      all_goals try contradiction
      all_goals exact ⟨r.2.1, R2, w1, w2⟩
    have hpre : RdPre 6 L z D css [] (kB L z p) 0 ρ := ⟨⟨L7, R7⟩, by omega, by rw [cnt_is]; show (css.flatten.length : Int) + ((0 : Nat) : Int) ≤ _; omega⟩
    have hm : 8 * (z - kB L z p) + 4 ≤ ((8 * (z - kB L z p).toNat + 4 : Nat) : Int) := by omega
    clear h0 h1 L7 R7 hL hR hX hT hG hC
    refine go_X4_readLine (ct := fun p => p == 102) 10 ?_
    simp only [oI, oL, oR, o1, lI, lL, lR, popN, catS, gv, stL, stL2, swt, cnd, spObj, List.getElem?_cons_zero, List.getElem?_cons_succ, List.getD_cons_zero, List.getD_cons_succ, List.set_cons_zero, List.set_cons_succ, List.nil_append, List.cons_append, Option.toList, Bool.or_false, Bool.false_or, Bool.or_true, Bool.true_or, Nat.reduceBEq, Nat.reduceAdd, Nat.reduceLT, Nat.reduceLeDiff, Int.reduceAdd, Int.reduceToNat, true_and, and_true, Fin.isValue, Fin.val_zero, Fin.val_one, Fin.val_two, Fin.reduceFinMk, eq_self, Int.reduceNeg, imp_self, Nat.reduceMul, Nat.le_refl, not_true_eq_false, not_false_eq_true, List.getElem?_nil, reduceCtorEq, true_or, or_true, Classical.not_not, implies_true, or_self, wI_0, wI_1, wI_m1, b2i_w, b2i_eq0, b2i_eq1, b2i_bool, nor_self, nx_pI, kd_pI, ln_pI, fI_pI, fL_pI, fR_pI, aI_pI, aL_pI, aR_pI, nx_pL, kd_pL, ln_pL, fI_pL, fL_pL, fR_pL, aI_pL, aL_pL, aR_pL, nx_pR, kd_pR, ln_pR, fI_pR, fL_pR, fR_pR, aI_pR, aL_pR, aR_pR, nx_qI, kd_qI, ln_qI, fI_qI, fL_qI, fR_qI, aI_qI, aL_qI, aR_qI, nx_qL, kd_qL, ln_qL, fI_qL, fL_qL, fR_qL, aI_qL, aL_qL, aR_qL, nx_qR, kd_qR, ln_qR, fI_qR, fL_qR, fR_qR, aI_qR, aL_qR, aR_qR, nx_mk, kd_mk, ln_mk, fI_mk, fL_mk, fR_mk, aI_mk, aL_mk, aR_mk, false_and, and_false, if_false, if_true, and_self, Int.reduceEq, Nat.reduceEqDiff, ite_self, MLay_pI, MLay_pL, MLay_qI, MLay_qL, ev_X4_readLine_97, ev_X4_readLine_98, ev_X4_readLine_99, xt_X4_readLine, xf_X4_readLine, us_X4_isWord, us_X4_refuse, us_X4_nextToken, us_X4_takeAmount, us_X4_takeWord, us_X7_openLine, us_X4_readWhole, us_X4_takeSign, RdPost, hk7]
    repeat' (first | intro z | apply And.intro)
    all_goals try omega
    all_goals try contradiction
    all_goals exact ⟨_, _, _, _, _, _, _, hpre, hm, g0, g1⟩
  clear h0 h1 L7 R7 hL hR hX hT hG en em
  refine go_X4_readLine (ct := fun p => p == 97) 10 ?_
  simp only [oI, oL, oR, o1, lI, lL, lR, popN, catS, gv, stL, stL2, swt, cnd, spObj, List.getElem?_cons_zero, List.getElem?_cons_succ, List.getD_cons_zero, List.getD_cons_succ, List.set_cons_zero, List.set_cons_succ, List.nil_append, List.cons_append, Option.toList, Bool.or_false, Bool.false_or, Bool.or_true, Bool.true_or, Nat.reduceBEq, Nat.reduceAdd, Nat.reduceLT, Nat.reduceLeDiff, Int.reduceAdd, Int.reduceToNat, true_and, and_true, Fin.isValue, Fin.val_zero, Fin.val_one, Fin.val_two, Fin.reduceFinMk, eq_self, Int.reduceNeg, imp_self, Nat.reduceMul, Nat.le_refl, not_true_eq_false, not_false_eq_true, List.getElem?_nil, reduceCtorEq, true_or, or_true, Classical.not_not, implies_true, or_self, wI_0, wI_1, wI_m1, b2i_w, b2i_eq0, b2i_eq1, b2i_bool, nor_self, nx_pI, kd_pI, ln_pI, fI_pI, fL_pI, fR_pI, aI_pI, aL_pI, aR_pI, nx_pL, kd_pL, ln_pL, fI_pL, fL_pL, fR_pL, aI_pL, aL_pL, aR_pL, nx_pR, kd_pR, ln_pR, fI_pR, fL_pR, fR_pR, aI_pR, aL_pR, aR_pR, nx_qI, kd_qI, ln_qI, fI_qI, fL_qI, fR_qI, aI_qI, aL_qI, aR_qI, nx_qL, kd_qL, ln_qL, fI_qL, fL_qL, fR_qL, aI_qL, aL_qL, aR_qL, nx_qR, kd_qR, ln_qR, fI_qR, fL_qR, fR_qR, aI_qR, aL_qR, aR_qR, nx_mk, kd_mk, ln_mk, fI_mk, fL_mk, fR_mk, aI_mk, aL_mk, aR_mk, false_and, and_false, if_false, if_true, and_self, Int.reduceEq, Nat.reduceEqDiff, ite_self, MLay_pI, MLay_pL, MLay_qI, MLay_qL, ev_X4_readLine_88, ev_X4_readLine_89, ev_X4_readLine_92, ev_X4_readLine_93, ev_X4_readLine_94, xt_X4_readLine, xf_X4_readLine, us_X4_isWord, us_X4_refuse, us_X4_nextToken, us_X4_takeAmount, us_X4_takeWord, us_X7_openLine, us_X4_readWhole, us_X4_takeSign, hk, hD, hkD, hO, hcl]
  repeat' (first | intro z | apply And.intro)
  all_goals try omega
  all_goals try contradiction
  all_goals exact w70

set_option maxRecDepth 20000 in
theorem rl_50 {Q : Option AV → Hp → Prop} {σ : Hp} {z D p nl : Int} {L : Int → Int} {css : List (List Int)} {n m : Int} (hL : RdL L z D css σ) (hR : RD σ p) (h0 : ¬ isW L z p 458690 → Q (some (vi 0)) (pI σ 507 26 (1 + 16 * kB L z p))) (h1 : isW L z p 458690 → ∀ σ', RdF D σ σ' → (∀ j, aI σ' (D + 1) j = aI σ (D + 1) j) → (∀ j, aI σ' (D + 2) j = aI σ (D + 2) j) → RdL L z D css σ' → RD σ' (tE L z p) → Go M_X4_readLine Q 88 [some (vr 26), some (vi nl), some (vi n), some (vi m)] [] σ' (0, 0)) : Go M_X4_readLine Q 77 [some (vr 26), some (vi nl), some (vi n), some (vi m)] [] σ (0, 0) := by
  obtain ⟨hk, hC, hX, hG, hT, eL, ez, hD, hO, hkD, hp, hz, r1, r2, r3⟩ := hL.fx hR
  have hW : Wd σ (-4) 458690 := hX.2.2.2.2.1
  have ew : BitVec.ofInt 64 458690 = (458690 : BitVec 64) := by decide
  have w1 : isW L z p (BitVec.ofInt 64 458690) → ∀ σ', Fz tkF noR noR σ σ' → RD σ' (tE L z p) → Go M_X4_readLine Q 83 [some (vr 26), some (vi nl), some (vi n), some (vi m)] [vi 1] σ' (0, 0) := fun c σ' u1 u2 => by
    rw [ew] at c
    have h := h1 c σ' (u1.rl (by decide)) (fun j => by rw [u1.aI (fun q => q)]) (fun j => by rw [u1.aI (fun q => q)]) (RdL.rd hL u1) u2
    clear h0 h1 hL hR hX hT hG hC hW u2
    refine go_X4_readLine (ct := fun p => p == 88 || p == 86) 10 ?_
    simp only [oI, oL, oR, o1, lI, lL, lR, popN, catS, gv, stL, stL2, swt, cnd, spObj, List.getElem?_cons_zero, List.getElem?_cons_succ, List.getD_cons_zero, List.getD_cons_succ, List.set_cons_zero, List.set_cons_succ, List.nil_append, List.cons_append, Option.toList, Bool.or_false, Bool.false_or, Bool.or_true, Bool.true_or, Nat.reduceBEq, Nat.reduceAdd, Nat.reduceLT, Nat.reduceLeDiff, Int.reduceAdd, Int.reduceToNat, true_and, and_true, Fin.isValue, Fin.val_zero, Fin.val_one, Fin.val_two, Fin.reduceFinMk, eq_self, Int.reduceNeg, imp_self, Nat.reduceMul, Nat.le_refl, not_true_eq_false, not_false_eq_true, List.getElem?_nil, reduceCtorEq, true_or, or_true, Classical.not_not, implies_true, or_self, wI_0, wI_1, wI_m1, b2i_w, b2i_eq0, b2i_eq1, b2i_bool, nor_self, nx_pI, kd_pI, ln_pI, fI_pI, fL_pI, fR_pI, aI_pI, aL_pI, aR_pI, nx_pL, kd_pL, ln_pL, fI_pL, fL_pL, fR_pL, aI_pL, aL_pL, aR_pL, nx_pR, kd_pR, ln_pR, fI_pR, fL_pR, fR_pR, aI_pR, aL_pR, aR_pR, nx_qI, kd_qI, ln_qI, fI_qI, fL_qI, fR_qI, aI_qI, aL_qI, aR_qI, nx_qL, kd_qL, ln_qL, fI_qL, fL_qL, fR_qL, aI_qL, aL_qL, aR_qL, nx_qR, kd_qR, ln_qR, fI_qR, fL_qR, fR_qR, aI_qR, aL_qR, aR_qR, nx_mk, kd_mk, ln_mk, fI_mk, fL_mk, fR_mk, aI_mk, aL_mk, aR_mk, false_and, and_false, if_false, if_true, and_self, Int.reduceEq, Nat.reduceEqDiff, ite_self, MLay_pI, MLay_pL, MLay_qI, MLay_qL, ev_X4_readLine_83, xt_X4_readLine, xf_X4_readLine, us_X4_isWord, us_X4_refuse, us_X4_nextToken, us_X4_takeAmount, us_X4_takeWord, us_X7_openLine, us_X4_readWhole, us_X4_takeSign]
    repeat' (first | intro z | apply And.intro)
    all_goals try omega
    all_goals try contradiction
    all_goals exact h
  have w2 : ¬ isW L z p (BitVec.ofInt 64 458690) → Go M_X4_readLine Q 83 [some (vr 26), some (vi nl), some (vi n), some (vi m)] [vi 0] (pI σ 507 26 (1 + 16 * kB L z p)) (0, 0) := fun c => by
    rw [ew] at c
    have h := h0 c
    clear h0 h1 hL hR hX hT hG hC hW
    refine go_X4_readLine (ct := fun p => p == 88) 10 ?_
    simp only [oI, oL, oR, o1, lI, lL, lR, popN, catS, gv, stL, stL2, swt, cnd, spObj, List.getElem?_cons_zero, List.getElem?_cons_succ, List.getD_cons_zero, List.getD_cons_succ, List.set_cons_zero, List.set_cons_succ, List.nil_append, List.cons_append, Option.toList, Bool.or_false, Bool.false_or, Bool.or_true, Bool.true_or, Nat.reduceBEq, Nat.reduceAdd, Nat.reduceLT, Nat.reduceLeDiff, Int.reduceAdd, Int.reduceToNat, true_and, and_true, Fin.isValue, Fin.val_zero, Fin.val_one, Fin.val_two, Fin.reduceFinMk, eq_self, Int.reduceNeg, imp_self, Nat.reduceMul, Nat.le_refl, not_true_eq_false, not_false_eq_true, List.getElem?_nil, reduceCtorEq, true_or, or_true, Classical.not_not, implies_true, or_self, wI_0, wI_1, wI_m1, b2i_w, b2i_eq0, b2i_eq1, b2i_bool, nor_self, nx_pI, kd_pI, ln_pI, fI_pI, fL_pI, fR_pI, aI_pI, aL_pI, aR_pI, nx_pL, kd_pL, ln_pL, fI_pL, fL_pL, fR_pL, aI_pL, aL_pL, aR_pL, nx_pR, kd_pR, ln_pR, fI_pR, fL_pR, fR_pR, aI_pR, aL_pR, aR_pR, nx_qI, kd_qI, ln_qI, fI_qI, fL_qI, fR_qI, aI_qI, aL_qI, aR_qI, nx_qL, kd_qL, ln_qL, fI_qL, fL_qL, fR_qL, aI_qL, aL_qL, aR_qL, nx_qR, kd_qR, ln_qR, fI_qR, fL_qR, fR_qR, aI_qR, aL_qR, aR_qR, nx_mk, kd_mk, ln_mk, fI_mk, fL_mk, fR_mk, aI_mk, aL_mk, aR_mk, false_and, and_false, if_false, if_true, and_self, Int.reduceEq, Nat.reduceEqDiff, ite_self, MLay_pI, MLay_pL, MLay_qI, MLay_qL, ev_X4_readLine_83, ev_X4_readLine_86, ev_X4_readLine_87, xt_X4_readLine, xf_X4_readLine, us_X4_isWord, us_X4_refuse, us_X4_nextToken, us_X4_takeAmount, us_X4_takeWord, us_X7_openLine, us_X4_readWhole, us_X4_takeSign]
    repeat' (first | intro z | apply And.intro)
    all_goals try omega
    all_goals try contradiction
    all_goals exact h
  clear h0 h1 hL hX hT ew
  refine go_X4_readLine (ct := fun p => p == 83) 10 ?_
  simp only [oI, oL, oR, o1, lI, lL, lR, popN, catS, gv, stL, stL2, swt, cnd, spObj, List.getElem?_cons_zero, List.getElem?_cons_succ, List.getD_cons_zero, List.getD_cons_succ, List.set_cons_zero, List.set_cons_succ, List.nil_append, List.cons_append, Option.toList, Bool.or_false, Bool.false_or, Bool.or_true, Bool.true_or, Nat.reduceBEq, Nat.reduceAdd, Nat.reduceLT, Nat.reduceLeDiff, Int.reduceAdd, Int.reduceToNat, true_and, and_true, Fin.isValue, Fin.val_zero, Fin.val_one, Fin.val_two, Fin.reduceFinMk, eq_self, Int.reduceNeg, imp_self, Nat.reduceMul, Nat.le_refl, not_true_eq_false, not_false_eq_true, List.getElem?_nil, reduceCtorEq, true_or, or_true, Classical.not_not, implies_true, or_self, wI_0, wI_1, wI_m1, b2i_w, b2i_eq0, b2i_eq1, b2i_bool, nor_self, nx_pI, kd_pI, ln_pI, fI_pI, fL_pI, fR_pI, aI_pI, aL_pI, aR_pI, nx_pL, kd_pL, ln_pL, fI_pL, fL_pL, fR_pL, aI_pL, aL_pL, aR_pL, nx_pR, kd_pR, ln_pR, fI_pR, fL_pR, fR_pR, aI_pR, aL_pR, aR_pR, nx_qI, kd_qI, ln_qI, fI_qI, fL_qI, fR_qI, aI_qI, aL_qI, aR_qI, nx_qL, kd_qL, ln_qL, fI_qL, fL_qL, fR_qL, aI_qL, aL_qL, aR_qL, nx_qR, kd_qR, ln_qR, fI_qR, fL_qR, fR_qR, aI_qR, aL_qR, aR_qR, nx_mk, kd_mk, ln_mk, fI_mk, fL_mk, fR_mk, aI_mk, aL_mk, aR_mk, false_and, and_false, if_false, if_true, and_self, Int.reduceEq, Nat.reduceEqDiff, ite_self, MLay_pI, MLay_pL, MLay_qI, MLay_qL, ev_X4_readLine_77, ev_X4_readLine_78, ev_X4_readLine_80, xt_X4_readLine, xf_X4_readLine, us_X4_isWord, us_X4_refuse, us_X4_nextToken, us_X4_takeAmount, us_X4_takeWord, us_X7_openLine, us_X4_readWhole, us_X4_takeSign, hk, hC, hG, eL, ez]
  repeat' (first | intro z | apply And.intro)
  all_goals try omega
  all_goals try contradiction
  all_goals exact ⟨p, 458690, hR, hW, w1, w2⟩

set_option maxRecDepth 20000 in
theorem rl_41 {Q : Option AV → Hp → Prop} {σ : Hp} {z D p nl : Int} {L : Int → Int} {css : List (List Int)} {n m : Int} (hL : RdL L z D css σ) (hR : RD σ p) (h0 : ¬ isW L z p 4665603421 → Q (some (vi 0)) (pI σ 507 26 (1 + 16 * kB L z p))) (h1 : isW L z p 4665603421 → ∀ σ', RdF D σ σ' → (∀ j, aI σ' (D + 1) j = aI σ (D + 1) j) → (∀ j, aI σ' (D + 2) j = aI σ (D + 2) j) → RdL L z D css σ' → RD σ' (tE L z p) → Go M_X4_readLine Q 77 [some (vr 26), some (vi nl), some (vi n), some (vi m)] [] σ' (0, 0)) : Go M_X4_readLine Q 68 [some (vr 26), some (vi nl), some (vi n), some (vi m)] [] σ (0, 0) := by
  obtain ⟨hk, hC, hX, hG, hT, eL, ez, hD, hO, hkD, hp, hz, r1, r2, r3⟩ := hL.fx hR
  have hW : Wd σ (-3) 4665603421 := hX.2.2.2.1
  have ew : BitVec.ofInt 64 4665603421 = (4665603421 : BitVec 64) := by decide
  have w1 : isW L z p (BitVec.ofInt 64 4665603421) → ∀ σ', Fz tkF noR noR σ σ' → RD σ' (tE L z p) → Go M_X4_readLine Q 74 [some (vr 26), some (vi nl), some (vi n), some (vi m)] [vi 1] σ' (0, 0) := fun c σ' u1 u2 => by
    rw [ew] at c
    have h := h1 c σ' (u1.rl (by decide)) (fun j => by rw [u1.aI (fun q => q)]) (fun j => by rw [u1.aI (fun q => q)]) (RdL.rd hL u1) u2
    clear h0 h1 hL hR hX hT hG hC hW u2
    refine go_X4_readLine (ct := fun p => p == 77 || p == 86) 10 ?_
    simp only [oI, oL, oR, o1, lI, lL, lR, popN, catS, gv, stL, stL2, swt, cnd, spObj, List.getElem?_cons_zero, List.getElem?_cons_succ, List.getD_cons_zero, List.getD_cons_succ, List.set_cons_zero, List.set_cons_succ, List.nil_append, List.cons_append, Option.toList, Bool.or_false, Bool.false_or, Bool.or_true, Bool.true_or, Nat.reduceBEq, Nat.reduceAdd, Nat.reduceLT, Nat.reduceLeDiff, Int.reduceAdd, Int.reduceToNat, true_and, and_true, Fin.isValue, Fin.val_zero, Fin.val_one, Fin.val_two, Fin.reduceFinMk, eq_self, Int.reduceNeg, imp_self, Nat.reduceMul, Nat.le_refl, not_true_eq_false, not_false_eq_true, List.getElem?_nil, reduceCtorEq, true_or, or_true, Classical.not_not, implies_true, or_self, wI_0, wI_1, wI_m1, b2i_w, b2i_eq0, b2i_eq1, b2i_bool, nor_self, nx_pI, kd_pI, ln_pI, fI_pI, fL_pI, fR_pI, aI_pI, aL_pI, aR_pI, nx_pL, kd_pL, ln_pL, fI_pL, fL_pL, fR_pL, aI_pL, aL_pL, aR_pL, nx_pR, kd_pR, ln_pR, fI_pR, fL_pR, fR_pR, aI_pR, aL_pR, aR_pR, nx_qI, kd_qI, ln_qI, fI_qI, fL_qI, fR_qI, aI_qI, aL_qI, aR_qI, nx_qL, kd_qL, ln_qL, fI_qL, fL_qL, fR_qL, aI_qL, aL_qL, aR_qL, nx_qR, kd_qR, ln_qR, fI_qR, fL_qR, fR_qR, aI_qR, aL_qR, aR_qR, nx_mk, kd_mk, ln_mk, fI_mk, fL_mk, fR_mk, aI_mk, aL_mk, aR_mk, false_and, and_false, if_false, if_true, and_self, Int.reduceEq, Nat.reduceEqDiff, ite_self, MLay_pI, MLay_pL, MLay_qI, MLay_qL, ev_X4_readLine_74, xt_X4_readLine, xf_X4_readLine, us_X4_isWord, us_X4_refuse, us_X4_nextToken, us_X4_takeAmount, us_X4_takeWord, us_X7_openLine, us_X4_readWhole, us_X4_takeSign]
    repeat' (first | intro z | apply And.intro)
    all_goals try omega
    all_goals try contradiction
    all_goals exact h
  have w2 : ¬ isW L z p (BitVec.ofInt 64 4665603421) → Go M_X4_readLine Q 74 [some (vr 26), some (vi nl), some (vi n), some (vi m)] [vi 0] (pI σ 507 26 (1 + 16 * kB L z p)) (0, 0) := fun c => by
    rw [ew] at c
    have h := h0 c
    clear h0 h1 hL hR hX hT hG hC hW
    refine go_X4_readLine (ct := fun p => p == 77) 10 ?_
    simp only [oI, oL, oR, o1, lI, lL, lR, popN, catS, gv, stL, stL2, swt, cnd, spObj, List.getElem?_cons_zero, List.getElem?_cons_succ, List.getD_cons_zero, List.getD_cons_succ, List.set_cons_zero, List.set_cons_succ, List.nil_append, List.cons_append, Option.toList, Bool.or_false, Bool.false_or, Bool.or_true, Bool.true_or, Nat.reduceBEq, Nat.reduceAdd, Nat.reduceLT, Nat.reduceLeDiff, Int.reduceAdd, Int.reduceToNat, true_and, and_true, Fin.isValue, Fin.val_zero, Fin.val_one, Fin.val_two, Fin.reduceFinMk, eq_self, Int.reduceNeg, imp_self, Nat.reduceMul, Nat.le_refl, not_true_eq_false, not_false_eq_true, List.getElem?_nil, reduceCtorEq, true_or, or_true, Classical.not_not, implies_true, or_self, wI_0, wI_1, wI_m1, b2i_w, b2i_eq0, b2i_eq1, b2i_bool, nor_self, nx_pI, kd_pI, ln_pI, fI_pI, fL_pI, fR_pI, aI_pI, aL_pI, aR_pI, nx_pL, kd_pL, ln_pL, fI_pL, fL_pL, fR_pL, aI_pL, aL_pL, aR_pL, nx_pR, kd_pR, ln_pR, fI_pR, fL_pR, fR_pR, aI_pR, aL_pR, aR_pR, nx_qI, kd_qI, ln_qI, fI_qI, fL_qI, fR_qI, aI_qI, aL_qI, aR_qI, nx_qL, kd_qL, ln_qL, fI_qL, fL_qL, fR_qL, aI_qL, aL_qL, aR_qL, nx_qR, kd_qR, ln_qR, fI_qR, fL_qR, fR_qR, aI_qR, aL_qR, aR_qR, nx_mk, kd_mk, ln_mk, fI_mk, fL_mk, fR_mk, aI_mk, aL_mk, aR_mk, false_and, and_false, if_false, if_true, and_self, Int.reduceEq, Nat.reduceEqDiff, ite_self, MLay_pI, MLay_pL, MLay_qI, MLay_qL, ev_X4_readLine_74, ev_X4_readLine_86, ev_X4_readLine_87, xt_X4_readLine, xf_X4_readLine, us_X4_isWord, us_X4_refuse, us_X4_nextToken, us_X4_takeAmount, us_X4_takeWord, us_X7_openLine, us_X4_readWhole, us_X4_takeSign]
    repeat' (first | intro z | apply And.intro)
    all_goals try omega
    all_goals try contradiction
    all_goals exact h
  clear h0 h1 hL hX hT ew
  refine go_X4_readLine (ct := fun p => p == 74) 10 ?_
  simp only [oI, oL, oR, o1, lI, lL, lR, popN, catS, gv, stL, stL2, swt, cnd, spObj, List.getElem?_cons_zero, List.getElem?_cons_succ, List.getD_cons_zero, List.getD_cons_succ, List.set_cons_zero, List.set_cons_succ, List.nil_append, List.cons_append, Option.toList, Bool.or_false, Bool.false_or, Bool.or_true, Bool.true_or, Nat.reduceBEq, Nat.reduceAdd, Nat.reduceLT, Nat.reduceLeDiff, Int.reduceAdd, Int.reduceToNat, true_and, and_true, Fin.isValue, Fin.val_zero, Fin.val_one, Fin.val_two, Fin.reduceFinMk, eq_self, Int.reduceNeg, imp_self, Nat.reduceMul, Nat.le_refl, not_true_eq_false, not_false_eq_true, List.getElem?_nil, reduceCtorEq, true_or, or_true, Classical.not_not, implies_true, or_self, wI_0, wI_1, wI_m1, b2i_w, b2i_eq0, b2i_eq1, b2i_bool, nor_self, nx_pI, kd_pI, ln_pI, fI_pI, fL_pI, fR_pI, aI_pI, aL_pI, aR_pI, nx_pL, kd_pL, ln_pL, fI_pL, fL_pL, fR_pL, aI_pL, aL_pL, aR_pL, nx_pR, kd_pR, ln_pR, fI_pR, fL_pR, fR_pR, aI_pR, aL_pR, aR_pR, nx_qI, kd_qI, ln_qI, fI_qI, fL_qI, fR_qI, aI_qI, aL_qI, aR_qI, nx_qL, kd_qL, ln_qL, fI_qL, fL_qL, fR_qL, aI_qL, aL_qL, aR_qL, nx_qR, kd_qR, ln_qR, fI_qR, fL_qR, fR_qR, aI_qR, aL_qR, aR_qR, nx_mk, kd_mk, ln_mk, fI_mk, fL_mk, fR_mk, aI_mk, aL_mk, aR_mk, false_and, and_false, if_false, if_true, and_self, Int.reduceEq, Nat.reduceEqDiff, ite_self, MLay_pI, MLay_pL, MLay_qI, MLay_qL, ev_X4_readLine_68, ev_X4_readLine_69, ev_X4_readLine_71, xt_X4_readLine, xf_X4_readLine, us_X4_isWord, us_X4_refuse, us_X4_nextToken, us_X4_takeAmount, us_X4_takeWord, us_X7_openLine, us_X4_readWhole, us_X4_takeSign, hk, hC, hG, eL, ez]
  repeat' (first | intro z | apply And.intro)
  all_goals try omega
  all_goals try contradiction
  all_goals exact ⟨p, 4665603421, hR, hW, w1, w2⟩

set_option maxRecDepth 20000 in
theorem rl_27 {Q : Option AV → Hp → Prop} {σ : Hp} {z D p nl : Int} {L : Int → Int} {css : List (List Int)} {n : Int} (hL : RdL L z D css σ) (hR : RD σ p) (h0 : ¬ tK L z p = 2 → Q (some (vi 0)) (pI σ 507 26 (1 + 16 * kB L z p))) (h4 : tK L z p = 2 → 9 < tT L z p → Q (some (vi 0)) (pI σ 507 26 (4 + 16 * kB L z p))) (h1 : tK L z p = 2 → tT L z p ≤ 9 → ∀ σ', RdF D σ σ' → (∀ j, aI σ' (D + 1) j = aI σ (D + 1) j) → (∀ j, aI σ' (D + 2) j = aI σ (D + 2) j) → RdL L z D css σ' → RD σ' (tE L z p) → Go M_X4_readLine Q 68 [some (vr 26), some (vi nl), some (vi n), some (vi (tT L z p))] [] σ' (0, 0)) : Go M_X4_readLine Q 54 [some (vr 26), some (vi nl), some (vi n), none] [] σ (0, 0) := by
  obtain ⟨hk, hC, hX, hG, hT, eL, ez, hD, hO, hkD, hp, hz, r1, r2, r3⟩ := hL.fx hR
  have w1 : tK L z p = 2 → tT L z p ≤ 9 → ∀ σ', Fz (506 :: tkF) noR noR σ σ' → RD σ' (tE L z p) → fI σ' 506 26 = tT L z p → Go M_X4_readLine Q 58 [some (vr 26), some (vi nl), some (vi n), none] [vi 1] σ' (0, 0) := fun c c2 σ' u1 u2 u3 => by
    have h := h1 c c2 σ' (u1.rl (by decide)) (fun j => by rw [u1.aI (fun q => q)]) (fun j => by rw [u1.aI (fun q => q)]) (RdL.fz hL u1 (fun f q => q)) u2
    have k2 : kd σ' 26 = 5 := by rw [u1.kd]; exact hk
    clear h0 h1 h4 hL hR hX hT hG hC u2 u1
    refine go_X4_readLine (ct := fun p => p == 68 || p == 61) 10 ?_
    simp only [oI, oL, oR, o1, lI, lL, lR, popN, catS, gv, stL, stL2, swt, cnd, spObj, List.getElem?_cons_zero, List.getElem?_cons_succ, List.getD_cons_zero, List.getD_cons_succ, List.set_cons_zero, List.set_cons_succ, List.nil_append, List.cons_append, Option.toList, Bool.or_false, Bool.false_or, Bool.or_true, Bool.true_or, Nat.reduceBEq, Nat.reduceAdd, Nat.reduceLT, Nat.reduceLeDiff, Int.reduceAdd, Int.reduceToNat, true_and, and_true, Fin.isValue, Fin.val_zero, Fin.val_one, Fin.val_two, Fin.reduceFinMk, eq_self, Int.reduceNeg, imp_self, Nat.reduceMul, Nat.le_refl, not_true_eq_false, not_false_eq_true, List.getElem?_nil, reduceCtorEq, true_or, or_true, Classical.not_not, implies_true, or_self, wI_0, wI_1, wI_m1, b2i_w, b2i_eq0, b2i_eq1, b2i_bool, nor_self, nx_pI, kd_pI, ln_pI, fI_pI, fL_pI, fR_pI, aI_pI, aL_pI, aR_pI, nx_pL, kd_pL, ln_pL, fI_pL, fL_pL, fR_pL, aI_pL, aL_pL, aR_pL, nx_pR, kd_pR, ln_pR, fI_pR, fL_pR, fR_pR, aI_pR, aL_pR, aR_pR, nx_qI, kd_qI, ln_qI, fI_qI, fL_qI, fR_qI, aI_qI, aL_qI, aR_qI, nx_qL, kd_qL, ln_qL, fI_qL, fL_qL, fR_qL, aI_qL, aL_qL, aR_qL, nx_qR, kd_qR, ln_qR, fI_qR, fL_qR, fR_qR, aI_qR, aL_qR, aR_qR, nx_mk, kd_mk, ln_mk, fI_mk, fL_mk, fR_mk, aI_mk, aL_mk, aR_mk, false_and, and_false, if_false, if_true, and_self, Int.reduceEq, Nat.reduceEqDiff, ite_self, MLay_pI, MLay_pL, MLay_qI, MLay_qL, ev_X4_readLine_58, ev_X4_readLine_63, ev_X4_readLine_64, ev_X4_readLine_67, xt_X4_readLine, xf_X4_readLine, us_X4_isWord, us_X4_refuse, us_X4_nextToken, us_X4_takeAmount, us_X4_takeWord, us_X7_openLine, us_X4_readWhole, us_X4_takeSign, k2, u3]
    repeat' (first | intro z | apply And.intro)
    all_goals try omega
    all_goals try contradiction
    all_goals exact h
  have w2 : ¬ tK L z p = 2 → Go M_X4_readLine Q 58 [some (vr 26), some (vi nl), some (vi n), none] [vi 0] (pI σ 507 26 (1 + 16 * kB L z p)) (0, 0) := fun c => by
    have h := h0 c
    clear h0 h1 h4 hL hR hX hT hG hC
    refine go_X4_readLine (ct := fun p => p == 63) 10 ?_
    simp only [oI, oL, oR, o1, lI, lL, lR, popN, catS, gv, stL, stL2, swt, cnd, spObj, List.getElem?_cons_zero, List.getElem?_cons_succ, List.getD_cons_zero, List.getD_cons_succ, List.set_cons_zero, List.set_cons_succ, List.nil_append, List.cons_append, Option.toList, Bool.or_false, Bool.false_or, Bool.or_true, Bool.true_or, Nat.reduceBEq, Nat.reduceAdd, Nat.reduceLT, Nat.reduceLeDiff, Int.reduceAdd, Int.reduceToNat, true_and, and_true, Fin.isValue, Fin.val_zero, Fin.val_one, Fin.val_two, Fin.reduceFinMk, eq_self, Int.reduceNeg, imp_self, Nat.reduceMul, Nat.le_refl, not_true_eq_false, not_false_eq_true, List.getElem?_nil, reduceCtorEq, true_or, or_true, Classical.not_not, implies_true, or_self, wI_0, wI_1, wI_m1, b2i_w, b2i_eq0, b2i_eq1, b2i_bool, nor_self, nx_pI, kd_pI, ln_pI, fI_pI, fL_pI, fR_pI, aI_pI, aL_pI, aR_pI, nx_pL, kd_pL, ln_pL, fI_pL, fL_pL, fR_pL, aI_pL, aL_pL, aR_pL, nx_pR, kd_pR, ln_pR, fI_pR, fL_pR, fR_pR, aI_pR, aL_pR, aR_pR, nx_qI, kd_qI, ln_qI, fI_qI, fL_qI, fR_qI, aI_qI, aL_qI, aR_qI, nx_qL, kd_qL, ln_qL, fI_qL, fL_qL, fR_qL, aI_qL, aL_qL, aR_qL, nx_qR, kd_qR, ln_qR, fI_qR, fL_qR, fR_qR, aI_qR, aL_qR, aR_qR, nx_mk, kd_mk, ln_mk, fI_mk, fL_mk, fR_mk, aI_mk, aL_mk, aR_mk, false_and, and_false, if_false, if_true, and_self, Int.reduceEq, Nat.reduceEqDiff, ite_self, MLay_pI, MLay_pL, MLay_qI, MLay_qL, ev_X4_readLine_58, ev_X4_readLine_61, ev_X4_readLine_62, xt_X4_readLine, xf_X4_readLine, us_X4_isWord, us_X4_refuse, us_X4_nextToken, us_X4_takeAmount, us_X4_takeWord, us_X7_openLine, us_X4_readWhole, us_X4_takeSign]
    repeat' (first | intro z | apply And.intro)
    all_goals try omega
    all_goals try contradiction
    all_goals exact h
  have w3 : tK L z p = 2 → 9 < tT L z p → Go M_X4_readLine Q 58 [some (vr 26), some (vi nl), some (vi n), none] [vi 0] (pI σ 507 26 (4 + 16 * kB L z p)) (0, 0) := fun c c2 => by
    have h := h4 c c2
    clear h0 h1 h4 hL hR hX hT hG hC
    refine go_X4_readLine (ct := fun p => p == 63) 10 ?_
    simp only [oI, oL, oR, o1, lI, lL, lR, popN, catS, gv, stL, stL2, swt, cnd, spObj, List.getElem?_cons_zero, List.getElem?_cons_succ, List.getD_cons_zero, List.getD_cons_succ, List.set_cons_zero, List.set_cons_succ, List.nil_append, List.cons_append, Option.toList, Bool.or_false, Bool.false_or, Bool.or_true, Bool.true_or, Nat.reduceBEq, Nat.reduceAdd, Nat.reduceLT, Nat.reduceLeDiff, Int.reduceAdd, Int.reduceToNat, true_and, and_true, Fin.isValue, Fin.val_zero, Fin.val_one, Fin.val_two, Fin.reduceFinMk, eq_self, Int.reduceNeg, imp_self, Nat.reduceMul, Nat.le_refl, not_true_eq_false, not_false_eq_true, List.getElem?_nil, reduceCtorEq, true_or, or_true, Classical.not_not, implies_true, or_self, wI_0, wI_1, wI_m1, b2i_w, b2i_eq0, b2i_eq1, b2i_bool, nor_self, nx_pI, kd_pI, ln_pI, fI_pI, fL_pI, fR_pI, aI_pI, aL_pI, aR_pI, nx_pL, kd_pL, ln_pL, fI_pL, fL_pL, fR_pL, aI_pL, aL_pL, aR_pL, nx_pR, kd_pR, ln_pR, fI_pR, fL_pR, fR_pR, aI_pR, aL_pR, aR_pR, nx_qI, kd_qI, ln_qI, fI_qI, fL_qI, fR_qI, aI_qI, aL_qI, aR_qI, nx_qL, kd_qL, ln_qL, fI_qL, fL_qL, fR_qL, aI_qL, aL_qL, aR_qL, nx_qR, kd_qR, ln_qR, fI_qR, fL_qR, fR_qR, aI_qR, aL_qR, aR_qR, nx_mk, kd_mk, ln_mk, fI_mk, fL_mk, fR_mk, aI_mk, aL_mk, aR_mk, false_and, and_false, if_false, if_true, and_self, Int.reduceEq, Nat.reduceEqDiff, ite_self, MLay_pI, MLay_pL, MLay_qI, MLay_qL, ev_X4_readLine_58, ev_X4_readLine_61, ev_X4_readLine_62, xt_X4_readLine, xf_X4_readLine, us_X4_isWord, us_X4_refuse, us_X4_nextToken, us_X4_takeAmount, us_X4_takeWord, us_X7_openLine, us_X4_readWhole, us_X4_takeSign]
    repeat' (first | intro z | apply And.intro)
    all_goals try omega
    all_goals try contradiction
    all_goals exact h
  clear h0 h1 h4 hL hX hT
  refine go_X4_readLine (ct := fun p => p == 58) 10 ?_
  simp only [oI, oL, oR, o1, lI, lL, lR, popN, catS, gv, stL, stL2, swt, cnd, spObj, List.getElem?_cons_zero, List.getElem?_cons_succ, List.getD_cons_zero, List.getD_cons_succ, List.set_cons_zero, List.set_cons_succ, List.nil_append, List.cons_append, Option.toList, Bool.or_false, Bool.false_or, Bool.or_true, Bool.true_or, Nat.reduceBEq, Nat.reduceAdd, Nat.reduceLT, Nat.reduceLeDiff, Int.reduceAdd, Int.reduceToNat, true_and, and_true, Fin.isValue, Fin.val_zero, Fin.val_one, Fin.val_two, Fin.reduceFinMk, eq_self, Int.reduceNeg, imp_self, Nat.reduceMul, Nat.le_refl, not_true_eq_false, not_false_eq_true, List.getElem?_nil, reduceCtorEq, true_or, or_true, Classical.not_not, implies_true, or_self, wI_0, wI_1, wI_m1, b2i_w, b2i_eq0, b2i_eq1, b2i_bool, nor_self, nx_pI, kd_pI, ln_pI, fI_pI, fL_pI, fR_pI, aI_pI, aL_pI, aR_pI, nx_pL, kd_pL, ln_pL, fI_pL, fL_pL, fR_pL, aI_pL, aL_pL, aR_pL, nx_pR, kd_pR, ln_pR, fI_pR, fL_pR, fR_pR, aI_pR, aL_pR, aR_pR, nx_qI, kd_qI, ln_qI, fI_qI, fL_qI, fR_qI, aI_qI, aL_qI, aR_qI, nx_qL, kd_qL, ln_qL, fI_qL, fL_qL, fR_qL, aI_qL, aL_qL, aR_qL, nx_qR, kd_qR, ln_qR, fI_qR, fL_qR, fR_qR, aI_qR, aL_qR, aR_qR, nx_mk, kd_mk, ln_mk, fI_mk, fL_mk, fR_mk, aI_mk, aL_mk, aR_mk, false_and, and_false, if_false, if_true, and_self, Int.reduceEq, Nat.reduceEqDiff, ite_self, MLay_pI, MLay_pL, MLay_qI, MLay_qL, ev_X4_readLine_54, ev_X4_readLine_55, xt_X4_readLine, xf_X4_readLine, us_X4_isWord, us_X4_refuse, us_X4_nextToken, us_X4_takeAmount, us_X4_takeWord, us_X7_openLine, us_X4_readWhole, us_X4_takeSign, hk, hC, hG, eL, ez]
  repeat' (first | intro z | apply And.intro)
  all_goals try omega
  all_goals try contradiction
  all_goals exact ⟨p, hR, w1, w2, w3⟩

set_option maxRecDepth 20000 in
theorem rl_18 {Q : Option AV → Hp → Prop} {σ : Hp} {z D p nl : Int} {L : Int → Int} {css : List (List Int)} {n m : Int} (hL : RdL L z D css σ) (hR : RD σ p) (h0 : ¬ isW L z p 2141894737 → Q (some (vi 0)) (pI σ 507 26 (1 + 16 * kB L z p))) (h1 : isW L z p 2141894737 → ∀ σ', RdF D σ σ' → (∀ j, aI σ' (D + 1) j = aI σ (D + 1) j) → (∀ j, aI σ' (D + 2) j = aI σ (D + 2) j) → RdL L z D css σ' → RD σ' (tE L z p) → Go M_X4_readLine Q 54 [some (vr 26), some (vi nl), some (vi n), none] [] σ' (0, 0)) : Go M_X4_readLine Q 45 [some (vr 26), some (vi nl), some (vi n), none] [] σ (0, 0) := by
  obtain ⟨hk, hC, hX, hG, hT, eL, ez, hD, hO, hkD, hp, hz, r1, r2, r3⟩ := hL.fx hR
  have hW : Wd σ (-2) 2141894737 := hX.2.2.1
  have ew : BitVec.ofInt 64 2141894737 = (2141894737 : BitVec 64) := by decide
  have w1 : isW L z p (BitVec.ofInt 64 2141894737) → ∀ σ', Fz tkF noR noR σ σ' → RD σ' (tE L z p) → Go M_X4_readLine Q 51 [some (vr 26), some (vi nl), some (vi n), none] [vi 1] σ' (0, 0) := fun c σ' u1 u2 => by
    rw [ew] at c
    have h := h1 c σ' (u1.rl (by decide)) (fun j => by rw [u1.aI (fun q => q)]) (fun j => by rw [u1.aI (fun q => q)]) (RdL.rd hL u1) u2
    clear h0 h1 hL hR hX hT hG hC hW u2
    refine go_X4_readLine (ct := fun p => p == 54 || p == 61) 10 ?_
    simp only [oI, oL, oR, o1, lI, lL, lR, popN, catS, gv, stL, stL2, swt, cnd, spObj, List.getElem?_cons_zero, List.getElem?_cons_succ, List.getD_cons_zero, List.getD_cons_succ, List.set_cons_zero, List.set_cons_succ, List.nil_append, List.cons_append, Option.toList, Bool.or_false, Bool.false_or, Bool.or_true, Bool.true_or, Nat.reduceBEq, Nat.reduceAdd, Nat.reduceLT, Nat.reduceLeDiff, Int.reduceAdd, Int.reduceToNat, true_and, and_true, Fin.isValue, Fin.val_zero, Fin.val_one, Fin.val_two, Fin.reduceFinMk, eq_self, Int.reduceNeg, imp_self, Nat.reduceMul, Nat.le_refl, not_true_eq_false, not_false_eq_true, List.getElem?_nil, reduceCtorEq, true_or, or_true, Classical.not_not, implies_true, or_self, wI_0, wI_1, wI_m1, b2i_w, b2i_eq0, b2i_eq1, b2i_bool, nor_self, nx_pI, kd_pI, ln_pI, fI_pI, fL_pI, fR_pI, aI_pI, aL_pI, aR_pI, nx_pL, kd_pL, ln_pL, fI_pL, fL_pL, fR_pL, aI_pL, aL_pL, aR_pL, nx_pR, kd_pR, ln_pR, fI_pR, fL_pR, fR_pR, aI_pR, aL_pR, aR_pR, nx_qI, kd_qI, ln_qI, fI_qI, fL_qI, fR_qI, aI_qI, aL_qI, aR_qI, nx_qL, kd_qL, ln_qL, fI_qL, fL_qL, fR_qL, aI_qL, aL_qL, aR_qL, nx_qR, kd_qR, ln_qR, fI_qR, fL_qR, fR_qR, aI_qR, aL_qR, aR_qR, nx_mk, kd_mk, ln_mk, fI_mk, fL_mk, fR_mk, aI_mk, aL_mk, aR_mk, false_and, and_false, if_false, if_true, and_self, Int.reduceEq, Nat.reduceEqDiff, ite_self, MLay_pI, MLay_pL, MLay_qI, MLay_qL, ev_X4_readLine_51, xt_X4_readLine, xf_X4_readLine, us_X4_isWord, us_X4_refuse, us_X4_nextToken, us_X4_takeAmount, us_X4_takeWord, us_X7_openLine, us_X4_readWhole, us_X4_takeSign]
    repeat' (first | intro z | apply And.intro)
    all_goals try omega
    all_goals try contradiction
    all_goals exact h
  have w2 : ¬ isW L z p (BitVec.ofInt 64 2141894737) → Go M_X4_readLine Q 51 [some (vr 26), some (vi nl), some (vi n), none] [vi 0] (pI σ 507 26 (1 + 16 * kB L z p)) (0, 0) := fun c => by
    rw [ew] at c
    have h := h0 c
    clear h0 h1 hL hR hX hT hG hC hW
    refine go_X4_readLine (ct := fun p => p == 54) 10 ?_
    simp only [oI, oL, oR, o1, lI, lL, lR, popN, catS, gv, stL, stL2, swt, cnd, spObj, List.getElem?_cons_zero, List.getElem?_cons_succ, List.getD_cons_zero, List.getD_cons_succ, List.set_cons_zero, List.set_cons_succ, List.nil_append, List.cons_append, Option.toList, Bool.or_false, Bool.false_or, Bool.or_true, Bool.true_or, Nat.reduceBEq, Nat.reduceAdd, Nat.reduceLT, Nat.reduceLeDiff, Int.reduceAdd, Int.reduceToNat, true_and, and_true, Fin.isValue, Fin.val_zero, Fin.val_one, Fin.val_two, Fin.reduceFinMk, eq_self, Int.reduceNeg, imp_self, Nat.reduceMul, Nat.le_refl, not_true_eq_false, not_false_eq_true, List.getElem?_nil, reduceCtorEq, true_or, or_true, Classical.not_not, implies_true, or_self, wI_0, wI_1, wI_m1, b2i_w, b2i_eq0, b2i_eq1, b2i_bool, nor_self, nx_pI, kd_pI, ln_pI, fI_pI, fL_pI, fR_pI, aI_pI, aL_pI, aR_pI, nx_pL, kd_pL, ln_pL, fI_pL, fL_pL, fR_pL, aI_pL, aL_pL, aR_pL, nx_pR, kd_pR, ln_pR, fI_pR, fL_pR, fR_pR, aI_pR, aL_pR, aR_pR, nx_qI, kd_qI, ln_qI, fI_qI, fL_qI, fR_qI, aI_qI, aL_qI, aR_qI, nx_qL, kd_qL, ln_qL, fI_qL, fL_qL, fR_qL, aI_qL, aL_qL, aR_qL, nx_qR, kd_qR, ln_qR, fI_qR, fL_qR, fR_qR, aI_qR, aL_qR, aR_qR, nx_mk, kd_mk, ln_mk, fI_mk, fL_mk, fR_mk, aI_mk, aL_mk, aR_mk, false_and, and_false, if_false, if_true, and_self, Int.reduceEq, Nat.reduceEqDiff, ite_self, MLay_pI, MLay_pL, MLay_qI, MLay_qL, ev_X4_readLine_51, ev_X4_readLine_61, ev_X4_readLine_62, xt_X4_readLine, xf_X4_readLine, us_X4_isWord, us_X4_refuse, us_X4_nextToken, us_X4_takeAmount, us_X4_takeWord, us_X7_openLine, us_X4_readWhole, us_X4_takeSign]
    repeat' (first | intro z | apply And.intro)
    all_goals try omega
    all_goals try contradiction
    all_goals exact h
  clear h0 h1 hL hX hT ew
  refine go_X4_readLine (ct := fun p => p == 51) 10 ?_
  simp only [oI, oL, oR, o1, lI, lL, lR, popN, catS, gv, stL, stL2, swt, cnd, spObj, List.getElem?_cons_zero, List.getElem?_cons_succ, List.getD_cons_zero, List.getD_cons_succ, List.set_cons_zero, List.set_cons_succ, List.nil_append, List.cons_append, Option.toList, Bool.or_false, Bool.false_or, Bool.or_true, Bool.true_or, Nat.reduceBEq, Nat.reduceAdd, Nat.reduceLT, Nat.reduceLeDiff, Int.reduceAdd, Int.reduceToNat, true_and, and_true, Fin.isValue, Fin.val_zero, Fin.val_one, Fin.val_two, Fin.reduceFinMk, eq_self, Int.reduceNeg, imp_self, Nat.reduceMul, Nat.le_refl, not_true_eq_false, not_false_eq_true, List.getElem?_nil, reduceCtorEq, true_or, or_true, Classical.not_not, implies_true, or_self, wI_0, wI_1, wI_m1, b2i_w, b2i_eq0, b2i_eq1, b2i_bool, nor_self, nx_pI, kd_pI, ln_pI, fI_pI, fL_pI, fR_pI, aI_pI, aL_pI, aR_pI, nx_pL, kd_pL, ln_pL, fI_pL, fL_pL, fR_pL, aI_pL, aL_pL, aR_pL, nx_pR, kd_pR, ln_pR, fI_pR, fL_pR, fR_pR, aI_pR, aL_pR, aR_pR, nx_qI, kd_qI, ln_qI, fI_qI, fL_qI, fR_qI, aI_qI, aL_qI, aR_qI, nx_qL, kd_qL, ln_qL, fI_qL, fL_qL, fR_qL, aI_qL, aL_qL, aR_qL, nx_qR, kd_qR, ln_qR, fI_qR, fL_qR, fR_qR, aI_qR, aL_qR, aR_qR, nx_mk, kd_mk, ln_mk, fI_mk, fL_mk, fR_mk, aI_mk, aL_mk, aR_mk, false_and, and_false, if_false, if_true, and_self, Int.reduceEq, Nat.reduceEqDiff, ite_self, MLay_pI, MLay_pL, MLay_qI, MLay_qL, ev_X4_readLine_45, ev_X4_readLine_46, ev_X4_readLine_48, xt_X4_readLine, xf_X4_readLine, us_X4_isWord, us_X4_refuse, us_X4_nextToken, us_X4_takeAmount, us_X4_takeWord, us_X7_openLine, us_X4_readWhole, us_X4_takeSign, hk, hC, hG, eL, ez]
  repeat' (first | intro z | apply And.intro)
  all_goals try omega
  all_goals try contradiction
  all_goals exact ⟨p, 2141894737, hR, hW, w1, w2⟩

set_option maxRecDepth 20000 in
theorem rl_4 {Q : Option AV → Hp → Prop} {σ : Hp} {z D p nl : Int} {L : Int → Int} {css : List (List Int)} {n : Int} (hL : RdL L z D css σ) (hR : RD σ p) (h0 : ¬ tK L z p = 2 → Q (some (vi 0)) (pI σ 507 26 (1 + 16 * kB L z p))) (h4 : tK L z p = 2 → 9 < tT L z p → Q (some (vi 0)) (pI σ 507 26 (4 + 16 * kB L z p))) (h1 : tK L z p = 2 → tT L z p ≤ 9 → ∀ σ', RdF D σ σ' → (∀ j, aI σ' (D + 1) j = aI σ (D + 1) j) → (∀ j, aI σ' (D + 2) j = aI σ (D + 2) j) → RdL L z D css σ' → RD σ' (tE L z p) → Go M_X4_readLine Q 45 [some (vr 26), some (vi nl), some (vi (tT L z p)), none] [] σ' (0, 0)) : Go M_X4_readLine Q 31 [some (vr 26), some (vi nl), none, none] [] σ (0, 0) := by
  obtain ⟨hk, hC, hX, hG, hT, eL, ez, hD, hO, hkD, hp, hz, r1, r2, r3⟩ := hL.fx hR
  have w1 : tK L z p = 2 → tT L z p ≤ 9 → ∀ σ', Fz (506 :: tkF) noR noR σ σ' → RD σ' (tE L z p) → fI σ' 506 26 = tT L z p → Go M_X4_readLine Q 35 [some (vr 26), some (vi nl), none, none] [vi 1] σ' (0, 0) := fun c c2 σ' u1 u2 u3 => by
    have h := h1 c c2 σ' (u1.rl (by decide)) (fun j => by rw [u1.aI (fun q => q)]) (fun j => by rw [u1.aI (fun q => q)]) (RdL.fz hL u1 (fun f q => q)) u2
    have k2 : kd σ' 26 = 5 := by rw [u1.kd]; exact hk
    clear h0 h1 h4 hL hR hX hT hG hC u2 u1
    refine go_X4_readLine (ct := fun p => p == 45 || p == 38) 10 ?_
    simp only [oI, oL, oR, o1, lI, lL, lR, popN, catS, gv, stL, stL2, swt, cnd, spObj, List.getElem?_cons_zero, List.getElem?_cons_succ, List.getD_cons_zero, List.getD_cons_succ, List.set_cons_zero, List.set_cons_succ, List.nil_append, List.cons_append, Option.toList, Bool.or_false, Bool.false_or, Bool.or_true, Bool.true_or, Nat.reduceBEq, Nat.reduceAdd, Nat.reduceLT, Nat.reduceLeDiff, Int.reduceAdd, Int.reduceToNat, true_and, and_true, Fin.isValue, Fin.val_zero, Fin.val_one, Fin.val_two, Fin.reduceFinMk, eq_self, Int.reduceNeg, imp_self, Nat.reduceMul, Nat.le_refl, not_true_eq_false, not_false_eq_true, List.getElem?_nil, reduceCtorEq, true_or, or_true, Classical.not_not, implies_true, or_self, wI_0, wI_1, wI_m1, b2i_w, b2i_eq0, b2i_eq1, b2i_bool, nor_self, nx_pI, kd_pI, ln_pI, fI_pI, fL_pI, fR_pI, aI_pI, aL_pI, aR_pI, nx_pL, kd_pL, ln_pL, fI_pL, fL_pL, fR_pL, aI_pL, aL_pL, aR_pL, nx_pR, kd_pR, ln_pR, fI_pR, fL_pR, fR_pR, aI_pR, aL_pR, aR_pR, nx_qI, kd_qI, ln_qI, fI_qI, fL_qI, fR_qI, aI_qI, aL_qI, aR_qI, nx_qL, kd_qL, ln_qL, fI_qL, fL_qL, fR_qL, aI_qL, aL_qL, aR_qL, nx_qR, kd_qR, ln_qR, fI_qR, fL_qR, fR_qR, aI_qR, aL_qR, aR_qR, nx_mk, kd_mk, ln_mk, fI_mk, fL_mk, fR_mk, aI_mk, aL_mk, aR_mk, false_and, and_false, if_false, if_true, and_self, Int.reduceEq, Nat.reduceEqDiff, ite_self, MLay_pI, MLay_pL, MLay_qI, MLay_qL, ev_X4_readLine_35, ev_X4_readLine_40, ev_X4_readLine_41, ev_X4_readLine_44, xt_X4_readLine, xf_X4_readLine, us_X4_isWord, us_X4_refuse, us_X4_nextToken, us_X4_takeAmount, us_X4_takeWord, us_X7_openLine, us_X4_readWhole, us_X4_takeSign, k2, u3]
    repeat' (first | intro z | apply And.intro)
    all_goals try omega
    all_goals try contradiction
    all_goals exact h
  have w2 : ¬ tK L z p = 2 → Go M_X4_readLine Q 35 [some (vr 26), some (vi nl), none, none] [vi 0] (pI σ 507 26 (1 + 16 * kB L z p)) (0, 0) := fun c => by
    have h := h0 c
    clear h0 h1 h4 hL hR hX hT hG hC
    refine go_X4_readLine (ct := fun p => p == 40) 10 ?_
    simp only [oI, oL, oR, o1, lI, lL, lR, popN, catS, gv, stL, stL2, swt, cnd, spObj, List.getElem?_cons_zero, List.getElem?_cons_succ, List.getD_cons_zero, List.getD_cons_succ, List.set_cons_zero, List.set_cons_succ, List.nil_append, List.cons_append, Option.toList, Bool.or_false, Bool.false_or, Bool.or_true, Bool.true_or, Nat.reduceBEq, Nat.reduceAdd, Nat.reduceLT, Nat.reduceLeDiff, Int.reduceAdd, Int.reduceToNat, true_and, and_true, Fin.isValue, Fin.val_zero, Fin.val_one, Fin.val_two, Fin.reduceFinMk, eq_self, Int.reduceNeg, imp_self, Nat.reduceMul, Nat.le_refl, not_true_eq_false, not_false_eq_true, List.getElem?_nil, reduceCtorEq, true_or, or_true, Classical.not_not, implies_true, or_self, wI_0, wI_1, wI_m1, b2i_w, b2i_eq0, b2i_eq1, b2i_bool, nor_self, nx_pI, kd_pI, ln_pI, fI_pI, fL_pI, fR_pI, aI_pI, aL_pI, aR_pI, nx_pL, kd_pL, ln_pL, fI_pL, fL_pL, fR_pL, aI_pL, aL_pL, aR_pL, nx_pR, kd_pR, ln_pR, fI_pR, fL_pR, fR_pR, aI_pR, aL_pR, aR_pR, nx_qI, kd_qI, ln_qI, fI_qI, fL_qI, fR_qI, aI_qI, aL_qI, aR_qI, nx_qL, kd_qL, ln_qL, fI_qL, fL_qL, fR_qL, aI_qL, aL_qL, aR_qL, nx_qR, kd_qR, ln_qR, fI_qR, fL_qR, fR_qR, aI_qR, aL_qR, aR_qR, nx_mk, kd_mk, ln_mk, fI_mk, fL_mk, fR_mk, aI_mk, aL_mk, aR_mk, false_and, and_false, if_false, if_true, and_self, Int.reduceEq, Nat.reduceEqDiff, ite_self, MLay_pI, MLay_pL, MLay_qI, MLay_qL, ev_X4_readLine_35, ev_X4_readLine_38, ev_X4_readLine_39, xt_X4_readLine, xf_X4_readLine, us_X4_isWord, us_X4_refuse, us_X4_nextToken, us_X4_takeAmount, us_X4_takeWord, us_X7_openLine, us_X4_readWhole, us_X4_takeSign]
    repeat' (first | intro z | apply And.intro)
    all_goals try omega
    all_goals try contradiction
    all_goals exact h
  have w3 : tK L z p = 2 → 9 < tT L z p → Go M_X4_readLine Q 35 [some (vr 26), some (vi nl), none, none] [vi 0] (pI σ 507 26 (4 + 16 * kB L z p)) (0, 0) := fun c c2 => by
    have h := h4 c c2
    clear h0 h1 h4 hL hR hX hT hG hC
    refine go_X4_readLine (ct := fun p => p == 40) 10 ?_
    simp only [oI, oL, oR, o1, lI, lL, lR, popN, catS, gv, stL, stL2, swt, cnd, spObj, List.getElem?_cons_zero, List.getElem?_cons_succ, List.getD_cons_zero, List.getD_cons_succ, List.set_cons_zero, List.set_cons_succ, List.nil_append, List.cons_append, Option.toList, Bool.or_false, Bool.false_or, Bool.or_true, Bool.true_or, Nat.reduceBEq, Nat.reduceAdd, Nat.reduceLT, Nat.reduceLeDiff, Int.reduceAdd, Int.reduceToNat, true_and, and_true, Fin.isValue, Fin.val_zero, Fin.val_one, Fin.val_two, Fin.reduceFinMk, eq_self, Int.reduceNeg, imp_self, Nat.reduceMul, Nat.le_refl, not_true_eq_false, not_false_eq_true, List.getElem?_nil, reduceCtorEq, true_or, or_true, Classical.not_not, implies_true, or_self, wI_0, wI_1, wI_m1, b2i_w, b2i_eq0, b2i_eq1, b2i_bool, nor_self, nx_pI, kd_pI, ln_pI, fI_pI, fL_pI, fR_pI, aI_pI, aL_pI, aR_pI, nx_pL, kd_pL, ln_pL, fI_pL, fL_pL, fR_pL, aI_pL, aL_pL, aR_pL, nx_pR, kd_pR, ln_pR, fI_pR, fL_pR, fR_pR, aI_pR, aL_pR, aR_pR, nx_qI, kd_qI, ln_qI, fI_qI, fL_qI, fR_qI, aI_qI, aL_qI, aR_qI, nx_qL, kd_qL, ln_qL, fI_qL, fL_qL, fR_qL, aI_qL, aL_qL, aR_qL, nx_qR, kd_qR, ln_qR, fI_qR, fL_qR, fR_qR, aI_qR, aL_qR, aR_qR, nx_mk, kd_mk, ln_mk, fI_mk, fL_mk, fR_mk, aI_mk, aL_mk, aR_mk, false_and, and_false, if_false, if_true, and_self, Int.reduceEq, Nat.reduceEqDiff, ite_self, MLay_pI, MLay_pL, MLay_qI, MLay_qL, ev_X4_readLine_35, ev_X4_readLine_38, ev_X4_readLine_39, xt_X4_readLine, xf_X4_readLine, us_X4_isWord, us_X4_refuse, us_X4_nextToken, us_X4_takeAmount, us_X4_takeWord, us_X7_openLine, us_X4_readWhole, us_X4_takeSign]
    repeat' (first | intro z | apply And.intro)
    all_goals try omega
    all_goals try contradiction
    all_goals exact h
  clear h0 h1 h4 hL hX hT
  refine go_X4_readLine (ct := fun p => p == 35) 10 ?_
  simp only [oI, oL, oR, o1, lI, lL, lR, popN, catS, gv, stL, stL2, swt, cnd, spObj, List.getElem?_cons_zero, List.getElem?_cons_succ, List.getD_cons_zero, List.getD_cons_succ, List.set_cons_zero, List.set_cons_succ, List.nil_append, List.cons_append, Option.toList, Bool.or_false, Bool.false_or, Bool.or_true, Bool.true_or, Nat.reduceBEq, Nat.reduceAdd, Nat.reduceLT, Nat.reduceLeDiff, Int.reduceAdd, Int.reduceToNat, true_and, and_true, Fin.isValue, Fin.val_zero, Fin.val_one, Fin.val_two, Fin.reduceFinMk, eq_self, Int.reduceNeg, imp_self, Nat.reduceMul, Nat.le_refl, not_true_eq_false, not_false_eq_true, List.getElem?_nil, reduceCtorEq, true_or, or_true, Classical.not_not, implies_true, or_self, wI_0, wI_1, wI_m1, b2i_w, b2i_eq0, b2i_eq1, b2i_bool, nor_self, nx_pI, kd_pI, ln_pI, fI_pI, fL_pI, fR_pI, aI_pI, aL_pI, aR_pI, nx_pL, kd_pL, ln_pL, fI_pL, fL_pL, fR_pL, aI_pL, aL_pL, aR_pL, nx_pR, kd_pR, ln_pR, fI_pR, fL_pR, fR_pR, aI_pR, aL_pR, aR_pR, nx_qI, kd_qI, ln_qI, fI_qI, fL_qI, fR_qI, aI_qI, aL_qI, aR_qI, nx_qL, kd_qL, ln_qL, fI_qL, fL_qL, fR_qL, aI_qL, aL_qL, aR_qL, nx_qR, kd_qR, ln_qR, fI_qR, fL_qR, fR_qR, aI_qR, aL_qR, aR_qR, nx_mk, kd_mk, ln_mk, fI_mk, fL_mk, fR_mk, aI_mk, aL_mk, aR_mk, false_and, and_false, if_false, if_true, and_self, Int.reduceEq, Nat.reduceEqDiff, ite_self, MLay_pI, MLay_pL, MLay_qI, MLay_qL, ev_X4_readLine_31, ev_X4_readLine_32, xt_X4_readLine, xf_X4_readLine, us_X4_isWord, us_X4_refuse, us_X4_nextToken, us_X4_takeAmount, us_X4_takeWord, us_X7_openLine, us_X4_readWhole, us_X4_takeSign, hk, hC, hG, eL, ez]
  repeat' (first | intro z | apply And.intro)
  all_goals try omega
  all_goals try contradiction
  all_goals exact ⟨p, hR, w1, w2, w3⟩

set_option maxRecDepth 20000 in
theorem c_X4_readLine : Ct yX4_readLine cX4_readLine 4 ((some FieldType.boolean)) 40 0 0 sp_X4_readLine := by
  refine Ct.go (M := M_X4_readLine) mm_X4_readLine fun av σ Q h0 => ?_
  obtain ⟨this, nl, rfl, hk, h⟩ := el_X4_readLine h0
  clear h0
  refine ⟨Nat.le_of_ble_eq_true rfl, ?_⟩
  show Go M_X4_readLine Q 0 [some (vr this), some (vi nl), none, none] [] σ (0, 0)
  obtain ⟨rfl, L, z, D, css, p, hL, hR, rfl, hc, hf, h0, h1⟩ := h
  obtain ⟨hk9, hC, hX, hG, hT, eL, ez, hD, hO, hkD, hp, hz, r1, r2, r3⟩ := hL.fx hR
  have t0 := tok_in L hp.2
  have t1 := tok_in L t0.2.2.2.1
  have t2 := tok_in L t1.2.2.2.1
  have t3 := tok_in L t2.2.2.2.1
  have t4 := tok_in L t3.2.2.2.1
  have t5 := tok_in L t4.2.2.2.1
  have bd : ∀ (f q : Int), 0 ≤ q → q ≤ z → (f = 1 ∨ f = 4 ∨ f = 5) → f + 16 * kB L z q ≠ 0 := fun f q a b e => by
    have := kB_in L b
    omega
  have hkb := kB_in L hp.2
  have hpl : 0 ≤ kB L z p ∧ kB L z p ≤ 1000 := by omega
  have hW : Wd σ (-1) 378004 := hX.2.1
  have ew : BitVec.ofInt 64 378004 = (378004 : BitVec 64) := by decide
  have w6 : Go M_X4_readLine Q 6 [some (vr 26), some (vi css.length), none, none] [vi (b2i (isW L z p (BitVec.ofInt 64 378004)))] σ (0, 0) := by
    rw [ew]
    by_cases hj : ¬ isW L z p 378004
    · have e : lnR L z css.length p = bad L z 1 p := by
        unfold lnR
        rw [if_pos hj]
      rw [e] at h0
      have h := h0 (bd 1 _ hp.1 hp.2 (by omega)) _ (RdF.flt σ (1 + 16 * kB L z p)) (by rw [fI_pI, if_pos ⟨rfl, rfl⟩]; rfl)
      rw [b2i_f hj]
      clear h0 h1 hL hR hX hT hG hC hW bd
      refine go_X4_readLine (ct := fun p => p == 15) 20 ?_
      simp only [oI, oL, oR, o1, lI, lL, lR, popN, catS, gv, stL, stL2, swt, cnd, spObj, List.getElem?_cons_zero, List.getElem?_cons_succ, List.getD_cons_zero, List.getD_cons_succ, List.set_cons_zero, List.set_cons_succ, List.nil_append, List.cons_append, Option.toList, Bool.or_false, Bool.false_or, Bool.or_true, Bool.true_or, Nat.reduceBEq, Nat.reduceAdd, Nat.reduceLT, Nat.reduceLeDiff, Int.reduceAdd, Int.reduceToNat, true_and, and_true, Fin.isValue, Fin.val_zero, Fin.val_one, Fin.val_two, Fin.reduceFinMk, eq_self, Int.reduceNeg, imp_self, Nat.reduceMul, Nat.le_refl, not_true_eq_false, not_false_eq_true, List.getElem?_nil, reduceCtorEq, true_or, or_true, Classical.not_not, implies_true, or_self, wI_0, wI_1, wI_m1, b2i_w, b2i_eq0, b2i_eq1, b2i_bool, nor_self, nx_pI, kd_pI, ln_pI, fI_pI, fL_pI, fR_pI, aI_pI, aL_pI, aR_pI, nx_pL, kd_pL, ln_pL, fI_pL, fL_pL, fR_pL, aI_pL, aL_pL, aR_pL, nx_pR, kd_pR, ln_pR, fI_pR, fL_pR, fR_pR, aI_pR, aL_pR, aR_pR, nx_qI, kd_qI, ln_qI, fI_qI, fL_qI, fR_qI, aI_qI, aL_qI, aR_qI, nx_qL, kd_qL, ln_qL, fI_qL, fL_qL, fR_qL, aI_qL, aL_qL, aR_qL, nx_qR, kd_qR, ln_qR, fI_qR, fL_qR, fR_qR, aI_qR, aL_qR, aR_qR, nx_mk, kd_mk, ln_mk, fI_mk, fL_mk, fR_mk, aI_mk, aL_mk, aR_mk, false_and, and_false, if_false, if_true, and_self, Int.reduceEq, Nat.reduceEqDiff, ite_self, MLay_pI, MLay_pL, MLay_qI, MLay_qL, ev_X4_readLine_6, ev_X4_readLine_9, ev_X4_readLine_10, ev_X4_readLine_11, ev_X4_readLine_14, xt_X4_readLine, xf_X4_readLine, us_X4_isWord, us_X4_refuse, us_X4_nextToken, us_X4_takeAmount, us_X4_takeWord, us_X7_openLine, us_X4_readWhole, us_X4_takeSign, hk, r1, hpl]
      repeat' (first | intro z | apply And.intro)
      all_goals try omega
      all_goals try contradiction
      all_goals exact h
    have hj := Classical.not_not.mp hj
    rw [b2i_t hj]
    have w15 : Go M_X4_readLine Q 15 [some (vr 26), some (vi css.length), none, none] [] σ (0, 0) := by
      by_cases c24 : css.length = 24
      · have e : lnR L z css.length p = bad L z 5 p := by
          unfold lnR
          rw [if_neg (fun q => q hj), if_pos (by omega)]
        rw [e] at h0
        have h := h0 (bd 5 _ hp.1 hp.2 (by omega)) _ (RdF.flt σ (5 + 16 * kB L z p)) (by rw [fI_pI, if_pos ⟨rfl, rfl⟩]; rfl)
        have e24 : (css.length : Int) = 24 := by omega
        rw [e24]
        clear h0 h1 hL hR hX hT hG hC hW bd
        refine go_X4_readLine (ct := fun p => p == 27) 20 ?_
        simp only [oI, oL, oR, o1, lI, lL, lR, popN, catS, gv, stL, stL2, swt, cnd, spObj, List.getElem?_cons_zero, List.getElem?_cons_succ, List.getD_cons_zero, List.getD_cons_succ, List.set_cons_zero, List.set_cons_succ, List.nil_append, List.cons_append, Option.toList, Bool.or_false, Bool.false_or, Bool.or_true, Bool.true_or, Nat.reduceBEq, Nat.reduceAdd, Nat.reduceLT, Nat.reduceLeDiff, Int.reduceAdd, Int.reduceToNat, true_and, and_true, Fin.isValue, Fin.val_zero, Fin.val_one, Fin.val_two, Fin.reduceFinMk, eq_self, Int.reduceNeg, imp_self, Nat.reduceMul, Nat.le_refl, not_true_eq_false, not_false_eq_true, List.getElem?_nil, reduceCtorEq, true_or, or_true, Classical.not_not, implies_true, or_self, wI_0, wI_1, wI_m1, b2i_w, b2i_eq0, b2i_eq1, b2i_bool, nor_self, nx_pI, kd_pI, ln_pI, fI_pI, fL_pI, fR_pI, aI_pI, aL_pI, aR_pI, nx_pL, kd_pL, ln_pL, fI_pL, fL_pL, fR_pL, aI_pL, aL_pL, aR_pL, nx_pR, kd_pR, ln_pR, fI_pR, fL_pR, fR_pR, aI_pR, aL_pR, aR_pR, nx_qI, kd_qI, ln_qI, fI_qI, fL_qI, fR_qI, aI_qI, aL_qI, aR_qI, nx_qL, kd_qL, ln_qL, fI_qL, fL_qL, fR_qL, aI_qL, aL_qL, aR_qL, nx_qR, kd_qR, ln_qR, fI_qR, fL_qR, fR_qR, aI_qR, aL_qR, aR_qR, nx_mk, kd_mk, ln_mk, fI_mk, fL_mk, fR_mk, aI_mk, aL_mk, aR_mk, false_and, and_false, if_false, if_true, and_self, Int.reduceEq, Nat.reduceEqDiff, ite_self, MLay_pI, MLay_pL, MLay_qI, MLay_qL, ev_X4_readLine_15, ev_X4_readLine_16, ev_X4_readLine_18, ev_X4_readLine_21, ev_X4_readLine_22, ev_X4_readLine_23, ev_X4_readLine_26, xt_X4_readLine, xf_X4_readLine, us_X4_isWord, us_X4_refuse, us_X4_nextToken, us_X4_takeAmount, us_X4_takeWord, us_X7_openLine, us_X4_readWhole, us_X4_takeSign, hk, r1, hpl]
        try simp (disch := omega) only [wI_id, dv_nn, rm_nn]
        repeat' (first | intro z | apply And.intro)
        all_goals try omega
        all_goals try contradiction
        all_goals exact h
      have hl24 : css.length < 24 := by omega
      unfold lnR at h0 h1
      rw [if_neg (fun q => q hj), if_neg (by omega)] at h0 h1
      have w31 : ∀ σ1, RdF D σ σ1 → (∀ j, aI σ1 (D + 1) j = aI σ (D + 1) j) → (∀ j, aI σ1 (D + 2) j = aI σ (D + 2) j) → RdL L z D css σ1 → RD σ1 (tE L z p) → Go M_X4_readLine Q 31 [some (vr 26), some (vi css.length), none, none] [] σ1 (0, 0) := fun σ1 y1 n1 m1 L1 R1 => by
        refine rl_4 (n := 0) L1 R1 (fun c => ?_) (fun c c2 => ?_) (fun c c2 σ2 y2 n2 m2 L2 R2 => ?_)
        · rw [if_pos c] at h0
          exact h0 (bd 1 _ (by omega) (by omega) (by omega)) _ (y1.tr (RdF.flt σ1 _)) (by rw [fI_pI, if_pos ⟨rfl, rfl⟩]; rfl)
        · rw [if_neg (fun q => q c), if_pos c2] at h0
          exact h0 (bd 4 _ (by omega) (by omega) (by omega)) _ (y1.tr (RdF.flt σ1 _)) (by rw [fI_pI, if_pos ⟨rfl, rfl⟩]; rfl)
        rw [if_neg (fun q => q c), if_neg (by omega)] at h0 h1
        have y2 := y1.tr y2
        refine rl_18 (m := 0) L2 R2 (fun c => ?_) (fun c σ3 y3 n3 m3 L3 R3 => ?_)
        · rw [if_pos c] at h0
          exact h0 (bd 1 _ (by omega) (by omega) (by omega)) _ (y2.tr (RdF.flt σ2 _)) (by rw [fI_pI, if_pos ⟨rfl, rfl⟩]; rfl)
        rw [if_neg (fun q => q c)] at h0 h1
        have y3 := y2.tr y3
        refine rl_27 L3 R3 (fun c => ?_) (fun c c2 => ?_) (fun c c2 σ4 y4 n4 m4 L4 R4 => ?_)
        · rw [if_pos c] at h0
          exact h0 (bd 1 _ (by omega) (by omega) (by omega)) _ (y3.tr (RdF.flt σ3 _)) (by rw [fI_pI, if_pos ⟨rfl, rfl⟩]; rfl)
        · rw [if_neg (fun q => q c), if_pos c2] at h0
          exact h0 (bd 4 _ (by omega) (by omega) (by omega)) _ (y3.tr (RdF.flt σ3 _)) (by rw [fI_pI, if_pos ⟨rfl, rfl⟩]; rfl)
        rw [if_neg (fun q => q c), if_neg (by omega)] at h0 h1
        have y4 := y3.tr y4
        refine rl_41 L4 R4 (fun c => ?_) (fun c σ5 y5 n5 m5 L5 R5 => ?_)
        · rw [if_pos c] at h0
          exact h0 (bd 1 _ (by omega) (by omega) (by omega)) _ (y4.tr (RdF.flt σ4 _)) (by rw [fI_pI, if_pos ⟨rfl, rfl⟩]; rfl)
        rw [if_neg (fun q => q c)] at h0 h1
        have y5 := y4.tr y5
        refine rl_50 L5 R5 (fun c => ?_) (fun c σ6 y6 n6 m6 L6 R6 => ?_)
        · rw [if_pos c] at h0
          exact h0 (bd 1 _ (by omega) (by omega) (by omega)) _ (y5.tr (RdF.flt σ5 _)) (by rw [fI_pI, if_pos ⟨rfl, rfl⟩]; rfl)
        rw [if_neg (fun q => q c)] at h0 h1
        have y6 := y5.tr y6
        refine rl_61 L6 R6 hl24 (by omega) (fun q σ7 y7 e7 => h0 q σ7 (y6.tr y7) e7) (fun q σ7 y7 L7 R7 n7 m7 => h1 q σ7 (y6.tr y7) L7 R7 (fun j => ?_) (fun j => ?_))
        · rw [n7, n6, n5, n4, n3, n2, n1]
        · rw [m7, m6, m5, m4, m3, m2, m1]
      have w31' : ∀ σ', Fz tkF noR noR σ σ' → RD σ' (tE L z p) → Go M_X4_readLine Q 31 [some (vr 26), some (vi css.length), none, none] [] σ' (0, 0) := fun σ' u1 u2 => w31 σ' (u1.rl (by decide)) (fun j => by rw [u1.aI (fun q => q)]) (fun j => by rw [u1.aI (fun q => q)]) (RdL.rd hL u1) u2
      have hb : 0 ≤ tE L z p ∧ tE L z p ≤ z := by omega
      have h24 : (css.length : Int) < 24 := by omega
      have h240 : (0 : Int) ≤ css.length := by omega
      clear w31 h0 h1 hL hR hX bd hW
      refine go_X4_readLine (ct := fun p => p == 31 || p == 21) 20 ?_
      simp only [oI, oL, oR, o1, lI, lL, lR, popN, catS, gv, stL, stL2, swt, cnd, spObj, List.getElem?_cons_zero, List.getElem?_cons_succ, List.getD_cons_zero, List.getD_cons_succ, List.set_cons_zero, List.set_cons_succ, List.nil_append, List.cons_append, Option.toList, Bool.or_false, Bool.false_or, Bool.or_true, Bool.true_or, Nat.reduceBEq, Nat.reduceAdd, Nat.reduceLT, Nat.reduceLeDiff, Int.reduceAdd, Int.reduceToNat, true_and, and_true, Fin.isValue, Fin.val_zero, Fin.val_one, Fin.val_two, Fin.reduceFinMk, eq_self, Int.reduceNeg, imp_self, Nat.reduceMul, Nat.le_refl, not_true_eq_false, not_false_eq_true, List.getElem?_nil, reduceCtorEq, true_or, or_true, Classical.not_not, implies_true, or_self, wI_0, wI_1, wI_m1, b2i_w, b2i_eq0, b2i_eq1, b2i_bool, nor_self, nx_pI, kd_pI, ln_pI, fI_pI, fL_pI, fR_pI, aI_pI, aL_pI, aR_pI, nx_pL, kd_pL, ln_pL, fI_pL, fL_pL, fR_pL, aI_pL, aL_pL, aR_pL, nx_pR, kd_pR, ln_pR, fI_pR, fL_pR, fR_pR, aI_pR, aL_pR, aR_pR, nx_qI, kd_qI, ln_qI, fI_qI, fL_qI, fR_qI, aI_qI, aL_qI, aR_qI, nx_qL, kd_qL, ln_qL, fI_qL, fL_qL, fR_qL, aI_qL, aL_qL, aR_qL, nx_qR, kd_qR, ln_qR, fI_qR, fL_qR, fR_qR, aI_qR, aL_qR, aR_qR, nx_mk, kd_mk, ln_mk, fI_mk, fL_mk, fR_mk, aI_mk, aL_mk, aR_mk, false_and, and_false, if_false, if_true, and_self, Int.reduceEq, Nat.reduceEqDiff, ite_self, MLay_pI, MLay_pL, MLay_qI, MLay_qL, ev_X4_readLine_15, ev_X4_readLine_16, ev_X4_readLine_18, ev_X4_readLine_27, ev_X4_readLine_28, xt_X4_readLine, xf_X4_readLine, us_X4_isWord, us_X4_refuse, us_X4_nextToken, us_X4_takeAmount, us_X4_takeWord, us_X7_openLine, us_X4_readWhole, us_X4_takeSign, hk, hC, hT, hG, ez, r2, hb]
      try simp (disch := omega) only [wI_id, dv_nn, rm_nn]
      repeat' (first | intro z | apply And.intro)
      all_goals try omega
      all_goals try contradiction
      all_goals exact w31' _ ‹_› ‹_›
    clear h0 h1 hL hR hX hT hG hC hW bd
    refine go_X4_readLine (ct := fun p => p == 15 || p == 9) 10 ?_
    simp only [oI, oL, oR, o1, lI, lL, lR, popN, catS, gv, stL, stL2, swt, cnd, spObj, List.getElem?_cons_zero, List.getElem?_cons_succ, List.getD_cons_zero, List.getD_cons_succ, List.set_cons_zero, List.set_cons_succ, List.nil_append, List.cons_append, Option.toList, Bool.or_false, Bool.false_or, Bool.or_true, Bool.true_or, Nat.reduceBEq, Nat.reduceAdd, Nat.reduceLT, Nat.reduceLeDiff, Int.reduceAdd, Int.reduceToNat, true_and, and_true, Fin.isValue, Fin.val_zero, Fin.val_one, Fin.val_two, Fin.reduceFinMk, eq_self, Int.reduceNeg, imp_self, Nat.reduceMul, Nat.le_refl, not_true_eq_false, not_false_eq_true, List.getElem?_nil, reduceCtorEq, true_or, or_true, Classical.not_not, implies_true, or_self, wI_0, wI_1, wI_m1, b2i_w, b2i_eq0, b2i_eq1, b2i_bool, nor_self, nx_pI, kd_pI, ln_pI, fI_pI, fL_pI, fR_pI, aI_pI, aL_pI, aR_pI, nx_pL, kd_pL, ln_pL, fI_pL, fL_pL, fR_pL, aI_pL, aL_pL, aR_pL, nx_pR, kd_pR, ln_pR, fI_pR, fL_pR, fR_pR, aI_pR, aL_pR, aR_pR, nx_qI, kd_qI, ln_qI, fI_qI, fL_qI, fR_qI, aI_qI, aL_qI, aR_qI, nx_qL, kd_qL, ln_qL, fI_qL, fL_qL, fR_qL, aI_qL, aL_qL, aR_qL, nx_qR, kd_qR, ln_qR, fI_qR, fL_qR, fR_qR, aI_qR, aL_qR, aR_qR, nx_mk, kd_mk, ln_mk, fI_mk, fL_mk, fR_mk, aI_mk, aL_mk, aR_mk, false_and, and_false, if_false, if_true, and_self, Int.reduceEq, Nat.reduceEqDiff, ite_self, MLay_pI, MLay_pL, MLay_qI, MLay_qL, ev_X4_readLine_6, xt_X4_readLine, xf_X4_readLine, us_X4_isWord, us_X4_refuse, us_X4_nextToken, us_X4_takeAmount, us_X4_takeWord, us_X7_openLine, us_X4_readWhole, us_X4_takeSign]
    repeat' (first | intro z | apply And.intro)
    all_goals try omega
    all_goals try contradiction
    all_goals exact w15
  clear h0 h1 hL hX hT bd
  refine go_X4_readLine (ct := fun p => p == 6) 20 ?_
  simp only [oI, oL, oR, o1, lI, lL, lR, popN, catS, gv, stL, stL2, swt, cnd, spObj, List.getElem?_cons_zero, List.getElem?_cons_succ, List.getD_cons_zero, List.getD_cons_succ, List.set_cons_zero, List.set_cons_succ, List.nil_append, List.cons_append, Option.toList, Bool.or_false, Bool.false_or, Bool.or_true, Bool.true_or, Nat.reduceBEq, Nat.reduceAdd, Nat.reduceLT, Nat.reduceLeDiff, Int.reduceAdd, Int.reduceToNat, true_and, and_true, Fin.isValue, Fin.val_zero, Fin.val_one, Fin.val_two, Fin.reduceFinMk, eq_self, Int.reduceNeg, imp_self, Nat.reduceMul, Nat.le_refl, not_true_eq_false, not_false_eq_true, List.getElem?_nil, reduceCtorEq, true_or, or_true, Classical.not_not, implies_true, or_self, wI_0, wI_1, wI_m1, b2i_w, b2i_eq0, b2i_eq1, b2i_bool, nor_self, nx_pI, kd_pI, ln_pI, fI_pI, fL_pI, fR_pI, aI_pI, aL_pI, aR_pI, nx_pL, kd_pL, ln_pL, fI_pL, fL_pL, fR_pL, aI_pL, aL_pL, aR_pL, nx_pR, kd_pR, ln_pR, fI_pR, fL_pR, fR_pR, aI_pR, aL_pR, aR_pR, nx_qI, kd_qI, ln_qI, fI_qI, fL_qI, fR_qI, aI_qI, aL_qI, aR_qI, nx_qL, kd_qL, ln_qL, fI_qL, fL_qL, fR_qL, aI_qL, aL_qL, aR_qL, nx_qR, kd_qR, ln_qR, fI_qR, fL_qR, fR_qR, aI_qR, aL_qR, aR_qR, nx_mk, kd_mk, ln_mk, fI_mk, fL_mk, fR_mk, aI_mk, aL_mk, aR_mk, false_and, and_false, if_false, if_true, and_self, Int.reduceEq, Nat.reduceEqDiff, ite_self, MLay_pI, MLay_pL, MLay_qI, MLay_qL, ev_X4_readLine_0, ev_X4_readLine_1, ev_X4_readLine_3, xt_X4_readLine, xf_X4_readLine, us_X4_isWord, us_X4_refuse, us_X4_nextToken, us_X4_takeAmount, us_X4_takeWord, us_X7_openLine, us_X4_readWhole, us_X4_takeSign, hk, hC, hG, eL, ez]
  repeat' (first | intro z | apply And.intro)
  all_goals try omega
  all_goals try contradiction
  all_goals exact ⟨p, 378004, hR, hW, w6⟩
