/-! the class: counts -/

/-- a box that waits doesn't go on -/
def WG (τ : Hp) : Prop := ∀ b, 0 ≤ b → b < fI τ 1302 61 → ¬ aI τ 70 b = 0 → ¬ mGoing τ b
theorem hwM_ext {P : Int → Prop} {n : Nat} : ∀ m : Nat, (∀ j : Int, n ≤ j → j < ((n + m : Nat) : Int) → ¬ P j) → hwM P (n + m) = hwM P n
  | 0, _ => rfl
  | m + 1, h => by
    rw [← Nat.add_assoc, hwM_s, hwM_ext m (fun j a b => h j a (by omega)), b2i_f (h _ (by omega) (by omega))]
    omega
theorem cut_is {σ τ : Hp} (hI : MI τ) (hL : ∀ l, 0 ≤ l → l < 4 → LoP σ τ l) : 0 + hwM (fun w => ¬ aI σ 47 w = 0) 13 + hwM (fun w => ¬ aI σ 51 w = 0) 13 + hwM (fun w => ¬ aI σ 55 w = 0) 13 + hwM (fun w => ¬ aI σ 59 w = 0) 13 = mCut τ 4 := by
  have key : ∀ l : Nat, l < 4 → hwM (fun w => ¬ aI σ (47 + 4 * (l : Int)) w = 0) 13 = hwM (fun w => ¬ aI τ 76 (13 * (l : Int) + w) = 0) (aI τ 74 l + 1).toNat := fun l hl => by
    obtain ⟨-, -, -, -, h5, h6, -⟩ := hL l (by omega) (by omega)
    have hm := hI.many_ l
    have e1 : hwM (fun w => ¬ aI σ (47 + 4 * (l : Int)) w = 0) 13 = hwM (fun w => ¬ aI τ 76 (13 * (l : Int) + w) = 0) 13 := hwM_cgb 13 (fun j a b => by rw [h5 j a (by omega)])
    obtain ⟨d, hd⟩ : ∃ d : Nat, 13 = (aI τ 74 l + 1).toNat + d := ⟨13 - (aI τ 74 l + 1).toNat, by omega⟩
    rw [e1]
    conv => lhs; rw [hd]
    exact hwM_ext d (fun j a b q => q (h6 j (by omega) (by omega)))
  have a0 : hwM (fun w => ¬ aI σ 47 w = 0) 13 = hwM (fun w => ¬ aI τ 76 (13 * ((0 : Nat) : Int) + w) = 0) (aI τ 74 ((0 : Nat) : Int) + 1).toNat := key 0 (by decide)
  have a1 : hwM (fun w => ¬ aI σ 51 w = 0) 13 = hwM (fun w => ¬ aI τ 76 (13 * ((1 : Nat) : Int) + w) = 0) (aI τ 74 ((1 : Nat) : Int) + 1).toNat := key 1 (by decide)
  have a2 : hwM (fun w => ¬ aI σ 55 w = 0) 13 = hwM (fun w => ¬ aI τ 76 (13 * ((2 : Nat) : Int) + w) = 0) (aI τ 74 ((2 : Nat) : Int) + 1).toNat := key 2 (by decide)
  have a3 : hwM (fun w => ¬ aI σ 59 w = 0) 13 = hwM (fun w => ¬ aI τ 76 (13 * ((3 : Nat) : Int) + w) = 0) (aI τ 74 ((3 : Nat) : Int) + 1).toNat := key 3 (by decide)
  rw [a0, a1, a2, a3]
  rfl

def sp_X11_count : Sp := fun av σ Q => oR av fun this av => oI av fun w av => av = [] ∧ kd σ this = 12 ∧ (this = 1 ∧ CLay σ ∧ inR w ∧ ∃ τ, fI σ 1210 1 = fI τ 1301 61 ∧ BX σ τ ∧ (∀ l, 0 ≤ l → l < 4 → LR l σ τ) ∧ BG σ τ ∧ AL σ τ ∧ DKR σ τ ∧ fI σ 901 24 = fI τ 1343 61 ∧ MT τ ∧ RB τ ∧ WG τ ∧ Q (some (vi (mCn τ w))) σ)
theorem us_X11_count (this : Int) (w : Int) (σ : Hp) (Q : Option AV → Hp → Prop) : sp_X11_count [vr this, vi w] σ Q = (kd σ this = 12 ∧ (this = 1 ∧ CLay σ ∧ inR w ∧ ∃ τ, fI σ 1210 1 = fI τ 1301 61 ∧ BX σ τ ∧ (∀ l, 0 ≤ l → l < 4 → LR l σ τ) ∧ BG σ τ ∧ AL σ τ ∧ DKR σ τ ∧ fI σ 901 24 = fI τ 1343 61 ∧ MT τ ∧ RB τ ∧ WG τ ∧ Q (some (vi (mCn τ w))) σ)) := propext ⟨fun h => h.2, fun h => ⟨rfl, h⟩⟩
theorem el_X11_count {av : List AV} {σ : Hp} {Q : Option AV → Hp → Prop} (h : sp_X11_count av σ Q) : ∃ (this : Int) (w : Int), av = [vr this, vi w] ∧ (kd σ this = 12 ∧ (this = 1 ∧ CLay σ ∧ inR w ∧ ∃ τ, fI σ 1210 1 = fI τ 1301 61 ∧ BX σ τ ∧ (∀ l, 0 ≤ l → l < 4 → LR l σ τ) ∧ BG σ τ ∧ AL σ τ ∧ DKR σ τ ∧ fI σ 901 24 = fI τ 1343 61 ∧ MT τ ∧ RB τ ∧ WG τ ∧ Q (some (vi (mCn τ w))) σ)) := by
  obtain ⟨this, a0, rfl, h0⟩ := oR_s h
  obtain ⟨w, a1, rfl, h1⟩ := oI_s h0
  obtain ⟨rfl, hz⟩ := h1
  exact ⟨this, w, rfl, hz⟩
theorem rc_X11_count : ∀ (av : List AV) (σ : Hp) (Q : Option AV → Hp → Prop), sp_X11_count av σ Q → ∃ r tl, av = vr r :: tl ∧ kd σ r = 11 + 1 := fun av σ Q h => by
  obtain ⟨this, w, rfl, hz, -⟩ := el_X11_count h
  exact ⟨this, _, rfl, hz⟩

def tb_X11_count : Tab := [(0, .iload_n 1, 1, (0, 0, 0, 0)), (1, .tableswitch 167 0 12 #[67, 72, 80, 88, 99, 107, 118, 126, 134, 142, 150, 156, 162], 67, (0, 0, 0, 0)), (68, .aload_n 0, 1, (0, 0, 0, 0)), (69, .getfield 69, 3, (12, 1210, 0, 0)), (72, .ireturn, 1, (0, 0, 0, 0)), (73, .aload_n 0, 1, (0, 0, 0, 0)), (74, .getfield 33, 3, (12, 1203, 2, 0)), (77, .invokevirtual 83, 3, (0, 0, 0, 0)), (80, .ireturn, 1, (0, 0, 0, 0)), (81, .aload_n 0, 1, (0, 0, 0, 0)), (82, .getfield 38, 3, (12, 1204, 2, 0)), (85, .getfield 310, 3, (4, 403, 0, 0)), (88, .ireturn, 1, (0, 0, 0, 0)), (89, .aload_n 0, 1, (0, 0, 0, 0)), (90, .getfield 38, 3, (12, 1204, 2, 0)), (93, .getfield 313, 3, (4, 402, 2, 0)), (96, .invokevirtual 83, 3, (0, 0, 0, 0)), (99, .ireturn, 1, (0, 0, 0, 0)), (100, .aload_n 0, 1, (0, 0, 0, 0)), (101, .getfield 38, 3, (12, 1204, 2, 0)), (104, .invokevirtual 316, 3, (0, 0, 0, 0)), (107, .ireturn, 1, (0, 0, 0, 0)), (108, .aload_n 0, 1, (0, 0, 0, 0)), (109, .getfield 54, 3, (12, 1207, 2, 0)), (112, .getfield 198, 3, (2, 200, 2, 0)), (115, .invokevirtual 83, 3, (0, 0, 0, 0)), (118, .ireturn, 1, (0, 0, 0, 0)), (119, .aload_n 0, 1, (0, 0, 0, 0)), (120, .getfield 54, 3, (12, 1207, 2, 0)), (123, .invokevirtual 319, 3, (0, 0, 0, 0)), (126, .ireturn, 1, (0, 0, 0, 0)), (127, .aload_n 0, 1, (0, 0, 0, 0)), (128, .getfield 54, 3, (12, 1207, 2, 0)), (131, .getfield 322, 3, (2, 204, 0, 0)), (134, .ireturn, 1, (0, 0, 0, 0)), (135, .aload_n 0, 1, (0, 0, 0, 0)), (136, .getfield 65, 3, (12, 1209, 2, 0)), (139, .getfield 325, 3, (8, 807, 0, 0)), (142, .ireturn, 1, (0, 0, 0, 0)), (143, .aload_n 0, 1, (0, 0, 0, 0)), (144, .getfield 50, 3, (12, 1206, 2, 0)), (147, .getfield 188, 3, (9, 901, 0, 0)), (150, .ireturn, 1, (0, 0, 0, 0)), (151, .aload_n 0, 1, (0, 0, 0, 0)), (152, .iconst 2, 1, (0, 0, 0, 0)), (153, .invokevirtual 328, 3, (0, 0, 0, 0)), (156, .ireturn, 1, (0, 0, 0, 0)), (157, .aload_n 0, 1, (0, 0, 0, 0)), (158, .iconst 1, 1, (0, 0, 0, 0)), (159, .invokevirtual 328, 3, (0, 0, 0, 0)), (162, .ireturn, 1, (0, 0, 0, 0)), (163, .aload_n 0, 1, (0, 0, 0, 0)), (164, .invokevirtual 331, 3, (0, 0, 0, 0)), (167, .ireturn, 1, (0, 0, 0, 0)), (168, .iconst (-1), 1, (0, 0, 0, 0)), (169, .ireturn, 1, (0, 0, 0, 0))]
set_option maxRecDepth 100000 in
theorem tk_X11_count : TOK RX11 false cX11_count tb_X11_count := chkT_ok ft_X11 (by decide +kernel)
theorem rw_X11_2552 : Row RX11 (.invokevirtual 319) 3 1 0 0 4 sp_X1_countOpen := row_V (n := 0) (ci := 1) c_X1_countOpen ⟨TBL_in 1398 (by decide +kernel) rfl, TBL_in 1401 (by decide +kernel) rfl, TBL_in 121 (by decide +kernel) rfl, by decide +kernel, by decide⟩ (by decide) rfl (TBL_in 1399 (by decide +kernel) rfl) (TBL_in 1400 (by decide +kernel) rfl) rc_X1_countOpen
theorem rw_X11_2624 : Row RX11 (.invokevirtual 328) 3 2 0 0 4 sp_X11_countBoxes := row_V (n := 1) (ci := 11) c_X11_countBoxes ⟨TBL_in 1402 (by decide +kernel) rfl, TBL_in 1405 (by decide +kernel) rfl, TBL_in 111 (by decide +kernel) rfl, by decide +kernel, by decide⟩ (by decide) rfl (TBL_in 1404 (by decide +kernel) rfl) (TBL_in 60 (by decide +kernel) rfl) rc_X11_countBoxes
theorem rw_X11_2648 : Row RX11 (.invokevirtual 331) 3 1 0 0 2 sp_X11_countCutWires := row_V (n := 0) (ci := 11) c_X11_countCutWires ⟨TBL_in 1411 (by decide +kernel) rfl, TBL_in 1414 (by decide +kernel) rfl, TBL_in 111 (by decide +kernel) rfl, by decide +kernel, by decide⟩ (by decide) rfl (TBL_in 1413 (by decide +kernel) rfl) (TBL_in 61 (by decide +kernel) rfl) rc_X11_countCutWires
def mt_X11_count : List (Nat × Mt) := [(664, 1, 0, 0, 1, sp_Jx4a65c_size_8abf5), (2528, 1, 0, 0, 4, sp_X3_countSent), (2552, 1, 0, 0, 4, sp_X1_countOpen), (2624, 2, 0, 0, 4, sp_X11_countBoxes), (2648, 1, 0, 0, 2, sp_X11_countCutWires)]
theorem em_X11_count : mt_X11_count.lookup 664 = some (1, 0, 0, 1, sp_Jx4a65c_size_8abf5) ∧ mt_X11_count.lookup 2528 = some (1, 0, 0, 4, sp_X3_countSent) ∧ mt_X11_count.lookup 2552 = some (1, 0, 0, 4, sp_X1_countOpen) ∧ mt_X11_count.lookup 2624 = some (2, 0, 0, 4, sp_X11_countBoxes) ∧ mt_X11_count.lookup 2648 = some (1, 0, 0, 2, sp_X11_countCutWires) := ⟨rfl, rfl, rfl, rfl, rfl⟩
theorem mk_X11_count : MOK RX11 mt_X11_count := by
  intro q hq
  simp only [mt_X11_count, List.mem_cons, List.not_mem_nil, or_false] at hq
  rcases hq with rfl | rfl | rfl | rfl | rfl
  · exact rw_X11_664
  · exact rw_X11_2528
  · exact rw_X11_2552
  · exact rw_X11_2624
  · exact rw_X11_2648
noncomputable def xe_X11_count (ct : Nat → Bool) (K : Kt) (R : Option AV → Hp → Prop) (n : Nat) : Kt := exS 2 6 0 0 1 tb_X11_count mt_X11_count ct K R n
noncomputable def xk_X11_count (ct : Nat → Bool) (K : Kt) (R : Option AV → Hp → Prop) (n : Nat) : Kt := exkS 2 6 0 0 1 tb_X11_count mt_X11_count ct K R n
theorem xt_X11_count {ct : Nat → Bool} {K : Kt} {R : Option AV → Hp → Prop} {n pc : Nat} {ls : List (Option AV)} {st : List AV} {σ : Hp} {k : Nat × Nat} (h : ct pc = true) : xk_X11_count ct K R n pc ls st σ k = K pc ls st σ k := by unfold xk_X11_count exkS; rw [h]
theorem xf_X11_count {ct : Nat → Bool} {K : Kt} {R : Option AV → Hp → Prop} {n pc : Nat} {ls : List (Option AV)} {st : List AV} {σ : Hp} {k : Nat × Nat} (h : ct pc = false) : xk_X11_count ct K R n pc ls st σ k = xe_X11_count ct K R n pc ls st σ k := by unfold xk_X11_count exkS xe_X11_count; rw [h]
theorem ev_X11_count_0 {ct : Nat → Bool} {K : Kt} {R : Option AV → Hp → Prop} {n : Nat} {ls : List (Option AV)} {st : List AV} {σ : Hp} {k : Nat × Nat} : xe_X11_count ct K R (n + 1) 0 ls st σ k = (lI ls 1 fun x => xk_X11_count ct K R n 1 ls (vi x :: st) σ k) := exS_step.trans rfl
theorem ev_X11_count_1 {ct : Nat → Bool} {K : Kt} {R : Option AV → Hp → Prop} {n : Nat} {ls : List (Option AV)} {st : List AV} {σ : Hp} {k : Nat × Nat} : xe_X11_count ct K R (n + 1) 1 ls st σ k = (oI st fun x st => (wI x < 0 ∨ 12 < wI x → xk_X11_count ct K R n 168 ls st σ k) ∧ (wI x = 0 → xk_X11_count ct K R n 68 ls st σ k) ∧ (wI x = 1 → xk_X11_count ct K R n 73 ls st σ k) ∧ (wI x = 2 → xk_X11_count ct K R n 81 ls st σ k) ∧ (wI x = 3 → xk_X11_count ct K R n 89 ls st σ k) ∧ (wI x = 4 → xk_X11_count ct K R n 100 ls st σ k) ∧ (wI x = 5 → xk_X11_count ct K R n 108 ls st σ k) ∧ (wI x = 6 → xk_X11_count ct K R n 119 ls st σ k) ∧ (wI x = 7 → xk_X11_count ct K R n 127 ls st σ k) ∧ (wI x = 8 → xk_X11_count ct K R n 135 ls st σ k) ∧ (wI x = 9 → xk_X11_count ct K R n 143 ls st σ k) ∧ (wI x = 10 → xk_X11_count ct K R n 151 ls st σ k) ∧ (wI x = 11 → xk_X11_count ct K R n 157 ls st σ k) ∧ (wI x = 12 → xk_X11_count ct K R n 163 ls st σ k) ∧ True) := exS_step.trans rfl
theorem ev_X11_count_68 {ct : Nat → Bool} {K : Kt} {R : Option AV → Hp → Prop} {n : Nat} {ls : List (Option AV)} {st : List AV} {σ : Hp} {k : Nat × Nat} : xe_X11_count ct K R (n + 1) 68 ls st σ k = (lR ls 0 fun x => xk_X11_count ct K R n 69 ls (vr x :: st) σ k) := exS_step.trans rfl
theorem ev_X11_count_69 {ct : Nat → Bool} {K : Kt} {R : Option AV → Hp → Prop} {n : Nat} {ls : List (Option AV)} {st : List AV} {σ : Hp} {k : Nat × Nat} : xe_X11_count ct K R (n + 1) 69 ls st σ k = (oR st fun x st => kd σ x = 12 ∧ xk_X11_count ct K R n 72 ls (vi (fI σ 1210 x) :: st) σ k) := exS_step.trans rfl
theorem ev_X11_count_72 {ct : Nat → Bool} {K : Kt} {R : Option AV → Hp → Prop} {n : Nat} {ls : List (Option AV)} {st : List AV} {σ : Hp} {k : Nat × Nat} : xe_X11_count ct K R (n + 1) 72 ls st σ k = (oI st fun x st => st = [] ∧ True ∧ R (some (vi x)) σ) := exS_step.trans rfl
theorem ev_X11_count_73 {ct : Nat → Bool} {K : Kt} {R : Option AV → Hp → Prop} {n : Nat} {ls : List (Option AV)} {st : List AV} {σ : Hp} {k : Nat × Nat} : xe_X11_count ct K R (n + 1) 73 ls st σ k = (lR ls 0 fun x => xk_X11_count ct K R n 74 ls (vr x :: st) σ k) := exS_step.trans rfl
theorem ev_X11_count_74 {ct : Nat → Bool} {K : Kt} {R : Option AV → Hp → Prop} {n : Nat} {ls : List (Option AV)} {st : List AV} {σ : Hp} {k : Nat × Nat} : xe_X11_count ct K R (n + 1) 74 ls st σ k = (oR st fun x st => kd σ x = 12 ∧ xk_X11_count ct K R n 77 ls (vr (fR σ 1203 x) :: st) σ k) := exS_step.trans rfl
theorem ev_X11_count_77 {ct : Nat → Bool} {K : Kt} {R : Option AV → Hp → Prop} {n : Nat} {ls : List (Option AV)} {st : List AV} {σ : Hp} {k : Nat × Nat} : xe_X11_count ct K R (n + 1) 77 ls st σ k = (popN 1 st [] fun av rest => (catS rest ≤ 8 ∧ 1 < 6 ∧ k.1 + 0 ≤ 0 ∧ k.2 + 0 ≤ 0) ∧ (sp_Jx4a65c_size_8abf5) av σ fun v σ' => xk_X11_count ct K R n 80 ls (v.toList ++ rest) σ' (k.1 + 0, k.2 + 0)) := exS_step.trans rfl
theorem ev_X11_count_80 {ct : Nat → Bool} {K : Kt} {R : Option AV → Hp → Prop} {n : Nat} {ls : List (Option AV)} {st : List AV} {σ : Hp} {k : Nat × Nat} : xe_X11_count ct K R (n + 1) 80 ls st σ k = (oI st fun x st => st = [] ∧ True ∧ R (some (vi x)) σ) := exS_step.trans rfl
theorem ev_X11_count_81 {ct : Nat → Bool} {K : Kt} {R : Option AV → Hp → Prop} {n : Nat} {ls : List (Option AV)} {st : List AV} {σ : Hp} {k : Nat × Nat} : xe_X11_count ct K R (n + 1) 81 ls st σ k = (lR ls 0 fun x => xk_X11_count ct K R n 82 ls (vr x :: st) σ k) := exS_step.trans rfl
theorem ev_X11_count_82 {ct : Nat → Bool} {K : Kt} {R : Option AV → Hp → Prop} {n : Nat} {ls : List (Option AV)} {st : List AV} {σ : Hp} {k : Nat × Nat} : xe_X11_count ct K R (n + 1) 82 ls st σ k = (oR st fun x st => kd σ x = 12 ∧ xk_X11_count ct K R n 85 ls (vr (fR σ 1204 x) :: st) σ k) := exS_step.trans rfl
theorem ev_X11_count_85 {ct : Nat → Bool} {K : Kt} {R : Option AV → Hp → Prop} {n : Nat} {ls : List (Option AV)} {st : List AV} {σ : Hp} {k : Nat × Nat} : xe_X11_count ct K R (n + 1) 85 ls st σ k = (oR st fun x st => kd σ x = 4 ∧ xk_X11_count ct K R n 88 ls (vi (fI σ 403 x) :: st) σ k) := exS_step.trans rfl
theorem ev_X11_count_88 {ct : Nat → Bool} {K : Kt} {R : Option AV → Hp → Prop} {n : Nat} {ls : List (Option AV)} {st : List AV} {σ : Hp} {k : Nat × Nat} : xe_X11_count ct K R (n + 1) 88 ls st σ k = (oI st fun x st => st = [] ∧ True ∧ R (some (vi x)) σ) := exS_step.trans rfl
theorem ev_X11_count_89 {ct : Nat → Bool} {K : Kt} {R : Option AV → Hp → Prop} {n : Nat} {ls : List (Option AV)} {st : List AV} {σ : Hp} {k : Nat × Nat} : xe_X11_count ct K R (n + 1) 89 ls st σ k = (lR ls 0 fun x => xk_X11_count ct K R n 90 ls (vr x :: st) σ k) := exS_step.trans rfl
theorem ev_X11_count_90 {ct : Nat → Bool} {K : Kt} {R : Option AV → Hp → Prop} {n : Nat} {ls : List (Option AV)} {st : List AV} {σ : Hp} {k : Nat × Nat} : xe_X11_count ct K R (n + 1) 90 ls st σ k = (oR st fun x st => kd σ x = 12 ∧ xk_X11_count ct K R n 93 ls (vr (fR σ 1204 x) :: st) σ k) := exS_step.trans rfl
theorem ev_X11_count_93 {ct : Nat → Bool} {K : Kt} {R : Option AV → Hp → Prop} {n : Nat} {ls : List (Option AV)} {st : List AV} {σ : Hp} {k : Nat × Nat} : xe_X11_count ct K R (n + 1) 93 ls st σ k = (oR st fun x st => kd σ x = 4 ∧ xk_X11_count ct K R n 96 ls (vr (fR σ 402 x) :: st) σ k) := exS_step.trans rfl
theorem ev_X11_count_96 {ct : Nat → Bool} {K : Kt} {R : Option AV → Hp → Prop} {n : Nat} {ls : List (Option AV)} {st : List AV} {σ : Hp} {k : Nat × Nat} : xe_X11_count ct K R (n + 1) 96 ls st σ k = (popN 1 st [] fun av rest => (catS rest ≤ 8 ∧ 1 < 6 ∧ k.1 + 0 ≤ 0 ∧ k.2 + 0 ≤ 0) ∧ (sp_Jx4a65c_size_8abf5) av σ fun v σ' => xk_X11_count ct K R n 99 ls (v.toList ++ rest) σ' (k.1 + 0, k.2 + 0)) := exS_step.trans rfl
theorem ev_X11_count_99 {ct : Nat → Bool} {K : Kt} {R : Option AV → Hp → Prop} {n : Nat} {ls : List (Option AV)} {st : List AV} {σ : Hp} {k : Nat × Nat} : xe_X11_count ct K R (n + 1) 99 ls st σ k = (oI st fun x st => st = [] ∧ True ∧ R (some (vi x)) σ) := exS_step.trans rfl
theorem ev_X11_count_100 {ct : Nat → Bool} {K : Kt} {R : Option AV → Hp → Prop} {n : Nat} {ls : List (Option AV)} {st : List AV} {σ : Hp} {k : Nat × Nat} : xe_X11_count ct K R (n + 1) 100 ls st σ k = (lR ls 0 fun x => xk_X11_count ct K R n 101 ls (vr x :: st) σ k) := exS_step.trans rfl
theorem ev_X11_count_101 {ct : Nat → Bool} {K : Kt} {R : Option AV → Hp → Prop} {n : Nat} {ls : List (Option AV)} {st : List AV} {σ : Hp} {k : Nat × Nat} : xe_X11_count ct K R (n + 1) 101 ls st σ k = (oR st fun x st => kd σ x = 12 ∧ xk_X11_count ct K R n 104 ls (vr (fR σ 1204 x) :: st) σ k) := exS_step.trans rfl
theorem ev_X11_count_104 {ct : Nat → Bool} {K : Kt} {R : Option AV → Hp → Prop} {n : Nat} {ls : List (Option AV)} {st : List AV} {σ : Hp} {k : Nat × Nat} : xe_X11_count ct K R (n + 1) 104 ls st σ k = (popN 1 st [] fun av rest => (catS rest ≤ 8 ∧ 4 < 6 ∧ k.1 + 0 ≤ 0 ∧ k.2 + 0 ≤ 0) ∧ (sp_X3_countSent) av σ fun v σ' => xk_X11_count ct K R n 107 ls (v.toList ++ rest) σ' (k.1 + 0, k.2 + 0)) := exS_step.trans rfl
theorem ev_X11_count_107 {ct : Nat → Bool} {K : Kt} {R : Option AV → Hp → Prop} {n : Nat} {ls : List (Option AV)} {st : List AV} {σ : Hp} {k : Nat × Nat} : xe_X11_count ct K R (n + 1) 107 ls st σ k = (oI st fun x st => st = [] ∧ True ∧ R (some (vi x)) σ) := exS_step.trans rfl
theorem ev_X11_count_108 {ct : Nat → Bool} {K : Kt} {R : Option AV → Hp → Prop} {n : Nat} {ls : List (Option AV)} {st : List AV} {σ : Hp} {k : Nat × Nat} : xe_X11_count ct K R (n + 1) 108 ls st σ k = (lR ls 0 fun x => xk_X11_count ct K R n 109 ls (vr x :: st) σ k) := exS_step.trans rfl
theorem ev_X11_count_109 {ct : Nat → Bool} {K : Kt} {R : Option AV → Hp → Prop} {n : Nat} {ls : List (Option AV)} {st : List AV} {σ : Hp} {k : Nat × Nat} : xe_X11_count ct K R (n + 1) 109 ls st σ k = (oR st fun x st => kd σ x = 12 ∧ xk_X11_count ct K R n 112 ls (vr (fR σ 1207 x) :: st) σ k) := exS_step.trans rfl
theorem ev_X11_count_112 {ct : Nat → Bool} {K : Kt} {R : Option AV → Hp → Prop} {n : Nat} {ls : List (Option AV)} {st : List AV} {σ : Hp} {k : Nat × Nat} : xe_X11_count ct K R (n + 1) 112 ls st σ k = (oR st fun x st => kd σ x = 2 ∧ xk_X11_count ct K R n 115 ls (vr (fR σ 200 x) :: st) σ k) := exS_step.trans rfl
theorem ev_X11_count_115 {ct : Nat → Bool} {K : Kt} {R : Option AV → Hp → Prop} {n : Nat} {ls : List (Option AV)} {st : List AV} {σ : Hp} {k : Nat × Nat} : xe_X11_count ct K R (n + 1) 115 ls st σ k = (popN 1 st [] fun av rest => (catS rest ≤ 8 ∧ 1 < 6 ∧ k.1 + 0 ≤ 0 ∧ k.2 + 0 ≤ 0) ∧ (sp_Jx4a65c_size_8abf5) av σ fun v σ' => xk_X11_count ct K R n 118 ls (v.toList ++ rest) σ' (k.1 + 0, k.2 + 0)) := exS_step.trans rfl
theorem ev_X11_count_118 {ct : Nat → Bool} {K : Kt} {R : Option AV → Hp → Prop} {n : Nat} {ls : List (Option AV)} {st : List AV} {σ : Hp} {k : Nat × Nat} : xe_X11_count ct K R (n + 1) 118 ls st σ k = (oI st fun x st => st = [] ∧ True ∧ R (some (vi x)) σ) := exS_step.trans rfl
theorem ev_X11_count_119 {ct : Nat → Bool} {K : Kt} {R : Option AV → Hp → Prop} {n : Nat} {ls : List (Option AV)} {st : List AV} {σ : Hp} {k : Nat × Nat} : xe_X11_count ct K R (n + 1) 119 ls st σ k = (lR ls 0 fun x => xk_X11_count ct K R n 120 ls (vr x :: st) σ k) := exS_step.trans rfl
theorem ev_X11_count_120 {ct : Nat → Bool} {K : Kt} {R : Option AV → Hp → Prop} {n : Nat} {ls : List (Option AV)} {st : List AV} {σ : Hp} {k : Nat × Nat} : xe_X11_count ct K R (n + 1) 120 ls st σ k = (oR st fun x st => kd σ x = 12 ∧ xk_X11_count ct K R n 123 ls (vr (fR σ 1207 x) :: st) σ k) := exS_step.trans rfl
theorem ev_X11_count_123 {ct : Nat → Bool} {K : Kt} {R : Option AV → Hp → Prop} {n : Nat} {ls : List (Option AV)} {st : List AV} {σ : Hp} {k : Nat × Nat} : xe_X11_count ct K R (n + 1) 123 ls st σ k = (popN 1 st [] fun av rest => (catS rest ≤ 8 ∧ 4 < 6 ∧ k.1 + 0 ≤ 0 ∧ k.2 + 0 ≤ 0) ∧ (sp_X1_countOpen) av σ fun v σ' => xk_X11_count ct K R n 126 ls (v.toList ++ rest) σ' (k.1 + 0, k.2 + 0)) := exS_step.trans rfl
theorem ev_X11_count_126 {ct : Nat → Bool} {K : Kt} {R : Option AV → Hp → Prop} {n : Nat} {ls : List (Option AV)} {st : List AV} {σ : Hp} {k : Nat × Nat} : xe_X11_count ct K R (n + 1) 126 ls st σ k = (oI st fun x st => st = [] ∧ True ∧ R (some (vi x)) σ) := exS_step.trans rfl
theorem ev_X11_count_127 {ct : Nat → Bool} {K : Kt} {R : Option AV → Hp → Prop} {n : Nat} {ls : List (Option AV)} {st : List AV} {σ : Hp} {k : Nat × Nat} : xe_X11_count ct K R (n + 1) 127 ls st σ k = (lR ls 0 fun x => xk_X11_count ct K R n 128 ls (vr x :: st) σ k) := exS_step.trans rfl
theorem ev_X11_count_128 {ct : Nat → Bool} {K : Kt} {R : Option AV → Hp → Prop} {n : Nat} {ls : List (Option AV)} {st : List AV} {σ : Hp} {k : Nat × Nat} : xe_X11_count ct K R (n + 1) 128 ls st σ k = (oR st fun x st => kd σ x = 12 ∧ xk_X11_count ct K R n 131 ls (vr (fR σ 1207 x) :: st) σ k) := exS_step.trans rfl
theorem ev_X11_count_131 {ct : Nat → Bool} {K : Kt} {R : Option AV → Hp → Prop} {n : Nat} {ls : List (Option AV)} {st : List AV} {σ : Hp} {k : Nat × Nat} : xe_X11_count ct K R (n + 1) 131 ls st σ k = (oR st fun x st => kd σ x = 2 ∧ xk_X11_count ct K R n 134 ls (vi (fI σ 204 x) :: st) σ k) := exS_step.trans rfl
theorem ev_X11_count_134 {ct : Nat → Bool} {K : Kt} {R : Option AV → Hp → Prop} {n : Nat} {ls : List (Option AV)} {st : List AV} {σ : Hp} {k : Nat × Nat} : xe_X11_count ct K R (n + 1) 134 ls st σ k = (oI st fun x st => st = [] ∧ True ∧ R (some (vi x)) σ) := exS_step.trans rfl
theorem ev_X11_count_135 {ct : Nat → Bool} {K : Kt} {R : Option AV → Hp → Prop} {n : Nat} {ls : List (Option AV)} {st : List AV} {σ : Hp} {k : Nat × Nat} : xe_X11_count ct K R (n + 1) 135 ls st σ k = (lR ls 0 fun x => xk_X11_count ct K R n 136 ls (vr x :: st) σ k) := exS_step.trans rfl
theorem ev_X11_count_136 {ct : Nat → Bool} {K : Kt} {R : Option AV → Hp → Prop} {n : Nat} {ls : List (Option AV)} {st : List AV} {σ : Hp} {k : Nat × Nat} : xe_X11_count ct K R (n + 1) 136 ls st σ k = (oR st fun x st => kd σ x = 12 ∧ xk_X11_count ct K R n 139 ls (vr (fR σ 1209 x) :: st) σ k) := exS_step.trans rfl
theorem ev_X11_count_139 {ct : Nat → Bool} {K : Kt} {R : Option AV → Hp → Prop} {n : Nat} {ls : List (Option AV)} {st : List AV} {σ : Hp} {k : Nat × Nat} : xe_X11_count ct K R (n + 1) 139 ls st σ k = (oR st fun x st => kd σ x = 8 ∧ xk_X11_count ct K R n 142 ls (vi (fI σ 807 x) :: st) σ k) := exS_step.trans rfl
theorem ev_X11_count_142 {ct : Nat → Bool} {K : Kt} {R : Option AV → Hp → Prop} {n : Nat} {ls : List (Option AV)} {st : List AV} {σ : Hp} {k : Nat × Nat} : xe_X11_count ct K R (n + 1) 142 ls st σ k = (oI st fun x st => st = [] ∧ True ∧ R (some (vi x)) σ) := exS_step.trans rfl
theorem ev_X11_count_143 {ct : Nat → Bool} {K : Kt} {R : Option AV → Hp → Prop} {n : Nat} {ls : List (Option AV)} {st : List AV} {σ : Hp} {k : Nat × Nat} : xe_X11_count ct K R (n + 1) 143 ls st σ k = (lR ls 0 fun x => xk_X11_count ct K R n 144 ls (vr x :: st) σ k) := exS_step.trans rfl
theorem ev_X11_count_144 {ct : Nat → Bool} {K : Kt} {R : Option AV → Hp → Prop} {n : Nat} {ls : List (Option AV)} {st : List AV} {σ : Hp} {k : Nat × Nat} : xe_X11_count ct K R (n + 1) 144 ls st σ k = (oR st fun x st => kd σ x = 12 ∧ xk_X11_count ct K R n 147 ls (vr (fR σ 1206 x) :: st) σ k) := exS_step.trans rfl
theorem ev_X11_count_147 {ct : Nat → Bool} {K : Kt} {R : Option AV → Hp → Prop} {n : Nat} {ls : List (Option AV)} {st : List AV} {σ : Hp} {k : Nat × Nat} : xe_X11_count ct K R (n + 1) 147 ls st σ k = (oR st fun x st => kd σ x = 9 ∧ xk_X11_count ct K R n 150 ls (vi (fI σ 901 x) :: st) σ k) := exS_step.trans rfl
theorem ev_X11_count_150 {ct : Nat → Bool} {K : Kt} {R : Option AV → Hp → Prop} {n : Nat} {ls : List (Option AV)} {st : List AV} {σ : Hp} {k : Nat × Nat} : xe_X11_count ct K R (n + 1) 150 ls st σ k = (oI st fun x st => st = [] ∧ True ∧ R (some (vi x)) σ) := exS_step.trans rfl
theorem ev_X11_count_151 {ct : Nat → Bool} {K : Kt} {R : Option AV → Hp → Prop} {n : Nat} {ls : List (Option AV)} {st : List AV} {σ : Hp} {k : Nat × Nat} : xe_X11_count ct K R (n + 1) 151 ls st σ k = (lR ls 0 fun x => xk_X11_count ct K R n 152 ls (vr x :: st) σ k) := exS_step.trans rfl
theorem ev_X11_count_152 {ct : Nat → Bool} {K : Kt} {R : Option AV → Hp → Prop} {n : Nat} {ls : List (Option AV)} {st : List AV} {σ : Hp} {k : Nat × Nat} : xe_X11_count ct K R (n + 1) 152 ls st σ k = (xk_X11_count ct K R n 153 ls (vi (2) :: st) σ k) := exS_step.trans rfl
theorem ev_X11_count_153 {ct : Nat → Bool} {K : Kt} {R : Option AV → Hp → Prop} {n : Nat} {ls : List (Option AV)} {st : List AV} {σ : Hp} {k : Nat × Nat} : xe_X11_count ct K R (n + 1) 153 ls st σ k = (popN 2 st [] fun av rest => (catS rest ≤ 8 ∧ 4 < 6 ∧ k.1 + 0 ≤ 0 ∧ k.2 + 0 ≤ 0) ∧ (sp_X11_countBoxes) av σ fun v σ' => xk_X11_count ct K R n 156 ls (v.toList ++ rest) σ' (k.1 + 0, k.2 + 0)) := exS_step.trans rfl
theorem ev_X11_count_156 {ct : Nat → Bool} {K : Kt} {R : Option AV → Hp → Prop} {n : Nat} {ls : List (Option AV)} {st : List AV} {σ : Hp} {k : Nat × Nat} : xe_X11_count ct K R (n + 1) 156 ls st σ k = (oI st fun x st => st = [] ∧ True ∧ R (some (vi x)) σ) := exS_step.trans rfl
theorem ev_X11_count_157 {ct : Nat → Bool} {K : Kt} {R : Option AV → Hp → Prop} {n : Nat} {ls : List (Option AV)} {st : List AV} {σ : Hp} {k : Nat × Nat} : xe_X11_count ct K R (n + 1) 157 ls st σ k = (lR ls 0 fun x => xk_X11_count ct K R n 158 ls (vr x :: st) σ k) := exS_step.trans rfl
theorem ev_X11_count_158 {ct : Nat → Bool} {K : Kt} {R : Option AV → Hp → Prop} {n : Nat} {ls : List (Option AV)} {st : List AV} {σ : Hp} {k : Nat × Nat} : xe_X11_count ct K R (n + 1) 158 ls st σ k = (xk_X11_count ct K R n 159 ls (vi (1) :: st) σ k) := exS_step.trans rfl
theorem ev_X11_count_159 {ct : Nat → Bool} {K : Kt} {R : Option AV → Hp → Prop} {n : Nat} {ls : List (Option AV)} {st : List AV} {σ : Hp} {k : Nat × Nat} : xe_X11_count ct K R (n + 1) 159 ls st σ k = (popN 2 st [] fun av rest => (catS rest ≤ 8 ∧ 4 < 6 ∧ k.1 + 0 ≤ 0 ∧ k.2 + 0 ≤ 0) ∧ (sp_X11_countBoxes) av σ fun v σ' => xk_X11_count ct K R n 162 ls (v.toList ++ rest) σ' (k.1 + 0, k.2 + 0)) := exS_step.trans rfl
theorem ev_X11_count_162 {ct : Nat → Bool} {K : Kt} {R : Option AV → Hp → Prop} {n : Nat} {ls : List (Option AV)} {st : List AV} {σ : Hp} {k : Nat × Nat} : xe_X11_count ct K R (n + 1) 162 ls st σ k = (oI st fun x st => st = [] ∧ True ∧ R (some (vi x)) σ) := exS_step.trans rfl
theorem ev_X11_count_163 {ct : Nat → Bool} {K : Kt} {R : Option AV → Hp → Prop} {n : Nat} {ls : List (Option AV)} {st : List AV} {σ : Hp} {k : Nat × Nat} : xe_X11_count ct K R (n + 1) 163 ls st σ k = (lR ls 0 fun x => xk_X11_count ct K R n 164 ls (vr x :: st) σ k) := exS_step.trans rfl
theorem ev_X11_count_164 {ct : Nat → Bool} {K : Kt} {R : Option AV → Hp → Prop} {n : Nat} {ls : List (Option AV)} {st : List AV} {σ : Hp} {k : Nat × Nat} : xe_X11_count ct K R (n + 1) 164 ls st σ k = (popN 1 st [] fun av rest => (catS rest ≤ 8 ∧ 2 < 6 ∧ k.1 + 0 ≤ 0 ∧ k.2 + 0 ≤ 0) ∧ (sp_X11_countCutWires) av σ fun v σ' => xk_X11_count ct K R n 167 ls (v.toList ++ rest) σ' (k.1 + 0, k.2 + 0)) := exS_step.trans rfl
theorem ev_X11_count_167 {ct : Nat → Bool} {K : Kt} {R : Option AV → Hp → Prop} {n : Nat} {ls : List (Option AV)} {st : List AV} {σ : Hp} {k : Nat × Nat} : xe_X11_count ct K R (n + 1) 167 ls st σ k = (oI st fun x st => st = [] ∧ True ∧ R (some (vi x)) σ) := exS_step.trans rfl
theorem ev_X11_count_168 {ct : Nat → Bool} {K : Kt} {R : Option AV → Hp → Prop} {n : Nat} {ls : List (Option AV)} {st : List AV} {σ : Hp} {k : Nat × Nat} : xe_X11_count ct K R (n + 1) 168 ls st σ k = (xk_X11_count ct K R n 169 ls (vi (-1) :: st) σ k) := exS_step.trans rfl
theorem ev_X11_count_169 {ct : Nat → Bool} {K : Kt} {R : Option AV → Hp → Prop} {n : Nat} {ls : List (Option AV)} {st : List AV} {σ : Hp} {k : Nat × Nat} : xe_X11_count ct K R (n + 1) 169 ls st σ k = (oI st fun x st => st = [] ∧ True ∧ R (some (vi x)) σ) := exS_step.trans rfl
def M_X11_count : Md := (yX11_count, cX11_count, 2, (some FieldType.int), 6, 0, 0, 1, false, tb_X11_count, mt_X11_count)
theorem mm_X11_count : MMOK M_X11_count := ⟨by decide +kernel, tk_X11_count, mk_X11_count, rfl, fun h => by cases h⟩
theorem go_X11_count {Q : Option AV → Hp → Prop} {ct : Nat → Bool} {pc : Nat} {ls : List (Option AV)} {st : List AV} {σ : Hp} {k : Nat × Nat} (n : Nat) (h : xe_X11_count ct (Go M_X11_count Q) Q n pc ls st σ k) : Go M_X11_count Q pc ls st σ k := Go.exS mm_X11_count h

set_option maxRecDepth 20000 in
theorem c_X11_count : Ct yX11_count cX11_count 2 ((some FieldType.int)) 6 0 0 sp_X11_count := by
  refine Ct.go (M := M_X11_count) mm_X11_count fun av σ Q h0 => ?_
  obtain ⟨this, w, rfl, hk, h⟩ := el_X11_count h0
  clear h0
  refine ⟨Nat.le_of_ble_eq_true rfl, ?_⟩
  show Go M_X11_count Q 0 [some (vr this), some (vi w)] [] σ (0, 0)
  obtain ⟨rfl, hC, hw, τ, hn, hX, hLR, hG, hA, hK, hH, hM, hB, hWG, h⟩ := h
  have hI := hM.1
  have hns := hI.now_s
  by_cases c : 0 ≤ w ∧ w ≤ 12
  · have q : w = 0 ∨ w = 1 ∨ w = 2 ∨ w = 3 ∨ w = 4 ∨ w = 5 ∨ w = 6 ∨ w = 7 ∨ w = 8 ∨ w = 9 ∨ w = 10 ∨ w = 11 ∨ w = 12 := by omega
    unfold mCn at h
    rcases q with rfl | rfl | rfl | rfl | rfl | rfl | rfl | rfl | rfl | rfl | rfl | rfl | rfl
    · have ew : wI 0 = 0 := by decide
      simp only [Int.reduceEq, if_true, if_false] at h
      clear hX hLR hG hA hK hM hB hWG hI
      refine go_X11_count (ct := fun p => p == 73 || p == 81 || p == 89 || p == 100 || p == 108 || p == 119 || p == 127 || p == 135 || p == 143 || p == 151 || p == 157 || p == 163 || p == 168) 20 ?_
      simp only [oI, oL, oR, o1, lI, lL, lR, popN, catS, gv, stL, stL2, swt, cnd, spObj, List.getElem?_cons_zero, List.getElem?_cons_succ, List.getD_cons_zero, List.getD_cons_succ, List.set_cons_zero, List.set_cons_succ, List.nil_append, List.cons_append, Option.toList, Bool.or_false, Bool.false_or, Bool.or_true, Bool.true_or, Nat.reduceBEq, Nat.reduceAdd, Nat.reduceLT, Nat.reduceLeDiff, Int.reduceAdd, Int.reduceToNat, true_and, and_true, Fin.isValue, Fin.val_zero, Fin.val_one, Fin.val_two, Fin.reduceFinMk, eq_self, Int.reduceNeg, imp_self, Nat.reduceMul, Nat.le_refl, not_true_eq_false, not_false_eq_true, List.getElem?_nil, reduceCtorEq, true_or, or_true, Classical.not_not, implies_true, or_self, wI_0, wI_1, wI_m1, b2i_w, b2i_eq0, b2i_eq1, b2i_bool, nor_self, nx_pI, kd_pI, ln_pI, fI_pI, fL_pI, fR_pI, aI_pI, aL_pI, aR_pI, nx_pL, kd_pL, ln_pL, fI_pL, fL_pL, fR_pL, aI_pL, aL_pL, aR_pL, nx_pR, kd_pR, ln_pR, fI_pR, fL_pR, fR_pR, aI_pR, aL_pR, aR_pR, nx_qI, kd_qI, ln_qI, fI_qI, fL_qI, fR_qI, aI_qI, aL_qI, aR_qI, nx_qL, kd_qL, ln_qL, fI_qL, fL_qL, fR_qL, aI_qL, aL_qL, aR_qL, nx_qR, kd_qR, ln_qR, fI_qR, fL_qR, fR_qR, aI_qR, aL_qR, aR_qR, nx_mk, kd_mk, ln_mk, fI_mk, fL_mk, fR_mk, aI_mk, aL_mk, aR_mk, false_and, and_false, if_false, if_true, and_self, Int.reduceEq, Nat.reduceEqDiff, ite_self, MLay_pI, MLay_pL, MLay_qI, MLay_qL, ev_X11_count_0, ev_X11_count_1, ev_X11_count_68, ev_X11_count_69, ev_X11_count_72, xt_X11_count, xf_X11_count, us_Jx4a65c_size_8abf5, us_X3_countSent, us_X1_countOpen, us_X11_countBoxes, us_X11_countCutWires, ew, Int.reduceLT, hn, hk]
      repeat' (first | intro z | apply And.intro)
      all_goals try omega
      all_goals try contradiction
      all_goals exact h
    · have ew : wI 1 = 1 := by decide
      simp only [Int.reduceEq, if_true, if_false] at h
      have e1 := hX.2.1
      have e2 := hX.1.1
      clear hX hLR hG hA hK hM hB hWG hI
      refine go_X11_count (ct := fun p => p == 68 || p == 81 || p == 89 || p == 100 || p == 108 || p == 119 || p == 127 || p == 135 || p == 143 || p == 151 || p == 157 || p == 163 || p == 168) 20 ?_
      simp only [oI, oL, oR, o1, lI, lL, lR, popN, catS, gv, stL, stL2, swt, cnd, spObj, List.getElem?_cons_zero, List.getElem?_cons_succ, List.getD_cons_zero, List.getD_cons_succ, List.set_cons_zero, List.set_cons_succ, List.nil_append, List.cons_append, Option.toList, Bool.or_false, Bool.false_or, Bool.or_true, Bool.true_or, Nat.reduceBEq, Nat.reduceAdd, Nat.reduceLT, Nat.reduceLeDiff, Int.reduceAdd, Int.reduceToNat, true_and, and_true, Fin.isValue, Fin.val_zero, Fin.val_one, Fin.val_two, Fin.reduceFinMk, eq_self, Int.reduceNeg, imp_self, Nat.reduceMul, Nat.le_refl, not_true_eq_false, not_false_eq_true, List.getElem?_nil, reduceCtorEq, true_or, or_true, Classical.not_not, implies_true, or_self, wI_0, wI_1, wI_m1, b2i_w, b2i_eq0, b2i_eq1, b2i_bool, nor_self, nx_pI, kd_pI, ln_pI, fI_pI, fL_pI, fR_pI, aI_pI, aL_pI, aR_pI, nx_pL, kd_pL, ln_pL, fI_pL, fL_pL, fR_pL, aI_pL, aL_pL, aR_pL, nx_pR, kd_pR, ln_pR, fI_pR, fL_pR, fR_pR, aI_pR, aL_pR, aR_pR, nx_qI, kd_qI, ln_qI, fI_qI, fL_qI, fR_qI, aI_qI, aL_qI, aR_qI, nx_qL, kd_qL, ln_qL, fI_qL, fL_qL, fR_qL, aI_qL, aL_qL, aR_qL, nx_qR, kd_qR, ln_qR, fI_qR, fL_qR, fR_qR, aI_qR, aL_qR, aR_qR, nx_mk, kd_mk, ln_mk, fI_mk, fL_mk, fR_mk, aI_mk, aL_mk, aR_mk, false_and, and_false, if_false, if_true, and_self, Int.reduceEq, Nat.reduceEqDiff, ite_self, MLay_pI, MLay_pL, MLay_qI, MLay_qL, ev_X11_count_0, ev_X11_count_1, ev_X11_count_73, ev_X11_count_74, ev_X11_count_77, ev_X11_count_80, xt_X11_count, xf_X11_count, us_Jx4a65c_size_8abf5, us_X3_countSent, us_X1_countOpen, us_X11_countBoxes, us_X11_countCutWires, ew, Int.reduceLT, hk, hC.eqs, e1, e2]
      repeat' (first | intro z | apply And.intro)
      all_goals try omega
      all_goals try contradiction
      all_goals exact h
    · have ew : wI 2 = 2 := by decide
      simp only [Int.reduceEq, if_true, if_false] at h
      have e1 := hG.2.2.2.2.1
      clear hX hLR hG hA hK hM hB hWG hI
      refine go_X11_count (ct := fun p => p == 68 || p == 73 || p == 89 || p == 100 || p == 108 || p == 119 || p == 127 || p == 135 || p == 143 || p == 151 || p == 157 || p == 163 || p == 168) 20 ?_
      simp only [oI, oL, oR, o1, lI, lL, lR, popN, catS, gv, stL, stL2, swt, cnd, spObj, List.getElem?_cons_zero, List.getElem?_cons_succ, List.getD_cons_zero, List.getD_cons_succ, List.set_cons_zero, List.set_cons_succ, List.nil_append, List.cons_append, Option.toList, Bool.or_false, Bool.false_or, Bool.or_true, Bool.true_or, Nat.reduceBEq, Nat.reduceAdd, Nat.reduceLT, Nat.reduceLeDiff, Int.reduceAdd, Int.reduceToNat, true_and, and_true, Fin.isValue, Fin.val_zero, Fin.val_one, Fin.val_two, Fin.reduceFinMk, eq_self, Int.reduceNeg, imp_self, Nat.reduceMul, Nat.le_refl, not_true_eq_false, not_false_eq_true, List.getElem?_nil, reduceCtorEq, true_or, or_true, Classical.not_not, implies_true, or_self, wI_0, wI_1, wI_m1, b2i_w, b2i_eq0, b2i_eq1, b2i_bool, nor_self, nx_pI, kd_pI, ln_pI, fI_pI, fL_pI, fR_pI, aI_pI, aL_pI, aR_pI, nx_pL, kd_pL, ln_pL, fI_pL, fL_pL, fR_pL, aI_pL, aL_pL, aR_pL, nx_pR, kd_pR, ln_pR, fI_pR, fL_pR, fR_pR, aI_pR, aL_pR, aR_pR, nx_qI, kd_qI, ln_qI, fI_qI, fL_qI, fR_qI, aI_qI, aL_qI, aR_qI, nx_qL, kd_qL, ln_qL, fI_qL, fL_qL, fR_qL, aI_qL, aL_qL, aR_qL, nx_qR, kd_qR, ln_qR, fI_qR, fL_qR, fR_qR, aI_qR, aL_qR, aR_qR, nx_mk, kd_mk, ln_mk, fI_mk, fL_mk, fR_mk, aI_mk, aL_mk, aR_mk, false_and, and_false, if_false, if_true, and_self, Int.reduceEq, Nat.reduceEqDiff, ite_self, MLay_pI, MLay_pL, MLay_qI, MLay_qL, ev_X11_count_0, ev_X11_count_1, ev_X11_count_81, ev_X11_count_82, ev_X11_count_85, ev_X11_count_88, xt_X11_count, xf_X11_count, us_Jx4a65c_size_8abf5, us_X3_countSent, us_X1_countOpen, us_X11_countBoxes, us_X11_countCutWires, ew, Int.reduceLT, hk, hC.eqs, e1]
      repeat' (first | intro z | apply And.intro)
      all_goals try omega
      all_goals try contradiction
      all_goals exact h
    · have ew : wI 3 = 3 := by decide
      simp only [Int.reduceEq, if_true, if_false] at h
      have e1 := hG.2.1
      have e2 := hG.1.1
      clear hX hLR hG hA hK hM hB hWG hI
      refine go_X11_count (ct := fun p => p == 68 || p == 73 || p == 81 || p == 100 || p == 108 || p == 119 || p == 127 || p == 135 || p == 143 || p == 151 || p == 157 || p == 163 || p == 168) 20 ?_
      simp only [oI, oL, oR, o1, lI, lL, lR, popN, catS, gv, stL, stL2, swt, cnd, spObj, List.getElem?_cons_zero, List.getElem?_cons_succ, List.getD_cons_zero, List.getD_cons_succ, List.set_cons_zero, List.set_cons_succ, List.nil_append, List.cons_append, Option.toList, Bool.or_false, Bool.false_or, Bool.or_true, Bool.true_or, Nat.reduceBEq, Nat.reduceAdd, Nat.reduceLT, Nat.reduceLeDiff, Int.reduceAdd, Int.reduceToNat, true_and, and_true, Fin.isValue, Fin.val_zero, Fin.val_one, Fin.val_two, Fin.reduceFinMk, eq_self, Int.reduceNeg, imp_self, Nat.reduceMul, Nat.le_refl, not_true_eq_false, not_false_eq_true, List.getElem?_nil, reduceCtorEq, true_or, or_true, Classical.not_not, implies_true, or_self, wI_0, wI_1, wI_m1, b2i_w, b2i_eq0, b2i_eq1, b2i_bool, nor_self, nx_pI, kd_pI, ln_pI, fI_pI, fL_pI, fR_pI, aI_pI, aL_pI, aR_pI, nx_pL, kd_pL, ln_pL, fI_pL, fL_pL, fR_pL, aI_pL, aL_pL, aR_pL, nx_pR, kd_pR, ln_pR, fI_pR, fL_pR, fR_pR, aI_pR, aL_pR, aR_pR, nx_qI, kd_qI, ln_qI, fI_qI, fL_qI, fR_qI, aI_qI, aL_qI, aR_qI, nx_qL, kd_qL, ln_qL, fI_qL, fL_qL, fR_qL, aI_qL, aL_qL, aR_qL, nx_qR, kd_qR, ln_qR, fI_qR, fL_qR, fR_qR, aI_qR, aL_qR, aR_qR, nx_mk, kd_mk, ln_mk, fI_mk, fL_mk, fR_mk, aI_mk, aL_mk, aR_mk, false_and, and_false, if_false, if_true, and_self, Int.reduceEq, Nat.reduceEqDiff, ite_self, MLay_pI, MLay_pL, MLay_qI, MLay_qL, ev_X11_count_0, ev_X11_count_1, ev_X11_count_89, ev_X11_count_90, ev_X11_count_93, ev_X11_count_96, ev_X11_count_99, xt_X11_count, xf_X11_count, us_Jx4a65c_size_8abf5, us_X3_countSent, us_X1_countOpen, us_X11_countBoxes, us_X11_countCutWires, ew, Int.reduceLT, hk, hC.eqs, e1, e2]
      repeat' (first | intro z | apply And.intro)
      all_goals try omega
      all_goals try contradiction
      all_goals exact h
    · have ew : wI 4 = 4 := by decide
      simp only [Int.reduceEq, if_true, if_false] at h
      have e1 := hG.1
      have e2 := hG.sent.1
      have e3 := hG.sent.2
      clear hX hLR hG hA hK hM hB hWG hI
      refine go_X11_count (ct := fun p => p == 68 || p == 73 || p == 81 || p == 89 || p == 108 || p == 119 || p == 127 || p == 135 || p == 143 || p == 151 || p == 157 || p == 163 || p == 168) 20 ?_
      simp only [oI, oL, oR, o1, lI, lL, lR, popN, catS, gv, stL, stL2, swt, cnd, spObj, List.getElem?_cons_zero, List.getElem?_cons_succ, List.getD_cons_zero, List.getD_cons_succ, List.set_cons_zero, List.set_cons_succ, List.nil_append, List.cons_append, Option.toList, Bool.or_false, Bool.false_or, Bool.or_true, Bool.true_or, Nat.reduceBEq, Nat.reduceAdd, Nat.reduceLT, Nat.reduceLeDiff, Int.reduceAdd, Int.reduceToNat, true_and, and_true, Fin.isValue, Fin.val_zero, Fin.val_one, Fin.val_two, Fin.reduceFinMk, eq_self, Int.reduceNeg, imp_self, Nat.reduceMul, Nat.le_refl, not_true_eq_false, not_false_eq_true, List.getElem?_nil, reduceCtorEq, true_or, or_true, Classical.not_not, implies_true, or_self, wI_0, wI_1, wI_m1, b2i_w, b2i_eq0, b2i_eq1, b2i_bool, nor_self, nx_pI, kd_pI, ln_pI, fI_pI, fL_pI, fR_pI, aI_pI, aL_pI, aR_pI, nx_pL, kd_pL, ln_pL, fI_pL, fL_pL, fR_pL, aI_pL, aL_pL, aR_pL, nx_pR, kd_pR, ln_pR, fI_pR, fL_pR, fR_pR, aI_pR, aL_pR, aR_pR, nx_qI, kd_qI, ln_qI, fI_qI, fL_qI, fR_qI, aI_qI, aL_qI, aR_qI, nx_qL, kd_qL, ln_qL, fI_qL, fL_qL, fR_qL, aI_qL, aL_qL, aR_qL, nx_qR, kd_qR, ln_qR, fI_qR, fL_qR, fR_qR, aI_qR, aL_qR, aR_qR, nx_mk, kd_mk, ln_mk, fI_mk, fL_mk, fR_mk, aI_mk, aL_mk, aR_mk, false_and, and_false, if_false, if_true, and_self, Int.reduceEq, Nat.reduceEqDiff, ite_self, MLay_pI, MLay_pL, MLay_qI, MLay_qL, ev_X11_count_0, ev_X11_count_1, ev_X11_count_100, ev_X11_count_101, ev_X11_count_104, ev_X11_count_107, xt_X11_count, xf_X11_count, us_Jx4a65c_size_8abf5, us_X3_countSent, us_X1_countOpen, us_X11_countBoxes, us_X11_countCutWires, ew, Int.reduceLT, hk, hC, hC.eqs, e1, e2]
      repeat' (first | intro z | apply And.intro)
      all_goals try omega
      all_goals try contradiction
      all_goals first | exact h | exact (e3 _ ‹_› ‹_›).1 | exact (e3 _ ‹_› ‹_›).2 | exact e3
    · have ew : wI 5 = 5 := by decide
      simp only [Int.reduceEq, if_true, if_false] at h
      have e1 := hA.2.1
      have e2 := hA.1.1
      clear hX hLR hG hA hK hM hB hWG hI
      refine go_X11_count (ct := fun p => p == 68 || p == 73 || p == 81 || p == 89 || p == 100 || p == 119 || p == 127 || p == 135 || p == 143 || p == 151 || p == 157 || p == 163 || p == 168) 20 ?_
      simp only [oI, oL, oR, o1, lI, lL, lR, popN, catS, gv, stL, stL2, swt, cnd, spObj, List.getElem?_cons_zero, List.getElem?_cons_succ, List.getD_cons_zero, List.getD_cons_succ, List.set_cons_zero, List.set_cons_succ, List.nil_append, List.cons_append, Option.toList, Bool.or_false, Bool.false_or, Bool.or_true, Bool.true_or, Nat.reduceBEq, Nat.reduceAdd, Nat.reduceLT, Nat.reduceLeDiff, Int.reduceAdd, Int.reduceToNat, true_and, and_true, Fin.isValue, Fin.val_zero, Fin.val_one, Fin.val_two, Fin.reduceFinMk, eq_self, Int.reduceNeg, imp_self, Nat.reduceMul, Nat.le_refl, not_true_eq_false, not_false_eq_true, List.getElem?_nil, reduceCtorEq, true_or, or_true, Classical.not_not, implies_true, or_self, wI_0, wI_1, wI_m1, b2i_w, b2i_eq0, b2i_eq1, b2i_bool, nor_self, nx_pI, kd_pI, ln_pI, fI_pI, fL_pI, fR_pI, aI_pI, aL_pI, aR_pI, nx_pL, kd_pL, ln_pL, fI_pL, fL_pL, fR_pL, aI_pL, aL_pL, aR_pL, nx_pR, kd_pR, ln_pR, fI_pR, fL_pR, fR_pR, aI_pR, aL_pR, aR_pR, nx_qI, kd_qI, ln_qI, fI_qI, fL_qI, fR_qI, aI_qI, aL_qI, aR_qI, nx_qL, kd_qL, ln_qL, fI_qL, fL_qL, fR_qL, aI_qL, aL_qL, aR_qL, nx_qR, kd_qR, ln_qR, fI_qR, fL_qR, fR_qR, aI_qR, aL_qR, aR_qR, nx_mk, kd_mk, ln_mk, fI_mk, fL_mk, fR_mk, aI_mk, aL_mk, aR_mk, false_and, and_false, if_false, if_true, and_self, Int.reduceEq, Nat.reduceEqDiff, ite_self, MLay_pI, MLay_pL, MLay_qI, MLay_qL, ev_X11_count_0, ev_X11_count_1, ev_X11_count_108, ev_X11_count_109, ev_X11_count_112, ev_X11_count_115, ev_X11_count_118, xt_X11_count, xf_X11_count, us_Jx4a65c_size_8abf5, us_X3_countSent, us_X1_countOpen, us_X11_countBoxes, us_X11_countCutWires, ew, Int.reduceLT, hk, hC.eqs, e1, e2]
      repeat' (first | intro z | apply And.intro)
      all_goals try omega
      all_goals try contradiction
      all_goals exact h
    · have ew : wI 6 = 6 := by decide
      simp only [Int.reduceEq, if_true, if_false] at h
      have e1 := hA.1
      have hov : ∀ a, 0 ≤ a → a < fI σ 1402 28 → fI σ 105 (lat σ 28 a) = aI τ 112 a := fun a q1 q2 => (hA.2.2.1 a q1 (by rw [← hA.2.1]; exact q2)).2.2.2.2.2.2.2.2.2.1
      have e3 : ∀ a, 0 ≤ a → a < fI σ 1402 28 → 0 ≤ fI σ 105 (lat σ 28 a) ∧ fI σ 105 (lat σ 28 a) ≤ 1 := fun a q1 q2 => by rw [hov a q1 q2]; exact hI.isOver_ a
      have hals := hI.alarms_s
      have e2 : hwM (fun c => fI σ 105 (lat σ 28 c) = 0) (fI σ 1402 28).toNat = hwM (fun a => aI τ 112 a = 0) (fI τ 1371 61).toNat := by
        rw [← hA.2.1]
        exact hwM_cgb _ (fun j a b => by rw [hov j a (by have := hA.2.1; omega)])
      clear hX hLR hG hA hK hM hB hWG hI
      refine go_X11_count (ct := fun p => p == 68 || p == 73 || p == 81 || p == 89 || p == 100 || p == 108 || p == 127 || p == 135 || p == 143 || p == 151 || p == 157 || p == 163 || p == 168) 20 ?_
      simp only [oI, oL, oR, o1, lI, lL, lR, popN, catS, gv, stL, stL2, swt, cnd, spObj, List.getElem?_cons_zero, List.getElem?_cons_succ, List.getD_cons_zero, List.getD_cons_succ, List.set_cons_zero, List.set_cons_succ, List.nil_append, List.cons_append, Option.toList, Bool.or_false, Bool.false_or, Bool.or_true, Bool.true_or, Nat.reduceBEq, Nat.reduceAdd, Nat.reduceLT, Nat.reduceLeDiff, Int.reduceAdd, Int.reduceToNat, true_and, and_true, Fin.isValue, Fin.val_zero, Fin.val_one, Fin.val_two, Fin.reduceFinMk, eq_self, Int.reduceNeg, imp_self, Nat.reduceMul, Nat.le_refl, not_true_eq_false, not_false_eq_true, List.getElem?_nil, reduceCtorEq, true_or, or_true, Classical.not_not, implies_true, or_self, wI_0, wI_1, wI_m1, b2i_w, b2i_eq0, b2i_eq1, b2i_bool, nor_self, nx_pI, kd_pI, ln_pI, fI_pI, fL_pI, fR_pI, aI_pI, aL_pI, aR_pI, nx_pL, kd_pL, ln_pL, fI_pL, fL_pL, fR_pL, aI_pL, aL_pL, aR_pL, nx_pR, kd_pR, ln_pR, fI_pR, fL_pR, fR_pR, aI_pR, aL_pR, aR_pR, nx_qI, kd_qI, ln_qI, fI_qI, fL_qI, fR_qI, aI_qI, aL_qI, aR_qI, nx_qL, kd_qL, ln_qL, fI_qL, fL_qL, fR_qL, aI_qL, aL_qL, aR_qL, nx_qR, kd_qR, ln_qR, fI_qR, fL_qR, fR_qR, aI_qR, aL_qR, aR_qR, nx_mk, kd_mk, ln_mk, fI_mk, fL_mk, fR_mk, aI_mk, aL_mk, aR_mk, false_and, and_false, if_false, if_true, and_self, Int.reduceEq, Nat.reduceEqDiff, ite_self, MLay_pI, MLay_pL, MLay_qI, MLay_qL, ev_X11_count_0, ev_X11_count_1, ev_X11_count_119, ev_X11_count_120, ev_X11_count_123, ev_X11_count_126, xt_X11_count, xf_X11_count, us_Jx4a65c_size_8abf5, us_X3_countSent, us_X1_countOpen, us_X11_countBoxes, us_X11_countCutWires, ew, Int.reduceLT, hk, hC, hC.eqs, e1, e2]
      repeat' (first | intro z | apply And.intro)
      all_goals try omega
      all_goals try contradiction
      all_goals first | exact h | exact (e3 _ ‹_› ‹_›).1 | exact (e3 _ ‹_› ‹_›).2 | exact e3
    · have ew : wI 7 = 7 := by decide
      simp only [Int.reduceEq, if_true, if_false] at h
      have e1 := hA.2.2.2.2.2
      clear hX hLR hG hA hK hM hB hWG hI
      refine go_X11_count (ct := fun p => p == 68 || p == 73 || p == 81 || p == 89 || p == 100 || p == 108 || p == 119 || p == 135 || p == 143 || p == 151 || p == 157 || p == 163 || p == 168) 20 ?_
      simp only [oI, oL, oR, o1, lI, lL, lR, popN, catS, gv, stL, stL2, swt, cnd, spObj, List.getElem?_cons_zero, List.getElem?_cons_succ, List.getD_cons_zero, List.getD_cons_succ, List.set_cons_zero, List.set_cons_succ, List.nil_append, List.cons_append, Option.toList, Bool.or_false, Bool.false_or, Bool.or_true, Bool.true_or, Nat.reduceBEq, Nat.reduceAdd, Nat.reduceLT, Nat.reduceLeDiff, Int.reduceAdd, Int.reduceToNat, true_and, and_true, Fin.isValue, Fin.val_zero, Fin.val_one, Fin.val_two, Fin.reduceFinMk, eq_self, Int.reduceNeg, imp_self, Nat.reduceMul, Nat.le_refl, not_true_eq_false, not_false_eq_true, List.getElem?_nil, reduceCtorEq, true_or, or_true, Classical.not_not, implies_true, or_self, wI_0, wI_1, wI_m1, b2i_w, b2i_eq0, b2i_eq1, b2i_bool, nor_self, nx_pI, kd_pI, ln_pI, fI_pI, fL_pI, fR_pI, aI_pI, aL_pI, aR_pI, nx_pL, kd_pL, ln_pL, fI_pL, fL_pL, fR_pL, aI_pL, aL_pL, aR_pL, nx_pR, kd_pR, ln_pR, fI_pR, fL_pR, fR_pR, aI_pR, aL_pR, aR_pR, nx_qI, kd_qI, ln_qI, fI_qI, fL_qI, fR_qI, aI_qI, aL_qI, aR_qI, nx_qL, kd_qL, ln_qL, fI_qL, fL_qL, fR_qL, aI_qL, aL_qL, aR_qL, nx_qR, kd_qR, ln_qR, fI_qR, fL_qR, fR_qR, aI_qR, aL_qR, aR_qR, nx_mk, kd_mk, ln_mk, fI_mk, fL_mk, fR_mk, aI_mk, aL_mk, aR_mk, false_and, and_false, if_false, if_true, and_self, Int.reduceEq, Nat.reduceEqDiff, ite_self, MLay_pI, MLay_pL, MLay_qI, MLay_qL, ev_X11_count_0, ev_X11_count_1, ev_X11_count_127, ev_X11_count_128, ev_X11_count_131, ev_X11_count_134, xt_X11_count, xf_X11_count, us_Jx4a65c_size_8abf5, us_X3_countSent, us_X1_countOpen, us_X11_countBoxes, us_X11_countCutWires, ew, Int.reduceLT, hk, hC.eqs, e1]
      repeat' (first | intro z | apply And.intro)
      all_goals try omega
      all_goals try contradiction
      all_goals exact h
    · have ew : wI 8 = 8 := by decide
      simp only [Int.reduceEq, if_true, if_false] at h
      obtain ⟨xs, hLA, D, D2, hD12, hdk, -, hDL, -⟩ := hK
      have e1 : fI σ 807 D = fI τ 1352 61 := by rw [hLA.1, hDL.1, List.length_map]
      have e2 : kd σ D = 8 := (DkO.of hC (by omega)).1
      clear hX hLR hG hA hM hB hWG hI
      refine go_X11_count (ct := fun p => p == 68 || p == 73 || p == 81 || p == 89 || p == 100 || p == 108 || p == 119 || p == 127 || p == 143 || p == 151 || p == 157 || p == 163 || p == 168) 20 ?_
      simp only [oI, oL, oR, o1, lI, lL, lR, popN, catS, gv, stL, stL2, swt, cnd, spObj, List.getElem?_cons_zero, List.getElem?_cons_succ, List.getD_cons_zero, List.getD_cons_succ, List.set_cons_zero, List.set_cons_succ, List.nil_append, List.cons_append, Option.toList, Bool.or_false, Bool.false_or, Bool.or_true, Bool.true_or, Nat.reduceBEq, Nat.reduceAdd, Nat.reduceLT, Nat.reduceLeDiff, Int.reduceAdd, Int.reduceToNat, true_and, and_true, Fin.isValue, Fin.val_zero, Fin.val_one, Fin.val_two, Fin.reduceFinMk, eq_self, Int.reduceNeg, imp_self, Nat.reduceMul, Nat.le_refl, not_true_eq_false, not_false_eq_true, List.getElem?_nil, reduceCtorEq, true_or, or_true, Classical.not_not, implies_true, or_self, wI_0, wI_1, wI_m1, b2i_w, b2i_eq0, b2i_eq1, b2i_bool, nor_self, nx_pI, kd_pI, ln_pI, fI_pI, fL_pI, fR_pI, aI_pI, aL_pI, aR_pI, nx_pL, kd_pL, ln_pL, fI_pL, fL_pL, fR_pL, aI_pL, aL_pL, aR_pL, nx_pR, kd_pR, ln_pR, fI_pR, fL_pR, fR_pR, aI_pR, aL_pR, aR_pR, nx_qI, kd_qI, ln_qI, fI_qI, fL_qI, fR_qI, aI_qI, aL_qI, aR_qI, nx_qL, kd_qL, ln_qL, fI_qL, fL_qL, fR_qL, aI_qL, aL_qL, aR_qL, nx_qR, kd_qR, ln_qR, fI_qR, fL_qR, fR_qR, aI_qR, aL_qR, aR_qR, nx_mk, kd_mk, ln_mk, fI_mk, fL_mk, fR_mk, aI_mk, aL_mk, aR_mk, false_and, and_false, if_false, if_true, and_self, Int.reduceEq, Nat.reduceEqDiff, ite_self, MLay_pI, MLay_pL, MLay_qI, MLay_qL, ev_X11_count_0, ev_X11_count_1, ev_X11_count_135, ev_X11_count_136, ev_X11_count_139, ev_X11_count_142, xt_X11_count, xf_X11_count, us_Jx4a65c_size_8abf5, us_X3_countSent, us_X1_countOpen, us_X11_countBoxes, us_X11_countCutWires, ew, Int.reduceLT, hk, hdk, e1, e2]
      repeat' (first | intro z | apply And.intro)
      all_goals try omega
      all_goals try contradiction
      all_goals exact h
    · have ew : wI 9 = 9 := by decide
      simp only [Int.reduceEq, if_true, if_false] at h
      clear hX hLR hG hA hK hM hB hWG hI
      refine go_X11_count (ct := fun p => p == 68 || p == 73 || p == 81 || p == 89 || p == 100 || p == 108 || p == 119 || p == 127 || p == 135 || p == 151 || p == 157 || p == 163 || p == 168) 20 ?_
      simp only [oI, oL, oR, o1, lI, lL, lR, popN, catS, gv, stL, stL2, swt, cnd, spObj, List.getElem?_cons_zero, List.getElem?_cons_succ, List.getD_cons_zero, List.getD_cons_succ, List.set_cons_zero, List.set_cons_succ, List.nil_append, List.cons_append, Option.toList, Bool.or_false, Bool.false_or, Bool.or_true, Bool.true_or, Nat.reduceBEq, Nat.reduceAdd, Nat.reduceLT, Nat.reduceLeDiff, Int.reduceAdd, Int.reduceToNat, true_and, and_true, Fin.isValue, Fin.val_zero, Fin.val_one, Fin.val_two, Fin.reduceFinMk, eq_self, Int.reduceNeg, imp_self, Nat.reduceMul, Nat.le_refl, not_true_eq_false, not_false_eq_true, List.getElem?_nil, reduceCtorEq, true_or, or_true, Classical.not_not, implies_true, or_self, wI_0, wI_1, wI_m1, b2i_w, b2i_eq0, b2i_eq1, b2i_bool, nor_self, nx_pI, kd_pI, ln_pI, fI_pI, fL_pI, fR_pI, aI_pI, aL_pI, aR_pI, nx_pL, kd_pL, ln_pL, fI_pL, fL_pL, fR_pL, aI_pL, aL_pL, aR_pL, nx_pR, kd_pR, ln_pR, fI_pR, fL_pR, fR_pR, aI_pR, aL_pR, aR_pR, nx_qI, kd_qI, ln_qI, fI_qI, fL_qI, fR_qI, aI_qI, aL_qI, aR_qI, nx_qL, kd_qL, ln_qL, fI_qL, fL_qL, fR_qL, aI_qL, aL_qL, aR_qL, nx_qR, kd_qR, ln_qR, fI_qR, fL_qR, fR_qR, aI_qR, aL_qR, aR_qR, nx_mk, kd_mk, ln_mk, fI_mk, fL_mk, fR_mk, aI_mk, aL_mk, aR_mk, false_and, and_false, if_false, if_true, and_self, Int.reduceEq, Nat.reduceEqDiff, ite_self, MLay_pI, MLay_pL, MLay_qI, MLay_qL, ev_X11_count_0, ev_X11_count_1, ev_X11_count_143, ev_X11_count_144, ev_X11_count_147, ev_X11_count_150, xt_X11_count, xf_X11_count, us_Jx4a65c_size_8abf5, us_X3_countSent, us_X1_countOpen, us_X11_countBoxes, us_X11_countCutWires, ew, Int.reduceLT, hk, hC.eqs, hH]
      repeat' (first | intro z | apply And.intro)
      all_goals try omega
      all_goals try contradiction
      all_goals exact h
    · have ew : wI 10 = 10 := by decide
      simp only [Int.reduceEq, if_true, if_false] at h
      have e2 : hwM (fun i => cSta σ (lat σ 3 i) (fI τ 1301 61) = 2) (fI τ 1302 61).toNat = hwM (fun b => mGoing τ b) (fI τ 1302 61).toNat := by
        have hbs := hI.boxes_s
        refine hwM_cgb _ (fun j a b => ?_)
        have hE := hX.2.2 j a (by omega)
        have hg := going_is hM hE
        have hwg := hWG j a (by omega)
        have e11 := hE.2.2.2.2.2.2.2.2.2.2.2.1
        unfold cSta
        rw [e11]
        by_cases c1 : aI τ 70 j = 0
        · rw [if_neg (fun q => q c1)]
          by_cases c2 : mGoing τ j
          · rw [b2i_t (hg.mpr c2)]; exact ⟨fun _ => c2, fun _ => by decide⟩
          · rw [b2i_f (fun q => c2 (hg.mp q))]; exact ⟨fun q => absurd q (by decide), fun q => absurd q c2⟩
        · rw [if_pos c1]
          exact ⟨fun q => absurd q (by decide), fun q => absurd q (hwg c1)⟩
      rw [← e2] at h
      have w156 : Go M_X11_count Q 156 [some (vr 1), some (vi 10)] [vi (hwM (fun i => cSta σ (lat σ 3 i) (fI τ 1301 61) = 2) (fI τ 1302 61).toNat)] σ (0, 0) := by
        clear hX hLR hG hA hK hM hB hWG hI e2
        refine go_X11_count (ct := fun p => p == 200) 20 ?_
        simp only [oI, oL, oR, o1, lI, lL, lR, popN, catS, gv, stL, stL2, swt, cnd, spObj, List.getElem?_cons_zero, List.getElem?_cons_succ, List.getD_cons_zero, List.getD_cons_succ, List.set_cons_zero, List.set_cons_succ, List.nil_append, List.cons_append, Option.toList, Bool.or_false, Bool.false_or, Bool.or_true, Bool.true_or, Nat.reduceBEq, Nat.reduceAdd, Nat.reduceLT, Nat.reduceLeDiff, Int.reduceAdd, Int.reduceToNat, true_and, and_true, Fin.isValue, Fin.val_zero, Fin.val_one, Fin.val_two, Fin.reduceFinMk, eq_self, Int.reduceNeg, imp_self, Nat.reduceMul, Nat.le_refl, not_true_eq_false, not_false_eq_true, List.getElem?_nil, reduceCtorEq, true_or, or_true, Classical.not_not, implies_true, or_self, wI_0, wI_1, wI_m1, b2i_w, b2i_eq0, b2i_eq1, b2i_bool, nor_self, nx_pI, kd_pI, ln_pI, fI_pI, fL_pI, fR_pI, aI_pI, aL_pI, aR_pI, nx_pL, kd_pL, ln_pL, fI_pL, fL_pL, fR_pL, aI_pL, aL_pL, aR_pL, nx_pR, kd_pR, ln_pR, fI_pR, fL_pR, fR_pR, aI_pR, aL_pR, aR_pR, nx_qI, kd_qI, ln_qI, fI_qI, fL_qI, fR_qI, aI_qI, aL_qI, aR_qI, nx_qL, kd_qL, ln_qL, fI_qL, fL_qL, fR_qL, aI_qL, aL_qL, aR_qL, nx_qR, kd_qR, ln_qR, fI_qR, fL_qR, fR_qR, aI_qR, aL_qR, aR_qR, nx_mk, kd_mk, ln_mk, fI_mk, fL_mk, fR_mk, aI_mk, aL_mk, aR_mk, false_and, and_false, if_false, if_true, and_self, Int.reduceEq, Nat.reduceEqDiff, ite_self, MLay_pI, MLay_pL, MLay_qI, MLay_qL, ev_X11_count_156, xt_X11_count, xf_X11_count, us_Jx4a65c_size_8abf5, us_X3_countSent, us_X1_countOpen, us_X11_countBoxes, us_X11_countCutWires]
        repeat' (first | intro z | apply And.intro)
        all_goals try omega
        all_goals try contradiction
        all_goals exact h
      clear hLR hG hA hK hM hB hWG h e2
      refine go_X11_count (ct := fun p => p == 68 || p == 73 || p == 81 || p == 89 || p == 100 || p == 108 || p == 119 || p == 127 || p == 135 || p == 143 || p == 157 || p == 163 || p == 168 || p == 156) 20 ?_
      simp only [oI, oL, oR, o1, lI, lL, lR, popN, catS, gv, stL, stL2, swt, cnd, spObj, List.getElem?_cons_zero, List.getElem?_cons_succ, List.getD_cons_zero, List.getD_cons_succ, List.set_cons_zero, List.set_cons_succ, List.nil_append, List.cons_append, Option.toList, Bool.or_false, Bool.false_or, Bool.or_true, Bool.true_or, Nat.reduceBEq, Nat.reduceAdd, Nat.reduceLT, Nat.reduceLeDiff, Int.reduceAdd, Int.reduceToNat, true_and, and_true, Fin.isValue, Fin.val_zero, Fin.val_one, Fin.val_two, Fin.reduceFinMk, eq_self, Int.reduceNeg, imp_self, Nat.reduceMul, Nat.le_refl, not_true_eq_false, not_false_eq_true, List.getElem?_nil, reduceCtorEq, true_or, or_true, Classical.not_not, implies_true, or_self, wI_0, wI_1, wI_m1, b2i_w, b2i_eq0, b2i_eq1, b2i_bool, nor_self, nx_pI, kd_pI, ln_pI, fI_pI, fL_pI, fR_pI, aI_pI, aL_pI, aR_pI, nx_pL, kd_pL, ln_pL, fI_pL, fL_pL, fR_pL, aI_pL, aL_pL, aR_pL, nx_pR, kd_pR, ln_pR, fI_pR, fL_pR, fR_pR, aI_pR, aL_pR, aR_pR, nx_qI, kd_qI, ln_qI, fI_qI, fL_qI, fR_qI, aI_qI, aL_qI, aR_qI, nx_qL, kd_qL, ln_qL, fI_qL, fL_qL, fR_qL, aI_qL, aL_qL, aR_qL, nx_qR, kd_qR, ln_qR, fI_qR, fL_qR, fR_qR, aI_qR, aL_qR, aR_qR, nx_mk, kd_mk, ln_mk, fI_mk, fL_mk, fR_mk, aI_mk, aL_mk, aR_mk, false_and, and_false, if_false, if_true, and_self, Int.reduceEq, Nat.reduceEqDiff, ite_self, MLay_pI, MLay_pL, MLay_qI, MLay_qL, ev_X11_count_0, ev_X11_count_1, ev_X11_count_151, ev_X11_count_152, ev_X11_count_153, xt_X11_count, xf_X11_count, us_Jx4a65c_size_8abf5, us_X3_countSent, us_X1_countOpen, us_X11_countBoxes, us_X11_countCutWires, ew, Int.reduceLT, hk, hC, hn, hns]
      repeat' (first | intro z | apply And.intro)
      all_goals try omega
      all_goals try contradiction
      all_goals first | exact ⟨τ, hX, hI, w156⟩ | omega
    · have ew : wI 11 = 11 := by decide
      simp only [Int.reduceEq, if_true, if_false] at h
      have e2 : hwM (fun i => cSta σ (lat σ 3 i) (fI τ 1301 61) = 1) (fI τ 1302 61).toNat = hwM (fun b => ¬ aI τ 70 b = 0) (fI τ 1302 61).toNat := by
        have hbs := hI.boxes_s
        refine hwM_cgb _ (fun j a b => ?_)
        have hE := hX.2.2 j a (by omega)
        have e11 := hE.2.2.2.2.2.2.2.2.2.2.2.1
        unfold cSta
        rw [e11]
        by_cases c1 : aI τ 70 j = 0
        · rw [if_neg (fun q => q c1)]
          by_cases c2 : cGo σ (lat σ 3 j) (fI τ 1301 61)
          · rw [b2i_t c2]; exact ⟨fun q => absurd q (by decide), fun q => absurd c1 q⟩
          · rw [b2i_f c2]; exact ⟨fun q => absurd q (by decide), fun q => absurd c1 q⟩
        · rw [if_pos c1]
          exact ⟨fun _ => c1, fun _ => rfl⟩
      rw [← e2] at h
      have w162 : Go M_X11_count Q 162 [some (vr 1), some (vi 11)] [vi (hwM (fun i => cSta σ (lat σ 3 i) (fI τ 1301 61) = 1) (fI τ 1302 61).toNat)] σ (0, 0) := by
        clear hX hLR hG hA hK hM hB hWG hI e2
        refine go_X11_count (ct := fun p => p == 200) 20 ?_
        simp only [oI, oL, oR, o1, lI, lL, lR, popN, catS, gv, stL, stL2, swt, cnd, spObj, List.getElem?_cons_zero, List.getElem?_cons_succ, List.getD_cons_zero, List.getD_cons_succ, List.set_cons_zero, List.set_cons_succ, List.nil_append, List.cons_append, Option.toList, Bool.or_false, Bool.false_or, Bool.or_true, Bool.true_or, Nat.reduceBEq, Nat.reduceAdd, Nat.reduceLT, Nat.reduceLeDiff, Int.reduceAdd, Int.reduceToNat, true_and, and_true, Fin.isValue, Fin.val_zero, Fin.val_one, Fin.val_two, Fin.reduceFinMk, eq_self, Int.reduceNeg, imp_self, Nat.reduceMul, Nat.le_refl, not_true_eq_false, not_false_eq_true, List.getElem?_nil, reduceCtorEq, true_or, or_true, Classical.not_not, implies_true, or_self, wI_0, wI_1, wI_m1, b2i_w, b2i_eq0, b2i_eq1, b2i_bool, nor_self, nx_pI, kd_pI, ln_pI, fI_pI, fL_pI, fR_pI, aI_pI, aL_pI, aR_pI, nx_pL, kd_pL, ln_pL, fI_pL, fL_pL, fR_pL, aI_pL, aL_pL, aR_pL, nx_pR, kd_pR, ln_pR, fI_pR, fL_pR, fR_pR, aI_pR, aL_pR, aR_pR, nx_qI, kd_qI, ln_qI, fI_qI, fL_qI, fR_qI, aI_qI, aL_qI, aR_qI, nx_qL, kd_qL, ln_qL, fI_qL, fL_qL, fR_qL, aI_qL, aL_qL, aR_qL, nx_qR, kd_qR, ln_qR, fI_qR, fL_qR, fR_qR, aI_qR, aL_qR, aR_qR, nx_mk, kd_mk, ln_mk, fI_mk, fL_mk, fR_mk, aI_mk, aL_mk, aR_mk, false_and, and_false, if_false, if_true, and_self, Int.reduceEq, Nat.reduceEqDiff, ite_self, MLay_pI, MLay_pL, MLay_qI, MLay_qL, ev_X11_count_162, xt_X11_count, xf_X11_count, us_Jx4a65c_size_8abf5, us_X3_countSent, us_X1_countOpen, us_X11_countBoxes, us_X11_countCutWires]
        repeat' (first | intro z | apply And.intro)
        all_goals try omega
        all_goals try contradiction
        all_goals exact h
      clear hLR hG hA hK hM hB hWG h e2
      refine go_X11_count (ct := fun p => p == 68 || p == 73 || p == 81 || p == 89 || p == 100 || p == 108 || p == 119 || p == 127 || p == 135 || p == 143 || p == 151 || p == 163 || p == 168 || p == 162) 20 ?_
      simp only [oI, oL, oR, o1, lI, lL, lR, popN, catS, gv, stL, stL2, swt, cnd, spObj, List.getElem?_cons_zero, List.getElem?_cons_succ, List.getD_cons_zero, List.getD_cons_succ, List.set_cons_zero, List.set_cons_succ, List.nil_append, List.cons_append, Option.toList, Bool.or_false, Bool.false_or, Bool.or_true, Bool.true_or, Nat.reduceBEq, Nat.reduceAdd, Nat.reduceLT, Nat.reduceLeDiff, Int.reduceAdd, Int.reduceToNat, true_and, and_true, Fin.isValue, Fin.val_zero, Fin.val_one, Fin.val_two, Fin.reduceFinMk, eq_self, Int.reduceNeg, imp_self, Nat.reduceMul, Nat.le_refl, not_true_eq_false, not_false_eq_true, List.getElem?_nil, reduceCtorEq, true_or, or_true, Classical.not_not, implies_true, or_self, wI_0, wI_1, wI_m1, b2i_w, b2i_eq0, b2i_eq1, b2i_bool, nor_self, nx_pI, kd_pI, ln_pI, fI_pI, fL_pI, fR_pI, aI_pI, aL_pI, aR_pI, nx_pL, kd_pL, ln_pL, fI_pL, fL_pL, fR_pL, aI_pL, aL_pL, aR_pL, nx_pR, kd_pR, ln_pR, fI_pR, fL_pR, fR_pR, aI_pR, aL_pR, aR_pR, nx_qI, kd_qI, ln_qI, fI_qI, fL_qI, fR_qI, aI_qI, aL_qI, aR_qI, nx_qL, kd_qL, ln_qL, fI_qL, fL_qL, fR_qL, aI_qL, aL_qL, aR_qL, nx_qR, kd_qR, ln_qR, fI_qR, fL_qR, fR_qR, aI_qR, aL_qR, aR_qR, nx_mk, kd_mk, ln_mk, fI_mk, fL_mk, fR_mk, aI_mk, aL_mk, aR_mk, false_and, and_false, if_false, if_true, and_self, Int.reduceEq, Nat.reduceEqDiff, ite_self, MLay_pI, MLay_pL, MLay_qI, MLay_qL, ev_X11_count_0, ev_X11_count_1, ev_X11_count_157, ev_X11_count_158, ev_X11_count_159, xt_X11_count, xf_X11_count, us_Jx4a65c_size_8abf5, us_X3_countSent, us_X1_countOpen, us_X11_countBoxes, us_X11_countCutWires, ew, Int.reduceLT, hk, hC, hn, hns]
      repeat' (first | intro z | apply And.intro)
      all_goals try omega
      all_goals try contradiction
      all_goals first | exact ⟨τ, hX, hI, w162⟩ | omega
    · have ew : wI 12 = 12 := by decide
      simp only [Int.reduceEq, if_true, if_false] at h
      have e1 : ∀ l, 0 ≤ l → l < 4 → LpO σ (45 + 4 * l) := fun l q1 q2 => LoP.o hC hX hI ⟨q1, q2⟩ (hLR l q1 q2).1.1 (hLR l q1 q2).1.2 (fun k a b => (hB.1 l k q1 q2 a b).1)
      have e2 := cut_is (σ := σ) hI (fun l q1 q2 => (hLR l q1 q2).1.1)
      clear hX hLR hG hA hK hM hB hWG hI
      refine go_X11_count (ct := fun p => p == 68 || p == 73 || p == 81 || p == 89 || p == 100 || p == 108 || p == 119 || p == 127 || p == 135 || p == 143 || p == 151 || p == 157 || p == 168) 20 ?_
      simp only [oI, oL, oR, o1, lI, lL, lR, popN, catS, gv, stL, stL2, swt, cnd, spObj, List.getElem?_cons_zero, List.getElem?_cons_succ, List.getD_cons_zero, List.getD_cons_succ, List.set_cons_zero, List.set_cons_succ, List.nil_append, List.cons_append, Option.toList, Bool.or_false, Bool.false_or, Bool.or_true, Bool.true_or, Nat.reduceBEq, Nat.reduceAdd, Nat.reduceLT, Nat.reduceLeDiff, Int.reduceAdd, Int.reduceToNat, true_and, and_true, Fin.isValue, Fin.val_zero, Fin.val_one, Fin.val_two, Fin.reduceFinMk, eq_self, Int.reduceNeg, imp_self, Nat.reduceMul, Nat.le_refl, not_true_eq_false, not_false_eq_true, List.getElem?_nil, reduceCtorEq, true_or, or_true, Classical.not_not, implies_true, or_self, wI_0, wI_1, wI_m1, b2i_w, b2i_eq0, b2i_eq1, b2i_bool, nor_self, nx_pI, kd_pI, ln_pI, fI_pI, fL_pI, fR_pI, aI_pI, aL_pI, aR_pI, nx_pL, kd_pL, ln_pL, fI_pL, fL_pL, fR_pL, aI_pL, aL_pL, aR_pL, nx_pR, kd_pR, ln_pR, fI_pR, fL_pR, fR_pR, aI_pR, aL_pR, aR_pR, nx_qI, kd_qI, ln_qI, fI_qI, fL_qI, fR_qI, aI_qI, aL_qI, aR_qI, nx_qL, kd_qL, ln_qL, fI_qL, fL_qL, fR_qL, aI_qL, aL_qL, aR_qL, nx_qR, kd_qR, ln_qR, fI_qR, fL_qR, fR_qR, aI_qR, aL_qR, aR_qR, nx_mk, kd_mk, ln_mk, fI_mk, fL_mk, fR_mk, aI_mk, aL_mk, aR_mk, false_and, and_false, if_false, if_true, and_self, Int.reduceEq, Nat.reduceEqDiff, ite_self, MLay_pI, MLay_pL, MLay_qI, MLay_qL, ev_X11_count_0, ev_X11_count_1, ev_X11_count_163, ev_X11_count_164, ev_X11_count_167, xt_X11_count, xf_X11_count, us_Jx4a65c_size_8abf5, us_X3_countSent, us_X1_countOpen, us_X11_countBoxes, us_X11_countCutWires, ew, Int.reduceLT, hk, hC, e2]
      repeat' (first | exact e1 | exact h | (intro z; exact False.elim z) | (intro _) | apply And.intro)
      all_goals first | exact h | omega
  · have e : mCn τ w = -1 := by
      unfold mCn
      rw [if_neg (by omega), if_neg (by omega), if_neg (by omega), if_neg (by omega), if_neg (by omega), if_neg (by omega), if_neg (by omega), if_neg (by omega), if_neg (by omega), if_neg (by omega), if_neg (by omega), if_neg (by omega), if_neg (by omega)]
    rw [e] at h
    have ew : wI w = w := wI_id hw.1 hw.2
    clear hX hLR hG hA hK hM hB hWG hI e
    refine go_X11_count (ct := fun p => p == 68 || p == 73 || p == 81 || p == 89 || p == 100 || p == 108 || p == 119 || p == 127 || p == 135 || p == 143 || p == 151 || p == 157 || p == 163) 20 ?_
    simp only [oI, oL, oR, o1, lI, lL, lR, popN, catS, gv, stL, stL2, swt, cnd, spObj, List.getElem?_cons_zero, List.getElem?_cons_succ, List.getD_cons_zero, List.getD_cons_succ, List.set_cons_zero, List.set_cons_succ, List.nil_append, List.cons_append, Option.toList, Bool.or_false, Bool.false_or, Bool.or_true, Bool.true_or, Nat.reduceBEq, Nat.reduceAdd, Nat.reduceLT, Nat.reduceLeDiff, Int.reduceAdd, Int.reduceToNat, true_and, and_true, Fin.isValue, Fin.val_zero, Fin.val_one, Fin.val_two, Fin.reduceFinMk, eq_self, Int.reduceNeg, imp_self, Nat.reduceMul, Nat.le_refl, not_true_eq_false, not_false_eq_true, List.getElem?_nil, reduceCtorEq, true_or, or_true, Classical.not_not, implies_true, or_self, wI_0, wI_1, wI_m1, b2i_w, b2i_eq0, b2i_eq1, b2i_bool, nor_self, nx_pI, kd_pI, ln_pI, fI_pI, fL_pI, fR_pI, aI_pI, aL_pI, aR_pI, nx_pL, kd_pL, ln_pL, fI_pL, fL_pL, fR_pL, aI_pL, aL_pL, aR_pL, nx_pR, kd_pR, ln_pR, fI_pR, fL_pR, fR_pR, aI_pR, aL_pR, aR_pR, nx_qI, kd_qI, ln_qI, fI_qI, fL_qI, fR_qI, aI_qI, aL_qI, aR_qI, nx_qL, kd_qL, ln_qL, fI_qL, fL_qL, fR_qL, aI_qL, aL_qL, aR_qL, nx_qR, kd_qR, ln_qR, fI_qR, fL_qR, fR_qR, aI_qR, aL_qR, aR_qR, nx_mk, kd_mk, ln_mk, fI_mk, fL_mk, fR_mk, aI_mk, aL_mk, aR_mk, false_and, and_false, if_false, if_true, and_self, Int.reduceEq, Nat.reduceEqDiff, ite_self, MLay_pI, MLay_pL, MLay_qI, MLay_qL, ev_X11_count_0, ev_X11_count_1, ev_X11_count_168, ev_X11_count_169, xt_X11_count, xf_X11_count, us_Jx4a65c_size_8abf5, us_X3_countSent, us_X1_countOpen, us_X11_countBoxes, us_X11_countCutWires, ew]
    repeat' (first | intro z | apply And.intro)
    all_goals try omega
    all_goals try contradiction
    all_goals exact h
