/-! the class: readings, what stands -/

theorem mAsk_box {τ : Hp} : ∀ k : Nat, (mAsk τ k).1 < 0 ∨ ∃ j : Int, 0 ≤ j ∧ j < k ∧ (mAsk τ k).1 = aI τ 75 (12 * fI τ 1321 61 + j)
  | 0 => Or.inl (by unfold mAsk; decide)
  | k + 1 => by
    have ih := mAsk_box (τ := τ) k
    unfold mAsk
    split
    · exact ih.imp id (fun ⟨j, a, b, c⟩ => ⟨j, a, by omega, c⟩)
    · exact Or.inr ⟨k, by omega, by omega, rfl⟩

def sp_X11_stories : Sp := fun av σ Q => oR av fun this av => av = [] ∧ kd σ this = 12 ∧ (this = 1 ∧ CLay σ ∧ Q (some (vi (fI σ 1109 4))) σ)
theorem us_X11_stories (this : Int) (σ : Hp) (Q : Option AV → Hp → Prop) : sp_X11_stories [vr this] σ Q = (kd σ this = 12 ∧ (this = 1 ∧ CLay σ ∧ Q (some (vi (fI σ 1109 4))) σ)) := propext ⟨fun h => h.2, fun h => ⟨rfl, h⟩⟩
theorem el_X11_stories {av : List AV} {σ : Hp} {Q : Option AV → Hp → Prop} (h : sp_X11_stories av σ Q) : ∃ (this : Int), av = [vr this] ∧ (kd σ this = 12 ∧ (this = 1 ∧ CLay σ ∧ Q (some (vi (fI σ 1109 4))) σ)) := by
  obtain ⟨this, a0, rfl, h0⟩ := oR_s h
  obtain ⟨rfl, hz⟩ := h0
  exact ⟨this, rfl, hz⟩
theorem rc_X11_stories : ∀ (av : List AV) (σ : Hp) (Q : Option AV → Hp → Prop), sp_X11_stories av σ Q → ∃ r tl, av = vr r :: tl ∧ kd σ r = 11 + 1 := fun av σ Q h => by
  obtain ⟨this, rfl, hz, -⟩ := el_X11_stories h
  exact ⟨this, _, rfl, hz⟩

def tb_X11_stories : Tab := [(0, .aload_n 0, 1, (0, 0, 0, 0)), (1, .getfield 18, 3, (12, 1201, 2, 0)), (4, .getfield 150, 3, (11, 1109, 0, 0)), (7, .ireturn, 1, (0, 0, 0, 0))]
set_option maxRecDepth 100000 in
theorem tk_X11_stories : TOK RX11 false cX11_stories tb_X11_stories := chkT_ok ft_X11 (by decide +kernel)
def mt_X11_stories : List (Nat × Mt) := []
theorem mk_X11_stories : MOK RX11 mt_X11_stories := fun q hq => by cases hq
noncomputable def xe_X11_stories (ct : Nat → Bool) (K : Kt) (R : Option AV → Hp → Prop) (n : Nat) : Kt := exS 1 1 0 0 1 tb_X11_stories mt_X11_stories ct K R n
noncomputable def xk_X11_stories (ct : Nat → Bool) (K : Kt) (R : Option AV → Hp → Prop) (n : Nat) : Kt := exkS 1 1 0 0 1 tb_X11_stories mt_X11_stories ct K R n
theorem xt_X11_stories {ct : Nat → Bool} {K : Kt} {R : Option AV → Hp → Prop} {n pc : Nat} {ls : List (Option AV)} {st : List AV} {σ : Hp} {k : Nat × Nat} (h : ct pc = true) : xk_X11_stories ct K R n pc ls st σ k = K pc ls st σ k := by unfold xk_X11_stories exkS; rw [h]
theorem xf_X11_stories {ct : Nat → Bool} {K : Kt} {R : Option AV → Hp → Prop} {n pc : Nat} {ls : List (Option AV)} {st : List AV} {σ : Hp} {k : Nat × Nat} (h : ct pc = false) : xk_X11_stories ct K R n pc ls st σ k = xe_X11_stories ct K R n pc ls st σ k := by unfold xk_X11_stories exkS xe_X11_stories; rw [h]
theorem ev_X11_stories_0 {ct : Nat → Bool} {K : Kt} {R : Option AV → Hp → Prop} {n : Nat} {ls : List (Option AV)} {st : List AV} {σ : Hp} {k : Nat × Nat} : xe_X11_stories ct K R (n + 1) 0 ls st σ k = (lR ls 0 fun x => xk_X11_stories ct K R n 1 ls (vr x :: st) σ k) := exS_step.trans rfl
theorem ev_X11_stories_1 {ct : Nat → Bool} {K : Kt} {R : Option AV → Hp → Prop} {n : Nat} {ls : List (Option AV)} {st : List AV} {σ : Hp} {k : Nat × Nat} : xe_X11_stories ct K R (n + 1) 1 ls st σ k = (oR st fun x st => kd σ x = 12 ∧ xk_X11_stories ct K R n 4 ls (vr (fR σ 1201 x) :: st) σ k) := exS_step.trans rfl
theorem ev_X11_stories_4 {ct : Nat → Bool} {K : Kt} {R : Option AV → Hp → Prop} {n : Nat} {ls : List (Option AV)} {st : List AV} {σ : Hp} {k : Nat × Nat} : xe_X11_stories ct K R (n + 1) 4 ls st σ k = (oR st fun x st => kd σ x = 11 ∧ xk_X11_stories ct K R n 7 ls (vi (fI σ 1109 x) :: st) σ k) := exS_step.trans rfl
theorem ev_X11_stories_7 {ct : Nat → Bool} {K : Kt} {R : Option AV → Hp → Prop} {n : Nat} {ls : List (Option AV)} {st : List AV} {σ : Hp} {k : Nat × Nat} : xe_X11_stories ct K R (n + 1) 7 ls st σ k = (oI st fun x st => st = [] ∧ True ∧ R (some (vi x)) σ) := exS_step.trans rfl
def M_X11_stories : Md := (yX11_stories, cX11_stories, 1, (some FieldType.int), 1, 0, 0, 1, false, tb_X11_stories, mt_X11_stories)
theorem mm_X11_stories : MMOK M_X11_stories := ⟨by decide +kernel, tk_X11_stories, mk_X11_stories, rfl, fun h => by cases h⟩
theorem go_X11_stories {Q : Option AV → Hp → Prop} {ct : Nat → Bool} {pc : Nat} {ls : List (Option AV)} {st : List AV} {σ : Hp} {k : Nat × Nat} (n : Nat) (h : xe_X11_stories ct (Go M_X11_stories Q) Q n pc ls st σ k) : Go M_X11_stories Q pc ls st σ k := Go.exS mm_X11_stories h

set_option maxRecDepth 20000 in
theorem c_X11_stories : Ct yX11_stories cX11_stories 1 ((some FieldType.int)) 1 0 0 sp_X11_stories := by
  refine Ct.go (M := M_X11_stories) mm_X11_stories fun av σ Q h0 => ?_
  obtain ⟨this, rfl, hk, h⟩ := el_X11_stories h0
  clear h0
  refine ⟨Nat.le_of_ble_eq_true rfl, ?_⟩
  show Go M_X11_stories Q 0 [some (vr this)] [] σ (0, 0)
  obtain ⟨rfl, hC, h⟩ := h
  refine go_X11_stories (ct := fun p => p == 99) 20 ?_
  simp only [oI, oL, oR, o1, lI, lL, lR, popN, catS, gv, stL, stL2, swt, cnd, spObj, List.getElem?_cons_zero, List.getElem?_cons_succ, List.getD_cons_zero, List.getD_cons_succ, List.set_cons_zero, List.set_cons_succ, List.nil_append, List.cons_append, Option.toList, Bool.or_false, Bool.false_or, Bool.or_true, Bool.true_or, Nat.reduceBEq, Nat.reduceAdd, Nat.reduceLT, Nat.reduceLeDiff, Int.reduceAdd, Int.reduceToNat, true_and, and_true, Fin.isValue, Fin.val_zero, Fin.val_one, Fin.val_two, Fin.reduceFinMk, eq_self, Int.reduceNeg, imp_self, Nat.reduceMul, Nat.le_refl, not_true_eq_false, not_false_eq_true, List.getElem?_nil, reduceCtorEq, true_or, or_true, Classical.not_not, implies_true, or_self, wI_0, wI_1, wI_m1, b2i_w, b2i_eq0, b2i_eq1, b2i_bool, nor_self, nx_pI, kd_pI, ln_pI, fI_pI, fL_pI, fR_pI, aI_pI, aL_pI, aR_pI, nx_pL, kd_pL, ln_pL, fI_pL, fL_pL, fR_pL, aI_pL, aL_pL, aR_pL, nx_pR, kd_pR, ln_pR, fI_pR, fL_pR, fR_pR, aI_pR, aL_pR, aR_pR, nx_qI, kd_qI, ln_qI, fI_qI, fL_qI, fR_qI, aI_qI, aL_qI, aR_qI, nx_qL, kd_qL, ln_qL, fI_qL, fL_qL, fR_qL, aI_qL, aL_qL, aR_qL, nx_qR, kd_qR, ln_qR, fI_qR, fL_qR, fR_qR, aI_qR, aL_qR, aR_qR, nx_mk, kd_mk, ln_mk, fI_mk, fL_mk, fR_mk, aI_mk, aL_mk, aR_mk, false_and, and_false, if_false, if_true, and_self, Int.reduceEq, Nat.reduceEqDiff, ite_self, MLay_pI, MLay_pL, MLay_qI, MLay_qL, ev_X11_stories_0, ev_X11_stories_1, ev_X11_stories_4, ev_X11_stories_7, xt_X11_stories, xf_X11_stories, hC.eqs]
  repeat' (first | intro z | apply And.intro)
  all_goals try omega
  all_goals try contradiction
  all_goals exact h

def sp_X11_ask : Sp := fun av σ Q => oR av fun this av => av = [] ∧ kd σ this = 12 ∧ (this = 1 ∧ CLay σ ∧ ∃ τ, RDR σ τ ∧ MI τ ∧ RB τ ∧ BX σ τ ∧ (∀ l, 0 ≤ l → l < 4 → LoP σ τ l) ∧ Q (some (vi (if 2 ≤ fI τ 1322 61 then (mAsk τ (aI τ 74 (fI τ 1321 61)).toNat).1 else -1))) σ)
theorem us_X11_ask (this : Int) (σ : Hp) (Q : Option AV → Hp → Prop) : sp_X11_ask [vr this] σ Q = (kd σ this = 12 ∧ (this = 1 ∧ CLay σ ∧ ∃ τ, RDR σ τ ∧ MI τ ∧ RB τ ∧ BX σ τ ∧ (∀ l, 0 ≤ l → l < 4 → LoP σ τ l) ∧ Q (some (vi (if 2 ≤ fI τ 1322 61 then (mAsk τ (aI τ 74 (fI τ 1321 61)).toNat).1 else -1))) σ)) := propext ⟨fun h => h.2, fun h => ⟨rfl, h⟩⟩
theorem el_X11_ask {av : List AV} {σ : Hp} {Q : Option AV → Hp → Prop} (h : sp_X11_ask av σ Q) : ∃ (this : Int), av = [vr this] ∧ (kd σ this = 12 ∧ (this = 1 ∧ CLay σ ∧ ∃ τ, RDR σ τ ∧ MI τ ∧ RB τ ∧ BX σ τ ∧ (∀ l, 0 ≤ l → l < 4 → LoP σ τ l) ∧ Q (some (vi (if 2 ≤ fI τ 1322 61 then (mAsk τ (aI τ 74 (fI τ 1321 61)).toNat).1 else -1))) σ)) := by
  obtain ⟨this, a0, rfl, h0⟩ := oR_s h
  obtain ⟨rfl, hz⟩ := h0
  exact ⟨this, rfl, hz⟩
theorem rc_X11_ask : ∀ (av : List AV) (σ : Hp) (Q : Option AV → Hp → Prop), sp_X11_ask av σ Q → ∃ r tl, av = vr r :: tl ∧ kd σ r = 11 + 1 := fun av σ Q h => by
  obtain ⟨this, rfl, hz, -⟩ := el_X11_ask h
  exact ⟨this, _, rfl, hz⟩

def tb_X11_ask : Tab := [(0, .aload_n 0, 1, (0, 0, 0, 0)), (1, .getfield 18, 3, (12, 1201, 2, 0)), (4, .invokevirtual 164, 3, (0, 0, 0, 0)), (7, .astore_n 1, 1, (0, 0, 0, 0)), (8, .aload_n 1, 1, (0, 0, 0, 0)), (9, .ifnonnull 7, 3, (0, 0, 0, 0)), (12, .iconst (-1), 1, (0, 0, 0, 0)), (13, .goto 7, 3, (0, 0, 0, 0)), (16, .aload_n 1, 1, (0, 0, 0, 0)), (17, .getfield 119, 3, (3, 302, 0, 0)), (20, .ireturn, 1, (0, 0, 0, 0))]
set_option maxRecDepth 100000 in
theorem tk_X11_ask : TOK RX11 false cX11_ask tb_X11_ask := chkT_ok ft_X11 (by decide +kernel)
theorem rw_X11_1312 : Row RX11 (.invokevirtual 164) 3 1 0 0 4 sp_X10_boxToAsk := row_V (n := 0) (ci := 10) c_X10_boxToAsk ⟨TBL_in 831 (by decide +kernel) rfl, TBL_in 834 (by decide +kernel) rfl, TBL_in 112 (by decide +kernel) rfl, by decide +kernel, by decide⟩ (by decide) rfl (TBL_in 832 (by decide +kernel) rfl) (TBL_in 833 (by decide +kernel) rfl) rc_X10_boxToAsk
def mt_X11_ask : List (Nat × Mt) := [(1312, 1, 0, 0, 4, sp_X10_boxToAsk)]
theorem em_X11_ask : mt_X11_ask.lookup 1312 = some (1, 0, 0, 4, sp_X10_boxToAsk) := rfl
theorem mk_X11_ask : MOK RX11 mt_X11_ask := by
  intro q hq
  simp only [mt_X11_ask, List.mem_cons, List.not_mem_nil, or_false] at hq
  rcases hq with rfl
  · exact rw_X11_1312
noncomputable def xe_X11_ask (ct : Nat → Bool) (K : Kt) (R : Option AV → Hp → Prop) (n : Nat) : Kt := exS 2 5 0 0 1 tb_X11_ask mt_X11_ask ct K R n
noncomputable def xk_X11_ask (ct : Nat → Bool) (K : Kt) (R : Option AV → Hp → Prop) (n : Nat) : Kt := exkS 2 5 0 0 1 tb_X11_ask mt_X11_ask ct K R n
theorem xt_X11_ask {ct : Nat → Bool} {K : Kt} {R : Option AV → Hp → Prop} {n pc : Nat} {ls : List (Option AV)} {st : List AV} {σ : Hp} {k : Nat × Nat} (h : ct pc = true) : xk_X11_ask ct K R n pc ls st σ k = K pc ls st σ k := by unfold xk_X11_ask exkS; rw [h]
theorem xf_X11_ask {ct : Nat → Bool} {K : Kt} {R : Option AV → Hp → Prop} {n pc : Nat} {ls : List (Option AV)} {st : List AV} {σ : Hp} {k : Nat × Nat} (h : ct pc = false) : xk_X11_ask ct K R n pc ls st σ k = xe_X11_ask ct K R n pc ls st σ k := by unfold xk_X11_ask exkS xe_X11_ask; rw [h]
theorem ev_X11_ask_0 {ct : Nat → Bool} {K : Kt} {R : Option AV → Hp → Prop} {n : Nat} {ls : List (Option AV)} {st : List AV} {σ : Hp} {k : Nat × Nat} : xe_X11_ask ct K R (n + 1) 0 ls st σ k = (lR ls 0 fun x => xk_X11_ask ct K R n 1 ls (vr x :: st) σ k) := exS_step.trans rfl
theorem ev_X11_ask_1 {ct : Nat → Bool} {K : Kt} {R : Option AV → Hp → Prop} {n : Nat} {ls : List (Option AV)} {st : List AV} {σ : Hp} {k : Nat × Nat} : xe_X11_ask ct K R (n + 1) 1 ls st σ k = (oR st fun x st => kd σ x = 12 ∧ xk_X11_ask ct K R n 4 ls (vr (fR σ 1201 x) :: st) σ k) := exS_step.trans rfl
theorem ev_X11_ask_4 {ct : Nat → Bool} {K : Kt} {R : Option AV → Hp → Prop} {n : Nat} {ls : List (Option AV)} {st : List AV} {σ : Hp} {k : Nat × Nat} : xe_X11_ask ct K R (n + 1) 4 ls st σ k = (popN 1 st [] fun av rest => (catS rest ≤ 8 ∧ 4 < 5 ∧ k.1 + 0 ≤ 0 ∧ k.2 + 0 ≤ 0) ∧ (sp_X10_boxToAsk) av σ fun v σ' => xk_X11_ask ct K R n 7 ls (v.toList ++ rest) σ' (k.1 + 0, k.2 + 0)) := exS_step.trans rfl
theorem ev_X11_ask_7 {ct : Nat → Bool} {K : Kt} {R : Option AV → Hp → Prop} {n : Nat} {ls : List (Option AV)} {st : List AV} {σ : Hp} {k : Nat × Nat} : xe_X11_ask ct K R (n + 1) 7 ls st σ k = (oR st fun x st => 1 < 2 ∧ xk_X11_ask ct K R n 8 (stL ls 1 (vr x)) st σ k) := exS_step.trans rfl
theorem ev_X11_ask_8 {ct : Nat → Bool} {K : Kt} {R : Option AV → Hp → Prop} {n : Nat} {ls : List (Option AV)} {st : List AV} {σ : Hp} {k : Nat × Nat} : xe_X11_ask ct K R (n + 1) 8 ls st σ k = (lR ls 1 fun x => xk_X11_ask ct K R n 9 ls (vr x :: st) σ k) := exS_step.trans rfl
theorem ev_X11_ask_9 {ct : Nat → Bool} {K : Kt} {R : Option AV → Hp → Prop} {n : Nat} {ls : List (Option AV)} {st : List AV} {σ : Hp} {k : Nat × Nat} : xe_X11_ask ct K R (n + 1) 9 ls st σ k = (oR st fun x st => (¬ x = 0 → xk_X11_ask ct K R n 16 ls st σ k) ∧ (x = 0 → xk_X11_ask ct K R n 12 ls st σ k)) := exS_step.trans rfl
theorem ev_X11_ask_12 {ct : Nat → Bool} {K : Kt} {R : Option AV → Hp → Prop} {n : Nat} {ls : List (Option AV)} {st : List AV} {σ : Hp} {k : Nat × Nat} : xe_X11_ask ct K R (n + 1) 12 ls st σ k = (xk_X11_ask ct K R n 13 ls (vi (-1) :: st) σ k) := exS_step.trans rfl
theorem ev_X11_ask_13 {ct : Nat → Bool} {K : Kt} {R : Option AV → Hp → Prop} {n : Nat} {ls : List (Option AV)} {st : List AV} {σ : Hp} {k : Nat × Nat} : xe_X11_ask ct K R (n + 1) 13 ls st σ k = (xk_X11_ask ct K R n 20 ls st σ k) := exS_step.trans rfl
theorem ev_X11_ask_16 {ct : Nat → Bool} {K : Kt} {R : Option AV → Hp → Prop} {n : Nat} {ls : List (Option AV)} {st : List AV} {σ : Hp} {k : Nat × Nat} : xe_X11_ask ct K R (n + 1) 16 ls st σ k = (lR ls 1 fun x => xk_X11_ask ct K R n 17 ls (vr x :: st) σ k) := exS_step.trans rfl
theorem ev_X11_ask_17 {ct : Nat → Bool} {K : Kt} {R : Option AV → Hp → Prop} {n : Nat} {ls : List (Option AV)} {st : List AV} {σ : Hp} {k : Nat × Nat} : xe_X11_ask ct K R (n + 1) 17 ls st σ k = (oR st fun x st => kd σ x = 3 ∧ xk_X11_ask ct K R n 20 ls (vi (fI σ 302 x) :: st) σ k) := exS_step.trans rfl
theorem ev_X11_ask_20 {ct : Nat → Bool} {K : Kt} {R : Option AV → Hp → Prop} {n : Nat} {ls : List (Option AV)} {st : List AV} {σ : Hp} {k : Nat × Nat} : xe_X11_ask ct K R (n + 1) 20 ls st σ k = (oI st fun x st => st = [] ∧ True ∧ R (some (vi x)) σ) := exS_step.trans rfl
def M_X11_ask : Md := (yX11_ask, cX11_ask, 2, (some FieldType.int), 5, 0, 0, 1, false, tb_X11_ask, mt_X11_ask)
theorem mm_X11_ask : MMOK M_X11_ask := ⟨by decide +kernel, tk_X11_ask, mk_X11_ask, rfl, fun h => by cases h⟩
theorem go_X11_ask {Q : Option AV → Hp → Prop} {ct : Nat → Bool} {pc : Nat} {ls : List (Option AV)} {st : List AV} {σ : Hp} {k : Nat × Nat} (n : Nat) (h : xe_X11_ask ct (Go M_X11_ask Q) Q n pc ls st σ k) : Go M_X11_ask Q pc ls st σ k := Go.exS mm_X11_ask h

set_option maxRecDepth 20000 in
theorem c_X11_ask : Ct yX11_ask cX11_ask 2 ((some FieldType.int)) 5 0 0 sp_X11_ask := by
  refine Ct.go (M := M_X11_ask) mm_X11_ask fun av σ Q h0 => ?_
  obtain ⟨this, rfl, hk, h⟩ := el_X11_ask h0
  clear h0
  refine ⟨Nat.le_of_ble_eq_true rfl, ?_⟩
  show Go M_X11_ask Q 0 [some (vr this), none] [] σ (0, 0)
  obtain ⟨rfl, hC, τ, hR, hI, hB, hX, hL, h⟩ := h
  have w7 : Go M_X11_ask Q 7 [some (vr 1), none] [vr (if 2 ≤ fI τ 1322 61 then (if (mAsk τ (aI τ 74 (fI τ 1321 61)).toNat).1 < 0 then 0 else lat σ 3 (mAsk τ (aI τ 74 (fI τ 1321 61)).toNat).1) else 0)] σ (0, 0) := by
    by_cases c : 2 ≤ fI τ 1322 61
    · rw [if_pos c] at h ⊢
      have hin := mAsk_in hI (aI τ 74 (fI τ 1321 61)).toNat
      have hbx := mAsk_box (τ := τ) (aI τ 74 (fI τ 1321 61)).toNat
      have hmany := hI.many_ (fI τ 1321 61)
      obtain ⟨xs, hT, -, -, hx⟩ := hR
      have hne : xs ≠ [] := fun e => by have := hT.1; rw [e] at this; simp at this; omega
      have hrl := (hx hne).1
      by_cases c2 : (mAsk τ (aI τ 74 (fI τ 1321 61)).toNat).1 < 0
      · rw [if_pos c2]
        have e : (mAsk τ (aI τ 74 (fI τ 1321 61)).toNat).1 = -1 := by omega
        rw [e] at h
        clear hT hx hB hX hL hI hbx hin
        refine go_X11_ask (ct := fun p => p == 16) 20 ?_
        simp only [oI, oL, oR, o1, lI, lL, lR, popN, catS, gv, stL, stL2, swt, cnd, spObj, List.getElem?_cons_zero, List.getElem?_cons_succ, List.getD_cons_zero, List.getD_cons_succ, List.set_cons_zero, List.set_cons_succ, List.nil_append, List.cons_append, Option.toList, Bool.or_false, Bool.false_or, Bool.or_true, Bool.true_or, Nat.reduceBEq, Nat.reduceAdd, Nat.reduceLT, Nat.reduceLeDiff, Int.reduceAdd, Int.reduceToNat, true_and, and_true, Fin.isValue, Fin.val_zero, Fin.val_one, Fin.val_two, Fin.reduceFinMk, eq_self, Int.reduceNeg, imp_self, Nat.reduceMul, Nat.le_refl, not_true_eq_false, not_false_eq_true, List.getElem?_nil, reduceCtorEq, true_or, or_true, Classical.not_not, implies_true, or_self, wI_0, wI_1, wI_m1, b2i_w, b2i_eq0, b2i_eq1, b2i_bool, nor_self, nx_pI, kd_pI, ln_pI, fI_pI, fL_pI, fR_pI, aI_pI, aL_pI, aR_pI, nx_pL, kd_pL, ln_pL, fI_pL, fL_pL, fR_pL, aI_pL, aL_pL, aR_pL, nx_pR, kd_pR, ln_pR, fI_pR, fL_pR, fR_pR, aI_pR, aL_pR, aR_pR, nx_qI, kd_qI, ln_qI, fI_qI, fL_qI, fR_qI, aI_qI, aL_qI, aR_qI, nx_qL, kd_qL, ln_qL, fI_qL, fL_qL, fR_qL, aI_qL, aL_qL, aR_qL, nx_qR, kd_qR, ln_qR, fI_qR, fL_qR, fR_qR, aI_qR, aL_qR, aR_qR, nx_mk, kd_mk, ln_mk, fI_mk, fL_mk, fR_mk, aI_mk, aL_mk, aR_mk, false_and, and_false, if_false, if_true, and_self, Int.reduceEq, Nat.reduceEqDiff, ite_self, MLay_pI, MLay_pL, MLay_qI, MLay_qL, ev_X11_ask_7, ev_X11_ask_8, ev_X11_ask_9, ev_X11_ask_12, ev_X11_ask_13, ev_X11_ask_16, ev_X11_ask_17, ev_X11_ask_20, xt_X11_ask, xf_X11_ask, us_X10_boxToAsk]
        repeat' (first | intro z | apply And.intro)
        all_goals try omega
        all_goals try contradiction
        all_goals exact h
      · rw [if_neg c2]
        obtain ⟨j, j0, j1, e⟩ := hbx.resolve_left c2
        have hbl := (hB.1 _ j hrl.1 (by omega) j0 (by omega)).1
        rw [← e] at hbl
        have hE := hX.2.2 _ (by omega) hbl
        have hkb := hX.k (i := (mAsk τ (aI τ 74 (fI τ 1321 61)).toNat).1) (by omega) hbl
        generalize (mAsk τ (aI τ 74 (fI τ 1321 61)).toNat).1 = b at *
        have hix := hE.2.2.2.1
        have hp0 : ¬ lat σ 3 b = 0 := by have := hE.1; omega
        clear hT hx hB hX hL hI hin hE
        refine go_X11_ask (ct := fun p => p == 12) 20 ?_
        simp only [oI, oL, oR, o1, lI, lL, lR, popN, catS, gv, stL, stL2, swt, cnd, spObj, List.getElem?_cons_zero, List.getElem?_cons_succ, List.getD_cons_zero, List.getD_cons_succ, List.set_cons_zero, List.set_cons_succ, List.nil_append, List.cons_append, Option.toList, Bool.or_false, Bool.false_or, Bool.or_true, Bool.true_or, Nat.reduceBEq, Nat.reduceAdd, Nat.reduceLT, Nat.reduceLeDiff, Int.reduceAdd, Int.reduceToNat, true_and, and_true, Fin.isValue, Fin.val_zero, Fin.val_one, Fin.val_two, Fin.reduceFinMk, eq_self, Int.reduceNeg, imp_self, Nat.reduceMul, Nat.le_refl, not_true_eq_false, not_false_eq_true, List.getElem?_nil, reduceCtorEq, true_or, or_true, Classical.not_not, implies_true, or_self, wI_0, wI_1, wI_m1, b2i_w, b2i_eq0, b2i_eq1, b2i_bool, nor_self, nx_pI, kd_pI, ln_pI, fI_pI, fL_pI, fR_pI, aI_pI, aL_pI, aR_pI, nx_pL, kd_pL, ln_pL, fI_pL, fL_pL, fR_pL, aI_pL, aL_pL, aR_pL, nx_pR, kd_pR, ln_pR, fI_pR, fL_pR, fR_pR, aI_pR, aL_pR, aR_pR, nx_qI, kd_qI, ln_qI, fI_qI, fL_qI, fR_qI, aI_qI, aL_qI, aR_qI, nx_qL, kd_qL, ln_qL, fI_qL, fL_qL, fR_qL, aI_qL, aL_qL, aR_qL, nx_qR, kd_qR, ln_qR, fI_qR, fL_qR, fR_qR, aI_qR, aL_qR, aR_qR, nx_mk, kd_mk, ln_mk, fI_mk, fL_mk, fR_mk, aI_mk, aL_mk, aR_mk, false_and, and_false, if_false, if_true, and_self, Int.reduceEq, Nat.reduceEqDiff, ite_self, MLay_pI, MLay_pL, MLay_qI, MLay_qL, ev_X11_ask_7, ev_X11_ask_8, ev_X11_ask_9, ev_X11_ask_12, ev_X11_ask_13, ev_X11_ask_16, ev_X11_ask_17, ev_X11_ask_20, xt_X11_ask, xf_X11_ask, us_X10_boxToAsk, hkb, hix, hp0]
        repeat' (first | intro z | apply And.intro)
        all_goals try omega
        all_goals try contradiction
        all_goals exact h
    · rw [if_neg c] at h ⊢
      clear hR hB hX hL hI
      refine go_X11_ask (ct := fun p => p == 16) 20 ?_
      simp only [oI, oL, oR, o1, lI, lL, lR, popN, catS, gv, stL, stL2, swt, cnd, spObj, List.getElem?_cons_zero, List.getElem?_cons_succ, List.getD_cons_zero, List.getD_cons_succ, List.set_cons_zero, List.set_cons_succ, List.nil_append, List.cons_append, Option.toList, Bool.or_false, Bool.false_or, Bool.or_true, Bool.true_or, Nat.reduceBEq, Nat.reduceAdd, Nat.reduceLT, Nat.reduceLeDiff, Int.reduceAdd, Int.reduceToNat, true_and, and_true, Fin.isValue, Fin.val_zero, Fin.val_one, Fin.val_two, Fin.reduceFinMk, eq_self, Int.reduceNeg, imp_self, Nat.reduceMul, Nat.le_refl, not_true_eq_false, not_false_eq_true, List.getElem?_nil, reduceCtorEq, true_or, or_true, Classical.not_not, implies_true, or_self, wI_0, wI_1, wI_m1, b2i_w, b2i_eq0, b2i_eq1, b2i_bool, nor_self, nx_pI, kd_pI, ln_pI, fI_pI, fL_pI, fR_pI, aI_pI, aL_pI, aR_pI, nx_pL, kd_pL, ln_pL, fI_pL, fL_pL, fR_pL, aI_pL, aL_pL, aR_pL, nx_pR, kd_pR, ln_pR, fI_pR, fL_pR, fR_pR, aI_pR, aL_pR, aR_pR, nx_qI, kd_qI, ln_qI, fI_qI, fL_qI, fR_qI, aI_qI, aL_qI, aR_qI, nx_qL, kd_qL, ln_qL, fI_qL, fL_qL, fR_qL, aI_qL, aL_qL, aR_qL, nx_qR, kd_qR, ln_qR, fI_qR, fL_qR, fR_qR, aI_qR, aL_qR, aR_qR, nx_mk, kd_mk, ln_mk, fI_mk, fL_mk, fR_mk, aI_mk, aL_mk, aR_mk, false_and, and_false, if_false, if_true, and_self, Int.reduceEq, Nat.reduceEqDiff, ite_self, MLay_pI, MLay_pL, MLay_qI, MLay_qL, ev_X11_ask_7, ev_X11_ask_8, ev_X11_ask_9, ev_X11_ask_12, ev_X11_ask_13, ev_X11_ask_16, ev_X11_ask_17, ev_X11_ask_20, xt_X11_ask, xf_X11_ask, us_X10_boxToAsk]
      repeat' (first | intro z | apply And.intro)
      all_goals try omega
      all_goals try contradiction
      all_goals exact h
  clear h hX
  refine go_X11_ask (ct := fun p => p == 7) 20 ?_
  simp only [oI, oL, oR, o1, lI, lL, lR, popN, catS, gv, stL, stL2, swt, cnd, spObj, List.getElem?_cons_zero, List.getElem?_cons_succ, List.getD_cons_zero, List.getD_cons_succ, List.set_cons_zero, List.set_cons_succ, List.nil_append, List.cons_append, Option.toList, Bool.or_false, Bool.false_or, Bool.or_true, Bool.true_or, Nat.reduceBEq, Nat.reduceAdd, Nat.reduceLT, Nat.reduceLeDiff, Int.reduceAdd, Int.reduceToNat, true_and, and_true, Fin.isValue, Fin.val_zero, Fin.val_one, Fin.val_two, Fin.reduceFinMk, eq_self, Int.reduceNeg, imp_self, Nat.reduceMul, Nat.le_refl, not_true_eq_false, not_false_eq_true, List.getElem?_nil, reduceCtorEq, true_or, or_true, Classical.not_not, implies_true, or_self, wI_0, wI_1, wI_m1, b2i_w, b2i_eq0, b2i_eq1, b2i_bool, nor_self, nx_pI, kd_pI, ln_pI, fI_pI, fL_pI, fR_pI, aI_pI, aL_pI, aR_pI, nx_pL, kd_pL, ln_pL, fI_pL, fL_pL, fR_pL, aI_pL, aL_pL, aR_pL, nx_pR, kd_pR, ln_pR, fI_pR, fL_pR, fR_pR, aI_pR, aL_pR, aR_pR, nx_qI, kd_qI, ln_qI, fI_qI, fL_qI, fR_qI, aI_qI, aL_qI, aR_qI, nx_qL, kd_qL, ln_qL, fI_qL, fL_qL, fR_qL, aI_qL, aL_qL, aR_qL, nx_qR, kd_qR, ln_qR, fI_qR, fL_qR, fR_qR, aI_qR, aL_qR, aR_qR, nx_mk, kd_mk, ln_mk, fI_mk, fL_mk, fR_mk, aI_mk, aL_mk, aR_mk, false_and, and_false, if_false, if_true, and_self, Int.reduceEq, Nat.reduceEqDiff, ite_self, MLay_pI, MLay_pL, MLay_qI, MLay_qL, ev_X11_ask_0, ev_X11_ask_1, ev_X11_ask_4, xt_X11_ask, xf_X11_ask, us_X10_boxToAsk, hk, hC, hC.eqs]
  repeat' (first | intro z | apply And.intro)
  all_goals try omega
  all_goals try contradiction
  all_goals exact ⟨τ, hR, hI, hB, hL, w7⟩

def sp_X11_story : Sp := fun av σ Q => oR av fun this av => oI av fun i av => oI av fun j av => oI av fun w av => av = [] ∧ kd σ this = 12 ∧ (this = 1 ∧ CLay σ ∧ inR i ∧ inR j ∧ inR w ∧ ∃ τ, RDR σ τ ∧ MI τ ∧ RB τ ∧ BX σ τ ∧ (∀ l, 0 ≤ l → l < 4 → LoP σ τ l) ∧ (((0 ≤ i ∧ i < fI τ 1322 61) ∧ (0 ≤ j ∧ j < fI τ 1323 61) ∧ (0 ≤ w ∧ w ≤ 1)) → Q (some (vi (if w = 0 then aI τ 80 (3 * i + j) else aI τ 81 (3 * i + j)))) σ) ∧ (¬ ((0 ≤ i ∧ i < fI τ 1322 61) ∧ (0 ≤ j ∧ j < fI τ 1323 61) ∧ (0 ≤ w ∧ w ≤ 1)) → Q (some (vi (-1))) σ))
theorem us_X11_story (this : Int) (i : Int) (j : Int) (w : Int) (σ : Hp) (Q : Option AV → Hp → Prop) : sp_X11_story [vr this, vi i, vi j, vi w] σ Q = (kd σ this = 12 ∧ (this = 1 ∧ CLay σ ∧ inR i ∧ inR j ∧ inR w ∧ ∃ τ, RDR σ τ ∧ MI τ ∧ RB τ ∧ BX σ τ ∧ (∀ l, 0 ≤ l → l < 4 → LoP σ τ l) ∧ (((0 ≤ i ∧ i < fI τ 1322 61) ∧ (0 ≤ j ∧ j < fI τ 1323 61) ∧ (0 ≤ w ∧ w ≤ 1)) → Q (some (vi (if w = 0 then aI τ 80 (3 * i + j) else aI τ 81 (3 * i + j)))) σ) ∧ (¬ ((0 ≤ i ∧ i < fI τ 1322 61) ∧ (0 ≤ j ∧ j < fI τ 1323 61) ∧ (0 ≤ w ∧ w ≤ 1)) → Q (some (vi (-1))) σ))) := propext ⟨fun h => h.2, fun h => ⟨rfl, h⟩⟩
theorem el_X11_story {av : List AV} {σ : Hp} {Q : Option AV → Hp → Prop} (h : sp_X11_story av σ Q) : ∃ (this : Int) (i : Int) (j : Int) (w : Int), av = [vr this, vi i, vi j, vi w] ∧ (kd σ this = 12 ∧ (this = 1 ∧ CLay σ ∧ inR i ∧ inR j ∧ inR w ∧ ∃ τ, RDR σ τ ∧ MI τ ∧ RB τ ∧ BX σ τ ∧ (∀ l, 0 ≤ l → l < 4 → LoP σ τ l) ∧ (((0 ≤ i ∧ i < fI τ 1322 61) ∧ (0 ≤ j ∧ j < fI τ 1323 61) ∧ (0 ≤ w ∧ w ≤ 1)) → Q (some (vi (if w = 0 then aI τ 80 (3 * i + j) else aI τ 81 (3 * i + j)))) σ) ∧ (¬ ((0 ≤ i ∧ i < fI τ 1322 61) ∧ (0 ≤ j ∧ j < fI τ 1323 61) ∧ (0 ≤ w ∧ w ≤ 1)) → Q (some (vi (-1))) σ))) := by
  obtain ⟨this, a0, rfl, h0⟩ := oR_s h
  obtain ⟨i, a1, rfl, h1⟩ := oI_s h0
  obtain ⟨j, a2, rfl, h2⟩ := oI_s h1
  obtain ⟨w, a3, rfl, h3⟩ := oI_s h2
  obtain ⟨rfl, hz⟩ := h3
  exact ⟨this, i, j, w, rfl, hz⟩
theorem rc_X11_story : ∀ (av : List AV) (σ : Hp) (Q : Option AV → Hp → Prop), sp_X11_story av σ Q → ∃ r tl, av = vr r :: tl ∧ kd σ r = 11 + 1 := fun av σ Q h => by
  obtain ⟨this, i, j, w, rfl, hz, -⟩ := el_X11_story h
  exact ⟨this, _, rfl, hz⟩

def tb_X11_story : Tab := [(0, .aload_n 0, 1, (0, 0, 0, 0)), (1, .getfield 18, 3, (12, 1201, 2, 0)), (4, .iload_n 1, 1, (0, 0, 0, 0)), (5, .iload_n 2, 1, (0, 0, 0, 0)), (6, .invokevirtual 153, 3, (0, 0, 0, 0)), (9, .ifCond .ne 5, 3, (0, 0, 0, 0)), (12, .iconst (-1), 1, (0, 0, 0, 0)), (13, .ireturn, 1, (0, 0, 0, 0)), (14, .iload_n 3, 1, (0, 0, 0, 0)), (15, .ifCond .ne 29, 3, (0, 0, 0, 0)), (18, .aload_n 0, 1, (0, 0, 0, 0)), (19, .getfield 18, 3, (12, 1201, 2, 0)), (22, .iload_n 1, 1, (0, 0, 0, 0)), (23, .iload_n 2, 1, (0, 0, 0, 0)), (24, .invokevirtual 156, 3, (0, 0, 0, 0)), (27, .astore 4, 2, (0, 0, 0, 0)), (29, .aload 4, 2, (0, 0, 0, 0)), (31, .ifnonnull 7, 3, (0, 0, 0, 0)), (34, .iconst (-1), 1, (0, 0, 0, 0)), (35, .goto 8, 3, (0, 0, 0, 0)), (38, .aload 4, 2, (0, 0, 0, 0)), (40, .getfield 119, 3, (3, 302, 0, 0)), (43, .ireturn, 1, (0, 0, 0, 0)), (44, .iload_n 3, 1, (0, 0, 0, 0)), (45, .iconst 1, 1, (0, 0, 0, 0)), (46, .if_icmp .ne 15, 3, (0, 0, 0, 0)), (49, .aload_n 0, 1, (0, 0, 0, 0)), (50, .getfield 18, 3, (12, 1201, 2, 0)), (53, .iload_n 1, 1, (0, 0, 0, 0)), (54, .iload_n 2, 1, (0, 0, 0, 0)), (55, .invokevirtual 160, 3, (0, 0, 0, 0)), (58, .goto 4, 3, (0, 0, 0, 0)), (61, .iconst (-1), 1, (0, 0, 0, 0)), (62, .ireturn, 1, (0, 0, 0, 0))]
set_option maxRecDepth 100000 in
theorem tk_X11_story : TOK RX11 false cX11_story tb_X11_story := chkT_ok ft_X11 (by decide +kernel)
theorem rw_X11_1224 : Row RX11 (.invokevirtual 153) 3 3 0 0 1 sp_X10_hasBeginning := row_V (n := 2) (ci := 10) c_X10_hasBeginning ⟨TBL_in 810 (by decide +kernel) rfl, TBL_in 813 (by decide +kernel) rfl, TBL_in 112 (by decide +kernel) rfl, by decide +kernel, by decide⟩ (by decide) rfl (TBL_in 811 (by decide +kernel) rfl) (TBL_in 812 (by decide +kernel) rfl) rc_X10_hasBeginning
theorem rw_X11_1248 : Row RX11 (.invokevirtual 156) 3 3 0 0 4 sp_X10_boxOfBeginning := row_V (n := 2) (ci := 10) c_X10_boxOfBeginning ⟨TBL_in 814 (by decide +kernel) rfl, TBL_in 817 (by decide +kernel) rfl, TBL_in 112 (by decide +kernel) rfl, by decide +kernel, by decide⟩ (by decide) rfl (TBL_in 815 (by decide +kernel) rfl) (TBL_in 816 (by decide +kernel) rfl) rc_X10_boxOfBeginning
theorem rw_X11_1280 : Row RX11 (.invokevirtual 160) 3 3 0 0 3 sp_X10_tickOfBeginning := row_V (n := 2) (ci := 10) c_X10_tickOfBeginning ⟨TBL_in 823 (by decide +kernel) rfl, TBL_in 826 (by decide +kernel) rfl, TBL_in 112 (by decide +kernel) rfl, by decide +kernel, by decide⟩ (by decide) rfl (TBL_in 824 (by decide +kernel) rfl) (TBL_in 825 (by decide +kernel) rfl) rc_X10_tickOfBeginning
def mt_X11_story : List (Nat × Mt) := [(1224, 3, 0, 0, 1, sp_X10_hasBeginning), (1248, 3, 0, 0, 4, sp_X10_boxOfBeginning), (1280, 3, 0, 0, 3, sp_X10_tickOfBeginning)]
theorem em_X11_story : mt_X11_story.lookup 1224 = some (3, 0, 0, 1, sp_X10_hasBeginning) ∧ mt_X11_story.lookup 1248 = some (3, 0, 0, 4, sp_X10_boxOfBeginning) ∧ mt_X11_story.lookup 1280 = some (3, 0, 0, 3, sp_X10_tickOfBeginning) := ⟨rfl, rfl, rfl⟩
theorem mk_X11_story : MOK RX11 mt_X11_story := by
  intro q hq
  simp only [mt_X11_story, List.mem_cons, List.not_mem_nil, or_false] at hq
  rcases hq with rfl | rfl | rfl
  · exact rw_X11_1224
  · exact rw_X11_1248
  · exact rw_X11_1280
noncomputable def xe_X11_story (ct : Nat → Bool) (K : Kt) (R : Option AV → Hp → Prop) (n : Nat) : Kt := exS 5 5 0 0 1 tb_X11_story mt_X11_story ct K R n
noncomputable def xk_X11_story (ct : Nat → Bool) (K : Kt) (R : Option AV → Hp → Prop) (n : Nat) : Kt := exkS 5 5 0 0 1 tb_X11_story mt_X11_story ct K R n
theorem xt_X11_story {ct : Nat → Bool} {K : Kt} {R : Option AV → Hp → Prop} {n pc : Nat} {ls : List (Option AV)} {st : List AV} {σ : Hp} {k : Nat × Nat} (h : ct pc = true) : xk_X11_story ct K R n pc ls st σ k = K pc ls st σ k := by unfold xk_X11_story exkS; rw [h]
theorem xf_X11_story {ct : Nat → Bool} {K : Kt} {R : Option AV → Hp → Prop} {n pc : Nat} {ls : List (Option AV)} {st : List AV} {σ : Hp} {k : Nat × Nat} (h : ct pc = false) : xk_X11_story ct K R n pc ls st σ k = xe_X11_story ct K R n pc ls st σ k := by unfold xk_X11_story exkS xe_X11_story; rw [h]
theorem ev_X11_story_0 {ct : Nat → Bool} {K : Kt} {R : Option AV → Hp → Prop} {n : Nat} {ls : List (Option AV)} {st : List AV} {σ : Hp} {k : Nat × Nat} : xe_X11_story ct K R (n + 1) 0 ls st σ k = (lR ls 0 fun x => xk_X11_story ct K R n 1 ls (vr x :: st) σ k) := exS_step.trans rfl
theorem ev_X11_story_1 {ct : Nat → Bool} {K : Kt} {R : Option AV → Hp → Prop} {n : Nat} {ls : List (Option AV)} {st : List AV} {σ : Hp} {k : Nat × Nat} : xe_X11_story ct K R (n + 1) 1 ls st σ k = (oR st fun x st => kd σ x = 12 ∧ xk_X11_story ct K R n 4 ls (vr (fR σ 1201 x) :: st) σ k) := exS_step.trans rfl
theorem ev_X11_story_4 {ct : Nat → Bool} {K : Kt} {R : Option AV → Hp → Prop} {n : Nat} {ls : List (Option AV)} {st : List AV} {σ : Hp} {k : Nat × Nat} : xe_X11_story ct K R (n + 1) 4 ls st σ k = (lI ls 1 fun x => xk_X11_story ct K R n 5 ls (vi x :: st) σ k) := exS_step.trans rfl
theorem ev_X11_story_5 {ct : Nat → Bool} {K : Kt} {R : Option AV → Hp → Prop} {n : Nat} {ls : List (Option AV)} {st : List AV} {σ : Hp} {k : Nat × Nat} : xe_X11_story ct K R (n + 1) 5 ls st σ k = (lI ls 2 fun x => xk_X11_story ct K R n 6 ls (vi x :: st) σ k) := exS_step.trans rfl
theorem ev_X11_story_6 {ct : Nat → Bool} {K : Kt} {R : Option AV → Hp → Prop} {n : Nat} {ls : List (Option AV)} {st : List AV} {σ : Hp} {k : Nat × Nat} : xe_X11_story ct K R (n + 1) 6 ls st σ k = (popN 3 st [] fun av rest => (catS rest ≤ 8 ∧ 1 < 5 ∧ k.1 + 0 ≤ 0 ∧ k.2 + 0 ≤ 0) ∧ (sp_X10_hasBeginning) av σ fun v σ' => xk_X11_story ct K R n 9 ls (v.toList ++ rest) σ' (k.1 + 0, k.2 + 0)) := exS_step.trans rfl
theorem ev_X11_story_9 {ct : Nat → Bool} {K : Kt} {R : Option AV → Hp → Prop} {n : Nat} {ls : List (Option AV)} {st : List AV} {σ : Hp} {k : Nat × Nat} : xe_X11_story ct K R (n + 1) 9 ls st σ k = (oI st fun x st => (¬ wI x = wI 0 → xk_X11_story ct K R n 14 ls st σ k) ∧ (¬ (¬ wI x = wI 0) → xk_X11_story ct K R n 12 ls st σ k)) := exS_step.trans rfl
theorem ev_X11_story_12 {ct : Nat → Bool} {K : Kt} {R : Option AV → Hp → Prop} {n : Nat} {ls : List (Option AV)} {st : List AV} {σ : Hp} {k : Nat × Nat} : xe_X11_story ct K R (n + 1) 12 ls st σ k = (xk_X11_story ct K R n 13 ls (vi (-1) :: st) σ k) := exS_step.trans rfl
theorem ev_X11_story_13 {ct : Nat → Bool} {K : Kt} {R : Option AV → Hp → Prop} {n : Nat} {ls : List (Option AV)} {st : List AV} {σ : Hp} {k : Nat × Nat} : xe_X11_story ct K R (n + 1) 13 ls st σ k = (oI st fun x st => st = [] ∧ True ∧ R (some (vi x)) σ) := exS_step.trans rfl
theorem ev_X11_story_14 {ct : Nat → Bool} {K : Kt} {R : Option AV → Hp → Prop} {n : Nat} {ls : List (Option AV)} {st : List AV} {σ : Hp} {k : Nat × Nat} : xe_X11_story ct K R (n + 1) 14 ls st σ k = (lI ls 3 fun x => xk_X11_story ct K R n 15 ls (vi x :: st) σ k) := exS_step.trans rfl
theorem ev_X11_story_15 {ct : Nat → Bool} {K : Kt} {R : Option AV → Hp → Prop} {n : Nat} {ls : List (Option AV)} {st : List AV} {σ : Hp} {k : Nat × Nat} : xe_X11_story ct K R (n + 1) 15 ls st σ k = (oI st fun x st => (¬ wI x = wI 0 → xk_X11_story ct K R n 44 ls st σ k) ∧ (¬ (¬ wI x = wI 0) → xk_X11_story ct K R n 18 ls st σ k)) := exS_step.trans rfl
theorem ev_X11_story_18 {ct : Nat → Bool} {K : Kt} {R : Option AV → Hp → Prop} {n : Nat} {ls : List (Option AV)} {st : List AV} {σ : Hp} {k : Nat × Nat} : xe_X11_story ct K R (n + 1) 18 ls st σ k = (lR ls 0 fun x => xk_X11_story ct K R n 19 ls (vr x :: st) σ k) := exS_step.trans rfl
theorem ev_X11_story_19 {ct : Nat → Bool} {K : Kt} {R : Option AV → Hp → Prop} {n : Nat} {ls : List (Option AV)} {st : List AV} {σ : Hp} {k : Nat × Nat} : xe_X11_story ct K R (n + 1) 19 ls st σ k = (oR st fun x st => kd σ x = 12 ∧ xk_X11_story ct K R n 22 ls (vr (fR σ 1201 x) :: st) σ k) := exS_step.trans rfl
theorem ev_X11_story_22 {ct : Nat → Bool} {K : Kt} {R : Option AV → Hp → Prop} {n : Nat} {ls : List (Option AV)} {st : List AV} {σ : Hp} {k : Nat × Nat} : xe_X11_story ct K R (n + 1) 22 ls st σ k = (lI ls 1 fun x => xk_X11_story ct K R n 23 ls (vi x :: st) σ k) := exS_step.trans rfl
theorem ev_X11_story_23 {ct : Nat → Bool} {K : Kt} {R : Option AV → Hp → Prop} {n : Nat} {ls : List (Option AV)} {st : List AV} {σ : Hp} {k : Nat × Nat} : xe_X11_story ct K R (n + 1) 23 ls st σ k = (lI ls 2 fun x => xk_X11_story ct K R n 24 ls (vi x :: st) σ k) := exS_step.trans rfl
theorem ev_X11_story_24 {ct : Nat → Bool} {K : Kt} {R : Option AV → Hp → Prop} {n : Nat} {ls : List (Option AV)} {st : List AV} {σ : Hp} {k : Nat × Nat} : xe_X11_story ct K R (n + 1) 24 ls st σ k = (popN 3 st [] fun av rest => (catS rest ≤ 8 ∧ 4 < 5 ∧ k.1 + 0 ≤ 0 ∧ k.2 + 0 ≤ 0) ∧ (sp_X10_boxOfBeginning) av σ fun v σ' => xk_X11_story ct K R n 27 ls (v.toList ++ rest) σ' (k.1 + 0, k.2 + 0)) := exS_step.trans rfl
theorem ev_X11_story_27 {ct : Nat → Bool} {K : Kt} {R : Option AV → Hp → Prop} {n : Nat} {ls : List (Option AV)} {st : List AV} {σ : Hp} {k : Nat × Nat} : xe_X11_story ct K R (n + 1) 27 ls st σ k = (oR st fun x st => 4 < 5 ∧ xk_X11_story ct K R n 29 (stL ls 4 (vr x)) st σ k) := exS_step.trans rfl
theorem ev_X11_story_29 {ct : Nat → Bool} {K : Kt} {R : Option AV → Hp → Prop} {n : Nat} {ls : List (Option AV)} {st : List AV} {σ : Hp} {k : Nat × Nat} : xe_X11_story ct K R (n + 1) 29 ls st σ k = (lR ls 4 fun x => xk_X11_story ct K R n 31 ls (vr x :: st) σ k) := exS_step.trans rfl
theorem ev_X11_story_31 {ct : Nat → Bool} {K : Kt} {R : Option AV → Hp → Prop} {n : Nat} {ls : List (Option AV)} {st : List AV} {σ : Hp} {k : Nat × Nat} : xe_X11_story ct K R (n + 1) 31 ls st σ k = (oR st fun x st => (¬ x = 0 → xk_X11_story ct K R n 38 ls st σ k) ∧ (x = 0 → xk_X11_story ct K R n 34 ls st σ k)) := exS_step.trans rfl
theorem ev_X11_story_34 {ct : Nat → Bool} {K : Kt} {R : Option AV → Hp → Prop} {n : Nat} {ls : List (Option AV)} {st : List AV} {σ : Hp} {k : Nat × Nat} : xe_X11_story ct K R (n + 1) 34 ls st σ k = (xk_X11_story ct K R n 35 ls (vi (-1) :: st) σ k) := exS_step.trans rfl
theorem ev_X11_story_35 {ct : Nat → Bool} {K : Kt} {R : Option AV → Hp → Prop} {n : Nat} {ls : List (Option AV)} {st : List AV} {σ : Hp} {k : Nat × Nat} : xe_X11_story ct K R (n + 1) 35 ls st σ k = (xk_X11_story ct K R n 43 ls st σ k) := exS_step.trans rfl
theorem ev_X11_story_38 {ct : Nat → Bool} {K : Kt} {R : Option AV → Hp → Prop} {n : Nat} {ls : List (Option AV)} {st : List AV} {σ : Hp} {k : Nat × Nat} : xe_X11_story ct K R (n + 1) 38 ls st σ k = (lR ls 4 fun x => xk_X11_story ct K R n 40 ls (vr x :: st) σ k) := exS_step.trans rfl
theorem ev_X11_story_40 {ct : Nat → Bool} {K : Kt} {R : Option AV → Hp → Prop} {n : Nat} {ls : List (Option AV)} {st : List AV} {σ : Hp} {k : Nat × Nat} : xe_X11_story ct K R (n + 1) 40 ls st σ k = (oR st fun x st => kd σ x = 3 ∧ xk_X11_story ct K R n 43 ls (vi (fI σ 302 x) :: st) σ k) := exS_step.trans rfl
theorem ev_X11_story_43 {ct : Nat → Bool} {K : Kt} {R : Option AV → Hp → Prop} {n : Nat} {ls : List (Option AV)} {st : List AV} {σ : Hp} {k : Nat × Nat} : xe_X11_story ct K R (n + 1) 43 ls st σ k = (oI st fun x st => st = [] ∧ True ∧ R (some (vi x)) σ) := exS_step.trans rfl
theorem ev_X11_story_44 {ct : Nat → Bool} {K : Kt} {R : Option AV → Hp → Prop} {n : Nat} {ls : List (Option AV)} {st : List AV} {σ : Hp} {k : Nat × Nat} : xe_X11_story ct K R (n + 1) 44 ls st σ k = (lI ls 3 fun x => xk_X11_story ct K R n 45 ls (vi x :: st) σ k) := exS_step.trans rfl
theorem ev_X11_story_45 {ct : Nat → Bool} {K : Kt} {R : Option AV → Hp → Prop} {n : Nat} {ls : List (Option AV)} {st : List AV} {σ : Hp} {k : Nat × Nat} : xe_X11_story ct K R (n + 1) 45 ls st σ k = (xk_X11_story ct K R n 46 ls (vi (1) :: st) σ k) := exS_step.trans rfl
theorem ev_X11_story_46 {ct : Nat → Bool} {K : Kt} {R : Option AV → Hp → Prop} {n : Nat} {ls : List (Option AV)} {st : List AV} {σ : Hp} {k : Nat × Nat} : xe_X11_story ct K R (n + 1) 46 ls st σ k = (oI st fun y st => oI st fun x st => (¬ wI x = wI y → xk_X11_story ct K R n 61 ls st σ k) ∧ (¬ (¬ wI x = wI y) → xk_X11_story ct K R n 49 ls st σ k)) := exS_step.trans rfl
theorem ev_X11_story_49 {ct : Nat → Bool} {K : Kt} {R : Option AV → Hp → Prop} {n : Nat} {ls : List (Option AV)} {st : List AV} {σ : Hp} {k : Nat × Nat} : xe_X11_story ct K R (n + 1) 49 ls st σ k = (lR ls 0 fun x => xk_X11_story ct K R n 50 ls (vr x :: st) σ k) := exS_step.trans rfl
theorem ev_X11_story_50 {ct : Nat → Bool} {K : Kt} {R : Option AV → Hp → Prop} {n : Nat} {ls : List (Option AV)} {st : List AV} {σ : Hp} {k : Nat × Nat} : xe_X11_story ct K R (n + 1) 50 ls st σ k = (oR st fun x st => kd σ x = 12 ∧ xk_X11_story ct K R n 53 ls (vr (fR σ 1201 x) :: st) σ k) := exS_step.trans rfl
theorem ev_X11_story_53 {ct : Nat → Bool} {K : Kt} {R : Option AV → Hp → Prop} {n : Nat} {ls : List (Option AV)} {st : List AV} {σ : Hp} {k : Nat × Nat} : xe_X11_story ct K R (n + 1) 53 ls st σ k = (lI ls 1 fun x => xk_X11_story ct K R n 54 ls (vi x :: st) σ k) := exS_step.trans rfl
theorem ev_X11_story_54 {ct : Nat → Bool} {K : Kt} {R : Option AV → Hp → Prop} {n : Nat} {ls : List (Option AV)} {st : List AV} {σ : Hp} {k : Nat × Nat} : xe_X11_story ct K R (n + 1) 54 ls st σ k = (lI ls 2 fun x => xk_X11_story ct K R n 55 ls (vi x :: st) σ k) := exS_step.trans rfl
theorem ev_X11_story_55 {ct : Nat → Bool} {K : Kt} {R : Option AV → Hp → Prop} {n : Nat} {ls : List (Option AV)} {st : List AV} {σ : Hp} {k : Nat × Nat} : xe_X11_story ct K R (n + 1) 55 ls st σ k = (popN 3 st [] fun av rest => (catS rest ≤ 8 ∧ 3 < 5 ∧ k.1 + 0 ≤ 0 ∧ k.2 + 0 ≤ 0) ∧ (sp_X10_tickOfBeginning) av σ fun v σ' => xk_X11_story ct K R n 58 ls (v.toList ++ rest) σ' (k.1 + 0, k.2 + 0)) := exS_step.trans rfl
theorem ev_X11_story_58 {ct : Nat → Bool} {K : Kt} {R : Option AV → Hp → Prop} {n : Nat} {ls : List (Option AV)} {st : List AV} {σ : Hp} {k : Nat × Nat} : xe_X11_story ct K R (n + 1) 58 ls st σ k = (xk_X11_story ct K R n 62 ls st σ k) := exS_step.trans rfl
theorem ev_X11_story_61 {ct : Nat → Bool} {K : Kt} {R : Option AV → Hp → Prop} {n : Nat} {ls : List (Option AV)} {st : List AV} {σ : Hp} {k : Nat × Nat} : xe_X11_story ct K R (n + 1) 61 ls st σ k = (xk_X11_story ct K R n 62 ls (vi (-1) :: st) σ k) := exS_step.trans rfl
theorem ev_X11_story_62 {ct : Nat → Bool} {K : Kt} {R : Option AV → Hp → Prop} {n : Nat} {ls : List (Option AV)} {st : List AV} {σ : Hp} {k : Nat × Nat} : xe_X11_story ct K R (n + 1) 62 ls st σ k = (oI st fun x st => st = [] ∧ True ∧ R (some (vi x)) σ) := exS_step.trans rfl
def M_X11_story : Md := (yX11_story, cX11_story, 5, (some FieldType.int), 5, 0, 0, 1, false, tb_X11_story, mt_X11_story)
theorem mm_X11_story : MMOK M_X11_story := ⟨by decide +kernel, tk_X11_story, mk_X11_story, rfl, fun h => by cases h⟩
theorem go_X11_story {Q : Option AV → Hp → Prop} {ct : Nat → Bool} {pc : Nat} {ls : List (Option AV)} {st : List AV} {σ : Hp} {k : Nat × Nat} (n : Nat) (h : xe_X11_story ct (Go M_X11_story Q) Q n pc ls st σ k) : Go M_X11_story Q pc ls st σ k := Go.exS mm_X11_story h

set_option maxRecDepth 20000 in
theorem c_X11_story : Ct yX11_story cX11_story 5 ((some FieldType.int)) 5 0 0 sp_X11_story := by
  refine Ct.go (M := M_X11_story) mm_X11_story fun av σ Q h0 => ?_
  obtain ⟨this, i, j, w, rfl, hk, h⟩ := el_X11_story h0
  clear h0
  refine ⟨Nat.le_of_ble_eq_true rfl, ?_⟩
  show Go M_X11_story Q 0 [some (vr this), some (vi i), some (vi j), some (vi w), none] [] σ (0, 0)
  obtain ⟨rfl, hC, hi, hj, hw, τ, ⟨xs, hT, hKM, hsz, hx⟩, hI, hB, hX, hL, h1, h0⟩ := h
  have hf := hKM.1
  have hl := hKM.2.1
  rw [List.length_map] at hf hl
  have hsc := hT.1
  have hss := hI.storySize_s
  have hs3 : 0 ≤ fI σ 1108 4 ∧ fI σ 1108 4 ≤ 3 := by rw [hsz]; split <;> omega
  have hf3 : 0 ≤ fI σ 1109 4 ∧ fI σ 1109 4 ≤ 200 := by omega
  have k4 : kd σ 4 = 11 := by simp only [hC.eqs]
  have hiff : ((0 ≤ i ∧ i < fI σ 1109 4) ∧ 0 ≤ j ∧ j < fI σ 1108 4) ↔ ((0 ≤ i ∧ i < fI τ 1322 61) ∧ 0 ≤ j ∧ j < fI τ 1323 61) := by
    by_cases e : xs = []
    · have : xs.length = 0 := by rw [e]; rfl
      omega
    · rw [if_neg e] at hsz
      omega
  have w9 : Go M_X11_story Q 9 [some (vr 1), some (vi i), some (vi j), some (vi w), none] [vi (b2i ((0 ≤ i ∧ i < fI σ 1109 4) ∧ 0 ≤ j ∧ j < fI σ 1108 4))] σ (0, 0) := by
    by_cases c : (0 ≤ i ∧ i < fI σ 1109 4) ∧ 0 ≤ j ∧ j < fI σ 1108 4
    · rw [b2i_t c]
      have hne : xs ≠ [] := fun e => by rw [e] at hf; simp at hf; omega
      obtain ⟨hrl, ⟨hlp, hfr⟩, hx⟩ := hx hne
      rw [if_neg hne] at hsz
      obtain ⟨x, hxi⟩ : ∃ x, xs[i.toNat]? = some x := ⟨xs[i.toNat]'(by omega), List.getElem?_eq_getElem (by omega)⟩
      have hxx := hx x (List.mem_of_getElem? hxi)
      obtain ⟨p, hpj⟩ : ∃ p, x[j.toNat]? = some p := ⟨x[j.toNat]'(by omega), List.getElem?_eq_getElem (by omega)⟩
      have hpm := hxx.2.1 p (List.mem_of_getElem? hpj)
      have hmany := hI.many_ (fI τ 1321 61)
      have g := (hT.2 _ x hxi).2 _ p hpj
      rw [Int.toNat_of_nonneg c.1.1, Int.toNat_of_nonneg c.2.1] at g
      have hl3 : x.length ≤ 3 := by omega
      have hlen : (x.length : Int) = fI σ 1108 4 := by omega
      have hmem : ∀ q ∈ x, 0 ≤ q ∧ q / 300 < 12 := fun q r => by have := hxx.2.1 q r; omega
      obtain ⟨g1, g2, g3, -⟩ := hL _ hrl.1 (by omega)
      have hpk : 0 ≤ p / 300 ∧ p / 300 < fI σ 1402 (46 + 4 * fI τ 1321 61) := by rw [g2]; omega
      have hbl := (hB.1 _ (p / 300) hrl.1 (by omega) (by omega) hpm.2).1
      have hb0 := hI.boxAt_ (12 * fI τ 1321 61 + p / 300)
      have hE := hX.2.2 _ hb0.1 hbl
      have hkb := hX.k hb0.1 hbl
      have hix := hE.2.2.2.1
      have hp0 := hE.1
      have hlat := g3 (p / 300) (by omega) hpm.2
      unfold inR at hw
      by_cases c0 : w = 0
      · have h := h1 ⟨(hiff.mp c).1, (hiff.mp c).2, by omega⟩
        rw [if_pos c0, g.1] at h
        subst c0
        have w27 : Go M_X11_story Q 27 [some (vr 1), some (vi i), some (vi j), some (vi 0), none] [vr (lat σ (46 + 4 * fI τ 1321 61) (p / 300))] σ (0, 0) := by
          rw [hlat]
          generalize aI τ 75 (12 * fI τ 1321 61 + p / 300) = b at *
          have hpn : ¬ lat σ 3 b = 0 := by omega
          clear h1 h0 hT hKM hx hI hB hX hL hE g hxi hpj hxx hmem g1 g2 g3
          refine go_X11_story (ct := fun p => p == 34) 20 ?_
          simp only [oI, oL, oR, o1, lI, lL, lR, popN, catS, gv, stL, stL2, swt, cnd, spObj, List.getElem?_cons_zero, List.getElem?_cons_succ, List.getD_cons_zero, List.getD_cons_succ, List.set_cons_zero, List.set_cons_succ, List.nil_append, List.cons_append, Option.toList, Bool.or_false, Bool.false_or, Bool.or_true, Bool.true_or, Nat.reduceBEq, Nat.reduceAdd, Nat.reduceLT, Nat.reduceLeDiff, Int.reduceAdd, Int.reduceToNat, true_and, and_true, Fin.isValue, Fin.val_zero, Fin.val_one, Fin.val_two, Fin.reduceFinMk, eq_self, Int.reduceNeg, imp_self, Nat.reduceMul, Nat.le_refl, not_true_eq_false, not_false_eq_true, List.getElem?_nil, reduceCtorEq, true_or, or_true, Classical.not_not, implies_true, or_self, wI_0, wI_1, wI_m1, b2i_w, b2i_eq0, b2i_eq1, b2i_bool, nor_self, nx_pI, kd_pI, ln_pI, fI_pI, fL_pI, fR_pI, aI_pI, aL_pI, aR_pI, nx_pL, kd_pL, ln_pL, fI_pL, fL_pL, fR_pL, aI_pL, aL_pL, aR_pL, nx_pR, kd_pR, ln_pR, fI_pR, fL_pR, fR_pR, aI_pR, aL_pR, aR_pR, nx_qI, kd_qI, ln_qI, fI_qI, fL_qI, fR_qI, aI_qI, aL_qI, aR_qI, nx_qL, kd_qL, ln_qL, fI_qL, fL_qL, fR_qL, aI_qL, aL_qL, aR_qL, nx_qR, kd_qR, ln_qR, fI_qR, fL_qR, fR_qR, aI_qR, aL_qR, aR_qR, nx_mk, kd_mk, ln_mk, fI_mk, fL_mk, fR_mk, aI_mk, aL_mk, aR_mk, false_and, and_false, if_false, if_true, and_self, Int.reduceEq, Nat.reduceEqDiff, ite_self, MLay_pI, MLay_pL, MLay_qI, MLay_qL, ev_X11_story_27, ev_X11_story_29, ev_X11_story_31, ev_X11_story_34, ev_X11_story_35, ev_X11_story_38, ev_X11_story_40, ev_X11_story_43, xt_X11_story, xf_X11_story, us_X10_hasBeginning, us_X10_boxOfBeginning, us_X10_tickOfBeginning, hkb, hix, hpn]
          repeat' (first | intro z | apply And.intro)
          all_goals try omega
          all_goals try contradiction
          all_goals exact h
        have hrl4 : 0 ≤ fI τ 1321 61 ∧ fI τ 1321 61 < 4 := by omega
        clear h1 h0 hT hx hB hX hL hE g hxx g3 h
        refine go_X11_story (ct := fun p => p == 12 || p == 27 || p == 44) 20 ?_
        simp only [oI, oL, oR, o1, lI, lL, lR, popN, catS, gv, stL, stL2, swt, cnd, spObj, List.getElem?_cons_zero, List.getElem?_cons_succ, List.getD_cons_zero, List.getD_cons_succ, List.set_cons_zero, List.set_cons_succ, List.nil_append, List.cons_append, Option.toList, Bool.or_false, Bool.false_or, Bool.or_true, Bool.true_or, Nat.reduceBEq, Nat.reduceAdd, Nat.reduceLT, Nat.reduceLeDiff, Int.reduceAdd, Int.reduceToNat, true_and, and_true, Fin.isValue, Fin.val_zero, Fin.val_one, Fin.val_two, Fin.reduceFinMk, eq_self, Int.reduceNeg, imp_self, Nat.reduceMul, Nat.le_refl, not_true_eq_false, not_false_eq_true, List.getElem?_nil, reduceCtorEq, true_or, or_true, Classical.not_not, implies_true, or_self, wI_0, wI_1, wI_m1, b2i_w, b2i_eq0, b2i_eq1, b2i_bool, nor_self, nx_pI, kd_pI, ln_pI, fI_pI, fL_pI, fR_pI, aI_pI, aL_pI, aR_pI, nx_pL, kd_pL, ln_pL, fI_pL, fL_pL, fR_pL, aI_pL, aL_pL, aR_pL, nx_pR, kd_pR, ln_pR, fI_pR, fL_pR, fR_pR, aI_pR, aL_pR, aR_pR, nx_qI, kd_qI, ln_qI, fI_qI, fL_qI, fR_qI, aI_qI, aL_qI, aR_qI, nx_qL, kd_qL, ln_qL, fI_qL, fL_qL, fR_qL, aI_qL, aL_qL, aR_qL, nx_qR, kd_qR, ln_qR, fI_qR, fL_qR, fR_qR, aI_qR, aL_qR, aR_qR, nx_mk, kd_mk, ln_mk, fI_mk, fL_mk, fR_mk, aI_mk, aL_mk, aR_mk, false_and, and_false, if_false, if_true, and_self, Int.reduceEq, Nat.reduceEqDiff, ite_self, MLay_pI, MLay_pL, MLay_qI, MLay_qL, ev_X11_story_9, ev_X11_story_12, ev_X11_story_13, ev_X11_story_14, ev_X11_story_15, ev_X11_story_18, ev_X11_story_19, ev_X11_story_22, ev_X11_story_23, ev_X11_story_24, xt_X11_story, xf_X11_story, us_X10_hasBeginning, us_X10_boxOfBeginning, us_X10_tickOfBeginning, hk, hC, hC.eqs, k4]
        try simp (disch := omega) only [wI_id, dv_nn, rm_nn]
        repeat' (first | intro z | apply And.intro)
        all_goals try omega
        all_goals try contradiction
        all_goals first | exact ⟨xs, x, p, fI τ 1321 61, hKM, c.1.1, c.2.1, hxi, hpj, hlen, hl3, hmem, hrl4, hlp, g1, hpk, w27⟩ | omega
      · by_cases c1 : w = 1
        · have h := h1 ⟨(hiff.mp c).1, (hiff.mp c).2, by omega⟩
          rw [if_neg c0, g.2, ← hfr] at h
          subst c1
          have w58 : Go M_X11_story Q 58 [some (vr 1), some (vi i), some (vi j), some (vi 1), none] [vi (fI σ 1107 4 + p % 300)] σ (0, 0) := by
            clear h1 h0 hT hKM hx hI hB hX hL hE g hxi hpj hxx hmem g1 g2 g3
            refine go_X11_story (ct := fun p => p == 61) 20 ?_
            simp only [oI, oL, oR, o1, lI, lL, lR, popN, catS, gv, stL, stL2, swt, cnd, spObj, List.getElem?_cons_zero, List.getElem?_cons_succ, List.getD_cons_zero, List.getD_cons_succ, List.set_cons_zero, List.set_cons_succ, List.nil_append, List.cons_append, Option.toList, Bool.or_false, Bool.false_or, Bool.or_true, Bool.true_or, Nat.reduceBEq, Nat.reduceAdd, Nat.reduceLT, Nat.reduceLeDiff, Int.reduceAdd, Int.reduceToNat, true_and, and_true, Fin.isValue, Fin.val_zero, Fin.val_one, Fin.val_two, Fin.reduceFinMk, eq_self, Int.reduceNeg, imp_self, Nat.reduceMul, Nat.le_refl, not_true_eq_false, not_false_eq_true, List.getElem?_nil, reduceCtorEq, true_or, or_true, Classical.not_not, implies_true, or_self, wI_0, wI_1, wI_m1, b2i_w, b2i_eq0, b2i_eq1, b2i_bool, nor_self, nx_pI, kd_pI, ln_pI, fI_pI, fL_pI, fR_pI, aI_pI, aL_pI, aR_pI, nx_pL, kd_pL, ln_pL, fI_pL, fL_pL, fR_pL, aI_pL, aL_pL, aR_pL, nx_pR, kd_pR, ln_pR, fI_pR, fL_pR, fR_pR, aI_pR, aL_pR, aR_pR, nx_qI, kd_qI, ln_qI, fI_qI, fL_qI, fR_qI, aI_qI, aL_qI, aR_qI, nx_qL, kd_qL, ln_qL, fI_qL, fL_qL, fR_qL, aI_qL, aL_qL, aR_qL, nx_qR, kd_qR, ln_qR, fI_qR, fL_qR, fR_qR, aI_qR, aL_qR, aR_qR, nx_mk, kd_mk, ln_mk, fI_mk, fL_mk, fR_mk, aI_mk, aL_mk, aR_mk, false_and, and_false, if_false, if_true, and_self, Int.reduceEq, Nat.reduceEqDiff, ite_self, MLay_pI, MLay_pL, MLay_qI, MLay_qL, ev_X11_story_58, ev_X11_story_61, ev_X11_story_62, xt_X11_story, xf_X11_story, us_X10_hasBeginning, us_X10_boxOfBeginning, us_X10_tickOfBeginning]
            repeat' (first | intro z | apply And.intro)
            all_goals try omega
            all_goals try contradiction
            all_goals exact h
          clear h1 h0 hT hx hB hX hL hE g hxx g3 h g1
          refine go_X11_story (ct := fun p => p == 12 || p == 18 || p == 58 || p == 61) 20 ?_
          simp only [oI, oL, oR, o1, lI, lL, lR, popN, catS, gv, stL, stL2, swt, cnd, spObj, List.getElem?_cons_zero, List.getElem?_cons_succ, List.getD_cons_zero, List.getD_cons_succ, List.set_cons_zero, List.set_cons_succ, List.nil_append, List.cons_append, Option.toList, Bool.or_false, Bool.false_or, Bool.or_true, Bool.true_or, Nat.reduceBEq, Nat.reduceAdd, Nat.reduceLT, Nat.reduceLeDiff, Int.reduceAdd, Int.reduceToNat, true_and, and_true, Fin.isValue, Fin.val_zero, Fin.val_one, Fin.val_two, Fin.reduceFinMk, eq_self, Int.reduceNeg, imp_self, Nat.reduceMul, Nat.le_refl, not_true_eq_false, not_false_eq_true, List.getElem?_nil, reduceCtorEq, true_or, or_true, Classical.not_not, implies_true, or_self, wI_0, wI_1, wI_m1, b2i_w, b2i_eq0, b2i_eq1, b2i_bool, nor_self, nx_pI, kd_pI, ln_pI, fI_pI, fL_pI, fR_pI, aI_pI, aL_pI, aR_pI, nx_pL, kd_pL, ln_pL, fI_pL, fL_pL, fR_pL, aI_pL, aL_pL, aR_pL, nx_pR, kd_pR, ln_pR, fI_pR, fL_pR, fR_pR, aI_pR, aL_pR, aR_pR, nx_qI, kd_qI, ln_qI, fI_qI, fL_qI, fR_qI, aI_qI, aL_qI, aR_qI, nx_qL, kd_qL, ln_qL, fI_qL, fL_qL, fR_qL, aI_qL, aL_qL, aR_qL, nx_qR, kd_qR, ln_qR, fI_qR, fL_qR, fR_qR, aI_qR, aL_qR, aR_qR, nx_mk, kd_mk, ln_mk, fI_mk, fL_mk, fR_mk, aI_mk, aL_mk, aR_mk, false_and, and_false, if_false, if_true, and_self, Int.reduceEq, Nat.reduceEqDiff, ite_self, MLay_pI, MLay_pL, MLay_qI, MLay_qL, ev_X11_story_9, ev_X11_story_12, ev_X11_story_13, ev_X11_story_14, ev_X11_story_15, ev_X11_story_44, ev_X11_story_45, ev_X11_story_46, ev_X11_story_49, ev_X11_story_50, ev_X11_story_53, ev_X11_story_54, ev_X11_story_55, xt_X11_story, xf_X11_story, us_X10_hasBeginning, us_X10_boxOfBeginning, us_X10_tickOfBeginning, hk, hC, hC.eqs, k4]
          try simp (disch := omega) only [wI_id, dv_nn, rm_nn]
          repeat' (first | intro z | apply And.intro)
          all_goals try omega
          all_goals try contradiction
          all_goals first | exact ⟨xs, x, p, hKM, c.1.1, c.2.1, hxi, hpj, hlen, hl3, hmem, w58⟩ | omega
        · have h := h0 (fun z => by omega)
          clear h1 h0 hT hKM hx hI hB hX hL hE g hxi hpj hxx hmem g1 g2 g3
          refine go_X11_story (ct := fun p => p == 12 || p == 18 || p == 49) 20 ?_
          simp only [oI, oL, oR, o1, lI, lL, lR, popN, catS, gv, stL, stL2, swt, cnd, spObj, List.getElem?_cons_zero, List.getElem?_cons_succ, List.getD_cons_zero, List.getD_cons_succ, List.set_cons_zero, List.set_cons_succ, List.nil_append, List.cons_append, Option.toList, Bool.or_false, Bool.false_or, Bool.or_true, Bool.true_or, Nat.reduceBEq, Nat.reduceAdd, Nat.reduceLT, Nat.reduceLeDiff, Int.reduceAdd, Int.reduceToNat, true_and, and_true, Fin.isValue, Fin.val_zero, Fin.val_one, Fin.val_two, Fin.reduceFinMk, eq_self, Int.reduceNeg, imp_self, Nat.reduceMul, Nat.le_refl, not_true_eq_false, not_false_eq_true, List.getElem?_nil, reduceCtorEq, true_or, or_true, Classical.not_not, implies_true, or_self, wI_0, wI_1, wI_m1, b2i_w, b2i_eq0, b2i_eq1, b2i_bool, nor_self, nx_pI, kd_pI, ln_pI, fI_pI, fL_pI, fR_pI, aI_pI, aL_pI, aR_pI, nx_pL, kd_pL, ln_pL, fI_pL, fL_pL, fR_pL, aI_pL, aL_pL, aR_pL, nx_pR, kd_pR, ln_pR, fI_pR, fL_pR, fR_pR, aI_pR, aL_pR, aR_pR, nx_qI, kd_qI, ln_qI, fI_qI, fL_qI, fR_qI, aI_qI, aL_qI, aR_qI, nx_qL, kd_qL, ln_qL, fI_qL, fL_qL, fR_qL, aI_qL, aL_qL, aR_qL, nx_qR, kd_qR, ln_qR, fI_qR, fL_qR, fR_qR, aI_qR, aL_qR, aR_qR, nx_mk, kd_mk, ln_mk, fI_mk, fL_mk, fR_mk, aI_mk, aL_mk, aR_mk, false_and, and_false, if_false, if_true, and_self, Int.reduceEq, Nat.reduceEqDiff, ite_self, MLay_pI, MLay_pL, MLay_qI, MLay_qL, ev_X11_story_9, ev_X11_story_12, ev_X11_story_13, ev_X11_story_14, ev_X11_story_15, ev_X11_story_44, ev_X11_story_45, ev_X11_story_46, ev_X11_story_61, ev_X11_story_62, xt_X11_story, xf_X11_story, us_X10_hasBeginning, us_X10_boxOfBeginning, us_X10_tickOfBeginning]
          try simp (disch := omega) only [wI_id, dv_nn, rm_nn]
          repeat' (first | intro z | apply And.intro)
          all_goals try omega
          all_goals try contradiction
          all_goals first | exact h | omega
    · rw [b2i_f c]
      have h := h0 (fun z => c (hiff.mpr ⟨z.1, z.2.1⟩))
      clear h1 h0 hT hKM hx hI hB hX hL
      refine go_X11_story (ct := fun p => p == 14) 20 ?_
      simp only [oI, oL, oR, o1, lI, lL, lR, popN, catS, gv, stL, stL2, swt, cnd, spObj, List.getElem?_cons_zero, List.getElem?_cons_succ, List.getD_cons_zero, List.getD_cons_succ, List.set_cons_zero, List.set_cons_succ, List.nil_append, List.cons_append, Option.toList, Bool.or_false, Bool.false_or, Bool.or_true, Bool.true_or, Nat.reduceBEq, Nat.reduceAdd, Nat.reduceLT, Nat.reduceLeDiff, Int.reduceAdd, Int.reduceToNat, true_and, and_true, Fin.isValue, Fin.val_zero, Fin.val_one, Fin.val_two, Fin.reduceFinMk, eq_self, Int.reduceNeg, imp_self, Nat.reduceMul, Nat.le_refl, not_true_eq_false, not_false_eq_true, List.getElem?_nil, reduceCtorEq, true_or, or_true, Classical.not_not, implies_true, or_self, wI_0, wI_1, wI_m1, b2i_w, b2i_eq0, b2i_eq1, b2i_bool, nor_self, nx_pI, kd_pI, ln_pI, fI_pI, fL_pI, fR_pI, aI_pI, aL_pI, aR_pI, nx_pL, kd_pL, ln_pL, fI_pL, fL_pL, fR_pL, aI_pL, aL_pL, aR_pL, nx_pR, kd_pR, ln_pR, fI_pR, fL_pR, fR_pR, aI_pR, aL_pR, aR_pR, nx_qI, kd_qI, ln_qI, fI_qI, fL_qI, fR_qI, aI_qI, aL_qI, aR_qI, nx_qL, kd_qL, ln_qL, fI_qL, fL_qL, fR_qL, aI_qL, aL_qL, aR_qL, nx_qR, kd_qR, ln_qR, fI_qR, fL_qR, fR_qR, aI_qR, aL_qR, aR_qR, nx_mk, kd_mk, ln_mk, fI_mk, fL_mk, fR_mk, aI_mk, aL_mk, aR_mk, false_and, and_false, if_false, if_true, and_self, Int.reduceEq, Nat.reduceEqDiff, ite_self, MLay_pI, MLay_pL, MLay_qI, MLay_qL, ev_X11_story_9, ev_X11_story_12, ev_X11_story_13, xt_X11_story, xf_X11_story, us_X10_hasBeginning, us_X10_boxOfBeginning, us_X10_tickOfBeginning]
      repeat' (first | intro z | apply And.intro)
      all_goals try omega
      all_goals try contradiction
      all_goals exact h
  clear h1 h0 hT hKM hx hI hB hX hL
  refine go_X11_story (ct := fun p => p == 9) 20 ?_
  simp only [oI, oL, oR, o1, lI, lL, lR, popN, catS, gv, stL, stL2, swt, cnd, spObj, List.getElem?_cons_zero, List.getElem?_cons_succ, List.getD_cons_zero, List.getD_cons_succ, List.set_cons_zero, List.set_cons_succ, List.nil_append, List.cons_append, Option.toList, Bool.or_false, Bool.false_or, Bool.or_true, Bool.true_or, Nat.reduceBEq, Nat.reduceAdd, Nat.reduceLT, Nat.reduceLeDiff, Int.reduceAdd, Int.reduceToNat, true_and, and_true, Fin.isValue, Fin.val_zero, Fin.val_one, Fin.val_two, Fin.reduceFinMk, eq_self, Int.reduceNeg, imp_self, Nat.reduceMul, Nat.le_refl, not_true_eq_false, not_false_eq_true, List.getElem?_nil, reduceCtorEq, true_or, or_true, Classical.not_not, implies_true, or_self, wI_0, wI_1, wI_m1, b2i_w, b2i_eq0, b2i_eq1, b2i_bool, nor_self, nx_pI, kd_pI, ln_pI, fI_pI, fL_pI, fR_pI, aI_pI, aL_pI, aR_pI, nx_pL, kd_pL, ln_pL, fI_pL, fL_pL, fR_pL, aI_pL, aL_pL, aR_pL, nx_pR, kd_pR, ln_pR, fI_pR, fL_pR, fR_pR, aI_pR, aL_pR, aR_pR, nx_qI, kd_qI, ln_qI, fI_qI, fL_qI, fR_qI, aI_qI, aL_qI, aR_qI, nx_qL, kd_qL, ln_qL, fI_qL, fL_qL, fR_qL, aI_qL, aL_qL, aR_qL, nx_qR, kd_qR, ln_qR, fI_qR, fL_qR, fR_qR, aI_qR, aL_qR, aR_qR, nx_mk, kd_mk, ln_mk, fI_mk, fL_mk, fR_mk, aI_mk, aL_mk, aR_mk, false_and, and_false, if_false, if_true, and_self, Int.reduceEq, Nat.reduceEqDiff, ite_self, MLay_pI, MLay_pL, MLay_qI, MLay_qL, ev_X11_story_0, ev_X11_story_1, ev_X11_story_4, ev_X11_story_5, ev_X11_story_6, xt_X11_story, xf_X11_story, us_X10_hasBeginning, us_X10_boxOfBeginning, us_X10_tickOfBeginning, hk, hC, hC.eqs, k4, hi, hj, hs3, hf3]
  repeat' (first | intro z | apply And.intro)
  all_goals try omega
  all_goals try contradiction
  all_goals exact w9

def sp_X11_reading : Sp := fun av σ Q => oR av fun this av => oI av fun l av => oI av fun f av => oI av fun t av => av = [] ∧ kd σ this = 12 ∧ (this = 1 ∧ CLay σ ∧ inR l ∧ inR f ∧ inR t ∧ ∃ τ, fI σ 1210 1 = fI τ 1301 61 ∧ (∀ l, 0 ≤ l → l < 4 → LR l σ τ) ∧ MI τ ∧ RB τ ∧ (¬ ((0 ≤ l ∧ l ≤ 3) ∧ 1 ≤ f ∧ t ≤ fI τ 1301 61 ∧ f ≤ t ∧ t - f ≤ 299) → Q (some (vi (-2))) σ) ∧ (((0 ≤ l ∧ l ≤ 3) ∧ 1 ≤ f ∧ t ≤ fI τ 1301 61 ∧ f ≤ t ∧ t - f ≤ 299) → ∀ σ' res sz xs, RdR (fun u => mTaped τ l (f + u)) (fun p u => mK τ l (p / 300) (p % 300) u) (aI τ 74 l) (t - f + 1) res sz xs → Fz tfF tfA tfL σ σ' → fR σ' 1106 4 = 46 + 4 * l → fI σ' 1107 4 = f → fI σ' 1108 4 = (if xs = [] then 0 else sz) → KM σ' (xs.map keyL) → Q (some (vi res)) σ'))
theorem us_X11_reading (this : Int) (l : Int) (f : Int) (t : Int) (σ : Hp) (Q : Option AV → Hp → Prop) : sp_X11_reading [vr this, vi l, vi f, vi t] σ Q = (kd σ this = 12 ∧ (this = 1 ∧ CLay σ ∧ inR l ∧ inR f ∧ inR t ∧ ∃ τ, fI σ 1210 1 = fI τ 1301 61 ∧ (∀ l, 0 ≤ l → l < 4 → LR l σ τ) ∧ MI τ ∧ RB τ ∧ (¬ ((0 ≤ l ∧ l ≤ 3) ∧ 1 ≤ f ∧ t ≤ fI τ 1301 61 ∧ f ≤ t ∧ t - f ≤ 299) → Q (some (vi (-2))) σ) ∧ (((0 ≤ l ∧ l ≤ 3) ∧ 1 ≤ f ∧ t ≤ fI τ 1301 61 ∧ f ≤ t ∧ t - f ≤ 299) → ∀ σ' res sz xs, RdR (fun u => mTaped τ l (f + u)) (fun p u => mK τ l (p / 300) (p % 300) u) (aI τ 74 l) (t - f + 1) res sz xs → Fz tfF tfA tfL σ σ' → fR σ' 1106 4 = 46 + 4 * l → fI σ' 1107 4 = f → fI σ' 1108 4 = (if xs = [] then 0 else sz) → KM σ' (xs.map keyL) → Q (some (vi res)) σ'))) := propext ⟨fun h => h.2, fun h => ⟨rfl, h⟩⟩
theorem el_X11_reading {av : List AV} {σ : Hp} {Q : Option AV → Hp → Prop} (h : sp_X11_reading av σ Q) : ∃ (this : Int) (l : Int) (f : Int) (t : Int), av = [vr this, vi l, vi f, vi t] ∧ (kd σ this = 12 ∧ (this = 1 ∧ CLay σ ∧ inR l ∧ inR f ∧ inR t ∧ ∃ τ, fI σ 1210 1 = fI τ 1301 61 ∧ (∀ l, 0 ≤ l → l < 4 → LR l σ τ) ∧ MI τ ∧ RB τ ∧ (¬ ((0 ≤ l ∧ l ≤ 3) ∧ 1 ≤ f ∧ t ≤ fI τ 1301 61 ∧ f ≤ t ∧ t - f ≤ 299) → Q (some (vi (-2))) σ) ∧ (((0 ≤ l ∧ l ≤ 3) ∧ 1 ≤ f ∧ t ≤ fI τ 1301 61 ∧ f ≤ t ∧ t - f ≤ 299) → ∀ σ' res sz xs, RdR (fun u => mTaped τ l (f + u)) (fun p u => mK τ l (p / 300) (p % 300) u) (aI τ 74 l) (t - f + 1) res sz xs → Fz tfF tfA tfL σ σ' → fR σ' 1106 4 = 46 + 4 * l → fI σ' 1107 4 = f → fI σ' 1108 4 = (if xs = [] then 0 else sz) → KM σ' (xs.map keyL) → Q (some (vi res)) σ'))) := by
  obtain ⟨this, a0, rfl, h0⟩ := oR_s h
  obtain ⟨l, a1, rfl, h1⟩ := oI_s h0
  obtain ⟨f, a2, rfl, h2⟩ := oI_s h1
  obtain ⟨t, a3, rfl, h3⟩ := oI_s h2
  obtain ⟨rfl, hz⟩ := h3
  exact ⟨this, l, f, t, rfl, hz⟩
theorem rc_X11_reading : ∀ (av : List AV) (σ : Hp) (Q : Option AV → Hp → Prop), sp_X11_reading av σ Q → ∃ r tl, av = vr r :: tl ∧ kd σ r = 11 + 1 := fun av σ Q h => by
  obtain ⟨this, l, f, t, rfl, hz, -⟩ := el_X11_reading h
  exact ⟨this, _, rfl, hz⟩

def tb_X11_reading : Tab := [(0, .aload_n 0, 1, (0, 0, 0, 0)), (1, .iload_n 1, 1, (0, 0, 0, 0)), (2, .invokevirtual 79, 3, (0, 0, 0, 0)), (5, .astore 4, 2, (0, 0, 0, 0)), (7, .aload 4, 2, (0, 0, 0, 0)), (9, .ifnull 30, 3, (0, 0, 0, 0)), (12, .iload_n 2, 1, (0, 0, 0, 0)), (13, .iconst 1, 1, (0, 0, 0, 0)), (14, .if_icmp .lt 25, 3, (0, 0, 0, 0)), (17, .iload_n 3, 1, (0, 0, 0, 0)), (18, .aload_n 0, 1, (0, 0, 0, 0)), (19, .getfield 69, 3, (12, 1210, 0, 0)), (22, .if_icmp .gt 17, 3, (0, 0, 0, 0)), (25, .iload_n 2, 1, (0, 0, 0, 0)), (26, .iload_n 3, 1, (0, 0, 0, 0)), (27, .if_icmp .gt 12, 3, (0, 0, 0, 0)), (30, .iload_n 3, 1, (0, 0, 0, 0)), (31, .iload_n 2, 1, (0, 0, 0, 0)), (32, .isub, 1, (0, 0, 0, 0)), (33, .sipush 300, 3, (0, 0, 0, 0)), (36, .if_icmp .lt 6, 3, (0, 0, 0, 0)), (39, .bipush (-2), 2, (0, 0, 0, 0)), (41, .ireturn, 1, (0, 0, 0, 0)), (42, .aload_n 0, 1, (0, 0, 0, 0)), (43, .getfield 18, 3, (12, 1201, 2, 0)), (46, .aload 4, 2, (0, 0, 0, 0)), (48, .iload_n 2, 1, (0, 0, 0, 0)), (49, .iload_n 3, 1, (0, 0, 0, 0)), (50, .invokevirtual 146, 3, (0, 0, 0, 0)), (53, .ireturn, 1, (0, 0, 0, 0))]
set_option maxRecDepth 100000 in
theorem tk_X11_reading : TOK RX11 false cX11_reading tb_X11_reading := chkT_ok ft_X11 (by decide +kernel)
theorem rw_X11_1168 : Row RX11 (.invokevirtual 146) 3 4 0 0 22 sp_X10_takeFrom := row_V (n := 3) (ci := 10) c_X10_takeFrom ⟨TBL_in 727 (by decide +kernel) rfl, TBL_in 730 (by decide +kernel) rfl, TBL_in 112 (by decide +kernel) rfl, by decide +kernel, by decide⟩ (by decide) rfl (TBL_in 728 (by decide +kernel) rfl) (TBL_in 729 (by decide +kernel) rfl) rc_X10_takeFrom
def mt_X11_reading : List (Nat × Mt) := [(632, 2, 0, 0, 1, sp_X11_loopOf), (1168, 4, 0, 0, 22, sp_X10_takeFrom)]
theorem em_X11_reading : mt_X11_reading.lookup 632 = some (2, 0, 0, 1, sp_X11_loopOf) ∧ mt_X11_reading.lookup 1168 = some (4, 0, 0, 22, sp_X10_takeFrom) := ⟨rfl, rfl⟩
theorem mk_X11_reading : MOK RX11 mt_X11_reading := by
  intro q hq
  simp only [mt_X11_reading, List.mem_cons, List.not_mem_nil, or_false] at hq
  rcases hq with rfl | rfl
  · exact rw_X11_632
  · exact rw_X11_1168
noncomputable def xe_X11_reading (ct : Nat → Bool) (K : Kt) (R : Option AV → Hp → Prop) (n : Nat) : Kt := exS 5 23 0 0 1 tb_X11_reading mt_X11_reading ct K R n
noncomputable def xk_X11_reading (ct : Nat → Bool) (K : Kt) (R : Option AV → Hp → Prop) (n : Nat) : Kt := exkS 5 23 0 0 1 tb_X11_reading mt_X11_reading ct K R n
theorem xt_X11_reading {ct : Nat → Bool} {K : Kt} {R : Option AV → Hp → Prop} {n pc : Nat} {ls : List (Option AV)} {st : List AV} {σ : Hp} {k : Nat × Nat} (h : ct pc = true) : xk_X11_reading ct K R n pc ls st σ k = K pc ls st σ k := by unfold xk_X11_reading exkS; rw [h]
theorem xf_X11_reading {ct : Nat → Bool} {K : Kt} {R : Option AV → Hp → Prop} {n pc : Nat} {ls : List (Option AV)} {st : List AV} {σ : Hp} {k : Nat × Nat} (h : ct pc = false) : xk_X11_reading ct K R n pc ls st σ k = xe_X11_reading ct K R n pc ls st σ k := by unfold xk_X11_reading exkS xe_X11_reading; rw [h]
theorem ev_X11_reading_0 {ct : Nat → Bool} {K : Kt} {R : Option AV → Hp → Prop} {n : Nat} {ls : List (Option AV)} {st : List AV} {σ : Hp} {k : Nat × Nat} : xe_X11_reading ct K R (n + 1) 0 ls st σ k = (lR ls 0 fun x => xk_X11_reading ct K R n 1 ls (vr x :: st) σ k) := exS_step.trans rfl
theorem ev_X11_reading_1 {ct : Nat → Bool} {K : Kt} {R : Option AV → Hp → Prop} {n : Nat} {ls : List (Option AV)} {st : List AV} {σ : Hp} {k : Nat × Nat} : xe_X11_reading ct K R (n + 1) 1 ls st σ k = (lI ls 1 fun x => xk_X11_reading ct K R n 2 ls (vi x :: st) σ k) := exS_step.trans rfl
theorem ev_X11_reading_2 {ct : Nat → Bool} {K : Kt} {R : Option AV → Hp → Prop} {n : Nat} {ls : List (Option AV)} {st : List AV} {σ : Hp} {k : Nat × Nat} : xe_X11_reading ct K R (n + 1) 2 ls st σ k = (popN 2 st [] fun av rest => (catS rest ≤ 8 ∧ 1 < 23 ∧ k.1 + 0 ≤ 0 ∧ k.2 + 0 ≤ 0) ∧ (sp_X11_loopOf) av σ fun v σ' => xk_X11_reading ct K R n 5 ls (v.toList ++ rest) σ' (k.1 + 0, k.2 + 0)) := exS_step.trans rfl
theorem ev_X11_reading_5 {ct : Nat → Bool} {K : Kt} {R : Option AV → Hp → Prop} {n : Nat} {ls : List (Option AV)} {st : List AV} {σ : Hp} {k : Nat × Nat} : xe_X11_reading ct K R (n + 1) 5 ls st σ k = (oR st fun x st => 4 < 5 ∧ xk_X11_reading ct K R n 7 (stL ls 4 (vr x)) st σ k) := exS_step.trans rfl
theorem ev_X11_reading_7 {ct : Nat → Bool} {K : Kt} {R : Option AV → Hp → Prop} {n : Nat} {ls : List (Option AV)} {st : List AV} {σ : Hp} {k : Nat × Nat} : xe_X11_reading ct K R (n + 1) 7 ls st σ k = (lR ls 4 fun x => xk_X11_reading ct K R n 9 ls (vr x :: st) σ k) := exS_step.trans rfl
theorem ev_X11_reading_9 {ct : Nat → Bool} {K : Kt} {R : Option AV → Hp → Prop} {n : Nat} {ls : List (Option AV)} {st : List AV} {σ : Hp} {k : Nat × Nat} : xe_X11_reading ct K R (n + 1) 9 ls st σ k = (oR st fun x st => (x = 0 → xk_X11_reading ct K R n 39 ls st σ k) ∧ (¬ x = 0 → xk_X11_reading ct K R n 12 ls st σ k)) := exS_step.trans rfl
theorem ev_X11_reading_12 {ct : Nat → Bool} {K : Kt} {R : Option AV → Hp → Prop} {n : Nat} {ls : List (Option AV)} {st : List AV} {σ : Hp} {k : Nat × Nat} : xe_X11_reading ct K R (n + 1) 12 ls st σ k = (lI ls 2 fun x => xk_X11_reading ct K R n 13 ls (vi x :: st) σ k) := exS_step.trans rfl
theorem ev_X11_reading_13 {ct : Nat → Bool} {K : Kt} {R : Option AV → Hp → Prop} {n : Nat} {ls : List (Option AV)} {st : List AV} {σ : Hp} {k : Nat × Nat} : xe_X11_reading ct K R (n + 1) 13 ls st σ k = (xk_X11_reading ct K R n 14 ls (vi (1) :: st) σ k) := exS_step.trans rfl
theorem ev_X11_reading_14 {ct : Nat → Bool} {K : Kt} {R : Option AV → Hp → Prop} {n : Nat} {ls : List (Option AV)} {st : List AV} {σ : Hp} {k : Nat × Nat} : xe_X11_reading ct K R (n + 1) 14 ls st σ k = (oI st fun y st => oI st fun x st => (wI x < wI y → xk_X11_reading ct K R n 39 ls st σ k) ∧ (¬ (wI x < wI y) → xk_X11_reading ct K R n 17 ls st σ k)) := exS_step.trans rfl
theorem ev_X11_reading_17 {ct : Nat → Bool} {K : Kt} {R : Option AV → Hp → Prop} {n : Nat} {ls : List (Option AV)} {st : List AV} {σ : Hp} {k : Nat × Nat} : xe_X11_reading ct K R (n + 1) 17 ls st σ k = (lI ls 3 fun x => xk_X11_reading ct K R n 18 ls (vi x :: st) σ k) := exS_step.trans rfl
theorem ev_X11_reading_18 {ct : Nat → Bool} {K : Kt} {R : Option AV → Hp → Prop} {n : Nat} {ls : List (Option AV)} {st : List AV} {σ : Hp} {k : Nat × Nat} : xe_X11_reading ct K R (n + 1) 18 ls st σ k = (lR ls 0 fun x => xk_X11_reading ct K R n 19 ls (vr x :: st) σ k) := exS_step.trans rfl
theorem ev_X11_reading_19 {ct : Nat → Bool} {K : Kt} {R : Option AV → Hp → Prop} {n : Nat} {ls : List (Option AV)} {st : List AV} {σ : Hp} {k : Nat × Nat} : xe_X11_reading ct K R (n + 1) 19 ls st σ k = (oR st fun x st => kd σ x = 12 ∧ xk_X11_reading ct K R n 22 ls (vi (fI σ 1210 x) :: st) σ k) := exS_step.trans rfl
theorem ev_X11_reading_22 {ct : Nat → Bool} {K : Kt} {R : Option AV → Hp → Prop} {n : Nat} {ls : List (Option AV)} {st : List AV} {σ : Hp} {k : Nat × Nat} : xe_X11_reading ct K R (n + 1) 22 ls st σ k = (oI st fun y st => oI st fun x st => (wI y < wI x → xk_X11_reading ct K R n 39 ls st σ k) ∧ (¬ (wI y < wI x) → xk_X11_reading ct K R n 25 ls st σ k)) := exS_step.trans rfl
theorem ev_X11_reading_25 {ct : Nat → Bool} {K : Kt} {R : Option AV → Hp → Prop} {n : Nat} {ls : List (Option AV)} {st : List AV} {σ : Hp} {k : Nat × Nat} : xe_X11_reading ct K R (n + 1) 25 ls st σ k = (lI ls 2 fun x => xk_X11_reading ct K R n 26 ls (vi x :: st) σ k) := exS_step.trans rfl
theorem ev_X11_reading_26 {ct : Nat → Bool} {K : Kt} {R : Option AV → Hp → Prop} {n : Nat} {ls : List (Option AV)} {st : List AV} {σ : Hp} {k : Nat × Nat} : xe_X11_reading ct K R (n + 1) 26 ls st σ k = (lI ls 3 fun x => xk_X11_reading ct K R n 27 ls (vi x :: st) σ k) := exS_step.trans rfl
theorem ev_X11_reading_27 {ct : Nat → Bool} {K : Kt} {R : Option AV → Hp → Prop} {n : Nat} {ls : List (Option AV)} {st : List AV} {σ : Hp} {k : Nat × Nat} : xe_X11_reading ct K R (n + 1) 27 ls st σ k = (oI st fun y st => oI st fun x st => (wI y < wI x → xk_X11_reading ct K R n 39 ls st σ k) ∧ (¬ (wI y < wI x) → xk_X11_reading ct K R n 30 ls st σ k)) := exS_step.trans rfl
theorem ev_X11_reading_30 {ct : Nat → Bool} {K : Kt} {R : Option AV → Hp → Prop} {n : Nat} {ls : List (Option AV)} {st : List AV} {σ : Hp} {k : Nat × Nat} : xe_X11_reading ct K R (n + 1) 30 ls st σ k = (lI ls 3 fun x => xk_X11_reading ct K R n 31 ls (vi x :: st) σ k) := exS_step.trans rfl
theorem ev_X11_reading_31 {ct : Nat → Bool} {K : Kt} {R : Option AV → Hp → Prop} {n : Nat} {ls : List (Option AV)} {st : List AV} {σ : Hp} {k : Nat × Nat} : xe_X11_reading ct K R (n + 1) 31 ls st σ k = (lI ls 2 fun x => xk_X11_reading ct K R n 32 ls (vi x :: st) σ k) := exS_step.trans rfl
theorem ev_X11_reading_32 {ct : Nat → Bool} {K : Kt} {R : Option AV → Hp → Prop} {n : Nat} {ls : List (Option AV)} {st : List AV} {σ : Hp} {k : Nat × Nat} : xe_X11_reading ct K R (n + 1) 32 ls st σ k = (oI st fun y st => oI st fun x st => xk_X11_reading ct K R n 33 ls (vi (x - y) :: st) σ k) := exS_step.trans rfl
theorem ev_X11_reading_33 {ct : Nat → Bool} {K : Kt} {R : Option AV → Hp → Prop} {n : Nat} {ls : List (Option AV)} {st : List AV} {σ : Hp} {k : Nat × Nat} : xe_X11_reading ct K R (n + 1) 33 ls st σ k = (xk_X11_reading ct K R n 36 ls (vi (300) :: st) σ k) := exS_step.trans rfl
theorem ev_X11_reading_36 {ct : Nat → Bool} {K : Kt} {R : Option AV → Hp → Prop} {n : Nat} {ls : List (Option AV)} {st : List AV} {σ : Hp} {k : Nat × Nat} : xe_X11_reading ct K R (n + 1) 36 ls st σ k = (oI st fun y st => oI st fun x st => (wI x < wI y → xk_X11_reading ct K R n 42 ls st σ k) ∧ (¬ (wI x < wI y) → xk_X11_reading ct K R n 39 ls st σ k)) := exS_step.trans rfl
theorem ev_X11_reading_39 {ct : Nat → Bool} {K : Kt} {R : Option AV → Hp → Prop} {n : Nat} {ls : List (Option AV)} {st : List AV} {σ : Hp} {k : Nat × Nat} : xe_X11_reading ct K R (n + 1) 39 ls st σ k = (xk_X11_reading ct K R n 41 ls (vi (-2) :: st) σ k) := exS_step.trans rfl
theorem ev_X11_reading_41 {ct : Nat → Bool} {K : Kt} {R : Option AV → Hp → Prop} {n : Nat} {ls : List (Option AV)} {st : List AV} {σ : Hp} {k : Nat × Nat} : xe_X11_reading ct K R (n + 1) 41 ls st σ k = (oI st fun x st => st = [] ∧ True ∧ R (some (vi x)) σ) := exS_step.trans rfl
theorem ev_X11_reading_42 {ct : Nat → Bool} {K : Kt} {R : Option AV → Hp → Prop} {n : Nat} {ls : List (Option AV)} {st : List AV} {σ : Hp} {k : Nat × Nat} : xe_X11_reading ct K R (n + 1) 42 ls st σ k = (lR ls 0 fun x => xk_X11_reading ct K R n 43 ls (vr x :: st) σ k) := exS_step.trans rfl
theorem ev_X11_reading_43 {ct : Nat → Bool} {K : Kt} {R : Option AV → Hp → Prop} {n : Nat} {ls : List (Option AV)} {st : List AV} {σ : Hp} {k : Nat × Nat} : xe_X11_reading ct K R (n + 1) 43 ls st σ k = (oR st fun x st => kd σ x = 12 ∧ xk_X11_reading ct K R n 46 ls (vr (fR σ 1201 x) :: st) σ k) := exS_step.trans rfl
theorem ev_X11_reading_46 {ct : Nat → Bool} {K : Kt} {R : Option AV → Hp → Prop} {n : Nat} {ls : List (Option AV)} {st : List AV} {σ : Hp} {k : Nat × Nat} : xe_X11_reading ct K R (n + 1) 46 ls st σ k = (lR ls 4 fun x => xk_X11_reading ct K R n 48 ls (vr x :: st) σ k) := exS_step.trans rfl
theorem ev_X11_reading_48 {ct : Nat → Bool} {K : Kt} {R : Option AV → Hp → Prop} {n : Nat} {ls : List (Option AV)} {st : List AV} {σ : Hp} {k : Nat × Nat} : xe_X11_reading ct K R (n + 1) 48 ls st σ k = (lI ls 2 fun x => xk_X11_reading ct K R n 49 ls (vi x :: st) σ k) := exS_step.trans rfl
theorem ev_X11_reading_49 {ct : Nat → Bool} {K : Kt} {R : Option AV → Hp → Prop} {n : Nat} {ls : List (Option AV)} {st : List AV} {σ : Hp} {k : Nat × Nat} : xe_X11_reading ct K R (n + 1) 49 ls st σ k = (lI ls 3 fun x => xk_X11_reading ct K R n 50 ls (vi x :: st) σ k) := exS_step.trans rfl
theorem ev_X11_reading_50 {ct : Nat → Bool} {K : Kt} {R : Option AV → Hp → Prop} {n : Nat} {ls : List (Option AV)} {st : List AV} {σ : Hp} {k : Nat × Nat} : xe_X11_reading ct K R (n + 1) 50 ls st σ k = (popN 4 st [] fun av rest => (catS rest ≤ 8 ∧ 22 < 23 ∧ k.1 + 0 ≤ 0 ∧ k.2 + 0 ≤ 0) ∧ (sp_X10_takeFrom) av σ fun v σ' => xk_X11_reading ct K R n 53 ls (v.toList ++ rest) σ' (k.1 + 0, k.2 + 0)) := exS_step.trans rfl
theorem ev_X11_reading_53 {ct : Nat → Bool} {K : Kt} {R : Option AV → Hp → Prop} {n : Nat} {ls : List (Option AV)} {st : List AV} {σ : Hp} {k : Nat × Nat} : xe_X11_reading ct K R (n + 1) 53 ls st σ k = (oI st fun x st => st = [] ∧ True ∧ R (some (vi x)) σ) := exS_step.trans rfl
def M_X11_reading : Md := (yX11_reading, cX11_reading, 5, (some FieldType.int), 23, 0, 0, 1, false, tb_X11_reading, mt_X11_reading)
theorem mm_X11_reading : MMOK M_X11_reading := ⟨by decide +kernel, tk_X11_reading, mk_X11_reading, rfl, fun h => by cases h⟩
theorem go_X11_reading {Q : Option AV → Hp → Prop} {ct : Nat → Bool} {pc : Nat} {ls : List (Option AV)} {st : List AV} {σ : Hp} {k : Nat × Nat} (n : Nat) (h : xe_X11_reading ct (Go M_X11_reading Q) Q n pc ls st σ k) : Go M_X11_reading Q pc ls st σ k := Go.exS mm_X11_reading h

set_option maxRecDepth 20000 in
theorem c_X11_reading : Ct yX11_reading cX11_reading 5 ((some FieldType.int)) 23 0 0 sp_X11_reading := by
  refine Ct.go (M := M_X11_reading) mm_X11_reading fun av σ Q h0 => ?_
  obtain ⟨this, l, f, t, rfl, hk, h⟩ := el_X11_reading h0
  clear h0
  refine ⟨Nat.le_of_ble_eq_true rfl, ?_⟩
  show Go M_X11_reading Q 0 [some (vr this), some (vi l), some (vi f), some (vi t), none] [] σ (0, 0)
  obtain ⟨rfl, hC, hl, hf, ht, τ, hn, hLR, hI, hB, h0, h1⟩ := h
  have hns := hI.now_s
  have k4 : kd σ 4 = 11 := by simp only [hC.eqs]
  by_cases c0 : 0 ≤ l ∧ l < 4
  · have e : (if 0 ≤ l ∧ l < 4 then 45 + 4 * l else 0) = 45 + 4 * l := if_pos c0
    have hn0 : ¬ 45 + 4 * l = 0 := by omega
    by_cases c : 1 ≤ f ∧ t ≤ fI τ 1301 61 ∧ f ≤ t ∧ t - f ≤ 299
    · have w53 : ∀ σ' res sz xs, RdR (fun u => mTaped τ l (f + u)) (fun p u => mK τ l (p / 300) (p % 300) u) (aI τ 74 l) (t - f + 1) res sz xs → Fz tfF tfA tfL σ σ' → fR σ' 1106 4 = 45 + 4 * l + 1 → fI σ' 1107 4 = f → fI σ' 1108 4 = (if xs = [] then 0 else sz) → KM σ' (xs.map keyL) → Go M_X11_reading Q 53 [some (vr 1), some (vi l), some (vi f), some (vi t), some (vr (45 + 4 * l))] [vi res] σ' (0, 0) := fun σ' res sz xs a1 a2 a3 a4 a5 a6 => by
        have h := h1 ⟨by omega, c⟩ σ' res sz xs a1 a2 (by rw [a3]; omega) a4 a5 a6
        clear h0 h1 hLR hI hB a1 a2 a3 a4 a5 a6
        refine go_X11_reading (ct := fun p => p == 99) 20 ?_
        simp only [oI, oL, oR, o1, lI, lL, lR, popN, catS, gv, stL, stL2, swt, cnd, spObj, List.getElem?_cons_zero, List.getElem?_cons_succ, List.getD_cons_zero, List.getD_cons_succ, List.set_cons_zero, List.set_cons_succ, List.nil_append, List.cons_append, Option.toList, Bool.or_false, Bool.false_or, Bool.or_true, Bool.true_or, Nat.reduceBEq, Nat.reduceAdd, Nat.reduceLT, Nat.reduceLeDiff, Int.reduceAdd, Int.reduceToNat, true_and, and_true, Fin.isValue, Fin.val_zero, Fin.val_one, Fin.val_two, Fin.reduceFinMk, eq_self, Int.reduceNeg, imp_self, Nat.reduceMul, Nat.le_refl, not_true_eq_false, not_false_eq_true, List.getElem?_nil, reduceCtorEq, true_or, or_true, Classical.not_not, implies_true, or_self, wI_0, wI_1, wI_m1, b2i_w, b2i_eq0, b2i_eq1, b2i_bool, nor_self, nx_pI, kd_pI, ln_pI, fI_pI, fL_pI, fR_pI, aI_pI, aL_pI, aR_pI, nx_pL, kd_pL, ln_pL, fI_pL, fL_pL, fR_pL, aI_pL, aL_pL, aR_pL, nx_pR, kd_pR, ln_pR, fI_pR, fL_pR, fR_pR, aI_pR, aL_pR, aR_pR, nx_qI, kd_qI, ln_qI, fI_qI, fL_qI, fR_qI, aI_qI, aL_qI, aR_qI, nx_qL, kd_qL, ln_qL, fI_qL, fL_qL, fR_qL, aI_qL, aL_qL, aR_qL, nx_qR, kd_qR, ln_qR, fI_qR, fL_qR, fR_qR, aI_qR, aL_qR, aR_qR, nx_mk, kd_mk, ln_mk, fI_mk, fL_mk, fR_mk, aI_mk, aL_mk, aR_mk, false_and, and_false, if_false, if_true, and_self, Int.reduceEq, Nat.reduceEqDiff, ite_self, MLay_pI, MLay_pL, MLay_qI, MLay_qL, ev_X11_reading_53, xt_X11_reading, xf_X11_reading, us_X11_loopOf, us_X10_takeFrom]
        repeat' (first | intro z | apply And.intro)
        all_goals try omega
        all_goals try contradiction
        all_goals exact h
      have hLl := hLR l c0.1 c0.2
      have hrg : 1 ≤ f ∧ f ≤ t ∧ t ≤ 999999 ∧ t - f ≤ 299 := by omega
      clear h0 h1 hLR
      unfold inR at hl hf ht
      have hl2 : inR l := by unfold inR; omega
      refine go_X11_reading (ct := fun p => p == 39 || p == 53) 40 ?_
      simp only [oI, oL, oR, o1, lI, lL, lR, popN, catS, gv, stL, stL2, swt, cnd, spObj, List.getElem?_cons_zero, List.getElem?_cons_succ, List.getD_cons_zero, List.getD_cons_succ, List.set_cons_zero, List.set_cons_succ, List.nil_append, List.cons_append, Option.toList, Bool.or_false, Bool.false_or, Bool.or_true, Bool.true_or, Nat.reduceBEq, Nat.reduceAdd, Nat.reduceLT, Nat.reduceLeDiff, Int.reduceAdd, Int.reduceToNat, true_and, and_true, Fin.isValue, Fin.val_zero, Fin.val_one, Fin.val_two, Fin.reduceFinMk, eq_self, Int.reduceNeg, imp_self, Nat.reduceMul, Nat.le_refl, not_true_eq_false, not_false_eq_true, List.getElem?_nil, reduceCtorEq, true_or, or_true, Classical.not_not, implies_true, or_self, wI_0, wI_1, wI_m1, b2i_w, b2i_eq0, b2i_eq1, b2i_bool, nor_self, nx_pI, kd_pI, ln_pI, fI_pI, fL_pI, fR_pI, aI_pI, aL_pI, aR_pI, nx_pL, kd_pL, ln_pL, fI_pL, fL_pL, fR_pL, aI_pL, aL_pL, aR_pL, nx_pR, kd_pR, ln_pR, fI_pR, fL_pR, fR_pR, aI_pR, aL_pR, aR_pR, nx_qI, kd_qI, ln_qI, fI_qI, fL_qI, fR_qI, aI_qI, aL_qI, aR_qI, nx_qL, kd_qL, ln_qL, fI_qL, fL_qL, fR_qL, aI_qL, aL_qL, aR_qL, nx_qR, kd_qR, ln_qR, fI_qR, fL_qR, fR_qR, aI_qR, aL_qR, aR_qR, nx_mk, kd_mk, ln_mk, fI_mk, fL_mk, fR_mk, aI_mk, aL_mk, aR_mk, false_and, and_false, if_false, if_true, and_self, Int.reduceEq, Nat.reduceEqDiff, ite_self, MLay_pI, MLay_pL, MLay_qI, MLay_qL, ev_X11_reading_0, ev_X11_reading_1, ev_X11_reading_2, ev_X11_reading_5, ev_X11_reading_7, ev_X11_reading_9, ev_X11_reading_12, ev_X11_reading_13, ev_X11_reading_14, ev_X11_reading_17, ev_X11_reading_18, ev_X11_reading_19, ev_X11_reading_22, ev_X11_reading_25, ev_X11_reading_26, ev_X11_reading_27, ev_X11_reading_30, ev_X11_reading_31, ev_X11_reading_32, ev_X11_reading_33, ev_X11_reading_36, ev_X11_reading_39, ev_X11_reading_41, ev_X11_reading_42, ev_X11_reading_43, ev_X11_reading_46, ev_X11_reading_48, ev_X11_reading_49, ev_X11_reading_50, xt_X11_reading, xf_X11_reading, us_X11_loopOf, us_X10_takeFrom, hk, hC, hC.eqs, hl2, e, hn0, hn, k4]
      try simp (disch := omega) only [wI_id, dv_nn, rm_nn]
      repeat' (first | intro z | apply And.intro)
      all_goals try omega
      all_goals try contradiction
      all_goals first | exact ⟨τ, l, c0, rfl, hLl, hI, hB, hrg, w53⟩ | omega
    · have h := h0 (fun z => c z.2)
      clear h0 h1 hLR hI hB
      have hl2 := hl
      unfold inR at hl hf ht
      by_cases c2 : f < 1
      · refine go_X11_reading (ct := fun p => p == 17 || p == 42) 40 ?_
        simp only [oI, oL, oR, o1, lI, lL, lR, popN, catS, gv, stL, stL2, swt, cnd, spObj, List.getElem?_cons_zero, List.getElem?_cons_succ, List.getD_cons_zero, List.getD_cons_succ, List.set_cons_zero, List.set_cons_succ, List.nil_append, List.cons_append, Option.toList, Bool.or_false, Bool.false_or, Bool.or_true, Bool.true_or, Nat.reduceBEq, Nat.reduceAdd, Nat.reduceLT, Nat.reduceLeDiff, Int.reduceAdd, Int.reduceToNat, true_and, and_true, Fin.isValue, Fin.val_zero, Fin.val_one, Fin.val_two, Fin.reduceFinMk, eq_self, Int.reduceNeg, imp_self, Nat.reduceMul, Nat.le_refl, not_true_eq_false, not_false_eq_true, List.getElem?_nil, reduceCtorEq, true_or, or_true, Classical.not_not, implies_true, or_self, wI_0, wI_1, wI_m1, b2i_w, b2i_eq0, b2i_eq1, b2i_bool, nor_self, nx_pI, kd_pI, ln_pI, fI_pI, fL_pI, fR_pI, aI_pI, aL_pI, aR_pI, nx_pL, kd_pL, ln_pL, fI_pL, fL_pL, fR_pL, aI_pL, aL_pL, aR_pL, nx_pR, kd_pR, ln_pR, fI_pR, fL_pR, fR_pR, aI_pR, aL_pR, aR_pR, nx_qI, kd_qI, ln_qI, fI_qI, fL_qI, fR_qI, aI_qI, aL_qI, aR_qI, nx_qL, kd_qL, ln_qL, fI_qL, fL_qL, fR_qL, aI_qL, aL_qL, aR_qL, nx_qR, kd_qR, ln_qR, fI_qR, fL_qR, fR_qR, aI_qR, aL_qR, aR_qR, nx_mk, kd_mk, ln_mk, fI_mk, fL_mk, fR_mk, aI_mk, aL_mk, aR_mk, false_and, and_false, if_false, if_true, and_self, Int.reduceEq, Nat.reduceEqDiff, ite_self, MLay_pI, MLay_pL, MLay_qI, MLay_qL, ev_X11_reading_0, ev_X11_reading_1, ev_X11_reading_2, ev_X11_reading_5, ev_X11_reading_7, ev_X11_reading_9, ev_X11_reading_12, ev_X11_reading_13, ev_X11_reading_14, ev_X11_reading_17, ev_X11_reading_18, ev_X11_reading_19, ev_X11_reading_22, ev_X11_reading_25, ev_X11_reading_26, ev_X11_reading_27, ev_X11_reading_30, ev_X11_reading_31, ev_X11_reading_32, ev_X11_reading_33, ev_X11_reading_36, ev_X11_reading_39, ev_X11_reading_41, xt_X11_reading, xf_X11_reading, us_X11_loopOf, us_X10_takeFrom, hk, hC, hC.eqs, hl2, e, hn0, hn]
        try simp (disch := omega) only [wI_id, dv_nn, rm_nn]
        repeat' (first | intro z | apply And.intro)
        all_goals try omega
        all_goals try contradiction
        all_goals first | exact h | omega
      · by_cases c3 : fI τ 1301 61 < t
        · refine go_X11_reading (ct := fun p => p == 25 || p == 42) 40 ?_
          simp only [oI, oL, oR, o1, lI, lL, lR, popN, catS, gv, stL, stL2, swt, cnd, spObj, List.getElem?_cons_zero, List.getElem?_cons_succ, List.getD_cons_zero, List.getD_cons_succ, List.set_cons_zero, List.set_cons_succ, List.nil_append, List.cons_append, Option.toList, Bool.or_false, Bool.false_or, Bool.or_true, Bool.true_or, Nat.reduceBEq, Nat.reduceAdd, Nat.reduceLT, Nat.reduceLeDiff, Int.reduceAdd, Int.reduceToNat, true_and, and_true, Fin.isValue, Fin.val_zero, Fin.val_one, Fin.val_two, Fin.reduceFinMk, eq_self, Int.reduceNeg, imp_self, Nat.reduceMul, Nat.le_refl, not_true_eq_false, not_false_eq_true, List.getElem?_nil, reduceCtorEq, true_or, or_true, Classical.not_not, implies_true, or_self, wI_0, wI_1, wI_m1, b2i_w, b2i_eq0, b2i_eq1, b2i_bool, nor_self, nx_pI, kd_pI, ln_pI, fI_pI, fL_pI, fR_pI, aI_pI, aL_pI, aR_pI, nx_pL, kd_pL, ln_pL, fI_pL, fL_pL, fR_pL, aI_pL, aL_pL, aR_pL, nx_pR, kd_pR, ln_pR, fI_pR, fL_pR, fR_pR, aI_pR, aL_pR, aR_pR, nx_qI, kd_qI, ln_qI, fI_qI, fL_qI, fR_qI, aI_qI, aL_qI, aR_qI, nx_qL, kd_qL, ln_qL, fI_qL, fL_qL, fR_qL, aI_qL, aL_qL, aR_qL, nx_qR, kd_qR, ln_qR, fI_qR, fL_qR, fR_qR, aI_qR, aL_qR, aR_qR, nx_mk, kd_mk, ln_mk, fI_mk, fL_mk, fR_mk, aI_mk, aL_mk, aR_mk, false_and, and_false, if_false, if_true, and_self, Int.reduceEq, Nat.reduceEqDiff, ite_self, MLay_pI, MLay_pL, MLay_qI, MLay_qL, ev_X11_reading_0, ev_X11_reading_1, ev_X11_reading_2, ev_X11_reading_5, ev_X11_reading_7, ev_X11_reading_9, ev_X11_reading_12, ev_X11_reading_13, ev_X11_reading_14, ev_X11_reading_17, ev_X11_reading_18, ev_X11_reading_19, ev_X11_reading_22, ev_X11_reading_25, ev_X11_reading_26, ev_X11_reading_27, ev_X11_reading_30, ev_X11_reading_31, ev_X11_reading_32, ev_X11_reading_33, ev_X11_reading_36, ev_X11_reading_39, ev_X11_reading_41, xt_X11_reading, xf_X11_reading, us_X11_loopOf, us_X10_takeFrom, hk, hC, hC.eqs, hl2, e, hn0, hn]
          try simp (disch := omega) only [wI_id, dv_nn, rm_nn]
          repeat' (first | intro z | apply And.intro)
          all_goals try omega
          all_goals try contradiction
          all_goals first | exact h | omega
        · by_cases c4 : t < f
          · refine go_X11_reading (ct := fun p => p == 30 || p == 42) 40 ?_
            simp only [oI, oL, oR, o1, lI, lL, lR, popN, catS, gv, stL, stL2, swt, cnd, spObj, List.getElem?_cons_zero, List.getElem?_cons_succ, List.getD_cons_zero, List.getD_cons_succ, List.set_cons_zero, List.set_cons_succ, List.nil_append, List.cons_append, Option.toList, Bool.or_false, Bool.false_or, Bool.or_true, Bool.true_or, Nat.reduceBEq, Nat.reduceAdd, Nat.reduceLT, Nat.reduceLeDiff, Int.reduceAdd, Int.reduceToNat, true_and, and_true, Fin.isValue, Fin.val_zero, Fin.val_one, Fin.val_two, Fin.reduceFinMk, eq_self, Int.reduceNeg, imp_self, Nat.reduceMul, Nat.le_refl, not_true_eq_false, not_false_eq_true, List.getElem?_nil, reduceCtorEq, true_or, or_true, Classical.not_not, implies_true, or_self, wI_0, wI_1, wI_m1, b2i_w, b2i_eq0, b2i_eq1, b2i_bool, nor_self, nx_pI, kd_pI, ln_pI, fI_pI, fL_pI, fR_pI, aI_pI, aL_pI, aR_pI, nx_pL, kd_pL, ln_pL, fI_pL, fL_pL, fR_pL, aI_pL, aL_pL, aR_pL, nx_pR, kd_pR, ln_pR, fI_pR, fL_pR, fR_pR, aI_pR, aL_pR, aR_pR, nx_qI, kd_qI, ln_qI, fI_qI, fL_qI, fR_qI, aI_qI, aL_qI, aR_qI, nx_qL, kd_qL, ln_qL, fI_qL, fL_qL, fR_qL, aI_qL, aL_qL, aR_qL, nx_qR, kd_qR, ln_qR, fI_qR, fL_qR, fR_qR, aI_qR, aL_qR, aR_qR, nx_mk, kd_mk, ln_mk, fI_mk, fL_mk, fR_mk, aI_mk, aL_mk, aR_mk, false_and, and_false, if_false, if_true, and_self, Int.reduceEq, Nat.reduceEqDiff, ite_self, MLay_pI, MLay_pL, MLay_qI, MLay_qL, ev_X11_reading_0, ev_X11_reading_1, ev_X11_reading_2, ev_X11_reading_5, ev_X11_reading_7, ev_X11_reading_9, ev_X11_reading_12, ev_X11_reading_13, ev_X11_reading_14, ev_X11_reading_17, ev_X11_reading_18, ev_X11_reading_19, ev_X11_reading_22, ev_X11_reading_25, ev_X11_reading_26, ev_X11_reading_27, ev_X11_reading_30, ev_X11_reading_31, ev_X11_reading_32, ev_X11_reading_33, ev_X11_reading_36, ev_X11_reading_39, ev_X11_reading_41, xt_X11_reading, xf_X11_reading, us_X11_loopOf, us_X10_takeFrom, hk, hC, hC.eqs, hl2, e, hn0, hn]
            try simp (disch := omega) only [wI_id, dv_nn, rm_nn]
            repeat' (first | intro z | apply And.intro)
            all_goals try omega
            all_goals try contradiction
            all_goals first | exact h | omega
          · have c5 : 299 < t - f := by omega
            refine go_X11_reading (ct := fun p => p == 42) 40 ?_
            simp only [oI, oL, oR, o1, lI, lL, lR, popN, catS, gv, stL, stL2, swt, cnd, spObj, List.getElem?_cons_zero, List.getElem?_cons_succ, List.getD_cons_zero, List.getD_cons_succ, List.set_cons_zero, List.set_cons_succ, List.nil_append, List.cons_append, Option.toList, Bool.or_false, Bool.false_or, Bool.or_true, Bool.true_or, Nat.reduceBEq, Nat.reduceAdd, Nat.reduceLT, Nat.reduceLeDiff, Int.reduceAdd, Int.reduceToNat, true_and, and_true, Fin.isValue, Fin.val_zero, Fin.val_one, Fin.val_two, Fin.reduceFinMk, eq_self, Int.reduceNeg, imp_self, Nat.reduceMul, Nat.le_refl, not_true_eq_false, not_false_eq_true, List.getElem?_nil, reduceCtorEq, true_or, or_true, Classical.not_not, implies_true, or_self, wI_0, wI_1, wI_m1, b2i_w, b2i_eq0, b2i_eq1, b2i_bool, nor_self, nx_pI, kd_pI, ln_pI, fI_pI, fL_pI, fR_pI, aI_pI, aL_pI, aR_pI, nx_pL, kd_pL, ln_pL, fI_pL, fL_pL, fR_pL, aI_pL, aL_pL, aR_pL, nx_pR, kd_pR, ln_pR, fI_pR, fL_pR, fR_pR, aI_pR, aL_pR, aR_pR, nx_qI, kd_qI, ln_qI, fI_qI, fL_qI, fR_qI, aI_qI, aL_qI, aR_qI, nx_qL, kd_qL, ln_qL, fI_qL, fL_qL, fR_qL, aI_qL, aL_qL, aR_qL, nx_qR, kd_qR, ln_qR, fI_qR, fL_qR, fR_qR, aI_qR, aL_qR, aR_qR, nx_mk, kd_mk, ln_mk, fI_mk, fL_mk, fR_mk, aI_mk, aL_mk, aR_mk, false_and, and_false, if_false, if_true, and_self, Int.reduceEq, Nat.reduceEqDiff, ite_self, MLay_pI, MLay_pL, MLay_qI, MLay_qL, ev_X11_reading_0, ev_X11_reading_1, ev_X11_reading_2, ev_X11_reading_5, ev_X11_reading_7, ev_X11_reading_9, ev_X11_reading_12, ev_X11_reading_13, ev_X11_reading_14, ev_X11_reading_17, ev_X11_reading_18, ev_X11_reading_19, ev_X11_reading_22, ev_X11_reading_25, ev_X11_reading_26, ev_X11_reading_27, ev_X11_reading_30, ev_X11_reading_31, ev_X11_reading_32, ev_X11_reading_33, ev_X11_reading_36, ev_X11_reading_39, ev_X11_reading_41, xt_X11_reading, xf_X11_reading, us_X11_loopOf, us_X10_takeFrom, hk, hC, hC.eqs, hl2, e, hn0, hn]
            try simp (disch := omega) only [wI_id, dv_nn, rm_nn]
            repeat' (first | intro z | apply And.intro)
            all_goals try omega
            all_goals try contradiction
            all_goals first | exact h | omega
  · have e : (if 0 ≤ l ∧ l < 4 then 45 + 4 * l else 0) = 0 := if_neg c0
    have h := h0 (fun z => c0 ⟨z.1.1, by omega⟩)
    clear h0 h1 hLR hI hB
    refine go_X11_reading (ct := fun p => p == 12 || p == 42) 40 ?_
    simp only [oI, oL, oR, o1, lI, lL, lR, popN, catS, gv, stL, stL2, swt, cnd, spObj, List.getElem?_cons_zero, List.getElem?_cons_succ, List.getD_cons_zero, List.getD_cons_succ, List.set_cons_zero, List.set_cons_succ, List.nil_append, List.cons_append, Option.toList, Bool.or_false, Bool.false_or, Bool.or_true, Bool.true_or, Nat.reduceBEq, Nat.reduceAdd, Nat.reduceLT, Nat.reduceLeDiff, Int.reduceAdd, Int.reduceToNat, true_and, and_true, Fin.isValue, Fin.val_zero, Fin.val_one, Fin.val_two, Fin.reduceFinMk, eq_self, Int.reduceNeg, imp_self, Nat.reduceMul, Nat.le_refl, not_true_eq_false, not_false_eq_true, List.getElem?_nil, reduceCtorEq, true_or, or_true, Classical.not_not, implies_true, or_self, wI_0, wI_1, wI_m1, b2i_w, b2i_eq0, b2i_eq1, b2i_bool, nor_self, nx_pI, kd_pI, ln_pI, fI_pI, fL_pI, fR_pI, aI_pI, aL_pI, aR_pI, nx_pL, kd_pL, ln_pL, fI_pL, fL_pL, fR_pL, aI_pL, aL_pL, aR_pL, nx_pR, kd_pR, ln_pR, fI_pR, fL_pR, fR_pR, aI_pR, aL_pR, aR_pR, nx_qI, kd_qI, ln_qI, fI_qI, fL_qI, fR_qI, aI_qI, aL_qI, aR_qI, nx_qL, kd_qL, ln_qL, fI_qL, fL_qL, fR_qL, aI_qL, aL_qL, aR_qL, nx_qR, kd_qR, ln_qR, fI_qR, fL_qR, fR_qR, aI_qR, aL_qR, aR_qR, nx_mk, kd_mk, ln_mk, fI_mk, fL_mk, fR_mk, aI_mk, aL_mk, aR_mk, false_and, and_false, if_false, if_true, and_self, Int.reduceEq, Nat.reduceEqDiff, ite_self, MLay_pI, MLay_pL, MLay_qI, MLay_qL, ev_X11_reading_0, ev_X11_reading_1, ev_X11_reading_2, ev_X11_reading_5, ev_X11_reading_7, ev_X11_reading_9, ev_X11_reading_12, ev_X11_reading_13, ev_X11_reading_14, ev_X11_reading_17, ev_X11_reading_18, ev_X11_reading_19, ev_X11_reading_22, ev_X11_reading_25, ev_X11_reading_26, ev_X11_reading_27, ev_X11_reading_30, ev_X11_reading_31, ev_X11_reading_32, ev_X11_reading_33, ev_X11_reading_36, ev_X11_reading_39, ev_X11_reading_41, xt_X11_reading, xf_X11_reading, us_X11_loopOf, us_X10_takeFrom, hk, hC, hC.eqs, hl, e]
    try simp (disch := omega) only [wI_id, dv_nn, rm_nn]
    repeat' (first | intro z | apply And.intro)
    all_goals try omega
    all_goals try contradiction
    all_goals exact h

theorem going_is {σ τ : Hp} {b p : Int} (hM : MT τ) (h : BxE σ τ b p) : cGo σ p (fI τ 1301 61) ↔ mGoing τ b := by
  have hI := hM.1
  have hb := hM.2.2 b
  have h1 := hI.began_ b
  have h9 := hI.now_s
  have h2 := hI.lastOf_ b
  obtain ⟨-, -, -, -, -, -, -, -, -, -, h3, -, h4, -⟩ := h
  unfold cGo mGoing mGo
  rw [h3, h4]
  omega

def sp_X11_look : Sp := fun av σ Q => oR av fun this av => oI av fun b av => oI av fun w av => av = [] ∧ kd σ this = 12 ∧ (this = 1 ∧ CLay σ ∧ inR b ∧ (0 ≤ w ∧ w ≤ 8) ∧ ∃ τ, fI σ 1210 1 = fI τ 1301 61 ∧ BX σ τ ∧ (∀ l, 0 ≤ l → l < 4 → LR l σ τ) ∧ MT τ ∧ RB τ ∧ (0 ≤ b ∧ b < fI τ 1302 61) ∧ Q (some (vi (mLk τ b w))) σ)
theorem us_X11_look (this : Int) (b : Int) (w : Int) (σ : Hp) (Q : Option AV → Hp → Prop) : sp_X11_look [vr this, vi b, vi w] σ Q = (kd σ this = 12 ∧ (this = 1 ∧ CLay σ ∧ inR b ∧ (0 ≤ w ∧ w ≤ 8) ∧ ∃ τ, fI σ 1210 1 = fI τ 1301 61 ∧ BX σ τ ∧ (∀ l, 0 ≤ l → l < 4 → LR l σ τ) ∧ MT τ ∧ RB τ ∧ (0 ≤ b ∧ b < fI τ 1302 61) ∧ Q (some (vi (mLk τ b w))) σ)) := propext ⟨fun h => h.2, fun h => ⟨rfl, h⟩⟩
theorem el_X11_look {av : List AV} {σ : Hp} {Q : Option AV → Hp → Prop} (h : sp_X11_look av σ Q) : ∃ (this : Int) (b : Int) (w : Int), av = [vr this, vi b, vi w] ∧ (kd σ this = 12 ∧ (this = 1 ∧ CLay σ ∧ inR b ∧ (0 ≤ w ∧ w ≤ 8) ∧ ∃ τ, fI σ 1210 1 = fI τ 1301 61 ∧ BX σ τ ∧ (∀ l, 0 ≤ l → l < 4 → LR l σ τ) ∧ MT τ ∧ RB τ ∧ (0 ≤ b ∧ b < fI τ 1302 61) ∧ Q (some (vi (mLk τ b w))) σ)) := by
  obtain ⟨this, a0, rfl, h0⟩ := oR_s h
  obtain ⟨b, a1, rfl, h1⟩ := oI_s h0
  obtain ⟨w, a2, rfl, h2⟩ := oI_s h1
  obtain ⟨rfl, hz⟩ := h2
  exact ⟨this, b, w, rfl, hz⟩
theorem rc_X11_look : ∀ (av : List AV) (σ : Hp) (Q : Option AV → Hp → Prop), sp_X11_look av σ Q → ∃ r tl, av = vr r :: tl ∧ kd σ r = 11 + 1 := fun av σ Q h => by
  obtain ⟨this, b, w, rfl, hz, -⟩ := el_X11_look h
  exact ⟨this, _, rfl, hz⟩

def tb_X11_look : Tab := [(0, .aload_n 0, 1, (0, 0, 0, 0)), (1, .iload_n 1, 1, (0, 0, 0, 0)), (2, .invokevirtual 122, 3, (0, 0, 0, 0)), (5, .astore_n 3, 1, (0, 0, 0, 0)), (6, .aload_n 3, 1, (0, 0, 0, 0)), (7, .ifnonnull 11, 3, (0, 0, 0, 0)), (18, .iload_n 2, 1, (0, 0, 0, 0)), (19, .tableswitch 107 0 8 #[49, 54, 59, 64, 69, 78, 92, 97, 102], 49, (0, 0, 0, 0)), (68, .aload_n 3, 1, (0, 0, 0, 0)), (69, .getfield 291, 3, (3, 303, 0, 0)), (72, .ireturn, 1, (0, 0, 0, 0)), (73, .aload_n 3, 1, (0, 0, 0, 0)), (74, .getfield 294, 3, (3, 300, 0, 0)), (77, .ireturn, 1, (0, 0, 0, 0)), (78, .aload_n 3, 1, (0, 0, 0, 0)), (79, .getfield 133, 3, (3, 301, 0, 0)), (82, .ireturn, 1, (0, 0, 0, 0)), (83, .aload_n 3, 1, (0, 0, 0, 0)), (84, .getfield 285, 3, (3, 307, 0, 0)), (87, .ireturn, 1, (0, 0, 0, 0)), (88, .aload_n 3, 1, (0, 0, 0, 0)), (89, .aload_n 0, 1, (0, 0, 0, 0)), (90, .getfield 69, 3, (12, 1210, 0, 0)), (93, .invokevirtual 297, 3, (0, 0, 0, 0)), (96, .ireturn, 1, (0, 0, 0, 0)), (97, .aload_n 0, 1, (0, 0, 0, 0)), (98, .aload_n 3, 1, (0, 0, 0, 0)), (99, .invokevirtual 300, 3, (0, 0, 0, 0)), (102, .ifCond .eq 7, 3, (0, 0, 0, 0)), (105, .iconst 1, 1, (0, 0, 0, 0)), (106, .goto 4, 3, (0, 0, 0, 0)), (109, .iconst 0, 1, (0, 0, 0, 0)), (110, .ireturn, 1, (0, 0, 0, 0)), (111, .aload_n 3, 1, (0, 0, 0, 0)), (112, .getfield 136, 3, (3, 313, 0, 0)), (115, .ireturn, 1, (0, 0, 0, 0)), (116, .aload_n 3, 1, (0, 0, 0, 0)), (117, .getfield 304, 3, (3, 304, 0, 0)), (120, .ireturn, 1, (0, 0, 0, 0)), (121, .aload_n 3, 1, (0, 0, 0, 0)), (122, .getfield 307, 3, (3, 308, 0, 0)), (125, .ireturn, 1, (0, 0, 0, 0))]
set_option maxRecDepth 100000 in
theorem tk_X11_look : TOK RX11 false cX11_look tb_X11_look := chkT_ok ft_X11 (by decide +kernel)
theorem rw_X11_2400 : Row RX11 (.invokevirtual 300) 3 2 0 0 2 sp_X11_isDumb := row_V (n := 1) (ci := 11) c_X11_isDumb ⟨TBL_in 1488 (by decide +kernel) rfl, TBL_in 1491 (by decide +kernel) rfl, TBL_in 111 (by decide +kernel) rfl, by decide +kernel, by decide⟩ (by decide) rfl (TBL_in 1490 (by decide +kernel) rfl) (TBL_in 63 (by decide +kernel) rfl) rc_X11_isDumb
def mt_X11_look : List (Nat × Mt) := [(976, 2, 0, 0, 4, sp_X11_boxOf), (2376, 2, 0, 0, 2, sp_X2_stateAt), (2400, 2, 0, 0, 2, sp_X11_isDumb)]
theorem em_X11_look : mt_X11_look.lookup 976 = some (2, 0, 0, 4, sp_X11_boxOf) ∧ mt_X11_look.lookup 2376 = some (2, 0, 0, 2, sp_X2_stateAt) ∧ mt_X11_look.lookup 2400 = some (2, 0, 0, 2, sp_X11_isDumb) := ⟨rfl, rfl, rfl⟩
theorem mk_X11_look : MOK RX11 mt_X11_look := by
  intro q hq
  simp only [mt_X11_look, List.mem_cons, List.not_mem_nil, or_false] at hq
  rcases hq with rfl | rfl | rfl
  · exact rw_X11_976
  · exact rw_X11_2376
  · exact rw_X11_2400
noncomputable def xe_X11_look (ct : Nat → Bool) (K : Kt) (R : Option AV → Hp → Prop) (n : Nat) : Kt := exS 4 5 0 0 1 tb_X11_look mt_X11_look ct K R n
noncomputable def xk_X11_look (ct : Nat → Bool) (K : Kt) (R : Option AV → Hp → Prop) (n : Nat) : Kt := exkS 4 5 0 0 1 tb_X11_look mt_X11_look ct K R n
theorem xt_X11_look {ct : Nat → Bool} {K : Kt} {R : Option AV → Hp → Prop} {n pc : Nat} {ls : List (Option AV)} {st : List AV} {σ : Hp} {k : Nat × Nat} (h : ct pc = true) : xk_X11_look ct K R n pc ls st σ k = K pc ls st σ k := by unfold xk_X11_look exkS; rw [h]
theorem xf_X11_look {ct : Nat → Bool} {K : Kt} {R : Option AV → Hp → Prop} {n pc : Nat} {ls : List (Option AV)} {st : List AV} {σ : Hp} {k : Nat × Nat} (h : ct pc = false) : xk_X11_look ct K R n pc ls st σ k = xe_X11_look ct K R n pc ls st σ k := by unfold xk_X11_look exkS xe_X11_look; rw [h]
theorem ev_X11_look_0 {ct : Nat → Bool} {K : Kt} {R : Option AV → Hp → Prop} {n : Nat} {ls : List (Option AV)} {st : List AV} {σ : Hp} {k : Nat × Nat} : xe_X11_look ct K R (n + 1) 0 ls st σ k = (lR ls 0 fun x => xk_X11_look ct K R n 1 ls (vr x :: st) σ k) := exS_step.trans rfl
theorem ev_X11_look_1 {ct : Nat → Bool} {K : Kt} {R : Option AV → Hp → Prop} {n : Nat} {ls : List (Option AV)} {st : List AV} {σ : Hp} {k : Nat × Nat} : xe_X11_look ct K R (n + 1) 1 ls st σ k = (lI ls 1 fun x => xk_X11_look ct K R n 2 ls (vi x :: st) σ k) := exS_step.trans rfl
theorem ev_X11_look_2 {ct : Nat → Bool} {K : Kt} {R : Option AV → Hp → Prop} {n : Nat} {ls : List (Option AV)} {st : List AV} {σ : Hp} {k : Nat × Nat} : xe_X11_look ct K R (n + 1) 2 ls st σ k = (popN 2 st [] fun av rest => (catS rest ≤ 8 ∧ 4 < 5 ∧ k.1 + 0 ≤ 0 ∧ k.2 + 0 ≤ 0) ∧ (sp_X11_boxOf) av σ fun v σ' => xk_X11_look ct K R n 5 ls (v.toList ++ rest) σ' (k.1 + 0, k.2 + 0)) := exS_step.trans rfl
theorem ev_X11_look_5 {ct : Nat → Bool} {K : Kt} {R : Option AV → Hp → Prop} {n : Nat} {ls : List (Option AV)} {st : List AV} {σ : Hp} {k : Nat × Nat} : xe_X11_look ct K R (n + 1) 5 ls st σ k = (oR st fun x st => 3 < 4 ∧ xk_X11_look ct K R n 6 (stL ls 3 (vr x)) st σ k) := exS_step.trans rfl
theorem ev_X11_look_6 {ct : Nat → Bool} {K : Kt} {R : Option AV → Hp → Prop} {n : Nat} {ls : List (Option AV)} {st : List AV} {σ : Hp} {k : Nat × Nat} : xe_X11_look ct K R (n + 1) 6 ls st σ k = (lR ls 3 fun x => xk_X11_look ct K R n 7 ls (vr x :: st) σ k) := exS_step.trans rfl
theorem ev_X11_look_7 {ct : Nat → Bool} {K : Kt} {R : Option AV → Hp → Prop} {n : Nat} {ls : List (Option AV)} {st : List AV} {σ : Hp} {k : Nat × Nat} : xe_X11_look ct K R (n + 1) 7 ls st σ k = (oR st fun x st => (¬ x = 0 → xk_X11_look ct K R n 18 ls st σ k) ∧ (x = 0 → xk_X11_look ct K R n 10 ls st σ k)) := exS_step.trans rfl
theorem ev_X11_look_18 {ct : Nat → Bool} {K : Kt} {R : Option AV → Hp → Prop} {n : Nat} {ls : List (Option AV)} {st : List AV} {σ : Hp} {k : Nat × Nat} : xe_X11_look ct K R (n + 1) 18 ls st σ k = (lI ls 2 fun x => xk_X11_look ct K R n 19 ls (vi x :: st) σ k) := exS_step.trans rfl
theorem ev_X11_look_19 {ct : Nat → Bool} {K : Kt} {R : Option AV → Hp → Prop} {n : Nat} {ls : List (Option AV)} {st : List AV} {σ : Hp} {k : Nat × Nat} : xe_X11_look ct K R (n + 1) 19 ls st σ k = (oI st fun x st => (wI x < 0 ∨ 8 < wI x → xk_X11_look ct K R n 126 ls st σ k) ∧ (wI x = 0 → xk_X11_look ct K R n 68 ls st σ k) ∧ (wI x = 1 → xk_X11_look ct K R n 73 ls st σ k) ∧ (wI x = 2 → xk_X11_look ct K R n 78 ls st σ k) ∧ (wI x = 3 → xk_X11_look ct K R n 83 ls st σ k) ∧ (wI x = 4 → xk_X11_look ct K R n 88 ls st σ k) ∧ (wI x = 5 → xk_X11_look ct K R n 97 ls st σ k) ∧ (wI x = 6 → xk_X11_look ct K R n 111 ls st σ k) ∧ (wI x = 7 → xk_X11_look ct K R n 116 ls st σ k) ∧ (wI x = 8 → xk_X11_look ct K R n 121 ls st σ k) ∧ True) := exS_step.trans rfl
theorem ev_X11_look_68 {ct : Nat → Bool} {K : Kt} {R : Option AV → Hp → Prop} {n : Nat} {ls : List (Option AV)} {st : List AV} {σ : Hp} {k : Nat × Nat} : xe_X11_look ct K R (n + 1) 68 ls st σ k = (lR ls 3 fun x => xk_X11_look ct K R n 69 ls (vr x :: st) σ k) := exS_step.trans rfl
theorem ev_X11_look_69 {ct : Nat → Bool} {K : Kt} {R : Option AV → Hp → Prop} {n : Nat} {ls : List (Option AV)} {st : List AV} {σ : Hp} {k : Nat × Nat} : xe_X11_look ct K R (n + 1) 69 ls st σ k = (oR st fun x st => kd σ x = 3 ∧ xk_X11_look ct K R n 72 ls (vi (fI σ 303 x) :: st) σ k) := exS_step.trans rfl
theorem ev_X11_look_72 {ct : Nat → Bool} {K : Kt} {R : Option AV → Hp → Prop} {n : Nat} {ls : List (Option AV)} {st : List AV} {σ : Hp} {k : Nat × Nat} : xe_X11_look ct K R (n + 1) 72 ls st σ k = (oI st fun x st => st = [] ∧ True ∧ R (some (vi x)) σ) := exS_step.trans rfl
theorem ev_X11_look_73 {ct : Nat → Bool} {K : Kt} {R : Option AV → Hp → Prop} {n : Nat} {ls : List (Option AV)} {st : List AV} {σ : Hp} {k : Nat × Nat} : xe_X11_look ct K R (n + 1) 73 ls st σ k = (lR ls 3 fun x => xk_X11_look ct K R n 74 ls (vr x :: st) σ k) := exS_step.trans rfl
theorem ev_X11_look_74 {ct : Nat → Bool} {K : Kt} {R : Option AV → Hp → Prop} {n : Nat} {ls : List (Option AV)} {st : List AV} {σ : Hp} {k : Nat × Nat} : xe_X11_look ct K R (n + 1) 74 ls st σ k = (oR st fun x st => kd σ x = 3 ∧ xk_X11_look ct K R n 77 ls (vi (fI σ 300 x) :: st) σ k) := exS_step.trans rfl
theorem ev_X11_look_77 {ct : Nat → Bool} {K : Kt} {R : Option AV → Hp → Prop} {n : Nat} {ls : List (Option AV)} {st : List AV} {σ : Hp} {k : Nat × Nat} : xe_X11_look ct K R (n + 1) 77 ls st σ k = (oI st fun x st => st = [] ∧ True ∧ R (some (vi x)) σ) := exS_step.trans rfl
theorem ev_X11_look_78 {ct : Nat → Bool} {K : Kt} {R : Option AV → Hp → Prop} {n : Nat} {ls : List (Option AV)} {st : List AV} {σ : Hp} {k : Nat × Nat} : xe_X11_look ct K R (n + 1) 78 ls st σ k = (lR ls 3 fun x => xk_X11_look ct K R n 79 ls (vr x :: st) σ k) := exS_step.trans rfl
theorem ev_X11_look_79 {ct : Nat → Bool} {K : Kt} {R : Option AV → Hp → Prop} {n : Nat} {ls : List (Option AV)} {st : List AV} {σ : Hp} {k : Nat × Nat} : xe_X11_look ct K R (n + 1) 79 ls st σ k = (oR st fun x st => kd σ x = 3 ∧ xk_X11_look ct K R n 82 ls (vi (fI σ 301 x) :: st) σ k) := exS_step.trans rfl
theorem ev_X11_look_82 {ct : Nat → Bool} {K : Kt} {R : Option AV → Hp → Prop} {n : Nat} {ls : List (Option AV)} {st : List AV} {σ : Hp} {k : Nat × Nat} : xe_X11_look ct K R (n + 1) 82 ls st σ k = (oI st fun x st => st = [] ∧ True ∧ R (some (vi x)) σ) := exS_step.trans rfl
theorem ev_X11_look_83 {ct : Nat → Bool} {K : Kt} {R : Option AV → Hp → Prop} {n : Nat} {ls : List (Option AV)} {st : List AV} {σ : Hp} {k : Nat × Nat} : xe_X11_look ct K R (n + 1) 83 ls st σ k = (lR ls 3 fun x => xk_X11_look ct K R n 84 ls (vr x :: st) σ k) := exS_step.trans rfl
theorem ev_X11_look_84 {ct : Nat → Bool} {K : Kt} {R : Option AV → Hp → Prop} {n : Nat} {ls : List (Option AV)} {st : List AV} {σ : Hp} {k : Nat × Nat} : xe_X11_look ct K R (n + 1) 84 ls st σ k = (oR st fun x st => kd σ x = 3 ∧ xk_X11_look ct K R n 87 ls (vi (fI σ 307 x) :: st) σ k) := exS_step.trans rfl
theorem ev_X11_look_87 {ct : Nat → Bool} {K : Kt} {R : Option AV → Hp → Prop} {n : Nat} {ls : List (Option AV)} {st : List AV} {σ : Hp} {k : Nat × Nat} : xe_X11_look ct K R (n + 1) 87 ls st σ k = (oI st fun x st => st = [] ∧ True ∧ R (some (vi x)) σ) := exS_step.trans rfl
theorem ev_X11_look_88 {ct : Nat → Bool} {K : Kt} {R : Option AV → Hp → Prop} {n : Nat} {ls : List (Option AV)} {st : List AV} {σ : Hp} {k : Nat × Nat} : xe_X11_look ct K R (n + 1) 88 ls st σ k = (lR ls 3 fun x => xk_X11_look ct K R n 89 ls (vr x :: st) σ k) := exS_step.trans rfl
theorem ev_X11_look_89 {ct : Nat → Bool} {K : Kt} {R : Option AV → Hp → Prop} {n : Nat} {ls : List (Option AV)} {st : List AV} {σ : Hp} {k : Nat × Nat} : xe_X11_look ct K R (n + 1) 89 ls st σ k = (lR ls 0 fun x => xk_X11_look ct K R n 90 ls (vr x :: st) σ k) := exS_step.trans rfl
theorem ev_X11_look_90 {ct : Nat → Bool} {K : Kt} {R : Option AV → Hp → Prop} {n : Nat} {ls : List (Option AV)} {st : List AV} {σ : Hp} {k : Nat × Nat} : xe_X11_look ct K R (n + 1) 90 ls st σ k = (oR st fun x st => kd σ x = 12 ∧ xk_X11_look ct K R n 93 ls (vi (fI σ 1210 x) :: st) σ k) := exS_step.trans rfl
theorem ev_X11_look_93 {ct : Nat → Bool} {K : Kt} {R : Option AV → Hp → Prop} {n : Nat} {ls : List (Option AV)} {st : List AV} {σ : Hp} {k : Nat × Nat} : xe_X11_look ct K R (n + 1) 93 ls st σ k = (popN 2 st [] fun av rest => (catS rest ≤ 8 ∧ 2 < 5 ∧ k.1 + 0 ≤ 0 ∧ k.2 + 0 ≤ 0) ∧ (sp_X2_stateAt) av σ fun v σ' => xk_X11_look ct K R n 96 ls (v.toList ++ rest) σ' (k.1 + 0, k.2 + 0)) := exS_step.trans rfl
theorem ev_X11_look_96 {ct : Nat → Bool} {K : Kt} {R : Option AV → Hp → Prop} {n : Nat} {ls : List (Option AV)} {st : List AV} {σ : Hp} {k : Nat × Nat} : xe_X11_look ct K R (n + 1) 96 ls st σ k = (oI st fun x st => st = [] ∧ True ∧ R (some (vi x)) σ) := exS_step.trans rfl
theorem ev_X11_look_97 {ct : Nat → Bool} {K : Kt} {R : Option AV → Hp → Prop} {n : Nat} {ls : List (Option AV)} {st : List AV} {σ : Hp} {k : Nat × Nat} : xe_X11_look ct K R (n + 1) 97 ls st σ k = (lR ls 0 fun x => xk_X11_look ct K R n 98 ls (vr x :: st) σ k) := exS_step.trans rfl
theorem ev_X11_look_98 {ct : Nat → Bool} {K : Kt} {R : Option AV → Hp → Prop} {n : Nat} {ls : List (Option AV)} {st : List AV} {σ : Hp} {k : Nat × Nat} : xe_X11_look ct K R (n + 1) 98 ls st σ k = (lR ls 3 fun x => xk_X11_look ct K R n 99 ls (vr x :: st) σ k) := exS_step.trans rfl
theorem ev_X11_look_99 {ct : Nat → Bool} {K : Kt} {R : Option AV → Hp → Prop} {n : Nat} {ls : List (Option AV)} {st : List AV} {σ : Hp} {k : Nat × Nat} : xe_X11_look ct K R (n + 1) 99 ls st σ k = (popN 2 st [] fun av rest => (catS rest ≤ 8 ∧ 2 < 5 ∧ k.1 + 0 ≤ 0 ∧ k.2 + 0 ≤ 0) ∧ (sp_X11_isDumb) av σ fun v σ' => xk_X11_look ct K R n 102 ls (v.toList ++ rest) σ' (k.1 + 0, k.2 + 0)) := exS_step.trans rfl
theorem ev_X11_look_102 {ct : Nat → Bool} {K : Kt} {R : Option AV → Hp → Prop} {n : Nat} {ls : List (Option AV)} {st : List AV} {σ : Hp} {k : Nat × Nat} : xe_X11_look ct K R (n + 1) 102 ls st σ k = (oI st fun x st => (wI x = wI 0 → xk_X11_look ct K R n 109 ls st σ k) ∧ (¬ (wI x = wI 0) → xk_X11_look ct K R n 105 ls st σ k)) := exS_step.trans rfl
theorem ev_X11_look_105 {ct : Nat → Bool} {K : Kt} {R : Option AV → Hp → Prop} {n : Nat} {ls : List (Option AV)} {st : List AV} {σ : Hp} {k : Nat × Nat} : xe_X11_look ct K R (n + 1) 105 ls st σ k = (xk_X11_look ct K R n 106 ls (vi (1) :: st) σ k) := exS_step.trans rfl
theorem ev_X11_look_106 {ct : Nat → Bool} {K : Kt} {R : Option AV → Hp → Prop} {n : Nat} {ls : List (Option AV)} {st : List AV} {σ : Hp} {k : Nat × Nat} : xe_X11_look ct K R (n + 1) 106 ls st σ k = (xk_X11_look ct K R n 110 ls st σ k) := exS_step.trans rfl
theorem ev_X11_look_109 {ct : Nat → Bool} {K : Kt} {R : Option AV → Hp → Prop} {n : Nat} {ls : List (Option AV)} {st : List AV} {σ : Hp} {k : Nat × Nat} : xe_X11_look ct K R (n + 1) 109 ls st σ k = (xk_X11_look ct K R n 110 ls (vi (0) :: st) σ k) := exS_step.trans rfl
theorem ev_X11_look_110 {ct : Nat → Bool} {K : Kt} {R : Option AV → Hp → Prop} {n : Nat} {ls : List (Option AV)} {st : List AV} {σ : Hp} {k : Nat × Nat} : xe_X11_look ct K R (n + 1) 110 ls st σ k = (oI st fun x st => st = [] ∧ True ∧ R (some (vi x)) σ) := exS_step.trans rfl
theorem ev_X11_look_111 {ct : Nat → Bool} {K : Kt} {R : Option AV → Hp → Prop} {n : Nat} {ls : List (Option AV)} {st : List AV} {σ : Hp} {k : Nat × Nat} : xe_X11_look ct K R (n + 1) 111 ls st σ k = (lR ls 3 fun x => xk_X11_look ct K R n 112 ls (vr x :: st) σ k) := exS_step.trans rfl
theorem ev_X11_look_112 {ct : Nat → Bool} {K : Kt} {R : Option AV → Hp → Prop} {n : Nat} {ls : List (Option AV)} {st : List AV} {σ : Hp} {k : Nat × Nat} : xe_X11_look ct K R (n + 1) 112 ls st σ k = (oR st fun x st => kd σ x = 3 ∧ xk_X11_look ct K R n 115 ls (vi (fI σ 313 x) :: st) σ k) := exS_step.trans rfl
theorem ev_X11_look_115 {ct : Nat → Bool} {K : Kt} {R : Option AV → Hp → Prop} {n : Nat} {ls : List (Option AV)} {st : List AV} {σ : Hp} {k : Nat × Nat} : xe_X11_look ct K R (n + 1) 115 ls st σ k = (oI st fun x st => st = [] ∧ True ∧ R (some (vi x)) σ) := exS_step.trans rfl
theorem ev_X11_look_116 {ct : Nat → Bool} {K : Kt} {R : Option AV → Hp → Prop} {n : Nat} {ls : List (Option AV)} {st : List AV} {σ : Hp} {k : Nat × Nat} : xe_X11_look ct K R (n + 1) 116 ls st σ k = (lR ls 3 fun x => xk_X11_look ct K R n 117 ls (vr x :: st) σ k) := exS_step.trans rfl
theorem ev_X11_look_117 {ct : Nat → Bool} {K : Kt} {R : Option AV → Hp → Prop} {n : Nat} {ls : List (Option AV)} {st : List AV} {σ : Hp} {k : Nat × Nat} : xe_X11_look ct K R (n + 1) 117 ls st σ k = (oR st fun x st => kd σ x = 3 ∧ xk_X11_look ct K R n 120 ls (vi (fI σ 304 x) :: st) σ k) := exS_step.trans rfl
theorem ev_X11_look_120 {ct : Nat → Bool} {K : Kt} {R : Option AV → Hp → Prop} {n : Nat} {ls : List (Option AV)} {st : List AV} {σ : Hp} {k : Nat × Nat} : xe_X11_look ct K R (n + 1) 120 ls st σ k = (oI st fun x st => st = [] ∧ True ∧ R (some (vi x)) σ) := exS_step.trans rfl
theorem ev_X11_look_121 {ct : Nat → Bool} {K : Kt} {R : Option AV → Hp → Prop} {n : Nat} {ls : List (Option AV)} {st : List AV} {σ : Hp} {k : Nat × Nat} : xe_X11_look ct K R (n + 1) 121 ls st σ k = (lR ls 3 fun x => xk_X11_look ct K R n 122 ls (vr x :: st) σ k) := exS_step.trans rfl
theorem ev_X11_look_122 {ct : Nat → Bool} {K : Kt} {R : Option AV → Hp → Prop} {n : Nat} {ls : List (Option AV)} {st : List AV} {σ : Hp} {k : Nat × Nat} : xe_X11_look ct K R (n + 1) 122 ls st σ k = (oR st fun x st => kd σ x = 3 ∧ xk_X11_look ct K R n 125 ls (vi (fI σ 308 x) :: st) σ k) := exS_step.trans rfl
theorem ev_X11_look_125 {ct : Nat → Bool} {K : Kt} {R : Option AV → Hp → Prop} {n : Nat} {ls : List (Option AV)} {st : List AV} {σ : Hp} {k : Nat × Nat} : xe_X11_look ct K R (n + 1) 125 ls st σ k = (oI st fun x st => st = [] ∧ True ∧ R (some (vi x)) σ) := exS_step.trans rfl
def M_X11_look : Md := (yX11_look, cX11_look, 4, (some FieldType.int), 5, 0, 0, 1, false, tb_X11_look, mt_X11_look)
theorem mm_X11_look : MMOK M_X11_look := ⟨by decide +kernel, tk_X11_look, mk_X11_look, rfl, fun h => by cases h⟩
theorem go_X11_look {Q : Option AV → Hp → Prop} {ct : Nat → Bool} {pc : Nat} {ls : List (Option AV)} {st : List AV} {σ : Hp} {k : Nat × Nat} (n : Nat) (h : xe_X11_look ct (Go M_X11_look Q) Q n pc ls st σ k) : Go M_X11_look Q pc ls st σ k := Go.exS mm_X11_look h

set_option maxRecDepth 20000 in
theorem c_X11_look : Ct yX11_look cX11_look 4 ((some FieldType.int)) 5 0 0 sp_X11_look := by
  refine Ct.go (M := M_X11_look) mm_X11_look fun av σ Q h0 => ?_
  obtain ⟨this, b, w, rfl, hk, h⟩ := el_X11_look h0
  clear h0
  refine ⟨Nat.le_of_ble_eq_true rfl, ?_⟩
  show Go M_X11_look Q 0 [some (vr this), some (vi b), some (vi w), none] [] σ (0, 0)
  obtain ⟨rfl, hC, hb, hw, τ, hn, hX, hLR, hM, hB, hbb, h⟩ := h
  have hI := hM.1
  have hL := hX.1
  have hbn := hX.2.1
  have hE := hX.2.2 b hbb.1 hbb.2
  have hkb := hX.k hbb.1 hbb.2
  have e : (if 0 ≤ b ∧ b < fI τ 1302 61 then lat σ 3 b else 0) = lat σ 3 b := if_pos hbb
  have hgo := going_is hM hE
  obtain ⟨p0, e1, e2, e3, e4, e5, e6, e7, e8, e9, e10, e11, e12, -⟩ := id hE
  have hp0 : ¬ lat σ 3 b = 0 := by omega
  have hns := hI.now_s
  have bw := hI.began_ b
  have blo := hI.lastOf_ b
  have bwt := hI.waits_ b
  have bkn := hI.knocks_ b
  have w18 : Go M_X11_look Q 18 [some (vr 1), some (vi b), some (vi w), some (vr (lat σ 3 b))] [] σ (0, 0) := by
    have q : w = 0 ∨ w = 1 ∨ w = 2 ∨ w = 3 ∨ w = 4 ∨ w = 5 ∨ w = 6 ∨ w = 7 ∨ w = 8 := by omega
    unfold mLk at h
    rcases q with rfl | rfl | rfl | rfl | rfl | rfl | rfl | rfl | rfl
    · have ew : wI 0 = 0 := by decide
      simp only [Int.reduceEq, if_true, if_false] at h
      clear hX hLR hM hB hI hE hgo
      refine go_X11_look (ct := fun p => p == 73 || p == 78 || p == 83 || p == 88 || p == 97 || p == 111 || p == 116 || p == 121) 20 ?_
      simp only [oI, oL, oR, o1, lI, lL, lR, popN, catS, gv, stL, stL2, swt, cnd, spObj, List.getElem?_cons_zero, List.getElem?_cons_succ, List.getD_cons_zero, List.getD_cons_succ, List.set_cons_zero, List.set_cons_succ, List.nil_append, List.cons_append, Option.toList, Bool.or_false, Bool.false_or, Bool.or_true, Bool.true_or, Nat.reduceBEq, Nat.reduceAdd, Nat.reduceLT, Nat.reduceLeDiff, Int.reduceAdd, Int.reduceToNat, true_and, and_true, Fin.isValue, Fin.val_zero, Fin.val_one, Fin.val_two, Fin.reduceFinMk, eq_self, Int.reduceNeg, imp_self, Nat.reduceMul, Nat.le_refl, not_true_eq_false, not_false_eq_true, List.getElem?_nil, reduceCtorEq, true_or, or_true, Classical.not_not, implies_true, or_self, wI_0, wI_1, wI_m1, b2i_w, b2i_eq0, b2i_eq1, b2i_bool, nor_self, nx_pI, kd_pI, ln_pI, fI_pI, fL_pI, fR_pI, aI_pI, aL_pI, aR_pI, nx_pL, kd_pL, ln_pL, fI_pL, fL_pL, fR_pL, aI_pL, aL_pL, aR_pL, nx_pR, kd_pR, ln_pR, fI_pR, fL_pR, fR_pR, aI_pR, aL_pR, aR_pR, nx_qI, kd_qI, ln_qI, fI_qI, fL_qI, fR_qI, aI_qI, aL_qI, aR_qI, nx_qL, kd_qL, ln_qL, fI_qL, fL_qL, fR_qL, aI_qL, aL_qL, aR_qL, nx_qR, kd_qR, ln_qR, fI_qR, fL_qR, fR_qR, aI_qR, aL_qR, aR_qR, nx_mk, kd_mk, ln_mk, fI_mk, fL_mk, fR_mk, aI_mk, aL_mk, aR_mk, false_and, and_false, if_false, if_true, and_self, Int.reduceEq, Nat.reduceEqDiff, ite_self, MLay_pI, MLay_pL, MLay_qI, MLay_qL, ev_X11_look_18, ev_X11_look_19, ev_X11_look_68, ev_X11_look_69, ev_X11_look_72, xt_X11_look, xf_X11_look, us_X11_boxOf, us_X2_stateAt, us_X11_isDumb, ew, Int.reduceLT, hkb, e4]
      repeat' (first | intro z | apply And.intro)
      all_goals try omega
      all_goals try contradiction
      all_goals exact h
    · have ew : wI 1 = 1 := by decide
      simp only [Int.reduceEq, if_true, if_false] at h
      clear hX hLR hM hB hI hE hgo
      refine go_X11_look (ct := fun p => p == 68 || p == 78 || p == 83 || p == 88 || p == 97 || p == 111 || p == 116 || p == 121) 20 ?_
      simp only [oI, oL, oR, o1, lI, lL, lR, popN, catS, gv, stL, stL2, swt, cnd, spObj, List.getElem?_cons_zero, List.getElem?_cons_succ, List.getD_cons_zero, List.getD_cons_succ, List.set_cons_zero, List.set_cons_succ, List.nil_append, List.cons_append, Option.toList, Bool.or_false, Bool.false_or, Bool.or_true, Bool.true_or, Nat.reduceBEq, Nat.reduceAdd, Nat.reduceLT, Nat.reduceLeDiff, Int.reduceAdd, Int.reduceToNat, true_and, and_true, Fin.isValue, Fin.val_zero, Fin.val_one, Fin.val_two, Fin.reduceFinMk, eq_self, Int.reduceNeg, imp_self, Nat.reduceMul, Nat.le_refl, not_true_eq_false, not_false_eq_true, List.getElem?_nil, reduceCtorEq, true_or, or_true, Classical.not_not, implies_true, or_self, wI_0, wI_1, wI_m1, b2i_w, b2i_eq0, b2i_eq1, b2i_bool, nor_self, nx_pI, kd_pI, ln_pI, fI_pI, fL_pI, fR_pI, aI_pI, aL_pI, aR_pI, nx_pL, kd_pL, ln_pL, fI_pL, fL_pL, fR_pL, aI_pL, aL_pL, aR_pL, nx_pR, kd_pR, ln_pR, fI_pR, fL_pR, fR_pR, aI_pR, aL_pR, aR_pR, nx_qI, kd_qI, ln_qI, fI_qI, fL_qI, fR_qI, aI_qI, aL_qI, aR_qI, nx_qL, kd_qL, ln_qL, fI_qL, fL_qL, fR_qL, aI_qL, aL_qL, aR_qL, nx_qR, kd_qR, ln_qR, fI_qR, fL_qR, fR_qR, aI_qR, aL_qR, aR_qR, nx_mk, kd_mk, ln_mk, fI_mk, fL_mk, fR_mk, aI_mk, aL_mk, aR_mk, false_and, and_false, if_false, if_true, and_self, Int.reduceEq, Nat.reduceEqDiff, ite_self, MLay_pI, MLay_pL, MLay_qI, MLay_qL, ev_X11_look_18, ev_X11_look_19, ev_X11_look_73, ev_X11_look_74, ev_X11_look_77, xt_X11_look, xf_X11_look, us_X11_boxOf, us_X2_stateAt, us_X11_isDumb, ew, Int.reduceLT, hkb, e1]
      repeat' (first | intro z | apply And.intro)
      all_goals try omega
      all_goals try contradiction
      all_goals exact h
    · have ew : wI 2 = 2 := by decide
      simp only [Int.reduceEq, if_true, if_false] at h
      clear hX hLR hM hB hI hE hgo
      refine go_X11_look (ct := fun p => p == 68 || p == 73 || p == 83 || p == 88 || p == 97 || p == 111 || p == 116 || p == 121) 20 ?_
      simp only [oI, oL, oR, o1, lI, lL, lR, popN, catS, gv, stL, stL2, swt, cnd, spObj, List.getElem?_cons_zero, List.getElem?_cons_succ, List.getD_cons_zero, List.getD_cons_succ, List.set_cons_zero, List.set_cons_succ, List.nil_append, List.cons_append, Option.toList, Bool.or_false, Bool.false_or, Bool.or_true, Bool.true_or, Nat.reduceBEq, Nat.reduceAdd, Nat.reduceLT, Nat.reduceLeDiff, Int.reduceAdd, Int.reduceToNat, true_and, and_true, Fin.isValue, Fin.val_zero, Fin.val_one, Fin.val_two, Fin.reduceFinMk, eq_self, Int.reduceNeg, imp_self, Nat.reduceMul, Nat.le_refl, not_true_eq_false, not_false_eq_true, List.getElem?_nil, reduceCtorEq, true_or, or_true, Classical.not_not, implies_true, or_self, wI_0, wI_1, wI_m1, b2i_w, b2i_eq0, b2i_eq1, b2i_bool, nor_self, nx_pI, kd_pI, ln_pI, fI_pI, fL_pI, fR_pI, aI_pI, aL_pI, aR_pI, nx_pL, kd_pL, ln_pL, fI_pL, fL_pL, fR_pL, aI_pL, aL_pL, aR_pL, nx_pR, kd_pR, ln_pR, fI_pR, fL_pR, fR_pR, aI_pR, aL_pR, aR_pR, nx_qI, kd_qI, ln_qI, fI_qI, fL_qI, fR_qI, aI_qI, aL_qI, aR_qI, nx_qL, kd_qL, ln_qL, fI_qL, fL_qL, fR_qL, aI_qL, aL_qL, aR_qL, nx_qR, kd_qR, ln_qR, fI_qR, fL_qR, fR_qR, aI_qR, aL_qR, aR_qR, nx_mk, kd_mk, ln_mk, fI_mk, fL_mk, fR_mk, aI_mk, aL_mk, aR_mk, false_and, and_false, if_false, if_true, and_self, Int.reduceEq, Nat.reduceEqDiff, ite_self, MLay_pI, MLay_pL, MLay_qI, MLay_qL, ev_X11_look_18, ev_X11_look_19, ev_X11_look_78, ev_X11_look_79, ev_X11_look_82, xt_X11_look, xf_X11_look, us_X11_boxOf, us_X2_stateAt, us_X11_isDumb, ew, Int.reduceLT, hkb, e2]
      repeat' (first | intro z | apply And.intro)
      all_goals try omega
      all_goals try contradiction
      all_goals exact h
    · have ew : wI 3 = 3 := by decide
      simp only [Int.reduceEq, if_true, if_false] at h
      clear hX hLR hM hB hI hE hgo
      refine go_X11_look (ct := fun p => p == 68 || p == 73 || p == 78 || p == 88 || p == 97 || p == 111 || p == 116 || p == 121) 20 ?_
      simp only [oI, oL, oR, o1, lI, lL, lR, popN, catS, gv, stL, stL2, swt, cnd, spObj, List.getElem?_cons_zero, List.getElem?_cons_succ, List.getD_cons_zero, List.getD_cons_succ, List.set_cons_zero, List.set_cons_succ, List.nil_append, List.cons_append, Option.toList, Bool.or_false, Bool.false_or, Bool.or_true, Bool.true_or, Nat.reduceBEq, Nat.reduceAdd, Nat.reduceLT, Nat.reduceLeDiff, Int.reduceAdd, Int.reduceToNat, true_and, and_true, Fin.isValue, Fin.val_zero, Fin.val_one, Fin.val_two, Fin.reduceFinMk, eq_self, Int.reduceNeg, imp_self, Nat.reduceMul, Nat.le_refl, not_true_eq_false, not_false_eq_true, List.getElem?_nil, reduceCtorEq, true_or, or_true, Classical.not_not, implies_true, or_self, wI_0, wI_1, wI_m1, b2i_w, b2i_eq0, b2i_eq1, b2i_bool, nor_self, nx_pI, kd_pI, ln_pI, fI_pI, fL_pI, fR_pI, aI_pI, aL_pI, aR_pI, nx_pL, kd_pL, ln_pL, fI_pL, fL_pL, fR_pL, aI_pL, aL_pL, aR_pL, nx_pR, kd_pR, ln_pR, fI_pR, fL_pR, fR_pR, aI_pR, aL_pR, aR_pR, nx_qI, kd_qI, ln_qI, fI_qI, fL_qI, fR_qI, aI_qI, aL_qI, aR_qI, nx_qL, kd_qL, ln_qL, fI_qL, fL_qL, fR_qL, aI_qL, aL_qL, aR_qL, nx_qR, kd_qR, ln_qR, fI_qR, fL_qR, fR_qR, aI_qR, aL_qR, aR_qR, nx_mk, kd_mk, ln_mk, fI_mk, fL_mk, fR_mk, aI_mk, aL_mk, aR_mk, false_and, and_false, if_false, if_true, and_self, Int.reduceEq, Nat.reduceEqDiff, ite_self, MLay_pI, MLay_pL, MLay_qI, MLay_qL, ev_X11_look_18, ev_X11_look_19, ev_X11_look_83, ev_X11_look_84, ev_X11_look_87, xt_X11_look, xf_X11_look, us_X11_boxOf, us_X2_stateAt, us_X11_isDumb, ew, Int.reduceLT, hkb, e8]
      repeat' (first | intro z | apply And.intro)
      all_goals try omega
      all_goals try contradiction
      all_goals exact h
    · have ew : wI 4 = 4 := by decide
      simp only [Int.reduceEq, if_true, if_false] at h
      have w96 : Go M_X11_look Q 96 [some (vr 1), some (vi b), some (vi 4), some (vr (lat σ 3 b))] [vi (if ¬ fI σ 312 (lat σ 3 b) = 0 then 1 else 2 * b2i (cGo σ (lat σ 3 b) (fI τ 1301 61)))] σ (0, 0) := by
        have ee : (if ¬ fI σ 312 (lat σ 3 b) = 0 then 1 else 2 * b2i (cGo σ (lat σ 3 b) (fI τ 1301 61))) = (if aI τ 70 b = 0 then (if b2i (mGoing τ b) = 0 then 0 else 2) else (1 : Int)) := by
          rw [e11, b2i_congr hgo]
          by_cases c : aI τ 70 b = 0
          · rw [if_neg (fun q => q c), if_pos c]
            by_cases c2 : mGoing τ b
            · rw [b2i_t c2]; rfl
            · rw [b2i_f c2]; rfl
          · rw [if_pos c, if_neg c]
        rw [ee]
        clear hX hLR hM hB hI hE hgo
        refine go_X11_look (ct := fun p => p == 200) 20 ?_
        simp only [oI, oL, oR, o1, lI, lL, lR, popN, catS, gv, stL, stL2, swt, cnd, spObj, List.getElem?_cons_zero, List.getElem?_cons_succ, List.getD_cons_zero, List.getD_cons_succ, List.set_cons_zero, List.set_cons_succ, List.nil_append, List.cons_append, Option.toList, Bool.or_false, Bool.false_or, Bool.or_true, Bool.true_or, Nat.reduceBEq, Nat.reduceAdd, Nat.reduceLT, Nat.reduceLeDiff, Int.reduceAdd, Int.reduceToNat, true_and, and_true, Fin.isValue, Fin.val_zero, Fin.val_one, Fin.val_two, Fin.reduceFinMk, eq_self, Int.reduceNeg, imp_self, Nat.reduceMul, Nat.le_refl, not_true_eq_false, not_false_eq_true, List.getElem?_nil, reduceCtorEq, true_or, or_true, Classical.not_not, implies_true, or_self, wI_0, wI_1, wI_m1, b2i_w, b2i_eq0, b2i_eq1, b2i_bool, nor_self, nx_pI, kd_pI, ln_pI, fI_pI, fL_pI, fR_pI, aI_pI, aL_pI, aR_pI, nx_pL, kd_pL, ln_pL, fI_pL, fL_pL, fR_pL, aI_pL, aL_pL, aR_pL, nx_pR, kd_pR, ln_pR, fI_pR, fL_pR, fR_pR, aI_pR, aL_pR, aR_pR, nx_qI, kd_qI, ln_qI, fI_qI, fL_qI, fR_qI, aI_qI, aL_qI, aR_qI, nx_qL, kd_qL, ln_qL, fI_qL, fL_qL, fR_qL, aI_qL, aL_qL, aR_qL, nx_qR, kd_qR, ln_qR, fI_qR, fL_qR, fR_qR, aI_qR, aL_qR, aR_qR, nx_mk, kd_mk, ln_mk, fI_mk, fL_mk, fR_mk, aI_mk, aL_mk, aR_mk, false_and, and_false, if_false, if_true, and_self, Int.reduceEq, Nat.reduceEqDiff, ite_self, MLay_pI, MLay_pL, MLay_qI, MLay_qL, ev_X11_look_96, xt_X11_look, xf_X11_look, us_X11_boxOf, us_X2_stateAt, us_X11_isDumb]
        repeat' (first | intro z | apply And.intro)
        all_goals try omega
        all_goals try contradiction
        all_goals exact h
      have q1 : -1 ≤ fI σ 313 (lat σ 3 b) ∧ fI σ 313 (lat σ 3 b) ≤ 1000000 := by omega
      have q2 : 0 ≤ fI σ 309 (lat σ 3 b) ∧ fI σ 309 (lat σ 3 b) ≤ 150 := by omega
      have q3 : 0 ≤ fI σ 312 (lat σ 3 b) ∧ fI σ 312 (lat σ 3 b) ≤ 1 := by omega
      have q4 : 0 ≤ fI τ 1301 61 ∧ fI τ 1301 61 ≤ 2000000 := by omega
      clear hX hLR hM hB hI hE hgo h
      refine go_X11_look (ct := fun p => p == 68 || p == 73 || p == 78 || p == 83 || p == 97 || p == 111 || p == 116 || p == 121 || p == 96) 20 ?_
      simp only [oI, oL, oR, o1, lI, lL, lR, popN, catS, gv, stL, stL2, swt, cnd, spObj, List.getElem?_cons_zero, List.getElem?_cons_succ, List.getD_cons_zero, List.getD_cons_succ, List.set_cons_zero, List.set_cons_succ, List.nil_append, List.cons_append, Option.toList, Bool.or_false, Bool.false_or, Bool.or_true, Bool.true_or, Nat.reduceBEq, Nat.reduceAdd, Nat.reduceLT, Nat.reduceLeDiff, Int.reduceAdd, Int.reduceToNat, true_and, and_true, Fin.isValue, Fin.val_zero, Fin.val_one, Fin.val_two, Fin.reduceFinMk, eq_self, Int.reduceNeg, imp_self, Nat.reduceMul, Nat.le_refl, not_true_eq_false, not_false_eq_true, List.getElem?_nil, reduceCtorEq, true_or, or_true, Classical.not_not, implies_true, or_self, wI_0, wI_1, wI_m1, b2i_w, b2i_eq0, b2i_eq1, b2i_bool, nor_self, nx_pI, kd_pI, ln_pI, fI_pI, fL_pI, fR_pI, aI_pI, aL_pI, aR_pI, nx_pL, kd_pL, ln_pL, fI_pL, fL_pL, fR_pL, aI_pL, aL_pL, aR_pL, nx_pR, kd_pR, ln_pR, fI_pR, fL_pR, fR_pR, aI_pR, aL_pR, aR_pR, nx_qI, kd_qI, ln_qI, fI_qI, fL_qI, fR_qI, aI_qI, aL_qI, aR_qI, nx_qL, kd_qL, ln_qL, fI_qL, fL_qL, fR_qL, aI_qL, aL_qL, aR_qL, nx_qR, kd_qR, ln_qR, fI_qR, fL_qR, fR_qR, aI_qR, aL_qR, aR_qR, nx_mk, kd_mk, ln_mk, fI_mk, fL_mk, fR_mk, aI_mk, aL_mk, aR_mk, false_and, and_false, if_false, if_true, and_self, Int.reduceEq, Nat.reduceEqDiff, ite_self, MLay_pI, MLay_pL, MLay_qI, MLay_qL, ev_X11_look_18, ev_X11_look_19, ev_X11_look_88, ev_X11_look_89, ev_X11_look_90, ev_X11_look_93, xt_X11_look, xf_X11_look, us_X11_boxOf, us_X2_stateAt, us_X11_isDumb, ew, Int.reduceLT, hkb, hk, hn, q1, q2, q3, q4]
      repeat' (first | intro z | apply And.intro)
      all_goals try omega
      all_goals try contradiction
      all_goals exact w96
    · have ew : wI 5 = 5 := by decide
      simp only [Int.reduceEq, if_true, if_false] at h
      have hlo := hI.loop_ b
      have hal := hI.along_ b
      have hbi := hB.2.1 b hbb.1 hbb.2
      have hs := sil_is (hLR _ hlo.1 (by omega)) hC hI hB (show 0 ≤ aI τ 62 b ∧ aI τ 62 b < 4 by omega) hal.1 hbi.1
      rw [hbi.2] at hs
      obtain ⟨⟨⟨-, -, -, -, -, -, hcut, -⟩, -⟩, -⟩ := hLR _ hlo.1 (show aI τ 62 b < 4 by omega)
      have w102 : Go M_X11_look Q 102 [some (vr 1), some (vi b), some (vi 5), some (vr (lat σ 3 b))] [vi (b2i (cSil σ (45 + 4 * aI τ 62 b) (aI τ 68 b)))] σ (0, 0) := by
        rw [b2i_congr hs]
        by_cases c : mDumb τ b
        · rw [b2i_t c] at h ⊢
          clear hX hLR hM hB hI hE hgo hs hcut
          refine go_X11_look (ct := fun p => p == 109) 20 ?_
          simp only [oI, oL, oR, o1, lI, lL, lR, popN, catS, gv, stL, stL2, swt, cnd, spObj, List.getElem?_cons_zero, List.getElem?_cons_succ, List.getD_cons_zero, List.getD_cons_succ, List.set_cons_zero, List.set_cons_succ, List.nil_append, List.cons_append, Option.toList, Bool.or_false, Bool.false_or, Bool.or_true, Bool.true_or, Nat.reduceBEq, Nat.reduceAdd, Nat.reduceLT, Nat.reduceLeDiff, Int.reduceAdd, Int.reduceToNat, true_and, and_true, Fin.isValue, Fin.val_zero, Fin.val_one, Fin.val_two, Fin.reduceFinMk, eq_self, Int.reduceNeg, imp_self, Nat.reduceMul, Nat.le_refl, not_true_eq_false, not_false_eq_true, List.getElem?_nil, reduceCtorEq, true_or, or_true, Classical.not_not, implies_true, or_self, wI_0, wI_1, wI_m1, b2i_w, b2i_eq0, b2i_eq1, b2i_bool, nor_self, nx_pI, kd_pI, ln_pI, fI_pI, fL_pI, fR_pI, aI_pI, aL_pI, aR_pI, nx_pL, kd_pL, ln_pL, fI_pL, fL_pL, fR_pL, aI_pL, aL_pL, aR_pL, nx_pR, kd_pR, ln_pR, fI_pR, fL_pR, fR_pR, aI_pR, aL_pR, aR_pR, nx_qI, kd_qI, ln_qI, fI_qI, fL_qI, fR_qI, aI_qI, aL_qI, aR_qI, nx_qL, kd_qL, ln_qL, fI_qL, fL_qL, fR_qL, aI_qL, aL_qL, aR_qL, nx_qR, kd_qR, ln_qR, fI_qR, fL_qR, fR_qR, aI_qR, aL_qR, aR_qR, nx_mk, kd_mk, ln_mk, fI_mk, fL_mk, fR_mk, aI_mk, aL_mk, aR_mk, false_and, and_false, if_false, if_true, and_self, Int.reduceEq, Nat.reduceEqDiff, ite_self, MLay_pI, MLay_pL, MLay_qI, MLay_qL, ev_X11_look_102, ev_X11_look_105, ev_X11_look_106, ev_X11_look_109, ev_X11_look_110, xt_X11_look, xf_X11_look, us_X11_boxOf, us_X2_stateAt, us_X11_isDumb]
          repeat' (first | intro z | apply And.intro)
          all_goals try omega
          all_goals try contradiction
          all_goals exact h
        · rw [b2i_f c] at h ⊢
          clear hX hLR hM hB hI hE hgo hs hcut
          refine go_X11_look (ct := fun p => p == 105) 20 ?_
          simp only [oI, oL, oR, o1, lI, lL, lR, popN, catS, gv, stL, stL2, swt, cnd, spObj, List.getElem?_cons_zero, List.getElem?_cons_succ, List.getD_cons_zero, List.getD_cons_succ, List.set_cons_zero, List.set_cons_succ, List.nil_append, List.cons_append, Option.toList, Bool.or_false, Bool.false_or, Bool.or_true, Bool.true_or, Nat.reduceBEq, Nat.reduceAdd, Nat.reduceLT, Nat.reduceLeDiff, Int.reduceAdd, Int.reduceToNat, true_and, and_true, Fin.isValue, Fin.val_zero, Fin.val_one, Fin.val_two, Fin.reduceFinMk, eq_self, Int.reduceNeg, imp_self, Nat.reduceMul, Nat.le_refl, not_true_eq_false, not_false_eq_true, List.getElem?_nil, reduceCtorEq, true_or, or_true, Classical.not_not, implies_true, or_self, wI_0, wI_1, wI_m1, b2i_w, b2i_eq0, b2i_eq1, b2i_bool, nor_self, nx_pI, kd_pI, ln_pI, fI_pI, fL_pI, fR_pI, aI_pI, aL_pI, aR_pI, nx_pL, kd_pL, ln_pL, fI_pL, fL_pL, fR_pL, aI_pL, aL_pL, aR_pL, nx_pR, kd_pR, ln_pR, fI_pR, fL_pR, fR_pR, aI_pR, aL_pR, aR_pR, nx_qI, kd_qI, ln_qI, fI_qI, fL_qI, fR_qI, aI_qI, aL_qI, aR_qI, nx_qL, kd_qL, ln_qL, fI_qL, fL_qL, fR_qL, aI_qL, aL_qL, aR_qL, nx_qR, kd_qR, ln_qR, fI_qR, fL_qR, fR_qR, aI_qR, aL_qR, aR_qR, nx_mk, kd_mk, ln_mk, fI_mk, fL_mk, fR_mk, aI_mk, aL_mk, aR_mk, false_and, and_false, if_false, if_true, and_self, Int.reduceEq, Nat.reduceEqDiff, ite_self, MLay_pI, MLay_pL, MLay_qI, MLay_qL, ev_X11_look_102, ev_X11_look_105, ev_X11_look_106, ev_X11_look_109, ev_X11_look_110, xt_X11_look, xf_X11_look, us_X11_boxOf, us_X2_stateAt, us_X11_isDumb]
          repeat' (first | intro z | apply And.intro)
          all_goals try omega
          all_goals try contradiction
          all_goals exact h
      have r1 : -1 ≤ fI σ 1006 ((45 + 4 * aI τ 62 b)) ∧ fI σ 1006 ((45 + 4 * aI τ 62 b)) ≤ 12 := by rcases hcut with ⟨q1, q2, -⟩ | ⟨q1, -⟩ <;> omega
      have r2 : -1 ≤ fI σ 1007 ((45 + 4 * aI τ 62 b)) ∧ fI σ 1007 ((45 + 4 * aI τ 62 b)) ≤ 12 := by rcases hcut with ⟨q1, q2, -⟩ | ⟨q1, -⟩ <;> omega
      clear hX hLR hM hB hI hE hgo h hs hcut
      refine go_X11_look (ct := fun p => p == 68 || p == 73 || p == 78 || p == 83 || p == 88 || p == 111 || p == 116 || p == 121 || p == 102) 20 ?_
      simp only [oI, oL, oR, o1, lI, lL, lR, popN, catS, gv, stL, stL2, swt, cnd, spObj, List.getElem?_cons_zero, List.getElem?_cons_succ, List.getD_cons_zero, List.getD_cons_succ, List.set_cons_zero, List.set_cons_succ, List.nil_append, List.cons_append, Option.toList, Bool.or_false, Bool.false_or, Bool.or_true, Bool.true_or, Nat.reduceBEq, Nat.reduceAdd, Nat.reduceLT, Nat.reduceLeDiff, Int.reduceAdd, Int.reduceToNat, true_and, and_true, Fin.isValue, Fin.val_zero, Fin.val_one, Fin.val_two, Fin.reduceFinMk, eq_self, Int.reduceNeg, imp_self, Nat.reduceMul, Nat.le_refl, not_true_eq_false, not_false_eq_true, List.getElem?_nil, reduceCtorEq, true_or, or_true, Classical.not_not, implies_true, or_self, wI_0, wI_1, wI_m1, b2i_w, b2i_eq0, b2i_eq1, b2i_bool, nor_self, nx_pI, kd_pI, ln_pI, fI_pI, fL_pI, fR_pI, aI_pI, aL_pI, aR_pI, nx_pL, kd_pL, ln_pL, fI_pL, fL_pL, fR_pL, aI_pL, aL_pL, aR_pL, nx_pR, kd_pR, ln_pR, fI_pR, fL_pR, fR_pR, aI_pR, aL_pR, aR_pR, nx_qI, kd_qI, ln_qI, fI_qI, fL_qI, fR_qI, aI_qI, aL_qI, aR_qI, nx_qL, kd_qL, ln_qL, fI_qL, fL_qL, fR_qL, aI_qL, aL_qL, aR_qL, nx_qR, kd_qR, ln_qR, fI_qR, fL_qR, fR_qR, aI_qR, aL_qR, aR_qR, nx_mk, kd_mk, ln_mk, fI_mk, fL_mk, fR_mk, aI_mk, aL_mk, aR_mk, false_and, and_false, if_false, if_true, and_self, Int.reduceEq, Nat.reduceEqDiff, ite_self, MLay_pI, MLay_pL, MLay_qI, MLay_qL, ev_X11_look_18, ev_X11_look_19, ev_X11_look_97, ev_X11_look_98, ev_X11_look_99, xt_X11_look, xf_X11_look, us_X11_boxOf, us_X2_stateAt, us_X11_isDumb, ew, Int.reduceLT, hkb, hk, hC, e4, e5, hlo, hal, r1, r2]
      repeat' (first | intro z | apply And.intro)
      all_goals try omega
      all_goals try contradiction
      all_goals exact w102
    · have ew : wI 6 = 6 := by decide
      simp only [Int.reduceEq, if_true, if_false] at h
      clear hX hLR hM hB hI hE hgo
      refine go_X11_look (ct := fun p => p == 68 || p == 73 || p == 78 || p == 83 || p == 88 || p == 97 || p == 116 || p == 121) 20 ?_
      simp only [oI, oL, oR, o1, lI, lL, lR, popN, catS, gv, stL, stL2, swt, cnd, spObj, List.getElem?_cons_zero, List.getElem?_cons_succ, List.getD_cons_zero, List.getD_cons_succ, List.set_cons_zero, List.set_cons_succ, List.nil_append, List.cons_append, Option.toList, Bool.or_false, Bool.false_or, Bool.or_true, Bool.true_or, Nat.reduceBEq, Nat.reduceAdd, Nat.reduceLT, Nat.reduceLeDiff, Int.reduceAdd, Int.reduceToNat, true_and, and_true, Fin.isValue, Fin.val_zero, Fin.val_one, Fin.val_two, Fin.reduceFinMk, eq_self, Int.reduceNeg, imp_self, Nat.reduceMul, Nat.le_refl, not_true_eq_false, not_false_eq_true, List.getElem?_nil, reduceCtorEq, true_or, or_true, Classical.not_not, implies_true, or_self, wI_0, wI_1, wI_m1, b2i_w, b2i_eq0, b2i_eq1, b2i_bool, nor_self, nx_pI, kd_pI, ln_pI, fI_pI, fL_pI, fR_pI, aI_pI, aL_pI, aR_pI, nx_pL, kd_pL, ln_pL, fI_pL, fL_pL, fR_pL, aI_pL, aL_pL, aR_pL, nx_pR, kd_pR, ln_pR, fI_pR, fL_pR, fR_pR, aI_pR, aL_pR, aR_pR, nx_qI, kd_qI, ln_qI, fI_qI, fL_qI, fR_qI, aI_qI, aL_qI, aR_qI, nx_qL, kd_qL, ln_qL, fI_qL, fL_qL, fR_qL, aI_qL, aL_qL, aR_qL, nx_qR, kd_qR, ln_qR, fI_qR, fL_qR, fR_qR, aI_qR, aL_qR, aR_qR, nx_mk, kd_mk, ln_mk, fI_mk, fL_mk, fR_mk, aI_mk, aL_mk, aR_mk, false_and, and_false, if_false, if_true, and_self, Int.reduceEq, Nat.reduceEqDiff, ite_self, MLay_pI, MLay_pL, MLay_qI, MLay_qL, ev_X11_look_18, ev_X11_look_19, ev_X11_look_111, ev_X11_look_112, ev_X11_look_115, xt_X11_look, xf_X11_look, us_X11_boxOf, us_X2_stateAt, us_X11_isDumb, ew, Int.reduceLT, hkb, e12]
      repeat' (first | intro z | apply And.intro)
      all_goals try omega
      all_goals try contradiction
      all_goals exact h
    · have ew : wI 7 = 7 := by decide
      simp only [Int.reduceEq, if_true, if_false] at h
      clear hX hLR hM hB hI hE hgo
      refine go_X11_look (ct := fun p => p == 68 || p == 73 || p == 78 || p == 83 || p == 88 || p == 97 || p == 111 || p == 121) 20 ?_
      simp only [oI, oL, oR, o1, lI, lL, lR, popN, catS, gv, stL, stL2, swt, cnd, spObj, List.getElem?_cons_zero, List.getElem?_cons_succ, List.getD_cons_zero, List.getD_cons_succ, List.set_cons_zero, List.set_cons_succ, List.nil_append, List.cons_append, Option.toList, Bool.or_false, Bool.false_or, Bool.or_true, Bool.true_or, Nat.reduceBEq, Nat.reduceAdd, Nat.reduceLT, Nat.reduceLeDiff, Int.reduceAdd, Int.reduceToNat, true_and, and_true, Fin.isValue, Fin.val_zero, Fin.val_one, Fin.val_two, Fin.reduceFinMk, eq_self, Int.reduceNeg, imp_self, Nat.reduceMul, Nat.le_refl, not_true_eq_false, not_false_eq_true, List.getElem?_nil, reduceCtorEq, true_or, or_true, Classical.not_not, implies_true, or_self, wI_0, wI_1, wI_m1, b2i_w, b2i_eq0, b2i_eq1, b2i_bool, nor_self, nx_pI, kd_pI, ln_pI, fI_pI, fL_pI, fR_pI, aI_pI, aL_pI, aR_pI, nx_pL, kd_pL, ln_pL, fI_pL, fL_pL, fR_pL, aI_pL, aL_pL, aR_pL, nx_pR, kd_pR, ln_pR, fI_pR, fL_pR, fR_pR, aI_pR, aL_pR, aR_pR, nx_qI, kd_qI, ln_qI, fI_qI, fL_qI, fR_qI, aI_qI, aL_qI, aR_qI, nx_qL, kd_qL, ln_qL, fI_qL, fL_qL, fR_qL, aI_qL, aL_qL, aR_qL, nx_qR, kd_qR, ln_qR, fI_qR, fL_qR, fR_qR, aI_qR, aL_qR, aR_qR, nx_mk, kd_mk, ln_mk, fI_mk, fL_mk, fR_mk, aI_mk, aL_mk, aR_mk, false_and, and_false, if_false, if_true, and_self, Int.reduceEq, Nat.reduceEqDiff, ite_self, MLay_pI, MLay_pL, MLay_qI, MLay_qL, ev_X11_look_18, ev_X11_look_19, ev_X11_look_116, ev_X11_look_117, ev_X11_look_120, xt_X11_look, xf_X11_look, us_X11_boxOf, us_X2_stateAt, us_X11_isDumb, ew, Int.reduceLT, hkb, e5]
      repeat' (first | intro z | apply And.intro)
      all_goals try omega
      all_goals try contradiction
      all_goals exact h
    · have ew : wI 8 = 8 := by decide
      simp only [Int.reduceEq, if_true, if_false] at h
      clear hX hLR hM hB hI hE hgo
      refine go_X11_look (ct := fun p => p == 68 || p == 73 || p == 78 || p == 83 || p == 88 || p == 97 || p == 111 || p == 116) 20 ?_
      simp only [oI, oL, oR, o1, lI, lL, lR, popN, catS, gv, stL, stL2, swt, cnd, spObj, List.getElem?_cons_zero, List.getElem?_cons_succ, List.getD_cons_zero, List.getD_cons_succ, List.set_cons_zero, List.set_cons_succ, List.nil_append, List.cons_append, Option.toList, Bool.or_false, Bool.false_or, Bool.or_true, Bool.true_or, Nat.reduceBEq, Nat.reduceAdd, Nat.reduceLT, Nat.reduceLeDiff, Int.reduceAdd, Int.reduceToNat, true_and, and_true, Fin.isValue, Fin.val_zero, Fin.val_one, Fin.val_two, Fin.reduceFinMk, eq_self, Int.reduceNeg, imp_self, Nat.reduceMul, Nat.le_refl, not_true_eq_false, not_false_eq_true, List.getElem?_nil, reduceCtorEq, true_or, or_true, Classical.not_not, implies_true, or_self, wI_0, wI_1, wI_m1, b2i_w, b2i_eq0, b2i_eq1, b2i_bool, nor_self, nx_pI, kd_pI, ln_pI, fI_pI, fL_pI, fR_pI, aI_pI, aL_pI, aR_pI, nx_pL, kd_pL, ln_pL, fI_pL, fL_pL, fR_pL, aI_pL, aL_pL, aR_pL, nx_pR, kd_pR, ln_pR, fI_pR, fL_pR, fR_pR, aI_pR, aL_pR, aR_pR, nx_qI, kd_qI, ln_qI, fI_qI, fL_qI, fR_qI, aI_qI, aL_qI, aR_qI, nx_qL, kd_qL, ln_qL, fI_qL, fL_qL, fR_qL, aI_qL, aL_qL, aR_qL, nx_qR, kd_qR, ln_qR, fI_qR, fL_qR, fR_qR, aI_qR, aL_qR, aR_qR, nx_mk, kd_mk, ln_mk, fI_mk, fL_mk, fR_mk, aI_mk, aL_mk, aR_mk, false_and, and_false, if_false, if_true, and_self, Int.reduceEq, Nat.reduceEqDiff, ite_self, MLay_pI, MLay_pL, MLay_qI, MLay_qL, ev_X11_look_18, ev_X11_look_19, ev_X11_look_121, ev_X11_look_122, ev_X11_look_125, xt_X11_look, xf_X11_look, us_X11_boxOf, us_X2_stateAt, us_X11_isDumb, ew, Int.reduceLT, hkb, e9]
      repeat' (first | intro z | apply And.intro)
      all_goals try omega
      all_goals try contradiction
      all_goals exact h
  clear h hX hLR hM hB hI hE hgo
  refine go_X11_look (ct := fun p => p == 18) 20 ?_
  simp only [oI, oL, oR, o1, lI, lL, lR, popN, catS, gv, stL, stL2, swt, cnd, spObj, List.getElem?_cons_zero, List.getElem?_cons_succ, List.getD_cons_zero, List.getD_cons_succ, List.set_cons_zero, List.set_cons_succ, List.nil_append, List.cons_append, Option.toList, Bool.or_false, Bool.false_or, Bool.or_true, Bool.true_or, Nat.reduceBEq, Nat.reduceAdd, Nat.reduceLT, Nat.reduceLeDiff, Int.reduceAdd, Int.reduceToNat, true_and, and_true, Fin.isValue, Fin.val_zero, Fin.val_one, Fin.val_two, Fin.reduceFinMk, eq_self, Int.reduceNeg, imp_self, Nat.reduceMul, Nat.le_refl, not_true_eq_false, not_false_eq_true, List.getElem?_nil, reduceCtorEq, true_or, or_true, Classical.not_not, implies_true, or_self, wI_0, wI_1, wI_m1, b2i_w, b2i_eq0, b2i_eq1, b2i_bool, nor_self, nx_pI, kd_pI, ln_pI, fI_pI, fL_pI, fR_pI, aI_pI, aL_pI, aR_pI, nx_pL, kd_pL, ln_pL, fI_pL, fL_pL, fR_pL, aI_pL, aL_pL, aR_pL, nx_pR, kd_pR, ln_pR, fI_pR, fL_pR, fR_pR, aI_pR, aL_pR, aR_pR, nx_qI, kd_qI, ln_qI, fI_qI, fL_qI, fR_qI, aI_qI, aL_qI, aR_qI, nx_qL, kd_qL, ln_qL, fI_qL, fL_qL, fR_qL, aI_qL, aL_qL, aR_qL, nx_qR, kd_qR, ln_qR, fI_qR, fL_qR, fR_qR, aI_qR, aL_qR, aR_qR, nx_mk, kd_mk, ln_mk, fI_mk, fL_mk, fR_mk, aI_mk, aL_mk, aR_mk, false_and, and_false, if_false, if_true, and_self, Int.reduceEq, Nat.reduceEqDiff, ite_self, MLay_pI, MLay_pL, MLay_qI, MLay_qL, ev_X11_look_0, ev_X11_look_1, ev_X11_look_2, ev_X11_look_5, ev_X11_look_6, ev_X11_look_7, xt_X11_look, xf_X11_look, us_X11_boxOf, us_X2_stateAt, us_X11_isDumb, hk, hC, hL, hb, hbn, e, hp0]
  repeat' (first | intro z | apply And.intro)
  all_goals try omega
  all_goals try contradiction
  all_goals exact w18
