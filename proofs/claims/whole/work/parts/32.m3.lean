/-! the reference: what it says of boxes, alarms and days -/

/-- how many below -/
noncomputable def hwM (P : Int → Prop) : Nat → Int
  | 0 => 0
  | n + 1 => hwM P n + b2i (P n)
theorem hwM_in (P : Int → Prop) : ∀ n : Nat, 0 ≤ hwM P n ∧ hwM P n ≤ n
  | 0 => by unfold hwM; omega
  | n + 1 => by
    have := hwM_in P n
    unfold hwM
    by_cases h : P n
    · rw [b2i_t h]; omega
    · rw [b2i_f h]; omega
theorem hwM_t {P : Int → Prop} {n : Nat} (h : P n) : hwM P (n + 1) = hwM P n + 1 := by
  show hwM P n + b2i (P n) = hwM P n + 1
  rw [b2i_t h]
theorem hwM_f {P : Int → Prop} {n : Nat} (h : ¬ P n) : hwM P (n + 1) = hwM P n := by
  show hwM P n + b2i (P n) = hwM P n
  rw [b2i_f h]; omega

def sp_X12_thrown : Sp := fun av σ Q => oR av fun this av => av = [] ∧ kd σ this = 13 ∧ (this = 61 ∧ Q (some (vi (fI σ 1300 61))) σ)
theorem us_X12_thrown (this : Int) (σ : Hp) (Q : Option AV → Hp → Prop) : sp_X12_thrown [vr this] σ Q = (kd σ this = 13 ∧ (this = 61 ∧ Q (some (vi (fI σ 1300 61))) σ)) := propext ⟨fun h => h.2, fun h => ⟨rfl, h⟩⟩
theorem el_X12_thrown {av : List AV} {σ : Hp} {Q : Option AV → Hp → Prop} (h : sp_X12_thrown av σ Q) : ∃ (this : Int), av = [vr this] ∧ (kd σ this = 13 ∧ (this = 61 ∧ Q (some (vi (fI σ 1300 61))) σ)) := by
  obtain ⟨this, a0, rfl, h0⟩ := oR_s h
  obtain ⟨rfl, hz⟩ := h0
  exact ⟨this, rfl, hz⟩
theorem rc_X12_thrown : ∀ (av : List AV) (σ : Hp) (Q : Option AV → Hp → Prop), sp_X12_thrown av σ Q → ∃ r tl, av = vr r :: tl ∧ kd σ r = 12 + 1 := fun av σ Q h => by
  obtain ⟨this, rfl, hz, -⟩ := el_X12_thrown h
  exact ⟨this, _, rfl, hz⟩

def tb_X12_thrown : Tab := [(0, .aload_n 0, 1, (0, 0, 0, 0)), (1, .getfield 196, 3, (13, 1300, 0, 0)), (4, .ireturn, 1, (0, 0, 0, 0))]
set_option maxRecDepth 100000 in
theorem tk_X12_thrown : TOK RX12 false cX12_thrown tb_X12_thrown := chkT_ok ft_X12 (by decide +kernel)
def mt_X12_thrown : List (Nat × Mt) := []
theorem mk_X12_thrown : MOK RX12 mt_X12_thrown := fun q hq => by cases hq
noncomputable def xe_X12_thrown (ct : Nat → Bool) (K : Kt) (R : Option AV → Hp → Prop) (n : Nat) : Kt := exS 1 1 0 0 1 tb_X12_thrown mt_X12_thrown ct K R n
noncomputable def xk_X12_thrown (ct : Nat → Bool) (K : Kt) (R : Option AV → Hp → Prop) (n : Nat) : Kt := exkS 1 1 0 0 1 tb_X12_thrown mt_X12_thrown ct K R n
theorem xt_X12_thrown {ct : Nat → Bool} {K : Kt} {R : Option AV → Hp → Prop} {n pc : Nat} {ls : List (Option AV)} {st : List AV} {σ : Hp} {k : Nat × Nat} (h : ct pc = true) : xk_X12_thrown ct K R n pc ls st σ k = K pc ls st σ k := by unfold xk_X12_thrown exkS; rw [h]
theorem xf_X12_thrown {ct : Nat → Bool} {K : Kt} {R : Option AV → Hp → Prop} {n pc : Nat} {ls : List (Option AV)} {st : List AV} {σ : Hp} {k : Nat × Nat} (h : ct pc = false) : xk_X12_thrown ct K R n pc ls st σ k = xe_X12_thrown ct K R n pc ls st σ k := by unfold xk_X12_thrown exkS xe_X12_thrown; rw [h]
theorem ev_X12_thrown {ct : Nat → Bool} {K : Kt} {R : Option AV → Hp → Prop} {n : Nat} {ls : List (Option AV)} {st : List AV} {σ : Hp} {k : Nat × Nat} :
  xe_X12_thrown ct K R (n + 1) 0 ls st σ k = (lR ls 0 fun x => xk_X12_thrown ct K R n 1 ls (vr x :: st) σ k) ∧
  xe_X12_thrown ct K R (n + 1) 1 ls st σ k = (oR st fun x st => kd σ x = 13 ∧ xk_X12_thrown ct K R n 4 ls (vi (fI σ 1300 x) :: st) σ k) ∧
  xe_X12_thrown ct K R (n + 1) 4 ls st σ k = (oI st fun x st => st = [] ∧ True ∧ R (some (vi x)) σ) :=
  ⟨exS_step.trans rfl, exS_step.trans rfl, exS_step.trans rfl⟩
def M_X12_thrown : Md := (yX12_thrown, cX12_thrown, 1, (some FieldType.int), 1, 0, 0, 1, false, tb_X12_thrown, mt_X12_thrown)
theorem mm_X12_thrown : MMOK M_X12_thrown := ⟨by decide +kernel, tk_X12_thrown, mk_X12_thrown, rfl, fun h => by cases h⟩
theorem go_X12_thrown {Q : Option AV → Hp → Prop} {ct : Nat → Bool} {pc : Nat} {ls : List (Option AV)} {st : List AV} {σ : Hp} {k : Nat × Nat} (n : Nat) (h : xe_X12_thrown ct (Go M_X12_thrown Q) Q n pc ls st σ k) : Go M_X12_thrown Q pc ls st σ k := Go.exS mm_X12_thrown h

set_option maxRecDepth 20000 in
theorem c_X12_thrown : Ct yX12_thrown cX12_thrown 1 ((some FieldType.int)) 1 0 0 sp_X12_thrown := by
  refine Ct.go (M := M_X12_thrown) mm_X12_thrown fun av σ Q h0 => ?_
  obtain ⟨this, rfl, hk, h⟩ := el_X12_thrown h0
  clear h0
  refine ⟨Nat.le_of_ble_eq_true rfl, ?_⟩
  show Go M_X12_thrown Q 0 [some (vr this)] [] σ (0, 0)
  obtain ⟨rfl, h⟩ := h
  refine go_X12_thrown (ct := fun p => false) 20 ?_
  simp only [oI, oL, oR, o1, lI, lL, lR, popN, catS, gv, stL, stL2, swt, cnd, spObj, List.getElem?_cons_zero, List.getElem?_cons_succ, List.getD_cons_zero, List.getD_cons_succ, List.set_cons_zero, List.set_cons_succ, List.nil_append, List.cons_append, Option.toList, Bool.or_false, Bool.false_or, Bool.or_true, Bool.true_or, Nat.reduceBEq, Nat.reduceAdd, Nat.reduceLT, Nat.reduceLeDiff, Int.reduceAdd, Int.reduceToNat, true_and, and_true, Fin.isValue, Fin.val_zero, Fin.val_one, Fin.val_two, Fin.reduceFinMk, eq_self, Int.reduceNeg, imp_self, Nat.reduceMul, Nat.le_refl, not_true_eq_false, not_false_eq_true, List.getElem?_nil, reduceCtorEq, true_or, or_true, Classical.not_not, implies_true, or_self, wI_0, wI_1, wI_m1, b2i_w, b2i_eq0, b2i_eq1, b2i_bool, nor_self, nx_pI, kd_pI, ln_pI, fI_pI, fL_pI, fR_pI, aI_pI, aL_pI, aR_pI, nx_pL, kd_pL, ln_pL, fI_pL, fL_pL, fR_pL, aI_pL, aL_pL, aR_pL, nx_pR, kd_pR, ln_pR, fI_pR, fL_pR, fR_pR, aI_pR, aL_pR, aR_pR, nx_qI, kd_qI, ln_qI, fI_qI, fL_qI, fR_qI, aI_qI, aL_qI, aR_qI, nx_qL, kd_qL, ln_qL, fI_qL, fL_qL, fR_qL, aI_qL, aL_qL, aR_qL, nx_qR, kd_qR, ln_qR, fI_qR, fL_qR, fR_qR, aI_qR, aL_qR, aR_qR, nx_mk, kd_mk, ln_mk, fI_mk, fL_mk, fR_mk, aI_mk, aL_mk, aR_mk, false_and, and_false, if_false, if_true, and_self, Int.reduceEq, Nat.reduceEqDiff, ite_self, MLay_pI, MLay_pL, MLay_qI, MLay_qL, ev_X12_thrown, xt_X12_thrown, xf_X12_thrown, hk]
  exact h

def sp_X12_isCompany : Sp := fun av σ Q => oR av fun this av => oI av fun c av => av = [] ∧ kd σ this = 13 ∧ (this = 61 ∧ MI σ ∧ inR c ∧ Q (some (vi (b2i (0 ≤ c ∧ c < fI σ 1335 61)))) σ)
theorem us_X12_isCompany (this : Int) (c : Int) (σ : Hp) (Q : Option AV → Hp → Prop) : sp_X12_isCompany [vr this, vi c] σ Q = (kd σ this = 13 ∧ (this = 61 ∧ MI σ ∧ inR c ∧ Q (some (vi (b2i (0 ≤ c ∧ c < fI σ 1335 61)))) σ)) := propext ⟨fun h => h.2, fun h => ⟨rfl, h⟩⟩
theorem el_X12_isCompany {av : List AV} {σ : Hp} {Q : Option AV → Hp → Prop} (h : sp_X12_isCompany av σ Q) : ∃ (this : Int) (c : Int), av = [vr this, vi c] ∧ (kd σ this = 13 ∧ (this = 61 ∧ MI σ ∧ inR c ∧ Q (some (vi (b2i (0 ≤ c ∧ c < fI σ 1335 61)))) σ)) := by
  obtain ⟨this, a0, rfl, h0⟩ := oR_s h
  obtain ⟨c, a1, rfl, h1⟩ := oI_s h0
  obtain ⟨rfl, hz⟩ := h1
  exact ⟨this, c, rfl, hz⟩
theorem rc_X12_isCompany : ∀ (av : List AV) (σ : Hp) (Q : Option AV → Hp → Prop), sp_X12_isCompany av σ Q → ∃ r tl, av = vr r :: tl ∧ kd σ r = 12 + 1 := fun av σ Q h => by
  obtain ⟨this, c, rfl, hz, -⟩ := el_X12_isCompany h
  exact ⟨this, _, rfl, hz⟩

def tb_X12_isCompany : Tab := [(0, .iload_n 1, 1, (0, 0, 0, 0)), (1, .iconst 0, 1, (0, 0, 0, 0)), (2, .aload_n 0, 1, (0, 0, 0, 0)), (3, .getfield 293, 3, (13, 1335, 0, 0)), (6, .iconst 1, 1, (0, 0, 0, 0)), (7, .isub, 1, (0, 0, 0, 0)), (8, .invokestatic 202, 3, (0, 0, 0, 0)), (11, .ireturn, 1, (0, 0, 0, 0))]
set_option maxRecDepth 100000 in
theorem tk_X12_isCompany : TOK RX12 false cX12_isCompany tb_X12_isCompany := chkT_ok ft_X12 (by decide +kernel)
def mt_X12_isCompany : List (Nat × Mt) := [(1617, 3, 0, 0, 1, sp_X12_within)]
theorem em_X12_isCompany : mt_X12_isCompany.lookup 1617 = some (3, 0, 0, 1, sp_X12_within) := rfl
theorem mk_X12_isCompany : MOK RX12 mt_X12_isCompany := by
  intro q hq
  simp only [mt_X12_isCompany, List.mem_cons, List.not_mem_nil, or_false] at hq
  rcases hq with rfl
  · exact rw_X12_1617
noncomputable def xe_X12_isCompany (ct : Nat → Bool) (K : Kt) (R : Option AV → Hp → Prop) (n : Nat) : Kt := exS 2 2 0 0 2 tb_X12_isCompany mt_X12_isCompany ct K R n
noncomputable def xk_X12_isCompany (ct : Nat → Bool) (K : Kt) (R : Option AV → Hp → Prop) (n : Nat) : Kt := exkS 2 2 0 0 2 tb_X12_isCompany mt_X12_isCompany ct K R n
theorem xt_X12_isCompany {ct : Nat → Bool} {K : Kt} {R : Option AV → Hp → Prop} {n pc : Nat} {ls : List (Option AV)} {st : List AV} {σ : Hp} {k : Nat × Nat} (h : ct pc = true) : xk_X12_isCompany ct K R n pc ls st σ k = K pc ls st σ k := by unfold xk_X12_isCompany exkS; rw [h]
theorem xf_X12_isCompany {ct : Nat → Bool} {K : Kt} {R : Option AV → Hp → Prop} {n pc : Nat} {ls : List (Option AV)} {st : List AV} {σ : Hp} {k : Nat × Nat} (h : ct pc = false) : xk_X12_isCompany ct K R n pc ls st σ k = xe_X12_isCompany ct K R n pc ls st σ k := by unfold xk_X12_isCompany exkS xe_X12_isCompany; rw [h]
theorem ev_X12_isCompany {ct : Nat → Bool} {K : Kt} {R : Option AV → Hp → Prop} {n : Nat} {ls : List (Option AV)} {st : List AV} {σ : Hp} {k : Nat × Nat} :
  xe_X12_isCompany ct K R (n + 1) 0 ls st σ k = (lI ls 1 fun x => xk_X12_isCompany ct K R n 1 ls (vi x :: st) σ k) ∧
  xe_X12_isCompany ct K R (n + 1) 1 ls st σ k = (xk_X12_isCompany ct K R n 2 ls (vi (0) :: st) σ k) ∧
  xe_X12_isCompany ct K R (n + 1) 2 ls st σ k = (lR ls 0 fun x => xk_X12_isCompany ct K R n 3 ls (vr x :: st) σ k) ∧
  xe_X12_isCompany ct K R (n + 1) 3 ls st σ k = (oR st fun x st => kd σ x = 13 ∧ xk_X12_isCompany ct K R n 6 ls (vi (fI σ 1335 x) :: st) σ k) ∧
  xe_X12_isCompany ct K R (n + 1) 6 ls st σ k = (xk_X12_isCompany ct K R n 7 ls (vi (1) :: st) σ k) ∧
  xe_X12_isCompany ct K R (n + 1) 7 ls st σ k = (oI st fun y st => oI st fun x st => xk_X12_isCompany ct K R n 8 ls (vi (x - y) :: st) σ k) ∧
  xe_X12_isCompany ct K R (n + 1) 8 ls st σ k = (popN 3 st [] fun av rest => (catS rest ≤ 8 ∧ 1 < 2 ∧ k.1 + 0 ≤ 0 ∧ k.2 + 0 ≤ 0) ∧ (sp_X12_within) av σ fun v σ' => xk_X12_isCompany ct K R n 11 ls (v.toList ++ rest) σ' (k.1 + 0, k.2 + 0)) ∧
  xe_X12_isCompany ct K R (n + 1) 11 ls st σ k = (oI st fun x st => st = [] ∧ (x = 0 ∨ x = 1) ∧ R (some (vi x)) σ) :=
  ⟨exS_step.trans rfl, exS_step.trans rfl, exS_step.trans rfl, exS_step.trans rfl, exS_step.trans rfl, exS_step.trans rfl, exS_step.trans rfl, exS_step.trans rfl⟩
def M_X12_isCompany : Md := (yX12_isCompany, cX12_isCompany, 2, (some FieldType.boolean), 2, 0, 0, 2, false, tb_X12_isCompany, mt_X12_isCompany)
theorem mm_X12_isCompany : MMOK M_X12_isCompany := ⟨by decide +kernel, tk_X12_isCompany, mk_X12_isCompany, rfl, fun h => by cases h⟩
theorem go_X12_isCompany {Q : Option AV → Hp → Prop} {ct : Nat → Bool} {pc : Nat} {ls : List (Option AV)} {st : List AV} {σ : Hp} {k : Nat × Nat} (n : Nat) (h : xe_X12_isCompany ct (Go M_X12_isCompany Q) Q n pc ls st σ k) : Go M_X12_isCompany Q pc ls st σ k := Go.exS mm_X12_isCompany h

set_option maxRecDepth 20000 in
theorem c_X12_isCompany : Ct yX12_isCompany cX12_isCompany 2 ((some FieldType.boolean)) 2 0 0 sp_X12_isCompany := by
  refine Ct.go (M := M_X12_isCompany) mm_X12_isCompany fun av σ Q h0 => ?_
  obtain ⟨this, c, rfl, hk, h⟩ := el_X12_isCompany h0
  clear h0
  refine ⟨Nat.le_of_ble_eq_true rfl, ?_⟩
  show Go M_X12_isCompany Q 0 [some (vr this), some (vi c)] [] σ (0, 0)
  obtain ⟨rfl, hI, hr, h⟩ := h
  have hb := hI.companies_s
  unfold inR at hr
  refine go_X12_isCompany (ct := fun p => false) 20 ?_
  simp only [oI, oL, oR, o1, lI, lL, lR, popN, catS, gv, stL, stL2, swt, cnd, spObj, List.getElem?_cons_zero, List.getElem?_cons_succ, List.getD_cons_zero, List.getD_cons_succ, List.set_cons_zero, List.set_cons_succ, List.nil_append, List.cons_append, Option.toList, Bool.or_false, Bool.false_or, Bool.or_true, Bool.true_or, Nat.reduceBEq, Nat.reduceAdd, Nat.reduceLT, Nat.reduceLeDiff, Int.reduceAdd, Int.reduceToNat, true_and, and_true, Fin.isValue, Fin.val_zero, Fin.val_one, Fin.val_two, Fin.reduceFinMk, eq_self, Int.reduceNeg, imp_self, Nat.reduceMul, Nat.le_refl, not_true_eq_false, not_false_eq_true, List.getElem?_nil, reduceCtorEq, true_or, or_true, Classical.not_not, implies_true, or_self, wI_0, wI_1, wI_m1, b2i_w, b2i_eq0, b2i_eq1, b2i_bool, nor_self, nx_pI, kd_pI, ln_pI, fI_pI, fL_pI, fR_pI, aI_pI, aL_pI, aR_pI, nx_pL, kd_pL, ln_pL, fI_pL, fL_pL, fR_pL, aI_pL, aL_pL, aR_pL, nx_pR, kd_pR, ln_pR, fI_pR, fL_pR, fR_pR, aI_pR, aL_pR, aR_pR, nx_qI, kd_qI, ln_qI, fI_qI, fL_qI, fR_qI, aI_qI, aL_qI, aR_qI, nx_qL, kd_qL, ln_qL, fI_qL, fL_qL, fR_qL, aI_qL, aL_qL, aR_qL, nx_qR, kd_qR, ln_qR, fI_qR, fL_qR, fR_qR, aI_qR, aL_qR, aR_qR, nx_mk, kd_mk, ln_mk, fI_mk, fL_mk, fR_mk, aI_mk, aL_mk, aR_mk, false_and, and_false, if_false, if_true, and_self, Int.reduceEq, Nat.reduceEqDiff, ite_self, MLay_pI, MLay_pL, MLay_qI, MLay_qL, ev_X12_isCompany, xt_X12_isCompany, xf_X12_isCompany, us_X12_within, hk]
  try simp (disch := omega) only [wI_id, dv_nn, rm_nn]
  have e : (0 ≤ c ∧ c ≤ fI σ 1335 61 - 1) = (0 ≤ c ∧ c < fI σ 1335 61) := propext ⟨fun z => by omega, fun z => by omega⟩
  rw [e]; exact h

def sp_X12_isAlarm : Sp := fun av σ Q => oR av fun this av => oI av fun c av => av = [] ∧ kd σ this = 13 ∧ (this = 61 ∧ MI σ ∧ inR c ∧ Q (some (vi (b2i (0 ≤ c ∧ c < fI σ 1371 61)))) σ)
theorem us_X12_isAlarm (this : Int) (c : Int) (σ : Hp) (Q : Option AV → Hp → Prop) : sp_X12_isAlarm [vr this, vi c] σ Q = (kd σ this = 13 ∧ (this = 61 ∧ MI σ ∧ inR c ∧ Q (some (vi (b2i (0 ≤ c ∧ c < fI σ 1371 61)))) σ)) := propext ⟨fun h => h.2, fun h => ⟨rfl, h⟩⟩
theorem el_X12_isAlarm {av : List AV} {σ : Hp} {Q : Option AV → Hp → Prop} (h : sp_X12_isAlarm av σ Q) : ∃ (this : Int) (c : Int), av = [vr this, vi c] ∧ (kd σ this = 13 ∧ (this = 61 ∧ MI σ ∧ inR c ∧ Q (some (vi (b2i (0 ≤ c ∧ c < fI σ 1371 61)))) σ)) := by
  obtain ⟨this, a0, rfl, h0⟩ := oR_s h
  obtain ⟨c, a1, rfl, h1⟩ := oI_s h0
  obtain ⟨rfl, hz⟩ := h1
  exact ⟨this, c, rfl, hz⟩
theorem rc_X12_isAlarm : ∀ (av : List AV) (σ : Hp) (Q : Option AV → Hp → Prop), sp_X12_isAlarm av σ Q → ∃ r tl, av = vr r :: tl ∧ kd σ r = 12 + 1 := fun av σ Q h => by
  obtain ⟨this, c, rfl, hz, -⟩ := el_X12_isAlarm h
  exact ⟨this, _, rfl, hz⟩

def tb_X12_isAlarm : Tab := [(0, .iload_n 1, 1, (0, 0, 0, 0)), (1, .iconst 0, 1, (0, 0, 0, 0)), (2, .aload_n 0, 1, (0, 0, 0, 0)), (3, .getfield 405, 3, (13, 1371, 0, 0)), (6, .iconst 1, 1, (0, 0, 0, 0)), (7, .isub, 1, (0, 0, 0, 0)), (8, .invokestatic 202, 3, (0, 0, 0, 0)), (11, .ireturn, 1, (0, 0, 0, 0))]
set_option maxRecDepth 100000 in
theorem tk_X12_isAlarm : TOK RX12 false cX12_isAlarm tb_X12_isAlarm := chkT_ok ft_X12 (by decide +kernel)
def mt_X12_isAlarm : List (Nat × Mt) := [(1617, 3, 0, 0, 1, sp_X12_within)]
theorem em_X12_isAlarm : mt_X12_isAlarm.lookup 1617 = some (3, 0, 0, 1, sp_X12_within) := rfl
theorem mk_X12_isAlarm : MOK RX12 mt_X12_isAlarm := by
  intro q hq
  simp only [mt_X12_isAlarm, List.mem_cons, List.not_mem_nil, or_false] at hq
  rcases hq with rfl
  · exact rw_X12_1617
noncomputable def xe_X12_isAlarm (ct : Nat → Bool) (K : Kt) (R : Option AV → Hp → Prop) (n : Nat) : Kt := exS 2 2 0 0 2 tb_X12_isAlarm mt_X12_isAlarm ct K R n
noncomputable def xk_X12_isAlarm (ct : Nat → Bool) (K : Kt) (R : Option AV → Hp → Prop) (n : Nat) : Kt := exkS 2 2 0 0 2 tb_X12_isAlarm mt_X12_isAlarm ct K R n
theorem xt_X12_isAlarm {ct : Nat → Bool} {K : Kt} {R : Option AV → Hp → Prop} {n pc : Nat} {ls : List (Option AV)} {st : List AV} {σ : Hp} {k : Nat × Nat} (h : ct pc = true) : xk_X12_isAlarm ct K R n pc ls st σ k = K pc ls st σ k := by unfold xk_X12_isAlarm exkS; rw [h]
theorem xf_X12_isAlarm {ct : Nat → Bool} {K : Kt} {R : Option AV → Hp → Prop} {n pc : Nat} {ls : List (Option AV)} {st : List AV} {σ : Hp} {k : Nat × Nat} (h : ct pc = false) : xk_X12_isAlarm ct K R n pc ls st σ k = xe_X12_isAlarm ct K R n pc ls st σ k := by unfold xk_X12_isAlarm exkS xe_X12_isAlarm; rw [h]
theorem ev_X12_isAlarm {ct : Nat → Bool} {K : Kt} {R : Option AV → Hp → Prop} {n : Nat} {ls : List (Option AV)} {st : List AV} {σ : Hp} {k : Nat × Nat} :
  xe_X12_isAlarm ct K R (n + 1) 0 ls st σ k = (lI ls 1 fun x => xk_X12_isAlarm ct K R n 1 ls (vi x :: st) σ k) ∧
  xe_X12_isAlarm ct K R (n + 1) 1 ls st σ k = (xk_X12_isAlarm ct K R n 2 ls (vi (0) :: st) σ k) ∧
  xe_X12_isAlarm ct K R (n + 1) 2 ls st σ k = (lR ls 0 fun x => xk_X12_isAlarm ct K R n 3 ls (vr x :: st) σ k) ∧
  xe_X12_isAlarm ct K R (n + 1) 3 ls st σ k = (oR st fun x st => kd σ x = 13 ∧ xk_X12_isAlarm ct K R n 6 ls (vi (fI σ 1371 x) :: st) σ k) ∧
  xe_X12_isAlarm ct K R (n + 1) 6 ls st σ k = (xk_X12_isAlarm ct K R n 7 ls (vi (1) :: st) σ k) ∧
  xe_X12_isAlarm ct K R (n + 1) 7 ls st σ k = (oI st fun y st => oI st fun x st => xk_X12_isAlarm ct K R n 8 ls (vi (x - y) :: st) σ k) ∧
  xe_X12_isAlarm ct K R (n + 1) 8 ls st σ k = (popN 3 st [] fun av rest => (catS rest ≤ 8 ∧ 1 < 2 ∧ k.1 + 0 ≤ 0 ∧ k.2 + 0 ≤ 0) ∧ (sp_X12_within) av σ fun v σ' => xk_X12_isAlarm ct K R n 11 ls (v.toList ++ rest) σ' (k.1 + 0, k.2 + 0)) ∧
  xe_X12_isAlarm ct K R (n + 1) 11 ls st σ k = (oI st fun x st => st = [] ∧ (x = 0 ∨ x = 1) ∧ R (some (vi x)) σ) :=
  ⟨exS_step.trans rfl, exS_step.trans rfl, exS_step.trans rfl, exS_step.trans rfl, exS_step.trans rfl, exS_step.trans rfl, exS_step.trans rfl, exS_step.trans rfl⟩
def M_X12_isAlarm : Md := (yX12_isAlarm, cX12_isAlarm, 2, (some FieldType.boolean), 2, 0, 0, 2, false, tb_X12_isAlarm, mt_X12_isAlarm)
theorem mm_X12_isAlarm : MMOK M_X12_isAlarm := ⟨by decide +kernel, tk_X12_isAlarm, mk_X12_isAlarm, rfl, fun h => by cases h⟩
theorem go_X12_isAlarm {Q : Option AV → Hp → Prop} {ct : Nat → Bool} {pc : Nat} {ls : List (Option AV)} {st : List AV} {σ : Hp} {k : Nat × Nat} (n : Nat) (h : xe_X12_isAlarm ct (Go M_X12_isAlarm Q) Q n pc ls st σ k) : Go M_X12_isAlarm Q pc ls st σ k := Go.exS mm_X12_isAlarm h

set_option maxRecDepth 20000 in
theorem c_X12_isAlarm : Ct yX12_isAlarm cX12_isAlarm 2 ((some FieldType.boolean)) 2 0 0 sp_X12_isAlarm := by
  refine Ct.go (M := M_X12_isAlarm) mm_X12_isAlarm fun av σ Q h0 => ?_
  obtain ⟨this, c, rfl, hk, h⟩ := el_X12_isAlarm h0
  clear h0
  refine ⟨Nat.le_of_ble_eq_true rfl, ?_⟩
  show Go M_X12_isAlarm Q 0 [some (vr this), some (vi c)] [] σ (0, 0)
  obtain ⟨rfl, hI, hr, h⟩ := h
  have hb := hI.alarms_s
  unfold inR at hr
  refine go_X12_isAlarm (ct := fun p => false) 20 ?_
  simp only [oI, oL, oR, o1, lI, lL, lR, popN, catS, gv, stL, stL2, swt, cnd, spObj, List.getElem?_cons_zero, List.getElem?_cons_succ, List.getD_cons_zero, List.getD_cons_succ, List.set_cons_zero, List.set_cons_succ, List.nil_append, List.cons_append, Option.toList, Bool.or_false, Bool.false_or, Bool.or_true, Bool.true_or, Nat.reduceBEq, Nat.reduceAdd, Nat.reduceLT, Nat.reduceLeDiff, Int.reduceAdd, Int.reduceToNat, true_and, and_true, Fin.isValue, Fin.val_zero, Fin.val_one, Fin.val_two, Fin.reduceFinMk, eq_self, Int.reduceNeg, imp_self, Nat.reduceMul, Nat.le_refl, not_true_eq_false, not_false_eq_true, List.getElem?_nil, reduceCtorEq, true_or, or_true, Classical.not_not, implies_true, or_self, wI_0, wI_1, wI_m1, b2i_w, b2i_eq0, b2i_eq1, b2i_bool, nor_self, nx_pI, kd_pI, ln_pI, fI_pI, fL_pI, fR_pI, aI_pI, aL_pI, aR_pI, nx_pL, kd_pL, ln_pL, fI_pL, fL_pL, fR_pL, aI_pL, aL_pL, aR_pL, nx_pR, kd_pR, ln_pR, fI_pR, fL_pR, fR_pR, aI_pR, aL_pR, aR_pR, nx_qI, kd_qI, ln_qI, fI_qI, fL_qI, fR_qI, aI_qI, aL_qI, aR_qI, nx_qL, kd_qL, ln_qL, fI_qL, fL_qL, fR_qL, aI_qL, aL_qL, aR_qL, nx_qR, kd_qR, ln_qR, fI_qR, fL_qR, fR_qR, aI_qR, aL_qR, aR_qR, nx_mk, kd_mk, ln_mk, fI_mk, fL_mk, fR_mk, aI_mk, aL_mk, aR_mk, false_and, and_false, if_false, if_true, and_self, Int.reduceEq, Nat.reduceEqDiff, ite_self, MLay_pI, MLay_pL, MLay_qI, MLay_qL, ev_X12_isAlarm, xt_X12_isAlarm, xf_X12_isAlarm, us_X12_within, hk]
  try simp (disch := omega) only [wI_id, dv_nn, rm_nn]
  have e : (0 ≤ c ∧ c ≤ fI σ 1371 61 - 1) = (0 ≤ c ∧ c < fI σ 1371 61) := propext ⟨fun z => by omega, fun z => by omega⟩
  rw [e]; exact h

def sp_X12_isDay : Sp := fun av σ Q => oR av fun this av => oI av fun c av => av = [] ∧ kd σ this = 13 ∧ (this = 61 ∧ MI σ ∧ inR c ∧ Q (some (vi (b2i (0 ≤ c ∧ c ≤ fI σ 1301 61 / 86400)))) σ)
theorem us_X12_isDay (this : Int) (c : Int) (σ : Hp) (Q : Option AV → Hp → Prop) : sp_X12_isDay [vr this, vi c] σ Q = (kd σ this = 13 ∧ (this = 61 ∧ MI σ ∧ inR c ∧ Q (some (vi (b2i (0 ≤ c ∧ c ≤ fI σ 1301 61 / 86400)))) σ)) := propext ⟨fun h => h.2, fun h => ⟨rfl, h⟩⟩
theorem el_X12_isDay {av : List AV} {σ : Hp} {Q : Option AV → Hp → Prop} (h : sp_X12_isDay av σ Q) : ∃ (this : Int) (c : Int), av = [vr this, vi c] ∧ (kd σ this = 13 ∧ (this = 61 ∧ MI σ ∧ inR c ∧ Q (some (vi (b2i (0 ≤ c ∧ c ≤ fI σ 1301 61 / 86400)))) σ)) := by
  obtain ⟨this, a0, rfl, h0⟩ := oR_s h
  obtain ⟨c, a1, rfl, h1⟩ := oI_s h0
  obtain ⟨rfl, hz⟩ := h1
  exact ⟨this, c, rfl, hz⟩
theorem rc_X12_isDay : ∀ (av : List AV) (σ : Hp) (Q : Option AV → Hp → Prop), sp_X12_isDay av σ Q → ∃ r tl, av = vr r :: tl ∧ kd σ r = 12 + 1 := fun av σ Q h => by
  obtain ⟨this, c, rfl, hz, -⟩ := el_X12_isDay h
  exact ⟨this, _, rfl, hz⟩

def tb_X12_isDay : Tab := [(0, .iload_n 1, 1, (0, 0, 0, 0)), (1, .iconst 0, 1, (0, 0, 0, 0)), (2, .aload_n 0, 1, (0, 0, 0, 0)), (3, .getfield 217, 3, (13, 1301, 0, 0)), (6, .ldc_w 414, 3, (1, 0, 0, 86400)), (9, .idiv, 1, (0, 0, 0, 0)), (10, .invokestatic 202, 3, (0, 0, 0, 0)), (13, .ireturn, 1, (0, 0, 0, 0))]
set_option maxRecDepth 100000 in
theorem tk_X12_isDay : TOK RX12 false cX12_isDay tb_X12_isDay := chkT_ok ft_X12 (by decide +kernel)
def mt_X12_isDay : List (Nat × Mt) := [(1617, 3, 0, 0, 1, sp_X12_within)]
theorem em_X12_isDay : mt_X12_isDay.lookup 1617 = some (3, 0, 0, 1, sp_X12_within) := rfl
theorem mk_X12_isDay : MOK RX12 mt_X12_isDay := by
  intro q hq
  simp only [mt_X12_isDay, List.mem_cons, List.not_mem_nil, or_false] at hq
  rcases hq with rfl
  · exact rw_X12_1617
noncomputable def xe_X12_isDay (ct : Nat → Bool) (K : Kt) (R : Option AV → Hp → Prop) (n : Nat) : Kt := exS 2 2 0 0 2 tb_X12_isDay mt_X12_isDay ct K R n
noncomputable def xk_X12_isDay (ct : Nat → Bool) (K : Kt) (R : Option AV → Hp → Prop) (n : Nat) : Kt := exkS 2 2 0 0 2 tb_X12_isDay mt_X12_isDay ct K R n
theorem xt_X12_isDay {ct : Nat → Bool} {K : Kt} {R : Option AV → Hp → Prop} {n pc : Nat} {ls : List (Option AV)} {st : List AV} {σ : Hp} {k : Nat × Nat} (h : ct pc = true) : xk_X12_isDay ct K R n pc ls st σ k = K pc ls st σ k := by unfold xk_X12_isDay exkS; rw [h]
theorem xf_X12_isDay {ct : Nat → Bool} {K : Kt} {R : Option AV → Hp → Prop} {n pc : Nat} {ls : List (Option AV)} {st : List AV} {σ : Hp} {k : Nat × Nat} (h : ct pc = false) : xk_X12_isDay ct K R n pc ls st σ k = xe_X12_isDay ct K R n pc ls st σ k := by unfold xk_X12_isDay exkS xe_X12_isDay; rw [h]
theorem ev_X12_isDay {ct : Nat → Bool} {K : Kt} {R : Option AV → Hp → Prop} {n : Nat} {ls : List (Option AV)} {st : List AV} {σ : Hp} {k : Nat × Nat} :
  xe_X12_isDay ct K R (n + 1) 0 ls st σ k = (lI ls 1 fun x => xk_X12_isDay ct K R n 1 ls (vi x :: st) σ k) ∧
  xe_X12_isDay ct K R (n + 1) 1 ls st σ k = (xk_X12_isDay ct K R n 2 ls (vi (0) :: st) σ k) ∧
  xe_X12_isDay ct K R (n + 1) 2 ls st σ k = (lR ls 0 fun x => xk_X12_isDay ct K R n 3 ls (vr x :: st) σ k) ∧
  xe_X12_isDay ct K R (n + 1) 3 ls st σ k = (oR st fun x st => kd σ x = 13 ∧ xk_X12_isDay ct K R n 6 ls (vi (fI σ 1301 x) :: st) σ k) ∧
  xe_X12_isDay ct K R (n + 1) 6 ls st σ k = (xk_X12_isDay ct K R n 9 ls (vi (86400) :: st) σ k) ∧
  xe_X12_isDay ct K R (n + 1) 9 ls st σ k = (oI st fun y st => oI st fun x st => ¬ wI y = 0 ∧ xk_X12_isDay ct K R n 10 ls (vi (dvI x y) :: st) σ k) ∧
  xe_X12_isDay ct K R (n + 1) 10 ls st σ k = (popN 3 st [] fun av rest => (catS rest ≤ 8 ∧ 1 < 2 ∧ k.1 + 0 ≤ 0 ∧ k.2 + 0 ≤ 0) ∧ (sp_X12_within) av σ fun v σ' => xk_X12_isDay ct K R n 13 ls (v.toList ++ rest) σ' (k.1 + 0, k.2 + 0)) ∧
  xe_X12_isDay ct K R (n + 1) 13 ls st σ k = (oI st fun x st => st = [] ∧ (x = 0 ∨ x = 1) ∧ R (some (vi x)) σ) :=
  ⟨exS_step.trans rfl, exS_step.trans rfl, exS_step.trans rfl, exS_step.trans rfl, exS_step.trans rfl, exS_step.trans rfl, exS_step.trans rfl, exS_step.trans rfl⟩
def M_X12_isDay : Md := (yX12_isDay, cX12_isDay, 2, (some FieldType.boolean), 2, 0, 0, 2, false, tb_X12_isDay, mt_X12_isDay)
theorem mm_X12_isDay : MMOK M_X12_isDay := ⟨by decide +kernel, tk_X12_isDay, mk_X12_isDay, rfl, fun h => by cases h⟩
theorem go_X12_isDay {Q : Option AV → Hp → Prop} {ct : Nat → Bool} {pc : Nat} {ls : List (Option AV)} {st : List AV} {σ : Hp} {k : Nat × Nat} (n : Nat) (h : xe_X12_isDay ct (Go M_X12_isDay Q) Q n pc ls st σ k) : Go M_X12_isDay Q pc ls st σ k := Go.exS mm_X12_isDay h

set_option maxRecDepth 20000 in
theorem c_X12_isDay : Ct yX12_isDay cX12_isDay 2 ((some FieldType.boolean)) 2 0 0 sp_X12_isDay := by
  refine Ct.go (M := M_X12_isDay) mm_X12_isDay fun av σ Q h0 => ?_
  obtain ⟨this, c, rfl, hk, h⟩ := el_X12_isDay h0
  clear h0
  refine ⟨Nat.le_of_ble_eq_true rfl, ?_⟩
  show Go M_X12_isDay Q 0 [some (vr this), some (vi c)] [] σ (0, 0)
  obtain ⟨rfl, hI, hr, h⟩ := h
  have hb := hI.now_s
  unfold inR at hr
  refine go_X12_isDay (ct := fun p => false) 20 ?_
  simp only [oI, oL, oR, o1, lI, lL, lR, popN, catS, gv, stL, stL2, swt, cnd, spObj, List.getElem?_cons_zero, List.getElem?_cons_succ, List.getD_cons_zero, List.getD_cons_succ, List.set_cons_zero, List.set_cons_succ, List.nil_append, List.cons_append, Option.toList, Bool.or_false, Bool.false_or, Bool.or_true, Bool.true_or, Nat.reduceBEq, Nat.reduceAdd, Nat.reduceLT, Nat.reduceLeDiff, Int.reduceAdd, Int.reduceToNat, true_and, and_true, Fin.isValue, Fin.val_zero, Fin.val_one, Fin.val_two, Fin.reduceFinMk, eq_self, Int.reduceNeg, imp_self, Nat.reduceMul, Nat.le_refl, not_true_eq_false, not_false_eq_true, List.getElem?_nil, reduceCtorEq, true_or, or_true, Classical.not_not, implies_true, or_self, wI_0, wI_1, wI_m1, b2i_w, b2i_eq0, b2i_eq1, b2i_bool, nor_self, nx_pI, kd_pI, ln_pI, fI_pI, fL_pI, fR_pI, aI_pI, aL_pI, aR_pI, nx_pL, kd_pL, ln_pL, fI_pL, fL_pL, fR_pL, aI_pL, aL_pL, aR_pL, nx_pR, kd_pR, ln_pR, fI_pR, fL_pR, fR_pR, aI_pR, aL_pR, aR_pR, nx_qI, kd_qI, ln_qI, fI_qI, fL_qI, fR_qI, aI_qI, aL_qI, aR_qI, nx_qL, kd_qL, ln_qL, fI_qL, fL_qL, fR_qL, aI_qL, aL_qL, aR_qL, nx_qR, kd_qR, ln_qR, fI_qR, fL_qR, fR_qR, aI_qR, aL_qR, aR_qR, nx_mk, kd_mk, ln_mk, fI_mk, fL_mk, fR_mk, aI_mk, aL_mk, aR_mk, false_and, and_false, if_false, if_true, and_self, Int.reduceEq, Nat.reduceEqDiff, ite_self, MLay_pI, MLay_pL, MLay_qI, MLay_qL, ev_X12_isDay, xt_X12_isDay, xf_X12_isDay, us_X12_within, hk]
  try simp (disch := omega) only [wI_id, dv_nn, rm_nn]
  exact ⟨by decide, h⟩

/-- a box goes, or will with the next tick -/
def mGoing (σ : Hp) (b : Int) : Prop := mGo σ b (fI σ 1301 61) ∨ aI σ 69 b = fI σ 1301 61 + 1

def sp_X12_isGoing : Sp := fun av σ Q => oR av fun this av => oI av fun b av => av = [] ∧ kd σ this = 13 ∧ (this = 61 ∧ MI σ ∧ (0 ≤ b ∧ b < 32) ∧ Q (some (vi (b2i (mGoing σ b)))) σ)
theorem us_X12_isGoing (this : Int) (b : Int) (σ : Hp) (Q : Option AV → Hp → Prop) : sp_X12_isGoing [vr this, vi b] σ Q = (kd σ this = 13 ∧ (this = 61 ∧ MI σ ∧ (0 ≤ b ∧ b < 32) ∧ Q (some (vi (b2i (mGoing σ b)))) σ)) := propext ⟨fun h => h.2, fun h => ⟨rfl, h⟩⟩
theorem el_X12_isGoing {av : List AV} {σ : Hp} {Q : Option AV → Hp → Prop} (h : sp_X12_isGoing av σ Q) : ∃ (this : Int) (b : Int), av = [vr this, vi b] ∧ (kd σ this = 13 ∧ (this = 61 ∧ MI σ ∧ (0 ≤ b ∧ b < 32) ∧ Q (some (vi (b2i (mGoing σ b)))) σ)) := by
  obtain ⟨this, a0, rfl, h0⟩ := oR_s h
  obtain ⟨b, a1, rfl, h1⟩ := oI_s h0
  obtain ⟨rfl, hz⟩ := h1
  exact ⟨this, b, rfl, hz⟩
theorem rc_X12_isGoing : ∀ (av : List AV) (σ : Hp) (Q : Option AV → Hp → Prop), sp_X12_isGoing av σ Q → ∃ r tl, av = vr r :: tl ∧ kd σ r = 12 + 1 := fun av σ Q h => by
  obtain ⟨this, b, rfl, hz, -⟩ := el_X12_isGoing h
  exact ⟨this, _, rfl, hz⟩

def tb_X12_isGoing : Tab := [(0, .aload_n 0, 1, (0, 0, 0, 0)), (1, .iload_n 1, 1, (0, 0, 0, 0)), (2, .aload_n 0, 1, (0, 0, 0, 0)), (3, .getfield 217, 3, (13, 1301, 0, 0)), (6, .invokevirtual 220, 3, (0, 0, 0, 0)), (9, .ifCond .ne 18, 3, (0, 0, 0, 0)), (12, .aload_n 0, 1, (0, 0, 0, 0)), (13, .getfield 31, 3, (13, 1310, 2, 0)), (16, .iload_n 1, 1, (0, 0, 0, 0)), (17, .iaload, 1, (0, 0, 0, 0)), (18, .aload_n 0, 1, (0, 0, 0, 0)), (19, .getfield 217, 3, (13, 1301, 0, 0)), (22, .iconst 1, 1, (0, 0, 0, 0)), (23, .iadd, 1, (0, 0, 0, 0)), (24, .if_icmp .ne 7, 3, (0, 0, 0, 0)), (27, .iconst 1, 1, (0, 0, 0, 0)), (28, .goto 4, 3, (0, 0, 0, 0)), (31, .iconst 0, 1, (0, 0, 0, 0)), (32, .ireturn, 1, (0, 0, 0, 0))]
set_option maxRecDepth 100000 in
theorem tk_X12_isGoing : TOK RX12 false cX12_isGoing tb_X12_isGoing := chkT_ok ft_X12 (by decide +kernel)
def mt_X12_isGoing : List (Nat × Mt) := [(1760, 3, 0, 0, 2, sp_X12_goesOn)]
theorem em_X12_isGoing : mt_X12_isGoing.lookup 1760 = some (3, 0, 0, 2, sp_X12_goesOn) := rfl
theorem mk_X12_isGoing : MOK RX12 mt_X12_isGoing := by
  intro q hq
  simp only [mt_X12_isGoing, List.mem_cons, List.not_mem_nil, or_false] at hq
  rcases hq with rfl
  · exact rw_X12_1760
noncomputable def xe_X12_isGoing (ct : Nat → Bool) (K : Kt) (R : Option AV → Hp → Prop) (n : Nat) : Kt := exS 2 3 0 0 2 tb_X12_isGoing mt_X12_isGoing ct K R n
noncomputable def xk_X12_isGoing (ct : Nat → Bool) (K : Kt) (R : Option AV → Hp → Prop) (n : Nat) : Kt := exkS 2 3 0 0 2 tb_X12_isGoing mt_X12_isGoing ct K R n
theorem xt_X12_isGoing {ct : Nat → Bool} {K : Kt} {R : Option AV → Hp → Prop} {n pc : Nat} {ls : List (Option AV)} {st : List AV} {σ : Hp} {k : Nat × Nat} (h : ct pc = true) : xk_X12_isGoing ct K R n pc ls st σ k = K pc ls st σ k := by unfold xk_X12_isGoing exkS; rw [h]
theorem xf_X12_isGoing {ct : Nat → Bool} {K : Kt} {R : Option AV → Hp → Prop} {n pc : Nat} {ls : List (Option AV)} {st : List AV} {σ : Hp} {k : Nat × Nat} (h : ct pc = false) : xk_X12_isGoing ct K R n pc ls st σ k = xe_X12_isGoing ct K R n pc ls st σ k := by unfold xk_X12_isGoing exkS xe_X12_isGoing; rw [h]
theorem ev_X12_isGoing {ct : Nat → Bool} {K : Kt} {R : Option AV → Hp → Prop} {n : Nat} {ls : List (Option AV)} {st : List AV} {σ : Hp} {k : Nat × Nat} :
  xe_X12_isGoing ct K R (n + 1) 0 ls st σ k = (lR ls 0 fun x => xk_X12_isGoing ct K R n 1 ls (vr x :: st) σ k) ∧
  xe_X12_isGoing ct K R (n + 1) 1 ls st σ k = (lI ls 1 fun x => xk_X12_isGoing ct K R n 2 ls (vi x :: st) σ k) ∧
  xe_X12_isGoing ct K R (n + 1) 2 ls st σ k = (lR ls 0 fun x => xk_X12_isGoing ct K R n 3 ls (vr x :: st) σ k) ∧
  xe_X12_isGoing ct K R (n + 1) 3 ls st σ k = (oR st fun x st => kd σ x = 13 ∧ xk_X12_isGoing ct K R n 6 ls (vi (fI σ 1301 x) :: st) σ k) ∧
  xe_X12_isGoing ct K R (n + 1) 6 ls st σ k = (popN 3 st [] fun av rest => (catS rest ≤ 8 ∧ 2 < 3 ∧ k.1 + 0 ≤ 0 ∧ k.2 + 0 ≤ 0) ∧ (sp_X12_goesOn) av σ fun v σ' => xk_X12_isGoing ct K R n 9 ls (v.toList ++ rest) σ' (k.1 + 0, k.2 + 0)) ∧
  xe_X12_isGoing ct K R (n + 1) 9 ls st σ k = (oI st fun x st => (¬ wI x = wI 0 → xk_X12_isGoing ct K R n 27 ls st σ k) ∧ (¬ (¬ wI x = wI 0) → xk_X12_isGoing ct K R n 12 ls st σ k)) ∧
  xe_X12_isGoing ct K R (n + 1) 12 ls st σ k = (lR ls 0 fun x => xk_X12_isGoing ct K R n 13 ls (vr x :: st) σ k) ∧
  xe_X12_isGoing ct K R (n + 1) 13 ls st σ k = (oR st fun x st => kd σ x = 13 ∧ xk_X12_isGoing ct K R n 16 ls (vr (fR σ 1310 x) :: st) σ k) ∧
  xe_X12_isGoing ct K R (n + 1) 16 ls st σ k = (lI ls 1 fun x => xk_X12_isGoing ct K R n 17 ls (vi x :: st) σ k) ∧
  xe_X12_isGoing ct K R (n + 1) 17 ls st σ k = (oI st fun j st => oR st fun x st => (kd σ x = 101 ∨ kd σ x = 108) ∧ (0 ≤ j ∧ j < ln σ x) ∧ xk_X12_isGoing ct K R n 18 ls (vi (aI σ x j) :: st) σ k) ∧
  xe_X12_isGoing ct K R (n + 1) 18 ls st σ k = (lR ls 0 fun x => xk_X12_isGoing ct K R n 19 ls (vr x :: st) σ k) ∧
  xe_X12_isGoing ct K R (n + 1) 19 ls st σ k = (oR st fun x st => kd σ x = 13 ∧ xk_X12_isGoing ct K R n 22 ls (vi (fI σ 1301 x) :: st) σ k) ∧
  xe_X12_isGoing ct K R (n + 1) 22 ls st σ k = (xk_X12_isGoing ct K R n 23 ls (vi (1) :: st) σ k) ∧
  xe_X12_isGoing ct K R (n + 1) 23 ls st σ k = (oI st fun y st => oI st fun x st => xk_X12_isGoing ct K R n 24 ls (vi (x + y) :: st) σ k) ∧
  xe_X12_isGoing ct K R (n + 1) 24 ls st σ k = (oI st fun y st => oI st fun x st => (¬ wI x = wI y → xk_X12_isGoing ct K R n 31 ls st σ k) ∧ (¬ (¬ wI x = wI y) → xk_X12_isGoing ct K R n 27 ls st σ k)) ∧
  xe_X12_isGoing ct K R (n + 1) 27 ls st σ k = (xk_X12_isGoing ct K R n 28 ls (vi (1) :: st) σ k) ∧
  xe_X12_isGoing ct K R (n + 1) 28 ls st σ k = (xk_X12_isGoing ct K R n 32 ls st σ k) ∧
  xe_X12_isGoing ct K R (n + 1) 31 ls st σ k = (xk_X12_isGoing ct K R n 32 ls (vi (0) :: st) σ k) ∧
  xe_X12_isGoing ct K R (n + 1) 32 ls st σ k = (oI st fun x st => st = [] ∧ (x = 0 ∨ x = 1) ∧ R (some (vi x)) σ) :=
  ⟨exS_step.trans rfl, exS_step.trans rfl, exS_step.trans rfl, exS_step.trans rfl, exS_step.trans rfl, exS_step.trans rfl, exS_step.trans rfl, exS_step.trans rfl, exS_step.trans rfl, exS_step.trans rfl, exS_step.trans rfl, exS_step.trans rfl, exS_step.trans rfl, exS_step.trans rfl, exS_step.trans rfl, exS_step.trans rfl, exS_step.trans rfl, exS_step.trans rfl, exS_step.trans rfl⟩
def M_X12_isGoing : Md := (yX12_isGoing, cX12_isGoing, 2, (some FieldType.boolean), 3, 0, 0, 2, false, tb_X12_isGoing, mt_X12_isGoing)
theorem mm_X12_isGoing : MMOK M_X12_isGoing := ⟨by decide +kernel, tk_X12_isGoing, mk_X12_isGoing, rfl, fun h => by cases h⟩
theorem go_X12_isGoing {Q : Option AV → Hp → Prop} {ct : Nat → Bool} {pc : Nat} {ls : List (Option AV)} {st : List AV} {σ : Hp} {k : Nat × Nat} (n : Nat) (h : xe_X12_isGoing ct (Go M_X12_isGoing Q) Q n pc ls st σ k) : Go M_X12_isGoing Q pc ls st σ k := Go.exS mm_X12_isGoing h

set_option maxRecDepth 20000 in
theorem c_X12_isGoing : Ct yX12_isGoing cX12_isGoing 2 ((some FieldType.boolean)) 3 0 0 sp_X12_isGoing := by
  refine Ct.go (M := M_X12_isGoing) mm_X12_isGoing fun av σ Q h0 => ?_
  obtain ⟨this, b, rfl, hk, h⟩ := el_X12_isGoing h0
  clear h0
  refine ⟨Nat.le_of_ble_eq_true rfl, ?_⟩
  show Go M_X12_isGoing Q 0 [some (vr this), some (vi b)] [] σ (0, 0)
  obtain ⟨rfl, hI, hr, h⟩ := h
  have hn := hI.now_s
  have hb := hI.began_ b
  refine go_X12_isGoing (ct := fun p => false) 30 ?_
  simp only [oI, oL, oR, o1, lI, lL, lR, popN, catS, gv, stL, stL2, swt, cnd, spObj, List.getElem?_cons_zero, List.getElem?_cons_succ, List.getD_cons_zero, List.getD_cons_succ, List.set_cons_zero, List.set_cons_succ, List.nil_append, List.cons_append, Option.toList, Bool.or_false, Bool.false_or, Bool.or_true, Bool.true_or, Nat.reduceBEq, Nat.reduceAdd, Nat.reduceLT, Nat.reduceLeDiff, Int.reduceAdd, Int.reduceToNat, true_and, and_true, Fin.isValue, Fin.val_zero, Fin.val_one, Fin.val_two, Fin.reduceFinMk, eq_self, Int.reduceNeg, imp_self, Nat.reduceMul, Nat.le_refl, not_true_eq_false, not_false_eq_true, List.getElem?_nil, reduceCtorEq, true_or, or_true, Classical.not_not, implies_true, or_self, wI_0, wI_1, wI_m1, b2i_w, b2i_eq0, b2i_eq1, b2i_bool, nor_self, nx_pI, kd_pI, ln_pI, fI_pI, fL_pI, fR_pI, aI_pI, aL_pI, aR_pI, nx_pL, kd_pL, ln_pL, fI_pL, fL_pL, fR_pL, aI_pL, aL_pL, aR_pL, nx_pR, kd_pR, ln_pR, fI_pR, fL_pR, fR_pR, aI_pR, aL_pR, aR_pR, nx_qI, kd_qI, ln_qI, fI_qI, fL_qI, fR_qI, aI_qI, aL_qI, aR_qI, nx_qL, kd_qL, ln_qL, fI_qL, fL_qL, fR_qL, aI_qL, aL_qL, aR_qL, nx_qR, kd_qR, ln_qR, fI_qR, fL_qR, fR_qR, aI_qR, aL_qR, aR_qR, nx_mk, kd_mk, ln_mk, fI_mk, fL_mk, fR_mk, aI_mk, aL_mk, aR_mk, false_and, and_false, if_false, if_true, and_self, Int.reduceEq, Nat.reduceEqDiff, ite_self, MLay_pI, MLay_pL, MLay_qI, MLay_qL, ev_X12_isGoing, xt_X12_isGoing, xf_X12_isGoing, us_X12_goesOn, hk, hI, hI.lay.eqs]
  try simp (disch := omega) only [wI_id, dv_nn, rm_nn]
  repeat' (first | intro z | apply And.intro)
  all_goals try omega
  · rw [b2i_t (p := mGoing σ b) (Or.inl (by assumption))] at h; exact h
  · rw [b2i_f (p := mGoing σ b) (fun q => q.elim (fun q => absurd q ‹¬ mGo σ b _›) (fun q => by omega))] at h; exact h
  · rw [b2i_t (p := mGoing σ b) (Or.inr (by assumption))] at h; exact h

def sp_X12_sentCount : Sp := fun av σ Q => oR av fun this av => av = [] ∧ kd σ this = 13 ∧ (this = 61 ∧ MI σ ∧ Q (some (vi (hwM (fun c => aI σ 89 c < 0) (fI σ 1335 61).toNat))) σ)
theorem us_X12_sentCount (this : Int) (σ : Hp) (Q : Option AV → Hp → Prop) : sp_X12_sentCount [vr this] σ Q = (kd σ this = 13 ∧ (this = 61 ∧ MI σ ∧ Q (some (vi (hwM (fun c => aI σ 89 c < 0) (fI σ 1335 61).toNat))) σ)) := propext ⟨fun h => h.2, fun h => ⟨rfl, h⟩⟩
theorem el_X12_sentCount {av : List AV} {σ : Hp} {Q : Option AV → Hp → Prop} (h : sp_X12_sentCount av σ Q) : ∃ (this : Int), av = [vr this] ∧ (kd σ this = 13 ∧ (this = 61 ∧ MI σ ∧ Q (some (vi (hwM (fun c => aI σ 89 c < 0) (fI σ 1335 61).toNat))) σ)) := by
  obtain ⟨this, a0, rfl, h0⟩ := oR_s h
  obtain ⟨rfl, hz⟩ := h0
  exact ⟨this, rfl, hz⟩
theorem rc_X12_sentCount : ∀ (av : List AV) (σ : Hp) (Q : Option AV → Hp → Prop), sp_X12_sentCount av σ Q → ∃ r tl, av = vr r :: tl ∧ kd σ r = 12 + 1 := fun av σ Q h => by
  obtain ⟨this, rfl, hz, -⟩ := el_X12_sentCount h
  exact ⟨this, _, rfl, hz⟩

def tb_X12_sentCount : Tab := [(0, .iconst 0, 1, (0, 0, 0, 0)), (1, .istore_n 1, 1, (0, 0, 0, 0)), (2, .iconst 0, 1, (0, 0, 0, 0)), (3, .istore_n 2, 1, (0, 0, 0, 0)), (4, .iload_n 2, 1, (0, 0, 0, 0)), (5, .aload_n 0, 1, (0, 0, 0, 0)), (6, .getfield 293, 3, (13, 1335, 0, 0)), (9, .if_icmp .ge 21, 3, (0, 0, 0, 0)), (12, .aload_n 0, 1, (0, 0, 0, 0)), (13, .getfield 93, 3, (13, 1338, 2, 0)), (16, .iload_n 2, 1, (0, 0, 0, 0)), (17, .iaload, 1, (0, 0, 0, 0)), (18, .ifCond .ge 6, 3, (0, 0, 0, 0)), (21, .iinc 1 1, 3, (0, 0, 0, 0)), (24, .iinc 2 1, 3, (0, 0, 0, 0)), (27, .goto (-23), 3, (0, 0, 0, 0)), (30, .iload_n 1, 1, (0, 0, 0, 0)), (31, .ireturn, 1, (0, 0, 0, 0))]
set_option maxRecDepth 100000 in
theorem tk_X12_sentCount : TOK RX12 false cX12_sentCount tb_X12_sentCount := chkT_ok ft_X12 (by decide +kernel)
def mt_X12_sentCount : List (Nat × Mt) := []
theorem mk_X12_sentCount : MOK RX12 mt_X12_sentCount := fun q hq => by cases hq
noncomputable def xe_X12_sentCount (ct : Nat → Bool) (K : Kt) (R : Option AV → Hp → Prop) (n : Nat) : Kt := exS 3 1 0 0 1 tb_X12_sentCount mt_X12_sentCount ct K R n
noncomputable def xk_X12_sentCount (ct : Nat → Bool) (K : Kt) (R : Option AV → Hp → Prop) (n : Nat) : Kt := exkS 3 1 0 0 1 tb_X12_sentCount mt_X12_sentCount ct K R n
theorem xt_X12_sentCount {ct : Nat → Bool} {K : Kt} {R : Option AV → Hp → Prop} {n pc : Nat} {ls : List (Option AV)} {st : List AV} {σ : Hp} {k : Nat × Nat} (h : ct pc = true) : xk_X12_sentCount ct K R n pc ls st σ k = K pc ls st σ k := by unfold xk_X12_sentCount exkS; rw [h]
theorem xf_X12_sentCount {ct : Nat → Bool} {K : Kt} {R : Option AV → Hp → Prop} {n pc : Nat} {ls : List (Option AV)} {st : List AV} {σ : Hp} {k : Nat × Nat} (h : ct pc = false) : xk_X12_sentCount ct K R n pc ls st σ k = xe_X12_sentCount ct K R n pc ls st σ k := by unfold xk_X12_sentCount exkS xe_X12_sentCount; rw [h]
theorem ev_X12_sentCount {ct : Nat → Bool} {K : Kt} {R : Option AV → Hp → Prop} {n : Nat} {ls : List (Option AV)} {st : List AV} {σ : Hp} {k : Nat × Nat} :
  xe_X12_sentCount ct K R (n + 1) 0 ls st σ k = (xk_X12_sentCount ct K R n 1 ls (vi (0) :: st) σ k) ∧
  xe_X12_sentCount ct K R (n + 1) 1 ls st σ k = (oI st fun x st => 1 < 3 ∧ xk_X12_sentCount ct K R n 2 (stL ls 1 (vi x)) st σ k) ∧
  xe_X12_sentCount ct K R (n + 1) 2 ls st σ k = (xk_X12_sentCount ct K R n 3 ls (vi (0) :: st) σ k) ∧
  xe_X12_sentCount ct K R (n + 1) 3 ls st σ k = (oI st fun x st => 2 < 3 ∧ xk_X12_sentCount ct K R n 4 (stL ls 2 (vi x)) st σ k) ∧
  xe_X12_sentCount ct K R (n + 1) 4 ls st σ k = (lI ls 2 fun x => xk_X12_sentCount ct K R n 5 ls (vi x :: st) σ k) ∧
  xe_X12_sentCount ct K R (n + 1) 5 ls st σ k = (lR ls 0 fun x => xk_X12_sentCount ct K R n 6 ls (vr x :: st) σ k) ∧
  xe_X12_sentCount ct K R (n + 1) 6 ls st σ k = (oR st fun x st => kd σ x = 13 ∧ xk_X12_sentCount ct K R n 9 ls (vi (fI σ 1335 x) :: st) σ k) ∧
  xe_X12_sentCount ct K R (n + 1) 9 ls st σ k = (oI st fun y st => oI st fun x st => (wI y ≤ wI x → xk_X12_sentCount ct K R n 30 ls st σ k) ∧ (¬ (wI y ≤ wI x) → xk_X12_sentCount ct K R n 12 ls st σ k)) ∧
  xe_X12_sentCount ct K R (n + 1) 12 ls st σ k = (lR ls 0 fun x => xk_X12_sentCount ct K R n 13 ls (vr x :: st) σ k) ∧
  xe_X12_sentCount ct K R (n + 1) 13 ls st σ k = (oR st fun x st => kd σ x = 13 ∧ xk_X12_sentCount ct K R n 16 ls (vr (fR σ 1338 x) :: st) σ k) ∧
  xe_X12_sentCount ct K R (n + 1) 16 ls st σ k = (lI ls 2 fun x => xk_X12_sentCount ct K R n 17 ls (vi x :: st) σ k) ∧
  xe_X12_sentCount ct K R (n + 1) 17 ls st σ k = (oI st fun j st => oR st fun x st => (kd σ x = 101 ∨ kd σ x = 108) ∧ (0 ≤ j ∧ j < ln σ x) ∧ xk_X12_sentCount ct K R n 18 ls (vi (aI σ x j) :: st) σ k) ∧
  xe_X12_sentCount ct K R (n + 1) 18 ls st σ k = (oI st fun x st => (wI 0 ≤ wI x → xk_X12_sentCount ct K R n 24 ls st σ k) ∧ (¬ (wI 0 ≤ wI x) → xk_X12_sentCount ct K R n 21 ls st σ k)) ∧
  xe_X12_sentCount ct K R (n + 1) 21 ls st σ k = (lI ls 1 fun x => 1 < 3 ∧ xk_X12_sentCount ct K R n 24 (stL ls 1 (vi (x + (1)))) st σ k) ∧
  xe_X12_sentCount ct K R (n + 1) 24 ls st σ k = (lI ls 2 fun x => 2 < 3 ∧ xk_X12_sentCount ct K R n 27 (stL ls 2 (vi (x + (1)))) st σ k) ∧
  xe_X12_sentCount ct K R (n + 1) 27 ls st σ k = (xk_X12_sentCount ct K R n 4 ls st σ k) ∧
  xe_X12_sentCount ct K R (n + 1) 30 ls st σ k = (lI ls 1 fun x => xk_X12_sentCount ct K R n 31 ls (vi x :: st) σ k) ∧
  xe_X12_sentCount ct K R (n + 1) 31 ls st σ k = (oI st fun x st => st = [] ∧ True ∧ R (some (vi x)) σ) :=
  ⟨exS_step.trans rfl, exS_step.trans rfl, exS_step.trans rfl, exS_step.trans rfl, exS_step.trans rfl, exS_step.trans rfl, exS_step.trans rfl, exS_step.trans rfl, exS_step.trans rfl, exS_step.trans rfl, exS_step.trans rfl, exS_step.trans rfl, exS_step.trans rfl, exS_step.trans rfl, exS_step.trans rfl, exS_step.trans rfl, exS_step.trans rfl, exS_step.trans rfl⟩
def M_X12_sentCount : Md := (yX12_sentCount, cX12_sentCount, 3, (some FieldType.int), 1, 0, 0, 1, false, tb_X12_sentCount, mt_X12_sentCount)
theorem mm_X12_sentCount : MMOK M_X12_sentCount := ⟨by decide +kernel, tk_X12_sentCount, mk_X12_sentCount, rfl, fun h => by cases h⟩
theorem go_X12_sentCount {Q : Option AV → Hp → Prop} {ct : Nat → Bool} {pc : Nat} {ls : List (Option AV)} {st : List AV} {σ : Hp} {k : Nat × Nat} (n : Nat) (h : xe_X12_sentCount ct (Go M_X12_sentCount Q) Q n pc ls st σ k) : Go M_X12_sentCount Q pc ls st σ k := Go.exS mm_X12_sentCount h

set_option maxRecDepth 20000 in
theorem c_X12_sentCount : Ct yX12_sentCount cX12_sentCount 3 ((some FieldType.int)) 1 0 0 sp_X12_sentCount := by
  refine Ct.go (M := M_X12_sentCount) mm_X12_sentCount fun av σ Q h0 => ?_
  obtain ⟨this, rfl, hk, h⟩ := el_X12_sentCount h0
  clear h0
  refine ⟨Nat.le_of_ble_eq_true rfl, ?_⟩
  show Go M_X12_sentCount Q 0 [some (vr this), none, none] [] σ (0, 0)
  obtain ⟨rfl, hI, h⟩ := h
  have hn := hI.companies_s
  have loop : ∀ (n j : Nat), (j : Int) + n = fI σ 1335 61 → Go M_X12_sentCount Q 4 [some (vr 61), some (vi (hwM (fun c => aI σ 89 c < 0) j)), some (vi j)] [] σ (0, 0) := by
    intro n
    induction n with
    | zero =>
      intro j hj
      have e : (fI σ 1335 61).toNat = j := by omega
      rw [e] at h
      refine go_X12_sentCount (ct := fun p => p == 4) 30 ?_
      simp only [oI, oL, oR, o1, lI, lL, lR, popN, catS, gv, stL, stL2, swt, cnd, spObj, List.getElem?_cons_zero, List.getElem?_cons_succ, List.getD_cons_zero, List.getD_cons_succ, List.set_cons_zero, List.set_cons_succ, List.nil_append, List.cons_append, Option.toList, Bool.or_false, Bool.false_or, Bool.or_true, Bool.true_or, Nat.reduceBEq, Nat.reduceAdd, Nat.reduceLT, Nat.reduceLeDiff, Int.reduceAdd, Int.reduceToNat, true_and, and_true, Fin.isValue, Fin.val_zero, Fin.val_one, Fin.val_two, Fin.reduceFinMk, eq_self, Int.reduceNeg, imp_self, Nat.reduceMul, Nat.le_refl, not_true_eq_false, not_false_eq_true, List.getElem?_nil, reduceCtorEq, true_or, or_true, Classical.not_not, implies_true, or_self, wI_0, wI_1, wI_m1, b2i_w, b2i_eq0, b2i_eq1, b2i_bool, nor_self, nx_pI, kd_pI, ln_pI, fI_pI, fL_pI, fR_pI, aI_pI, aL_pI, aR_pI, nx_pL, kd_pL, ln_pL, fI_pL, fL_pL, fR_pL, aI_pL, aL_pL, aR_pL, nx_pR, kd_pR, ln_pR, fI_pR, fL_pR, fR_pR, aI_pR, aL_pR, aR_pR, nx_qI, kd_qI, ln_qI, fI_qI, fL_qI, fR_qI, aI_qI, aL_qI, aR_qI, nx_qL, kd_qL, ln_qL, fI_qL, fL_qL, fR_qL, aI_qL, aL_qL, aR_qL, nx_qR, kd_qR, ln_qR, fI_qR, fL_qR, fR_qR, aI_qR, aL_qR, aR_qR, nx_mk, kd_mk, ln_mk, fI_mk, fL_mk, fR_mk, aI_mk, aL_mk, aR_mk, false_and, and_false, if_false, if_true, and_self, Int.reduceEq, Nat.reduceEqDiff, ite_self, MLay_pI, MLay_pL, MLay_qI, MLay_qL, ev_X12_sentCount, xt_X12_sentCount, xf_X12_sentCount, hk]
      try simp (disch := omega) only [wI_id, dv_nn, rm_nn]
      exact ⟨fun _ => h, fun z => absurd z (by omega)⟩
    | succ n ih =>
      intro j hj
      have ih := ih (j + 1) (by omega)
      have ha := hI.isAt_ j
      refine go_X12_sentCount (ct := fun p => p == 4) 30 ?_
      simp only [oI, oL, oR, o1, lI, lL, lR, popN, catS, gv, stL, stL2, swt, cnd, spObj, List.getElem?_cons_zero, List.getElem?_cons_succ, List.getD_cons_zero, List.getD_cons_succ, List.set_cons_zero, List.set_cons_succ, List.nil_append, List.cons_append, Option.toList, Bool.or_false, Bool.false_or, Bool.or_true, Bool.true_or, Nat.reduceBEq, Nat.reduceAdd, Nat.reduceLT, Nat.reduceLeDiff, Int.reduceAdd, Int.reduceToNat, true_and, and_true, Fin.isValue, Fin.val_zero, Fin.val_one, Fin.val_two, Fin.reduceFinMk, eq_self, Int.reduceNeg, imp_self, Nat.reduceMul, Nat.le_refl, not_true_eq_false, not_false_eq_true, List.getElem?_nil, reduceCtorEq, true_or, or_true, Classical.not_not, implies_true, or_self, wI_0, wI_1, wI_m1, b2i_w, b2i_eq0, b2i_eq1, b2i_bool, nor_self, nx_pI, kd_pI, ln_pI, fI_pI, fL_pI, fR_pI, aI_pI, aL_pI, aR_pI, nx_pL, kd_pL, ln_pL, fI_pL, fL_pL, fR_pL, aI_pL, aL_pL, aR_pL, nx_pR, kd_pR, ln_pR, fI_pR, fL_pR, fR_pR, aI_pR, aL_pR, aR_pR, nx_qI, kd_qI, ln_qI, fI_qI, fL_qI, fR_qI, aI_qI, aL_qI, aR_qI, nx_qL, kd_qL, ln_qL, fI_qL, fL_qL, fR_qL, aI_qL, aL_qL, aR_qL, nx_qR, kd_qR, ln_qR, fI_qR, fL_qR, fR_qR, aI_qR, aL_qR, aR_qR, nx_mk, kd_mk, ln_mk, fI_mk, fL_mk, fR_mk, aI_mk, aL_mk, aR_mk, false_and, and_false, if_false, if_true, and_self, Int.reduceEq, Nat.reduceEqDiff, ite_self, MLay_pI, MLay_pL, MLay_qI, MLay_qL, ev_X12_sentCount, xt_X12_sentCount, xf_X12_sentCount, hk, hI.lay.eqs]
      try simp (disch := omega) only [wI_id, dv_nn, rm_nn]
      repeat' (first | intro z | apply And.intro)
      all_goals try omega
      · rw [hwM_f (by omega)] at ih; exact ih
      · rw [hwM_t (by omega)] at ih; exact ih
  refine go_X12_sentCount (ct := fun p => p == 4) 30 ?_
  simp only [oI, oL, oR, o1, lI, lL, lR, popN, catS, gv, stL, stL2, swt, cnd, spObj, List.getElem?_cons_zero, List.getElem?_cons_succ, List.getD_cons_zero, List.getD_cons_succ, List.set_cons_zero, List.set_cons_succ, List.nil_append, List.cons_append, Option.toList, Bool.or_false, Bool.false_or, Bool.or_true, Bool.true_or, Nat.reduceBEq, Nat.reduceAdd, Nat.reduceLT, Nat.reduceLeDiff, Int.reduceAdd, Int.reduceToNat, true_and, and_true, Fin.isValue, Fin.val_zero, Fin.val_one, Fin.val_two, Fin.reduceFinMk, eq_self, Int.reduceNeg, imp_self, Nat.reduceMul, Nat.le_refl, not_true_eq_false, not_false_eq_true, List.getElem?_nil, reduceCtorEq, true_or, or_true, Classical.not_not, implies_true, or_self, wI_0, wI_1, wI_m1, b2i_w, b2i_eq0, b2i_eq1, b2i_bool, nor_self, nx_pI, kd_pI, ln_pI, fI_pI, fL_pI, fR_pI, aI_pI, aL_pI, aR_pI, nx_pL, kd_pL, ln_pL, fI_pL, fL_pL, fR_pL, aI_pL, aL_pL, aR_pL, nx_pR, kd_pR, ln_pR, fI_pR, fL_pR, fR_pR, aI_pR, aL_pR, aR_pR, nx_qI, kd_qI, ln_qI, fI_qI, fL_qI, fR_qI, aI_qI, aL_qI, aR_qI, nx_qL, kd_qL, ln_qL, fI_qL, fL_qL, fR_qL, aI_qL, aL_qL, aR_qL, nx_qR, kd_qR, ln_qR, fI_qR, fL_qR, fR_qR, aI_qR, aL_qR, aR_qR, nx_mk, kd_mk, ln_mk, fI_mk, fL_mk, fR_mk, aI_mk, aL_mk, aR_mk, false_and, and_false, if_false, if_true, and_self, Int.reduceEq, Nat.reduceEqDiff, ite_self, MLay_pI, MLay_pL, MLay_qI, MLay_qL, ev_X12_sentCount, xt_X12_sentCount, xf_X12_sentCount]
  exact loop (fI σ 1335 61).toNat 0 (by omega)

/-- what is known of an alarm on a day, of the first words -/
noncomputable def mKn (σ : Hp) (a d : Int) : Nat → Int
  | 0 => if aI σ 112 a = 0 then 2 else if aI σ 114 a ≤ d then (if aI σ 113 a = 0 then 0 else 1) else 2
  | n + 1 => if aI σ 117 n = a ∧ aI σ 119 n ≤ d then (if aI σ 118 n = 0 then 0 else 1) else mKn σ a d n
theorem mKn_in (σ : Hp) (a d : Int) : ∀ n, 0 ≤ mKn σ a d n ∧ mKn σ a d n ≤ 2
  | 0 => by unfold mKn; repeat' (first | omega | split)
  | n + 1 => by
    have := mKn_in σ a d n
    unfold mKn; repeat' (first | omega | split)

def sp_X12_knownOf : Sp := fun av σ Q => oR av fun this av => oI av fun a av => oI av fun d av => av = [] ∧ kd σ this = 13 ∧ (this = 61 ∧ MI σ ∧ (0 ≤ a ∧ a < 100) ∧ inR d ∧ Q (some (vi (mKn σ a d (fI σ 1380 61).toNat))) σ)
theorem us_X12_knownOf (this : Int) (a : Int) (d : Int) (σ : Hp) (Q : Option AV → Hp → Prop) : sp_X12_knownOf [vr this, vi a, vi d] σ Q = (kd σ this = 13 ∧ (this = 61 ∧ MI σ ∧ (0 ≤ a ∧ a < 100) ∧ inR d ∧ Q (some (vi (mKn σ a d (fI σ 1380 61).toNat))) σ)) := propext ⟨fun h => h.2, fun h => ⟨rfl, h⟩⟩
theorem el_X12_knownOf {av : List AV} {σ : Hp} {Q : Option AV → Hp → Prop} (h : sp_X12_knownOf av σ Q) : ∃ (this : Int) (a : Int) (d : Int), av = [vr this, vi a, vi d] ∧ (kd σ this = 13 ∧ (this = 61 ∧ MI σ ∧ (0 ≤ a ∧ a < 100) ∧ inR d ∧ Q (some (vi (mKn σ a d (fI σ 1380 61).toNat))) σ)) := by
  obtain ⟨this, a0, rfl, h0⟩ := oR_s h
  obtain ⟨a, a1, rfl, h1⟩ := oI_s h0
  obtain ⟨d, a2, rfl, h2⟩ := oI_s h1
  obtain ⟨rfl, hz⟩ := h2
  exact ⟨this, a, d, rfl, hz⟩
theorem rc_X12_knownOf : ∀ (av : List AV) (σ : Hp) (Q : Option AV → Hp → Prop), sp_X12_knownOf av σ Q → ∃ r tl, av = vr r :: tl ∧ kd σ r = 12 + 1 := fun av σ Q h => by
  obtain ⟨this, a, d, rfl, hz, -⟩ := el_X12_knownOf h
  exact ⟨this, _, rfl, hz⟩

def tb_X12_knownOf : Tab := [(0, .iconst 2, 1, (0, 0, 0, 0)), (1, .istore_n 3, 1, (0, 0, 0, 0)), (2, .aload_n 0, 1, (0, 0, 0, 0)), (3, .getfield 162, 3, (13, 1375, 2, 0)), (6, .iload_n 1, 1, (0, 0, 0, 0)), (7, .baload, 1, (0, 0, 0, 0)), (8, .ifCond .eq 28, 3, (0, 0, 0, 0)), (11, .aload_n 0, 1, (0, 0, 0, 0)), (12, .getfield 168, 3, (13, 1377, 2, 0)), (15, .iload_n 1, 1, (0, 0, 0, 0)), (16, .iaload, 1, (0, 0, 0, 0)), (17, .iload_n 2, 1, (0, 0, 0, 0)), (18, .if_icmp .gt 18, 3, (0, 0, 0, 0)), (21, .aload_n 0, 1, (0, 0, 0, 0)), (22, .getfield 165, 3, (13, 1376, 2, 0)), (25, .iload_n 1, 1, (0, 0, 0, 0)), (26, .baload, 1, (0, 0, 0, 0)), (27, .ifCond .eq 7, 3, (0, 0, 0, 0)), (30, .iconst 1, 1, (0, 0, 0, 0)), (31, .goto 4, 3, (0, 0, 0, 0)), (34, .iconst 0, 1, (0, 0, 0, 0)), (35, .istore_n 3, 1, (0, 0, 0, 0)), (36, .iconst 0, 1, (0, 0, 0, 0)), (37, .istore 4, 2, (0, 0, 0, 0)), (39, .iload 4, 2, (0, 0, 0, 0)), (41, .aload_n 0, 1, (0, 0, 0, 0)), (42, .getfield 469, 3, (13, 1380, 0, 0)), (45, .if_icmp .ge 47, 3, (0, 0, 0, 0)), (48, .aload_n 0, 1, (0, 0, 0, 0)), (49, .getfield 177, 3, (13, 1381, 2, 0)), (52, .iload 4, 2, (0, 0, 0, 0)), (54, .iaload, 1, (0, 0, 0, 0)), (55, .iload_n 1, 1, (0, 0, 0, 0)), (56, .if_icmp .ne 30, 3, (0, 0, 0, 0)), (59, .aload_n 0, 1, (0, 0, 0, 0)), (60, .getfield 183, 3, (13, 1383, 2, 0)), (63, .iload 4, 2, (0, 0, 0, 0)), (65, .iaload, 1, (0, 0, 0, 0)), (66, .iload_n 2, 1, (0, 0, 0, 0)), (67, .if_icmp .gt 19, 3, (0, 0, 0, 0)), (70, .aload_n 0, 1, (0, 0, 0, 0)), (71, .getfield 180, 3, (13, 1382, 2, 0)), (74, .iload 4, 2, (0, 0, 0, 0)), (76, .baload, 1, (0, 0, 0, 0)), (77, .ifCond .eq 7, 3, (0, 0, 0, 0)), (80, .iconst 1, 1, (0, 0, 0, 0)), (81, .goto 4, 3, (0, 0, 0, 0)), (84, .iconst 0, 1, (0, 0, 0, 0)), (85, .istore_n 3, 1, (0, 0, 0, 0)), (86, .iinc 4 1, 3, (0, 0, 0, 0)), (89, .goto (-50), 3, (0, 0, 0, 0)), (92, .iload_n 3, 1, (0, 0, 0, 0)), (93, .ireturn, 1, (0, 0, 0, 0))]
set_option maxRecDepth 100000 in
theorem tk_X12_knownOf : TOK RX12 false cX12_knownOf tb_X12_knownOf := chkT_ok ft_X12 (by decide +kernel)
def mt_X12_knownOf : List (Nat × Mt) := []
theorem mk_X12_knownOf : MOK RX12 mt_X12_knownOf := fun q hq => by cases hq
noncomputable def xe_X12_knownOf (ct : Nat → Bool) (K : Kt) (R : Option AV → Hp → Prop) (n : Nat) : Kt := exS 5 1 0 0 1 tb_X12_knownOf mt_X12_knownOf ct K R n
noncomputable def xk_X12_knownOf (ct : Nat → Bool) (K : Kt) (R : Option AV → Hp → Prop) (n : Nat) : Kt := exkS 5 1 0 0 1 tb_X12_knownOf mt_X12_knownOf ct K R n
theorem xt_X12_knownOf {ct : Nat → Bool} {K : Kt} {R : Option AV → Hp → Prop} {n pc : Nat} {ls : List (Option AV)} {st : List AV} {σ : Hp} {k : Nat × Nat} (h : ct pc = true) : xk_X12_knownOf ct K R n pc ls st σ k = K pc ls st σ k := by unfold xk_X12_knownOf exkS; rw [h]
theorem xf_X12_knownOf {ct : Nat → Bool} {K : Kt} {R : Option AV → Hp → Prop} {n pc : Nat} {ls : List (Option AV)} {st : List AV} {σ : Hp} {k : Nat × Nat} (h : ct pc = false) : xk_X12_knownOf ct K R n pc ls st σ k = xe_X12_knownOf ct K R n pc ls st σ k := by unfold xk_X12_knownOf exkS xe_X12_knownOf; rw [h]
theorem ev_X12_knownOf {ct : Nat → Bool} {K : Kt} {R : Option AV → Hp → Prop} {n : Nat} {ls : List (Option AV)} {st : List AV} {σ : Hp} {k : Nat × Nat} :
  xe_X12_knownOf ct K R (n + 1) 0 ls st σ k = (xk_X12_knownOf ct K R n 1 ls (vi (2) :: st) σ k) ∧
  xe_X12_knownOf ct K R (n + 1) 1 ls st σ k = (oI st fun x st => 3 < 5 ∧ xk_X12_knownOf ct K R n 2 (stL ls 3 (vi x)) st σ k) ∧
  xe_X12_knownOf ct K R (n + 1) 2 ls st σ k = (lR ls 0 fun x => xk_X12_knownOf ct K R n 3 ls (vr x :: st) σ k) ∧
  xe_X12_knownOf ct K R (n + 1) 3 ls st σ k = (oR st fun x st => kd σ x = 13 ∧ xk_X12_knownOf ct K R n 6 ls (vr (fR σ 1375 x) :: st) σ k) ∧
  xe_X12_knownOf ct K R (n + 1) 6 ls st σ k = (lI ls 1 fun x => xk_X12_knownOf ct K R n 7 ls (vi x :: st) σ k) ∧
  xe_X12_knownOf ct K R (n + 1) 7 ls st σ k = (oI st fun j st => oR st fun x st => (kd σ x = 103 ∨ kd σ x = 21) ∧ (0 ≤ j ∧ j < ln σ x) ∧ xk_X12_knownOf ct K R n 8 ls (vi (aI σ x j) :: st) σ k) ∧
  xe_X12_knownOf ct K R (n + 1) 8 ls st σ k = (oI st fun x st => (wI x = wI 0 → xk_X12_knownOf ct K R n 36 ls st σ k) ∧ (¬ (wI x = wI 0) → xk_X12_knownOf ct K R n 11 ls st σ k)) ∧
  xe_X12_knownOf ct K R (n + 1) 11 ls st σ k = (lR ls 0 fun x => xk_X12_knownOf ct K R n 12 ls (vr x :: st) σ k) ∧
  xe_X12_knownOf ct K R (n + 1) 12 ls st σ k = (oR st fun x st => kd σ x = 13 ∧ xk_X12_knownOf ct K R n 15 ls (vr (fR σ 1377 x) :: st) σ k) ∧
  xe_X12_knownOf ct K R (n + 1) 15 ls st σ k = (lI ls 1 fun x => xk_X12_knownOf ct K R n 16 ls (vi x :: st) σ k) ∧
  xe_X12_knownOf ct K R (n + 1) 16 ls st σ k = (oI st fun j st => oR st fun x st => (kd σ x = 101 ∨ kd σ x = 108) ∧ (0 ≤ j ∧ j < ln σ x) ∧ xk_X12_knownOf ct K R n 17 ls (vi (aI σ x j) :: st) σ k) ∧
  xe_X12_knownOf ct K R (n + 1) 17 ls st σ k = (lI ls 2 fun x => xk_X12_knownOf ct K R n 18 ls (vi x :: st) σ k) ∧
  xe_X12_knownOf ct K R (n + 1) 18 ls st σ k = (oI st fun y st => oI st fun x st => (wI y < wI x → xk_X12_knownOf ct K R n 36 ls st σ k) ∧ (¬ (wI y < wI x) → xk_X12_knownOf ct K R n 21 ls st σ k)) ∧
  xe_X12_knownOf ct K R (n + 1) 21 ls st σ k = (lR ls 0 fun x => xk_X12_knownOf ct K R n 22 ls (vr x :: st) σ k) ∧
  xe_X12_knownOf ct K R (n + 1) 22 ls st σ k = (oR st fun x st => kd σ x = 13 ∧ xk_X12_knownOf ct K R n 25 ls (vr (fR σ 1376 x) :: st) σ k) ∧
  xe_X12_knownOf ct K R (n + 1) 25 ls st σ k = (lI ls 1 fun x => xk_X12_knownOf ct K R n 26 ls (vi x :: st) σ k) ∧
  xe_X12_knownOf ct K R (n + 1) 26 ls st σ k = (oI st fun j st => oR st fun x st => (kd σ x = 103 ∨ kd σ x = 21) ∧ (0 ≤ j ∧ j < ln σ x) ∧ xk_X12_knownOf ct K R n 27 ls (vi (aI σ x j) :: st) σ k) ∧
  xe_X12_knownOf ct K R (n + 1) 27 ls st σ k = (oI st fun x st => (wI x = wI 0 → xk_X12_knownOf ct K R n 34 ls st σ k) ∧ (¬ (wI x = wI 0) → xk_X12_knownOf ct K R n 30 ls st σ k)) ∧
  xe_X12_knownOf ct K R (n + 1) 30 ls st σ k = (xk_X12_knownOf ct K R n 31 ls (vi (1) :: st) σ k) ∧
  xe_X12_knownOf ct K R (n + 1) 31 ls st σ k = (xk_X12_knownOf ct K R n 35 ls st σ k) ∧
  xe_X12_knownOf ct K R (n + 1) 34 ls st σ k = (xk_X12_knownOf ct K R n 35 ls (vi (0) :: st) σ k) ∧
  xe_X12_knownOf ct K R (n + 1) 35 ls st σ k = (oI st fun x st => 3 < 5 ∧ xk_X12_knownOf ct K R n 36 (stL ls 3 (vi x)) st σ k) ∧
  xe_X12_knownOf ct K R (n + 1) 36 ls st σ k = (xk_X12_knownOf ct K R n 37 ls (vi (0) :: st) σ k) ∧
  xe_X12_knownOf ct K R (n + 1) 37 ls st σ k = (oI st fun x st => 4 < 5 ∧ xk_X12_knownOf ct K R n 39 (stL ls 4 (vi x)) st σ k) ∧
  xe_X12_knownOf ct K R (n + 1) 39 ls st σ k = (lI ls 4 fun x => xk_X12_knownOf ct K R n 41 ls (vi x :: st) σ k) ∧
  xe_X12_knownOf ct K R (n + 1) 41 ls st σ k = (lR ls 0 fun x => xk_X12_knownOf ct K R n 42 ls (vr x :: st) σ k) ∧
  xe_X12_knownOf ct K R (n + 1) 42 ls st σ k = (oR st fun x st => kd σ x = 13 ∧ xk_X12_knownOf ct K R n 45 ls (vi (fI σ 1380 x) :: st) σ k) ∧
  xe_X12_knownOf ct K R (n + 1) 45 ls st σ k = (oI st fun y st => oI st fun x st => (wI y ≤ wI x → xk_X12_knownOf ct K R n 92 ls st σ k) ∧ (¬ (wI y ≤ wI x) → xk_X12_knownOf ct K R n 48 ls st σ k)) ∧
  xe_X12_knownOf ct K R (n + 1) 48 ls st σ k = (lR ls 0 fun x => xk_X12_knownOf ct K R n 49 ls (vr x :: st) σ k) ∧
  xe_X12_knownOf ct K R (n + 1) 49 ls st σ k = (oR st fun x st => kd σ x = 13 ∧ xk_X12_knownOf ct K R n 52 ls (vr (fR σ 1381 x) :: st) σ k) ∧
  xe_X12_knownOf ct K R (n + 1) 52 ls st σ k = (lI ls 4 fun x => xk_X12_knownOf ct K R n 54 ls (vi x :: st) σ k) ∧
  xe_X12_knownOf ct K R (n + 1) 54 ls st σ k = (oI st fun j st => oR st fun x st => (kd σ x = 101 ∨ kd σ x = 108) ∧ (0 ≤ j ∧ j < ln σ x) ∧ xk_X12_knownOf ct K R n 55 ls (vi (aI σ x j) :: st) σ k) ∧
  xe_X12_knownOf ct K R (n + 1) 55 ls st σ k = (lI ls 1 fun x => xk_X12_knownOf ct K R n 56 ls (vi x :: st) σ k) ∧
  xe_X12_knownOf ct K R (n + 1) 56 ls st σ k = (oI st fun y st => oI st fun x st => (¬ wI x = wI y → xk_X12_knownOf ct K R n 86 ls st σ k) ∧ (¬ (¬ wI x = wI y) → xk_X12_knownOf ct K R n 59 ls st σ k)) ∧
  xe_X12_knownOf ct K R (n + 1) 59 ls st σ k = (lR ls 0 fun x => xk_X12_knownOf ct K R n 60 ls (vr x :: st) σ k) ∧
  xe_X12_knownOf ct K R (n + 1) 60 ls st σ k = (oR st fun x st => kd σ x = 13 ∧ xk_X12_knownOf ct K R n 63 ls (vr (fR σ 1383 x) :: st) σ k) ∧
  xe_X12_knownOf ct K R (n + 1) 63 ls st σ k = (lI ls 4 fun x => xk_X12_knownOf ct K R n 65 ls (vi x :: st) σ k) ∧
  xe_X12_knownOf ct K R (n + 1) 65 ls st σ k = (oI st fun j st => oR st fun x st => (kd σ x = 101 ∨ kd σ x = 108) ∧ (0 ≤ j ∧ j < ln σ x) ∧ xk_X12_knownOf ct K R n 66 ls (vi (aI σ x j) :: st) σ k) ∧
  xe_X12_knownOf ct K R (n + 1) 66 ls st σ k = (lI ls 2 fun x => xk_X12_knownOf ct K R n 67 ls (vi x :: st) σ k) ∧
  xe_X12_knownOf ct K R (n + 1) 67 ls st σ k = (oI st fun y st => oI st fun x st => (wI y < wI x → xk_X12_knownOf ct K R n 86 ls st σ k) ∧ (¬ (wI y < wI x) → xk_X12_knownOf ct K R n 70 ls st σ k)) ∧
  xe_X12_knownOf ct K R (n + 1) 70 ls st σ k = (lR ls 0 fun x => xk_X12_knownOf ct K R n 71 ls (vr x :: st) σ k) ∧
  xe_X12_knownOf ct K R (n + 1) 71 ls st σ k = (oR st fun x st => kd σ x = 13 ∧ xk_X12_knownOf ct K R n 74 ls (vr (fR σ 1382 x) :: st) σ k) ∧
  xe_X12_knownOf ct K R (n + 1) 74 ls st σ k = (lI ls 4 fun x => xk_X12_knownOf ct K R n 76 ls (vi x :: st) σ k) ∧
  xe_X12_knownOf ct K R (n + 1) 76 ls st σ k = (oI st fun j st => oR st fun x st => (kd σ x = 103 ∨ kd σ x = 21) ∧ (0 ≤ j ∧ j < ln σ x) ∧ xk_X12_knownOf ct K R n 77 ls (vi (aI σ x j) :: st) σ k) ∧
  xe_X12_knownOf ct K R (n + 1) 77 ls st σ k = (oI st fun x st => (wI x = wI 0 → xk_X12_knownOf ct K R n 84 ls st σ k) ∧ (¬ (wI x = wI 0) → xk_X12_knownOf ct K R n 80 ls st σ k)) ∧
  xe_X12_knownOf ct K R (n + 1) 80 ls st σ k = (xk_X12_knownOf ct K R n 81 ls (vi (1) :: st) σ k) ∧
  xe_X12_knownOf ct K R (n + 1) 81 ls st σ k = (xk_X12_knownOf ct K R n 85 ls st σ k) ∧
  xe_X12_knownOf ct K R (n + 1) 84 ls st σ k = (xk_X12_knownOf ct K R n 85 ls (vi (0) :: st) σ k) ∧
  xe_X12_knownOf ct K R (n + 1) 85 ls st σ k = (oI st fun x st => 3 < 5 ∧ xk_X12_knownOf ct K R n 86 (stL ls 3 (vi x)) st σ k) ∧
  xe_X12_knownOf ct K R (n + 1) 86 ls st σ k = (lI ls 4 fun x => 4 < 5 ∧ xk_X12_knownOf ct K R n 89 (stL ls 4 (vi (x + (1)))) st σ k) ∧
  xe_X12_knownOf ct K R (n + 1) 89 ls st σ k = (xk_X12_knownOf ct K R n 39 ls st σ k) ∧
  xe_X12_knownOf ct K R (n + 1) 92 ls st σ k = (lI ls 3 fun x => xk_X12_knownOf ct K R n 93 ls (vi x :: st) σ k) ∧
  xe_X12_knownOf ct K R (n + 1) 93 ls st σ k = (oI st fun x st => st = [] ∧ True ∧ R (some (vi x)) σ) :=
  ⟨exS_step.trans rfl, exS_step.trans rfl, exS_step.trans rfl, exS_step.trans rfl, exS_step.trans rfl, exS_step.trans rfl, exS_step.trans rfl, exS_step.trans rfl, exS_step.trans rfl, exS_step.trans rfl, exS_step.trans rfl, exS_step.trans rfl, exS_step.trans rfl, exS_step.trans rfl, exS_step.trans rfl, exS_step.trans rfl, exS_step.trans rfl, exS_step.trans rfl, exS_step.trans rfl, exS_step.trans rfl, exS_step.trans rfl, exS_step.trans rfl, exS_step.trans rfl, exS_step.trans rfl, exS_step.trans rfl, exS_step.trans rfl, exS_step.trans rfl, exS_step.trans rfl, exS_step.trans rfl, exS_step.trans rfl, exS_step.trans rfl, exS_step.trans rfl, exS_step.trans rfl, exS_step.trans rfl, exS_step.trans rfl, exS_step.trans rfl, exS_step.trans rfl, exS_step.trans rfl, exS_step.trans rfl, exS_step.trans rfl, exS_step.trans rfl, exS_step.trans rfl, exS_step.trans rfl, exS_step.trans rfl, exS_step.trans rfl, exS_step.trans rfl, exS_step.trans rfl, exS_step.trans rfl, exS_step.trans rfl, exS_step.trans rfl, exS_step.trans rfl, exS_step.trans rfl, exS_step.trans rfl⟩
def M_X12_knownOf : Md := (yX12_knownOf, cX12_knownOf, 5, (some FieldType.int), 1, 0, 0, 1, false, tb_X12_knownOf, mt_X12_knownOf)
theorem mm_X12_knownOf : MMOK M_X12_knownOf := ⟨by decide +kernel, tk_X12_knownOf, mk_X12_knownOf, rfl, fun h => by cases h⟩
theorem go_X12_knownOf {Q : Option AV → Hp → Prop} {ct : Nat → Bool} {pc : Nat} {ls : List (Option AV)} {st : List AV} {σ : Hp} {k : Nat × Nat} (n : Nat) (h : xe_X12_knownOf ct (Go M_X12_knownOf Q) Q n pc ls st σ k) : Go M_X12_knownOf Q pc ls st σ k := Go.exS mm_X12_knownOf h

set_option maxRecDepth 20000 in
theorem c_X12_knownOf : Ct yX12_knownOf cX12_knownOf 5 ((some FieldType.int)) 1 0 0 sp_X12_knownOf := by
  refine Ct.go (M := M_X12_knownOf) mm_X12_knownOf fun av σ Q h0 => ?_
  obtain ⟨this, a, d, rfl, hk, h⟩ := el_X12_knownOf h0
  clear h0
  refine ⟨Nat.le_of_ble_eq_true rfl, ?_⟩
  show Go M_X12_knownOf Q 0 [some (vr this), some (vi a), some (vi d), none, none] [] σ (0, 0)
  obtain ⟨rfl, hI, ha, hd, h⟩ := h
  unfold inR at hd
  have hn := hI.words_s
  have hx1 := hI.overDay_ a
  have hx2 := hI.isOver_ a
  have hx3 := hI.overTrue_ a
  have loop : ∀ (n j : Nat), (j : Int) + n = fI σ 1380 61 → Go M_X12_knownOf Q 39 [some (vr 61), some (vi a), some (vi d), some (vi (mKn σ a d j)), some (vi j)] [] σ (0, 0) := by
    intro n
    induction n with
    | zero =>
      intro j hj
      have e : (fI σ 1380 61).toNat = j := by omega
      rw [e] at h
      refine go_X12_knownOf (ct := fun p => p == 39) 30 ?_
      simp only [oI, oL, oR, o1, lI, lL, lR, popN, catS, gv, stL, stL2, swt, cnd, spObj, List.getElem?_cons_zero, List.getElem?_cons_succ, List.getD_cons_zero, List.getD_cons_succ, List.set_cons_zero, List.set_cons_succ, List.nil_append, List.cons_append, Option.toList, Bool.or_false, Bool.false_or, Bool.or_true, Bool.true_or, Nat.reduceBEq, Nat.reduceAdd, Nat.reduceLT, Nat.reduceLeDiff, Int.reduceAdd, Int.reduceToNat, true_and, and_true, Fin.isValue, Fin.val_zero, Fin.val_one, Fin.val_two, Fin.reduceFinMk, eq_self, Int.reduceNeg, imp_self, Nat.reduceMul, Nat.le_refl, not_true_eq_false, not_false_eq_true, List.getElem?_nil, reduceCtorEq, true_or, or_true, Classical.not_not, implies_true, or_self, wI_0, wI_1, wI_m1, b2i_w, b2i_eq0, b2i_eq1, b2i_bool, nor_self, nx_pI, kd_pI, ln_pI, fI_pI, fL_pI, fR_pI, aI_pI, aL_pI, aR_pI, nx_pL, kd_pL, ln_pL, fI_pL, fL_pL, fR_pL, aI_pL, aL_pL, aR_pL, nx_pR, kd_pR, ln_pR, fI_pR, fL_pR, fR_pR, aI_pR, aL_pR, aR_pR, nx_qI, kd_qI, ln_qI, fI_qI, fL_qI, fR_qI, aI_qI, aL_qI, aR_qI, nx_qL, kd_qL, ln_qL, fI_qL, fL_qL, fR_qL, aI_qL, aL_qL, aR_qL, nx_qR, kd_qR, ln_qR, fI_qR, fL_qR, fR_qR, aI_qR, aL_qR, aR_qR, nx_mk, kd_mk, ln_mk, fI_mk, fL_mk, fR_mk, aI_mk, aL_mk, aR_mk, false_and, and_false, if_false, if_true, and_self, Int.reduceEq, Nat.reduceEqDiff, ite_self, MLay_pI, MLay_pL, MLay_qI, MLay_qL, ev_X12_knownOf, xt_X12_knownOf, xf_X12_knownOf, hk]
      try simp (disch := omega) only [wI_id, dv_nn, rm_nn]
      exact ⟨fun _ => h, fun z => absurd z (by omega)⟩
    | succ n ih =>
      intro j hj
      have ih := ih (j + 1) (by omega)
      have h1 := hI.wordAlarm_ j
      have h2 := hI.wordDay_ j
      have h3 := hI.wordTrue_ j
      simp only [mKn, Int.natCast_add, Int.cast_ofNat_Int] at ih
      refine go_X12_knownOf (ct := fun p => p == 39) 30 ?_
      simp only [oI, oL, oR, o1, lI, lL, lR, popN, catS, gv, stL, stL2, swt, cnd, spObj, List.getElem?_cons_zero, List.getElem?_cons_succ, List.getD_cons_zero, List.getD_cons_succ, List.set_cons_zero, List.set_cons_succ, List.nil_append, List.cons_append, Option.toList, Bool.or_false, Bool.false_or, Bool.or_true, Bool.true_or, Nat.reduceBEq, Nat.reduceAdd, Nat.reduceLT, Nat.reduceLeDiff, Int.reduceAdd, Int.reduceToNat, true_and, and_true, Fin.isValue, Fin.val_zero, Fin.val_one, Fin.val_two, Fin.reduceFinMk, eq_self, Int.reduceNeg, imp_self, Nat.reduceMul, Nat.le_refl, not_true_eq_false, not_false_eq_true, List.getElem?_nil, reduceCtorEq, true_or, or_true, Classical.not_not, implies_true, or_self, wI_0, wI_1, wI_m1, b2i_w, b2i_eq0, b2i_eq1, b2i_bool, nor_self, nx_pI, kd_pI, ln_pI, fI_pI, fL_pI, fR_pI, aI_pI, aL_pI, aR_pI, nx_pL, kd_pL, ln_pL, fI_pL, fL_pL, fR_pL, aI_pL, aL_pL, aR_pL, nx_pR, kd_pR, ln_pR, fI_pR, fL_pR, fR_pR, aI_pR, aL_pR, aR_pR, nx_qI, kd_qI, ln_qI, fI_qI, fL_qI, fR_qI, aI_qI, aL_qI, aR_qI, nx_qL, kd_qL, ln_qL, fI_qL, fL_qL, fR_qL, aI_qL, aL_qL, aR_qL, nx_qR, kd_qR, ln_qR, fI_qR, fL_qR, fR_qR, aI_qR, aL_qR, aR_qR, nx_mk, kd_mk, ln_mk, fI_mk, fL_mk, fR_mk, aI_mk, aL_mk, aR_mk, false_and, and_false, if_false, if_true, and_self, Int.reduceEq, Nat.reduceEqDiff, ite_self, MLay_pI, MLay_pL, MLay_qI, MLay_qL, ev_X12_knownOf, xt_X12_knownOf, xf_X12_knownOf, hk, hI.lay.eqs]
      try simp (disch := omega) only [wI_id, dv_nn, rm_nn]
      repeat' (first | intro z | apply And.intro)
      all_goals try omega
      all_goals grind
  have l0 := loop (fI σ 1380 61).toNat 0 (by omega)
  simp only [mKn, Int.cast_ofNat_Int] at l0
  refine go_X12_knownOf (ct := fun p => p == 39) 30 ?_
  simp only [oI, oL, oR, o1, lI, lL, lR, popN, catS, gv, stL, stL2, swt, cnd, spObj, List.getElem?_cons_zero, List.getElem?_cons_succ, List.getD_cons_zero, List.getD_cons_succ, List.set_cons_zero, List.set_cons_succ, List.nil_append, List.cons_append, Option.toList, Bool.or_false, Bool.false_or, Bool.or_true, Bool.true_or, Nat.reduceBEq, Nat.reduceAdd, Nat.reduceLT, Nat.reduceLeDiff, Int.reduceAdd, Int.reduceToNat, true_and, and_true, Fin.isValue, Fin.val_zero, Fin.val_one, Fin.val_two, Fin.reduceFinMk, eq_self, Int.reduceNeg, imp_self, Nat.reduceMul, Nat.le_refl, not_true_eq_false, not_false_eq_true, List.getElem?_nil, reduceCtorEq, true_or, or_true, Classical.not_not, implies_true, or_self, wI_0, wI_1, wI_m1, b2i_w, b2i_eq0, b2i_eq1, b2i_bool, nor_self, nx_pI, kd_pI, ln_pI, fI_pI, fL_pI, fR_pI, aI_pI, aL_pI, aR_pI, nx_pL, kd_pL, ln_pL, fI_pL, fL_pL, fR_pL, aI_pL, aL_pL, aR_pL, nx_pR, kd_pR, ln_pR, fI_pR, fL_pR, fR_pR, aI_pR, aL_pR, aR_pR, nx_qI, kd_qI, ln_qI, fI_qI, fL_qI, fR_qI, aI_qI, aL_qI, aR_qI, nx_qL, kd_qL, ln_qL, fI_qL, fL_qL, fR_qL, aI_qL, aL_qL, aR_qL, nx_qR, kd_qR, ln_qR, fI_qR, fL_qR, fR_qR, aI_qR, aL_qR, aR_qR, nx_mk, kd_mk, ln_mk, fI_mk, fL_mk, fR_mk, aI_mk, aL_mk, aR_mk, false_and, and_false, if_false, if_true, and_self, Int.reduceEq, Nat.reduceEqDiff, ite_self, MLay_pI, MLay_pL, MLay_qI, MLay_qL, ev_X12_knownOf, xt_X12_knownOf, xf_X12_knownOf, hk, hI.lay.eqs]
  try simp (disch := omega) only [wI_id, dv_nn, rm_nn]
  repeat' (first | intro z | apply And.intro)
  all_goals try omega
  all_goals grind

theorem mKn_th (σ : Hp) (a d v : Int) (n : Nat) : mKn (pI σ 1300 61 v) a d n = mKn σ a d n := by
  induction n with
  | zero => rfl
  | succ n ih => unfold mKn; rw [ih]; rfl

def sp_X12_known : Sp := fun av σ Q => oR av fun this av => oI av fun a av => oI av fun d av => av = [] ∧ kd σ this = 13 ∧ (this = 61 ∧ MI σ ∧ inR a ∧ inR d ∧ (((0 ≤ a ∧ a < fI σ 1371 61) ∧ (0 ≤ d ∧ d ≤ fI σ 1301 61 / 86400) ∧ aI σ 110 a ≤ d) → Q (some (vi (mKn σ a d (fI σ 1380 61).toNat))) (pI σ 1300 61 0)) ∧ (¬ ((0 ≤ a ∧ a < fI σ 1371 61) ∧ (0 ≤ d ∧ d ≤ fI σ 1301 61 / 86400) ∧ aI σ 110 a ≤ d) → Q (some (vi (-1))) (pI σ 1300 61 0)))
theorem us_X12_known (this : Int) (a : Int) (d : Int) (σ : Hp) (Q : Option AV → Hp → Prop) : sp_X12_known [vr this, vi a, vi d] σ Q = (kd σ this = 13 ∧ (this = 61 ∧ MI σ ∧ inR a ∧ inR d ∧ (((0 ≤ a ∧ a < fI σ 1371 61) ∧ (0 ≤ d ∧ d ≤ fI σ 1301 61 / 86400) ∧ aI σ 110 a ≤ d) → Q (some (vi (mKn σ a d (fI σ 1380 61).toNat))) (pI σ 1300 61 0)) ∧ (¬ ((0 ≤ a ∧ a < fI σ 1371 61) ∧ (0 ≤ d ∧ d ≤ fI σ 1301 61 / 86400) ∧ aI σ 110 a ≤ d) → Q (some (vi (-1))) (pI σ 1300 61 0)))) := propext ⟨fun h => h.2, fun h => ⟨rfl, h⟩⟩
theorem el_X12_known {av : List AV} {σ : Hp} {Q : Option AV → Hp → Prop} (h : sp_X12_known av σ Q) : ∃ (this : Int) (a : Int) (d : Int), av = [vr this, vi a, vi d] ∧ (kd σ this = 13 ∧ (this = 61 ∧ MI σ ∧ inR a ∧ inR d ∧ (((0 ≤ a ∧ a < fI σ 1371 61) ∧ (0 ≤ d ∧ d ≤ fI σ 1301 61 / 86400) ∧ aI σ 110 a ≤ d) → Q (some (vi (mKn σ a d (fI σ 1380 61).toNat))) (pI σ 1300 61 0)) ∧ (¬ ((0 ≤ a ∧ a < fI σ 1371 61) ∧ (0 ≤ d ∧ d ≤ fI σ 1301 61 / 86400) ∧ aI σ 110 a ≤ d) → Q (some (vi (-1))) (pI σ 1300 61 0)))) := by
  obtain ⟨this, a0, rfl, h0⟩ := oR_s h
  obtain ⟨a, a1, rfl, h1⟩ := oI_s h0
  obtain ⟨d, a2, rfl, h2⟩ := oI_s h1
  obtain ⟨rfl, hz⟩ := h2
  exact ⟨this, a, d, rfl, hz⟩
theorem rc_X12_known : ∀ (av : List AV) (σ : Hp) (Q : Option AV → Hp → Prop), sp_X12_known av σ Q → ∃ r tl, av = vr r :: tl ∧ kd σ r = 12 + 1 := fun av σ Q h => by
  obtain ⟨this, a, d, rfl, hz, -⟩ := el_X12_known h
  exact ⟨this, _, rfl, hz⟩

def tb_X12_known : Tab := [(0, .aload_n 0, 1, (0, 0, 0, 0)), (1, .iconst 0, 1, (0, 0, 0, 0)), (2, .putfield 196, 3, (13, 1300, 0, 0)), (5, .aload_n 0, 1, (0, 0, 0, 0)), (6, .iload_n 1, 1, (0, 0, 0, 0)), (7, .invokevirtual 427, 3, (0, 0, 0, 0)), (10, .ifCond .eq 30, 3, (0, 0, 0, 0)), (13, .aload_n 0, 1, (0, 0, 0, 0)), (14, .iload_n 2, 1, (0, 0, 0, 0)), (15, .invokevirtual 472, 3, (0, 0, 0, 0)), (18, .ifCond .eq 22, 3, (0, 0, 0, 0)), (21, .aload_n 0, 1, (0, 0, 0, 0)), (22, .getfield 156, 3, (13, 1373, 2, 0)), (25, .iload_n 1, 1, (0, 0, 0, 0)), (26, .iaload, 1, (0, 0, 0, 0)), (27, .iload_n 2, 1, (0, 0, 0, 0)), (28, .if_icmp .gt 12, 3, (0, 0, 0, 0)), (31, .aload_n 0, 1, (0, 0, 0, 0)), (32, .iload_n 1, 1, (0, 0, 0, 0)), (33, .iload_n 2, 1, (0, 0, 0, 0)), (34, .invokevirtual 475, 3, (0, 0, 0, 0)), (37, .goto 4, 3, (0, 0, 0, 0)), (40, .iconst (-1), 1, (0, 0, 0, 0)), (41, .ireturn, 1, (0, 0, 0, 0))]
set_option maxRecDepth 100000 in
theorem tk_X12_known : TOK RX12 false cX12_known tb_X12_known := chkT_ok ft_X12 (by decide +kernel)
theorem rw_X12_3416 : Row RX12 (.invokevirtual 427) 3 2 0 0 2 sp_X12_isAlarm := row_V (n := 1) (ci := 12) c_X12_isAlarm ⟨TBL_in 1999 (by decide +kernel) rfl, TBL_in 2002 (by decide +kernel) rfl, TBL_in 123 (by decide +kernel) rfl, by decide +kernel, by decide⟩ (by decide) rfl (TBL_in 2001 (by decide +kernel) rfl) (TBL_in 98 (by decide +kernel) rfl) rc_X12_isAlarm
theorem rw_X12_3776 : Row RX12 (.invokevirtual 472) 3 2 0 0 2 sp_X12_isDay := row_V (n := 1) (ci := 12) c_X12_isDay ⟨TBL_in 2079 (by decide +kernel) rfl, TBL_in 2082 (by decide +kernel) rfl, TBL_in 123 (by decide +kernel) rfl, by decide +kernel, by decide⟩ (by decide) rfl (TBL_in 2081 (by decide +kernel) rfl) (TBL_in 108 (by decide +kernel) rfl) rc_X12_isDay
theorem rw_X12_3800 : Row RX12 (.invokevirtual 475) 3 3 0 0 1 sp_X12_knownOf := row_V (n := 2) (ci := 12) c_X12_knownOf ⟨TBL_in 1966 (by decide +kernel) rfl, TBL_in 1969 (by decide +kernel) rfl, TBL_in 123 (by decide +kernel) rfl, by decide +kernel, by decide⟩ (by decide) rfl (TBL_in 1968 (by decide +kernel) rfl) (TBL_in 91 (by decide +kernel) rfl) rc_X12_knownOf
def mt_X12_known : List (Nat × Mt) := [(3416, 2, 0, 0, 2, sp_X12_isAlarm), (3776, 2, 0, 0, 2, sp_X12_isDay), (3800, 3, 0, 0, 1, sp_X12_knownOf)]
theorem em_X12_known : mt_X12_known.lookup 3416 = some (2, 0, 0, 2, sp_X12_isAlarm) ∧ mt_X12_known.lookup 3776 = some (2, 0, 0, 2, sp_X12_isDay) ∧ mt_X12_known.lookup 3800 = some (3, 0, 0, 1, sp_X12_knownOf) := ⟨rfl, rfl, rfl⟩
theorem mk_X12_known : MOK RX12 mt_X12_known := by
  intro q hq
  simp only [mt_X12_known, List.mem_cons, List.not_mem_nil, or_false] at hq
  rcases hq with rfl | rfl | rfl
  · exact rw_X12_3416
  · exact rw_X12_3776
  · exact rw_X12_3800
noncomputable def xe_X12_known (ct : Nat → Bool) (K : Kt) (R : Option AV → Hp → Prop) (n : Nat) : Kt := exS 3 3 0 0 1 tb_X12_known mt_X12_known ct K R n
noncomputable def xk_X12_known (ct : Nat → Bool) (K : Kt) (R : Option AV → Hp → Prop) (n : Nat) : Kt := exkS 3 3 0 0 1 tb_X12_known mt_X12_known ct K R n
theorem xt_X12_known {ct : Nat → Bool} {K : Kt} {R : Option AV → Hp → Prop} {n pc : Nat} {ls : List (Option AV)} {st : List AV} {σ : Hp} {k : Nat × Nat} (h : ct pc = true) : xk_X12_known ct K R n pc ls st σ k = K pc ls st σ k := by unfold xk_X12_known exkS; rw [h]
theorem xf_X12_known {ct : Nat → Bool} {K : Kt} {R : Option AV → Hp → Prop} {n pc : Nat} {ls : List (Option AV)} {st : List AV} {σ : Hp} {k : Nat × Nat} (h : ct pc = false) : xk_X12_known ct K R n pc ls st σ k = xe_X12_known ct K R n pc ls st σ k := by unfold xk_X12_known exkS xe_X12_known; rw [h]
theorem ev_X12_known {ct : Nat → Bool} {K : Kt} {R : Option AV → Hp → Prop} {n : Nat} {ls : List (Option AV)} {st : List AV} {σ : Hp} {k : Nat × Nat} :
  xe_X12_known ct K R (n + 1) 0 ls st σ k = (lR ls 0 fun x => xk_X12_known ct K R n 1 ls (vr x :: st) σ k) ∧
  xe_X12_known ct K R (n + 1) 1 ls st σ k = (xk_X12_known ct K R n 2 ls (vi (0) :: st) σ k) ∧
  xe_X12_known ct K R (n + 1) 2 ls st σ k = (oI st fun v st => oR st fun x st => kd σ x = 13 ∧ xk_X12_known ct K R n 5 ls st (pI σ 1300 x v) k) ∧
  xe_X12_known ct K R (n + 1) 5 ls st σ k = (lR ls 0 fun x => xk_X12_known ct K R n 6 ls (vr x :: st) σ k) ∧
  xe_X12_known ct K R (n + 1) 6 ls st σ k = (lI ls 1 fun x => xk_X12_known ct K R n 7 ls (vi x :: st) σ k) ∧
  xe_X12_known ct K R (n + 1) 7 ls st σ k = (popN 2 st [] fun av rest => (catS rest ≤ 8 ∧ 2 < 3 ∧ k.1 + 0 ≤ 0 ∧ k.2 + 0 ≤ 0) ∧ (sp_X12_isAlarm) av σ fun v σ' => xk_X12_known ct K R n 10 ls (v.toList ++ rest) σ' (k.1 + 0, k.2 + 0)) ∧
  xe_X12_known ct K R (n + 1) 10 ls st σ k = (oI st fun x st => (wI x = wI 0 → xk_X12_known ct K R n 40 ls st σ k) ∧ (¬ (wI x = wI 0) → xk_X12_known ct K R n 13 ls st σ k)) ∧
  xe_X12_known ct K R (n + 1) 13 ls st σ k = (lR ls 0 fun x => xk_X12_known ct K R n 14 ls (vr x :: st) σ k) ∧
  xe_X12_known ct K R (n + 1) 14 ls st σ k = (lI ls 2 fun x => xk_X12_known ct K R n 15 ls (vi x :: st) σ k) ∧
  xe_X12_known ct K R (n + 1) 15 ls st σ k = (popN 2 st [] fun av rest => (catS rest ≤ 8 ∧ 2 < 3 ∧ k.1 + 0 ≤ 0 ∧ k.2 + 0 ≤ 0) ∧ (sp_X12_isDay) av σ fun v σ' => xk_X12_known ct K R n 18 ls (v.toList ++ rest) σ' (k.1 + 0, k.2 + 0)) ∧
  xe_X12_known ct K R (n + 1) 18 ls st σ k = (oI st fun x st => (wI x = wI 0 → xk_X12_known ct K R n 40 ls st σ k) ∧ (¬ (wI x = wI 0) → xk_X12_known ct K R n 21 ls st σ k)) ∧
  xe_X12_known ct K R (n + 1) 21 ls st σ k = (lR ls 0 fun x => xk_X12_known ct K R n 22 ls (vr x :: st) σ k) ∧
  xe_X12_known ct K R (n + 1) 22 ls st σ k = (oR st fun x st => kd σ x = 13 ∧ xk_X12_known ct K R n 25 ls (vr (fR σ 1373 x) :: st) σ k) ∧
  xe_X12_known ct K R (n + 1) 25 ls st σ k = (lI ls 1 fun x => xk_X12_known ct K R n 26 ls (vi x :: st) σ k) ∧
  xe_X12_known ct K R (n + 1) 26 ls st σ k = (oI st fun j st => oR st fun x st => (kd σ x = 101 ∨ kd σ x = 108) ∧ (0 ≤ j ∧ j < ln σ x) ∧ xk_X12_known ct K R n 27 ls (vi (aI σ x j) :: st) σ k) ∧
  xe_X12_known ct K R (n + 1) 27 ls st σ k = (lI ls 2 fun x => xk_X12_known ct K R n 28 ls (vi x :: st) σ k) ∧
  xe_X12_known ct K R (n + 1) 28 ls st σ k = (oI st fun y st => oI st fun x st => (wI y < wI x → xk_X12_known ct K R n 40 ls st σ k) ∧ (¬ (wI y < wI x) → xk_X12_known ct K R n 31 ls st σ k)) ∧
  xe_X12_known ct K R (n + 1) 31 ls st σ k = (lR ls 0 fun x => xk_X12_known ct K R n 32 ls (vr x :: st) σ k) ∧
  xe_X12_known ct K R (n + 1) 32 ls st σ k = (lI ls 1 fun x => xk_X12_known ct K R n 33 ls (vi x :: st) σ k) ∧
  xe_X12_known ct K R (n + 1) 33 ls st σ k = (lI ls 2 fun x => xk_X12_known ct K R n 34 ls (vi x :: st) σ k) ∧
  xe_X12_known ct K R (n + 1) 34 ls st σ k = (popN 3 st [] fun av rest => (catS rest ≤ 8 ∧ 1 < 3 ∧ k.1 + 0 ≤ 0 ∧ k.2 + 0 ≤ 0) ∧ (sp_X12_knownOf) av σ fun v σ' => xk_X12_known ct K R n 37 ls (v.toList ++ rest) σ' (k.1 + 0, k.2 + 0)) ∧
  xe_X12_known ct K R (n + 1) 37 ls st σ k = (xk_X12_known ct K R n 41 ls st σ k) ∧
  xe_X12_known ct K R (n + 1) 40 ls st σ k = (xk_X12_known ct K R n 41 ls (vi (-1) :: st) σ k) ∧
  xe_X12_known ct K R (n + 1) 41 ls st σ k = (oI st fun x st => st = [] ∧ True ∧ R (some (vi x)) σ) :=
  ⟨exS_step.trans rfl, exS_step.trans rfl, exS_step.trans rfl, exS_step.trans rfl, exS_step.trans rfl, exS_step.trans rfl, exS_step.trans rfl, exS_step.trans rfl, exS_step.trans rfl, exS_step.trans rfl, exS_step.trans rfl, exS_step.trans rfl, exS_step.trans rfl, exS_step.trans rfl, exS_step.trans rfl, exS_step.trans rfl, exS_step.trans rfl, exS_step.trans rfl, exS_step.trans rfl, exS_step.trans rfl, exS_step.trans rfl, exS_step.trans rfl, exS_step.trans rfl, exS_step.trans rfl⟩
def M_X12_known : Md := (yX12_known, cX12_known, 3, (some FieldType.int), 3, 0, 0, 1, false, tb_X12_known, mt_X12_known)
theorem mm_X12_known : MMOK M_X12_known := ⟨by decide +kernel, tk_X12_known, mk_X12_known, rfl, fun h => by cases h⟩
theorem go_X12_known {Q : Option AV → Hp → Prop} {ct : Nat → Bool} {pc : Nat} {ls : List (Option AV)} {st : List AV} {σ : Hp} {k : Nat × Nat} (n : Nat) (h : xe_X12_known ct (Go M_X12_known Q) Q n pc ls st σ k) : Go M_X12_known Q pc ls st σ k := Go.exS mm_X12_known h

set_option maxRecDepth 20000 in
theorem c_X12_known : Ct yX12_known cX12_known 3 ((some FieldType.int)) 3 0 0 sp_X12_known := by
  refine Ct.go (M := M_X12_known) mm_X12_known fun av σ Q h0 => ?_
  obtain ⟨this, a, d, rfl, hk, h⟩ := el_X12_known h0
  clear h0
  refine ⟨Nat.le_of_ble_eq_true rfl, ?_⟩
  show Go M_X12_known Q 0 [some (vr this), some (vi a), some (vi d)] [] σ (0, 0)
  obtain ⟨rfl, hI, ha, hd, h1, h2⟩ := h
  have hI2 : MI (pI σ 1300 61 0) := MI_fre hI (by decide)
  have hn := hI.alarms_s
  have hx1 := hI.alarmDay_ a
  have em := mKn_th σ a d 0 (fI σ 1380 61).toNat
  have hr1 := ha
  have hr2 := hd
  unfold inR at hr1 hr2
  refine go_X12_known (ct := fun p => false) 30 ?_
  simp only [oI, oL, oR, o1, lI, lL, lR, popN, catS, gv, stL, stL2, swt, cnd, spObj, List.getElem?_cons_zero, List.getElem?_cons_succ, List.getD_cons_zero, List.getD_cons_succ, List.set_cons_zero, List.set_cons_succ, List.nil_append, List.cons_append, Option.toList, Bool.or_false, Bool.false_or, Bool.or_true, Bool.true_or, Nat.reduceBEq, Nat.reduceAdd, Nat.reduceLT, Nat.reduceLeDiff, Int.reduceAdd, Int.reduceToNat, true_and, and_true, Fin.isValue, Fin.val_zero, Fin.val_one, Fin.val_two, Fin.reduceFinMk, eq_self, Int.reduceNeg, imp_self, Nat.reduceMul, Nat.le_refl, not_true_eq_false, not_false_eq_true, List.getElem?_nil, reduceCtorEq, true_or, or_true, Classical.not_not, implies_true, or_self, wI_0, wI_1, wI_m1, b2i_w, b2i_eq0, b2i_eq1, b2i_bool, nor_self, nx_pI, kd_pI, ln_pI, fI_pI, fL_pI, fR_pI, aI_pI, aL_pI, aR_pI, nx_pL, kd_pL, ln_pL, fI_pL, fL_pL, fR_pL, aI_pL, aL_pL, aR_pL, nx_pR, kd_pR, ln_pR, fI_pR, fL_pR, fR_pR, aI_pR, aL_pR, aR_pR, nx_qI, kd_qI, ln_qI, fI_qI, fL_qI, fR_qI, aI_qI, aL_qI, aR_qI, nx_qL, kd_qL, ln_qL, fI_qL, fL_qL, fR_qL, aI_qL, aL_qL, aR_qL, nx_qR, kd_qR, ln_qR, fI_qR, fL_qR, fR_qR, aI_qR, aL_qR, aR_qR, nx_mk, kd_mk, ln_mk, fI_mk, fL_mk, fR_mk, aI_mk, aL_mk, aR_mk, false_and, and_false, if_false, if_true, and_self, Int.reduceEq, Nat.reduceEqDiff, ite_self, MLay_pI, MLay_pL, MLay_qI, MLay_qL, ev_X12_known, xt_X12_known, xf_X12_known, us_X12_isAlarm, us_X12_isDay, us_X12_knownOf, hk, hI.lay.eqs, hI2, ha, hd, em]
  try simp (disch := omega) only [wI_id, dv_nn, rm_nn]
  repeat' (first | intro z | apply And.intro)
  all_goals try omega
  all_goals grind

/-- of the box's alarms up to a day, those of which P is known -/
def mRt (σ : Hp) (b d : Int) (P : Int → Prop) (j : Int) : Prop := aI σ 109 j = b ∧ aI σ 110 j ≤ d ∧ P (mKn σ j d (fI σ 1380 61).toNat)
/-- the box's rate on a day -/
noncomputable def mRate (σ : Hp) (b d : Int) : Int := 1000 * (hwM (mRt σ b d (fun v => v = 0)) (fI σ 1371 61).toNat + 1) / (hwM (mRt σ b d (fun v => v < 2)) (fI σ 1371 61).toNat + 2)
theorem mRate_in {σ : Hp} (hI : MI σ) (b d : Int) : 0 ≤ mRate σ b d ∧ mRate σ b d ≤ 101000 := by
  have hn := hI.alarms_s
  have h1 := hwM_in (mRt σ b d (fun v => v = 0)) (fI σ 1371 61).toNat
  have h2 := hwM_in (mRt σ b d (fun v => v < 2)) (fI σ 1371 61).toNat
  unfold mRate
  refine ⟨Int.ediv_nonneg (by omega) (by omega), Int.le_trans (Int.ediv_le_self _ (by omega)) (by omega)⟩

def sp_X12_rateOf : Sp := fun av σ Q => oR av fun this av => oI av fun b av => oI av fun d av => av = [] ∧ kd σ this = 13 ∧ (this = 61 ∧ MI σ ∧ (0 ≤ b ∧ b < 32) ∧ inR d ∧ Q (some (vi (mRate σ b d))) σ)
theorem us_X12_rateOf (this : Int) (b : Int) (d : Int) (σ : Hp) (Q : Option AV → Hp → Prop) : sp_X12_rateOf [vr this, vi b, vi d] σ Q = (kd σ this = 13 ∧ (this = 61 ∧ MI σ ∧ (0 ≤ b ∧ b < 32) ∧ inR d ∧ Q (some (vi (mRate σ b d))) σ)) := propext ⟨fun h => h.2, fun h => ⟨rfl, h⟩⟩
theorem el_X12_rateOf {av : List AV} {σ : Hp} {Q : Option AV → Hp → Prop} (h : sp_X12_rateOf av σ Q) : ∃ (this : Int) (b : Int) (d : Int), av = [vr this, vi b, vi d] ∧ (kd σ this = 13 ∧ (this = 61 ∧ MI σ ∧ (0 ≤ b ∧ b < 32) ∧ inR d ∧ Q (some (vi (mRate σ b d))) σ)) := by
  obtain ⟨this, a0, rfl, h0⟩ := oR_s h
  obtain ⟨b, a1, rfl, h1⟩ := oI_s h0
  obtain ⟨d, a2, rfl, h2⟩ := oI_s h1
  obtain ⟨rfl, hz⟩ := h2
  exact ⟨this, b, d, rfl, hz⟩
theorem rc_X12_rateOf : ∀ (av : List AV) (σ : Hp) (Q : Option AV → Hp → Prop), sp_X12_rateOf av σ Q → ∃ r tl, av = vr r :: tl ∧ kd σ r = 12 + 1 := fun av σ Q h => by
  obtain ⟨this, b, d, rfl, hz, -⟩ := el_X12_rateOf h
  exact ⟨this, _, rfl, hz⟩

def tb_X12_rateOf : Tab := [(0, .iconst 0, 1, (0, 0, 0, 0)), (1, .istore_n 3, 1, (0, 0, 0, 0)), (2, .iconst 0, 1, (0, 0, 0, 0)), (3, .istore 4, 2, (0, 0, 0, 0)), (5, .iconst 0, 1, (0, 0, 0, 0)), (6, .istore 5, 2, (0, 0, 0, 0)), (8, .iload 5, 2, (0, 0, 0, 0)), (10, .aload_n 0, 1, (0, 0, 0, 0)), (11, .getfield 405, 3, (13, 1371, 0, 0)), (14, .if_icmp .ge 60, 3, (0, 0, 0, 0)), (17, .aload_n 0, 1, (0, 0, 0, 0)), (18, .getfield 153, 3, (13, 1372, 2, 0)), (21, .iload 5, 2, (0, 0, 0, 0)), (23, .iaload, 1, (0, 0, 0, 0)), (24, .iload_n 1, 1, (0, 0, 0, 0)), (25, .if_icmp .ne 43, 3, (0, 0, 0, 0)), (28, .aload_n 0, 1, (0, 0, 0, 0)), (29, .getfield 156, 3, (13, 1373, 2, 0)), (32, .iload 5, 2, (0, 0, 0, 0)), (34, .iaload, 1, (0, 0, 0, 0)), (35, .iload_n 2, 1, (0, 0, 0, 0)), (36, .if_icmp .le 6, 3, (0, 0, 0, 0)), (39, .goto 29, 3, (0, 0, 0, 0)), (42, .aload_n 0, 1, (0, 0, 0, 0)), (43, .iload 5, 2, (0, 0, 0, 0)), (45, .iload_n 2, 1, (0, 0, 0, 0)), (46, .invokevirtual 475, 3, (0, 0, 0, 0)), (49, .istore 6, 2, (0, 0, 0, 0)), (51, .iload 6, 2, (0, 0, 0, 0)), (53, .iconst 2, 1, (0, 0, 0, 0)), (54, .if_icmp .ge 6, 3, (0, 0, 0, 0)), (57, .iinc 4 1, 3, (0, 0, 0, 0)), (60, .iload 6, 2, (0, 0, 0, 0)), (62, .ifCond .ne 6, 3, (0, 0, 0, 0)), (65, .iinc 3 1, 3, (0, 0, 0, 0)), (68, .iinc 5 1, 3, (0, 0, 0, 0)), (71, .goto (-63), 3, (0, 0, 0, 0)), (74, .sipush 1000, 3, (0, 0, 0, 0)), (77, .iload_n 3, 1, (0, 0, 0, 0)), (78, .iconst 1, 1, (0, 0, 0, 0)), (79, .iadd, 1, (0, 0, 0, 0)), (80, .imul, 1, (0, 0, 0, 0)), (81, .iload 4, 2, (0, 0, 0, 0)), (83, .iconst 2, 1, (0, 0, 0, 0)), (84, .iadd, 1, (0, 0, 0, 0)), (85, .idiv, 1, (0, 0, 0, 0)), (86, .ireturn, 1, (0, 0, 0, 0))]
set_option maxRecDepth 100000 in
theorem tk_X12_rateOf : TOK RX12 false cX12_rateOf tb_X12_rateOf := chkT_ok ft_X12 (by decide +kernel)
def mt_X12_rateOf : List (Nat × Mt) := [(3800, 3, 0, 0, 1, sp_X12_knownOf)]
theorem em_X12_rateOf : mt_X12_rateOf.lookup 3800 = some (3, 0, 0, 1, sp_X12_knownOf) := rfl
theorem mk_X12_rateOf : MOK RX12 mt_X12_rateOf := by
  intro q hq
  simp only [mt_X12_rateOf, List.mem_cons, List.not_mem_nil, or_false] at hq
  rcases hq with rfl
  · exact rw_X12_3800
noncomputable def xe_X12_rateOf (ct : Nat → Bool) (K : Kt) (R : Option AV → Hp → Prop) (n : Nat) : Kt := exS 7 2 0 0 1 tb_X12_rateOf mt_X12_rateOf ct K R n
noncomputable def xk_X12_rateOf (ct : Nat → Bool) (K : Kt) (R : Option AV → Hp → Prop) (n : Nat) : Kt := exkS 7 2 0 0 1 tb_X12_rateOf mt_X12_rateOf ct K R n
theorem xt_X12_rateOf {ct : Nat → Bool} {K : Kt} {R : Option AV → Hp → Prop} {n pc : Nat} {ls : List (Option AV)} {st : List AV} {σ : Hp} {k : Nat × Nat} (h : ct pc = true) : xk_X12_rateOf ct K R n pc ls st σ k = K pc ls st σ k := by unfold xk_X12_rateOf exkS; rw [h]
theorem xf_X12_rateOf {ct : Nat → Bool} {K : Kt} {R : Option AV → Hp → Prop} {n pc : Nat} {ls : List (Option AV)} {st : List AV} {σ : Hp} {k : Nat × Nat} (h : ct pc = false) : xk_X12_rateOf ct K R n pc ls st σ k = xe_X12_rateOf ct K R n pc ls st σ k := by unfold xk_X12_rateOf exkS xe_X12_rateOf; rw [h]
theorem ev_X12_rateOf {ct : Nat → Bool} {K : Kt} {R : Option AV → Hp → Prop} {n : Nat} {ls : List (Option AV)} {st : List AV} {σ : Hp} {k : Nat × Nat} :
  xe_X12_rateOf ct K R (n + 1) 0 ls st σ k = (xk_X12_rateOf ct K R n 1 ls (vi (0) :: st) σ k) ∧
  xe_X12_rateOf ct K R (n + 1) 1 ls st σ k = (oI st fun x st => 3 < 7 ∧ xk_X12_rateOf ct K R n 2 (stL ls 3 (vi x)) st σ k) ∧
  xe_X12_rateOf ct K R (n + 1) 2 ls st σ k = (xk_X12_rateOf ct K R n 3 ls (vi (0) :: st) σ k) ∧
  xe_X12_rateOf ct K R (n + 1) 3 ls st σ k = (oI st fun x st => 4 < 7 ∧ xk_X12_rateOf ct K R n 5 (stL ls 4 (vi x)) st σ k) ∧
  xe_X12_rateOf ct K R (n + 1) 5 ls st σ k = (xk_X12_rateOf ct K R n 6 ls (vi (0) :: st) σ k) ∧
  xe_X12_rateOf ct K R (n + 1) 6 ls st σ k = (oI st fun x st => 5 < 7 ∧ xk_X12_rateOf ct K R n 8 (stL ls 5 (vi x)) st σ k) ∧
  xe_X12_rateOf ct K R (n + 1) 8 ls st σ k = (lI ls 5 fun x => xk_X12_rateOf ct K R n 10 ls (vi x :: st) σ k) ∧
  xe_X12_rateOf ct K R (n + 1) 10 ls st σ k = (lR ls 0 fun x => xk_X12_rateOf ct K R n 11 ls (vr x :: st) σ k) ∧
  xe_X12_rateOf ct K R (n + 1) 11 ls st σ k = (oR st fun x st => kd σ x = 13 ∧ xk_X12_rateOf ct K R n 14 ls (vi (fI σ 1371 x) :: st) σ k) ∧
  xe_X12_rateOf ct K R (n + 1) 14 ls st σ k = (oI st fun y st => oI st fun x st => (wI y ≤ wI x → xk_X12_rateOf ct K R n 74 ls st σ k) ∧ (¬ (wI y ≤ wI x) → xk_X12_rateOf ct K R n 17 ls st σ k)) ∧
  xe_X12_rateOf ct K R (n + 1) 17 ls st σ k = (lR ls 0 fun x => xk_X12_rateOf ct K R n 18 ls (vr x :: st) σ k) ∧
  xe_X12_rateOf ct K R (n + 1) 18 ls st σ k = (oR st fun x st => kd σ x = 13 ∧ xk_X12_rateOf ct K R n 21 ls (vr (fR σ 1372 x) :: st) σ k) ∧
  xe_X12_rateOf ct K R (n + 1) 21 ls st σ k = (lI ls 5 fun x => xk_X12_rateOf ct K R n 23 ls (vi x :: st) σ k) ∧
  xe_X12_rateOf ct K R (n + 1) 23 ls st σ k = (oI st fun j st => oR st fun x st => (kd σ x = 101 ∨ kd σ x = 108) ∧ (0 ≤ j ∧ j < ln σ x) ∧ xk_X12_rateOf ct K R n 24 ls (vi (aI σ x j) :: st) σ k) ∧
  xe_X12_rateOf ct K R (n + 1) 24 ls st σ k = (lI ls 1 fun x => xk_X12_rateOf ct K R n 25 ls (vi x :: st) σ k) ∧
  xe_X12_rateOf ct K R (n + 1) 25 ls st σ k = (oI st fun y st => oI st fun x st => (¬ wI x = wI y → xk_X12_rateOf ct K R n 68 ls st σ k) ∧ (¬ (¬ wI x = wI y) → xk_X12_rateOf ct K R n 28 ls st σ k)) ∧
  xe_X12_rateOf ct K R (n + 1) 28 ls st σ k = (lR ls 0 fun x => xk_X12_rateOf ct K R n 29 ls (vr x :: st) σ k) ∧
  xe_X12_rateOf ct K R (n + 1) 29 ls st σ k = (oR st fun x st => kd σ x = 13 ∧ xk_X12_rateOf ct K R n 32 ls (vr (fR σ 1373 x) :: st) σ k) ∧
  xe_X12_rateOf ct K R (n + 1) 32 ls st σ k = (lI ls 5 fun x => xk_X12_rateOf ct K R n 34 ls (vi x :: st) σ k) ∧
  xe_X12_rateOf ct K R (n + 1) 34 ls st σ k = (oI st fun j st => oR st fun x st => (kd σ x = 101 ∨ kd σ x = 108) ∧ (0 ≤ j ∧ j < ln σ x) ∧ xk_X12_rateOf ct K R n 35 ls (vi (aI σ x j) :: st) σ k) ∧
  xe_X12_rateOf ct K R (n + 1) 35 ls st σ k = (lI ls 2 fun x => xk_X12_rateOf ct K R n 36 ls (vi x :: st) σ k) ∧
  xe_X12_rateOf ct K R (n + 1) 36 ls st σ k = (oI st fun y st => oI st fun x st => (wI x ≤ wI y → xk_X12_rateOf ct K R n 42 ls st σ k) ∧ (¬ (wI x ≤ wI y) → xk_X12_rateOf ct K R n 39 ls st σ k)) ∧
  xe_X12_rateOf ct K R (n + 1) 39 ls st σ k = (xk_X12_rateOf ct K R n 68 ls st σ k) ∧
  xe_X12_rateOf ct K R (n + 1) 42 ls st σ k = (lR ls 0 fun x => xk_X12_rateOf ct K R n 43 ls (vr x :: st) σ k) ∧
  xe_X12_rateOf ct K R (n + 1) 43 ls st σ k = (lI ls 5 fun x => xk_X12_rateOf ct K R n 45 ls (vi x :: st) σ k) ∧
  xe_X12_rateOf ct K R (n + 1) 45 ls st σ k = (lI ls 2 fun x => xk_X12_rateOf ct K R n 46 ls (vi x :: st) σ k) ∧
  xe_X12_rateOf ct K R (n + 1) 46 ls st σ k = (popN 3 st [] fun av rest => (catS rest ≤ 8 ∧ 1 < 2 ∧ k.1 + 0 ≤ 0 ∧ k.2 + 0 ≤ 0) ∧ (sp_X12_knownOf) av σ fun v σ' => xk_X12_rateOf ct K R n 49 ls (v.toList ++ rest) σ' (k.1 + 0, k.2 + 0)) ∧
  xe_X12_rateOf ct K R (n + 1) 49 ls st σ k = (oI st fun x st => 6 < 7 ∧ xk_X12_rateOf ct K R n 51 (stL ls 6 (vi x)) st σ k) ∧
  xe_X12_rateOf ct K R (n + 1) 51 ls st σ k = (lI ls 6 fun x => xk_X12_rateOf ct K R n 53 ls (vi x :: st) σ k) ∧
  xe_X12_rateOf ct K R (n + 1) 53 ls st σ k = (xk_X12_rateOf ct K R n 54 ls (vi (2) :: st) σ k) ∧
  xe_X12_rateOf ct K R (n + 1) 54 ls st σ k = (oI st fun y st => oI st fun x st => (wI y ≤ wI x → xk_X12_rateOf ct K R n 60 ls st σ k) ∧ (¬ (wI y ≤ wI x) → xk_X12_rateOf ct K R n 57 ls st σ k)) ∧
  xe_X12_rateOf ct K R (n + 1) 57 ls st σ k = (lI ls 4 fun x => 4 < 7 ∧ xk_X12_rateOf ct K R n 60 (stL ls 4 (vi (x + (1)))) st σ k) ∧
  xe_X12_rateOf ct K R (n + 1) 60 ls st σ k = (lI ls 6 fun x => xk_X12_rateOf ct K R n 62 ls (vi x :: st) σ k) ∧
  xe_X12_rateOf ct K R (n + 1) 62 ls st σ k = (oI st fun x st => (¬ wI x = wI 0 → xk_X12_rateOf ct K R n 68 ls st σ k) ∧ (¬ (¬ wI x = wI 0) → xk_X12_rateOf ct K R n 65 ls st σ k)) ∧
  xe_X12_rateOf ct K R (n + 1) 65 ls st σ k = (lI ls 3 fun x => 3 < 7 ∧ xk_X12_rateOf ct K R n 68 (stL ls 3 (vi (x + (1)))) st σ k) ∧
  xe_X12_rateOf ct K R (n + 1) 68 ls st σ k = (lI ls 5 fun x => 5 < 7 ∧ xk_X12_rateOf ct K R n 71 (stL ls 5 (vi (x + (1)))) st σ k) ∧
  xe_X12_rateOf ct K R (n + 1) 71 ls st σ k = (xk_X12_rateOf ct K R n 8 ls st σ k) ∧
  xe_X12_rateOf ct K R (n + 1) 74 ls st σ k = (xk_X12_rateOf ct K R n 77 ls (vi (1000) :: st) σ k) ∧
  xe_X12_rateOf ct K R (n + 1) 77 ls st σ k = (lI ls 3 fun x => xk_X12_rateOf ct K R n 78 ls (vi x :: st) σ k) ∧
  xe_X12_rateOf ct K R (n + 1) 78 ls st σ k = (xk_X12_rateOf ct K R n 79 ls (vi (1) :: st) σ k) ∧
  xe_X12_rateOf ct K R (n + 1) 79 ls st σ k = (oI st fun y st => oI st fun x st => xk_X12_rateOf ct K R n 80 ls (vi (x + y) :: st) σ k) ∧
  xe_X12_rateOf ct K R (n + 1) 80 ls st σ k = (oI st fun y st => oI st fun x st => xk_X12_rateOf ct K R n 81 ls (vi (x * y) :: st) σ k) ∧
  xe_X12_rateOf ct K R (n + 1) 81 ls st σ k = (lI ls 4 fun x => xk_X12_rateOf ct K R n 83 ls (vi x :: st) σ k) ∧
  xe_X12_rateOf ct K R (n + 1) 83 ls st σ k = (xk_X12_rateOf ct K R n 84 ls (vi (2) :: st) σ k) ∧
  xe_X12_rateOf ct K R (n + 1) 84 ls st σ k = (oI st fun y st => oI st fun x st => xk_X12_rateOf ct K R n 85 ls (vi (x + y) :: st) σ k) ∧
  xe_X12_rateOf ct K R (n + 1) 85 ls st σ k = (oI st fun y st => oI st fun x st => ¬ wI y = 0 ∧ xk_X12_rateOf ct K R n 86 ls (vi (dvI x y) :: st) σ k) ∧
  xe_X12_rateOf ct K R (n + 1) 86 ls st σ k = (oI st fun x st => st = [] ∧ True ∧ R (some (vi x)) σ) :=
  ⟨exS_step.trans rfl, exS_step.trans rfl, exS_step.trans rfl, exS_step.trans rfl, exS_step.trans rfl, exS_step.trans rfl, exS_step.trans rfl, exS_step.trans rfl, exS_step.trans rfl, exS_step.trans rfl, exS_step.trans rfl, exS_step.trans rfl, exS_step.trans rfl, exS_step.trans rfl, exS_step.trans rfl, exS_step.trans rfl, exS_step.trans rfl, exS_step.trans rfl, exS_step.trans rfl, exS_step.trans rfl, exS_step.trans rfl, exS_step.trans rfl, exS_step.trans rfl, exS_step.trans rfl, exS_step.trans rfl, exS_step.trans rfl, exS_step.trans rfl, exS_step.trans rfl, exS_step.trans rfl, exS_step.trans rfl, exS_step.trans rfl, exS_step.trans rfl, exS_step.trans rfl, exS_step.trans rfl, exS_step.trans rfl, exS_step.trans rfl, exS_step.trans rfl, exS_step.trans rfl, exS_step.trans rfl, exS_step.trans rfl, exS_step.trans rfl, exS_step.trans rfl, exS_step.trans rfl, exS_step.trans rfl, exS_step.trans rfl, exS_step.trans rfl, exS_step.trans rfl⟩
def M_X12_rateOf : Md := (yX12_rateOf, cX12_rateOf, 7, (some FieldType.int), 2, 0, 0, 1, false, tb_X12_rateOf, mt_X12_rateOf)
theorem mm_X12_rateOf : MMOK M_X12_rateOf := ⟨by decide +kernel, tk_X12_rateOf, mk_X12_rateOf, rfl, fun h => by cases h⟩
theorem go_X12_rateOf {Q : Option AV → Hp → Prop} {ct : Nat → Bool} {pc : Nat} {ls : List (Option AV)} {st : List AV} {σ : Hp} {k : Nat × Nat} (n : Nat) (h : xe_X12_rateOf ct (Go M_X12_rateOf Q) Q n pc ls st σ k) : Go M_X12_rateOf Q pc ls st σ k := Go.exS mm_X12_rateOf h

set_option maxRecDepth 20000 in
theorem c_X12_rateOf : Ct yX12_rateOf cX12_rateOf 7 ((some FieldType.int)) 2 0 0 sp_X12_rateOf := by
  refine Ct.go (M := M_X12_rateOf) mm_X12_rateOf fun av σ Q h0 => ?_
  obtain ⟨this, b, d, rfl, hk, h⟩ := el_X12_rateOf h0
  clear h0
  refine ⟨Nat.le_of_ble_eq_true rfl, ?_⟩
  show Go M_X12_rateOf Q 0 [some (vr this), some (vi b), some (vi d), none, none, none, none] [] σ (0, 0)
  obtain ⟨rfl, hI, hb, hd, h⟩ := h
  have hr := hd
  unfold inR at hr
  have hn := hI.alarms_s
  have loop : ∀ (n j : Nat) (a6 : Option AV), (j : Int) + n = fI σ 1371 61 → Go M_X12_rateOf Q 8 [some (vr 61), some (vi b), some (vi d), some (vi (hwM (mRt σ b d (fun v => v = 0)) j)), some (vi (hwM (mRt σ b d (fun v => v < 2)) j)), some (vi j), a6] [] σ (0, 0) := by
    intro n
    induction n with
    | zero =>
      intro j a6 hj
      have e : (fI σ 1371 61).toNat = j := by omega
      unfold mRate at h
      rw [e] at h
      have h1 := hwM_in (mRt σ b d (fun v => v = 0)) j
      have h2 := hwM_in (mRt σ b d (fun v => v < 2)) j
      refine go_X12_rateOf (ct := fun p => p == 8) 40 ?_
      simp only [oI, oL, oR, o1, lI, lL, lR, popN, catS, gv, stL, stL2, swt, cnd, spObj, List.getElem?_cons_zero, List.getElem?_cons_succ, List.getD_cons_zero, List.getD_cons_succ, List.set_cons_zero, List.set_cons_succ, List.nil_append, List.cons_append, Option.toList, Bool.or_false, Bool.false_or, Bool.or_true, Bool.true_or, Nat.reduceBEq, Nat.reduceAdd, Nat.reduceLT, Nat.reduceLeDiff, Int.reduceAdd, Int.reduceToNat, true_and, and_true, Fin.isValue, Fin.val_zero, Fin.val_one, Fin.val_two, Fin.reduceFinMk, eq_self, Int.reduceNeg, imp_self, Nat.reduceMul, Nat.le_refl, not_true_eq_false, not_false_eq_true, List.getElem?_nil, reduceCtorEq, true_or, or_true, Classical.not_not, implies_true, or_self, wI_0, wI_1, wI_m1, b2i_w, b2i_eq0, b2i_eq1, b2i_bool, nor_self, nx_pI, kd_pI, ln_pI, fI_pI, fL_pI, fR_pI, aI_pI, aL_pI, aR_pI, nx_pL, kd_pL, ln_pL, fI_pL, fL_pL, fR_pL, aI_pL, aL_pL, aR_pL, nx_pR, kd_pR, ln_pR, fI_pR, fL_pR, fR_pR, aI_pR, aL_pR, aR_pR, nx_qI, kd_qI, ln_qI, fI_qI, fL_qI, fR_qI, aI_qI, aL_qI, aR_qI, nx_qL, kd_qL, ln_qL, fI_qL, fL_qL, fR_qL, aI_qL, aL_qL, aR_qL, nx_qR, kd_qR, ln_qR, fI_qR, fL_qR, fR_qR, aI_qR, aL_qR, aR_qR, nx_mk, kd_mk, ln_mk, fI_mk, fL_mk, fR_mk, aI_mk, aL_mk, aR_mk, false_and, and_false, if_false, if_true, and_self, Int.reduceEq, Nat.reduceEqDiff, ite_self, MLay_pI, MLay_pL, MLay_qI, MLay_qL, ev_X12_rateOf, xt_X12_rateOf, xf_X12_rateOf, us_X12_knownOf, hk]
      try simp (disch := omega) only [wI_id, dv_nn, rm_nn]
      refine ⟨fun _ => ?_, fun z => absurd z (by omega)⟩
      repeat' (first | intro z | apply And.intro)
      all_goals try omega
    | succ n ih =>
      intro j a6 hj
      have ih := fun a6 => ih (j + 1) a6 (by omega)
      have h1 := hI.alarmBox_ j
      have h2 := hI.alarmDay_ j
      have h3 := mKn_in σ j d (fI σ 1380 61).toNat
      have e0 : mRt σ b d (fun v => v = 0) j = (aI σ 109 j = b ∧ aI σ 110 j ≤ d ∧ mKn σ j d (fI σ 1380 61).toNat = 0) := rfl
      have e2 : mRt σ b d (fun v => v < 2) j = (aI σ 109 j = b ∧ aI σ 110 j ≤ d ∧ mKn σ j d (fI σ 1380 61).toNat < 2) := rfl
      refine go_X12_rateOf (ct := fun p => p == 8) 40 ?_
      simp only [oI, oL, oR, o1, lI, lL, lR, popN, catS, gv, stL, stL2, swt, cnd, spObj, List.getElem?_cons_zero, List.getElem?_cons_succ, List.getD_cons_zero, List.getD_cons_succ, List.set_cons_zero, List.set_cons_succ, List.nil_append, List.cons_append, Option.toList, Bool.or_false, Bool.false_or, Bool.or_true, Bool.true_or, Nat.reduceBEq, Nat.reduceAdd, Nat.reduceLT, Nat.reduceLeDiff, Int.reduceAdd, Int.reduceToNat, true_and, and_true, Fin.isValue, Fin.val_zero, Fin.val_one, Fin.val_two, Fin.reduceFinMk, eq_self, Int.reduceNeg, imp_self, Nat.reduceMul, Nat.le_refl, not_true_eq_false, not_false_eq_true, List.getElem?_nil, reduceCtorEq, true_or, or_true, Classical.not_not, implies_true, or_self, wI_0, wI_1, wI_m1, b2i_w, b2i_eq0, b2i_eq1, b2i_bool, nor_self, nx_pI, kd_pI, ln_pI, fI_pI, fL_pI, fR_pI, aI_pI, aL_pI, aR_pI, nx_pL, kd_pL, ln_pL, fI_pL, fL_pL, fR_pL, aI_pL, aL_pL, aR_pL, nx_pR, kd_pR, ln_pR, fI_pR, fL_pR, fR_pR, aI_pR, aL_pR, aR_pR, nx_qI, kd_qI, ln_qI, fI_qI, fL_qI, fR_qI, aI_qI, aL_qI, aR_qI, nx_qL, kd_qL, ln_qL, fI_qL, fL_qL, fR_qL, aI_qL, aL_qL, aR_qL, nx_qR, kd_qR, ln_qR, fI_qR, fL_qR, fR_qR, aI_qR, aL_qR, aR_qR, nx_mk, kd_mk, ln_mk, fI_mk, fL_mk, fR_mk, aI_mk, aL_mk, aR_mk, false_and, and_false, if_false, if_true, and_self, Int.reduceEq, Nat.reduceEqDiff, ite_self, MLay_pI, MLay_pL, MLay_qI, MLay_qL, ev_X12_rateOf, xt_X12_rateOf, xf_X12_rateOf, us_X12_knownOf, hk, hI.lay.eqs, hI, hd]
      try simp (disch := omega) only [wI_id, dv_nn, rm_nn]
      repeat' (first | intro z | apply And.intro)
      all_goals try omega
      all_goals first
        | (rw [hwM_f (by rw [e0]; omega), hwM_f (by rw [e2]; omega)] at ih; exact ih _)
        | (rw [hwM_f (by rw [e0]; omega), hwM_t (by rw [e2]; omega)] at ih; exact ih _)
        | (rw [hwM_t (by rw [e0]; omega), hwM_t (by rw [e2]; omega)] at ih; exact ih _)
  refine go_X12_rateOf (ct := fun p => p == 8) 30 ?_
  simp only [oI, oL, oR, o1, lI, lL, lR, popN, catS, gv, stL, stL2, swt, cnd, spObj, List.getElem?_cons_zero, List.getElem?_cons_succ, List.getD_cons_zero, List.getD_cons_succ, List.set_cons_zero, List.set_cons_succ, List.nil_append, List.cons_append, Option.toList, Bool.or_false, Bool.false_or, Bool.or_true, Bool.true_or, Nat.reduceBEq, Nat.reduceAdd, Nat.reduceLT, Nat.reduceLeDiff, Int.reduceAdd, Int.reduceToNat, true_and, and_true, Fin.isValue, Fin.val_zero, Fin.val_one, Fin.val_two, Fin.reduceFinMk, eq_self, Int.reduceNeg, imp_self, Nat.reduceMul, Nat.le_refl, not_true_eq_false, not_false_eq_true, List.getElem?_nil, reduceCtorEq, true_or, or_true, Classical.not_not, implies_true, or_self, wI_0, wI_1, wI_m1, b2i_w, b2i_eq0, b2i_eq1, b2i_bool, nor_self, nx_pI, kd_pI, ln_pI, fI_pI, fL_pI, fR_pI, aI_pI, aL_pI, aR_pI, nx_pL, kd_pL, ln_pL, fI_pL, fL_pL, fR_pL, aI_pL, aL_pL, aR_pL, nx_pR, kd_pR, ln_pR, fI_pR, fL_pR, fR_pR, aI_pR, aL_pR, aR_pR, nx_qI, kd_qI, ln_qI, fI_qI, fL_qI, fR_qI, aI_qI, aL_qI, aR_qI, nx_qL, kd_qL, ln_qL, fI_qL, fL_qL, fR_qL, aI_qL, aL_qL, aR_qL, nx_qR, kd_qR, ln_qR, fI_qR, fL_qR, fR_qR, aI_qR, aL_qR, aR_qR, nx_mk, kd_mk, ln_mk, fI_mk, fL_mk, fR_mk, aI_mk, aL_mk, aR_mk, false_and, and_false, if_false, if_true, and_self, Int.reduceEq, Nat.reduceEqDiff, ite_self, MLay_pI, MLay_pL, MLay_qI, MLay_qL, ev_X12_rateOf, xt_X12_rateOf, xf_X12_rateOf, us_X12_knownOf]
  exact loop (fI σ 1371 61).toNat 0 none (by omega)

theorem mRate_th (σ : Hp) (b d v : Int) : mRate (pI σ 1300 61 v) b d = mRate σ b d := by
  have e : ∀ P, mRt (pI σ 1300 61 v) b d P = mRt σ b d P := fun P => funext fun j => by
    unfold mRt
    rw [mKn_th]; rfl
  unfold mRate
  rw [e, e]; rfl

def sp_X12_rate : Sp := fun av σ Q => oR av fun this av => oI av fun b av => oI av fun d av => av = [] ∧ kd σ this = 13 ∧ (this = 61 ∧ MI σ ∧ inR b ∧ inR d ∧ (((0 ≤ b ∧ b < fI σ 1302 61) ∧ (0 ≤ d ∧ d ≤ fI σ 1301 61 / 86400)) → Q (some (vi (mRate σ b d))) (pI σ 1300 61 0)) ∧ (¬ ((0 ≤ b ∧ b < fI σ 1302 61) ∧ (0 ≤ d ∧ d ≤ fI σ 1301 61 / 86400)) → Q (some (vi (-1))) (pI σ 1300 61 0)))
theorem us_X12_rate (this : Int) (b : Int) (d : Int) (σ : Hp) (Q : Option AV → Hp → Prop) : sp_X12_rate [vr this, vi b, vi d] σ Q = (kd σ this = 13 ∧ (this = 61 ∧ MI σ ∧ inR b ∧ inR d ∧ (((0 ≤ b ∧ b < fI σ 1302 61) ∧ (0 ≤ d ∧ d ≤ fI σ 1301 61 / 86400)) → Q (some (vi (mRate σ b d))) (pI σ 1300 61 0)) ∧ (¬ ((0 ≤ b ∧ b < fI σ 1302 61) ∧ (0 ≤ d ∧ d ≤ fI σ 1301 61 / 86400)) → Q (some (vi (-1))) (pI σ 1300 61 0)))) := propext ⟨fun h => h.2, fun h => ⟨rfl, h⟩⟩
theorem el_X12_rate {av : List AV} {σ : Hp} {Q : Option AV → Hp → Prop} (h : sp_X12_rate av σ Q) : ∃ (this : Int) (b : Int) (d : Int), av = [vr this, vi b, vi d] ∧ (kd σ this = 13 ∧ (this = 61 ∧ MI σ ∧ inR b ∧ inR d ∧ (((0 ≤ b ∧ b < fI σ 1302 61) ∧ (0 ≤ d ∧ d ≤ fI σ 1301 61 / 86400)) → Q (some (vi (mRate σ b d))) (pI σ 1300 61 0)) ∧ (¬ ((0 ≤ b ∧ b < fI σ 1302 61) ∧ (0 ≤ d ∧ d ≤ fI σ 1301 61 / 86400)) → Q (some (vi (-1))) (pI σ 1300 61 0)))) := by
  obtain ⟨this, a0, rfl, h0⟩ := oR_s h
  obtain ⟨b, a1, rfl, h1⟩ := oI_s h0
  obtain ⟨d, a2, rfl, h2⟩ := oI_s h1
  obtain ⟨rfl, hz⟩ := h2
  exact ⟨this, b, d, rfl, hz⟩
theorem rc_X12_rate : ∀ (av : List AV) (σ : Hp) (Q : Option AV → Hp → Prop), sp_X12_rate av σ Q → ∃ r tl, av = vr r :: tl ∧ kd σ r = 12 + 1 := fun av σ Q h => by
  obtain ⟨this, b, d, rfl, hz, -⟩ := el_X12_rate h
  exact ⟨this, _, rfl, hz⟩

def tb_X12_rate : Tab := [(0, .aload_n 0, 1, (0, 0, 0, 0)), (1, .iconst 0, 1, (0, 0, 0, 0)), (2, .putfield 196, 3, (13, 1300, 0, 0)), (5, .aload_n 0, 1, (0, 0, 0, 0)), (6, .iload_n 1, 1, (0, 0, 0, 0)), (7, .invokevirtual 214, 3, (0, 0, 0, 0)), (10, .ifCond .eq 20, 3, (0, 0, 0, 0)), (13, .aload_n 0, 1, (0, 0, 0, 0)), (14, .iload_n 2, 1, (0, 0, 0, 0)), (15, .invokevirtual 472, 3, (0, 0, 0, 0)), (18, .ifCond .eq 12, 3, (0, 0, 0, 0)), (21, .aload_n 0, 1, (0, 0, 0, 0)), (22, .iload_n 1, 1, (0, 0, 0, 0)), (23, .iload_n 2, 1, (0, 0, 0, 0)), (24, .invokevirtual 415, 3, (0, 0, 0, 0)), (27, .goto 4, 3, (0, 0, 0, 0)), (30, .iconst (-1), 1, (0, 0, 0, 0)), (31, .ireturn, 1, (0, 0, 0, 0))]
set_option maxRecDepth 100000 in
theorem tk_X12_rate : TOK RX12 false cX12_rate tb_X12_rate := chkT_ok ft_X12 (by decide +kernel)
theorem rw_X12_3320 : Row RX12 (.invokevirtual 415) 3 3 0 0 2 sp_X12_rateOf := row_V (n := 2) (ci := 12) c_X12_rateOf ⟨TBL_in 1962 (by decide +kernel) rfl, TBL_in 1965 (by decide +kernel) rfl, TBL_in 123 (by decide +kernel) rfl, by decide +kernel, by decide⟩ (by decide) rfl (TBL_in 1964 (by decide +kernel) rfl) (TBL_in 90 (by decide +kernel) rfl) rc_X12_rateOf
def mt_X12_rate : List (Nat × Mt) := [(1712, 2, 0, 0, 2, sp_X12_isBox), (3776, 2, 0, 0, 2, sp_X12_isDay), (3320, 3, 0, 0, 2, sp_X12_rateOf)]
theorem em_X12_rate : mt_X12_rate.lookup 1712 = some (2, 0, 0, 2, sp_X12_isBox) ∧ mt_X12_rate.lookup 3776 = some (2, 0, 0, 2, sp_X12_isDay) ∧ mt_X12_rate.lookup 3320 = some (3, 0, 0, 2, sp_X12_rateOf) := ⟨rfl, rfl, rfl⟩
theorem mk_X12_rate : MOK RX12 mt_X12_rate := by
  intro q hq
  simp only [mt_X12_rate, List.mem_cons, List.not_mem_nil, or_false] at hq
  rcases hq with rfl | rfl | rfl
  · exact rw_X12_1712
  · exact rw_X12_3776
  · exact rw_X12_3320
noncomputable def xe_X12_rate (ct : Nat → Bool) (K : Kt) (R : Option AV → Hp → Prop) (n : Nat) : Kt := exS 3 3 0 0 1 tb_X12_rate mt_X12_rate ct K R n
noncomputable def xk_X12_rate (ct : Nat → Bool) (K : Kt) (R : Option AV → Hp → Prop) (n : Nat) : Kt := exkS 3 3 0 0 1 tb_X12_rate mt_X12_rate ct K R n
theorem xt_X12_rate {ct : Nat → Bool} {K : Kt} {R : Option AV → Hp → Prop} {n pc : Nat} {ls : List (Option AV)} {st : List AV} {σ : Hp} {k : Nat × Nat} (h : ct pc = true) : xk_X12_rate ct K R n pc ls st σ k = K pc ls st σ k := by unfold xk_X12_rate exkS; rw [h]
theorem xf_X12_rate {ct : Nat → Bool} {K : Kt} {R : Option AV → Hp → Prop} {n pc : Nat} {ls : List (Option AV)} {st : List AV} {σ : Hp} {k : Nat × Nat} (h : ct pc = false) : xk_X12_rate ct K R n pc ls st σ k = xe_X12_rate ct K R n pc ls st σ k := by unfold xk_X12_rate exkS xe_X12_rate; rw [h]
theorem ev_X12_rate {ct : Nat → Bool} {K : Kt} {R : Option AV → Hp → Prop} {n : Nat} {ls : List (Option AV)} {st : List AV} {σ : Hp} {k : Nat × Nat} :
  xe_X12_rate ct K R (n + 1) 0 ls st σ k = (lR ls 0 fun x => xk_X12_rate ct K R n 1 ls (vr x :: st) σ k) ∧
  xe_X12_rate ct K R (n + 1) 1 ls st σ k = (xk_X12_rate ct K R n 2 ls (vi (0) :: st) σ k) ∧
  xe_X12_rate ct K R (n + 1) 2 ls st σ k = (oI st fun v st => oR st fun x st => kd σ x = 13 ∧ xk_X12_rate ct K R n 5 ls st (pI σ 1300 x v) k) ∧
  xe_X12_rate ct K R (n + 1) 5 ls st σ k = (lR ls 0 fun x => xk_X12_rate ct K R n 6 ls (vr x :: st) σ k) ∧
  xe_X12_rate ct K R (n + 1) 6 ls st σ k = (lI ls 1 fun x => xk_X12_rate ct K R n 7 ls (vi x :: st) σ k) ∧
  xe_X12_rate ct K R (n + 1) 7 ls st σ k = (popN 2 st [] fun av rest => (catS rest ≤ 8 ∧ 2 < 3 ∧ k.1 + 0 ≤ 0 ∧ k.2 + 0 ≤ 0) ∧ (sp_X12_isBox) av σ fun v σ' => xk_X12_rate ct K R n 10 ls (v.toList ++ rest) σ' (k.1 + 0, k.2 + 0)) ∧
  xe_X12_rate ct K R (n + 1) 10 ls st σ k = (oI st fun x st => (wI x = wI 0 → xk_X12_rate ct K R n 30 ls st σ k) ∧ (¬ (wI x = wI 0) → xk_X12_rate ct K R n 13 ls st σ k)) ∧
  xe_X12_rate ct K R (n + 1) 13 ls st σ k = (lR ls 0 fun x => xk_X12_rate ct K R n 14 ls (vr x :: st) σ k) ∧
  xe_X12_rate ct K R (n + 1) 14 ls st σ k = (lI ls 2 fun x => xk_X12_rate ct K R n 15 ls (vi x :: st) σ k) ∧
  xe_X12_rate ct K R (n + 1) 15 ls st σ k = (popN 2 st [] fun av rest => (catS rest ≤ 8 ∧ 2 < 3 ∧ k.1 + 0 ≤ 0 ∧ k.2 + 0 ≤ 0) ∧ (sp_X12_isDay) av σ fun v σ' => xk_X12_rate ct K R n 18 ls (v.toList ++ rest) σ' (k.1 + 0, k.2 + 0)) ∧
  xe_X12_rate ct K R (n + 1) 18 ls st σ k = (oI st fun x st => (wI x = wI 0 → xk_X12_rate ct K R n 30 ls st σ k) ∧ (¬ (wI x = wI 0) → xk_X12_rate ct K R n 21 ls st σ k)) ∧
  xe_X12_rate ct K R (n + 1) 21 ls st σ k = (lR ls 0 fun x => xk_X12_rate ct K R n 22 ls (vr x :: st) σ k) ∧
  xe_X12_rate ct K R (n + 1) 22 ls st σ k = (lI ls 1 fun x => xk_X12_rate ct K R n 23 ls (vi x :: st) σ k) ∧
  xe_X12_rate ct K R (n + 1) 23 ls st σ k = (lI ls 2 fun x => xk_X12_rate ct K R n 24 ls (vi x :: st) σ k) ∧
  xe_X12_rate ct K R (n + 1) 24 ls st σ k = (popN 3 st [] fun av rest => (catS rest ≤ 8 ∧ 2 < 3 ∧ k.1 + 0 ≤ 0 ∧ k.2 + 0 ≤ 0) ∧ (sp_X12_rateOf) av σ fun v σ' => xk_X12_rate ct K R n 27 ls (v.toList ++ rest) σ' (k.1 + 0, k.2 + 0)) ∧
  xe_X12_rate ct K R (n + 1) 27 ls st σ k = (xk_X12_rate ct K R n 31 ls st σ k) ∧
  xe_X12_rate ct K R (n + 1) 30 ls st σ k = (xk_X12_rate ct K R n 31 ls (vi (-1) :: st) σ k) ∧
  xe_X12_rate ct K R (n + 1) 31 ls st σ k = (oI st fun x st => st = [] ∧ True ∧ R (some (vi x)) σ) :=
  ⟨exS_step.trans rfl, exS_step.trans rfl, exS_step.trans rfl, exS_step.trans rfl, exS_step.trans rfl, exS_step.trans rfl, exS_step.trans rfl, exS_step.trans rfl, exS_step.trans rfl, exS_step.trans rfl, exS_step.trans rfl, exS_step.trans rfl, exS_step.trans rfl, exS_step.trans rfl, exS_step.trans rfl, exS_step.trans rfl, exS_step.trans rfl, exS_step.trans rfl⟩
def M_X12_rate : Md := (yX12_rate, cX12_rate, 3, (some FieldType.int), 3, 0, 0, 1, false, tb_X12_rate, mt_X12_rate)
theorem mm_X12_rate : MMOK M_X12_rate := ⟨by decide +kernel, tk_X12_rate, mk_X12_rate, rfl, fun h => by cases h⟩
theorem go_X12_rate {Q : Option AV → Hp → Prop} {ct : Nat → Bool} {pc : Nat} {ls : List (Option AV)} {st : List AV} {σ : Hp} {k : Nat × Nat} (n : Nat) (h : xe_X12_rate ct (Go M_X12_rate Q) Q n pc ls st σ k) : Go M_X12_rate Q pc ls st σ k := Go.exS mm_X12_rate h

set_option maxRecDepth 20000 in
theorem c_X12_rate : Ct yX12_rate cX12_rate 3 ((some FieldType.int)) 3 0 0 sp_X12_rate := by
  refine Ct.go (M := M_X12_rate) mm_X12_rate fun av σ Q h0 => ?_
  obtain ⟨this, b, d, rfl, hk, h⟩ := el_X12_rate h0
  clear h0
  refine ⟨Nat.le_of_ble_eq_true rfl, ?_⟩
  show Go M_X12_rate Q 0 [some (vr this), some (vi b), some (vi d)] [] σ (0, 0)
  obtain ⟨rfl, hI, ha, hd, h1, h2⟩ := h
  have hI2 : MI (pI σ 1300 61 0) := MI_fre hI (by decide)
  have hn := hI.boxes_s
  have em := mRate_th σ b d 0
  have hr1 := ha
  have hr2 := hd
  unfold inR at hr1 hr2
  refine go_X12_rate (ct := fun p => false) 30 ?_
  simp only [oI, oL, oR, o1, lI, lL, lR, popN, catS, gv, stL, stL2, swt, cnd, spObj, List.getElem?_cons_zero, List.getElem?_cons_succ, List.getD_cons_zero, List.getD_cons_succ, List.set_cons_zero, List.set_cons_succ, List.nil_append, List.cons_append, Option.toList, Bool.or_false, Bool.false_or, Bool.or_true, Bool.true_or, Nat.reduceBEq, Nat.reduceAdd, Nat.reduceLT, Nat.reduceLeDiff, Int.reduceAdd, Int.reduceToNat, true_and, and_true, Fin.isValue, Fin.val_zero, Fin.val_one, Fin.val_two, Fin.reduceFinMk, eq_self, Int.reduceNeg, imp_self, Nat.reduceMul, Nat.le_refl, not_true_eq_false, not_false_eq_true, List.getElem?_nil, reduceCtorEq, true_or, or_true, Classical.not_not, implies_true, or_self, wI_0, wI_1, wI_m1, b2i_w, b2i_eq0, b2i_eq1, b2i_bool, nor_self, nx_pI, kd_pI, ln_pI, fI_pI, fL_pI, fR_pI, aI_pI, aL_pI, aR_pI, nx_pL, kd_pL, ln_pL, fI_pL, fL_pL, fR_pL, aI_pL, aL_pL, aR_pL, nx_pR, kd_pR, ln_pR, fI_pR, fL_pR, fR_pR, aI_pR, aL_pR, aR_pR, nx_qI, kd_qI, ln_qI, fI_qI, fL_qI, fR_qI, aI_qI, aL_qI, aR_qI, nx_qL, kd_qL, ln_qL, fI_qL, fL_qL, fR_qL, aI_qL, aL_qL, aR_qL, nx_qR, kd_qR, ln_qR, fI_qR, fL_qR, fR_qR, aI_qR, aL_qR, aR_qR, nx_mk, kd_mk, ln_mk, fI_mk, fL_mk, fR_mk, aI_mk, aL_mk, aR_mk, false_and, and_false, if_false, if_true, and_self, Int.reduceEq, Nat.reduceEqDiff, ite_self, MLay_pI, MLay_pL, MLay_qI, MLay_qL, ev_X12_rate, xt_X12_rate, xf_X12_rate, us_X12_isBox, us_X12_isDay, us_X12_rateOf, hk, hI.lay.eqs, hI2, ha, hd, em]
  try simp (disch := omega) only [wI_id, dv_nn, rm_nn]
  repeat' (first | intro z | apply And.intro)
  all_goals try omega
  all_goals grind

/-- the ward's box with the worst rate, of the first boxes -/
noncomputable def mWo (σ : Hp) (w : Int) : Nat → Int
  | 0 => -1
  | n + 1 => if aI σ 67 n = w ∧ (mWo σ w n < 0 ∨ mRate σ (mWo σ w n) (fI σ 1301 61 / 86400) < mRate σ n (fI σ 1301 61 / 86400)) then n else mWo σ w n
theorem mWo_in (σ : Hp) (w : Int) : ∀ n : Nat, -1 ≤ mWo σ w n ∧ mWo σ w n < n
  | 0 => by unfold mWo; omega
  | n + 1 => by
    have := mWo_in σ w n
    unfold mWo
    split <;> omega

def sp_X12_worst : Sp := fun av σ Q => oR av fun this av => oI av fun w av => av = [] ∧ kd σ this = 13 ∧ (this = 61 ∧ MI σ ∧ inR w ∧ Q (some (vi (mWo σ w (fI σ 1302 61).toNat))) (pI σ 1300 61 0))
theorem us_X12_worst (this : Int) (w : Int) (σ : Hp) (Q : Option AV → Hp → Prop) : sp_X12_worst [vr this, vi w] σ Q = (kd σ this = 13 ∧ (this = 61 ∧ MI σ ∧ inR w ∧ Q (some (vi (mWo σ w (fI σ 1302 61).toNat))) (pI σ 1300 61 0))) := propext ⟨fun h => h.2, fun h => ⟨rfl, h⟩⟩
theorem el_X12_worst {av : List AV} {σ : Hp} {Q : Option AV → Hp → Prop} (h : sp_X12_worst av σ Q) : ∃ (this : Int) (w : Int), av = [vr this, vi w] ∧ (kd σ this = 13 ∧ (this = 61 ∧ MI σ ∧ inR w ∧ Q (some (vi (mWo σ w (fI σ 1302 61).toNat))) (pI σ 1300 61 0))) := by
  obtain ⟨this, a0, rfl, h0⟩ := oR_s h
  obtain ⟨w, a1, rfl, h1⟩ := oI_s h0
  obtain ⟨rfl, hz⟩ := h1
  exact ⟨this, w, rfl, hz⟩
theorem rc_X12_worst : ∀ (av : List AV) (σ : Hp) (Q : Option AV → Hp → Prop), sp_X12_worst av σ Q → ∃ r tl, av = vr r :: tl ∧ kd σ r = 12 + 1 := fun av σ Q h => by
  obtain ⟨this, w, rfl, hz, -⟩ := el_X12_worst h
  exact ⟨this, _, rfl, hz⟩

def tb_X12_worst : Tab := [(0, .aload_n 0, 1, (0, 0, 0, 0)), (1, .iconst 0, 1, (0, 0, 0, 0)), (2, .putfield 196, 3, (13, 1300, 0, 0)), (5, .iconst (-1), 1, (0, 0, 0, 0)), (6, .istore_n 2, 1, (0, 0, 0, 0)), (7, .iconst 0, 1, (0, 0, 0, 0)), (8, .istore_n 3, 1, (0, 0, 0, 0)), (9, .iload_n 3, 1, (0, 0, 0, 0)), (10, .aload_n 0, 1, (0, 0, 0, 0)), (11, .getfield 199, 3, (13, 1302, 0, 0)), (14, .if_icmp .ge 57, 3, (0, 0, 0, 0)), (17, .aload_n 0, 1, (0, 0, 0, 0)), (18, .getfield 25, 3, (13, 1308, 2, 0)), (21, .iload_n 3, 1, (0, 0, 0, 0)), (22, .iaload, 1, (0, 0, 0, 0)), (23, .iload_n 1, 1, (0, 0, 0, 0)), (24, .if_icmp .eq 6, 3, (0, 0, 0, 0)), (27, .goto 38, 3, (0, 0, 0, 0)), (30, .iload_n 2, 1, (0, 0, 0, 0)), (31, .ifCond .lt 32, 3, (0, 0, 0, 0)), (34, .aload_n 0, 1, (0, 0, 0, 0)), (35, .iload_n 3, 1, (0, 0, 0, 0)), (36, .aload_n 0, 1, (0, 0, 0, 0)), (37, .getfield 217, 3, (13, 1301, 0, 0)), (40, .ldc_w 414, 3, (1, 0, 0, 86400)), (43, .idiv, 1, (0, 0, 0, 0)), (44, .invokevirtual 415, 3, (0, 0, 0, 0)), (47, .aload_n 0, 1, (0, 0, 0, 0)), (48, .iload_n 2, 1, (0, 0, 0, 0)), (49, .aload_n 0, 1, (0, 0, 0, 0)), (50, .getfield 217, 3, (13, 1301, 0, 0)), (53, .ldc_w 414, 3, (1, 0, 0, 86400)), (56, .idiv, 1, (0, 0, 0, 0)), (57, .invokevirtual 415, 3, (0, 0, 0, 0)), (60, .if_icmp .le 5, 3, (0, 0, 0, 0)), (63, .iload_n 3, 1, (0, 0, 0, 0)), (64, .istore_n 2, 1, (0, 0, 0, 0)), (65, .iinc 3 1, 3, (0, 0, 0, 0)), (68, .goto (-59), 3, (0, 0, 0, 0)), (71, .iload_n 2, 1, (0, 0, 0, 0)), (72, .ireturn, 1, (0, 0, 0, 0))]
set_option maxRecDepth 100000 in
theorem tk_X12_worst : TOK RX12 false cX12_worst tb_X12_worst := chkT_ok ft_X12 (by decide +kernel)
def mt_X12_worst : List (Nat × Mt) := [(3320, 3, 0, 0, 2, sp_X12_rateOf)]
theorem em_X12_worst : mt_X12_worst.lookup 3320 = some (3, 0, 0, 2, sp_X12_rateOf) := rfl
theorem mk_X12_worst : MOK RX12 mt_X12_worst := by
  intro q hq
  simp only [mt_X12_worst, List.mem_cons, List.not_mem_nil, or_false] at hq
  rcases hq with rfl
  · exact rw_X12_3320
noncomputable def xe_X12_worst (ct : Nat → Bool) (K : Kt) (R : Option AV → Hp → Prop) (n : Nat) : Kt := exS 4 3 0 0 1 tb_X12_worst mt_X12_worst ct K R n
noncomputable def xk_X12_worst (ct : Nat → Bool) (K : Kt) (R : Option AV → Hp → Prop) (n : Nat) : Kt := exkS 4 3 0 0 1 tb_X12_worst mt_X12_worst ct K R n
theorem xt_X12_worst {ct : Nat → Bool} {K : Kt} {R : Option AV → Hp → Prop} {n pc : Nat} {ls : List (Option AV)} {st : List AV} {σ : Hp} {k : Nat × Nat} (h : ct pc = true) : xk_X12_worst ct K R n pc ls st σ k = K pc ls st σ k := by unfold xk_X12_worst exkS; rw [h]
theorem xf_X12_worst {ct : Nat → Bool} {K : Kt} {R : Option AV → Hp → Prop} {n pc : Nat} {ls : List (Option AV)} {st : List AV} {σ : Hp} {k : Nat × Nat} (h : ct pc = false) : xk_X12_worst ct K R n pc ls st σ k = xe_X12_worst ct K R n pc ls st σ k := by unfold xk_X12_worst exkS xe_X12_worst; rw [h]
theorem ev_X12_worst {ct : Nat → Bool} {K : Kt} {R : Option AV → Hp → Prop} {n : Nat} {ls : List (Option AV)} {st : List AV} {σ : Hp} {k : Nat × Nat} :
  xe_X12_worst ct K R (n + 1) 0 ls st σ k = (lR ls 0 fun x => xk_X12_worst ct K R n 1 ls (vr x :: st) σ k) ∧
  xe_X12_worst ct K R (n + 1) 1 ls st σ k = (xk_X12_worst ct K R n 2 ls (vi (0) :: st) σ k) ∧
  xe_X12_worst ct K R (n + 1) 2 ls st σ k = (oI st fun v st => oR st fun x st => kd σ x = 13 ∧ xk_X12_worst ct K R n 5 ls st (pI σ 1300 x v) k) ∧
  xe_X12_worst ct K R (n + 1) 5 ls st σ k = (xk_X12_worst ct K R n 6 ls (vi (-1) :: st) σ k) ∧
  xe_X12_worst ct K R (n + 1) 6 ls st σ k = (oI st fun x st => 2 < 4 ∧ xk_X12_worst ct K R n 7 (stL ls 2 (vi x)) st σ k) ∧
  xe_X12_worst ct K R (n + 1) 7 ls st σ k = (xk_X12_worst ct K R n 8 ls (vi (0) :: st) σ k) ∧
  xe_X12_worst ct K R (n + 1) 8 ls st σ k = (oI st fun x st => 3 < 4 ∧ xk_X12_worst ct K R n 9 (stL ls 3 (vi x)) st σ k) ∧
  xe_X12_worst ct K R (n + 1) 9 ls st σ k = (lI ls 3 fun x => xk_X12_worst ct K R n 10 ls (vi x :: st) σ k) ∧
  xe_X12_worst ct K R (n + 1) 10 ls st σ k = (lR ls 0 fun x => xk_X12_worst ct K R n 11 ls (vr x :: st) σ k) ∧
  xe_X12_worst ct K R (n + 1) 11 ls st σ k = (oR st fun x st => kd σ x = 13 ∧ xk_X12_worst ct K R n 14 ls (vi (fI σ 1302 x) :: st) σ k) ∧
  xe_X12_worst ct K R (n + 1) 14 ls st σ k = (oI st fun y st => oI st fun x st => (wI y ≤ wI x → xk_X12_worst ct K R n 71 ls st σ k) ∧ (¬ (wI y ≤ wI x) → xk_X12_worst ct K R n 17 ls st σ k)) ∧
  xe_X12_worst ct K R (n + 1) 17 ls st σ k = (lR ls 0 fun x => xk_X12_worst ct K R n 18 ls (vr x :: st) σ k) ∧
  xe_X12_worst ct K R (n + 1) 18 ls st σ k = (oR st fun x st => kd σ x = 13 ∧ xk_X12_worst ct K R n 21 ls (vr (fR σ 1308 x) :: st) σ k) ∧
  xe_X12_worst ct K R (n + 1) 21 ls st σ k = (lI ls 3 fun x => xk_X12_worst ct K R n 22 ls (vi x :: st) σ k) ∧
  xe_X12_worst ct K R (n + 1) 22 ls st σ k = (oI st fun j st => oR st fun x st => (kd σ x = 101 ∨ kd σ x = 108) ∧ (0 ≤ j ∧ j < ln σ x) ∧ xk_X12_worst ct K R n 23 ls (vi (aI σ x j) :: st) σ k) ∧
  xe_X12_worst ct K R (n + 1) 23 ls st σ k = (lI ls 1 fun x => xk_X12_worst ct K R n 24 ls (vi x :: st) σ k) ∧
  xe_X12_worst ct K R (n + 1) 24 ls st σ k = (oI st fun y st => oI st fun x st => (wI x = wI y → xk_X12_worst ct K R n 30 ls st σ k) ∧ (¬ (wI x = wI y) → xk_X12_worst ct K R n 27 ls st σ k)) ∧
  xe_X12_worst ct K R (n + 1) 27 ls st σ k = (xk_X12_worst ct K R n 65 ls st σ k) ∧
  xe_X12_worst ct K R (n + 1) 30 ls st σ k = (lI ls 2 fun x => xk_X12_worst ct K R n 31 ls (vi x :: st) σ k) ∧
  xe_X12_worst ct K R (n + 1) 31 ls st σ k = (oI st fun x st => (wI x < wI 0 → xk_X12_worst ct K R n 63 ls st σ k) ∧ (¬ (wI x < wI 0) → xk_X12_worst ct K R n 34 ls st σ k)) ∧
  xe_X12_worst ct K R (n + 1) 34 ls st σ k = (lR ls 0 fun x => xk_X12_worst ct K R n 35 ls (vr x :: st) σ k) ∧
  xe_X12_worst ct K R (n + 1) 35 ls st σ k = (lI ls 3 fun x => xk_X12_worst ct K R n 36 ls (vi x :: st) σ k) ∧
  xe_X12_worst ct K R (n + 1) 36 ls st σ k = (lR ls 0 fun x => xk_X12_worst ct K R n 37 ls (vr x :: st) σ k) ∧
  xe_X12_worst ct K R (n + 1) 37 ls st σ k = (oR st fun x st => kd σ x = 13 ∧ xk_X12_worst ct K R n 40 ls (vi (fI σ 1301 x) :: st) σ k) ∧
  xe_X12_worst ct K R (n + 1) 40 ls st σ k = (xk_X12_worst ct K R n 43 ls (vi (86400) :: st) σ k) ∧
  xe_X12_worst ct K R (n + 1) 43 ls st σ k = (oI st fun y st => oI st fun x st => ¬ wI y = 0 ∧ xk_X12_worst ct K R n 44 ls (vi (dvI x y) :: st) σ k) ∧
  xe_X12_worst ct K R (n + 1) 44 ls st σ k = (popN 3 st [] fun av rest => (catS rest ≤ 8 ∧ 2 < 3 ∧ k.1 + 0 ≤ 0 ∧ k.2 + 0 ≤ 0) ∧ (sp_X12_rateOf) av σ fun v σ' => xk_X12_worst ct K R n 47 ls (v.toList ++ rest) σ' (k.1 + 0, k.2 + 0)) ∧
  xe_X12_worst ct K R (n + 1) 47 ls st σ k = (lR ls 0 fun x => xk_X12_worst ct K R n 48 ls (vr x :: st) σ k) ∧
  xe_X12_worst ct K R (n + 1) 48 ls st σ k = (lI ls 2 fun x => xk_X12_worst ct K R n 49 ls (vi x :: st) σ k) ∧
  xe_X12_worst ct K R (n + 1) 49 ls st σ k = (lR ls 0 fun x => xk_X12_worst ct K R n 50 ls (vr x :: st) σ k) ∧
  xe_X12_worst ct K R (n + 1) 50 ls st σ k = (oR st fun x st => kd σ x = 13 ∧ xk_X12_worst ct K R n 53 ls (vi (fI σ 1301 x) :: st) σ k) ∧
  xe_X12_worst ct K R (n + 1) 53 ls st σ k = (xk_X12_worst ct K R n 56 ls (vi (86400) :: st) σ k) ∧
  xe_X12_worst ct K R (n + 1) 56 ls st σ k = (oI st fun y st => oI st fun x st => ¬ wI y = 0 ∧ xk_X12_worst ct K R n 57 ls (vi (dvI x y) :: st) σ k) ∧
  xe_X12_worst ct K R (n + 1) 57 ls st σ k = (popN 3 st [] fun av rest => (catS rest ≤ 8 ∧ 2 < 3 ∧ k.1 + 0 ≤ 0 ∧ k.2 + 0 ≤ 0) ∧ (sp_X12_rateOf) av σ fun v σ' => xk_X12_worst ct K R n 60 ls (v.toList ++ rest) σ' (k.1 + 0, k.2 + 0)) ∧
  xe_X12_worst ct K R (n + 1) 60 ls st σ k = (oI st fun y st => oI st fun x st => (wI x ≤ wI y → xk_X12_worst ct K R n 65 ls st σ k) ∧ (¬ (wI x ≤ wI y) → xk_X12_worst ct K R n 63 ls st σ k)) ∧
  xe_X12_worst ct K R (n + 1) 63 ls st σ k = (lI ls 3 fun x => xk_X12_worst ct K R n 64 ls (vi x :: st) σ k) ∧
  xe_X12_worst ct K R (n + 1) 64 ls st σ k = (oI st fun x st => 2 < 4 ∧ xk_X12_worst ct K R n 65 (stL ls 2 (vi x)) st σ k) ∧
  xe_X12_worst ct K R (n + 1) 65 ls st σ k = (lI ls 3 fun x => 3 < 4 ∧ xk_X12_worst ct K R n 68 (stL ls 3 (vi (x + (1)))) st σ k) ∧
  xe_X12_worst ct K R (n + 1) 68 ls st σ k = (xk_X12_worst ct K R n 9 ls st σ k) ∧
  xe_X12_worst ct K R (n + 1) 71 ls st σ k = (lI ls 2 fun x => xk_X12_worst ct K R n 72 ls (vi x :: st) σ k) ∧
  xe_X12_worst ct K R (n + 1) 72 ls st σ k = (oI st fun x st => st = [] ∧ True ∧ R (some (vi x)) σ) :=
  ⟨exS_step.trans rfl, exS_step.trans rfl, exS_step.trans rfl, exS_step.trans rfl, exS_step.trans rfl, exS_step.trans rfl, exS_step.trans rfl, exS_step.trans rfl, exS_step.trans rfl, exS_step.trans rfl, exS_step.trans rfl, exS_step.trans rfl, exS_step.trans rfl, exS_step.trans rfl, exS_step.trans rfl, exS_step.trans rfl, exS_step.trans rfl, exS_step.trans rfl, exS_step.trans rfl, exS_step.trans rfl, exS_step.trans rfl, exS_step.trans rfl, exS_step.trans rfl, exS_step.trans rfl, exS_step.trans rfl, exS_step.trans rfl, exS_step.trans rfl, exS_step.trans rfl, exS_step.trans rfl, exS_step.trans rfl, exS_step.trans rfl, exS_step.trans rfl, exS_step.trans rfl, exS_step.trans rfl, exS_step.trans rfl, exS_step.trans rfl, exS_step.trans rfl, exS_step.trans rfl, exS_step.trans rfl, exS_step.trans rfl, exS_step.trans rfl⟩
def M_X12_worst : Md := (yX12_worst, cX12_worst, 4, (some FieldType.int), 3, 0, 0, 1, false, tb_X12_worst, mt_X12_worst)
theorem mm_X12_worst : MMOK M_X12_worst := ⟨by decide +kernel, tk_X12_worst, mk_X12_worst, rfl, fun h => by cases h⟩
theorem go_X12_worst {Q : Option AV → Hp → Prop} {ct : Nat → Bool} {pc : Nat} {ls : List (Option AV)} {st : List AV} {σ : Hp} {k : Nat × Nat} (n : Nat) (h : xe_X12_worst ct (Go M_X12_worst Q) Q n pc ls st σ k) : Go M_X12_worst Q pc ls st σ k := Go.exS mm_X12_worst h

set_option maxRecDepth 20000 in
theorem c_X12_worst : Ct yX12_worst cX12_worst 4 ((some FieldType.int)) 3 0 0 sp_X12_worst := by
  refine Ct.go (M := M_X12_worst) mm_X12_worst fun av σ Q h0 => ?_
  obtain ⟨this, w, rfl, hk, h⟩ := el_X12_worst h0
  clear h0
  refine ⟨Nat.le_of_ble_eq_true rfl, ?_⟩
  show Go M_X12_worst Q 0 [some (vr this), some (vi w), none, none] [] σ (0, 0)
  obtain ⟨rfl, hI, hw, h⟩ := h
  have hI2 : MI (pI σ 1300 61 0) := MI_fre hI (by decide)
  have hn := hI.boxes_s
  have ht := hI.now_s
  have hr := hw
  unfold inR at hr
  have hd : inR (fI σ 1301 61 / 86400) := by unfold inR; omega
  have loop : ∀ (n j : Nat), (j : Int) + n = fI σ 1302 61 → Go M_X12_worst Q 9 [some (vr 61), some (vi w), some (vi (mWo σ w j)), some (vi j)] [] (pI σ 1300 61 0) (0, 0) := by
    intro n
    induction n with
    | zero =>
      intro j hj
      have e : (fI σ 1302 61).toNat = j := by omega
      rw [e] at h
      refine go_X12_worst (ct := fun p => p == 9) 40 ?_
      simp only [oI, oL, oR, o1, lI, lL, lR, popN, catS, gv, stL, stL2, swt, cnd, spObj, List.getElem?_cons_zero, List.getElem?_cons_succ, List.getD_cons_zero, List.getD_cons_succ, List.set_cons_zero, List.set_cons_succ, List.nil_append, List.cons_append, Option.toList, Bool.or_false, Bool.false_or, Bool.or_true, Bool.true_or, Nat.reduceBEq, Nat.reduceAdd, Nat.reduceLT, Nat.reduceLeDiff, Int.reduceAdd, Int.reduceToNat, true_and, and_true, Fin.isValue, Fin.val_zero, Fin.val_one, Fin.val_two, Fin.reduceFinMk, eq_self, Int.reduceNeg, imp_self, Nat.reduceMul, Nat.le_refl, not_true_eq_false, not_false_eq_true, List.getElem?_nil, reduceCtorEq, true_or, or_true, Classical.not_not, implies_true, or_self, wI_0, wI_1, wI_m1, b2i_w, b2i_eq0, b2i_eq1, b2i_bool, nor_self, nx_pI, kd_pI, ln_pI, fI_pI, fL_pI, fR_pI, aI_pI, aL_pI, aR_pI, nx_pL, kd_pL, ln_pL, fI_pL, fL_pL, fR_pL, aI_pL, aL_pL, aR_pL, nx_pR, kd_pR, ln_pR, fI_pR, fL_pR, fR_pR, aI_pR, aL_pR, aR_pR, nx_qI, kd_qI, ln_qI, fI_qI, fL_qI, fR_qI, aI_qI, aL_qI, aR_qI, nx_qL, kd_qL, ln_qL, fI_qL, fL_qL, fR_qL, aI_qL, aL_qL, aR_qL, nx_qR, kd_qR, ln_qR, fI_qR, fL_qR, fR_qR, aI_qR, aL_qR, aR_qR, nx_mk, kd_mk, ln_mk, fI_mk, fL_mk, fR_mk, aI_mk, aL_mk, aR_mk, false_and, and_false, if_false, if_true, and_self, Int.reduceEq, Nat.reduceEqDiff, ite_self, MLay_pI, MLay_pL, MLay_qI, MLay_qL, ev_X12_worst, xt_X12_worst, xf_X12_worst, us_X12_rateOf, hk]
      try simp (disch := omega) only [wI_id, dv_nn, rm_nn]
      exact ⟨fun _ => h, fun z => absurd z (by omega)⟩
    | succ n ih =>
      intro j hj
      have ih' := ih (j + 1) (by omega)
      clear ih
      simp only [mWo, Int.natCast_add, Int.cast_ofNat_Int] at ih'
      have h1 := hI.ward_ j
      have h2 := mWo_in σ w j
      have h3 := mRate_in hI j (fI σ 1301 61 / 86400)
      have h4 := mRate_in hI (mWo σ w j) (fI σ 1301 61 / 86400)
      refine go_X12_worst (ct := fun p => p == 9) 40 ?_
      simp only [oI, oL, oR, o1, lI, lL, lR, popN, catS, gv, stL, stL2, swt, cnd, spObj, List.getElem?_cons_zero, List.getElem?_cons_succ, List.getD_cons_zero, List.getD_cons_succ, List.set_cons_zero, List.set_cons_succ, List.nil_append, List.cons_append, Option.toList, Bool.or_false, Bool.false_or, Bool.or_true, Bool.true_or, Nat.reduceBEq, Nat.reduceAdd, Nat.reduceLT, Nat.reduceLeDiff, Int.reduceAdd, Int.reduceToNat, true_and, and_true, Fin.isValue, Fin.val_zero, Fin.val_one, Fin.val_two, Fin.reduceFinMk, eq_self, Int.reduceNeg, imp_self, Nat.reduceMul, Nat.le_refl, not_true_eq_false, not_false_eq_true, List.getElem?_nil, reduceCtorEq, true_or, or_true, Classical.not_not, implies_true, or_self, wI_0, wI_1, wI_m1, b2i_w, b2i_eq0, b2i_eq1, b2i_bool, nor_self, nx_pI, kd_pI, ln_pI, fI_pI, fL_pI, fR_pI, aI_pI, aL_pI, aR_pI, nx_pL, kd_pL, ln_pL, fI_pL, fL_pL, fR_pL, aI_pL, aL_pL, aR_pL, nx_pR, kd_pR, ln_pR, fI_pR, fL_pR, fR_pR, aI_pR, aL_pR, aR_pR, nx_qI, kd_qI, ln_qI, fI_qI, fL_qI, fR_qI, aI_qI, aL_qI, aR_qI, nx_qL, kd_qL, ln_qL, fI_qL, fL_qL, fR_qL, aI_qL, aL_qL, aR_qL, nx_qR, kd_qR, ln_qR, fI_qR, fL_qR, fR_qR, aI_qR, aL_qR, aR_qR, nx_mk, kd_mk, ln_mk, fI_mk, fL_mk, fR_mk, aI_mk, aL_mk, aR_mk, false_and, and_false, if_false, if_true, and_self, Int.reduceEq, Nat.reduceEqDiff, ite_self, MLay_pI, MLay_pL, MLay_qI, MLay_qL, ev_X12_worst, xt_X12_worst, xf_X12_worst, us_X12_rateOf, hk, hI.lay.eqs, hI2, mRate_th, show wI 86400 = 86400 by decide]
      try simp (disch := omega) only [wI_id, dv_nn, rm_nn]
      simp only [hd]
      repeat' (first | intro z | apply And.intro)
      all_goals try omega
      all_goals grind
  refine go_X12_worst (ct := fun p => p == 9) 40 ?_
  simp only [oI, oL, oR, o1, lI, lL, lR, popN, catS, gv, stL, stL2, swt, cnd, spObj, List.getElem?_cons_zero, List.getElem?_cons_succ, List.getD_cons_zero, List.getD_cons_succ, List.set_cons_zero, List.set_cons_succ, List.nil_append, List.cons_append, Option.toList, Bool.or_false, Bool.false_or, Bool.or_true, Bool.true_or, Nat.reduceBEq, Nat.reduceAdd, Nat.reduceLT, Nat.reduceLeDiff, Int.reduceAdd, Int.reduceToNat, true_and, and_true, Fin.isValue, Fin.val_zero, Fin.val_one, Fin.val_two, Fin.reduceFinMk, eq_self, Int.reduceNeg, imp_self, Nat.reduceMul, Nat.le_refl, not_true_eq_false, not_false_eq_true, List.getElem?_nil, reduceCtorEq, true_or, or_true, Classical.not_not, implies_true, or_self, wI_0, wI_1, wI_m1, b2i_w, b2i_eq0, b2i_eq1, b2i_bool, nor_self, nx_pI, kd_pI, ln_pI, fI_pI, fL_pI, fR_pI, aI_pI, aL_pI, aR_pI, nx_pL, kd_pL, ln_pL, fI_pL, fL_pL, fR_pL, aI_pL, aL_pL, aR_pL, nx_pR, kd_pR, ln_pR, fI_pR, fL_pR, fR_pR, aI_pR, aL_pR, aR_pR, nx_qI, kd_qI, ln_qI, fI_qI, fL_qI, fR_qI, aI_qI, aL_qI, aR_qI, nx_qL, kd_qL, ln_qL, fI_qL, fL_qL, fR_qL, aI_qL, aL_qL, aR_qL, nx_qR, kd_qR, ln_qR, fI_qR, fL_qR, fR_qR, aI_qR, aL_qR, aR_qR, nx_mk, kd_mk, ln_mk, fI_mk, fL_mk, fR_mk, aI_mk, aL_mk, aR_mk, false_and, and_false, if_false, if_true, and_self, Int.reduceEq, Nat.reduceEqDiff, ite_self, MLay_pI, MLay_pL, MLay_qI, MLay_qL, ev_X12_worst, xt_X12_worst, xf_X12_worst, us_X12_rateOf, hk]
  exact loop (fI σ 1302 61).toNat 0 (by omega)

def sp_X12_word : Sp := fun av σ Q => oR av fun this av => oI av fun a av => oI av fun v av => av = [] ∧ kd σ this = 13 ∧ (this = 61 ∧ MI σ ∧ inR a ∧ (v = 0 ∨ v = 1) ∧ (((0 ≤ a ∧ a < fI σ 1371 61) ∧ ¬ aI σ 112 a = 0 ∧ ¬ fI σ 1380 61 = 200) → Q (some (vi 1)) (pI (qI (qI (qI (pI σ 1300 61 0) 117 (fI σ 1380 61) a) 118 (fI σ 1380 61) v) 119 (fI σ 1380 61) (fI σ 1301 61 / 86400)) 1380 61 (fI σ 1380 61 + 1))) ∧ (¬ ((0 ≤ a ∧ a < fI σ 1371 61) ∧ ¬ aI σ 112 a = 0 ∧ ¬ fI σ 1380 61 = 200) → Q (some (vi 0)) (pI σ 1300 61 0)))
theorem us_X12_word (this : Int) (a : Int) (v : Int) (σ : Hp) (Q : Option AV → Hp → Prop) : sp_X12_word [vr this, vi a, vi v] σ Q = (kd σ this = 13 ∧ (this = 61 ∧ MI σ ∧ inR a ∧ (v = 0 ∨ v = 1) ∧ (((0 ≤ a ∧ a < fI σ 1371 61) ∧ ¬ aI σ 112 a = 0 ∧ ¬ fI σ 1380 61 = 200) → Q (some (vi 1)) (pI (qI (qI (qI (pI σ 1300 61 0) 117 (fI σ 1380 61) a) 118 (fI σ 1380 61) v) 119 (fI σ 1380 61) (fI σ 1301 61 / 86400)) 1380 61 (fI σ 1380 61 + 1))) ∧ (¬ ((0 ≤ a ∧ a < fI σ 1371 61) ∧ ¬ aI σ 112 a = 0 ∧ ¬ fI σ 1380 61 = 200) → Q (some (vi 0)) (pI σ 1300 61 0)))) := propext ⟨fun h => h.2, fun h => ⟨rfl, h⟩⟩
theorem el_X12_word {av : List AV} {σ : Hp} {Q : Option AV → Hp → Prop} (h : sp_X12_word av σ Q) : ∃ (this : Int) (a : Int) (v : Int), av = [vr this, vi a, vi v] ∧ (kd σ this = 13 ∧ (this = 61 ∧ MI σ ∧ inR a ∧ (v = 0 ∨ v = 1) ∧ (((0 ≤ a ∧ a < fI σ 1371 61) ∧ ¬ aI σ 112 a = 0 ∧ ¬ fI σ 1380 61 = 200) → Q (some (vi 1)) (pI (qI (qI (qI (pI σ 1300 61 0) 117 (fI σ 1380 61) a) 118 (fI σ 1380 61) v) 119 (fI σ 1380 61) (fI σ 1301 61 / 86400)) 1380 61 (fI σ 1380 61 + 1))) ∧ (¬ ((0 ≤ a ∧ a < fI σ 1371 61) ∧ ¬ aI σ 112 a = 0 ∧ ¬ fI σ 1380 61 = 200) → Q (some (vi 0)) (pI σ 1300 61 0)))) := by
  obtain ⟨this, a0, rfl, h0⟩ := oR_s h
  obtain ⟨a, a1, rfl, h1⟩ := oI_s h0
  obtain ⟨v, a2, rfl, h2⟩ := oI_s h1
  obtain ⟨rfl, hz⟩ := h2
  exact ⟨this, a, v, rfl, hz⟩
theorem rc_X12_word : ∀ (av : List AV) (σ : Hp) (Q : Option AV → Hp → Prop), sp_X12_word av σ Q → ∃ r tl, av = vr r :: tl ∧ kd σ r = 12 + 1 := fun av σ Q h => by
  obtain ⟨this, a, v, rfl, hz, -⟩ := el_X12_word h
  exact ⟨this, _, rfl, hz⟩

def tb_X12_word : Tab := [(0, .aload_n 0, 1, (0, 0, 0, 0)), (1, .iconst 0, 1, (0, 0, 0, 0)), (2, .putfield 196, 3, (13, 1300, 0, 0)), (5, .aload_n 0, 1, (0, 0, 0, 0)), (6, .iload_n 1, 1, (0, 0, 0, 0)), (7, .invokevirtual 427, 3, (0, 0, 0, 0)), (10, .ifCond .eq 22, 3, (0, 0, 0, 0)), (13, .aload_n 0, 1, (0, 0, 0, 0)), (14, .getfield 162, 3, (13, 1375, 2, 0)), (17, .iload_n 1, 1, (0, 0, 0, 0)), (18, .baload, 1, (0, 0, 0, 0)), (19, .ifCond .eq 13, 3, (0, 0, 0, 0)), (22, .aload_n 0, 1, (0, 0, 0, 0)), (23, .getfield 469, 3, (13, 1380, 0, 0)), (26, .sipush 200, 3, (0, 0, 0, 0)), (29, .if_icmp .ne 5, 3, (0, 0, 0, 0)), (32, .iconst 0, 1, (0, 0, 0, 0)), (33, .ireturn, 1, (0, 0, 0, 0)), (34, .aload_n 0, 1, (0, 0, 0, 0)), (35, .getfield 177, 3, (13, 1381, 2, 0)), (38, .aload_n 0, 1, (0, 0, 0, 0)), (39, .getfield 469, 3, (13, 1380, 0, 0)), (42, .iload_n 1, 1, (0, 0, 0, 0)), (43, .iastore, 1, (0, 0, 0, 0)), (44, .aload_n 0, 1, (0, 0, 0, 0)), (45, .getfield 180, 3, (13, 1382, 2, 0)), (48, .aload_n 0, 1, (0, 0, 0, 0)), (49, .getfield 469, 3, (13, 1380, 0, 0)), (52, .iload_n 2, 1, (0, 0, 0, 0)), (53, .bastore, 1, (0, 0, 0, 0)), (54, .aload_n 0, 1, (0, 0, 0, 0)), (55, .getfield 183, 3, (13, 1383, 2, 0)), (58, .aload_n 0, 1, (0, 0, 0, 0)), (59, .getfield 469, 3, (13, 1380, 0, 0)), (62, .aload_n 0, 1, (0, 0, 0, 0)), (63, .getfield 217, 3, (13, 1301, 0, 0)), (66, .ldc_w 414, 3, (1, 0, 0, 86400)), (69, .idiv, 1, (0, 0, 0, 0)), (70, .iastore, 1, (0, 0, 0, 0)), (71, .aload_n 0, 1, (0, 0, 0, 0)), (72, .dup, 1, (0, 0, 0, 0)), (73, .getfield 469, 3, (13, 1380, 0, 0)), (76, .iconst 1, 1, (0, 0, 0, 0)), (77, .iadd, 1, (0, 0, 0, 0)), (78, .putfield 469, 3, (13, 1380, 0, 0)), (81, .iconst 1, 1, (0, 0, 0, 0)), (82, .ireturn, 1, (0, 0, 0, 0))]
set_option maxRecDepth 100000 in
theorem tk_X12_word : TOK RX12 false cX12_word tb_X12_word := chkT_ok ft_X12 (by decide +kernel)
def mt_X12_word : List (Nat × Mt) := [(3416, 2, 0, 0, 2, sp_X12_isAlarm)]
theorem em_X12_word : mt_X12_word.lookup 3416 = some (2, 0, 0, 2, sp_X12_isAlarm) := rfl
theorem mk_X12_word : MOK RX12 mt_X12_word := by
  intro q hq
  simp only [mt_X12_word, List.mem_cons, List.not_mem_nil, or_false] at hq
  rcases hq with rfl
  · exact rw_X12_3416
noncomputable def xe_X12_word (ct : Nat → Bool) (K : Kt) (R : Option AV → Hp → Prop) (n : Nat) : Kt := exS 3 3 0 0 2 tb_X12_word mt_X12_word ct K R n
noncomputable def xk_X12_word (ct : Nat → Bool) (K : Kt) (R : Option AV → Hp → Prop) (n : Nat) : Kt := exkS 3 3 0 0 2 tb_X12_word mt_X12_word ct K R n
theorem xt_X12_word {ct : Nat → Bool} {K : Kt} {R : Option AV → Hp → Prop} {n pc : Nat} {ls : List (Option AV)} {st : List AV} {σ : Hp} {k : Nat × Nat} (h : ct pc = true) : xk_X12_word ct K R n pc ls st σ k = K pc ls st σ k := by unfold xk_X12_word exkS; rw [h]
theorem xf_X12_word {ct : Nat → Bool} {K : Kt} {R : Option AV → Hp → Prop} {n pc : Nat} {ls : List (Option AV)} {st : List AV} {σ : Hp} {k : Nat × Nat} (h : ct pc = false) : xk_X12_word ct K R n pc ls st σ k = xe_X12_word ct K R n pc ls st σ k := by unfold xk_X12_word exkS xe_X12_word; rw [h]
theorem ev_X12_word {ct : Nat → Bool} {K : Kt} {R : Option AV → Hp → Prop} {n : Nat} {ls : List (Option AV)} {st : List AV} {σ : Hp} {k : Nat × Nat} :
  xe_X12_word ct K R (n + 1) 0 ls st σ k = (lR ls 0 fun x => xk_X12_word ct K R n 1 ls (vr x :: st) σ k) ∧
  xe_X12_word ct K R (n + 1) 1 ls st σ k = (xk_X12_word ct K R n 2 ls (vi (0) :: st) σ k) ∧
  xe_X12_word ct K R (n + 1) 2 ls st σ k = (oI st fun v st => oR st fun x st => kd σ x = 13 ∧ xk_X12_word ct K R n 5 ls st (pI σ 1300 x v) k) ∧
  xe_X12_word ct K R (n + 1) 5 ls st σ k = (lR ls 0 fun x => xk_X12_word ct K R n 6 ls (vr x :: st) σ k) ∧
  xe_X12_word ct K R (n + 1) 6 ls st σ k = (lI ls 1 fun x => xk_X12_word ct K R n 7 ls (vi x :: st) σ k) ∧
  xe_X12_word ct K R (n + 1) 7 ls st σ k = (popN 2 st [] fun av rest => (catS rest ≤ 8 ∧ 2 < 3 ∧ k.1 + 0 ≤ 0 ∧ k.2 + 0 ≤ 0) ∧ (sp_X12_isAlarm) av σ fun v σ' => xk_X12_word ct K R n 10 ls (v.toList ++ rest) σ' (k.1 + 0, k.2 + 0)) ∧
  xe_X12_word ct K R (n + 1) 10 ls st σ k = (oI st fun x st => (wI x = wI 0 → xk_X12_word ct K R n 32 ls st σ k) ∧ (¬ (wI x = wI 0) → xk_X12_word ct K R n 13 ls st σ k)) ∧
  xe_X12_word ct K R (n + 1) 13 ls st σ k = (lR ls 0 fun x => xk_X12_word ct K R n 14 ls (vr x :: st) σ k) ∧
  xe_X12_word ct K R (n + 1) 14 ls st σ k = (oR st fun x st => kd σ x = 13 ∧ xk_X12_word ct K R n 17 ls (vr (fR σ 1375 x) :: st) σ k) ∧
  xe_X12_word ct K R (n + 1) 17 ls st σ k = (lI ls 1 fun x => xk_X12_word ct K R n 18 ls (vi x :: st) σ k) ∧
  xe_X12_word ct K R (n + 1) 18 ls st σ k = (oI st fun j st => oR st fun x st => (kd σ x = 103 ∨ kd σ x = 21) ∧ (0 ≤ j ∧ j < ln σ x) ∧ xk_X12_word ct K R n 19 ls (vi (aI σ x j) :: st) σ k) ∧
  xe_X12_word ct K R (n + 1) 19 ls st σ k = (oI st fun x st => (wI x = wI 0 → xk_X12_word ct K R n 32 ls st σ k) ∧ (¬ (wI x = wI 0) → xk_X12_word ct K R n 22 ls st σ k)) ∧
  xe_X12_word ct K R (n + 1) 22 ls st σ k = (lR ls 0 fun x => xk_X12_word ct K R n 23 ls (vr x :: st) σ k) ∧
  xe_X12_word ct K R (n + 1) 23 ls st σ k = (oR st fun x st => kd σ x = 13 ∧ xk_X12_word ct K R n 26 ls (vi (fI σ 1380 x) :: st) σ k) ∧
  xe_X12_word ct K R (n + 1) 26 ls st σ k = (xk_X12_word ct K R n 29 ls (vi (200) :: st) σ k) ∧
  xe_X12_word ct K R (n + 1) 29 ls st σ k = (oI st fun y st => oI st fun x st => (¬ wI x = wI y → xk_X12_word ct K R n 34 ls st σ k) ∧ (¬ (¬ wI x = wI y) → xk_X12_word ct K R n 32 ls st σ k)) ∧
  xe_X12_word ct K R (n + 1) 32 ls st σ k = (xk_X12_word ct K R n 33 ls (vi (0) :: st) σ k) ∧
  xe_X12_word ct K R (n + 1) 33 ls st σ k = (oI st fun x st => st = [] ∧ (x = 0 ∨ x = 1) ∧ R (some (vi x)) σ) ∧
  xe_X12_word ct K R (n + 1) 34 ls st σ k = (lR ls 0 fun x => xk_X12_word ct K R n 35 ls (vr x :: st) σ k) ∧
  xe_X12_word ct K R (n + 1) 35 ls st σ k = (oR st fun x st => kd σ x = 13 ∧ xk_X12_word ct K R n 38 ls (vr (fR σ 1381 x) :: st) σ k) ∧
  xe_X12_word ct K R (n + 1) 38 ls st σ k = (lR ls 0 fun x => xk_X12_word ct K R n 39 ls (vr x :: st) σ k) ∧
  xe_X12_word ct K R (n + 1) 39 ls st σ k = (oR st fun x st => kd σ x = 13 ∧ xk_X12_word ct K R n 42 ls (vi (fI σ 1380 x) :: st) σ k) ∧
  xe_X12_word ct K R (n + 1) 42 ls st σ k = (lI ls 1 fun x => xk_X12_word ct K R n 43 ls (vi x :: st) σ k) ∧
  xe_X12_word ct K R (n + 1) 43 ls st σ k = (oI st fun v st => oI st fun j st => oR st fun x st => kd σ x = 101 ∧ (0 ≤ j ∧ j < ln σ x) ∧ xk_X12_word ct K R n 44 ls st (qI σ x j v) k) ∧
  xe_X12_word ct K R (n + 1) 44 ls st σ k = (lR ls 0 fun x => xk_X12_word ct K R n 45 ls (vr x :: st) σ k) ∧
  xe_X12_word ct K R (n + 1) 45 ls st σ k = (oR st fun x st => kd σ x = 13 ∧ xk_X12_word ct K R n 48 ls (vr (fR σ 1382 x) :: st) σ k) ∧
  xe_X12_word ct K R (n + 1) 48 ls st σ k = (lR ls 0 fun x => xk_X12_word ct K R n 49 ls (vr x :: st) σ k) ∧
  xe_X12_word ct K R (n + 1) 49 ls st σ k = (oR st fun x st => kd σ x = 13 ∧ xk_X12_word ct K R n 52 ls (vi (fI σ 1380 x) :: st) σ k) ∧
  xe_X12_word ct K R (n + 1) 52 ls st σ k = (lI ls 2 fun x => xk_X12_word ct K R n 53 ls (vi x :: st) σ k) ∧
  xe_X12_word ct K R (n + 1) 53 ls st σ k = (oI st fun v st => oI st fun j st => oR st fun x st => kd σ x = 103 ∧ (0 ≤ j ∧ j < ln σ x) ∧ (v = 0 ∨ v = 1) ∧ xk_X12_word ct K R n 54 ls st (qI σ x j v) k) ∧
  xe_X12_word ct K R (n + 1) 54 ls st σ k = (lR ls 0 fun x => xk_X12_word ct K R n 55 ls (vr x :: st) σ k) ∧
  xe_X12_word ct K R (n + 1) 55 ls st σ k = (oR st fun x st => kd σ x = 13 ∧ xk_X12_word ct K R n 58 ls (vr (fR σ 1383 x) :: st) σ k) ∧
  xe_X12_word ct K R (n + 1) 58 ls st σ k = (lR ls 0 fun x => xk_X12_word ct K R n 59 ls (vr x :: st) σ k) ∧
  xe_X12_word ct K R (n + 1) 59 ls st σ k = (oR st fun x st => kd σ x = 13 ∧ xk_X12_word ct K R n 62 ls (vi (fI σ 1380 x) :: st) σ k) ∧
  xe_X12_word ct K R (n + 1) 62 ls st σ k = (lR ls 0 fun x => xk_X12_word ct K R n 63 ls (vr x :: st) σ k) ∧
  xe_X12_word ct K R (n + 1) 63 ls st σ k = (oR st fun x st => kd σ x = 13 ∧ xk_X12_word ct K R n 66 ls (vi (fI σ 1301 x) :: st) σ k) ∧
  xe_X12_word ct K R (n + 1) 66 ls st σ k = (xk_X12_word ct K R n 69 ls (vi (86400) :: st) σ k) ∧
  xe_X12_word ct K R (n + 1) 69 ls st σ k = (oI st fun y st => oI st fun x st => ¬ wI y = 0 ∧ xk_X12_word ct K R n 70 ls (vi (dvI x y) :: st) σ k) ∧
  xe_X12_word ct K R (n + 1) 70 ls st σ k = (oI st fun v st => oI st fun j st => oR st fun x st => kd σ x = 101 ∧ (0 ≤ j ∧ j < ln σ x) ∧ xk_X12_word ct K R n 71 ls st (qI σ x j v) k) ∧
  xe_X12_word ct K R (n + 1) 71 ls st σ k = (lR ls 0 fun x => xk_X12_word ct K R n 72 ls (vr x :: st) σ k) ∧
  xe_X12_word ct K R (n + 1) 72 ls st σ k = (o1 st fun v st => xk_X12_word ct K R n 73 ls (v :: v :: st) σ k) ∧
  xe_X12_word ct K R (n + 1) 73 ls st σ k = (oR st fun x st => kd σ x = 13 ∧ xk_X12_word ct K R n 76 ls (vi (fI σ 1380 x) :: st) σ k) ∧
  xe_X12_word ct K R (n + 1) 76 ls st σ k = (xk_X12_word ct K R n 77 ls (vi (1) :: st) σ k) ∧
  xe_X12_word ct K R (n + 1) 77 ls st σ k = (oI st fun y st => oI st fun x st => xk_X12_word ct K R n 78 ls (vi (x + y) :: st) σ k) ∧
  xe_X12_word ct K R (n + 1) 78 ls st σ k = (oI st fun v st => oR st fun x st => kd σ x = 13 ∧ xk_X12_word ct K R n 81 ls st (pI σ 1380 x v) k) ∧
  xe_X12_word ct K R (n + 1) 81 ls st σ k = (xk_X12_word ct K R n 82 ls (vi (1) :: st) σ k) ∧
  xe_X12_word ct K R (n + 1) 82 ls st σ k = (oI st fun x st => st = [] ∧ (x = 0 ∨ x = 1) ∧ R (some (vi x)) σ) :=
  ⟨exS_step.trans rfl, exS_step.trans rfl, exS_step.trans rfl, exS_step.trans rfl, exS_step.trans rfl, exS_step.trans rfl, exS_step.trans rfl, exS_step.trans rfl, exS_step.trans rfl, exS_step.trans rfl, exS_step.trans rfl, exS_step.trans rfl, exS_step.trans rfl, exS_step.trans rfl, exS_step.trans rfl, exS_step.trans rfl, exS_step.trans rfl, exS_step.trans rfl, exS_step.trans rfl, exS_step.trans rfl, exS_step.trans rfl, exS_step.trans rfl, exS_step.trans rfl, exS_step.trans rfl, exS_step.trans rfl, exS_step.trans rfl, exS_step.trans rfl, exS_step.trans rfl, exS_step.trans rfl, exS_step.trans rfl, exS_step.trans rfl, exS_step.trans rfl, exS_step.trans rfl, exS_step.trans rfl, exS_step.trans rfl, exS_step.trans rfl, exS_step.trans rfl, exS_step.trans rfl, exS_step.trans rfl, exS_step.trans rfl, exS_step.trans rfl, exS_step.trans rfl, exS_step.trans rfl, exS_step.trans rfl, exS_step.trans rfl, exS_step.trans rfl, exS_step.trans rfl⟩
def M_X12_word : Md := (yX12_word, cX12_word, 3, (some FieldType.boolean), 3, 0, 0, 2, false, tb_X12_word, mt_X12_word)
theorem mm_X12_word : MMOK M_X12_word := ⟨by decide +kernel, tk_X12_word, mk_X12_word, rfl, fun h => by cases h⟩
theorem go_X12_word {Q : Option AV → Hp → Prop} {ct : Nat → Bool} {pc : Nat} {ls : List (Option AV)} {st : List AV} {σ : Hp} {k : Nat × Nat} (n : Nat) (h : xe_X12_word ct (Go M_X12_word Q) Q n pc ls st σ k) : Go M_X12_word Q pc ls st σ k := Go.exS mm_X12_word h

set_option maxRecDepth 20000 in
theorem c_X12_word : Ct yX12_word cX12_word 3 ((some FieldType.boolean)) 3 0 0 sp_X12_word := by
  refine Ct.go (M := M_X12_word) mm_X12_word fun av σ Q h0 => ?_
  obtain ⟨this, a, v, rfl, hk, h⟩ := el_X12_word h0
  clear h0
  refine ⟨Nat.le_of_ble_eq_true rfl, ?_⟩
  show Go M_X12_word Q 0 [some (vr this), some (vi a), some (vi v)] [] σ (0, 0)
  obtain ⟨rfl, hI, ha, hv, h1, h2⟩ := h
  have hI2 : MI (pI σ 1300 61 0) := MI_fre hI (by decide)
  have hn := hI.words_s
  have hn2 := hI.alarms_s
  have ht := hI.now_s
  have hx := hI.isOver_ a
  have hr := ha
  unfold inR at hr
  refine go_X12_word (ct := fun p => false) 60 ?_
  simp only [oI, oL, oR, o1, lI, lL, lR, popN, catS, gv, stL, stL2, swt, cnd, spObj, List.getElem?_cons_zero, List.getElem?_cons_succ, List.getD_cons_zero, List.getD_cons_succ, List.set_cons_zero, List.set_cons_succ, List.nil_append, List.cons_append, Option.toList, Bool.or_false, Bool.false_or, Bool.or_true, Bool.true_or, Nat.reduceBEq, Nat.reduceAdd, Nat.reduceLT, Nat.reduceLeDiff, Int.reduceAdd, Int.reduceToNat, true_and, and_true, Fin.isValue, Fin.val_zero, Fin.val_one, Fin.val_two, Fin.reduceFinMk, eq_self, Int.reduceNeg, imp_self, Nat.reduceMul, Nat.le_refl, not_true_eq_false, not_false_eq_true, List.getElem?_nil, reduceCtorEq, true_or, or_true, Classical.not_not, implies_true, or_self, wI_0, wI_1, wI_m1, b2i_w, b2i_eq0, b2i_eq1, b2i_bool, nor_self, nx_pI, kd_pI, ln_pI, fI_pI, fL_pI, fR_pI, aI_pI, aL_pI, aR_pI, nx_pL, kd_pL, ln_pL, fI_pL, fL_pL, fR_pL, aI_pL, aL_pL, aR_pL, nx_pR, kd_pR, ln_pR, fI_pR, fL_pR, fR_pR, aI_pR, aL_pR, aR_pR, nx_qI, kd_qI, ln_qI, fI_qI, fL_qI, fR_qI, aI_qI, aL_qI, aR_qI, nx_qL, kd_qL, ln_qL, fI_qL, fL_qL, fR_qL, aI_qL, aL_qL, aR_qL, nx_qR, kd_qR, ln_qR, fI_qR, fL_qR, fR_qR, aI_qR, aL_qR, aR_qR, nx_mk, kd_mk, ln_mk, fI_mk, fL_mk, fR_mk, aI_mk, aL_mk, aR_mk, false_and, and_false, if_false, if_true, and_self, Int.reduceEq, Nat.reduceEqDiff, ite_self, MLay_pI, MLay_pL, MLay_qI, MLay_qL, ev_X12_word, xt_X12_word, xf_X12_word, us_X12_isAlarm, hk, hI.lay.eqs, hI2, ha]
  try simp (disch := omega) only [wI_id, dv_nn, rm_nn]
  repeat' (first | intro z | apply And.intro)
  all_goals try omega
  all_goals grind

def sp_X12_cut : Sp := fun av σ Q => oR av fun this av => oI av fun l av => oI av fun w av => oI av fun v av => av = [] ∧ kd σ this = 13 ∧ (this = 61 ∧ MI σ ∧ inR l ∧ inR w ∧ (v = 0 ∨ v = 1) ∧ (((0 ≤ l ∧ l ≤ 3) ∧ (0 ≤ w ∧ w ≤ aI σ 74 l)) → Q (some (vi 1)) (qI (pI σ 1300 61 0) 76 (13 * l + w) v)) ∧ (¬ ((0 ≤ l ∧ l ≤ 3) ∧ (0 ≤ w ∧ w ≤ aI σ 74 l)) → Q (some (vi 0)) (pI σ 1300 61 0)))
theorem us_X12_cut (this : Int) (l : Int) (w : Int) (v : Int) (σ : Hp) (Q : Option AV → Hp → Prop) : sp_X12_cut [vr this, vi l, vi w, vi v] σ Q = (kd σ this = 13 ∧ (this = 61 ∧ MI σ ∧ inR l ∧ inR w ∧ (v = 0 ∨ v = 1) ∧ (((0 ≤ l ∧ l ≤ 3) ∧ (0 ≤ w ∧ w ≤ aI σ 74 l)) → Q (some (vi 1)) (qI (pI σ 1300 61 0) 76 (13 * l + w) v)) ∧ (¬ ((0 ≤ l ∧ l ≤ 3) ∧ (0 ≤ w ∧ w ≤ aI σ 74 l)) → Q (some (vi 0)) (pI σ 1300 61 0)))) := propext ⟨fun h => h.2, fun h => ⟨rfl, h⟩⟩
theorem el_X12_cut {av : List AV} {σ : Hp} {Q : Option AV → Hp → Prop} (h : sp_X12_cut av σ Q) : ∃ (this : Int) (l : Int) (w : Int) (v : Int), av = [vr this, vi l, vi w, vi v] ∧ (kd σ this = 13 ∧ (this = 61 ∧ MI σ ∧ inR l ∧ inR w ∧ (v = 0 ∨ v = 1) ∧ (((0 ≤ l ∧ l ≤ 3) ∧ (0 ≤ w ∧ w ≤ aI σ 74 l)) → Q (some (vi 1)) (qI (pI σ 1300 61 0) 76 (13 * l + w) v)) ∧ (¬ ((0 ≤ l ∧ l ≤ 3) ∧ (0 ≤ w ∧ w ≤ aI σ 74 l)) → Q (some (vi 0)) (pI σ 1300 61 0)))) := by
  obtain ⟨this, a0, rfl, h0⟩ := oR_s h
  obtain ⟨l, a1, rfl, h1⟩ := oI_s h0
  obtain ⟨w, a2, rfl, h2⟩ := oI_s h1
  obtain ⟨v, a3, rfl, h3⟩ := oI_s h2
  obtain ⟨rfl, hz⟩ := h3
  exact ⟨this, l, w, v, rfl, hz⟩
theorem rc_X12_cut : ∀ (av : List AV) (σ : Hp) (Q : Option AV → Hp → Prop), sp_X12_cut av σ Q → ∃ r tl, av = vr r :: tl ∧ kd σ r = 12 + 1 := fun av σ Q h => by
  obtain ⟨this, l, w, v, rfl, hz, -⟩ := el_X12_cut h
  exact ⟨this, _, rfl, hz⟩

def tb_X12_cut : Tab := [(0, .aload_n 0, 1, (0, 0, 0, 0)), (1, .iconst 0, 1, (0, 0, 0, 0)), (2, .putfield 196, 3, (13, 1300, 0, 0)), (5, .iload_n 1, 1, (0, 0, 0, 0)), (6, .iconst 0, 1, (0, 0, 0, 0)), (7, .iconst 3, 1, (0, 0, 0, 0)), (8, .invokestatic 202, 3, (0, 0, 0, 0)), (11, .ifCond .eq 17, 3, (0, 0, 0, 0)), (14, .iload_n 2, 1, (0, 0, 0, 0)), (15, .iconst 0, 1, (0, 0, 0, 0)), (16, .aload_n 0, 1, (0, 0, 0, 0)), (17, .getfield 47, 3, (13, 1315, 2, 0)), (20, .iload_n 1, 1, (0, 0, 0, 0)), (21, .iaload, 1, (0, 0, 0, 0)), (22, .invokestatic 202, 3, (0, 0, 0, 0)), (25, .ifCond .ne 5, 3, (0, 0, 0, 0)), (28, .iconst 0, 1, (0, 0, 0, 0)), (29, .ireturn, 1, (0, 0, 0, 0)), (30, .aload_n 0, 1, (0, 0, 0, 0)), (31, .getfield 53, 3, (13, 1317, 2, 0)), (34, .bipush 13, 2, (0, 0, 0, 0)), (36, .iload_n 1, 1, (0, 0, 0, 0)), (37, .imul, 1, (0, 0, 0, 0)), (38, .iload_n 2, 1, (0, 0, 0, 0)), (39, .iadd, 1, (0, 0, 0, 0)), (40, .iload_n 3, 1, (0, 0, 0, 0)), (41, .bastore, 1, (0, 0, 0, 0)), (42, .iconst 1, 1, (0, 0, 0, 0)), (43, .ireturn, 1, (0, 0, 0, 0))]
set_option maxRecDepth 100000 in
theorem tk_X12_cut : TOK RX12 false cX12_cut tb_X12_cut := chkT_ok ft_X12 (by decide +kernel)
def mt_X12_cut : List (Nat × Mt) := [(1617, 3, 0, 0, 1, sp_X12_within)]
theorem em_X12_cut : mt_X12_cut.lookup 1617 = some (3, 0, 0, 1, sp_X12_within) := rfl
theorem mk_X12_cut : MOK RX12 mt_X12_cut := by
  intro q hq
  simp only [mt_X12_cut, List.mem_cons, List.not_mem_nil, or_false] at hq
  rcases hq with rfl
  · exact rw_X12_1617
noncomputable def xe_X12_cut (ct : Nat → Bool) (K : Kt) (R : Option AV → Hp → Prop) (n : Nat) : Kt := exS 4 2 0 0 2 tb_X12_cut mt_X12_cut ct K R n
noncomputable def xk_X12_cut (ct : Nat → Bool) (K : Kt) (R : Option AV → Hp → Prop) (n : Nat) : Kt := exkS 4 2 0 0 2 tb_X12_cut mt_X12_cut ct K R n
theorem xt_X12_cut {ct : Nat → Bool} {K : Kt} {R : Option AV → Hp → Prop} {n pc : Nat} {ls : List (Option AV)} {st : List AV} {σ : Hp} {k : Nat × Nat} (h : ct pc = true) : xk_X12_cut ct K R n pc ls st σ k = K pc ls st σ k := by unfold xk_X12_cut exkS; rw [h]
theorem xf_X12_cut {ct : Nat → Bool} {K : Kt} {R : Option AV → Hp → Prop} {n pc : Nat} {ls : List (Option AV)} {st : List AV} {σ : Hp} {k : Nat × Nat} (h : ct pc = false) : xk_X12_cut ct K R n pc ls st σ k = xe_X12_cut ct K R n pc ls st σ k := by unfold xk_X12_cut exkS xe_X12_cut; rw [h]
theorem ev_X12_cut {ct : Nat → Bool} {K : Kt} {R : Option AV → Hp → Prop} {n : Nat} {ls : List (Option AV)} {st : List AV} {σ : Hp} {k : Nat × Nat} :
  xe_X12_cut ct K R (n + 1) 0 ls st σ k = (lR ls 0 fun x => xk_X12_cut ct K R n 1 ls (vr x :: st) σ k) ∧
  xe_X12_cut ct K R (n + 1) 1 ls st σ k = (xk_X12_cut ct K R n 2 ls (vi (0) :: st) σ k) ∧
  xe_X12_cut ct K R (n + 1) 2 ls st σ k = (oI st fun v st => oR st fun x st => kd σ x = 13 ∧ xk_X12_cut ct K R n 5 ls st (pI σ 1300 x v) k) ∧
  xe_X12_cut ct K R (n + 1) 5 ls st σ k = (lI ls 1 fun x => xk_X12_cut ct K R n 6 ls (vi x :: st) σ k) ∧
  xe_X12_cut ct K R (n + 1) 6 ls st σ k = (xk_X12_cut ct K R n 7 ls (vi (0) :: st) σ k) ∧
  xe_X12_cut ct K R (n + 1) 7 ls st σ k = (xk_X12_cut ct K R n 8 ls (vi (3) :: st) σ k) ∧
  xe_X12_cut ct K R (n + 1) 8 ls st σ k = (popN 3 st [] fun av rest => (catS rest ≤ 8 ∧ 1 < 2 ∧ k.1 + 0 ≤ 0 ∧ k.2 + 0 ≤ 0) ∧ (sp_X12_within) av σ fun v σ' => xk_X12_cut ct K R n 11 ls (v.toList ++ rest) σ' (k.1 + 0, k.2 + 0)) ∧
  xe_X12_cut ct K R (n + 1) 11 ls st σ k = (oI st fun x st => (wI x = wI 0 → xk_X12_cut ct K R n 28 ls st σ k) ∧ (¬ (wI x = wI 0) → xk_X12_cut ct K R n 14 ls st σ k)) ∧
  xe_X12_cut ct K R (n + 1) 14 ls st σ k = (lI ls 2 fun x => xk_X12_cut ct K R n 15 ls (vi x :: st) σ k) ∧
  xe_X12_cut ct K R (n + 1) 15 ls st σ k = (xk_X12_cut ct K R n 16 ls (vi (0) :: st) σ k) ∧
  xe_X12_cut ct K R (n + 1) 16 ls st σ k = (lR ls 0 fun x => xk_X12_cut ct K R n 17 ls (vr x :: st) σ k) ∧
  xe_X12_cut ct K R (n + 1) 17 ls st σ k = (oR st fun x st => kd σ x = 13 ∧ xk_X12_cut ct K R n 20 ls (vr (fR σ 1315 x) :: st) σ k) ∧
  xe_X12_cut ct K R (n + 1) 20 ls st σ k = (lI ls 1 fun x => xk_X12_cut ct K R n 21 ls (vi x :: st) σ k) ∧
  xe_X12_cut ct K R (n + 1) 21 ls st σ k = (oI st fun j st => oR st fun x st => (kd σ x = 101 ∨ kd σ x = 108) ∧ (0 ≤ j ∧ j < ln σ x) ∧ xk_X12_cut ct K R n 22 ls (vi (aI σ x j) :: st) σ k) ∧
  xe_X12_cut ct K R (n + 1) 22 ls st σ k = (popN 3 st [] fun av rest => (catS rest ≤ 8 ∧ 1 < 2 ∧ k.1 + 0 ≤ 0 ∧ k.2 + 0 ≤ 0) ∧ (sp_X12_within) av σ fun v σ' => xk_X12_cut ct K R n 25 ls (v.toList ++ rest) σ' (k.1 + 0, k.2 + 0)) ∧
  xe_X12_cut ct K R (n + 1) 25 ls st σ k = (oI st fun x st => (¬ wI x = wI 0 → xk_X12_cut ct K R n 30 ls st σ k) ∧ (¬ (¬ wI x = wI 0) → xk_X12_cut ct K R n 28 ls st σ k)) ∧
  xe_X12_cut ct K R (n + 1) 28 ls st σ k = (xk_X12_cut ct K R n 29 ls (vi (0) :: st) σ k) ∧
  xe_X12_cut ct K R (n + 1) 29 ls st σ k = (oI st fun x st => st = [] ∧ (x = 0 ∨ x = 1) ∧ R (some (vi x)) σ) ∧
  xe_X12_cut ct K R (n + 1) 30 ls st σ k = (lR ls 0 fun x => xk_X12_cut ct K R n 31 ls (vr x :: st) σ k) ∧
  xe_X12_cut ct K R (n + 1) 31 ls st σ k = (oR st fun x st => kd σ x = 13 ∧ xk_X12_cut ct K R n 34 ls (vr (fR σ 1317 x) :: st) σ k) ∧
  xe_X12_cut ct K R (n + 1) 34 ls st σ k = (xk_X12_cut ct K R n 36 ls (vi (13) :: st) σ k) ∧
  xe_X12_cut ct K R (n + 1) 36 ls st σ k = (lI ls 1 fun x => xk_X12_cut ct K R n 37 ls (vi x :: st) σ k) ∧
  xe_X12_cut ct K R (n + 1) 37 ls st σ k = (oI st fun y st => oI st fun x st => xk_X12_cut ct K R n 38 ls (vi (x * y) :: st) σ k) ∧
  xe_X12_cut ct K R (n + 1) 38 ls st σ k = (lI ls 2 fun x => xk_X12_cut ct K R n 39 ls (vi x :: st) σ k) ∧
  xe_X12_cut ct K R (n + 1) 39 ls st σ k = (oI st fun y st => oI st fun x st => xk_X12_cut ct K R n 40 ls (vi (x + y) :: st) σ k) ∧
  xe_X12_cut ct K R (n + 1) 40 ls st σ k = (lI ls 3 fun x => xk_X12_cut ct K R n 41 ls (vi x :: st) σ k) ∧
  xe_X12_cut ct K R (n + 1) 41 ls st σ k = (oI st fun v st => oI st fun j st => oR st fun x st => kd σ x = 103 ∧ (0 ≤ j ∧ j < ln σ x) ∧ (v = 0 ∨ v = 1) ∧ xk_X12_cut ct K R n 42 ls st (qI σ x j v) k) ∧
  xe_X12_cut ct K R (n + 1) 42 ls st σ k = (xk_X12_cut ct K R n 43 ls (vi (1) :: st) σ k) ∧
  xe_X12_cut ct K R (n + 1) 43 ls st σ k = (oI st fun x st => st = [] ∧ (x = 0 ∨ x = 1) ∧ R (some (vi x)) σ) :=
  ⟨exS_step.trans rfl, exS_step.trans rfl, exS_step.trans rfl, exS_step.trans rfl, exS_step.trans rfl, exS_step.trans rfl, exS_step.trans rfl, exS_step.trans rfl, exS_step.trans rfl, exS_step.trans rfl, exS_step.trans rfl, exS_step.trans rfl, exS_step.trans rfl, exS_step.trans rfl, exS_step.trans rfl, exS_step.trans rfl, exS_step.trans rfl, exS_step.trans rfl, exS_step.trans rfl, exS_step.trans rfl, exS_step.trans rfl, exS_step.trans rfl, exS_step.trans rfl, exS_step.trans rfl, exS_step.trans rfl, exS_step.trans rfl, exS_step.trans rfl, exS_step.trans rfl, exS_step.trans rfl⟩
def M_X12_cut : Md := (yX12_cut, cX12_cut, 4, (some FieldType.boolean), 2, 0, 0, 2, false, tb_X12_cut, mt_X12_cut)
theorem mm_X12_cut : MMOK M_X12_cut := ⟨by decide +kernel, tk_X12_cut, mk_X12_cut, rfl, fun h => by cases h⟩
theorem go_X12_cut {Q : Option AV → Hp → Prop} {ct : Nat → Bool} {pc : Nat} {ls : List (Option AV)} {st : List AV} {σ : Hp} {k : Nat × Nat} (n : Nat) (h : xe_X12_cut ct (Go M_X12_cut Q) Q n pc ls st σ k) : Go M_X12_cut Q pc ls st σ k := Go.exS mm_X12_cut h

set_option maxRecDepth 20000 in
theorem c_X12_cut : Ct yX12_cut cX12_cut 4 ((some FieldType.boolean)) 2 0 0 sp_X12_cut := by
  refine Ct.go (M := M_X12_cut) mm_X12_cut fun av σ Q h0 => ?_
  obtain ⟨this, l, w, v, rfl, hk, h⟩ := el_X12_cut h0
  clear h0
  refine ⟨Nat.le_of_ble_eq_true rfl, ?_⟩
  show Go M_X12_cut Q 0 [some (vr this), some (vi l), some (vi w), some (vi v)] [] σ (0, 0)
  obtain ⟨rfl, hI, hl, hw, hv, h1, h2⟩ := h
  have hm := hI.many_ l
  unfold inR at hl hw
  refine go_X12_cut (ct := fun p => false) 60 ?_
  simp only [oI, oL, oR, o1, lI, lL, lR, popN, catS, gv, stL, stL2, swt, cnd, spObj, List.getElem?_cons_zero, List.getElem?_cons_succ, List.getD_cons_zero, List.getD_cons_succ, List.set_cons_zero, List.set_cons_succ, List.nil_append, List.cons_append, Option.toList, Bool.or_false, Bool.false_or, Bool.or_true, Bool.true_or, Nat.reduceBEq, Nat.reduceAdd, Nat.reduceLT, Nat.reduceLeDiff, Int.reduceAdd, Int.reduceToNat, true_and, and_true, Fin.isValue, Fin.val_zero, Fin.val_one, Fin.val_two, Fin.reduceFinMk, eq_self, Int.reduceNeg, imp_self, Nat.reduceMul, Nat.le_refl, not_true_eq_false, not_false_eq_true, List.getElem?_nil, reduceCtorEq, true_or, or_true, Classical.not_not, implies_true, or_self, wI_0, wI_1, wI_m1, b2i_w, b2i_eq0, b2i_eq1, b2i_bool, nor_self, nx_pI, kd_pI, ln_pI, fI_pI, fL_pI, fR_pI, aI_pI, aL_pI, aR_pI, nx_pL, kd_pL, ln_pL, fI_pL, fL_pL, fR_pL, aI_pL, aL_pL, aR_pL, nx_pR, kd_pR, ln_pR, fI_pR, fL_pR, fR_pR, aI_pR, aL_pR, aR_pR, nx_qI, kd_qI, ln_qI, fI_qI, fL_qI, fR_qI, aI_qI, aL_qI, aR_qI, nx_qL, kd_qL, ln_qL, fI_qL, fL_qL, fR_qL, aI_qL, aL_qL, aR_qL, nx_qR, kd_qR, ln_qR, fI_qR, fL_qR, fR_qR, aI_qR, aL_qR, aR_qR, nx_mk, kd_mk, ln_mk, fI_mk, fL_mk, fR_mk, aI_mk, aL_mk, aR_mk, false_and, and_false, if_false, if_true, and_self, Int.reduceEq, Nat.reduceEqDiff, ite_self, MLay_pI, MLay_pL, MLay_qI, MLay_qL, ev_X12_cut, xt_X12_cut, xf_X12_cut, us_X12_within, hk, hI.lay.eqs]
  try simp (disch := omega) only [wI_id, dv_nn, rm_nn]
  repeat' (first | intro z | apply And.intro)
  all_goals try omega
  all_goals grind

/-- what a look shows -/
noncomputable def mLk (σ : Hp) (b w : Int) : Int :=
  if w = 0 then aI σ 62 b else if w = 1 then aI σ 63 b else if w = 2 then aI σ 64 b else if w = 3 then aI σ 67 b else if w = 4 then (if aI σ 70 b = 0 then (if b2i (mGoing σ b) = 0 then 0 else 2) else 1)
  else if w = 5 then b2i (mDumb σ b) else if w = 6 then aI σ 69 b else if w = 7 then aI σ 68 b else aI σ 72 b

def sp_X12_look : Sp := fun av σ Q => oR av fun this av => oI av fun b av => oI av fun w av => av = [] ∧ kd σ this = 13 ∧ (this = 61 ∧ MI σ ∧ inR b ∧ inR w ∧ (((0 ≤ b ∧ b < fI σ 1302 61) ∧ (0 ≤ w ∧ w ≤ 8)) → Q (some (vi (mLk σ b w))) (pI σ 1300 61 0)) ∧ (¬ ((0 ≤ b ∧ b < fI σ 1302 61) ∧ (0 ≤ w ∧ w ≤ 8)) → Q (some (vi 0)) (pI (pI σ 1300 61 0) 1300 61 1)))
theorem us_X12_look (this : Int) (b : Int) (w : Int) (σ : Hp) (Q : Option AV → Hp → Prop) : sp_X12_look [vr this, vi b, vi w] σ Q = (kd σ this = 13 ∧ (this = 61 ∧ MI σ ∧ inR b ∧ inR w ∧ (((0 ≤ b ∧ b < fI σ 1302 61) ∧ (0 ≤ w ∧ w ≤ 8)) → Q (some (vi (mLk σ b w))) (pI σ 1300 61 0)) ∧ (¬ ((0 ≤ b ∧ b < fI σ 1302 61) ∧ (0 ≤ w ∧ w ≤ 8)) → Q (some (vi 0)) (pI (pI σ 1300 61 0) 1300 61 1)))) := propext ⟨fun h => h.2, fun h => ⟨rfl, h⟩⟩
theorem el_X12_look {av : List AV} {σ : Hp} {Q : Option AV → Hp → Prop} (h : sp_X12_look av σ Q) : ∃ (this : Int) (b : Int) (w : Int), av = [vr this, vi b, vi w] ∧ (kd σ this = 13 ∧ (this = 61 ∧ MI σ ∧ inR b ∧ inR w ∧ (((0 ≤ b ∧ b < fI σ 1302 61) ∧ (0 ≤ w ∧ w ≤ 8)) → Q (some (vi (mLk σ b w))) (pI σ 1300 61 0)) ∧ (¬ ((0 ≤ b ∧ b < fI σ 1302 61) ∧ (0 ≤ w ∧ w ≤ 8)) → Q (some (vi 0)) (pI (pI σ 1300 61 0) 1300 61 1)))) := by
  obtain ⟨this, a0, rfl, h0⟩ := oR_s h
  obtain ⟨b, a1, rfl, h1⟩ := oI_s h0
  obtain ⟨w, a2, rfl, h2⟩ := oI_s h1
  obtain ⟨rfl, hz⟩ := h2
  exact ⟨this, b, w, rfl, hz⟩
theorem rc_X12_look : ∀ (av : List AV) (σ : Hp) (Q : Option AV → Hp → Prop), sp_X12_look av σ Q → ∃ r tl, av = vr r :: tl ∧ kd σ r = 12 + 1 := fun av σ Q h => by
  obtain ⟨this, b, w, rfl, hz, -⟩ := el_X12_look h
  exact ⟨this, _, rfl, hz⟩

def tb_X12_look : Tab := [(0, .aload_n 0, 1, (0, 0, 0, 0)), (1, .iconst 0, 1, (0, 0, 0, 0)), (2, .putfield 196, 3, (13, 1300, 0, 0)), (5, .aload_n 0, 1, (0, 0, 0, 0)), (6, .iload_n 1, 1, (0, 0, 0, 0)), (7, .invokevirtual 214, 3, (0, 0, 0, 0)), (10, .ifCond .eq 13, 3, (0, 0, 0, 0)), (13, .iload_n 2, 1, (0, 0, 0, 0)), (14, .iconst 0, 1, (0, 0, 0, 0)), (15, .bipush 8, 2, (0, 0, 0, 0)), (17, .invokestatic 202, 3, (0, 0, 0, 0)), (20, .ifCond .ne 10, 3, (0, 0, 0, 0)), (23, .aload_n 0, 1, (0, 0, 0, 0)), (24, .iconst 1, 1, (0, 0, 0, 0)), (25, .putfield 196, 3, (13, 1300, 0, 0)), (28, .iconst 0, 1, (0, 0, 0, 0)), (29, .ireturn, 1, (0, 0, 0, 0)), (30, .iload_n 2, 1, (0, 0, 0, 0)), (31, .tableswitch 128 0 7 #[45, 52, 59, 66, 73, 100, 114, 121], 45, (0, 0, 0, 0)), (76, .aload_n 0, 1, (0, 0, 0, 0)), (77, .getfield 7, 3, (13, 1303, 2, 0)), (80, .iload_n 1, 1, (0, 0, 0, 0)), (81, .iaload, 1, (0, 0, 0, 0)), (82, .ireturn, 1, (0, 0, 0, 0)), (83, .aload_n 0, 1, (0, 0, 0, 0)), (84, .getfield 13, 3, (13, 1304, 2, 0)), (87, .iload_n 1, 1, (0, 0, 0, 0)), (88, .iaload, 1, (0, 0, 0, 0)), (89, .ireturn, 1, (0, 0, 0, 0)), (90, .aload_n 0, 1, (0, 0, 0, 0)), (91, .getfield 16, 3, (13, 1305, 2, 0)), (94, .iload_n 1, 1, (0, 0, 0, 0)), (95, .iaload, 1, (0, 0, 0, 0)), (96, .ireturn, 1, (0, 0, 0, 0)), (97, .aload_n 0, 1, (0, 0, 0, 0)), (98, .getfield 25, 3, (13, 1308, 2, 0)), (101, .iload_n 1, 1, (0, 0, 0, 0)), (102, .iaload, 1, (0, 0, 0, 0)), (103, .ireturn, 1, (0, 0, 0, 0)), (104, .aload_n 0, 1, (0, 0, 0, 0)), (105, .getfield 34, 3, (13, 1311, 2, 0)), (108, .iload_n 1, 1, (0, 0, 0, 0)), (109, .baload, 1, (0, 0, 0, 0)), (110, .ifCond .eq 7, 3, (0, 0, 0, 0)), (113, .iconst 1, 1, (0, 0, 0, 0)), (114, .goto 16, 3, (0, 0, 0, 0)), (117, .aload_n 0, 1, (0, 0, 0, 0)), (118, .iload_n 1, 1, (0, 0, 0, 0)), (119, .invokevirtual 478, 3, (0, 0, 0, 0)), (122, .ifCond .eq 7, 3, (0, 0, 0, 0)), (125, .iconst 2, 1, (0, 0, 0, 0)), (126, .goto 4, 3, (0, 0, 0, 0)), (129, .iconst 0, 1, (0, 0, 0, 0)), (130, .ireturn, 1, (0, 0, 0, 0)), (131, .aload_n 0, 1, (0, 0, 0, 0)), (132, .iload_n 1, 1, (0, 0, 0, 0)), (133, .invokevirtual 227, 3, (0, 0, 0, 0)), (136, .ifCond .eq 7, 3, (0, 0, 0, 0)), (139, .iconst 1, 1, (0, 0, 0, 0)), (140, .goto 4, 3, (0, 0, 0, 0)), (143, .iconst 0, 1, (0, 0, 0, 0)), (144, .ireturn, 1, (0, 0, 0, 0)), (145, .aload_n 0, 1, (0, 0, 0, 0)), (146, .getfield 31, 3, (13, 1310, 2, 0)), (149, .iload_n 1, 1, (0, 0, 0, 0)), (150, .iaload, 1, (0, 0, 0, 0)), (151, .ireturn, 1, (0, 0, 0, 0)), (152, .aload_n 0, 1, (0, 0, 0, 0)), (153, .getfield 28, 3, (13, 1309, 2, 0)), (156, .iload_n 1, 1, (0, 0, 0, 0)), (157, .iaload, 1, (0, 0, 0, 0)), (158, .ireturn, 1, (0, 0, 0, 0)), (159, .aload_n 0, 1, (0, 0, 0, 0)), (160, .getfield 41, 3, (13, 1313, 2, 0)), (163, .iload_n 1, 1, (0, 0, 0, 0)), (164, .iaload, 1, (0, 0, 0, 0)), (165, .ireturn, 1, (0, 0, 0, 0))]
set_option maxRecDepth 100000 in
theorem tk_X12_look : TOK RX12 false cX12_look tb_X12_look := chkT_ok ft_X12 (by decide +kernel)
theorem rw_X12_3824 : Row RX12 (.invokevirtual 478) 3 2 0 0 3 sp_X12_isGoing := row_V (n := 1) (ci := 12) c_X12_isGoing ⟨TBL_in 2095 (by decide +kernel) rfl, TBL_in 2098 (by decide +kernel) rfl, TBL_in 123 (by decide +kernel) rfl, by decide +kernel, by decide⟩ (by decide) rfl (TBL_in 2097 (by decide +kernel) rfl) (TBL_in 109 (by decide +kernel) rfl) rc_X12_isGoing
def mt_X12_look : List (Nat × Mt) := [(1712, 2, 0, 0, 2, sp_X12_isBox), (1617, 3, 0, 0, 1, sp_X12_within), (3824, 2, 0, 0, 3, sp_X12_isGoing), (1816, 2, 0, 0, 1, sp_X12_isDumb)]
theorem em_X12_look : mt_X12_look.lookup 1712 = some (2, 0, 0, 2, sp_X12_isBox) ∧ mt_X12_look.lookup 1617 = some (3, 0, 0, 1, sp_X12_within) ∧ mt_X12_look.lookup 3824 = some (2, 0, 0, 3, sp_X12_isGoing) ∧ mt_X12_look.lookup 1816 = some (2, 0, 0, 1, sp_X12_isDumb) := ⟨rfl, rfl, rfl, rfl⟩
theorem mk_X12_look : MOK RX12 mt_X12_look := by
  intro q hq
  simp only [mt_X12_look, List.mem_cons, List.not_mem_nil, or_false] at hq
  rcases hq with rfl | rfl | rfl | rfl
  · exact rw_X12_1712
  · exact rw_X12_1617
  · exact rw_X12_3824
  · exact rw_X12_1816
noncomputable def xe_X12_look (ct : Nat → Bool) (K : Kt) (R : Option AV → Hp → Prop) (n : Nat) : Kt := exS 3 4 0 0 1 tb_X12_look mt_X12_look ct K R n
noncomputable def xk_X12_look (ct : Nat → Bool) (K : Kt) (R : Option AV → Hp → Prop) (n : Nat) : Kt := exkS 3 4 0 0 1 tb_X12_look mt_X12_look ct K R n
theorem xt_X12_look {ct : Nat → Bool} {K : Kt} {R : Option AV → Hp → Prop} {n pc : Nat} {ls : List (Option AV)} {st : List AV} {σ : Hp} {k : Nat × Nat} (h : ct pc = true) : xk_X12_look ct K R n pc ls st σ k = K pc ls st σ k := by unfold xk_X12_look exkS; rw [h]
theorem xf_X12_look {ct : Nat → Bool} {K : Kt} {R : Option AV → Hp → Prop} {n pc : Nat} {ls : List (Option AV)} {st : List AV} {σ : Hp} {k : Nat × Nat} (h : ct pc = false) : xk_X12_look ct K R n pc ls st σ k = xe_X12_look ct K R n pc ls st σ k := by unfold xk_X12_look exkS xe_X12_look; rw [h]
theorem ev_X12_look {ct : Nat → Bool} {K : Kt} {R : Option AV → Hp → Prop} {n : Nat} {ls : List (Option AV)} {st : List AV} {σ : Hp} {k : Nat × Nat} :
  xe_X12_look ct K R (n + 1) 0 ls st σ k = (lR ls 0 fun x => xk_X12_look ct K R n 1 ls (vr x :: st) σ k) ∧
  xe_X12_look ct K R (n + 1) 1 ls st σ k = (xk_X12_look ct K R n 2 ls (vi (0) :: st) σ k) ∧
  xe_X12_look ct K R (n + 1) 2 ls st σ k = (oI st fun v st => oR st fun x st => kd σ x = 13 ∧ xk_X12_look ct K R n 5 ls st (pI σ 1300 x v) k) ∧
  xe_X12_look ct K R (n + 1) 5 ls st σ k = (lR ls 0 fun x => xk_X12_look ct K R n 6 ls (vr x :: st) σ k) ∧
  xe_X12_look ct K R (n + 1) 6 ls st σ k = (lI ls 1 fun x => xk_X12_look ct K R n 7 ls (vi x :: st) σ k) ∧
  xe_X12_look ct K R (n + 1) 7 ls st σ k = (popN 2 st [] fun av rest => (catS rest ≤ 8 ∧ 2 < 4 ∧ k.1 + 0 ≤ 0 ∧ k.2 + 0 ≤ 0) ∧ (sp_X12_isBox) av σ fun v σ' => xk_X12_look ct K R n 10 ls (v.toList ++ rest) σ' (k.1 + 0, k.2 + 0)) ∧
  xe_X12_look ct K R (n + 1) 10 ls st σ k = (oI st fun x st => (wI x = wI 0 → xk_X12_look ct K R n 23 ls st σ k) ∧ (¬ (wI x = wI 0) → xk_X12_look ct K R n 13 ls st σ k)) ∧
  xe_X12_look ct K R (n + 1) 13 ls st σ k = (lI ls 2 fun x => xk_X12_look ct K R n 14 ls (vi x :: st) σ k) ∧
  xe_X12_look ct K R (n + 1) 14 ls st σ k = (xk_X12_look ct K R n 15 ls (vi (0) :: st) σ k) ∧
  xe_X12_look ct K R (n + 1) 15 ls st σ k = (xk_X12_look ct K R n 17 ls (vi (8) :: st) σ k) ∧
  xe_X12_look ct K R (n + 1) 17 ls st σ k = (popN 3 st [] fun av rest => (catS rest ≤ 8 ∧ 1 < 4 ∧ k.1 + 0 ≤ 0 ∧ k.2 + 0 ≤ 0) ∧ (sp_X12_within) av σ fun v σ' => xk_X12_look ct K R n 20 ls (v.toList ++ rest) σ' (k.1 + 0, k.2 + 0)) ∧
  xe_X12_look ct K R (n + 1) 20 ls st σ k = (oI st fun x st => (¬ wI x = wI 0 → xk_X12_look ct K R n 30 ls st σ k) ∧ (¬ (¬ wI x = wI 0) → xk_X12_look ct K R n 23 ls st σ k)) ∧
  xe_X12_look ct K R (n + 1) 23 ls st σ k = (lR ls 0 fun x => xk_X12_look ct K R n 24 ls (vr x :: st) σ k) ∧
  xe_X12_look ct K R (n + 1) 24 ls st σ k = (xk_X12_look ct K R n 25 ls (vi (1) :: st) σ k) ∧
  xe_X12_look ct K R (n + 1) 25 ls st σ k = (oI st fun v st => oR st fun x st => kd σ x = 13 ∧ xk_X12_look ct K R n 28 ls st (pI σ 1300 x v) k) ∧
  xe_X12_look ct K R (n + 1) 28 ls st σ k = (xk_X12_look ct K R n 29 ls (vi (0) :: st) σ k) ∧
  xe_X12_look ct K R (n + 1) 29 ls st σ k = (oI st fun x st => st = [] ∧ True ∧ R (some (vi x)) σ) ∧
  xe_X12_look ct K R (n + 1) 30 ls st σ k = (lI ls 2 fun x => xk_X12_look ct K R n 31 ls (vi x :: st) σ k) ∧
  xe_X12_look ct K R (n + 1) 31 ls st σ k = (oI st fun x st => (wI x < 0 ∨ 7 < wI x → xk_X12_look ct K R n 159 ls st σ k) ∧ (wI x = 0 → xk_X12_look ct K R n 76 ls st σ k) ∧ (wI x = 1 → xk_X12_look ct K R n 83 ls st σ k) ∧ (wI x = 2 → xk_X12_look ct K R n 90 ls st σ k) ∧ (wI x = 3 → xk_X12_look ct K R n 97 ls st σ k) ∧ (wI x = 4 → xk_X12_look ct K R n 104 ls st σ k) ∧ (wI x = 5 → xk_X12_look ct K R n 131 ls st σ k) ∧ (wI x = 6 → xk_X12_look ct K R n 145 ls st σ k) ∧ (wI x = 7 → xk_X12_look ct K R n 152 ls st σ k) ∧ True) ∧
  xe_X12_look ct K R (n + 1) 76 ls st σ k = (lR ls 0 fun x => xk_X12_look ct K R n 77 ls (vr x :: st) σ k) ∧
  xe_X12_look ct K R (n + 1) 77 ls st σ k = (oR st fun x st => kd σ x = 13 ∧ xk_X12_look ct K R n 80 ls (vr (fR σ 1303 x) :: st) σ k) ∧
  xe_X12_look ct K R (n + 1) 80 ls st σ k = (lI ls 1 fun x => xk_X12_look ct K R n 81 ls (vi x :: st) σ k) ∧
  xe_X12_look ct K R (n + 1) 81 ls st σ k = (oI st fun j st => oR st fun x st => (kd σ x = 101 ∨ kd σ x = 108) ∧ (0 ≤ j ∧ j < ln σ x) ∧ xk_X12_look ct K R n 82 ls (vi (aI σ x j) :: st) σ k) ∧
  xe_X12_look ct K R (n + 1) 82 ls st σ k = (oI st fun x st => st = [] ∧ True ∧ R (some (vi x)) σ) ∧
  xe_X12_look ct K R (n + 1) 83 ls st σ k = (lR ls 0 fun x => xk_X12_look ct K R n 84 ls (vr x :: st) σ k) ∧
  xe_X12_look ct K R (n + 1) 84 ls st σ k = (oR st fun x st => kd σ x = 13 ∧ xk_X12_look ct K R n 87 ls (vr (fR σ 1304 x) :: st) σ k) ∧
  xe_X12_look ct K R (n + 1) 87 ls st σ k = (lI ls 1 fun x => xk_X12_look ct K R n 88 ls (vi x :: st) σ k) ∧
  xe_X12_look ct K R (n + 1) 88 ls st σ k = (oI st fun j st => oR st fun x st => (kd σ x = 101 ∨ kd σ x = 108) ∧ (0 ≤ j ∧ j < ln σ x) ∧ xk_X12_look ct K R n 89 ls (vi (aI σ x j) :: st) σ k) ∧
  xe_X12_look ct K R (n + 1) 89 ls st σ k = (oI st fun x st => st = [] ∧ True ∧ R (some (vi x)) σ) ∧
  xe_X12_look ct K R (n + 1) 90 ls st σ k = (lR ls 0 fun x => xk_X12_look ct K R n 91 ls (vr x :: st) σ k) ∧
  xe_X12_look ct K R (n + 1) 91 ls st σ k = (oR st fun x st => kd σ x = 13 ∧ xk_X12_look ct K R n 94 ls (vr (fR σ 1305 x) :: st) σ k) ∧
  xe_X12_look ct K R (n + 1) 94 ls st σ k = (lI ls 1 fun x => xk_X12_look ct K R n 95 ls (vi x :: st) σ k) ∧
  xe_X12_look ct K R (n + 1) 95 ls st σ k = (oI st fun j st => oR st fun x st => (kd σ x = 101 ∨ kd σ x = 108) ∧ (0 ≤ j ∧ j < ln σ x) ∧ xk_X12_look ct K R n 96 ls (vi (aI σ x j) :: st) σ k) ∧
  xe_X12_look ct K R (n + 1) 96 ls st σ k = (oI st fun x st => st = [] ∧ True ∧ R (some (vi x)) σ) ∧
  xe_X12_look ct K R (n + 1) 97 ls st σ k = (lR ls 0 fun x => xk_X12_look ct K R n 98 ls (vr x :: st) σ k) ∧
  xe_X12_look ct K R (n + 1) 98 ls st σ k = (oR st fun x st => kd σ x = 13 ∧ xk_X12_look ct K R n 101 ls (vr (fR σ 1308 x) :: st) σ k) ∧
  xe_X12_look ct K R (n + 1) 101 ls st σ k = (lI ls 1 fun x => xk_X12_look ct K R n 102 ls (vi x :: st) σ k) ∧
  xe_X12_look ct K R (n + 1) 102 ls st σ k = (oI st fun j st => oR st fun x st => (kd σ x = 101 ∨ kd σ x = 108) ∧ (0 ≤ j ∧ j < ln σ x) ∧ xk_X12_look ct K R n 103 ls (vi (aI σ x j) :: st) σ k) ∧
  xe_X12_look ct K R (n + 1) 103 ls st σ k = (oI st fun x st => st = [] ∧ True ∧ R (some (vi x)) σ) ∧
  xe_X12_look ct K R (n + 1) 104 ls st σ k = (lR ls 0 fun x => xk_X12_look ct K R n 105 ls (vr x :: st) σ k) ∧
  xe_X12_look ct K R (n + 1) 105 ls st σ k = (oR st fun x st => kd σ x = 13 ∧ xk_X12_look ct K R n 108 ls (vr (fR σ 1311 x) :: st) σ k) ∧
  xe_X12_look ct K R (n + 1) 108 ls st σ k = (lI ls 1 fun x => xk_X12_look ct K R n 109 ls (vi x :: st) σ k) ∧
  xe_X12_look ct K R (n + 1) 109 ls st σ k = (oI st fun j st => oR st fun x st => (kd σ x = 103 ∨ kd σ x = 21) ∧ (0 ≤ j ∧ j < ln σ x) ∧ xk_X12_look ct K R n 110 ls (vi (aI σ x j) :: st) σ k) ∧
  xe_X12_look ct K R (n + 1) 110 ls st σ k = (oI st fun x st => (wI x = wI 0 → xk_X12_look ct K R n 117 ls st σ k) ∧ (¬ (wI x = wI 0) → xk_X12_look ct K R n 113 ls st σ k)) ∧
  xe_X12_look ct K R (n + 1) 113 ls st σ k = (xk_X12_look ct K R n 114 ls (vi (1) :: st) σ k) ∧
  xe_X12_look ct K R (n + 1) 114 ls st σ k = (xk_X12_look ct K R n 130 ls st σ k) ∧
  xe_X12_look ct K R (n + 1) 117 ls st σ k = (lR ls 0 fun x => xk_X12_look ct K R n 118 ls (vr x :: st) σ k) ∧
  xe_X12_look ct K R (n + 1) 118 ls st σ k = (lI ls 1 fun x => xk_X12_look ct K R n 119 ls (vi x :: st) σ k) ∧
  xe_X12_look ct K R (n + 1) 119 ls st σ k = (popN 2 st [] fun av rest => (catS rest ≤ 8 ∧ 3 < 4 ∧ k.1 + 0 ≤ 0 ∧ k.2 + 0 ≤ 0) ∧ (sp_X12_isGoing) av σ fun v σ' => xk_X12_look ct K R n 122 ls (v.toList ++ rest) σ' (k.1 + 0, k.2 + 0)) ∧
  xe_X12_look ct K R (n + 1) 122 ls st σ k = (oI st fun x st => (wI x = wI 0 → xk_X12_look ct K R n 129 ls st σ k) ∧ (¬ (wI x = wI 0) → xk_X12_look ct K R n 125 ls st σ k)) ∧
  xe_X12_look ct K R (n + 1) 125 ls st σ k = (xk_X12_look ct K R n 126 ls (vi (2) :: st) σ k) ∧
  xe_X12_look ct K R (n + 1) 126 ls st σ k = (xk_X12_look ct K R n 130 ls st σ k) ∧
  xe_X12_look ct K R (n + 1) 129 ls st σ k = (xk_X12_look ct K R n 130 ls (vi (0) :: st) σ k) ∧
  xe_X12_look ct K R (n + 1) 130 ls st σ k = (oI st fun x st => st = [] ∧ True ∧ R (some (vi x)) σ) ∧
  xe_X12_look ct K R (n + 1) 131 ls st σ k = (lR ls 0 fun x => xk_X12_look ct K R n 132 ls (vr x :: st) σ k) ∧
  xe_X12_look ct K R (n + 1) 132 ls st σ k = (lI ls 1 fun x => xk_X12_look ct K R n 133 ls (vi x :: st) σ k) ∧
  xe_X12_look ct K R (n + 1) 133 ls st σ k = (popN 2 st [] fun av rest => (catS rest ≤ 8 ∧ 1 < 4 ∧ k.1 + 0 ≤ 0 ∧ k.2 + 0 ≤ 0) ∧ (sp_X12_isDumb) av σ fun v σ' => xk_X12_look ct K R n 136 ls (v.toList ++ rest) σ' (k.1 + 0, k.2 + 0)) ∧
  xe_X12_look ct K R (n + 1) 136 ls st σ k = (oI st fun x st => (wI x = wI 0 → xk_X12_look ct K R n 143 ls st σ k) ∧ (¬ (wI x = wI 0) → xk_X12_look ct K R n 139 ls st σ k)) ∧
  xe_X12_look ct K R (n + 1) 139 ls st σ k = (xk_X12_look ct K R n 140 ls (vi (1) :: st) σ k) ∧
  xe_X12_look ct K R (n + 1) 140 ls st σ k = (xk_X12_look ct K R n 144 ls st σ k) ∧
  xe_X12_look ct K R (n + 1) 143 ls st σ k = (xk_X12_look ct K R n 144 ls (vi (0) :: st) σ k) ∧
  xe_X12_look ct K R (n + 1) 144 ls st σ k = (oI st fun x st => st = [] ∧ True ∧ R (some (vi x)) σ) ∧
  xe_X12_look ct K R (n + 1) 145 ls st σ k = (lR ls 0 fun x => xk_X12_look ct K R n 146 ls (vr x :: st) σ k) ∧
  xe_X12_look ct K R (n + 1) 146 ls st σ k = (oR st fun x st => kd σ x = 13 ∧ xk_X12_look ct K R n 149 ls (vr (fR σ 1310 x) :: st) σ k) ∧
  xe_X12_look ct K R (n + 1) 149 ls st σ k = (lI ls 1 fun x => xk_X12_look ct K R n 150 ls (vi x :: st) σ k) ∧
  xe_X12_look ct K R (n + 1) 150 ls st σ k = (oI st fun j st => oR st fun x st => (kd σ x = 101 ∨ kd σ x = 108) ∧ (0 ≤ j ∧ j < ln σ x) ∧ xk_X12_look ct K R n 151 ls (vi (aI σ x j) :: st) σ k) ∧
  xe_X12_look ct K R (n + 1) 151 ls st σ k = (oI st fun x st => st = [] ∧ True ∧ R (some (vi x)) σ) ∧
  xe_X12_look ct K R (n + 1) 152 ls st σ k = (lR ls 0 fun x => xk_X12_look ct K R n 153 ls (vr x :: st) σ k) ∧
  xe_X12_look ct K R (n + 1) 153 ls st σ k = (oR st fun x st => kd σ x = 13 ∧ xk_X12_look ct K R n 156 ls (vr (fR σ 1309 x) :: st) σ k) ∧
  xe_X12_look ct K R (n + 1) 156 ls st σ k = (lI ls 1 fun x => xk_X12_look ct K R n 157 ls (vi x :: st) σ k) ∧
  xe_X12_look ct K R (n + 1) 157 ls st σ k = (oI st fun j st => oR st fun x st => (kd σ x = 101 ∨ kd σ x = 108) ∧ (0 ≤ j ∧ j < ln σ x) ∧ xk_X12_look ct K R n 158 ls (vi (aI σ x j) :: st) σ k) ∧
  xe_X12_look ct K R (n + 1) 158 ls st σ k = (oI st fun x st => st = [] ∧ True ∧ R (some (vi x)) σ) ∧
  xe_X12_look ct K R (n + 1) 159 ls st σ k = (lR ls 0 fun x => xk_X12_look ct K R n 160 ls (vr x :: st) σ k) ∧
  xe_X12_look ct K R (n + 1) 160 ls st σ k = (oR st fun x st => kd σ x = 13 ∧ xk_X12_look ct K R n 163 ls (vr (fR σ 1313 x) :: st) σ k) ∧
  xe_X12_look ct K R (n + 1) 163 ls st σ k = (lI ls 1 fun x => xk_X12_look ct K R n 164 ls (vi x :: st) σ k) ∧
  xe_X12_look ct K R (n + 1) 164 ls st σ k = (oI st fun j st => oR st fun x st => (kd σ x = 101 ∨ kd σ x = 108) ∧ (0 ≤ j ∧ j < ln σ x) ∧ xk_X12_look ct K R n 165 ls (vi (aI σ x j) :: st) σ k) ∧
  xe_X12_look ct K R (n + 1) 165 ls st σ k = (oI st fun x st => st = [] ∧ True ∧ R (some (vi x)) σ) :=
  ⟨exS_step.trans rfl, exS_step.trans rfl, exS_step.trans rfl, exS_step.trans rfl, exS_step.trans rfl, exS_step.trans rfl, exS_step.trans rfl, exS_step.trans rfl, exS_step.trans rfl, exS_step.trans rfl, exS_step.trans rfl, exS_step.trans rfl, exS_step.trans rfl, exS_step.trans rfl, exS_step.trans rfl, exS_step.trans rfl, exS_step.trans rfl, exS_step.trans rfl, exS_step.trans rfl, exS_step.trans rfl, exS_step.trans rfl, exS_step.trans rfl, exS_step.trans rfl, exS_step.trans rfl, exS_step.trans rfl, exS_step.trans rfl, exS_step.trans rfl, exS_step.trans rfl, exS_step.trans rfl, exS_step.trans rfl, exS_step.trans rfl, exS_step.trans rfl, exS_step.trans rfl, exS_step.trans rfl, exS_step.trans rfl, exS_step.trans rfl, exS_step.trans rfl, exS_step.trans rfl, exS_step.trans rfl, exS_step.trans rfl, exS_step.trans rfl, exS_step.trans rfl, exS_step.trans rfl, exS_step.trans rfl, exS_step.trans rfl, exS_step.trans rfl, exS_step.trans rfl, exS_step.trans rfl, exS_step.trans rfl, exS_step.trans rfl, exS_step.trans rfl, exS_step.trans rfl, exS_step.trans rfl, exS_step.trans rfl, exS_step.trans rfl, exS_step.trans rfl, exS_step.trans rfl, exS_step.trans rfl, exS_step.trans rfl, exS_step.trans rfl, exS_step.trans rfl, exS_step.trans rfl, exS_step.trans rfl, exS_step.trans rfl, exS_step.trans rfl, exS_step.trans rfl, exS_step.trans rfl, exS_step.trans rfl, exS_step.trans rfl, exS_step.trans rfl, exS_step.trans rfl, exS_step.trans rfl, exS_step.trans rfl, exS_step.trans rfl, exS_step.trans rfl, exS_step.trans rfl, exS_step.trans rfl⟩
def M_X12_look : Md := (yX12_look, cX12_look, 3, (some FieldType.int), 4, 0, 0, 1, false, tb_X12_look, mt_X12_look)
theorem mm_X12_look : MMOK M_X12_look := ⟨by decide +kernel, tk_X12_look, mk_X12_look, rfl, fun h => by cases h⟩
theorem go_X12_look {Q : Option AV → Hp → Prop} {ct : Nat → Bool} {pc : Nat} {ls : List (Option AV)} {st : List AV} {σ : Hp} {k : Nat × Nat} (n : Nat) (h : xe_X12_look ct (Go M_X12_look Q) Q n pc ls st σ k) : Go M_X12_look Q pc ls st σ k := Go.exS mm_X12_look h

set_option maxRecDepth 20000 in
theorem c_X12_look : Ct yX12_look cX12_look 3 ((some FieldType.int)) 4 0 0 sp_X12_look := by
  refine Ct.go (M := M_X12_look) mm_X12_look fun av σ Q h0 => ?_
  obtain ⟨this, b, w, rfl, hk, h⟩ := el_X12_look h0
  clear h0
  refine ⟨Nat.le_of_ble_eq_true rfl, ?_⟩
  show Go M_X12_look Q 0 [some (vr this), some (vi b), some (vi w)] [] σ (0, 0)
  obtain ⟨rfl, hI, hb, hw, h1, h2⟩ := h
  have hI2 : MI (pI σ 1300 61 0) := MI_fre hI (by decide)
  have hn := hI.boxes_s
  have hx := hI.waits_ b
  have hr := hb
  unfold inR at hr hw
  have e1 : mGoing (pI σ 1300 61 0) b = mGoing σ b := rfl
  have e2 : mDumb (pI σ 1300 61 0) b = mDumb σ b := rfl
  unfold mLk at h1
  refine go_X12_look (ct := fun p => false) 60 ?_
  simp only [oI, oL, oR, o1, lI, lL, lR, popN, catS, gv, stL, stL2, swt, cnd, spObj, List.getElem?_cons_zero, List.getElem?_cons_succ, List.getD_cons_zero, List.getD_cons_succ, List.set_cons_zero, List.set_cons_succ, List.nil_append, List.cons_append, Option.toList, Bool.or_false, Bool.false_or, Bool.or_true, Bool.true_or, Nat.reduceBEq, Nat.reduceAdd, Nat.reduceLT, Nat.reduceLeDiff, Int.reduceAdd, Int.reduceToNat, true_and, and_true, Fin.isValue, Fin.val_zero, Fin.val_one, Fin.val_two, Fin.reduceFinMk, eq_self, Int.reduceNeg, imp_self, Nat.reduceMul, Nat.le_refl, not_true_eq_false, not_false_eq_true, List.getElem?_nil, reduceCtorEq, true_or, or_true, Classical.not_not, implies_true, or_self, wI_0, wI_1, wI_m1, b2i_w, b2i_eq0, b2i_eq1, b2i_bool, nor_self, nx_pI, kd_pI, ln_pI, fI_pI, fL_pI, fR_pI, aI_pI, aL_pI, aR_pI, nx_pL, kd_pL, ln_pL, fI_pL, fL_pL, fR_pL, aI_pL, aL_pL, aR_pL, nx_pR, kd_pR, ln_pR, fI_pR, fL_pR, fR_pR, aI_pR, aL_pR, aR_pR, nx_qI, kd_qI, ln_qI, fI_qI, fL_qI, fR_qI, aI_qI, aL_qI, aR_qI, nx_qL, kd_qL, ln_qL, fI_qL, fL_qL, fR_qL, aI_qL, aL_qL, aR_qL, nx_qR, kd_qR, ln_qR, fI_qR, fL_qR, fR_qR, aI_qR, aL_qR, aR_qR, nx_mk, kd_mk, ln_mk, fI_mk, fL_mk, fR_mk, aI_mk, aL_mk, aR_mk, false_and, and_false, if_false, if_true, and_self, Int.reduceEq, Nat.reduceEqDiff, ite_self, MLay_pI, MLay_pL, MLay_qI, MLay_qL, ev_X12_look, xt_X12_look, xf_X12_look, us_X12_isBox, us_X12_within, us_X12_isGoing, us_X12_isDumb, hk, hI.lay.eqs, hI2, hb, e1, e2]
  try simp (disch := omega) only [wI_id, dv_nn, rm_nn]
  repeat' (first | intro z | apply And.intro)
  all_goals try omega
  all_goals first
    | exact h2 (by omega)
    | (have h3 := h1 (by omega); clear h1 h2; grind (splits := 25) [b2i_t, b2i_f])
