/-! the reference: the small ones -/

def sp_X12_within : Sp := fun av σ Q => oI av fun v av => oI av fun least av => oI av fun most av => av = [] ∧ (Q (some (vi (b2i (wI least ≤ wI v ∧ wI v ≤ wI most)))) σ)
theorem us_X12_within (v : Int) (least : Int) (most : Int) (σ : Hp) (Q : Option AV → Hp → Prop) : sp_X12_within [vi v, vi least, vi most] σ Q = ((Q (some (vi (b2i (wI least ≤ wI v ∧ wI v ≤ wI most)))) σ)) := propext ⟨fun h => h.2, fun h => ⟨rfl, h⟩⟩
theorem el_X12_within {av : List AV} {σ : Hp} {Q : Option AV → Hp → Prop} (h : sp_X12_within av σ Q) : ∃ (v : Int) (least : Int) (most : Int), av = [vi v, vi least, vi most] ∧ ((Q (some (vi (b2i (wI least ≤ wI v ∧ wI v ≤ wI most)))) σ)) := by
  obtain ⟨v, a0, rfl, h0⟩ := oI_s h
  obtain ⟨least, a1, rfl, h1⟩ := oI_s h0
  obtain ⟨most, a2, rfl, h2⟩ := oI_s h1
  obtain ⟨rfl, hz⟩ := h2
  exact ⟨v, least, most, rfl, hz⟩

def tb_X12_within : Tab := [(0, .iload_n 0, 1, (0, 0, 0, 0)), (1, .iload_n 1, 1, (0, 0, 0, 0)), (2, .if_icmp .lt 12, 3, (0, 0, 0, 0)), (5, .iload_n 0, 1, (0, 0, 0, 0)), (6, .iload_n 2, 1, (0, 0, 0, 0)), (7, .if_icmp .gt 7, 3, (0, 0, 0, 0)), (10, .iconst 1, 1, (0, 0, 0, 0)), (11, .goto 4, 3, (0, 0, 0, 0)), (14, .iconst 0, 1, (0, 0, 0, 0)), (15, .ireturn, 1, (0, 0, 0, 0))]
set_option maxRecDepth 100000 in
theorem tk_X12_within : TOK RX12 false cX12_within tb_X12_within := chkT_ok ft_X12 (by decide +kernel)
def mt_X12_within : List (Nat × Mt) := []
theorem mk_X12_within : MOK RX12 mt_X12_within := fun q hq => by cases hq
noncomputable def xe_X12_within (ct : Nat → Bool) (K : Kt) (R : Option AV → Hp → Prop) (n : Nat) : Kt := exS 3 1 0 0 2 tb_X12_within mt_X12_within ct K R n
noncomputable def xk_X12_within (ct : Nat → Bool) (K : Kt) (R : Option AV → Hp → Prop) (n : Nat) : Kt := exkS 3 1 0 0 2 tb_X12_within mt_X12_within ct K R n
theorem xt_X12_within {ct : Nat → Bool} {K : Kt} {R : Option AV → Hp → Prop} {n pc : Nat} {ls : List (Option AV)} {st : List AV} {σ : Hp} {k : Nat × Nat} (h : ct pc = true) : xk_X12_within ct K R n pc ls st σ k = K pc ls st σ k := by unfold xk_X12_within exkS; rw [h]
theorem xf_X12_within {ct : Nat → Bool} {K : Kt} {R : Option AV → Hp → Prop} {n pc : Nat} {ls : List (Option AV)} {st : List AV} {σ : Hp} {k : Nat × Nat} (h : ct pc = false) : xk_X12_within ct K R n pc ls st σ k = xe_X12_within ct K R n pc ls st σ k := by unfold xk_X12_within exkS xe_X12_within; rw [h]
theorem ev_X12_within {ct : Nat → Bool} {K : Kt} {R : Option AV → Hp → Prop} {n : Nat} {ls : List (Option AV)} {st : List AV} {σ : Hp} {k : Nat × Nat} :
  xe_X12_within ct K R (n + 1) 0 ls st σ k = (lI ls 0 fun x => xk_X12_within ct K R n 1 ls (vi x :: st) σ k) ∧
  xe_X12_within ct K R (n + 1) 1 ls st σ k = (lI ls 1 fun x => xk_X12_within ct K R n 2 ls (vi x :: st) σ k) ∧
  xe_X12_within ct K R (n + 1) 2 ls st σ k = (oI st fun y st => oI st fun x st => (wI x < wI y → xk_X12_within ct K R n 14 ls st σ k) ∧ (¬ (wI x < wI y) → xk_X12_within ct K R n 5 ls st σ k)) ∧
  xe_X12_within ct K R (n + 1) 5 ls st σ k = (lI ls 0 fun x => xk_X12_within ct K R n 6 ls (vi x :: st) σ k) ∧
  xe_X12_within ct K R (n + 1) 6 ls st σ k = (lI ls 2 fun x => xk_X12_within ct K R n 7 ls (vi x :: st) σ k) ∧
  xe_X12_within ct K R (n + 1) 7 ls st σ k = (oI st fun y st => oI st fun x st => (wI y < wI x → xk_X12_within ct K R n 14 ls st σ k) ∧ (¬ (wI y < wI x) → xk_X12_within ct K R n 10 ls st σ k)) ∧
  xe_X12_within ct K R (n + 1) 10 ls st σ k = (xk_X12_within ct K R n 11 ls (vi (1) :: st) σ k) ∧
  xe_X12_within ct K R (n + 1) 11 ls st σ k = (xk_X12_within ct K R n 15 ls st σ k) ∧
  xe_X12_within ct K R (n + 1) 14 ls st σ k = (xk_X12_within ct K R n 15 ls (vi (0) :: st) σ k) ∧
  xe_X12_within ct K R (n + 1) 15 ls st σ k = (oI st fun x st => st = [] ∧ (x = 0 ∨ x = 1) ∧ R (some (vi x)) σ) :=
  ⟨exS_step.trans rfl, exS_step.trans rfl, exS_step.trans rfl, exS_step.trans rfl, exS_step.trans rfl, exS_step.trans rfl, exS_step.trans rfl, exS_step.trans rfl, exS_step.trans rfl, exS_step.trans rfl⟩
def M_X12_within : Md := (yX12_within, cX12_within, 3, (some FieldType.boolean), 1, 0, 0, 2, false, tb_X12_within, mt_X12_within)
theorem mm_X12_within : MMOK M_X12_within := ⟨by decide +kernel, tk_X12_within, mk_X12_within, rfl, fun h => by cases h⟩
theorem go_X12_within {Q : Option AV → Hp → Prop} {ct : Nat → Bool} {pc : Nat} {ls : List (Option AV)} {st : List AV} {σ : Hp} {k : Nat × Nat} (n : Nat) (h : xe_X12_within ct (Go M_X12_within Q) Q n pc ls st σ k) : Go M_X12_within Q pc ls st σ k := Go.exS mm_X12_within h

set_option maxRecDepth 20000 in
theorem c_X12_within : Ct yX12_within cX12_within 3 ((some FieldType.boolean)) 1 0 0 sp_X12_within := by
  refine Ct.go (M := M_X12_within) mm_X12_within fun av σ Q h0 => ?_
  obtain ⟨v, least, most, rfl, h⟩ := el_X12_within h0
  clear h0
  refine ⟨Nat.le_of_ble_eq_true rfl, ?_⟩
  show Go M_X12_within Q 0 [some (vi v), some (vi least), some (vi most)] [] σ (0, 0)
  refine go_X12_within (ct := fun p => false) 20 ?_
  simp only [oI, oL, oR, o1, lI, lL, lR, popN, catS, gv, stL, stL2, swt, cnd, spObj, List.getElem?_cons_zero, List.getElem?_cons_succ, List.getD_cons_zero, List.getD_cons_succ, List.set_cons_zero, List.set_cons_succ, List.nil_append, List.cons_append, Option.toList, Bool.or_false, Bool.false_or, Bool.or_true, Bool.true_or, Nat.reduceBEq, Nat.reduceAdd, Nat.reduceLT, Nat.reduceLeDiff, Int.reduceAdd, Int.reduceToNat, true_and, and_true, Fin.isValue, Fin.val_zero, Fin.val_one, Fin.val_two, Fin.reduceFinMk, eq_self, Int.reduceNeg, imp_self, Nat.reduceMul, Nat.le_refl, not_true_eq_false, not_false_eq_true, List.getElem?_nil, reduceCtorEq, true_or, or_true, Classical.not_not, implies_true, or_self, wI_0, wI_1, wI_m1, b2i_w, b2i_eq0, b2i_eq1, b2i_bool, nor_self, nx_pI, kd_pI, ln_pI, fI_pI, fL_pI, fR_pI, aI_pI, aL_pI, aR_pI, nx_pL, kd_pL, ln_pL, fI_pL, fL_pL, fR_pL, aI_pL, aL_pL, aR_pL, nx_pR, kd_pR, ln_pR, fI_pR, fL_pR, fR_pR, aI_pR, aL_pR, aR_pR, nx_qI, kd_qI, ln_qI, fI_qI, fL_qI, fR_qI, aI_qI, aL_qI, aR_qI, nx_qL, kd_qL, ln_qL, fI_qL, fL_qL, fR_qL, aI_qL, aL_qL, aR_qL, nx_qR, kd_qR, ln_qR, fI_qR, fL_qR, fR_qR, aI_qR, aL_qR, aR_qR, nx_mk, kd_mk, ln_mk, fI_mk, fL_mk, fR_mk, aI_mk, aL_mk, aR_mk, false_and, and_false, if_false, if_true, and_self, Int.reduceEq, Nat.reduceEqDiff, ite_self, MLay_pI, MLay_pL, MLay_qI, MLay_qL, ev_X12_within, xt_X12_within, xf_X12_within]
  refine ⟨fun z => ?_, fun z => ⟨fun z2 => ?_, fun z2 => ?_⟩⟩
  · rw [b2i_f (by omega)] at h; exact h
  · rw [b2i_f (by omega)] at h; exact h
  · rw [b2i_t (by omega)] at h; exact h

def sp_X12_isBox : Sp := fun av σ Q => oR av fun this av => oI av fun b av => av = [] ∧ kd σ this = 13 ∧ (this = 61 ∧ MI σ ∧ inR b ∧ Q (some (vi (b2i (0 ≤ b ∧ b < fI σ 1302 61)))) σ)
theorem us_X12_isBox (this : Int) (b : Int) (σ : Hp) (Q : Option AV → Hp → Prop) : sp_X12_isBox [vr this, vi b] σ Q = (kd σ this = 13 ∧ (this = 61 ∧ MI σ ∧ inR b ∧ Q (some (vi (b2i (0 ≤ b ∧ b < fI σ 1302 61)))) σ)) := propext ⟨fun h => h.2, fun h => ⟨rfl, h⟩⟩
theorem el_X12_isBox {av : List AV} {σ : Hp} {Q : Option AV → Hp → Prop} (h : sp_X12_isBox av σ Q) : ∃ (this : Int) (b : Int), av = [vr this, vi b] ∧ (kd σ this = 13 ∧ (this = 61 ∧ MI σ ∧ inR b ∧ Q (some (vi (b2i (0 ≤ b ∧ b < fI σ 1302 61)))) σ)) := by
  obtain ⟨this, a0, rfl, h0⟩ := oR_s h
  obtain ⟨b, a1, rfl, h1⟩ := oI_s h0
  obtain ⟨rfl, hz⟩ := h1
  exact ⟨this, b, rfl, hz⟩
theorem rc_X12_isBox : ∀ (av : List AV) (σ : Hp) (Q : Option AV → Hp → Prop), sp_X12_isBox av σ Q → ∃ r tl, av = vr r :: tl ∧ kd σ r = 12 + 1 := fun av σ Q h => by
  obtain ⟨this, b, rfl, hz, -⟩ := el_X12_isBox h
  exact ⟨this, _, rfl, hz⟩

def tb_X12_isBox : Tab := [(0, .iload_n 1, 1, (0, 0, 0, 0)), (1, .iconst 0, 1, (0, 0, 0, 0)), (2, .aload_n 0, 1, (0, 0, 0, 0)), (3, .getfield 199, 3, (13, 1302, 0, 0)), (6, .iconst 1, 1, (0, 0, 0, 0)), (7, .isub, 1, (0, 0, 0, 0)), (8, .invokestatic 202, 3, (0, 0, 0, 0)), (11, .ireturn, 1, (0, 0, 0, 0))]
set_option maxRecDepth 100000 in
theorem tk_X12_isBox : TOK RX12 false cX12_isBox tb_X12_isBox := chkT_ok ft_X12 (by decide +kernel)
theorem rw_X12_1617 : Row RX12 (.invokestatic 202) 3 3 0 0 1 sp_X12_within := row_S c_X12_within ⟨TBL_in 1772 (by decide +kernel) rfl, TBL_in 1774 (by decide +kernel) rfl, TBL_in 123 (by decide +kernel) rfl, by decide +kernel, by decide⟩ (TBL_in 1773 (by decide +kernel) rfl)
def mt_X12_isBox : List (Nat × Mt) := [(1617, 3, 0, 0, 1, sp_X12_within)]
theorem em_X12_isBox : mt_X12_isBox.lookup 1617 = some (3, 0, 0, 1, sp_X12_within) := rfl
theorem mk_X12_isBox : MOK RX12 mt_X12_isBox := by
  intro q hq
  simp only [mt_X12_isBox, List.mem_cons, List.not_mem_nil, or_false] at hq
  rcases hq with rfl
  · exact rw_X12_1617
noncomputable def xe_X12_isBox (ct : Nat → Bool) (K : Kt) (R : Option AV → Hp → Prop) (n : Nat) : Kt := exS 2 2 0 0 2 tb_X12_isBox mt_X12_isBox ct K R n
noncomputable def xk_X12_isBox (ct : Nat → Bool) (K : Kt) (R : Option AV → Hp → Prop) (n : Nat) : Kt := exkS 2 2 0 0 2 tb_X12_isBox mt_X12_isBox ct K R n
theorem xt_X12_isBox {ct : Nat → Bool} {K : Kt} {R : Option AV → Hp → Prop} {n pc : Nat} {ls : List (Option AV)} {st : List AV} {σ : Hp} {k : Nat × Nat} (h : ct pc = true) : xk_X12_isBox ct K R n pc ls st σ k = K pc ls st σ k := by unfold xk_X12_isBox exkS; rw [h]
theorem xf_X12_isBox {ct : Nat → Bool} {K : Kt} {R : Option AV → Hp → Prop} {n pc : Nat} {ls : List (Option AV)} {st : List AV} {σ : Hp} {k : Nat × Nat} (h : ct pc = false) : xk_X12_isBox ct K R n pc ls st σ k = xe_X12_isBox ct K R n pc ls st σ k := by unfold xk_X12_isBox exkS xe_X12_isBox; rw [h]
theorem ev_X12_isBox {ct : Nat → Bool} {K : Kt} {R : Option AV → Hp → Prop} {n : Nat} {ls : List (Option AV)} {st : List AV} {σ : Hp} {k : Nat × Nat} :
  xe_X12_isBox ct K R (n + 1) 0 ls st σ k = (lI ls 1 fun x => xk_X12_isBox ct K R n 1 ls (vi x :: st) σ k) ∧
  xe_X12_isBox ct K R (n + 1) 1 ls st σ k = (xk_X12_isBox ct K R n 2 ls (vi (0) :: st) σ k) ∧
  xe_X12_isBox ct K R (n + 1) 2 ls st σ k = (lR ls 0 fun x => xk_X12_isBox ct K R n 3 ls (vr x :: st) σ k) ∧
  xe_X12_isBox ct K R (n + 1) 3 ls st σ k = (oR st fun x st => kd σ x = 13 ∧ xk_X12_isBox ct K R n 6 ls (vi (fI σ 1302 x) :: st) σ k) ∧
  xe_X12_isBox ct K R (n + 1) 6 ls st σ k = (xk_X12_isBox ct K R n 7 ls (vi (1) :: st) σ k) ∧
  xe_X12_isBox ct K R (n + 1) 7 ls st σ k = (oI st fun y st => oI st fun x st => xk_X12_isBox ct K R n 8 ls (vi (x - y) :: st) σ k) ∧
  xe_X12_isBox ct K R (n + 1) 8 ls st σ k = (popN 3 st [] fun av rest => (catS rest ≤ 8 ∧ 1 < 2 ∧ k.1 + 0 ≤ 0 ∧ k.2 + 0 ≤ 0) ∧ (sp_X12_within) av σ fun v σ' => xk_X12_isBox ct K R n 11 ls (v.toList ++ rest) σ' (k.1 + 0, k.2 + 0)) ∧
  xe_X12_isBox ct K R (n + 1) 11 ls st σ k = (oI st fun x st => st = [] ∧ (x = 0 ∨ x = 1) ∧ R (some (vi x)) σ) :=
  ⟨exS_step.trans rfl, exS_step.trans rfl, exS_step.trans rfl, exS_step.trans rfl, exS_step.trans rfl, exS_step.trans rfl, exS_step.trans rfl, exS_step.trans rfl⟩
def M_X12_isBox : Md := (yX12_isBox, cX12_isBox, 2, (some FieldType.boolean), 2, 0, 0, 2, false, tb_X12_isBox, mt_X12_isBox)
theorem mm_X12_isBox : MMOK M_X12_isBox := ⟨by decide +kernel, tk_X12_isBox, mk_X12_isBox, rfl, fun h => by cases h⟩
theorem go_X12_isBox {Q : Option AV → Hp → Prop} {ct : Nat → Bool} {pc : Nat} {ls : List (Option AV)} {st : List AV} {σ : Hp} {k : Nat × Nat} (n : Nat) (h : xe_X12_isBox ct (Go M_X12_isBox Q) Q n pc ls st σ k) : Go M_X12_isBox Q pc ls st σ k := Go.exS mm_X12_isBox h

set_option maxRecDepth 20000 in
theorem c_X12_isBox : Ct yX12_isBox cX12_isBox 2 ((some FieldType.boolean)) 2 0 0 sp_X12_isBox := by
  refine Ct.go (M := M_X12_isBox) mm_X12_isBox fun av σ Q h0 => ?_
  obtain ⟨this, b, rfl, hk, h⟩ := el_X12_isBox h0
  clear h0
  refine ⟨Nat.le_of_ble_eq_true rfl, ?_⟩
  show Go M_X12_isBox Q 0 [some (vr this), some (vi b)] [] σ (0, 0)
  obtain ⟨rfl, hI, hr, h⟩ := h
  have hb := hI.boxes_s
  unfold inR at hr
  refine go_X12_isBox (ct := fun p => false) 20 ?_
  simp only [oI, oL, oR, o1, lI, lL, lR, popN, catS, gv, stL, stL2, swt, cnd, spObj, List.getElem?_cons_zero, List.getElem?_cons_succ, List.getD_cons_zero, List.getD_cons_succ, List.set_cons_zero, List.set_cons_succ, List.nil_append, List.cons_append, Option.toList, Bool.or_false, Bool.false_or, Bool.or_true, Bool.true_or, Nat.reduceBEq, Nat.reduceAdd, Nat.reduceLT, Nat.reduceLeDiff, Int.reduceAdd, Int.reduceToNat, true_and, and_true, Fin.isValue, Fin.val_zero, Fin.val_one, Fin.val_two, Fin.reduceFinMk, eq_self, Int.reduceNeg, imp_self, Nat.reduceMul, Nat.le_refl, not_true_eq_false, not_false_eq_true, List.getElem?_nil, reduceCtorEq, true_or, or_true, Classical.not_not, implies_true, or_self, wI_0, wI_1, wI_m1, b2i_w, b2i_eq0, b2i_eq1, b2i_bool, nor_self, nx_pI, kd_pI, ln_pI, fI_pI, fL_pI, fR_pI, aI_pI, aL_pI, aR_pI, nx_pL, kd_pL, ln_pL, fI_pL, fL_pL, fR_pL, aI_pL, aL_pL, aR_pL, nx_pR, kd_pR, ln_pR, fI_pR, fL_pR, fR_pR, aI_pR, aL_pR, aR_pR, nx_qI, kd_qI, ln_qI, fI_qI, fL_qI, fR_qI, aI_qI, aL_qI, aR_qI, nx_qL, kd_qL, ln_qL, fI_qL, fL_qL, fR_qL, aI_qL, aL_qL, aR_qL, nx_qR, kd_qR, ln_qR, fI_qR, fL_qR, fR_qR, aI_qR, aL_qR, aR_qR, nx_mk, kd_mk, ln_mk, fI_mk, fL_mk, fR_mk, aI_mk, aL_mk, aR_mk, false_and, and_false, if_false, if_true, and_self, Int.reduceEq, Nat.reduceEqDiff, ite_self, MLay_pI, MLay_pL, MLay_qI, MLay_qL, ev_X12_isBox, xt_X12_isBox, xf_X12_isBox, us_X12_within, hk]
  try simp (disch := omega) only [wI_id, dv_nn, rm_nn]
  have e : (0 ≤ b ∧ b ≤ fI σ 1302 61 - 1) = (0 ≤ b ∧ b < fI σ 1302 61) := propext ⟨fun z => by omega, fun z => by omega⟩
  rw [e]; exact h

def digs : Nat → Int → Prop
  | 0, _ => True
  | k + 1, v => v = 0 ∨ (1 ≤ v % 10 ∧ v % 10 ≤ 5 ∧ digs k (v / 10))
/-- a box's number -/
def okNum (n : Int) : Prop := ((11 ≤ n ∧ n ≤ 55) ∨ (111 ≤ n ∧ n ≤ 555)) ∧ digs 3 n

def sp_X12_isNumber : Sp := fun av σ Q => oI av fun n av => av = [] ∧ (inR n ∧ Q (some (vi (b2i (okNum n)))) σ)
theorem us_X12_isNumber (n : Int) (σ : Hp) (Q : Option AV → Hp → Prop) : sp_X12_isNumber [vi n] σ Q = ((inR n ∧ Q (some (vi (b2i (okNum n)))) σ)) := propext ⟨fun h => h.2, fun h => ⟨rfl, h⟩⟩
theorem el_X12_isNumber {av : List AV} {σ : Hp} {Q : Option AV → Hp → Prop} (h : sp_X12_isNumber av σ Q) : ∃ (n : Int), av = [vi n] ∧ ((inR n ∧ Q (some (vi (b2i (okNum n)))) σ)) := by
  obtain ⟨n, a0, rfl, h0⟩ := oI_s h
  obtain ⟨rfl, hz⟩ := h0
  exact ⟨n, rfl, hz⟩

def tb_X12_isNumber : Tab := [(0, .iload_n 0, 1, (0, 0, 0, 0)), (1, .bipush 11, 2, (0, 0, 0, 0)), (3, .bipush 55, 2, (0, 0, 0, 0)), (5, .invokestatic 202, 3, (0, 0, 0, 0)), (8, .ifCond .ne 17, 3, (0, 0, 0, 0)), (11, .iload_n 0, 1, (0, 0, 0, 0)), (12, .bipush 111, 2, (0, 0, 0, 0)), (14, .sipush 555, 3, (0, 0, 0, 0)), (17, .invokestatic 202, 3, (0, 0, 0, 0)), (20, .ifCond .ne 5, 3, (0, 0, 0, 0)), (23, .iconst 0, 1, (0, 0, 0, 0)), (24, .ireturn, 1, (0, 0, 0, 0)), (25, .iload_n 0, 1, (0, 0, 0, 0)), (26, .istore_n 1, 1, (0, 0, 0, 0)), (27, .iload_n 1, 1, (0, 0, 0, 0)), (28, .ifCond .le 25, 3, (0, 0, 0, 0)), (31, .iload_n 1, 1, (0, 0, 0, 0)), (32, .bipush 10, 2, (0, 0, 0, 0)), (34, .irem, 1, (0, 0, 0, 0)), (35, .iconst 1, 1, (0, 0, 0, 0)), (36, .iconst 5, 1, (0, 0, 0, 0)), (37, .invokestatic 202, 3, (0, 0, 0, 0)), (40, .ifCond .ne 5, 3, (0, 0, 0, 0)), (43, .iconst 0, 1, (0, 0, 0, 0)), (44, .ireturn, 1, (0, 0, 0, 0)), (45, .iload_n 1, 1, (0, 0, 0, 0)), (46, .bipush 10, 2, (0, 0, 0, 0)), (48, .idiv, 1, (0, 0, 0, 0)), (49, .istore_n 1, 1, (0, 0, 0, 0)), (50, .goto (-23), 3, (0, 0, 0, 0)), (53, .iconst 1, 1, (0, 0, 0, 0)), (54, .ireturn, 1, (0, 0, 0, 0))]
set_option maxRecDepth 100000 in
theorem tk_X12_isNumber : TOK RX12 false cX12_isNumber tb_X12_isNumber := chkT_ok ft_X12 (by decide +kernel)
def mt_X12_isNumber : List (Nat × Mt) := [(1617, 3, 0, 0, 1, sp_X12_within)]
theorem em_X12_isNumber : mt_X12_isNumber.lookup 1617 = some (3, 0, 0, 1, sp_X12_within) := rfl
theorem mk_X12_isNumber : MOK RX12 mt_X12_isNumber := by
  intro q hq
  simp only [mt_X12_isNumber, List.mem_cons, List.not_mem_nil, or_false] at hq
  rcases hq with rfl
  · exact rw_X12_1617
noncomputable def xe_X12_isNumber (ct : Nat → Bool) (K : Kt) (R : Option AV → Hp → Prop) (n : Nat) : Kt := exS 2 2 0 0 2 tb_X12_isNumber mt_X12_isNumber ct K R n
noncomputable def xk_X12_isNumber (ct : Nat → Bool) (K : Kt) (R : Option AV → Hp → Prop) (n : Nat) : Kt := exkS 2 2 0 0 2 tb_X12_isNumber mt_X12_isNumber ct K R n
theorem xt_X12_isNumber {ct : Nat → Bool} {K : Kt} {R : Option AV → Hp → Prop} {n pc : Nat} {ls : List (Option AV)} {st : List AV} {σ : Hp} {k : Nat × Nat} (h : ct pc = true) : xk_X12_isNumber ct K R n pc ls st σ k = K pc ls st σ k := by unfold xk_X12_isNumber exkS; rw [h]
theorem xf_X12_isNumber {ct : Nat → Bool} {K : Kt} {R : Option AV → Hp → Prop} {n pc : Nat} {ls : List (Option AV)} {st : List AV} {σ : Hp} {k : Nat × Nat} (h : ct pc = false) : xk_X12_isNumber ct K R n pc ls st σ k = xe_X12_isNumber ct K R n pc ls st σ k := by unfold xk_X12_isNumber exkS xe_X12_isNumber; rw [h]
theorem ev_X12_isNumber {ct : Nat → Bool} {K : Kt} {R : Option AV → Hp → Prop} {n : Nat} {ls : List (Option AV)} {st : List AV} {σ : Hp} {k : Nat × Nat} :
  xe_X12_isNumber ct K R (n + 1) 0 ls st σ k = (lI ls 0 fun x => xk_X12_isNumber ct K R n 1 ls (vi x :: st) σ k) ∧
  xe_X12_isNumber ct K R (n + 1) 1 ls st σ k = (xk_X12_isNumber ct K R n 3 ls (vi (11) :: st) σ k) ∧
  xe_X12_isNumber ct K R (n + 1) 3 ls st σ k = (xk_X12_isNumber ct K R n 5 ls (vi (55) :: st) σ k) ∧
  xe_X12_isNumber ct K R (n + 1) 5 ls st σ k = (popN 3 st [] fun av rest => (catS rest ≤ 8 ∧ 1 < 2 ∧ k.1 + 0 ≤ 0 ∧ k.2 + 0 ≤ 0) ∧ (sp_X12_within) av σ fun v σ' => xk_X12_isNumber ct K R n 8 ls (v.toList ++ rest) σ' (k.1 + 0, k.2 + 0)) ∧
  xe_X12_isNumber ct K R (n + 1) 8 ls st σ k = (oI st fun x st => (¬ wI x = wI 0 → xk_X12_isNumber ct K R n 25 ls st σ k) ∧ (¬ (¬ wI x = wI 0) → xk_X12_isNumber ct K R n 11 ls st σ k)) ∧
  xe_X12_isNumber ct K R (n + 1) 11 ls st σ k = (lI ls 0 fun x => xk_X12_isNumber ct K R n 12 ls (vi x :: st) σ k) ∧
  xe_X12_isNumber ct K R (n + 1) 12 ls st σ k = (xk_X12_isNumber ct K R n 14 ls (vi (111) :: st) σ k) ∧
  xe_X12_isNumber ct K R (n + 1) 14 ls st σ k = (xk_X12_isNumber ct K R n 17 ls (vi (555) :: st) σ k) ∧
  xe_X12_isNumber ct K R (n + 1) 17 ls st σ k = (popN 3 st [] fun av rest => (catS rest ≤ 8 ∧ 1 < 2 ∧ k.1 + 0 ≤ 0 ∧ k.2 + 0 ≤ 0) ∧ (sp_X12_within) av σ fun v σ' => xk_X12_isNumber ct K R n 20 ls (v.toList ++ rest) σ' (k.1 + 0, k.2 + 0)) ∧
  xe_X12_isNumber ct K R (n + 1) 20 ls st σ k = (oI st fun x st => (¬ wI x = wI 0 → xk_X12_isNumber ct K R n 25 ls st σ k) ∧ (¬ (¬ wI x = wI 0) → xk_X12_isNumber ct K R n 23 ls st σ k)) ∧
  xe_X12_isNumber ct K R (n + 1) 23 ls st σ k = (xk_X12_isNumber ct K R n 24 ls (vi (0) :: st) σ k) ∧
  xe_X12_isNumber ct K R (n + 1) 24 ls st σ k = (oI st fun x st => st = [] ∧ (x = 0 ∨ x = 1) ∧ R (some (vi x)) σ) ∧
  xe_X12_isNumber ct K R (n + 1) 25 ls st σ k = (lI ls 0 fun x => xk_X12_isNumber ct K R n 26 ls (vi x :: st) σ k) ∧
  xe_X12_isNumber ct K R (n + 1) 26 ls st σ k = (oI st fun x st => 1 < 2 ∧ xk_X12_isNumber ct K R n 27 (stL ls 1 (vi x)) st σ k) ∧
  xe_X12_isNumber ct K R (n + 1) 27 ls st σ k = (lI ls 1 fun x => xk_X12_isNumber ct K R n 28 ls (vi x :: st) σ k) ∧
  xe_X12_isNumber ct K R (n + 1) 28 ls st σ k = (oI st fun x st => (wI x ≤ wI 0 → xk_X12_isNumber ct K R n 53 ls st σ k) ∧ (¬ (wI x ≤ wI 0) → xk_X12_isNumber ct K R n 31 ls st σ k)) ∧
  xe_X12_isNumber ct K R (n + 1) 31 ls st σ k = (lI ls 1 fun x => xk_X12_isNumber ct K R n 32 ls (vi x :: st) σ k) ∧
  xe_X12_isNumber ct K R (n + 1) 32 ls st σ k = (xk_X12_isNumber ct K R n 34 ls (vi (10) :: st) σ k) ∧
  xe_X12_isNumber ct K R (n + 1) 34 ls st σ k = (oI st fun y st => oI st fun x st => ¬ wI y = 0 ∧ xk_X12_isNumber ct K R n 35 ls (vi (rmI x y) :: st) σ k) ∧
  xe_X12_isNumber ct K R (n + 1) 35 ls st σ k = (xk_X12_isNumber ct K R n 36 ls (vi (1) :: st) σ k) ∧
  xe_X12_isNumber ct K R (n + 1) 36 ls st σ k = (xk_X12_isNumber ct K R n 37 ls (vi (5) :: st) σ k) ∧
  xe_X12_isNumber ct K R (n + 1) 37 ls st σ k = (popN 3 st [] fun av rest => (catS rest ≤ 8 ∧ 1 < 2 ∧ k.1 + 0 ≤ 0 ∧ k.2 + 0 ≤ 0) ∧ (sp_X12_within) av σ fun v σ' => xk_X12_isNumber ct K R n 40 ls (v.toList ++ rest) σ' (k.1 + 0, k.2 + 0)) ∧
  xe_X12_isNumber ct K R (n + 1) 40 ls st σ k = (oI st fun x st => (¬ wI x = wI 0 → xk_X12_isNumber ct K R n 45 ls st σ k) ∧ (¬ (¬ wI x = wI 0) → xk_X12_isNumber ct K R n 43 ls st σ k)) ∧
  xe_X12_isNumber ct K R (n + 1) 43 ls st σ k = (xk_X12_isNumber ct K R n 44 ls (vi (0) :: st) σ k) ∧
  xe_X12_isNumber ct K R (n + 1) 44 ls st σ k = (oI st fun x st => st = [] ∧ (x = 0 ∨ x = 1) ∧ R (some (vi x)) σ) ∧
  xe_X12_isNumber ct K R (n + 1) 45 ls st σ k = (lI ls 1 fun x => xk_X12_isNumber ct K R n 46 ls (vi x :: st) σ k) ∧
  xe_X12_isNumber ct K R (n + 1) 46 ls st σ k = (xk_X12_isNumber ct K R n 48 ls (vi (10) :: st) σ k) ∧
  xe_X12_isNumber ct K R (n + 1) 48 ls st σ k = (oI st fun y st => oI st fun x st => ¬ wI y = 0 ∧ xk_X12_isNumber ct K R n 49 ls (vi (dvI x y) :: st) σ k) ∧
  xe_X12_isNumber ct K R (n + 1) 49 ls st σ k = (oI st fun x st => 1 < 2 ∧ xk_X12_isNumber ct K R n 50 (stL ls 1 (vi x)) st σ k) ∧
  xe_X12_isNumber ct K R (n + 1) 50 ls st σ k = (xk_X12_isNumber ct K R n 27 ls st σ k) ∧
  xe_X12_isNumber ct K R (n + 1) 53 ls st σ k = (xk_X12_isNumber ct K R n 54 ls (vi (1) :: st) σ k) ∧
  xe_X12_isNumber ct K R (n + 1) 54 ls st σ k = (oI st fun x st => st = [] ∧ (x = 0 ∨ x = 1) ∧ R (some (vi x)) σ) :=
  ⟨exS_step.trans rfl, exS_step.trans rfl, exS_step.trans rfl, exS_step.trans rfl, exS_step.trans rfl, exS_step.trans rfl, exS_step.trans rfl, exS_step.trans rfl, exS_step.trans rfl, exS_step.trans rfl, exS_step.trans rfl, exS_step.trans rfl, exS_step.trans rfl, exS_step.trans rfl, exS_step.trans rfl, exS_step.trans rfl, exS_step.trans rfl, exS_step.trans rfl, exS_step.trans rfl, exS_step.trans rfl, exS_step.trans rfl, exS_step.trans rfl, exS_step.trans rfl, exS_step.trans rfl, exS_step.trans rfl, exS_step.trans rfl, exS_step.trans rfl, exS_step.trans rfl, exS_step.trans rfl, exS_step.trans rfl, exS_step.trans rfl, exS_step.trans rfl⟩
def M_X12_isNumber : Md := (yX12_isNumber, cX12_isNumber, 2, (some FieldType.boolean), 2, 0, 0, 2, false, tb_X12_isNumber, mt_X12_isNumber)
theorem mm_X12_isNumber : MMOK M_X12_isNumber := ⟨by decide +kernel, tk_X12_isNumber, mk_X12_isNumber, rfl, fun h => by cases h⟩
theorem go_X12_isNumber {Q : Option AV → Hp → Prop} {ct : Nat → Bool} {pc : Nat} {ls : List (Option AV)} {st : List AV} {σ : Hp} {k : Nat × Nat} (n : Nat) (h : xe_X12_isNumber ct (Go M_X12_isNumber Q) Q n pc ls st σ k) : Go M_X12_isNumber Q pc ls st σ k := Go.exS mm_X12_isNumber h

set_option maxRecDepth 20000 in
theorem c_X12_isNumber : Ct yX12_isNumber cX12_isNumber 2 ((some FieldType.boolean)) 2 0 0 sp_X12_isNumber := by
  refine Ct.go (M := M_X12_isNumber) mm_X12_isNumber fun av σ Q h0 => ?_
  obtain ⟨n, rfl, h⟩ := el_X12_isNumber h0
  clear h0
  refine ⟨Nat.le_of_ble_eq_true rfl, ?_⟩
  show Go M_X12_isNumber Q 0 [some (vi n), none] [] σ (0, 0)
  obtain ⟨hr, h⟩ := h
  unfold inR at hr
  have loop : ∀ (k : Nat) (v : Int), 0 ≤ v → v < 10 ^ k → v < 1000 → Q (some (vi (b2i (digs k v)))) σ → Go M_X12_isNumber Q 27 [some (vi n), some (vi v)] [] σ (0, 0) := by
    intro k
    induction k with
    | zero =>
      intro v h1 h2 h3 hq
      have hv : v = 0 := by omega
      subst hv
      refine go_X12_isNumber (ct := fun p => p == 27) 40 ?_
      simp only [oI, oL, oR, o1, lI, lL, lR, popN, catS, gv, stL, stL2, swt, cnd, spObj, List.getElem?_cons_zero, List.getElem?_cons_succ, List.getD_cons_zero, List.getD_cons_succ, List.set_cons_zero, List.set_cons_succ, List.nil_append, List.cons_append, Option.toList, Bool.or_false, Bool.false_or, Bool.or_true, Bool.true_or, Nat.reduceBEq, Nat.reduceAdd, Nat.reduceLT, Nat.reduceLeDiff, Int.reduceAdd, Int.reduceToNat, true_and, and_true, Fin.isValue, Fin.val_zero, Fin.val_one, Fin.val_two, Fin.reduceFinMk, eq_self, Int.reduceNeg, imp_self, Nat.reduceMul, Nat.le_refl, not_true_eq_false, not_false_eq_true, List.getElem?_nil, reduceCtorEq, true_or, or_true, Classical.not_not, implies_true, or_self, wI_0, wI_1, wI_m1, b2i_w, b2i_eq0, b2i_eq1, b2i_bool, nor_self, nx_pI, kd_pI, ln_pI, fI_pI, fL_pI, fR_pI, aI_pI, aL_pI, aR_pI, nx_pL, kd_pL, ln_pL, fI_pL, fL_pL, fR_pL, aI_pL, aL_pL, aR_pL, nx_pR, kd_pR, ln_pR, fI_pR, fL_pR, fR_pR, aI_pR, aL_pR, aR_pR, nx_qI, kd_qI, ln_qI, fI_qI, fL_qI, fR_qI, aI_qI, aL_qI, aR_qI, nx_qL, kd_qL, ln_qL, fI_qL, fL_qL, fR_qL, aI_qL, aL_qL, aR_qL, nx_qR, kd_qR, ln_qR, fI_qR, fL_qR, fR_qR, aI_qR, aL_qR, aR_qR, nx_mk, kd_mk, ln_mk, fI_mk, fL_mk, fR_mk, aI_mk, aL_mk, aR_mk, false_and, and_false, if_false, if_true, and_self, Int.reduceEq, Nat.reduceEqDiff, ite_self, MLay_pI, MLay_pL, MLay_qI, MLay_qL, ev_X12_isNumber, xt_X12_isNumber, xf_X12_isNumber, us_X12_within]
      refine ⟨fun _ => ?_, fun z => absurd (Int.le_refl 0) z⟩
      rw [b2i_t (show digs 0 0 from trivial)] at hq; exact hq
    | succ k ih =>
      intro v h1 h2 h3 hq
      have hp : (10 : Int) ^ (k + 1) = 10 * 10 ^ k := by rw [Int.pow_succ, Int.mul_comm]
      refine go_X12_isNumber (ct := fun p => p == 27) 40 ?_
      simp only [oI, oL, oR, o1, lI, lL, lR, popN, catS, gv, stL, stL2, swt, cnd, spObj, List.getElem?_cons_zero, List.getElem?_cons_succ, List.getD_cons_zero, List.getD_cons_succ, List.set_cons_zero, List.set_cons_succ, List.nil_append, List.cons_append, Option.toList, Bool.or_false, Bool.false_or, Bool.or_true, Bool.true_or, Nat.reduceBEq, Nat.reduceAdd, Nat.reduceLT, Nat.reduceLeDiff, Int.reduceAdd, Int.reduceToNat, true_and, and_true, Fin.isValue, Fin.val_zero, Fin.val_one, Fin.val_two, Fin.reduceFinMk, eq_self, Int.reduceNeg, imp_self, Nat.reduceMul, Nat.le_refl, not_true_eq_false, not_false_eq_true, List.getElem?_nil, reduceCtorEq, true_or, or_true, Classical.not_not, implies_true, or_self, wI_0, wI_1, wI_m1, b2i_w, b2i_eq0, b2i_eq1, b2i_bool, nor_self, nx_pI, kd_pI, ln_pI, fI_pI, fL_pI, fR_pI, aI_pI, aL_pI, aR_pI, nx_pL, kd_pL, ln_pL, fI_pL, fL_pL, fR_pL, aI_pL, aL_pL, aR_pL, nx_pR, kd_pR, ln_pR, fI_pR, fL_pR, fR_pR, aI_pR, aL_pR, aR_pR, nx_qI, kd_qI, ln_qI, fI_qI, fL_qI, fR_qI, aI_qI, aL_qI, aR_qI, nx_qL, kd_qL, ln_qL, fI_qL, fL_qL, fR_qL, aI_qL, aL_qL, aR_qL, nx_qR, kd_qR, ln_qR, fI_qR, fL_qR, fR_qR, aI_qR, aL_qR, aR_qR, nx_mk, kd_mk, ln_mk, fI_mk, fL_mk, fR_mk, aI_mk, aL_mk, aR_mk, false_and, and_false, if_false, if_true, and_self, Int.reduceEq, Nat.reduceEqDiff, ite_self, MLay_pI, MLay_pL, MLay_qI, MLay_qL, ev_X12_isNumber, xt_X12_isNumber, xf_X12_isNumber, us_X12_within]
      try simp (disch := omega) only [wI_id, dv_nn, rm_nn]
      refine ⟨fun z => ?_, fun z => ⟨by omega, fun z2 => ⟨by omega, ?_⟩, fun z2 => ?_⟩⟩
      · rw [b2i_t (show digs (k + 1) v from Or.inl (by omega))] at hq; exact hq
      · refine ih (v / 10) (by omega) (by omega) (by omega) ?_
        have e : digs (k + 1) v = digs k (v / 10) := propext ⟨fun z9 => by rcases z9 with z9 | z9; omega; exact z9.2.2, fun z9 => Or.inr ⟨by omega, by omega, z9⟩⟩
        rw [e] at hq; exact hq
      · rw [b2i_f (show ¬ digs (k + 1) v by rintro (z9 | z9); omega; exact z2 ⟨z9.1, z9.2.1⟩)] at hq; exact hq
  refine go_X12_isNumber (ct := fun p => p == 27) 40 ?_
  simp only [oI, oL, oR, o1, lI, lL, lR, popN, catS, gv, stL, stL2, swt, cnd, spObj, List.getElem?_cons_zero, List.getElem?_cons_succ, List.getD_cons_zero, List.getD_cons_succ, List.set_cons_zero, List.set_cons_succ, List.nil_append, List.cons_append, Option.toList, Bool.or_false, Bool.false_or, Bool.or_true, Bool.true_or, Nat.reduceBEq, Nat.reduceAdd, Nat.reduceLT, Nat.reduceLeDiff, Int.reduceAdd, Int.reduceToNat, true_and, and_true, Fin.isValue, Fin.val_zero, Fin.val_one, Fin.val_two, Fin.reduceFinMk, eq_self, Int.reduceNeg, imp_self, Nat.reduceMul, Nat.le_refl, not_true_eq_false, not_false_eq_true, List.getElem?_nil, reduceCtorEq, true_or, or_true, Classical.not_not, implies_true, or_self, wI_0, wI_1, wI_m1, b2i_w, b2i_eq0, b2i_eq1, b2i_bool, nor_self, nx_pI, kd_pI, ln_pI, fI_pI, fL_pI, fR_pI, aI_pI, aL_pI, aR_pI, nx_pL, kd_pL, ln_pL, fI_pL, fL_pL, fR_pL, aI_pL, aL_pL, aR_pL, nx_pR, kd_pR, ln_pR, fI_pR, fL_pR, fR_pR, aI_pR, aL_pR, aR_pR, nx_qI, kd_qI, ln_qI, fI_qI, fL_qI, fR_qI, aI_qI, aL_qI, aR_qI, nx_qL, kd_qL, ln_qL, fI_qL, fL_qL, fR_qL, aI_qL, aL_qL, aR_qL, nx_qR, kd_qR, ln_qR, fI_qR, fL_qR, fR_qR, aI_qR, aL_qR, aR_qR, nx_mk, kd_mk, ln_mk, fI_mk, fL_mk, fR_mk, aI_mk, aL_mk, aR_mk, false_and, and_false, if_false, if_true, and_self, Int.reduceEq, Nat.reduceEqDiff, ite_self, MLay_pI, MLay_pL, MLay_qI, MLay_qL, ev_X12_isNumber, xt_X12_isNumber, xf_X12_isNumber, us_X12_within]
  try simp (disch := omega) only [wI_id, dv_nn, rm_nn]
  have fin : ((11 ≤ n ∧ n ≤ 55) ∨ (111 ≤ n ∧ n ≤ 555)) → Go M_X12_isNumber Q 27 [some (vi n), some (vi n)] [] σ (0, 0) := fun z => by
    refine loop 3 n (by omega) (by omega) (by omega) ?_
    have e : okNum n = digs 3 n := propext ⟨fun z9 => z9.2, fun z9 => ⟨z, z9⟩⟩
    rw [e] at h; exact h
  refine ⟨fun z => fin (Or.inl z), fun z => ⟨fun z2 => fin (Or.inr z2), fun z2 => ?_⟩⟩
  rw [b2i_f (by rintro ⟨z9, -⟩; omega)] at h; exact h

def sp_X12_lasts : Sp := fun av σ Q => oR av fun this av => oI av fun b av => av = [] ∧ kd σ this = 13 ∧ (this = 61 ∧ MI σ ∧ (0 ≤ b ∧ b < 32) ∧ Q (some (vi (3 * aI σ 73 b + 14))) σ)
theorem us_X12_lasts (this : Int) (b : Int) (σ : Hp) (Q : Option AV → Hp → Prop) : sp_X12_lasts [vr this, vi b] σ Q = (kd σ this = 13 ∧ (this = 61 ∧ MI σ ∧ (0 ≤ b ∧ b < 32) ∧ Q (some (vi (3 * aI σ 73 b + 14))) σ)) := propext ⟨fun h => h.2, fun h => ⟨rfl, h⟩⟩
theorem el_X12_lasts {av : List AV} {σ : Hp} {Q : Option AV → Hp → Prop} (h : sp_X12_lasts av σ Q) : ∃ (this : Int) (b : Int), av = [vr this, vi b] ∧ (kd σ this = 13 ∧ (this = 61 ∧ MI σ ∧ (0 ≤ b ∧ b < 32) ∧ Q (some (vi (3 * aI σ 73 b + 14))) σ)) := by
  obtain ⟨this, a0, rfl, h0⟩ := oR_s h
  obtain ⟨b, a1, rfl, h1⟩ := oI_s h0
  obtain ⟨rfl, hz⟩ := h1
  exact ⟨this, b, rfl, hz⟩
theorem rc_X12_lasts : ∀ (av : List AV) (σ : Hp) (Q : Option AV → Hp → Prop), sp_X12_lasts av σ Q → ∃ r tl, av = vr r :: tl ∧ kd σ r = 12 + 1 := fun av σ Q h => by
  obtain ⟨this, b, rfl, hz, -⟩ := el_X12_lasts h
  exact ⟨this, _, rfl, hz⟩

def tb_X12_lasts : Tab := [(0, .iconst 3, 1, (0, 0, 0, 0)), (1, .aload_n 0, 1, (0, 0, 0, 0)), (2, .getfield 44, 3, (13, 1314, 2, 0)), (5, .iload_n 1, 1, (0, 0, 0, 0)), (6, .iaload, 1, (0, 0, 0, 0)), (7, .imul, 1, (0, 0, 0, 0)), (8, .bipush 14, 2, (0, 0, 0, 0)), (10, .iadd, 1, (0, 0, 0, 0)), (11, .ireturn, 1, (0, 0, 0, 0))]
set_option maxRecDepth 100000 in
theorem tk_X12_lasts : TOK RX12 false cX12_lasts tb_X12_lasts := chkT_ok ft_X12 (by decide +kernel)
def mt_X12_lasts : List (Nat × Mt) := []
theorem mk_X12_lasts : MOK RX12 mt_X12_lasts := fun q hq => by cases hq
noncomputable def xe_X12_lasts (ct : Nat → Bool) (K : Kt) (R : Option AV → Hp → Prop) (n : Nat) : Kt := exS 2 1 0 0 1 tb_X12_lasts mt_X12_lasts ct K R n
noncomputable def xk_X12_lasts (ct : Nat → Bool) (K : Kt) (R : Option AV → Hp → Prop) (n : Nat) : Kt := exkS 2 1 0 0 1 tb_X12_lasts mt_X12_lasts ct K R n
theorem xt_X12_lasts {ct : Nat → Bool} {K : Kt} {R : Option AV → Hp → Prop} {n pc : Nat} {ls : List (Option AV)} {st : List AV} {σ : Hp} {k : Nat × Nat} (h : ct pc = true) : xk_X12_lasts ct K R n pc ls st σ k = K pc ls st σ k := by unfold xk_X12_lasts exkS; rw [h]
theorem xf_X12_lasts {ct : Nat → Bool} {K : Kt} {R : Option AV → Hp → Prop} {n pc : Nat} {ls : List (Option AV)} {st : List AV} {σ : Hp} {k : Nat × Nat} (h : ct pc = false) : xk_X12_lasts ct K R n pc ls st σ k = xe_X12_lasts ct K R n pc ls st σ k := by unfold xk_X12_lasts exkS xe_X12_lasts; rw [h]
theorem ev_X12_lasts {ct : Nat → Bool} {K : Kt} {R : Option AV → Hp → Prop} {n : Nat} {ls : List (Option AV)} {st : List AV} {σ : Hp} {k : Nat × Nat} :
  xe_X12_lasts ct K R (n + 1) 0 ls st σ k = (xk_X12_lasts ct K R n 1 ls (vi (3) :: st) σ k) ∧
  xe_X12_lasts ct K R (n + 1) 1 ls st σ k = (lR ls 0 fun x => xk_X12_lasts ct K R n 2 ls (vr x :: st) σ k) ∧
  xe_X12_lasts ct K R (n + 1) 2 ls st σ k = (oR st fun x st => kd σ x = 13 ∧ xk_X12_lasts ct K R n 5 ls (vr (fR σ 1314 x) :: st) σ k) ∧
  xe_X12_lasts ct K R (n + 1) 5 ls st σ k = (lI ls 1 fun x => xk_X12_lasts ct K R n 6 ls (vi x :: st) σ k) ∧
  xe_X12_lasts ct K R (n + 1) 6 ls st σ k = (oI st fun j st => oR st fun x st => (kd σ x = 101 ∨ kd σ x = 108) ∧ (0 ≤ j ∧ j < ln σ x) ∧ xk_X12_lasts ct K R n 7 ls (vi (aI σ x j) :: st) σ k) ∧
  xe_X12_lasts ct K R (n + 1) 7 ls st σ k = (oI st fun y st => oI st fun x st => xk_X12_lasts ct K R n 8 ls (vi (x * y) :: st) σ k) ∧
  xe_X12_lasts ct K R (n + 1) 8 ls st σ k = (xk_X12_lasts ct K R n 10 ls (vi (14) :: st) σ k) ∧
  xe_X12_lasts ct K R (n + 1) 10 ls st σ k = (oI st fun y st => oI st fun x st => xk_X12_lasts ct K R n 11 ls (vi (x + y) :: st) σ k) ∧
  xe_X12_lasts ct K R (n + 1) 11 ls st σ k = (oI st fun x st => st = [] ∧ True ∧ R (some (vi x)) σ) :=
  ⟨exS_step.trans rfl, exS_step.trans rfl, exS_step.trans rfl, exS_step.trans rfl, exS_step.trans rfl, exS_step.trans rfl, exS_step.trans rfl, exS_step.trans rfl, exS_step.trans rfl⟩
def M_X12_lasts : Md := (yX12_lasts, cX12_lasts, 2, (some FieldType.int), 1, 0, 0, 1, false, tb_X12_lasts, mt_X12_lasts)
theorem mm_X12_lasts : MMOK M_X12_lasts := ⟨by decide +kernel, tk_X12_lasts, mk_X12_lasts, rfl, fun h => by cases h⟩
theorem go_X12_lasts {Q : Option AV → Hp → Prop} {ct : Nat → Bool} {pc : Nat} {ls : List (Option AV)} {st : List AV} {σ : Hp} {k : Nat × Nat} (n : Nat) (h : xe_X12_lasts ct (Go M_X12_lasts Q) Q n pc ls st σ k) : Go M_X12_lasts Q pc ls st σ k := Go.exS mm_X12_lasts h

set_option maxRecDepth 20000 in
theorem c_X12_lasts : Ct yX12_lasts cX12_lasts 2 ((some FieldType.int)) 1 0 0 sp_X12_lasts := by
  refine Ct.go (M := M_X12_lasts) mm_X12_lasts fun av σ Q h0 => ?_
  obtain ⟨this, b, rfl, hk, h⟩ := el_X12_lasts h0
  clear h0
  refine ⟨Nat.le_of_ble_eq_true rfl, ?_⟩
  show Go M_X12_lasts Q 0 [some (vr this), some (vi b)] [] σ (0, 0)
  obtain ⟨rfl, hI, hb, h⟩ := h
  refine go_X12_lasts (ct := fun p => false) 20 ?_
  simp only [oI, oL, oR, o1, lI, lL, lR, popN, catS, gv, stL, stL2, swt, cnd, spObj, List.getElem?_cons_zero, List.getElem?_cons_succ, List.getD_cons_zero, List.getD_cons_succ, List.set_cons_zero, List.set_cons_succ, List.nil_append, List.cons_append, Option.toList, Bool.or_false, Bool.false_or, Bool.or_true, Bool.true_or, Nat.reduceBEq, Nat.reduceAdd, Nat.reduceLT, Nat.reduceLeDiff, Int.reduceAdd, Int.reduceToNat, true_and, and_true, Fin.isValue, Fin.val_zero, Fin.val_one, Fin.val_two, Fin.reduceFinMk, eq_self, Int.reduceNeg, imp_self, Nat.reduceMul, Nat.le_refl, not_true_eq_false, not_false_eq_true, List.getElem?_nil, reduceCtorEq, true_or, or_true, Classical.not_not, implies_true, or_self, wI_0, wI_1, wI_m1, b2i_w, b2i_eq0, b2i_eq1, b2i_bool, nor_self, nx_pI, kd_pI, ln_pI, fI_pI, fL_pI, fR_pI, aI_pI, aL_pI, aR_pI, nx_pL, kd_pL, ln_pL, fI_pL, fL_pL, fR_pL, aI_pL, aL_pL, aR_pL, nx_pR, kd_pR, ln_pR, fI_pR, fL_pR, fR_pR, aI_pR, aL_pR, aR_pR, nx_qI, kd_qI, ln_qI, fI_qI, fL_qI, fR_qI, aI_qI, aL_qI, aR_qI, nx_qL, kd_qL, ln_qL, fI_qL, fL_qL, fR_qL, aI_qL, aL_qL, aR_qL, nx_qR, kd_qR, ln_qR, fI_qR, fL_qR, fR_qR, aI_qR, aL_qR, aR_qR, nx_mk, kd_mk, ln_mk, fI_mk, fL_mk, fR_mk, aI_mk, aL_mk, aR_mk, false_and, and_false, if_false, if_true, and_self, Int.reduceEq, Nat.reduceEqDiff, ite_self, MLay_pI, MLay_pL, MLay_qI, MLay_qL, ev_X12_lasts, xt_X12_lasts, xf_X12_lasts, hI.lay.eqs]
  exact ⟨hb, h⟩

/-- a box goes on in a tick -/
def mGo (σ : Hp) (b t : Int) : Prop := 0 ≤ aI σ 69 b ∧ aI σ 69 b ≤ t ∧ t ≤ aI σ 69 b + (3 * aI σ 73 b + 14)

def sp_X12_goesOn : Sp := fun av σ Q => oR av fun this av => oI av fun b av => oI av fun t av => av = [] ∧ kd σ this = 13 ∧ (this = 61 ∧ MI σ ∧ (0 ≤ b ∧ b < 32) ∧ (0 ≤ t ∧ t ≤ 2000000) ∧ Q (some (vi (b2i (mGo σ b t)))) σ)
theorem us_X12_goesOn (this : Int) (b : Int) (t : Int) (σ : Hp) (Q : Option AV → Hp → Prop) : sp_X12_goesOn [vr this, vi b, vi t] σ Q = (kd σ this = 13 ∧ (this = 61 ∧ MI σ ∧ (0 ≤ b ∧ b < 32) ∧ (0 ≤ t ∧ t ≤ 2000000) ∧ Q (some (vi (b2i (mGo σ b t)))) σ)) := propext ⟨fun h => h.2, fun h => ⟨rfl, h⟩⟩
theorem el_X12_goesOn {av : List AV} {σ : Hp} {Q : Option AV → Hp → Prop} (h : sp_X12_goesOn av σ Q) : ∃ (this : Int) (b : Int) (t : Int), av = [vr this, vi b, vi t] ∧ (kd σ this = 13 ∧ (this = 61 ∧ MI σ ∧ (0 ≤ b ∧ b < 32) ∧ (0 ≤ t ∧ t ≤ 2000000) ∧ Q (some (vi (b2i (mGo σ b t)))) σ)) := by
  obtain ⟨this, a0, rfl, h0⟩ := oR_s h
  obtain ⟨b, a1, rfl, h1⟩ := oI_s h0
  obtain ⟨t, a2, rfl, h2⟩ := oI_s h1
  obtain ⟨rfl, hz⟩ := h2
  exact ⟨this, b, t, rfl, hz⟩
theorem rc_X12_goesOn : ∀ (av : List AV) (σ : Hp) (Q : Option AV → Hp → Prop), sp_X12_goesOn av σ Q → ∃ r tl, av = vr r :: tl ∧ kd σ r = 12 + 1 := fun av σ Q h => by
  obtain ⟨this, b, t, rfl, hz, -⟩ := el_X12_goesOn h
  exact ⟨this, _, rfl, hz⟩

def tb_X12_goesOn : Tab := [(0, .aload_n 0, 1, (0, 0, 0, 0)), (1, .getfield 31, 3, (13, 1310, 2, 0)), (4, .iload_n 1, 1, (0, 0, 0, 0)), (5, .iaload, 1, (0, 0, 0, 0)), (6, .ifCond .lt 33, 3, (0, 0, 0, 0)), (9, .iload_n 2, 1, (0, 0, 0, 0)), (10, .aload_n 0, 1, (0, 0, 0, 0)), (11, .getfield 31, 3, (13, 1310, 2, 0)), (14, .iload_n 1, 1, (0, 0, 0, 0)), (15, .iaload, 1, (0, 0, 0, 0)), (16, .if_icmp .lt 23, 3, (0, 0, 0, 0)), (19, .iload_n 2, 1, (0, 0, 0, 0)), (20, .aload_n 0, 1, (0, 0, 0, 0)), (21, .getfield 31, 3, (13, 1310, 2, 0)), (24, .iload_n 1, 1, (0, 0, 0, 0)), (25, .iaload, 1, (0, 0, 0, 0)), (26, .aload_n 0, 1, (0, 0, 0, 0)), (27, .iload_n 1, 1, (0, 0, 0, 0)), (28, .invokevirtual 210, 3, (0, 0, 0, 0)), (31, .iadd, 1, (0, 0, 0, 0)), (32, .if_icmp .gt 7, 3, (0, 0, 0, 0)), (35, .iconst 1, 1, (0, 0, 0, 0)), (36, .goto 4, 3, (0, 0, 0, 0)), (39, .iconst 0, 1, (0, 0, 0, 0)), (40, .ireturn, 1, (0, 0, 0, 0))]
set_option maxRecDepth 100000 in
theorem tk_X12_goesOn : TOK RX12 false cX12_goesOn tb_X12_goesOn := chkT_ok ft_X12 (by decide +kernel)
theorem rw_X12_1680 : Row RX12 (.invokevirtual 210) 3 2 0 0 1 sp_X12_lasts := row_V (n := 1) (ci := 12) c_X12_lasts ⟨TBL_in 1790 (by decide +kernel) rfl, TBL_in 1793 (by decide +kernel) rfl, TBL_in 123 (by decide +kernel) rfl, by decide +kernel, by decide⟩ (by decide) rfl (TBL_in 1792 (by decide +kernel) rfl) (TBL_in 66 (by decide +kernel) rfl) rc_X12_lasts
def mt_X12_goesOn : List (Nat × Mt) := [(1680, 2, 0, 0, 1, sp_X12_lasts)]
theorem em_X12_goesOn : mt_X12_goesOn.lookup 1680 = some (2, 0, 0, 1, sp_X12_lasts) := rfl
theorem mk_X12_goesOn : MOK RX12 mt_X12_goesOn := by
  intro q hq
  simp only [mt_X12_goesOn, List.mem_cons, List.not_mem_nil, or_false] at hq
  rcases hq with rfl
  · exact rw_X12_1680
noncomputable def xe_X12_goesOn (ct : Nat → Bool) (K : Kt) (R : Option AV → Hp → Prop) (n : Nat) : Kt := exS 3 2 0 0 2 tb_X12_goesOn mt_X12_goesOn ct K R n
noncomputable def xk_X12_goesOn (ct : Nat → Bool) (K : Kt) (R : Option AV → Hp → Prop) (n : Nat) : Kt := exkS 3 2 0 0 2 tb_X12_goesOn mt_X12_goesOn ct K R n
theorem xt_X12_goesOn {ct : Nat → Bool} {K : Kt} {R : Option AV → Hp → Prop} {n pc : Nat} {ls : List (Option AV)} {st : List AV} {σ : Hp} {k : Nat × Nat} (h : ct pc = true) : xk_X12_goesOn ct K R n pc ls st σ k = K pc ls st σ k := by unfold xk_X12_goesOn exkS; rw [h]
theorem xf_X12_goesOn {ct : Nat → Bool} {K : Kt} {R : Option AV → Hp → Prop} {n pc : Nat} {ls : List (Option AV)} {st : List AV} {σ : Hp} {k : Nat × Nat} (h : ct pc = false) : xk_X12_goesOn ct K R n pc ls st σ k = xe_X12_goesOn ct K R n pc ls st σ k := by unfold xk_X12_goesOn exkS xe_X12_goesOn; rw [h]
theorem ev_X12_goesOn {ct : Nat → Bool} {K : Kt} {R : Option AV → Hp → Prop} {n : Nat} {ls : List (Option AV)} {st : List AV} {σ : Hp} {k : Nat × Nat} :
  xe_X12_goesOn ct K R (n + 1) 0 ls st σ k = (lR ls 0 fun x => xk_X12_goesOn ct K R n 1 ls (vr x :: st) σ k) ∧
  xe_X12_goesOn ct K R (n + 1) 1 ls st σ k = (oR st fun x st => kd σ x = 13 ∧ xk_X12_goesOn ct K R n 4 ls (vr (fR σ 1310 x) :: st) σ k) ∧
  xe_X12_goesOn ct K R (n + 1) 4 ls st σ k = (lI ls 1 fun x => xk_X12_goesOn ct K R n 5 ls (vi x :: st) σ k) ∧
  xe_X12_goesOn ct K R (n + 1) 5 ls st σ k = (oI st fun j st => oR st fun x st => (kd σ x = 101 ∨ kd σ x = 108) ∧ (0 ≤ j ∧ j < ln σ x) ∧ xk_X12_goesOn ct K R n 6 ls (vi (aI σ x j) :: st) σ k) ∧
  xe_X12_goesOn ct K R (n + 1) 6 ls st σ k = (oI st fun x st => (wI x < wI 0 → xk_X12_goesOn ct K R n 39 ls st σ k) ∧ (¬ (wI x < wI 0) → xk_X12_goesOn ct K R n 9 ls st σ k)) ∧
  xe_X12_goesOn ct K R (n + 1) 9 ls st σ k = (lI ls 2 fun x => xk_X12_goesOn ct K R n 10 ls (vi x :: st) σ k) ∧
  xe_X12_goesOn ct K R (n + 1) 10 ls st σ k = (lR ls 0 fun x => xk_X12_goesOn ct K R n 11 ls (vr x :: st) σ k) ∧
  xe_X12_goesOn ct K R (n + 1) 11 ls st σ k = (oR st fun x st => kd σ x = 13 ∧ xk_X12_goesOn ct K R n 14 ls (vr (fR σ 1310 x) :: st) σ k) ∧
  xe_X12_goesOn ct K R (n + 1) 14 ls st σ k = (lI ls 1 fun x => xk_X12_goesOn ct K R n 15 ls (vi x :: st) σ k) ∧
  xe_X12_goesOn ct K R (n + 1) 15 ls st σ k = (oI st fun j st => oR st fun x st => (kd σ x = 101 ∨ kd σ x = 108) ∧ (0 ≤ j ∧ j < ln σ x) ∧ xk_X12_goesOn ct K R n 16 ls (vi (aI σ x j) :: st) σ k) ∧
  xe_X12_goesOn ct K R (n + 1) 16 ls st σ k = (oI st fun y st => oI st fun x st => (wI x < wI y → xk_X12_goesOn ct K R n 39 ls st σ k) ∧ (¬ (wI x < wI y) → xk_X12_goesOn ct K R n 19 ls st σ k)) ∧
  xe_X12_goesOn ct K R (n + 1) 19 ls st σ k = (lI ls 2 fun x => xk_X12_goesOn ct K R n 20 ls (vi x :: st) σ k) ∧
  xe_X12_goesOn ct K R (n + 1) 20 ls st σ k = (lR ls 0 fun x => xk_X12_goesOn ct K R n 21 ls (vr x :: st) σ k) ∧
  xe_X12_goesOn ct K R (n + 1) 21 ls st σ k = (oR st fun x st => kd σ x = 13 ∧ xk_X12_goesOn ct K R n 24 ls (vr (fR σ 1310 x) :: st) σ k) ∧
  xe_X12_goesOn ct K R (n + 1) 24 ls st σ k = (lI ls 1 fun x => xk_X12_goesOn ct K R n 25 ls (vi x :: st) σ k) ∧
  xe_X12_goesOn ct K R (n + 1) 25 ls st σ k = (oI st fun j st => oR st fun x st => (kd σ x = 101 ∨ kd σ x = 108) ∧ (0 ≤ j ∧ j < ln σ x) ∧ xk_X12_goesOn ct K R n 26 ls (vi (aI σ x j) :: st) σ k) ∧
  xe_X12_goesOn ct K R (n + 1) 26 ls st σ k = (lR ls 0 fun x => xk_X12_goesOn ct K R n 27 ls (vr x :: st) σ k) ∧
  xe_X12_goesOn ct K R (n + 1) 27 ls st σ k = (lI ls 1 fun x => xk_X12_goesOn ct K R n 28 ls (vi x :: st) σ k) ∧
  xe_X12_goesOn ct K R (n + 1) 28 ls st σ k = (popN 2 st [] fun av rest => (catS rest ≤ 8 ∧ 1 < 2 ∧ k.1 + 0 ≤ 0 ∧ k.2 + 0 ≤ 0) ∧ (sp_X12_lasts) av σ fun v σ' => xk_X12_goesOn ct K R n 31 ls (v.toList ++ rest) σ' (k.1 + 0, k.2 + 0)) ∧
  xe_X12_goesOn ct K R (n + 1) 31 ls st σ k = (oI st fun y st => oI st fun x st => xk_X12_goesOn ct K R n 32 ls (vi (x + y) :: st) σ k) ∧
  xe_X12_goesOn ct K R (n + 1) 32 ls st σ k = (oI st fun y st => oI st fun x st => (wI y < wI x → xk_X12_goesOn ct K R n 39 ls st σ k) ∧ (¬ (wI y < wI x) → xk_X12_goesOn ct K R n 35 ls st σ k)) ∧
  xe_X12_goesOn ct K R (n + 1) 35 ls st σ k = (xk_X12_goesOn ct K R n 36 ls (vi (1) :: st) σ k) ∧
  xe_X12_goesOn ct K R (n + 1) 36 ls st σ k = (xk_X12_goesOn ct K R n 40 ls st σ k) ∧
  xe_X12_goesOn ct K R (n + 1) 39 ls st σ k = (xk_X12_goesOn ct K R n 40 ls (vi (0) :: st) σ k) ∧
  xe_X12_goesOn ct K R (n + 1) 40 ls st σ k = (oI st fun x st => st = [] ∧ (x = 0 ∨ x = 1) ∧ R (some (vi x)) σ) :=
  ⟨exS_step.trans rfl, exS_step.trans rfl, exS_step.trans rfl, exS_step.trans rfl, exS_step.trans rfl, exS_step.trans rfl, exS_step.trans rfl, exS_step.trans rfl, exS_step.trans rfl, exS_step.trans rfl, exS_step.trans rfl, exS_step.trans rfl, exS_step.trans rfl, exS_step.trans rfl, exS_step.trans rfl, exS_step.trans rfl, exS_step.trans rfl, exS_step.trans rfl, exS_step.trans rfl, exS_step.trans rfl, exS_step.trans rfl, exS_step.trans rfl, exS_step.trans rfl, exS_step.trans rfl, exS_step.trans rfl⟩
def M_X12_goesOn : Md := (yX12_goesOn, cX12_goesOn, 3, (some FieldType.boolean), 2, 0, 0, 2, false, tb_X12_goesOn, mt_X12_goesOn)
theorem mm_X12_goesOn : MMOK M_X12_goesOn := ⟨by decide +kernel, tk_X12_goesOn, mk_X12_goesOn, rfl, fun h => by cases h⟩
theorem go_X12_goesOn {Q : Option AV → Hp → Prop} {ct : Nat → Bool} {pc : Nat} {ls : List (Option AV)} {st : List AV} {σ : Hp} {k : Nat × Nat} (n : Nat) (h : xe_X12_goesOn ct (Go M_X12_goesOn Q) Q n pc ls st σ k) : Go M_X12_goesOn Q pc ls st σ k := Go.exS mm_X12_goesOn h

set_option maxRecDepth 20000 in
theorem c_X12_goesOn : Ct yX12_goesOn cX12_goesOn 3 ((some FieldType.boolean)) 2 0 0 sp_X12_goesOn := by
  refine Ct.go (M := M_X12_goesOn) mm_X12_goesOn fun av σ Q h0 => ?_
  obtain ⟨this, b, t, rfl, hk, h⟩ := el_X12_goesOn h0
  clear h0
  refine ⟨Nat.le_of_ble_eq_true rfl, ?_⟩
  show Go M_X12_goesOn Q 0 [some (vr this), some (vi b), some (vi t)] [] σ (0, 0)
  obtain ⟨rfl, hI, hb, ht, h⟩ := h
  have h1 := hI.began_ b
  have h2 := hI.lastOf_ b
  refine go_X12_goesOn (ct := fun p => false) 40 ?_
  simp only [oI, oL, oR, o1, lI, lL, lR, popN, catS, gv, stL, stL2, swt, cnd, spObj, List.getElem?_cons_zero, List.getElem?_cons_succ, List.getD_cons_zero, List.getD_cons_succ, List.set_cons_zero, List.set_cons_succ, List.nil_append, List.cons_append, Option.toList, Bool.or_false, Bool.false_or, Bool.or_true, Bool.true_or, Nat.reduceBEq, Nat.reduceAdd, Nat.reduceLT, Nat.reduceLeDiff, Int.reduceAdd, Int.reduceToNat, true_and, and_true, Fin.isValue, Fin.val_zero, Fin.val_one, Fin.val_two, Fin.reduceFinMk, eq_self, Int.reduceNeg, imp_self, Nat.reduceMul, Nat.le_refl, not_true_eq_false, not_false_eq_true, List.getElem?_nil, reduceCtorEq, true_or, or_true, Classical.not_not, implies_true, or_self, wI_0, wI_1, wI_m1, b2i_w, b2i_eq0, b2i_eq1, b2i_bool, nor_self, nx_pI, kd_pI, ln_pI, fI_pI, fL_pI, fR_pI, aI_pI, aL_pI, aR_pI, nx_pL, kd_pL, ln_pL, fI_pL, fL_pL, fR_pL, aI_pL, aL_pL, aR_pL, nx_pR, kd_pR, ln_pR, fI_pR, fL_pR, fR_pR, aI_pR, aL_pR, aR_pR, nx_qI, kd_qI, ln_qI, fI_qI, fL_qI, fR_qI, aI_qI, aL_qI, aR_qI, nx_qL, kd_qL, ln_qL, fI_qL, fL_qL, fR_qL, aI_qL, aL_qL, aR_qL, nx_qR, kd_qR, ln_qR, fI_qR, fL_qR, fR_qR, aI_qR, aL_qR, aR_qR, nx_mk, kd_mk, ln_mk, fI_mk, fL_mk, fR_mk, aI_mk, aL_mk, aR_mk, false_and, and_false, if_false, if_true, and_self, Int.reduceEq, Nat.reduceEqDiff, ite_self, MLay_pI, MLay_pL, MLay_qI, MLay_qL, ev_X12_goesOn, xt_X12_goesOn, xf_X12_goesOn, us_X12_lasts, hI.lay.eqs, hI]
  try simp (disch := omega) only [wI_id, dv_nn, rm_nn]
  refine ⟨hb, fun z => ?_, fun z => ⟨hb, fun z2 => ?_, fun z2 => ⟨hb, hb, fun z3 => ?_, fun z3 => ?_⟩⟩⟩
  · rw [b2i_f (by unfold mGo; omega)] at h; exact h
  · rw [b2i_f (by unfold mGo; omega)] at h; exact h
  · rw [b2i_f (by unfold mGo; omega)] at h; exact h
  · rw [b2i_t (by unfold mGo; omega)] at h; exact h

/-- a tick is on a loop's tape -/
def mTaped (σ : Hp) (l t : Int) : Prop := bE 500 fun k => k < aI σ 78 l ∧ aI σ 79 (500 * l + k) = t

def sp_X12_isTaped : Sp := fun av σ Q => oR av fun this av => oI av fun l av => oI av fun t av => av = [] ∧ kd σ this = 13 ∧ (this = 61 ∧ MI σ ∧ (0 ≤ l ∧ l < 4) ∧ inR t ∧ Q (some (vi (b2i (mTaped σ l t)))) σ)
theorem us_X12_isTaped (this : Int) (l : Int) (t : Int) (σ : Hp) (Q : Option AV → Hp → Prop) : sp_X12_isTaped [vr this, vi l, vi t] σ Q = (kd σ this = 13 ∧ (this = 61 ∧ MI σ ∧ (0 ≤ l ∧ l < 4) ∧ inR t ∧ Q (some (vi (b2i (mTaped σ l t)))) σ)) := propext ⟨fun h => h.2, fun h => ⟨rfl, h⟩⟩
theorem el_X12_isTaped {av : List AV} {σ : Hp} {Q : Option AV → Hp → Prop} (h : sp_X12_isTaped av σ Q) : ∃ (this : Int) (l : Int) (t : Int), av = [vr this, vi l, vi t] ∧ (kd σ this = 13 ∧ (this = 61 ∧ MI σ ∧ (0 ≤ l ∧ l < 4) ∧ inR t ∧ Q (some (vi (b2i (mTaped σ l t)))) σ)) := by
  obtain ⟨this, a0, rfl, h0⟩ := oR_s h
  obtain ⟨l, a1, rfl, h1⟩ := oI_s h0
  obtain ⟨t, a2, rfl, h2⟩ := oI_s h1
  obtain ⟨rfl, hz⟩ := h2
  exact ⟨this, l, t, rfl, hz⟩
theorem rc_X12_isTaped : ∀ (av : List AV) (σ : Hp) (Q : Option AV → Hp → Prop), sp_X12_isTaped av σ Q → ∃ r tl, av = vr r :: tl ∧ kd σ r = 12 + 1 := fun av σ Q h => by
  obtain ⟨this, l, t, rfl, hz, -⟩ := el_X12_isTaped h
  exact ⟨this, _, rfl, hz⟩

def tb_X12_isTaped : Tab := [(0, .iconst 0, 1, (0, 0, 0, 0)), (1, .istore_n 3, 1, (0, 0, 0, 0)), (2, .iload_n 3, 1, (0, 0, 0, 0)), (3, .sipush 500, 3, (0, 0, 0, 0)), (6, .if_icmp .ge 37, 3, (0, 0, 0, 0)), (9, .iload_n 3, 1, (0, 0, 0, 0)), (10, .aload_n 0, 1, (0, 0, 0, 0)), (11, .getfield 59, 3, (13, 1319, 2, 0)), (14, .iload_n 1, 1, (0, 0, 0, 0)), (15, .iaload, 1, (0, 0, 0, 0)), (16, .if_icmp .ge 27, 3, (0, 0, 0, 0)), (19, .aload_n 0, 1, (0, 0, 0, 0)), (20, .getfield 62, 3, (13, 1320, 2, 0)), (23, .sipush 500, 3, (0, 0, 0, 0)), (26, .iload_n 1, 1, (0, 0, 0, 0)), (27, .imul, 1, (0, 0, 0, 0)), (28, .iload_n 3, 1, (0, 0, 0, 0)), (29, .iadd, 1, (0, 0, 0, 0)), (30, .iaload, 1, (0, 0, 0, 0)), (31, .iload_n 2, 1, (0, 0, 0, 0)), (32, .if_icmp .ne 5, 3, (0, 0, 0, 0)), (35, .iconst 1, 1, (0, 0, 0, 0)), (36, .ireturn, 1, (0, 0, 0, 0)), (37, .iinc 3 1, 3, (0, 0, 0, 0)), (40, .goto (-38), 3, (0, 0, 0, 0)), (43, .iconst 0, 1, (0, 0, 0, 0)), (44, .ireturn, 1, (0, 0, 0, 0))]
set_option maxRecDepth 100000 in
theorem tk_X12_isTaped : TOK RX12 false cX12_isTaped tb_X12_isTaped := chkT_ok ft_X12 (by decide +kernel)
def mt_X12_isTaped : List (Nat × Mt) := []
theorem mk_X12_isTaped : MOK RX12 mt_X12_isTaped := fun q hq => by cases hq
noncomputable def xe_X12_isTaped (ct : Nat → Bool) (K : Kt) (R : Option AV → Hp → Prop) (n : Nat) : Kt := exS 4 1 0 0 2 tb_X12_isTaped mt_X12_isTaped ct K R n
noncomputable def xk_X12_isTaped (ct : Nat → Bool) (K : Kt) (R : Option AV → Hp → Prop) (n : Nat) : Kt := exkS 4 1 0 0 2 tb_X12_isTaped mt_X12_isTaped ct K R n
theorem xt_X12_isTaped {ct : Nat → Bool} {K : Kt} {R : Option AV → Hp → Prop} {n pc : Nat} {ls : List (Option AV)} {st : List AV} {σ : Hp} {k : Nat × Nat} (h : ct pc = true) : xk_X12_isTaped ct K R n pc ls st σ k = K pc ls st σ k := by unfold xk_X12_isTaped exkS; rw [h]
theorem xf_X12_isTaped {ct : Nat → Bool} {K : Kt} {R : Option AV → Hp → Prop} {n pc : Nat} {ls : List (Option AV)} {st : List AV} {σ : Hp} {k : Nat × Nat} (h : ct pc = false) : xk_X12_isTaped ct K R n pc ls st σ k = xe_X12_isTaped ct K R n pc ls st σ k := by unfold xk_X12_isTaped exkS xe_X12_isTaped; rw [h]
theorem ev_X12_isTaped {ct : Nat → Bool} {K : Kt} {R : Option AV → Hp → Prop} {n : Nat} {ls : List (Option AV)} {st : List AV} {σ : Hp} {k : Nat × Nat} :
  xe_X12_isTaped ct K R (n + 1) 0 ls st σ k = (xk_X12_isTaped ct K R n 1 ls (vi (0) :: st) σ k) ∧
  xe_X12_isTaped ct K R (n + 1) 1 ls st σ k = (oI st fun x st => 3 < 4 ∧ xk_X12_isTaped ct K R n 2 (stL ls 3 (vi x)) st σ k) ∧
  xe_X12_isTaped ct K R (n + 1) 2 ls st σ k = (lI ls 3 fun x => xk_X12_isTaped ct K R n 3 ls (vi x :: st) σ k) ∧
  xe_X12_isTaped ct K R (n + 1) 3 ls st σ k = (xk_X12_isTaped ct K R n 6 ls (vi (500) :: st) σ k) ∧
  xe_X12_isTaped ct K R (n + 1) 6 ls st σ k = (oI st fun y st => oI st fun x st => (wI y ≤ wI x → xk_X12_isTaped ct K R n 43 ls st σ k) ∧ (¬ (wI y ≤ wI x) → xk_X12_isTaped ct K R n 9 ls st σ k)) ∧
  xe_X12_isTaped ct K R (n + 1) 9 ls st σ k = (lI ls 3 fun x => xk_X12_isTaped ct K R n 10 ls (vi x :: st) σ k) ∧
  xe_X12_isTaped ct K R (n + 1) 10 ls st σ k = (lR ls 0 fun x => xk_X12_isTaped ct K R n 11 ls (vr x :: st) σ k) ∧
  xe_X12_isTaped ct K R (n + 1) 11 ls st σ k = (oR st fun x st => kd σ x = 13 ∧ xk_X12_isTaped ct K R n 14 ls (vr (fR σ 1319 x) :: st) σ k) ∧
  xe_X12_isTaped ct K R (n + 1) 14 ls st σ k = (lI ls 1 fun x => xk_X12_isTaped ct K R n 15 ls (vi x :: st) σ k) ∧
  xe_X12_isTaped ct K R (n + 1) 15 ls st σ k = (oI st fun j st => oR st fun x st => (kd σ x = 101 ∨ kd σ x = 108) ∧ (0 ≤ j ∧ j < ln σ x) ∧ xk_X12_isTaped ct K R n 16 ls (vi (aI σ x j) :: st) σ k) ∧
  xe_X12_isTaped ct K R (n + 1) 16 ls st σ k = (oI st fun y st => oI st fun x st => (wI y ≤ wI x → xk_X12_isTaped ct K R n 43 ls st σ k) ∧ (¬ (wI y ≤ wI x) → xk_X12_isTaped ct K R n 19 ls st σ k)) ∧
  xe_X12_isTaped ct K R (n + 1) 19 ls st σ k = (lR ls 0 fun x => xk_X12_isTaped ct K R n 20 ls (vr x :: st) σ k) ∧
  xe_X12_isTaped ct K R (n + 1) 20 ls st σ k = (oR st fun x st => kd σ x = 13 ∧ xk_X12_isTaped ct K R n 23 ls (vr (fR σ 1320 x) :: st) σ k) ∧
  xe_X12_isTaped ct K R (n + 1) 23 ls st σ k = (xk_X12_isTaped ct K R n 26 ls (vi (500) :: st) σ k) ∧
  xe_X12_isTaped ct K R (n + 1) 26 ls st σ k = (lI ls 1 fun x => xk_X12_isTaped ct K R n 27 ls (vi x :: st) σ k) ∧
  xe_X12_isTaped ct K R (n + 1) 27 ls st σ k = (oI st fun y st => oI st fun x st => xk_X12_isTaped ct K R n 28 ls (vi (x * y) :: st) σ k) ∧
  xe_X12_isTaped ct K R (n + 1) 28 ls st σ k = (lI ls 3 fun x => xk_X12_isTaped ct K R n 29 ls (vi x :: st) σ k) ∧
  xe_X12_isTaped ct K R (n + 1) 29 ls st σ k = (oI st fun y st => oI st fun x st => xk_X12_isTaped ct K R n 30 ls (vi (x + y) :: st) σ k) ∧
  xe_X12_isTaped ct K R (n + 1) 30 ls st σ k = (oI st fun j st => oR st fun x st => (kd σ x = 101 ∨ kd σ x = 108) ∧ (0 ≤ j ∧ j < ln σ x) ∧ xk_X12_isTaped ct K R n 31 ls (vi (aI σ x j) :: st) σ k) ∧
  xe_X12_isTaped ct K R (n + 1) 31 ls st σ k = (lI ls 2 fun x => xk_X12_isTaped ct K R n 32 ls (vi x :: st) σ k) ∧
  xe_X12_isTaped ct K R (n + 1) 32 ls st σ k = (oI st fun y st => oI st fun x st => (¬ wI x = wI y → xk_X12_isTaped ct K R n 37 ls st σ k) ∧ (¬ (¬ wI x = wI y) → xk_X12_isTaped ct K R n 35 ls st σ k)) ∧
  xe_X12_isTaped ct K R (n + 1) 35 ls st σ k = (xk_X12_isTaped ct K R n 36 ls (vi (1) :: st) σ k) ∧
  xe_X12_isTaped ct K R (n + 1) 36 ls st σ k = (oI st fun x st => st = [] ∧ (x = 0 ∨ x = 1) ∧ R (some (vi x)) σ) ∧
  xe_X12_isTaped ct K R (n + 1) 37 ls st σ k = (lI ls 3 fun x => 3 < 4 ∧ xk_X12_isTaped ct K R n 40 (stL ls 3 (vi (x + (1)))) st σ k) ∧
  xe_X12_isTaped ct K R (n + 1) 40 ls st σ k = (xk_X12_isTaped ct K R n 2 ls st σ k) ∧
  xe_X12_isTaped ct K R (n + 1) 43 ls st σ k = (xk_X12_isTaped ct K R n 44 ls (vi (0) :: st) σ k) ∧
  xe_X12_isTaped ct K R (n + 1) 44 ls st σ k = (oI st fun x st => st = [] ∧ (x = 0 ∨ x = 1) ∧ R (some (vi x)) σ) :=
  ⟨exS_step.trans rfl, exS_step.trans rfl, exS_step.trans rfl, exS_step.trans rfl, exS_step.trans rfl, exS_step.trans rfl, exS_step.trans rfl, exS_step.trans rfl, exS_step.trans rfl, exS_step.trans rfl, exS_step.trans rfl, exS_step.trans rfl, exS_step.trans rfl, exS_step.trans rfl, exS_step.trans rfl, exS_step.trans rfl, exS_step.trans rfl, exS_step.trans rfl, exS_step.trans rfl, exS_step.trans rfl, exS_step.trans rfl, exS_step.trans rfl, exS_step.trans rfl, exS_step.trans rfl, exS_step.trans rfl, exS_step.trans rfl, exS_step.trans rfl⟩
def M_X12_isTaped : Md := (yX12_isTaped, cX12_isTaped, 4, (some FieldType.boolean), 1, 0, 0, 2, false, tb_X12_isTaped, mt_X12_isTaped)
theorem mm_X12_isTaped : MMOK M_X12_isTaped := ⟨by decide +kernel, tk_X12_isTaped, mk_X12_isTaped, rfl, fun h => by cases h⟩
theorem go_X12_isTaped {Q : Option AV → Hp → Prop} {ct : Nat → Bool} {pc : Nat} {ls : List (Option AV)} {st : List AV} {σ : Hp} {k : Nat × Nat} (n : Nat) (h : xe_X12_isTaped ct (Go M_X12_isTaped Q) Q n pc ls st σ k) : Go M_X12_isTaped Q pc ls st σ k := Go.exS mm_X12_isTaped h

set_option maxRecDepth 20000 in
theorem c_X12_isTaped : Ct yX12_isTaped cX12_isTaped 4 ((some FieldType.boolean)) 1 0 0 sp_X12_isTaped := by
  refine Ct.go (M := M_X12_isTaped) mm_X12_isTaped fun av σ Q h0 => ?_
  obtain ⟨this, l, t, rfl, hk, h⟩ := el_X12_isTaped h0
  clear h0
  refine ⟨Nat.le_of_ble_eq_true rfl, ?_⟩
  show Go M_X12_isTaped Q 0 [some (vr this), some (vi l), some (vi t), none] [] σ (0, 0)
  obtain ⟨rfl, hI, hl, ht, h⟩ := h
  unfold inR at ht
  have h1 := hI.taped_ l
  have loop : ∀ (n : Nat) (k : Int), 0 ≤ k → k + n = 500 → (∀ j, 0 ≤ j → j < k → ¬ aI σ 79 (500 * l + j) = t) → Go M_X12_isTaped Q 2 [some (vr 61), some (vi l), some (vi t), some (vi k)] [] σ (0, 0) := by
    intro n
    induction n with
    | zero =>
      intro k h2 h3 hno
      refine go_X12_isTaped (ct := fun p => p == 2) 40 ?_
      simp only [oI, oL, oR, o1, lI, lL, lR, popN, catS, gv, stL, stL2, swt, cnd, spObj, List.getElem?_cons_zero, List.getElem?_cons_succ, List.getD_cons_zero, List.getD_cons_succ, List.set_cons_zero, List.set_cons_succ, List.nil_append, List.cons_append, Option.toList, Bool.or_false, Bool.false_or, Bool.or_true, Bool.true_or, Nat.reduceBEq, Nat.reduceAdd, Nat.reduceLT, Nat.reduceLeDiff, Int.reduceAdd, Int.reduceToNat, true_and, and_true, Fin.isValue, Fin.val_zero, Fin.val_one, Fin.val_two, Fin.reduceFinMk, eq_self, Int.reduceNeg, imp_self, Nat.reduceMul, Nat.le_refl, not_true_eq_false, not_false_eq_true, List.getElem?_nil, reduceCtorEq, true_or, or_true, Classical.not_not, implies_true, or_self, wI_0, wI_1, wI_m1, b2i_w, b2i_eq0, b2i_eq1, b2i_bool, nor_self, nx_pI, kd_pI, ln_pI, fI_pI, fL_pI, fR_pI, aI_pI, aL_pI, aR_pI, nx_pL, kd_pL, ln_pL, fI_pL, fL_pL, fR_pL, aI_pL, aL_pL, aR_pL, nx_pR, kd_pR, ln_pR, fI_pR, fL_pR, fR_pR, aI_pR, aL_pR, aR_pR, nx_qI, kd_qI, ln_qI, fI_qI, fL_qI, fR_qI, aI_qI, aL_qI, aR_qI, nx_qL, kd_qL, ln_qL, fI_qL, fL_qL, fR_qL, aI_qL, aL_qL, aR_qL, nx_qR, kd_qR, ln_qR, fI_qR, fL_qR, fR_qR, aI_qR, aL_qR, aR_qR, nx_mk, kd_mk, ln_mk, fI_mk, fL_mk, fR_mk, aI_mk, aL_mk, aR_mk, false_and, and_false, if_false, if_true, and_self, Int.reduceEq, Nat.reduceEqDiff, ite_self, MLay_pI, MLay_pL, MLay_qI, MLay_qL, ev_X12_isTaped, xt_X12_isTaped, xf_X12_isTaped, hI.lay.eqs]
      try simp (disch := omega) only [wI_id, dv_nn, rm_nn]
      refine ⟨fun _ => ?_, fun z => absurd (by omega) z⟩
      rw [b2i_f (by rintro ⟨j, a, b, c, d⟩; exact hno j a (by omega) d)] at h; exact h
    | succ n ih =>
      intro k h2 h3 hno
      have h4 := hI.tape_ (500 * l + k)
      refine go_X12_isTaped (ct := fun p => p == 2) 40 ?_
      simp only [oI, oL, oR, o1, lI, lL, lR, popN, catS, gv, stL, stL2, swt, cnd, spObj, List.getElem?_cons_zero, List.getElem?_cons_succ, List.getD_cons_zero, List.getD_cons_succ, List.set_cons_zero, List.set_cons_succ, List.nil_append, List.cons_append, Option.toList, Bool.or_false, Bool.false_or, Bool.or_true, Bool.true_or, Nat.reduceBEq, Nat.reduceAdd, Nat.reduceLT, Nat.reduceLeDiff, Int.reduceAdd, Int.reduceToNat, true_and, and_true, Fin.isValue, Fin.val_zero, Fin.val_one, Fin.val_two, Fin.reduceFinMk, eq_self, Int.reduceNeg, imp_self, Nat.reduceMul, Nat.le_refl, not_true_eq_false, not_false_eq_true, List.getElem?_nil, reduceCtorEq, true_or, or_true, Classical.not_not, implies_true, or_self, wI_0, wI_1, wI_m1, b2i_w, b2i_eq0, b2i_eq1, b2i_bool, nor_self, nx_pI, kd_pI, ln_pI, fI_pI, fL_pI, fR_pI, aI_pI, aL_pI, aR_pI, nx_pL, kd_pL, ln_pL, fI_pL, fL_pL, fR_pL, aI_pL, aL_pL, aR_pL, nx_pR, kd_pR, ln_pR, fI_pR, fL_pR, fR_pR, aI_pR, aL_pR, aR_pR, nx_qI, kd_qI, ln_qI, fI_qI, fL_qI, fR_qI, aI_qI, aL_qI, aR_qI, nx_qL, kd_qL, ln_qL, fI_qL, fL_qL, fR_qL, aI_qL, aL_qL, aR_qL, nx_qR, kd_qR, ln_qR, fI_qR, fL_qR, fR_qR, aI_qR, aL_qR, aR_qR, nx_mk, kd_mk, ln_mk, fI_mk, fL_mk, fR_mk, aI_mk, aL_mk, aR_mk, false_and, and_false, if_false, if_true, and_self, Int.reduceEq, Nat.reduceEqDiff, ite_self, MLay_pI, MLay_pL, MLay_qI, MLay_qL, ev_X12_isTaped, xt_X12_isTaped, xf_X12_isTaped, hI.lay.eqs]
      try simp (disch := omega) only [wI_id, dv_nn, rm_nn]
      refine ⟨fun z => absurd z (by omega), fun _ => ⟨hl, fun z => ?_, fun z => ⟨by omega, fun hne => ?_, fun he => ?_⟩⟩⟩
      · rw [b2i_f (by rintro ⟨j, a, b, c, d⟩; exact hno j a (by omega) d)] at h; exact h
      · refine ih (k + 1) (by omega) (by omega) fun j a b => ?_
        by_cases e : j = k
        · subst e; exact hne
        · exact hno j a (by omega)
      · rw [b2i_t (show mTaped σ l t from ⟨k, h2, by omega, by omega, he⟩)] at h; exact h
  refine go_X12_isTaped (ct := fun p => p == 2) 40 ?_
  simp only [oI, oL, oR, o1, lI, lL, lR, popN, catS, gv, stL, stL2, swt, cnd, spObj, List.getElem?_cons_zero, List.getElem?_cons_succ, List.getD_cons_zero, List.getD_cons_succ, List.set_cons_zero, List.set_cons_succ, List.nil_append, List.cons_append, Option.toList, Bool.or_false, Bool.false_or, Bool.or_true, Bool.true_or, Nat.reduceBEq, Nat.reduceAdd, Nat.reduceLT, Nat.reduceLeDiff, Int.reduceAdd, Int.reduceToNat, true_and, and_true, Fin.isValue, Fin.val_zero, Fin.val_one, Fin.val_two, Fin.reduceFinMk, eq_self, Int.reduceNeg, imp_self, Nat.reduceMul, Nat.le_refl, not_true_eq_false, not_false_eq_true, List.getElem?_nil, reduceCtorEq, true_or, or_true, Classical.not_not, implies_true, or_self, wI_0, wI_1, wI_m1, b2i_w, b2i_eq0, b2i_eq1, b2i_bool, nor_self, nx_pI, kd_pI, ln_pI, fI_pI, fL_pI, fR_pI, aI_pI, aL_pI, aR_pI, nx_pL, kd_pL, ln_pL, fI_pL, fL_pL, fR_pL, aI_pL, aL_pL, aR_pL, nx_pR, kd_pR, ln_pR, fI_pR, fL_pR, fR_pR, aI_pR, aL_pR, aR_pR, nx_qI, kd_qI, ln_qI, fI_qI, fL_qI, fR_qI, aI_qI, aL_qI, aR_qI, nx_qL, kd_qL, ln_qL, fI_qL, fL_qL, fR_qL, aI_qL, aL_qL, aR_qL, nx_qR, kd_qR, ln_qR, fI_qR, fL_qR, fR_qR, aI_qR, aL_qR, aR_qR, nx_mk, kd_mk, ln_mk, fI_mk, fL_mk, fR_mk, aI_mk, aL_mk, aR_mk, false_and, and_false, if_false, if_true, and_self, Int.reduceEq, Nat.reduceEqDiff, ite_self, MLay_pI, MLay_pL, MLay_qI, MLay_qL, ev_X12_isTaped, xt_X12_isTaped, xf_X12_isTaped]
  exact loop 500 0 (by omega) (by omega) (fun j a b => by omega)

def sp_X12_knocked : Sp := fun av σ Q => oR av fun this av => oI av fun l av => oI av fun t av => av = [] ∧ kd σ this = 13 ∧ (this = 61 ∧ MI σ ∧ inR l ∧ inR t ∧ ((0 ≤ l ∧ l ≤ 3 ∧ 1 ≤ t ∧ t ≤ fI σ 1301 61) → Q (some (vi (b2i (mTaped σ l t)))) (pI σ 1300 61 0)) ∧ (¬ (0 ≤ l ∧ l ≤ 3 ∧ 1 ≤ t ∧ t ≤ fI σ 1301 61) → Q (some (vi (-1))) (pI σ 1300 61 0)))
theorem us_X12_knocked (this : Int) (l : Int) (t : Int) (σ : Hp) (Q : Option AV → Hp → Prop) : sp_X12_knocked [vr this, vi l, vi t] σ Q = (kd σ this = 13 ∧ (this = 61 ∧ MI σ ∧ inR l ∧ inR t ∧ ((0 ≤ l ∧ l ≤ 3 ∧ 1 ≤ t ∧ t ≤ fI σ 1301 61) → Q (some (vi (b2i (mTaped σ l t)))) (pI σ 1300 61 0)) ∧ (¬ (0 ≤ l ∧ l ≤ 3 ∧ 1 ≤ t ∧ t ≤ fI σ 1301 61) → Q (some (vi (-1))) (pI σ 1300 61 0)))) := propext ⟨fun h => h.2, fun h => ⟨rfl, h⟩⟩
theorem el_X12_knocked {av : List AV} {σ : Hp} {Q : Option AV → Hp → Prop} (h : sp_X12_knocked av σ Q) : ∃ (this : Int) (l : Int) (t : Int), av = [vr this, vi l, vi t] ∧ (kd σ this = 13 ∧ (this = 61 ∧ MI σ ∧ inR l ∧ inR t ∧ ((0 ≤ l ∧ l ≤ 3 ∧ 1 ≤ t ∧ t ≤ fI σ 1301 61) → Q (some (vi (b2i (mTaped σ l t)))) (pI σ 1300 61 0)) ∧ (¬ (0 ≤ l ∧ l ≤ 3 ∧ 1 ≤ t ∧ t ≤ fI σ 1301 61) → Q (some (vi (-1))) (pI σ 1300 61 0)))) := by
  obtain ⟨this, a0, rfl, h0⟩ := oR_s h
  obtain ⟨l, a1, rfl, h1⟩ := oI_s h0
  obtain ⟨t, a2, rfl, h2⟩ := oI_s h1
  obtain ⟨rfl, hz⟩ := h2
  exact ⟨this, l, t, rfl, hz⟩
theorem rc_X12_knocked : ∀ (av : List AV) (σ : Hp) (Q : Option AV → Hp → Prop), sp_X12_knocked av σ Q → ∃ r tl, av = vr r :: tl ∧ kd σ r = 12 + 1 := fun av σ Q h => by
  obtain ⟨this, l, t, rfl, hz, -⟩ := el_X12_knocked h
  exact ⟨this, _, rfl, hz⟩

def tb_X12_knocked : Tab := [(0, .aload_n 0, 1, (0, 0, 0, 0)), (1, .iconst 0, 1, (0, 0, 0, 0)), (2, .putfield 196, 3, (13, 1300, 0, 0)), (5, .iload_n 1, 1, (0, 0, 0, 0)), (6, .iconst 0, 1, (0, 0, 0, 0)), (7, .iconst 3, 1, (0, 0, 0, 0)), (8, .invokestatic 202, 3, (0, 0, 0, 0)), (11, .ifCond .eq 32, 3, (0, 0, 0, 0)), (14, .iload_n 2, 1, (0, 0, 0, 0)), (15, .iconst 1, 1, (0, 0, 0, 0)), (16, .aload_n 0, 1, (0, 0, 0, 0)), (17, .getfield 217, 3, (13, 1301, 0, 0)), (20, .invokestatic 202, 3, (0, 0, 0, 0)), (23, .ifCond .eq 20, 3, (0, 0, 0, 0)), (26, .aload_n 0, 1, (0, 0, 0, 0)), (27, .iload_n 1, 1, (0, 0, 0, 0)), (28, .iload_n 2, 1, (0, 0, 0, 0)), (29, .invokevirtual 235, 3, (0, 0, 0, 0)), (32, .ifCond .eq 7, 3, (0, 0, 0, 0)), (35, .iconst 1, 1, (0, 0, 0, 0)), (36, .goto 8, 3, (0, 0, 0, 0)), (39, .iconst 0, 1, (0, 0, 0, 0)), (40, .goto 4, 3, (0, 0, 0, 0)), (43, .iconst (-1), 1, (0, 0, 0, 0)), (44, .ireturn, 1, (0, 0, 0, 0))]
set_option maxRecDepth 100000 in
theorem tk_X12_knocked : TOK RX12 false cX12_knocked tb_X12_knocked := chkT_ok ft_X12 (by decide +kernel)
theorem rw_X12_1880 : Row RX12 (.invokevirtual 235) 3 3 0 0 1 sp_X12_isTaped := row_V (n := 2) (ci := 12) c_X12_isTaped ⟨TBL_in 1819 (by decide +kernel) rfl, TBL_in 1822 (by decide +kernel) rfl, TBL_in 123 (by decide +kernel) rfl, by decide +kernel, by decide⟩ (by decide) rfl (TBL_in 1821 (by decide +kernel) rfl) (TBL_in 70 (by decide +kernel) rfl) rc_X12_isTaped
def mt_X12_knocked : List (Nat × Mt) := [(1617, 3, 0, 0, 1, sp_X12_within), (1880, 3, 0, 0, 1, sp_X12_isTaped)]
theorem em_X12_knocked : mt_X12_knocked.lookup 1617 = some (3, 0, 0, 1, sp_X12_within) ∧ mt_X12_knocked.lookup 1880 = some (3, 0, 0, 1, sp_X12_isTaped) := ⟨rfl, rfl⟩
theorem mk_X12_knocked : MOK RX12 mt_X12_knocked := by
  intro q hq
  simp only [mt_X12_knocked, List.mem_cons, List.not_mem_nil, or_false] at hq
  rcases hq with rfl | rfl
  · exact rw_X12_1617
  · exact rw_X12_1880
noncomputable def xe_X12_knocked (ct : Nat → Bool) (K : Kt) (R : Option AV → Hp → Prop) (n : Nat) : Kt := exS 3 2 0 0 1 tb_X12_knocked mt_X12_knocked ct K R n
noncomputable def xk_X12_knocked (ct : Nat → Bool) (K : Kt) (R : Option AV → Hp → Prop) (n : Nat) : Kt := exkS 3 2 0 0 1 tb_X12_knocked mt_X12_knocked ct K R n
theorem xt_X12_knocked {ct : Nat → Bool} {K : Kt} {R : Option AV → Hp → Prop} {n pc : Nat} {ls : List (Option AV)} {st : List AV} {σ : Hp} {k : Nat × Nat} (h : ct pc = true) : xk_X12_knocked ct K R n pc ls st σ k = K pc ls st σ k := by unfold xk_X12_knocked exkS; rw [h]
theorem xf_X12_knocked {ct : Nat → Bool} {K : Kt} {R : Option AV → Hp → Prop} {n pc : Nat} {ls : List (Option AV)} {st : List AV} {σ : Hp} {k : Nat × Nat} (h : ct pc = false) : xk_X12_knocked ct K R n pc ls st σ k = xe_X12_knocked ct K R n pc ls st σ k := by unfold xk_X12_knocked exkS xe_X12_knocked; rw [h]
theorem ev_X12_knocked {ct : Nat → Bool} {K : Kt} {R : Option AV → Hp → Prop} {n : Nat} {ls : List (Option AV)} {st : List AV} {σ : Hp} {k : Nat × Nat} :
  xe_X12_knocked ct K R (n + 1) 0 ls st σ k = (lR ls 0 fun x => xk_X12_knocked ct K R n 1 ls (vr x :: st) σ k) ∧
  xe_X12_knocked ct K R (n + 1) 1 ls st σ k = (xk_X12_knocked ct K R n 2 ls (vi (0) :: st) σ k) ∧
  xe_X12_knocked ct K R (n + 1) 2 ls st σ k = (oI st fun v st => oR st fun x st => kd σ x = 13 ∧ xk_X12_knocked ct K R n 5 ls st (pI σ 1300 x v) k) ∧
  xe_X12_knocked ct K R (n + 1) 5 ls st σ k = (lI ls 1 fun x => xk_X12_knocked ct K R n 6 ls (vi x :: st) σ k) ∧
  xe_X12_knocked ct K R (n + 1) 6 ls st σ k = (xk_X12_knocked ct K R n 7 ls (vi (0) :: st) σ k) ∧
  xe_X12_knocked ct K R (n + 1) 7 ls st σ k = (xk_X12_knocked ct K R n 8 ls (vi (3) :: st) σ k) ∧
  xe_X12_knocked ct K R (n + 1) 8 ls st σ k = (popN 3 st [] fun av rest => (catS rest ≤ 8 ∧ 1 < 2 ∧ k.1 + 0 ≤ 0 ∧ k.2 + 0 ≤ 0) ∧ (sp_X12_within) av σ fun v σ' => xk_X12_knocked ct K R n 11 ls (v.toList ++ rest) σ' (k.1 + 0, k.2 + 0)) ∧
  xe_X12_knocked ct K R (n + 1) 11 ls st σ k = (oI st fun x st => (wI x = wI 0 → xk_X12_knocked ct K R n 43 ls st σ k) ∧ (¬ (wI x = wI 0) → xk_X12_knocked ct K R n 14 ls st σ k)) ∧
  xe_X12_knocked ct K R (n + 1) 14 ls st σ k = (lI ls 2 fun x => xk_X12_knocked ct K R n 15 ls (vi x :: st) σ k) ∧
  xe_X12_knocked ct K R (n + 1) 15 ls st σ k = (xk_X12_knocked ct K R n 16 ls (vi (1) :: st) σ k) ∧
  xe_X12_knocked ct K R (n + 1) 16 ls st σ k = (lR ls 0 fun x => xk_X12_knocked ct K R n 17 ls (vr x :: st) σ k) ∧
  xe_X12_knocked ct K R (n + 1) 17 ls st σ k = (oR st fun x st => kd σ x = 13 ∧ xk_X12_knocked ct K R n 20 ls (vi (fI σ 1301 x) :: st) σ k) ∧
  xe_X12_knocked ct K R (n + 1) 20 ls st σ k = (popN 3 st [] fun av rest => (catS rest ≤ 8 ∧ 1 < 2 ∧ k.1 + 0 ≤ 0 ∧ k.2 + 0 ≤ 0) ∧ (sp_X12_within) av σ fun v σ' => xk_X12_knocked ct K R n 23 ls (v.toList ++ rest) σ' (k.1 + 0, k.2 + 0)) ∧
  xe_X12_knocked ct K R (n + 1) 23 ls st σ k = (oI st fun x st => (wI x = wI 0 → xk_X12_knocked ct K R n 43 ls st σ k) ∧ (¬ (wI x = wI 0) → xk_X12_knocked ct K R n 26 ls st σ k)) ∧
  xe_X12_knocked ct K R (n + 1) 26 ls st σ k = (lR ls 0 fun x => xk_X12_knocked ct K R n 27 ls (vr x :: st) σ k) ∧
  xe_X12_knocked ct K R (n + 1) 27 ls st σ k = (lI ls 1 fun x => xk_X12_knocked ct K R n 28 ls (vi x :: st) σ k) ∧
  xe_X12_knocked ct K R (n + 1) 28 ls st σ k = (lI ls 2 fun x => xk_X12_knocked ct K R n 29 ls (vi x :: st) σ k) ∧
  xe_X12_knocked ct K R (n + 1) 29 ls st σ k = (popN 3 st [] fun av rest => (catS rest ≤ 8 ∧ 1 < 2 ∧ k.1 + 0 ≤ 0 ∧ k.2 + 0 ≤ 0) ∧ (sp_X12_isTaped) av σ fun v σ' => xk_X12_knocked ct K R n 32 ls (v.toList ++ rest) σ' (k.1 + 0, k.2 + 0)) ∧
  xe_X12_knocked ct K R (n + 1) 32 ls st σ k = (oI st fun x st => (wI x = wI 0 → xk_X12_knocked ct K R n 39 ls st σ k) ∧ (¬ (wI x = wI 0) → xk_X12_knocked ct K R n 35 ls st σ k)) ∧
  xe_X12_knocked ct K R (n + 1) 35 ls st σ k = (xk_X12_knocked ct K R n 36 ls (vi (1) :: st) σ k) ∧
  xe_X12_knocked ct K R (n + 1) 36 ls st σ k = (xk_X12_knocked ct K R n 44 ls st σ k) ∧
  xe_X12_knocked ct K R (n + 1) 39 ls st σ k = (xk_X12_knocked ct K R n 40 ls (vi (0) :: st) σ k) ∧
  xe_X12_knocked ct K R (n + 1) 40 ls st σ k = (xk_X12_knocked ct K R n 44 ls st σ k) ∧
  xe_X12_knocked ct K R (n + 1) 43 ls st σ k = (xk_X12_knocked ct K R n 44 ls (vi (-1) :: st) σ k) ∧
  xe_X12_knocked ct K R (n + 1) 44 ls st σ k = (oI st fun x st => st = [] ∧ True ∧ R (some (vi x)) σ) :=
  ⟨exS_step.trans rfl, exS_step.trans rfl, exS_step.trans rfl, exS_step.trans rfl, exS_step.trans rfl, exS_step.trans rfl, exS_step.trans rfl, exS_step.trans rfl, exS_step.trans rfl, exS_step.trans rfl, exS_step.trans rfl, exS_step.trans rfl, exS_step.trans rfl, exS_step.trans rfl, exS_step.trans rfl, exS_step.trans rfl, exS_step.trans rfl, exS_step.trans rfl, exS_step.trans rfl, exS_step.trans rfl, exS_step.trans rfl, exS_step.trans rfl, exS_step.trans rfl, exS_step.trans rfl, exS_step.trans rfl⟩
def M_X12_knocked : Md := (yX12_knocked, cX12_knocked, 3, (some FieldType.int), 2, 0, 0, 1, false, tb_X12_knocked, mt_X12_knocked)
theorem mm_X12_knocked : MMOK M_X12_knocked := ⟨by decide +kernel, tk_X12_knocked, mk_X12_knocked, rfl, fun h => by cases h⟩
theorem go_X12_knocked {Q : Option AV → Hp → Prop} {ct : Nat → Bool} {pc : Nat} {ls : List (Option AV)} {st : List AV} {σ : Hp} {k : Nat × Nat} (n : Nat) (h : xe_X12_knocked ct (Go M_X12_knocked Q) Q n pc ls st σ k) : Go M_X12_knocked Q pc ls st σ k := Go.exS mm_X12_knocked h

set_option maxRecDepth 20000 in
theorem c_X12_knocked : Ct yX12_knocked cX12_knocked 3 ((some FieldType.int)) 2 0 0 sp_X12_knocked := by
  refine Ct.go (M := M_X12_knocked) mm_X12_knocked fun av σ Q h0 => ?_
  obtain ⟨this, l, t, rfl, hk, h⟩ := el_X12_knocked h0
  clear h0
  refine ⟨Nat.le_of_ble_eq_true rfl, ?_⟩
  show Go M_X12_knocked Q 0 [some (vr this), some (vi l), some (vi t)] [] σ (0, 0)
  obtain ⟨rfl, hI, hl, ht, h1, h2⟩ := h
  unfold inR at hl ht
  have hn := hI.now_s
  have hI2 : MI (pI σ 1300 61 0) := MI_fre hI (by decide)
  refine go_X12_knocked (ct := fun p => false) 60 ?_
  simp only [oI, oL, oR, o1, lI, lL, lR, popN, catS, gv, stL, stL2, swt, cnd, spObj, List.getElem?_cons_zero, List.getElem?_cons_succ, List.getD_cons_zero, List.getD_cons_succ, List.set_cons_zero, List.set_cons_succ, List.nil_append, List.cons_append, Option.toList, Bool.or_false, Bool.false_or, Bool.or_true, Bool.true_or, Nat.reduceBEq, Nat.reduceAdd, Nat.reduceLT, Nat.reduceLeDiff, Int.reduceAdd, Int.reduceToNat, true_and, and_true, Fin.isValue, Fin.val_zero, Fin.val_one, Fin.val_two, Fin.reduceFinMk, eq_self, Int.reduceNeg, imp_self, Nat.reduceMul, Nat.le_refl, not_true_eq_false, not_false_eq_true, List.getElem?_nil, reduceCtorEq, true_or, or_true, Classical.not_not, implies_true, or_self, wI_0, wI_1, wI_m1, b2i_w, b2i_eq0, b2i_eq1, b2i_bool, nor_self, nx_pI, kd_pI, ln_pI, fI_pI, fL_pI, fR_pI, aI_pI, aL_pI, aR_pI, nx_pL, kd_pL, ln_pL, fI_pL, fL_pL, fR_pL, aI_pL, aL_pL, aR_pL, nx_pR, kd_pR, ln_pR, fI_pR, fL_pR, fR_pR, aI_pR, aL_pR, aR_pR, nx_qI, kd_qI, ln_qI, fI_qI, fL_qI, fR_qI, aI_qI, aL_qI, aR_qI, nx_qL, kd_qL, ln_qL, fI_qL, fL_qL, fR_qL, aI_qL, aL_qL, aR_qL, nx_qR, kd_qR, ln_qR, fI_qR, fL_qR, fR_qR, aI_qR, aL_qR, aR_qR, nx_mk, kd_mk, ln_mk, fI_mk, fL_mk, fR_mk, aI_mk, aL_mk, aR_mk, false_and, and_false, if_false, if_true, and_self, Int.reduceEq, Nat.reduceEqDiff, ite_self, MLay_pI, MLay_pL, MLay_qI, MLay_qL, ev_X12_knocked, xt_X12_knocked, xf_X12_knocked, us_X12_within, us_X12_isTaped, hk, hI2, kd_pI, fI_pI, aI_pI, Nat.reduceEqDiff, false_and, if_false, inR]
  try simp (disch := omega) only [wI_id, dv_nn, rm_nn]
  refine ⟨fun z => h2 (by omega), fun z => ⟨fun z2 => h2 (by omega), fun z2 => ⟨by omega, ht, fun z3 => ?_, fun z3 => ?_⟩⟩⟩
  · have := h1 (by omega); rw [b2i_f (p := mTaped σ l t) z3] at this; exact this
  · have := h1 (by omega); rw [b2i_t (p := mTaped σ l t) z3] at this; exact this
