/-! the reference: the small ones -/

def sp_X12_within : Sp := fun av σ Q => oI av fun v av => oI av fun least av => oI av fun most av => av = [] ∧ (Q (some (vi (b2i (wI least ≤ wI v ∧ wI v ≤ wI most)))) σ)
theorem us_X12_within (v : Int) (least : Int) (most : Int) (σ : Hp) (Q : Option AV → Hp → Prop) : sp_X12_within [vi v, vi least, vi most] σ Q = ((Q (some (vi (b2i (wI least ≤ wI v ∧ wI v ≤ wI most)))) σ)) := propext ⟨fun h => h.2, fun h => ⟨rfl, h⟩⟩
theorem el_X12_within {av : List AV} {σ : Hp} {Q : Option AV → Hp → Prop} (h : sp_X12_within av σ Q) : ∃ (v : Int) (least : Int) (most : Int), av = [vi v, vi least, vi most] ∧ ((Q (some (vi (b2i (wI least ≤ wI v ∧ wI v ≤ wI most)))) σ)) := by
  obtain ⟨v, a0, rfl, h0⟩ := oI_s h
  obtain ⟨least, a1, rfl, h1⟩ := oI_s h0
  obtain ⟨most, a2, rfl, h2⟩ := oI_s h1
  obtain ⟨rfl, hz⟩ := h2
  exact ⟨v, least, most, rfl, hz⟩

def tb_X12_within : Tab := [(0, .iload_n 0, 1, (0, 0, 0, 0)), (1, .iload_n 1, 1, (0, 0, 0, 0)), (2, .if_icmp .lt 12, 3, (0, 0, 0, 0)), (5, .iload_n 0, 1, (0, 0, 0, 0)), (6, .iload_n 2, 1, (0, 0, 0, 0)), (7, .if_icmp .gt 7, 3, (0, 0, 0, 0)), (10, .iconst 1, 1, (0, 0, 0, 0)), (11, .goto 4, 3, (0, 0, 0, 0)), (14, .iconst 0, 1, (0, 0, 0, 0)), (15, .ireturn, 1, (0, 0, 0, 0))]
set_option maxRecDepth 100000 in
theorem tk_X12_within : TOK RX12 false cX12_within tb_X12_within := chkT_ok ft_X12 (by decide +kernel)
def mt_X12_within : List (Nat × Mt) := []
theorem mk_X12_within : MOK RX12 mt_X12_within := fun q hq => by cases hq
def xe_X12_within (ct : Nat → Bool) (K : Kt) (R : Option AV → Hp → Prop) (n : Nat) : Kt := ex 3 1 0 0 2 tb_X12_within mt_X12_within ct K R n
def xk_X12_within (ct : Nat → Bool) (K : Kt) (R : Option AV → Hp → Prop) (n : Nat) : Kt := fun pc ls st σ k => match ct pc with | true => K pc ls st σ k | false => xe_X12_within ct K R n pc ls st σ k
theorem xt_X12_within {ct : Nat → Bool} {K : Kt} {R : Option AV → Hp → Prop} {n pc : Nat} {ls : List (Option AV)} {st : List AV} {σ : Hp} {k : Nat × Nat} (h : ct pc = true) : xk_X12_within ct K R n pc ls st σ k = K pc ls st σ k := by unfold xk_X12_within; rw [h]
theorem xf_X12_within {ct : Nat → Bool} {K : Kt} {R : Option AV → Hp → Prop} {n pc : Nat} {ls : List (Option AV)} {st : List AV} {σ : Hp} {k : Nat × Nat} (h : ct pc = false) : xk_X12_within ct K R n pc ls st σ k = xe_X12_within ct K R n pc ls st σ k := by unfold xk_X12_within; rw [h]
theorem ev_X12_within {ct : Nat → Bool} {K : Kt} {R : Option AV → Hp → Prop} {n : Nat} {ls : List (Option AV)} {st : List AV} {σ : Hp} {k : Nat × Nat} :
  xe_X12_within ct K R (n + 1) 0 ls st σ k = (lI ls 0 fun x => xk_X12_within ct K R n 1 ls (vi x :: st) σ k) ∧
  xe_X12_within ct K R (n + 1) 1 ls st σ k = (lI ls 1 fun x => xk_X12_within ct K R n 2 ls (vi x :: st) σ k) ∧
  xe_X12_within ct K R (n + 1) 2 ls st σ k = (oI st fun y st => oI st fun x st => (wI x < wI y → xk_X12_within ct K R n 14 ls st σ k) ∧ (¬ (wI x < wI y) → xk_X12_within ct K R n 5 ls st σ k)) ∧
  xe_X12_within ct K R (n + 1) 5 ls st σ k = (lI ls 0 fun x => xk_X12_within ct K R n 6 ls (vi x :: st) σ k) ∧
  xe_X12_within ct K R (n + 1) 6 ls st σ k = (lI ls 2 fun x => xk_X12_within ct K R n 7 ls (vi x :: st) σ k) ∧
  xe_X12_within ct K R (n + 1) 7 ls st σ k = (oI st fun y st => oI st fun x st => (wI y < wI x → xk_X12_within ct K R n 14 ls st σ k) ∧ (¬ (wI y < wI x) → xk_X12_within ct K R n 10 ls st σ k)) ∧
  xe_X12_within ct K R (n + 1) 10 ls st σ k = (xk_X12_within ct K R n 11 ls (vi (1) :: st) σ k) ∧
  xe_X12_within ct K R (n + 1) 11 ls st σ k = (xk_X12_within ct K R n 15 ls st σ k) ∧
  xe_X12_within ct K R (n + 1) 14 ls st σ k = (xk_X12_within ct K R n 15 ls (vi (0) :: st) σ k) ∧
  xe_X12_within ct K R (n + 1) 15 ls st σ k = (oI st fun x st => st = [] ∧ (x = 0 ∨ x = 1) ∧ R (some (vi x)) σ) :=
  ⟨rfl, rfl, rfl, rfl, rfl, rfl, rfl, rfl, rfl, rfl⟩
def M_X12_within : Md := (yX12_within, cX12_within, 3, (some FieldType.boolean), 1, 0, 0, 2, false, tb_X12_within, mt_X12_within)
theorem mm_X12_within : MMOK M_X12_within := ⟨by decide +kernel, tk_X12_within, mk_X12_within, rfl, fun h => by cases h⟩
theorem go_X12_within {Q : Option AV → Hp → Prop} {ct : Nat → Bool} {pc : Nat} {ls : List (Option AV)} {st : List AV} {σ : Hp} {k : Nat × Nat} (n : Nat) (h : xe_X12_within ct (Go M_X12_within Q) Q n pc ls st σ k) : Go M_X12_within Q pc ls st σ k := Go.ex mm_X12_within h

set_option maxRecDepth 20000 in
theorem c_X12_within : Ct yX12_within cX12_within 3 ((some FieldType.boolean)) 1 0 0 sp_X12_within := by
  refine Ct.go (M := M_X12_within) mm_X12_within fun av σ Q h => ?_
  obtain ⟨v, least, most, rfl, h⟩ := el_X12_within h
  refine ⟨Nat.le_of_ble_eq_true rfl, ?_⟩
  show Go M_X12_within Q 0 [some (vi v), some (vi least), some (vi most)] [] σ (0, 0)
  refine go_X12_within (ct := fun p => false) 20 ?_
  simp only [oI, oL, oR, o1, lI, lL, lR, popN, catS, gv, stL, stL2, swt, cnd, spObj, List.getElem?_cons_zero, List.getElem?_cons_succ, List.getD_cons_zero, List.getD_cons_succ, List.set_cons_zero, List.set_cons_succ, List.nil_append, List.cons_append, Option.toList, Bool.or_false, Bool.false_or, Bool.or_true, Bool.true_or, Nat.reduceBEq, Nat.reduceAdd, Nat.reduceLT, Nat.reduceLeDiff, Int.reduceAdd, Int.reduceToNat, true_and, and_true, Fin.isValue, Fin.val_zero, Fin.val_one, Fin.val_two, Fin.reduceFinMk, eq_self, Int.reduceNeg, imp_self, Nat.reduceMul, Nat.le_refl, not_true_eq_false, not_false_eq_true, List.getElem?_nil, reduceCtorEq, true_or, or_true, Classical.not_not, implies_true, or_self, wI_0, wI_1, wI_m1, b2i_w, b2i_eq0, b2i_eq1, b2i_bool, MLay_pI, MLay_pL, MLay_qI, MLay_qL, ev_X12_within, xt_X12_within, xf_X12_within]
  refine ⟨fun z => ⟨fun z2 => ?_, fun z2 => ?_⟩, fun z => ?_⟩
  · rw [b2i_f (by omega)] at h; exact h
  · rw [b2i_t (by omega)] at h; exact h
  · rw [b2i_f (by omega)] at h; exact h

def sp_X12_isBox : Sp := fun av σ Q => oR av fun this av => oI av fun b av => av = [] ∧ kd σ this = 13 ∧ (this = 61 ∧ MLay σ ∧ (0 ≤ fI σ 1302 61 ∧ fI σ 1302 61 ≤ 32) ∧ inR b ∧ Q (some (vi (b2i (0 ≤ b ∧ b < fI σ 1302 61)))) σ)
theorem us_X12_isBox (this : Int) (b : Int) (σ : Hp) (Q : Option AV → Hp → Prop) : sp_X12_isBox [vr this, vi b] σ Q = (kd σ this = 13 ∧ (this = 61 ∧ MLay σ ∧ (0 ≤ fI σ 1302 61 ∧ fI σ 1302 61 ≤ 32) ∧ inR b ∧ Q (some (vi (b2i (0 ≤ b ∧ b < fI σ 1302 61)))) σ)) := propext ⟨fun h => h.2, fun h => ⟨rfl, h⟩⟩
theorem el_X12_isBox {av : List AV} {σ : Hp} {Q : Option AV → Hp → Prop} (h : sp_X12_isBox av σ Q) : ∃ (this : Int) (b : Int), av = [vr this, vi b] ∧ (kd σ this = 13 ∧ (this = 61 ∧ MLay σ ∧ (0 ≤ fI σ 1302 61 ∧ fI σ 1302 61 ≤ 32) ∧ inR b ∧ Q (some (vi (b2i (0 ≤ b ∧ b < fI σ 1302 61)))) σ)) := by
  obtain ⟨this, a0, rfl, h0⟩ := oR_s h
  obtain ⟨b, a1, rfl, h1⟩ := oI_s h0
  obtain ⟨rfl, hz⟩ := h1
  exact ⟨this, b, rfl, hz⟩
theorem rc_X12_isBox : ∀ (av : List AV) (σ : Hp) (Q : Option AV → Hp → Prop), sp_X12_isBox av σ Q → ∃ r tl, av = vr r :: tl ∧ kd σ r = 12 + 1 := fun av σ Q h => by
  obtain ⟨this, b, rfl, hz, -⟩ := el_X12_isBox h
  exact ⟨this, _, rfl, hz⟩

def tb_X12_isBox : Tab := [(0, .iload_n 1, 1, (0, 0, 0, 0)), (1, .iconst 0, 1, (0, 0, 0, 0)), (2, .aload_n 0, 1, (0, 0, 0, 0)), (3, .getfield 199, 3, (13, 1302, 0, 0)), (6, .iconst 1, 1, (0, 0, 0, 0)), (7, .isub, 1, (0, 0, 0, 0)), (8, .invokestatic 202, 3, (0, 0, 0, 0)), (11, .ireturn, 1, (0, 0, 0, 0))]
set_option maxRecDepth 100000 in
theorem tk_X12_isBox : TOK RX12 false cX12_isBox tb_X12_isBox := chkT_ok ft_X12 (by decide +kernel)
theorem rw_X12_1617 : Row RX12 (.invokestatic 202) 3 3 0 0 1 sp_X12_within := row_S c_X12_within ⟨TBL_in 1764 (by decide +kernel) rfl, TBL_in 1766 (by decide +kernel) rfl, TBL_in 123 (by decide +kernel) rfl, by decide +kernel, by decide⟩ (TBL_in 1765 (by decide +kernel) rfl)
def mt_X12_isBox : List (Nat × Mt) := [(1617, 3, 0, 0, 1, sp_X12_within)]
theorem em_X12_isBox : mt_X12_isBox.lookup 1617 = some (3, 0, 0, 1, sp_X12_within) := rfl
theorem mk_X12_isBox : MOK RX12 mt_X12_isBox := by
  intro q hq
  simp only [mt_X12_isBox, List.mem_cons, List.not_mem_nil, or_false] at hq
  rcases hq with rfl
  · exact rw_X12_1617
def xe_X12_isBox (ct : Nat → Bool) (K : Kt) (R : Option AV → Hp → Prop) (n : Nat) : Kt := ex 2 2 0 0 2 tb_X12_isBox mt_X12_isBox ct K R n
def xk_X12_isBox (ct : Nat → Bool) (K : Kt) (R : Option AV → Hp → Prop) (n : Nat) : Kt := fun pc ls st σ k => match ct pc with | true => K pc ls st σ k | false => xe_X12_isBox ct K R n pc ls st σ k
theorem xt_X12_isBox {ct : Nat → Bool} {K : Kt} {R : Option AV → Hp → Prop} {n pc : Nat} {ls : List (Option AV)} {st : List AV} {σ : Hp} {k : Nat × Nat} (h : ct pc = true) : xk_X12_isBox ct K R n pc ls st σ k = K pc ls st σ k := by unfold xk_X12_isBox; rw [h]
theorem xf_X12_isBox {ct : Nat → Bool} {K : Kt} {R : Option AV → Hp → Prop} {n pc : Nat} {ls : List (Option AV)} {st : List AV} {σ : Hp} {k : Nat × Nat} (h : ct pc = false) : xk_X12_isBox ct K R n pc ls st σ k = xe_X12_isBox ct K R n pc ls st σ k := by unfold xk_X12_isBox; rw [h]
theorem ev_X12_isBox {ct : Nat → Bool} {K : Kt} {R : Option AV → Hp → Prop} {n : Nat} {ls : List (Option AV)} {st : List AV} {σ : Hp} {k : Nat × Nat} :
  xe_X12_isBox ct K R (n + 1) 0 ls st σ k = (lI ls 1 fun x => xk_X12_isBox ct K R n 1 ls (vi x :: st) σ k) ∧
  xe_X12_isBox ct K R (n + 1) 1 ls st σ k = (xk_X12_isBox ct K R n 2 ls (vi (0) :: st) σ k) ∧
  xe_X12_isBox ct K R (n + 1) 2 ls st σ k = (lR ls 0 fun x => xk_X12_isBox ct K R n 3 ls (vr x :: st) σ k) ∧
  xe_X12_isBox ct K R (n + 1) 3 ls st σ k = (oR st fun x st => kd σ x = 13 ∧ xk_X12_isBox ct K R n 6 ls (vi (fI σ 1302 x) :: st) σ k) ∧
  xe_X12_isBox ct K R (n + 1) 6 ls st σ k = (xk_X12_isBox ct K R n 7 ls (vi (1) :: st) σ k) ∧
  xe_X12_isBox ct K R (n + 1) 7 ls st σ k = (oI st fun y st => oI st fun x st => xk_X12_isBox ct K R n 8 ls (vi (x - y) :: st) σ k) ∧
  xe_X12_isBox ct K R (n + 1) 8 ls st σ k = (popN 3 st [] fun av rest => (catS rest ≤ 8 ∧ 1 < 2 ∧ k.1 + 0 ≤ 0 ∧ k.2 + 0 ≤ 0) ∧ (sp_X12_within) av σ fun v σ' => xk_X12_isBox ct K R n 11 ls (v.toList ++ rest) σ' (k.1 + 0, k.2 + 0)) ∧
  xe_X12_isBox ct K R (n + 1) 11 ls st σ k = (oI st fun x st => st = [] ∧ (x = 0 ∨ x = 1) ∧ R (some (vi x)) σ) :=
  ⟨rfl, rfl, rfl, rfl, rfl, rfl, rfl, rfl⟩
def M_X12_isBox : Md := (yX12_isBox, cX12_isBox, 2, (some FieldType.boolean), 2, 0, 0, 2, false, tb_X12_isBox, mt_X12_isBox)
theorem mm_X12_isBox : MMOK M_X12_isBox := ⟨by decide +kernel, tk_X12_isBox, mk_X12_isBox, rfl, fun h => by cases h⟩
theorem go_X12_isBox {Q : Option AV → Hp → Prop} {ct : Nat → Bool} {pc : Nat} {ls : List (Option AV)} {st : List AV} {σ : Hp} {k : Nat × Nat} (n : Nat) (h : xe_X12_isBox ct (Go M_X12_isBox Q) Q n pc ls st σ k) : Go M_X12_isBox Q pc ls st σ k := Go.ex mm_X12_isBox h

set_option maxRecDepth 20000 in
theorem c_X12_isBox : Ct yX12_isBox cX12_isBox 2 ((some FieldType.boolean)) 2 0 0 sp_X12_isBox := by
  refine Ct.go (M := M_X12_isBox) mm_X12_isBox fun av σ Q h => ?_
  obtain ⟨this, b, rfl, hk, h⟩ := el_X12_isBox h
  refine ⟨Nat.le_of_ble_eq_true rfl, ?_⟩
  show Go M_X12_isBox Q 0 [some (vr this), some (vi b)] [] σ (0, 0)
  obtain ⟨rfl, hL, hb, hr, h⟩ := h
  unfold inR at hr
  refine go_X12_isBox (ct := fun p => false) 20 ?_
  simp only [oI, oL, oR, o1, lI, lL, lR, popN, catS, gv, stL, stL2, swt, cnd, spObj, List.getElem?_cons_zero, List.getElem?_cons_succ, List.getD_cons_zero, List.getD_cons_succ, List.set_cons_zero, List.set_cons_succ, List.nil_append, List.cons_append, Option.toList, Bool.or_false, Bool.false_or, Bool.or_true, Bool.true_or, Nat.reduceBEq, Nat.reduceAdd, Nat.reduceLT, Nat.reduceLeDiff, Int.reduceAdd, Int.reduceToNat, true_and, and_true, Fin.isValue, Fin.val_zero, Fin.val_one, Fin.val_two, Fin.reduceFinMk, eq_self, Int.reduceNeg, imp_self, Nat.reduceMul, Nat.le_refl, not_true_eq_false, not_false_eq_true, List.getElem?_nil, reduceCtorEq, true_or, or_true, Classical.not_not, implies_true, or_self, wI_0, wI_1, wI_m1, b2i_w, b2i_eq0, b2i_eq1, b2i_bool, MLay_pI, MLay_pL, MLay_qI, MLay_qL, ev_X12_isBox, xt_X12_isBox, xf_X12_isBox, us_X12_within, hk, hL]
  simp (disch := omega) only [wI_id]
  have e : (0 ≤ b ∧ b ≤ fI σ 1302 61 - 1) = (0 ≤ b ∧ b < fI σ 1302 61) := propext ⟨fun z => by omega, fun z => by omega⟩
  rw [e]; exact h
