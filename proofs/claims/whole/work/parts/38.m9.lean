/-! the reference: what a line of cards is worth -/

def wA (σ : Hp) (A : Int → Int → Int) : Hp := (nx σ, kd σ, ln σ, fI σ, fL σ, fR σ, A, aL σ, aR σ)
/-- the places that a worth writes to -/
def scrA : List Int := [100, 101, 102, 103, 104, 105, 106, 107, 108]
def Scr (σ σ' : Hp) : Prop := ∃ A, (∀ r, r ∉ scrA → A r = aI σ r) ∧ σ' = wA σ A
theorem Scr.refl (σ : Hp) : Scr σ σ := ⟨aI σ, fun _ _ => rfl, rfl⟩
theorem Scr.q {σ σ' : Hp} (h : Scr σ σ') {r j v : Int} (hr : scrA.contains r = true) : Scr σ (qI σ' r j v) := by
  obtain ⟨A, h1, rfl⟩ := h
  refine ⟨ua A r j v, fun s hs => ?_, rfl⟩
  rw [← h1 s hs]
  funext i
  unfold ua
  rw [if_neg]
  rintro ⟨e, -⟩
  subst e
  exact hs (List.contains_iff_mem.mp hr)
theorem Scr.trans {σ τ ρ : Hp} (h : Scr σ τ) (h2 : Scr τ ρ) : Scr σ ρ := by
  obtain ⟨A, h1, rfl⟩ := h
  obtain ⟨B, h3, rfl⟩ := h2
  exact ⟨B, fun r hr => (h3 r hr).trans (h1 r hr), rfl⟩
theorem Scr.a {σ σ' : Hp} (h : Scr σ σ') {r : Int} (hr : scrA.contains r = false) : aI σ' r = aI σ r := by
  obtain ⟨A, h1, rfl⟩ := h
  exact h1 r fun q => by rw [List.contains_iff_mem.mpr q] at hr; cases hr
theorem Scr.fI {σ σ' : Hp} (h : Scr σ σ') : fI σ' = fI σ := by obtain ⟨A, h1, rfl⟩ := h; rfl
theorem Scr.kd {σ σ' : Hp} (h : Scr σ σ') : kd σ' = kd σ := by obtain ⟨A, h1, rfl⟩ := h; rfl
def mOpens (σ : Hp) (d : Int) : Hp := qI (qI (qI (qI σ 101 d 0) 103 d 0) 104 d 0) 105 d 20
def mSums (σ : Hp) (d : Int) : Hp := qI σ 104 d (if aI σ 105 d = 21 then aI σ 104 d - aI σ 106 d else aI σ 104 d + aI σ 106 d)
def mTV1 (σ : Hp) (d : Int) : Int := if aI σ 103 d = 24 then (if wI (aI σ 102 d) < wI (aI σ 104 d) then 1 else 0) else aI σ 104 d
def mTV2 (σ : Hp) (d v : Int) : Int := if aI σ 103 d = 25 then (if wI (aI σ 102 d) = wI (aI σ 104 d) then 1 else 0) else v
def mTV3 (σ : Hp) (d v : Int) : Int := if aI σ 101 d = 26 then (if wI (aI σ 100 d) = 0 then 0 else if wI v = 0 then 0 else 1) else v
def mTV4 (σ : Hp) (d v : Int) : Int := if aI σ 101 d = 27 then (if wI (aI σ 100 d) = 0 then (if wI v = 0 then 0 else 1) else 1) else v
def mTV (σ : Hp) (d : Int) : Int := mTV4 σ d (mTV3 σ d (mTV2 σ d (mTV1 σ d)))
def mTests (σ : Hp) (d : Int) : Hp := qI (qI (qI (qI (mSums σ d) 100 d (mTV (mSums σ d) d)) 103 d 0) 104 d 0) 105 d 20
theorem MI_mOpens {σ : Hp} (h : MI σ) (d : Int) : MI (mOpens σ d) := MI_sumBy_q (MI_free (MI_against_q (MI_keptBy_q h (by omega)) (by omega)) (by decide)) (by omega)
theorem MI_mSums {σ : Hp} (h : MI σ) (d : Int) : MI (mSums σ d) := MI_free h (by decide)
theorem MI_mTests {σ : Hp} (h : MI σ) (d : Int) : MI (mTests σ d) := MI_sumBy_q (MI_free (MI_against_q (MI_free (MI_mSums h d) (by decide)) (by omega)) (by decide)) (by omega)
theorem Scr_mOpens {σ τ : Hp} (h : Scr σ τ) (d : Int) : Scr σ (mOpens τ d) := (((h.q (by decide)).q (by decide)).q (by decide)).q (by decide)
theorem Scr_mSums {σ τ : Hp} (h : Scr σ τ) (d : Int) : Scr σ (mSums τ d) := h.q (by decide)
theorem Scr_mTests {σ τ : Hp} (h : Scr σ τ) (d : Int) : Scr σ (mTests τ d) := ((((Scr_mSums h d).q (by decide)).q (by decide)).q (by decide)).q (by decide)

def sp_X12_opens : Sp := fun av σ Q => oR av fun this av => oI av fun d av => av = [] ∧ kd σ this = 13 ∧ (this = 61 ∧ MI σ ∧ (0 ≤ d ∧ d < 6) ∧ Q none (mOpens σ d))
theorem us_X12_opens (this : Int) (d : Int) (σ : Hp) (Q : Option AV → Hp → Prop) : sp_X12_opens [vr this, vi d] σ Q = (kd σ this = 13 ∧ (this = 61 ∧ MI σ ∧ (0 ≤ d ∧ d < 6) ∧ Q none (mOpens σ d))) := propext ⟨fun h => h.2, fun h => ⟨rfl, h⟩⟩
theorem el_X12_opens {av : List AV} {σ : Hp} {Q : Option AV → Hp → Prop} (h : sp_X12_opens av σ Q) : ∃ (this : Int) (d : Int), av = [vr this, vi d] ∧ (kd σ this = 13 ∧ (this = 61 ∧ MI σ ∧ (0 ≤ d ∧ d < 6) ∧ Q none (mOpens σ d))) := by
  obtain ⟨this, a0, rfl, h0⟩ := oR_s h
  obtain ⟨d, a1, rfl, h1⟩ := oI_s h0
  obtain ⟨rfl, hz⟩ := h1
  exact ⟨this, d, rfl, hz⟩
theorem rc_X12_opens : ∀ (av : List AV) (σ : Hp) (Q : Option AV → Hp → Prop), sp_X12_opens av σ Q → ∃ r tl, av = vr r :: tl ∧ kd σ r = 12 + 1 := fun av σ Q h => by
  obtain ⟨this, d, rfl, hz, -⟩ := el_X12_opens h
  exact ⟨this, _, rfl, hz⟩

def tb_X12_opens : Tab := [(0, .aload_n 0, 1, (0, 0, 0, 0)), (1, .getfield 129, 3, (13, 1363, 2, 0)), (4, .iload_n 1, 1, (0, 0, 0, 0)), (5, .iconst 0, 1, (0, 0, 0, 0)), (6, .iastore, 1, (0, 0, 0, 0)), (7, .aload_n 0, 1, (0, 0, 0, 0)), (8, .getfield 135, 3, (13, 1365, 2, 0)), (11, .iload_n 1, 1, (0, 0, 0, 0)), (12, .iconst 0, 1, (0, 0, 0, 0)), (13, .iastore, 1, (0, 0, 0, 0)), (14, .aload_n 0, 1, (0, 0, 0, 0)), (15, .getfield 138, 3, (13, 1366, 2, 0)), (18, .iload_n 1, 1, (0, 0, 0, 0)), (19, .iconst 0, 1, (0, 0, 0, 0)), (20, .iastore, 1, (0, 0, 0, 0)), (21, .aload_n 0, 1, (0, 0, 0, 0)), (22, .getfield 141, 3, (13, 1367, 2, 0)), (25, .iload_n 1, 1, (0, 0, 0, 0)), (26, .bipush 20, 2, (0, 0, 0, 0)), (28, .iastore, 1, (0, 0, 0, 0)), (29, .return_, 1, (0, 0, 0, 0))]
set_option maxRecDepth 100000 in
theorem tk_X12_opens : TOK RX12 false cX12_opens tb_X12_opens := chkT_ok ft_X12 (by decide +kernel)
def mt_X12_opens : List (Nat × Mt) := []
theorem mk_X12_opens : MOK RX12 mt_X12_opens := fun q hq => by cases hq
noncomputable def xe_X12_opens (ct : Nat → Bool) (K : Kt) (R : Option AV → Hp → Prop) (n : Nat) : Kt := exS 2 1 0 0 0 tb_X12_opens mt_X12_opens ct K R n
noncomputable def xk_X12_opens (ct : Nat → Bool) (K : Kt) (R : Option AV → Hp → Prop) (n : Nat) : Kt := exkS 2 1 0 0 0 tb_X12_opens mt_X12_opens ct K R n
theorem xt_X12_opens {ct : Nat → Bool} {K : Kt} {R : Option AV → Hp → Prop} {n pc : Nat} {ls : List (Option AV)} {st : List AV} {σ : Hp} {k : Nat × Nat} (h : ct pc = true) : xk_X12_opens ct K R n pc ls st σ k = K pc ls st σ k := by unfold xk_X12_opens exkS; rw [h]
theorem xf_X12_opens {ct : Nat → Bool} {K : Kt} {R : Option AV → Hp → Prop} {n pc : Nat} {ls : List (Option AV)} {st : List AV} {σ : Hp} {k : Nat × Nat} (h : ct pc = false) : xk_X12_opens ct K R n pc ls st σ k = xe_X12_opens ct K R n pc ls st σ k := by unfold xk_X12_opens exkS xe_X12_opens; rw [h]
theorem ev_X12_opens {ct : Nat → Bool} {K : Kt} {R : Option AV → Hp → Prop} {n : Nat} {ls : List (Option AV)} {st : List AV} {σ : Hp} {k : Nat × Nat} :
  xe_X12_opens ct K R (n + 1) 0 ls st σ k = (lR ls 0 fun x => xk_X12_opens ct K R n 1 ls (vr x :: st) σ k) ∧
  xe_X12_opens ct K R (n + 1) 1 ls st σ k = (oR st fun x st => kd σ x = 13 ∧ xk_X12_opens ct K R n 4 ls (vr (fR σ 1363 x) :: st) σ k) ∧
  xe_X12_opens ct K R (n + 1) 4 ls st σ k = (lI ls 1 fun x => xk_X12_opens ct K R n 5 ls (vi x :: st) σ k) ∧
  xe_X12_opens ct K R (n + 1) 5 ls st σ k = (xk_X12_opens ct K R n 6 ls (vi (0) :: st) σ k) ∧
  xe_X12_opens ct K R (n + 1) 6 ls st σ k = (oI st fun v st => oI st fun j st => oR st fun x st => kd σ x = 101 ∧ (0 ≤ j ∧ j < ln σ x) ∧ xk_X12_opens ct K R n 7 ls st (qI σ x j v) k) ∧
  xe_X12_opens ct K R (n + 1) 7 ls st σ k = (lR ls 0 fun x => xk_X12_opens ct K R n 8 ls (vr x :: st) σ k) ∧
  xe_X12_opens ct K R (n + 1) 8 ls st σ k = (oR st fun x st => kd σ x = 13 ∧ xk_X12_opens ct K R n 11 ls (vr (fR σ 1365 x) :: st) σ k) ∧
  xe_X12_opens ct K R (n + 1) 11 ls st σ k = (lI ls 1 fun x => xk_X12_opens ct K R n 12 ls (vi x :: st) σ k) ∧
  xe_X12_opens ct K R (n + 1) 12 ls st σ k = (xk_X12_opens ct K R n 13 ls (vi (0) :: st) σ k) ∧
  xe_X12_opens ct K R (n + 1) 13 ls st σ k = (oI st fun v st => oI st fun j st => oR st fun x st => kd σ x = 101 ∧ (0 ≤ j ∧ j < ln σ x) ∧ xk_X12_opens ct K R n 14 ls st (qI σ x j v) k) ∧
  xe_X12_opens ct K R (n + 1) 14 ls st σ k = (lR ls 0 fun x => xk_X12_opens ct K R n 15 ls (vr x :: st) σ k) ∧
  xe_X12_opens ct K R (n + 1) 15 ls st σ k = (oR st fun x st => kd σ x = 13 ∧ xk_X12_opens ct K R n 18 ls (vr (fR σ 1366 x) :: st) σ k) ∧
  xe_X12_opens ct K R (n + 1) 18 ls st σ k = (lI ls 1 fun x => xk_X12_opens ct K R n 19 ls (vi x :: st) σ k) ∧
  xe_X12_opens ct K R (n + 1) 19 ls st σ k = (xk_X12_opens ct K R n 20 ls (vi (0) :: st) σ k) ∧
  xe_X12_opens ct K R (n + 1) 20 ls st σ k = (oI st fun v st => oI st fun j st => oR st fun x st => kd σ x = 101 ∧ (0 ≤ j ∧ j < ln σ x) ∧ xk_X12_opens ct K R n 21 ls st (qI σ x j v) k) ∧
  xe_X12_opens ct K R (n + 1) 21 ls st σ k = (lR ls 0 fun x => xk_X12_opens ct K R n 22 ls (vr x :: st) σ k) ∧
  xe_X12_opens ct K R (n + 1) 22 ls st σ k = (oR st fun x st => kd σ x = 13 ∧ xk_X12_opens ct K R n 25 ls (vr (fR σ 1367 x) :: st) σ k) ∧
  xe_X12_opens ct K R (n + 1) 25 ls st σ k = (lI ls 1 fun x => xk_X12_opens ct K R n 26 ls (vi x :: st) σ k) ∧
  xe_X12_opens ct K R (n + 1) 26 ls st σ k = (xk_X12_opens ct K R n 28 ls (vi (20) :: st) σ k) ∧
  xe_X12_opens ct K R (n + 1) 28 ls st σ k = (oI st fun v st => oI st fun j st => oR st fun x st => kd σ x = 101 ∧ (0 ≤ j ∧ j < ln σ x) ∧ xk_X12_opens ct K R n 29 ls st (qI σ x j v) k) ∧
  xe_X12_opens ct K R (n + 1) 29 ls st σ k = (st = [] ∧ 0 = 0 ∧ R none σ) :=
  ⟨exS_step.trans rfl, exS_step.trans rfl, exS_step.trans rfl, exS_step.trans rfl, exS_step.trans rfl, exS_step.trans rfl, exS_step.trans rfl, exS_step.trans rfl, exS_step.trans rfl, exS_step.trans rfl, exS_step.trans rfl, exS_step.trans rfl, exS_step.trans rfl, exS_step.trans rfl, exS_step.trans rfl, exS_step.trans rfl, exS_step.trans rfl, exS_step.trans rfl, exS_step.trans rfl, exS_step.trans rfl, exS_step.trans rfl⟩
def M_X12_opens : Md := (yX12_opens, cX12_opens, 2, (none : Option FieldType), 1, 0, 0, 0, false, tb_X12_opens, mt_X12_opens)
theorem mm_X12_opens : MMOK M_X12_opens := ⟨by decide +kernel, tk_X12_opens, mk_X12_opens, rfl, fun h => by cases h⟩
theorem go_X12_opens {Q : Option AV → Hp → Prop} {ct : Nat → Bool} {pc : Nat} {ls : List (Option AV)} {st : List AV} {σ : Hp} {k : Nat × Nat} (n : Nat) (h : xe_X12_opens ct (Go M_X12_opens Q) Q n pc ls st σ k) : Go M_X12_opens Q pc ls st σ k := Go.exS mm_X12_opens h

set_option maxRecDepth 20000 in
theorem c_X12_opens : Ct yX12_opens cX12_opens 2 ((none : Option FieldType)) 1 0 0 sp_X12_opens := by
  refine Ct.go (M := M_X12_opens) mm_X12_opens fun av σ Q h0 => ?_
  obtain ⟨this, d, rfl, hk, h⟩ := el_X12_opens h0
  clear h0
  refine ⟨Nat.le_of_ble_eq_true rfl, ?_⟩
  show Go M_X12_opens Q 0 [some (vr this), some (vi d)] [] σ (0, 0)
  obtain ⟨rfl, hI, hd, h⟩ := h
  unfold mOpens at h
  refine go_X12_opens (ct := fun p => false) 40 ?_
  simp only [oI, oL, oR, o1, lI, lL, lR, popN, catS, gv, stL, stL2, swt, cnd, spObj, List.getElem?_cons_zero, List.getElem?_cons_succ, List.getD_cons_zero, List.getD_cons_succ, List.set_cons_zero, List.set_cons_succ, List.nil_append, List.cons_append, Option.toList, Bool.or_false, Bool.false_or, Bool.or_true, Bool.true_or, Nat.reduceBEq, Nat.reduceAdd, Nat.reduceLT, Nat.reduceLeDiff, Int.reduceAdd, Int.reduceToNat, true_and, and_true, Fin.isValue, Fin.val_zero, Fin.val_one, Fin.val_two, Fin.reduceFinMk, eq_self, Int.reduceNeg, imp_self, Nat.reduceMul, Nat.le_refl, not_true_eq_false, not_false_eq_true, List.getElem?_nil, reduceCtorEq, true_or, or_true, Classical.not_not, implies_true, or_self, wI_0, wI_1, wI_m1, b2i_w, b2i_eq0, b2i_eq1, b2i_bool, nor_self, nx_pI, kd_pI, ln_pI, fI_pI, fL_pI, fR_pI, aI_pI, aL_pI, aR_pI, nx_pL, kd_pL, ln_pL, fI_pL, fL_pL, fR_pL, aI_pL, aL_pL, aR_pL, nx_pR, kd_pR, ln_pR, fI_pR, fL_pR, fR_pR, aI_pR, aL_pR, aR_pR, nx_qI, kd_qI, ln_qI, fI_qI, fL_qI, fR_qI, aI_qI, aL_qI, aR_qI, nx_qL, kd_qL, ln_qL, fI_qL, fL_qL, fR_qL, aI_qL, aL_qL, aR_qL, nx_qR, kd_qR, ln_qR, fI_qR, fL_qR, fR_qR, aI_qR, aL_qR, aR_qR, nx_mk, kd_mk, ln_mk, fI_mk, fL_mk, fR_mk, aI_mk, aL_mk, aR_mk, false_and, and_false, if_false, if_true, and_self, Int.reduceEq, Nat.reduceEqDiff, ite_self, MLay_pI, MLay_pL, MLay_qI, MLay_qL, ev_X12_opens, xt_X12_opens, xf_X12_opens, hk, hI.lay.eqs]
  try simp (disch := omega) only [wI_id, dv_nn, rm_nn]
  repeat' (first | intro z | apply And.intro)
  all_goals try omega

def sp_X12_sums : Sp := fun av σ Q => oR av fun this av => oI av fun d av => av = [] ∧ kd σ this = 13 ∧ (this = 61 ∧ MI σ ∧ (0 ≤ d ∧ d < 6) ∧ Q none (mSums σ d))
theorem us_X12_sums (this : Int) (d : Int) (σ : Hp) (Q : Option AV → Hp → Prop) : sp_X12_sums [vr this, vi d] σ Q = (kd σ this = 13 ∧ (this = 61 ∧ MI σ ∧ (0 ≤ d ∧ d < 6) ∧ Q none (mSums σ d))) := propext ⟨fun h => h.2, fun h => ⟨rfl, h⟩⟩
theorem el_X12_sums {av : List AV} {σ : Hp} {Q : Option AV → Hp → Prop} (h : sp_X12_sums av σ Q) : ∃ (this : Int) (d : Int), av = [vr this, vi d] ∧ (kd σ this = 13 ∧ (this = 61 ∧ MI σ ∧ (0 ≤ d ∧ d < 6) ∧ Q none (mSums σ d))) := by
  obtain ⟨this, a0, rfl, h0⟩ := oR_s h
  obtain ⟨d, a1, rfl, h1⟩ := oI_s h0
  obtain ⟨rfl, hz⟩ := h1
  exact ⟨this, d, rfl, hz⟩
theorem rc_X12_sums : ∀ (av : List AV) (σ : Hp) (Q : Option AV → Hp → Prop), sp_X12_sums av σ Q → ∃ r tl, av = vr r :: tl ∧ kd σ r = 12 + 1 := fun av σ Q h => by
  obtain ⟨this, d, rfl, hz, -⟩ := el_X12_sums h
  exact ⟨this, _, rfl, hz⟩

def tb_X12_sums : Tab := [(0, .aload_n 0, 1, (0, 0, 0, 0)), (1, .getfield 138, 3, (13, 1366, 2, 0)), (4, .iload_n 1, 1, (0, 0, 0, 0)), (5, .aload_n 0, 1, (0, 0, 0, 0)), (6, .getfield 141, 3, (13, 1367, 2, 0)), (9, .iload_n 1, 1, (0, 0, 0, 0)), (10, .iaload, 1, (0, 0, 0, 0)), (11, .bipush 21, 2, (0, 0, 0, 0)), (13, .if_icmp .ne 19, 3, (0, 0, 0, 0)), (16, .aload_n 0, 1, (0, 0, 0, 0)), (17, .getfield 138, 3, (13, 1366, 2, 0)), (20, .iload_n 1, 1, (0, 0, 0, 0)), (21, .iaload, 1, (0, 0, 0, 0)), (22, .aload_n 0, 1, (0, 0, 0, 0)), (23, .getfield 144, 3, (13, 1368, 2, 0)), (26, .iload_n 1, 1, (0, 0, 0, 0)), (27, .iaload, 1, (0, 0, 0, 0)), (28, .isub, 1, (0, 0, 0, 0)), (29, .goto 16, 3, (0, 0, 0, 0)), (32, .aload_n 0, 1, (0, 0, 0, 0)), (33, .getfield 138, 3, (13, 1366, 2, 0)), (36, .iload_n 1, 1, (0, 0, 0, 0)), (37, .iaload, 1, (0, 0, 0, 0)), (38, .aload_n 0, 1, (0, 0, 0, 0)), (39, .getfield 144, 3, (13, 1368, 2, 0)), (42, .iload_n 1, 1, (0, 0, 0, 0)), (43, .iaload, 1, (0, 0, 0, 0)), (44, .iadd, 1, (0, 0, 0, 0)), (45, .iastore, 1, (0, 0, 0, 0)), (46, .return_, 1, (0, 0, 0, 0))]
set_option maxRecDepth 100000 in
theorem tk_X12_sums : TOK RX12 false cX12_sums tb_X12_sums := chkT_ok ft_X12 (by decide +kernel)
def mt_X12_sums : List (Nat × Mt) := []
theorem mk_X12_sums : MOK RX12 mt_X12_sums := fun q hq => by cases hq
noncomputable def xe_X12_sums (ct : Nat → Bool) (K : Kt) (R : Option AV → Hp → Prop) (n : Nat) : Kt := exS 2 1 0 0 0 tb_X12_sums mt_X12_sums ct K R n
noncomputable def xk_X12_sums (ct : Nat → Bool) (K : Kt) (R : Option AV → Hp → Prop) (n : Nat) : Kt := exkS 2 1 0 0 0 tb_X12_sums mt_X12_sums ct K R n
theorem xt_X12_sums {ct : Nat → Bool} {K : Kt} {R : Option AV → Hp → Prop} {n pc : Nat} {ls : List (Option AV)} {st : List AV} {σ : Hp} {k : Nat × Nat} (h : ct pc = true) : xk_X12_sums ct K R n pc ls st σ k = K pc ls st σ k := by unfold xk_X12_sums exkS; rw [h]
theorem xf_X12_sums {ct : Nat → Bool} {K : Kt} {R : Option AV → Hp → Prop} {n pc : Nat} {ls : List (Option AV)} {st : List AV} {σ : Hp} {k : Nat × Nat} (h : ct pc = false) : xk_X12_sums ct K R n pc ls st σ k = xe_X12_sums ct K R n pc ls st σ k := by unfold xk_X12_sums exkS xe_X12_sums; rw [h]
theorem ev_X12_sums {ct : Nat → Bool} {K : Kt} {R : Option AV → Hp → Prop} {n : Nat} {ls : List (Option AV)} {st : List AV} {σ : Hp} {k : Nat × Nat} :
  xe_X12_sums ct K R (n + 1) 0 ls st σ k = (lR ls 0 fun x => xk_X12_sums ct K R n 1 ls (vr x :: st) σ k) ∧
  xe_X12_sums ct K R (n + 1) 1 ls st σ k = (oR st fun x st => kd σ x = 13 ∧ xk_X12_sums ct K R n 4 ls (vr (fR σ 1366 x) :: st) σ k) ∧
  xe_X12_sums ct K R (n + 1) 4 ls st σ k = (lI ls 1 fun x => xk_X12_sums ct K R n 5 ls (vi x :: st) σ k) ∧
  xe_X12_sums ct K R (n + 1) 5 ls st σ k = (lR ls 0 fun x => xk_X12_sums ct K R n 6 ls (vr x :: st) σ k) ∧
  xe_X12_sums ct K R (n + 1) 6 ls st σ k = (oR st fun x st => kd σ x = 13 ∧ xk_X12_sums ct K R n 9 ls (vr (fR σ 1367 x) :: st) σ k) ∧
  xe_X12_sums ct K R (n + 1) 9 ls st σ k = (lI ls 1 fun x => xk_X12_sums ct K R n 10 ls (vi x :: st) σ k) ∧
  xe_X12_sums ct K R (n + 1) 10 ls st σ k = (oI st fun j st => oR st fun x st => (kd σ x = 101 ∨ kd σ x = 108) ∧ (0 ≤ j ∧ j < ln σ x) ∧ xk_X12_sums ct K R n 11 ls (vi (aI σ x j) :: st) σ k) ∧
  xe_X12_sums ct K R (n + 1) 11 ls st σ k = (xk_X12_sums ct K R n 13 ls (vi (21) :: st) σ k) ∧
  xe_X12_sums ct K R (n + 1) 13 ls st σ k = (oI st fun y st => oI st fun x st => (¬ wI x = wI y → xk_X12_sums ct K R n 32 ls st σ k) ∧ (¬ (¬ wI x = wI y) → xk_X12_sums ct K R n 16 ls st σ k)) ∧
  xe_X12_sums ct K R (n + 1) 16 ls st σ k = (lR ls 0 fun x => xk_X12_sums ct K R n 17 ls (vr x :: st) σ k) ∧
  xe_X12_sums ct K R (n + 1) 17 ls st σ k = (oR st fun x st => kd σ x = 13 ∧ xk_X12_sums ct K R n 20 ls (vr (fR σ 1366 x) :: st) σ k) ∧
  xe_X12_sums ct K R (n + 1) 20 ls st σ k = (lI ls 1 fun x => xk_X12_sums ct K R n 21 ls (vi x :: st) σ k) ∧
  xe_X12_sums ct K R (n + 1) 21 ls st σ k = (oI st fun j st => oR st fun x st => (kd σ x = 101 ∨ kd σ x = 108) ∧ (0 ≤ j ∧ j < ln σ x) ∧ xk_X12_sums ct K R n 22 ls (vi (aI σ x j) :: st) σ k) ∧
  xe_X12_sums ct K R (n + 1) 22 ls st σ k = (lR ls 0 fun x => xk_X12_sums ct K R n 23 ls (vr x :: st) σ k) ∧
  xe_X12_sums ct K R (n + 1) 23 ls st σ k = (oR st fun x st => kd σ x = 13 ∧ xk_X12_sums ct K R n 26 ls (vr (fR σ 1368 x) :: st) σ k) ∧
  xe_X12_sums ct K R (n + 1) 26 ls st σ k = (lI ls 1 fun x => xk_X12_sums ct K R n 27 ls (vi x :: st) σ k) ∧
  xe_X12_sums ct K R (n + 1) 27 ls st σ k = (oI st fun j st => oR st fun x st => (kd σ x = 101 ∨ kd σ x = 108) ∧ (0 ≤ j ∧ j < ln σ x) ∧ xk_X12_sums ct K R n 28 ls (vi (aI σ x j) :: st) σ k) ∧
  xe_X12_sums ct K R (n + 1) 28 ls st σ k = (oI st fun y st => oI st fun x st => xk_X12_sums ct K R n 29 ls (vi (x - y) :: st) σ k) ∧
  xe_X12_sums ct K R (n + 1) 29 ls st σ k = (xk_X12_sums ct K R n 45 ls st σ k) ∧
  xe_X12_sums ct K R (n + 1) 32 ls st σ k = (lR ls 0 fun x => xk_X12_sums ct K R n 33 ls (vr x :: st) σ k) ∧
  xe_X12_sums ct K R (n + 1) 33 ls st σ k = (oR st fun x st => kd σ x = 13 ∧ xk_X12_sums ct K R n 36 ls (vr (fR σ 1366 x) :: st) σ k) ∧
  xe_X12_sums ct K R (n + 1) 36 ls st σ k = (lI ls 1 fun x => xk_X12_sums ct K R n 37 ls (vi x :: st) σ k) ∧
  xe_X12_sums ct K R (n + 1) 37 ls st σ k = (oI st fun j st => oR st fun x st => (kd σ x = 101 ∨ kd σ x = 108) ∧ (0 ≤ j ∧ j < ln σ x) ∧ xk_X12_sums ct K R n 38 ls (vi (aI σ x j) :: st) σ k) ∧
  xe_X12_sums ct K R (n + 1) 38 ls st σ k = (lR ls 0 fun x => xk_X12_sums ct K R n 39 ls (vr x :: st) σ k) ∧
  xe_X12_sums ct K R (n + 1) 39 ls st σ k = (oR st fun x st => kd σ x = 13 ∧ xk_X12_sums ct K R n 42 ls (vr (fR σ 1368 x) :: st) σ k) ∧
  xe_X12_sums ct K R (n + 1) 42 ls st σ k = (lI ls 1 fun x => xk_X12_sums ct K R n 43 ls (vi x :: st) σ k) ∧
  xe_X12_sums ct K R (n + 1) 43 ls st σ k = (oI st fun j st => oR st fun x st => (kd σ x = 101 ∨ kd σ x = 108) ∧ (0 ≤ j ∧ j < ln σ x) ∧ xk_X12_sums ct K R n 44 ls (vi (aI σ x j) :: st) σ k) ∧
  xe_X12_sums ct K R (n + 1) 44 ls st σ k = (oI st fun y st => oI st fun x st => xk_X12_sums ct K R n 45 ls (vi (x + y) :: st) σ k) ∧
  xe_X12_sums ct K R (n + 1) 45 ls st σ k = (oI st fun v st => oI st fun j st => oR st fun x st => kd σ x = 101 ∧ (0 ≤ j ∧ j < ln σ x) ∧ xk_X12_sums ct K R n 46 ls st (qI σ x j v) k) ∧
  xe_X12_sums ct K R (n + 1) 46 ls st σ k = (st = [] ∧ 0 = 0 ∧ R none σ) :=
  ⟨exS_step.trans rfl, exS_step.trans rfl, exS_step.trans rfl, exS_step.trans rfl, exS_step.trans rfl, exS_step.trans rfl, exS_step.trans rfl, exS_step.trans rfl, exS_step.trans rfl, exS_step.trans rfl, exS_step.trans rfl, exS_step.trans rfl, exS_step.trans rfl, exS_step.trans rfl, exS_step.trans rfl, exS_step.trans rfl, exS_step.trans rfl, exS_step.trans rfl, exS_step.trans rfl, exS_step.trans rfl, exS_step.trans rfl, exS_step.trans rfl, exS_step.trans rfl, exS_step.trans rfl, exS_step.trans rfl, exS_step.trans rfl, exS_step.trans rfl, exS_step.trans rfl, exS_step.trans rfl, exS_step.trans rfl⟩
def M_X12_sums : Md := (yX12_sums, cX12_sums, 2, (none : Option FieldType), 1, 0, 0, 0, false, tb_X12_sums, mt_X12_sums)
theorem mm_X12_sums : MMOK M_X12_sums := ⟨by decide +kernel, tk_X12_sums, mk_X12_sums, rfl, fun h => by cases h⟩
theorem go_X12_sums {Q : Option AV → Hp → Prop} {ct : Nat → Bool} {pc : Nat} {ls : List (Option AV)} {st : List AV} {σ : Hp} {k : Nat × Nat} (n : Nat) (h : xe_X12_sums ct (Go M_X12_sums Q) Q n pc ls st σ k) : Go M_X12_sums Q pc ls st σ k := Go.exS mm_X12_sums h

set_option maxRecDepth 20000 in
theorem c_X12_sums : Ct yX12_sums cX12_sums 2 ((none : Option FieldType)) 1 0 0 sp_X12_sums := by
  refine Ct.go (M := M_X12_sums) mm_X12_sums fun av σ Q h0 => ?_
  obtain ⟨this, d, rfl, hk, h⟩ := el_X12_sums h0
  clear h0
  refine ⟨Nat.le_of_ble_eq_true rfl, ?_⟩
  show Go M_X12_sums Q 0 [some (vr this), some (vi d)] [] σ (0, 0)
  obtain ⟨rfl, hI, hd, h⟩ := h
  have h1 := hI.sumBy_ d
  unfold mSums at h
  refine go_X12_sums (ct := fun p => false) 40 ?_
  simp only [oI, oL, oR, o1, lI, lL, lR, popN, catS, gv, stL, stL2, swt, cnd, spObj, List.getElem?_cons_zero, List.getElem?_cons_succ, List.getD_cons_zero, List.getD_cons_succ, List.set_cons_zero, List.set_cons_succ, List.nil_append, List.cons_append, Option.toList, Bool.or_false, Bool.false_or, Bool.or_true, Bool.true_or, Nat.reduceBEq, Nat.reduceAdd, Nat.reduceLT, Nat.reduceLeDiff, Int.reduceAdd, Int.reduceToNat, true_and, and_true, Fin.isValue, Fin.val_zero, Fin.val_one, Fin.val_two, Fin.reduceFinMk, eq_self, Int.reduceNeg, imp_self, Nat.reduceMul, Nat.le_refl, not_true_eq_false, not_false_eq_true, List.getElem?_nil, reduceCtorEq, true_or, or_true, Classical.not_not, implies_true, or_self, wI_0, wI_1, wI_m1, b2i_w, b2i_eq0, b2i_eq1, b2i_bool, nor_self, nx_pI, kd_pI, ln_pI, fI_pI, fL_pI, fR_pI, aI_pI, aL_pI, aR_pI, nx_pL, kd_pL, ln_pL, fI_pL, fL_pL, fR_pL, aI_pL, aL_pL, aR_pL, nx_pR, kd_pR, ln_pR, fI_pR, fL_pR, fR_pR, aI_pR, aL_pR, aR_pR, nx_qI, kd_qI, ln_qI, fI_qI, fL_qI, fR_qI, aI_qI, aL_qI, aR_qI, nx_qL, kd_qL, ln_qL, fI_qL, fL_qL, fR_qL, aI_qL, aL_qL, aR_qL, nx_qR, kd_qR, ln_qR, fI_qR, fL_qR, fR_qR, aI_qR, aL_qR, aR_qR, nx_mk, kd_mk, ln_mk, fI_mk, fL_mk, fR_mk, aI_mk, aL_mk, aR_mk, false_and, and_false, if_false, if_true, and_self, Int.reduceEq, Nat.reduceEqDiff, ite_self, MLay_pI, MLay_pL, MLay_qI, MLay_qL, ev_X12_sums, xt_X12_sums, xf_X12_sums, hk, hI.lay.eqs]
  try simp (disch := omega) only [wI_id, dv_nn, rm_nn]
  repeat' (first | intro z | apply And.intro)
  all_goals try omega
  all_goals grind

def sp_X12_tests : Sp := fun av σ Q => oR av fun this av => oI av fun d av => av = [] ∧ kd σ this = 13 ∧ (this = 61 ∧ MI σ ∧ (0 ≤ d ∧ d < 6) ∧ Q none (mTests σ d))
theorem us_X12_tests (this : Int) (d : Int) (σ : Hp) (Q : Option AV → Hp → Prop) : sp_X12_tests [vr this, vi d] σ Q = (kd σ this = 13 ∧ (this = 61 ∧ MI σ ∧ (0 ≤ d ∧ d < 6) ∧ Q none (mTests σ d))) := propext ⟨fun h => h.2, fun h => ⟨rfl, h⟩⟩
theorem el_X12_tests {av : List AV} {σ : Hp} {Q : Option AV → Hp → Prop} (h : sp_X12_tests av σ Q) : ∃ (this : Int) (d : Int), av = [vr this, vi d] ∧ (kd σ this = 13 ∧ (this = 61 ∧ MI σ ∧ (0 ≤ d ∧ d < 6) ∧ Q none (mTests σ d))) := by
  obtain ⟨this, a0, rfl, h0⟩ := oR_s h
  obtain ⟨d, a1, rfl, h1⟩ := oI_s h0
  obtain ⟨rfl, hz⟩ := h1
  exact ⟨this, d, rfl, hz⟩
theorem rc_X12_tests : ∀ (av : List AV) (σ : Hp) (Q : Option AV → Hp → Prop), sp_X12_tests av σ Q → ∃ r tl, av = vr r :: tl ∧ kd σ r = 12 + 1 := fun av σ Q h => by
  obtain ⟨this, d, rfl, hz, -⟩ := el_X12_tests h
  exact ⟨this, _, rfl, hz⟩

def tb_X12_tests : Tab := [(0, .aload_n 0, 1, (0, 0, 0, 0)), (1, .iload_n 1, 1, (0, 0, 0, 0)), (2, .invokevirtual 396, 3, (0, 0, 0, 0)), (5, .aload_n 0, 1, (0, 0, 0, 0)), (6, .getfield 138, 3, (13, 1366, 2, 0)), (9, .iload_n 1, 1, (0, 0, 0, 0)), (10, .iaload, 1, (0, 0, 0, 0)), (11, .istore_n 2, 1, (0, 0, 0, 0)), (12, .aload_n 0, 1, (0, 0, 0, 0)), (13, .getfield 135, 3, (13, 1365, 2, 0)), (16, .iload_n 1, 1, (0, 0, 0, 0)), (17, .iaload, 1, (0, 0, 0, 0)), (18, .bipush 24, 2, (0, 0, 0, 0)), (20, .if_icmp .ne 24, 3, (0, 0, 0, 0)), (23, .aload_n 0, 1, (0, 0, 0, 0)), (24, .getfield 132, 3, (13, 1364, 2, 0)), (27, .iload_n 1, 1, (0, 0, 0, 0)), (28, .iaload, 1, (0, 0, 0, 0)), (29, .aload_n 0, 1, (0, 0, 0, 0)), (30, .getfield 138, 3, (13, 1366, 2, 0)), (33, .iload_n 1, 1, (0, 0, 0, 0)), (34, .iaload, 1, (0, 0, 0, 0)), (35, .if_icmp .ge 7, 3, (0, 0, 0, 0)), (38, .iconst 1, 1, (0, 0, 0, 0)), (39, .goto 4, 3, (0, 0, 0, 0)), (42, .iconst 0, 1, (0, 0, 0, 0)), (43, .istore_n 2, 1, (0, 0, 0, 0)), (44, .aload_n 0, 1, (0, 0, 0, 0)), (45, .getfield 135, 3, (13, 1365, 2, 0)), (48, .iload_n 1, 1, (0, 0, 0, 0)), (49, .iaload, 1, (0, 0, 0, 0)), (50, .bipush 25, 2, (0, 0, 0, 0)), (52, .if_icmp .ne 24, 3, (0, 0, 0, 0)), (55, .aload_n 0, 1, (0, 0, 0, 0)), (56, .getfield 132, 3, (13, 1364, 2, 0)), (59, .iload_n 1, 1, (0, 0, 0, 0)), (60, .iaload, 1, (0, 0, 0, 0)), (61, .aload_n 0, 1, (0, 0, 0, 0)), (62, .getfield 138, 3, (13, 1366, 2, 0)), (65, .iload_n 1, 1, (0, 0, 0, 0)), (66, .iaload, 1, (0, 0, 0, 0)), (67, .if_icmp .ne 7, 3, (0, 0, 0, 0)), (70, .iconst 1, 1, (0, 0, 0, 0)), (71, .goto 4, 3, (0, 0, 0, 0)), (74, .iconst 0, 1, (0, 0, 0, 0)), (75, .istore_n 2, 1, (0, 0, 0, 0)), (76, .aload_n 0, 1, (0, 0, 0, 0)), (77, .getfield 129, 3, (13, 1363, 2, 0)), (80, .iload_n 1, 1, (0, 0, 0, 0)), (81, .iaload, 1, (0, 0, 0, 0)), (82, .bipush 26, 2, (0, 0, 0, 0)), (84, .if_icmp .ne 22, 3, (0, 0, 0, 0)), (87, .aload_n 0, 1, (0, 0, 0, 0)), (88, .getfield 126, 3, (13, 1362, 2, 0)), (91, .iload_n 1, 1, (0, 0, 0, 0)), (92, .iaload, 1, (0, 0, 0, 0)), (93, .ifCond .eq 11, 3, (0, 0, 0, 0)), (96, .iload_n 2, 1, (0, 0, 0, 0)), (97, .ifCond .eq 7, 3, (0, 0, 0, 0)), (100, .iconst 1, 1, (0, 0, 0, 0)), (101, .goto 4, 3, (0, 0, 0, 0)), (104, .iconst 0, 1, (0, 0, 0, 0)), (105, .istore_n 2, 1, (0, 0, 0, 0)), (106, .aload_n 0, 1, (0, 0, 0, 0)), (107, .getfield 129, 3, (13, 1363, 2, 0)), (110, .iload_n 1, 1, (0, 0, 0, 0)), (111, .iaload, 1, (0, 0, 0, 0)), (112, .bipush 27, 2, (0, 0, 0, 0)), (114, .if_icmp .ne 22, 3, (0, 0, 0, 0)), (117, .aload_n 0, 1, (0, 0, 0, 0)), (118, .getfield 126, 3, (13, 1362, 2, 0)), (121, .iload_n 1, 1, (0, 0, 0, 0)), (122, .iaload, 1, (0, 0, 0, 0)), (123, .ifCond .ne 7, 3, (0, 0, 0, 0)), (126, .iload_n 2, 1, (0, 0, 0, 0)), (127, .ifCond .eq 7, 3, (0, 0, 0, 0)), (130, .iconst 1, 1, (0, 0, 0, 0)), (131, .goto 4, 3, (0, 0, 0, 0)), (134, .iconst 0, 1, (0, 0, 0, 0)), (135, .istore_n 2, 1, (0, 0, 0, 0)), (136, .aload_n 0, 1, (0, 0, 0, 0)), (137, .getfield 126, 3, (13, 1362, 2, 0)), (140, .iload_n 1, 1, (0, 0, 0, 0)), (141, .iload_n 2, 1, (0, 0, 0, 0)), (142, .iastore, 1, (0, 0, 0, 0)), (143, .aload_n 0, 1, (0, 0, 0, 0)), (144, .getfield 135, 3, (13, 1365, 2, 0)), (147, .iload_n 1, 1, (0, 0, 0, 0)), (148, .iconst 0, 1, (0, 0, 0, 0)), (149, .iastore, 1, (0, 0, 0, 0)), (150, .aload_n 0, 1, (0, 0, 0, 0)), (151, .getfield 138, 3, (13, 1366, 2, 0)), (154, .iload_n 1, 1, (0, 0, 0, 0)), (155, .iconst 0, 1, (0, 0, 0, 0)), (156, .iastore, 1, (0, 0, 0, 0)), (157, .aload_n 0, 1, (0, 0, 0, 0)), (158, .getfield 141, 3, (13, 1367, 2, 0)), (161, .iload_n 1, 1, (0, 0, 0, 0)), (162, .bipush 20, 2, (0, 0, 0, 0)), (164, .iastore, 1, (0, 0, 0, 0)), (165, .return_, 1, (0, 0, 0, 0))]
set_option maxRecDepth 100000 in
theorem tk_X12_tests : TOK RX12 false cX12_tests tb_X12_tests := chkT_ok ft_X12 (by decide +kernel)
theorem rw_X12_3168 : Row RX12 (.invokevirtual 396) 3 2 0 0 1 sp_X12_sums := row_V (n := 1) (ci := 12) c_X12_sums ⟨TBL_in 1978 (by decide +kernel) rfl, TBL_in 1981 (by decide +kernel) rfl, TBL_in 123 (by decide +kernel) rfl, by decide +kernel, by decide⟩ (by decide) rfl (TBL_in 1980 (by decide +kernel) rfl) (TBL_in 94 (by decide +kernel) rfl) rc_X12_sums
def mt_X12_tests : List (Nat × Mt) := [(3168, 2, 0, 0, 1, sp_X12_sums)]
theorem em_X12_tests : mt_X12_tests.lookup 3168 = some (2, 0, 0, 1, sp_X12_sums) := rfl
theorem mk_X12_tests : MOK RX12 mt_X12_tests := by
  intro q hq
  simp only [mt_X12_tests, List.mem_cons, List.not_mem_nil, or_false] at hq
  rcases hq with rfl
  · exact rw_X12_3168
noncomputable def xe_X12_tests (ct : Nat → Bool) (K : Kt) (R : Option AV → Hp → Prop) (n : Nat) : Kt := exS 3 2 0 0 0 tb_X12_tests mt_X12_tests ct K R n
noncomputable def xk_X12_tests (ct : Nat → Bool) (K : Kt) (R : Option AV → Hp → Prop) (n : Nat) : Kt := exkS 3 2 0 0 0 tb_X12_tests mt_X12_tests ct K R n
theorem xt_X12_tests {ct : Nat → Bool} {K : Kt} {R : Option AV → Hp → Prop} {n pc : Nat} {ls : List (Option AV)} {st : List AV} {σ : Hp} {k : Nat × Nat} (h : ct pc = true) : xk_X12_tests ct K R n pc ls st σ k = K pc ls st σ k := by unfold xk_X12_tests exkS; rw [h]
theorem xf_X12_tests {ct : Nat → Bool} {K : Kt} {R : Option AV → Hp → Prop} {n pc : Nat} {ls : List (Option AV)} {st : List AV} {σ : Hp} {k : Nat × Nat} (h : ct pc = false) : xk_X12_tests ct K R n pc ls st σ k = xe_X12_tests ct K R n pc ls st σ k := by unfold xk_X12_tests exkS xe_X12_tests; rw [h]
theorem ev_X12_tests {ct : Nat → Bool} {K : Kt} {R : Option AV → Hp → Prop} {n : Nat} {ls : List (Option AV)} {st : List AV} {σ : Hp} {k : Nat × Nat} :
  xe_X12_tests ct K R (n + 1) 0 ls st σ k = (lR ls 0 fun x => xk_X12_tests ct K R n 1 ls (vr x :: st) σ k) ∧
  xe_X12_tests ct K R (n + 1) 1 ls st σ k = (lI ls 1 fun x => xk_X12_tests ct K R n 2 ls (vi x :: st) σ k) ∧
  xe_X12_tests ct K R (n + 1) 2 ls st σ k = (popN 2 st [] fun av rest => (catS rest ≤ 8 ∧ 1 < 2 ∧ k.1 + 0 ≤ 0 ∧ k.2 + 0 ≤ 0) ∧ (sp_X12_sums) av σ fun v σ' => xk_X12_tests ct K R n 5 ls (v.toList ++ rest) σ' (k.1 + 0, k.2 + 0)) ∧
  xe_X12_tests ct K R (n + 1) 5 ls st σ k = (lR ls 0 fun x => xk_X12_tests ct K R n 6 ls (vr x :: st) σ k) ∧
  xe_X12_tests ct K R (n + 1) 6 ls st σ k = (oR st fun x st => kd σ x = 13 ∧ xk_X12_tests ct K R n 9 ls (vr (fR σ 1366 x) :: st) σ k) ∧
  xe_X12_tests ct K R (n + 1) 9 ls st σ k = (lI ls 1 fun x => xk_X12_tests ct K R n 10 ls (vi x :: st) σ k) ∧
  xe_X12_tests ct K R (n + 1) 10 ls st σ k = (oI st fun j st => oR st fun x st => (kd σ x = 101 ∨ kd σ x = 108) ∧ (0 ≤ j ∧ j < ln σ x) ∧ xk_X12_tests ct K R n 11 ls (vi (aI σ x j) :: st) σ k) ∧
  xe_X12_tests ct K R (n + 1) 11 ls st σ k = (oI st fun x st => 2 < 3 ∧ xk_X12_tests ct K R n 12 (stL ls 2 (vi x)) st σ k) ∧
  xe_X12_tests ct K R (n + 1) 12 ls st σ k = (lR ls 0 fun x => xk_X12_tests ct K R n 13 ls (vr x :: st) σ k) ∧
  xe_X12_tests ct K R (n + 1) 13 ls st σ k = (oR st fun x st => kd σ x = 13 ∧ xk_X12_tests ct K R n 16 ls (vr (fR σ 1365 x) :: st) σ k) ∧
  xe_X12_tests ct K R (n + 1) 16 ls st σ k = (lI ls 1 fun x => xk_X12_tests ct K R n 17 ls (vi x :: st) σ k) ∧
  xe_X12_tests ct K R (n + 1) 17 ls st σ k = (oI st fun j st => oR st fun x st => (kd σ x = 101 ∨ kd σ x = 108) ∧ (0 ≤ j ∧ j < ln σ x) ∧ xk_X12_tests ct K R n 18 ls (vi (aI σ x j) :: st) σ k) ∧
  xe_X12_tests ct K R (n + 1) 18 ls st σ k = (xk_X12_tests ct K R n 20 ls (vi (24) :: st) σ k) ∧
  xe_X12_tests ct K R (n + 1) 20 ls st σ k = (oI st fun y st => oI st fun x st => (¬ wI x = wI y → xk_X12_tests ct K R n 44 ls st σ k) ∧ (¬ (¬ wI x = wI y) → xk_X12_tests ct K R n 23 ls st σ k)) ∧
  xe_X12_tests ct K R (n + 1) 23 ls st σ k = (lR ls 0 fun x => xk_X12_tests ct K R n 24 ls (vr x :: st) σ k) ∧
  xe_X12_tests ct K R (n + 1) 24 ls st σ k = (oR st fun x st => kd σ x = 13 ∧ xk_X12_tests ct K R n 27 ls (vr (fR σ 1364 x) :: st) σ k) ∧
  xe_X12_tests ct K R (n + 1) 27 ls st σ k = (lI ls 1 fun x => xk_X12_tests ct K R n 28 ls (vi x :: st) σ k) ∧
  xe_X12_tests ct K R (n + 1) 28 ls st σ k = (oI st fun j st => oR st fun x st => (kd σ x = 101 ∨ kd σ x = 108) ∧ (0 ≤ j ∧ j < ln σ x) ∧ xk_X12_tests ct K R n 29 ls (vi (aI σ x j) :: st) σ k) ∧
  xe_X12_tests ct K R (n + 1) 29 ls st σ k = (lR ls 0 fun x => xk_X12_tests ct K R n 30 ls (vr x :: st) σ k) ∧
  xe_X12_tests ct K R (n + 1) 30 ls st σ k = (oR st fun x st => kd σ x = 13 ∧ xk_X12_tests ct K R n 33 ls (vr (fR σ 1366 x) :: st) σ k) ∧
  xe_X12_tests ct K R (n + 1) 33 ls st σ k = (lI ls 1 fun x => xk_X12_tests ct K R n 34 ls (vi x :: st) σ k) ∧
  xe_X12_tests ct K R (n + 1) 34 ls st σ k = (oI st fun j st => oR st fun x st => (kd σ x = 101 ∨ kd σ x = 108) ∧ (0 ≤ j ∧ j < ln σ x) ∧ xk_X12_tests ct K R n 35 ls (vi (aI σ x j) :: st) σ k) ∧
  xe_X12_tests ct K R (n + 1) 35 ls st σ k = (oI st fun y st => oI st fun x st => (wI y ≤ wI x → xk_X12_tests ct K R n 42 ls st σ k) ∧ (¬ (wI y ≤ wI x) → xk_X12_tests ct K R n 38 ls st σ k)) ∧
  xe_X12_tests ct K R (n + 1) 38 ls st σ k = (xk_X12_tests ct K R n 39 ls (vi (1) :: st) σ k) ∧
  xe_X12_tests ct K R (n + 1) 39 ls st σ k = (xk_X12_tests ct K R n 43 ls st σ k) ∧
  xe_X12_tests ct K R (n + 1) 42 ls st σ k = (xk_X12_tests ct K R n 43 ls (vi (0) :: st) σ k) ∧
  xe_X12_tests ct K R (n + 1) 43 ls st σ k = (oI st fun x st => 2 < 3 ∧ xk_X12_tests ct K R n 44 (stL ls 2 (vi x)) st σ k) ∧
  xe_X12_tests ct K R (n + 1) 44 ls st σ k = (lR ls 0 fun x => xk_X12_tests ct K R n 45 ls (vr x :: st) σ k) ∧
  xe_X12_tests ct K R (n + 1) 45 ls st σ k = (oR st fun x st => kd σ x = 13 ∧ xk_X12_tests ct K R n 48 ls (vr (fR σ 1365 x) :: st) σ k) ∧
  xe_X12_tests ct K R (n + 1) 48 ls st σ k = (lI ls 1 fun x => xk_X12_tests ct K R n 49 ls (vi x :: st) σ k) ∧
  xe_X12_tests ct K R (n + 1) 49 ls st σ k = (oI st fun j st => oR st fun x st => (kd σ x = 101 ∨ kd σ x = 108) ∧ (0 ≤ j ∧ j < ln σ x) ∧ xk_X12_tests ct K R n 50 ls (vi (aI σ x j) :: st) σ k) ∧
  xe_X12_tests ct K R (n + 1) 50 ls st σ k = (xk_X12_tests ct K R n 52 ls (vi (25) :: st) σ k) ∧
  xe_X12_tests ct K R (n + 1) 52 ls st σ k = (oI st fun y st => oI st fun x st => (¬ wI x = wI y → xk_X12_tests ct K R n 76 ls st σ k) ∧ (¬ (¬ wI x = wI y) → xk_X12_tests ct K R n 55 ls st σ k)) ∧
  xe_X12_tests ct K R (n + 1) 55 ls st σ k = (lR ls 0 fun x => xk_X12_tests ct K R n 56 ls (vr x :: st) σ k) ∧
  xe_X12_tests ct K R (n + 1) 56 ls st σ k = (oR st fun x st => kd σ x = 13 ∧ xk_X12_tests ct K R n 59 ls (vr (fR σ 1364 x) :: st) σ k) ∧
  xe_X12_tests ct K R (n + 1) 59 ls st σ k = (lI ls 1 fun x => xk_X12_tests ct K R n 60 ls (vi x :: st) σ k) ∧
  xe_X12_tests ct K R (n + 1) 60 ls st σ k = (oI st fun j st => oR st fun x st => (kd σ x = 101 ∨ kd σ x = 108) ∧ (0 ≤ j ∧ j < ln σ x) ∧ xk_X12_tests ct K R n 61 ls (vi (aI σ x j) :: st) σ k) ∧
  xe_X12_tests ct K R (n + 1) 61 ls st σ k = (lR ls 0 fun x => xk_X12_tests ct K R n 62 ls (vr x :: st) σ k) ∧
  xe_X12_tests ct K R (n + 1) 62 ls st σ k = (oR st fun x st => kd σ x = 13 ∧ xk_X12_tests ct K R n 65 ls (vr (fR σ 1366 x) :: st) σ k) ∧
  xe_X12_tests ct K R (n + 1) 65 ls st σ k = (lI ls 1 fun x => xk_X12_tests ct K R n 66 ls (vi x :: st) σ k) ∧
  xe_X12_tests ct K R (n + 1) 66 ls st σ k = (oI st fun j st => oR st fun x st => (kd σ x = 101 ∨ kd σ x = 108) ∧ (0 ≤ j ∧ j < ln σ x) ∧ xk_X12_tests ct K R n 67 ls (vi (aI σ x j) :: st) σ k) ∧
  xe_X12_tests ct K R (n + 1) 67 ls st σ k = (oI st fun y st => oI st fun x st => (¬ wI x = wI y → xk_X12_tests ct K R n 74 ls st σ k) ∧ (¬ (¬ wI x = wI y) → xk_X12_tests ct K R n 70 ls st σ k)) ∧
  xe_X12_tests ct K R (n + 1) 70 ls st σ k = (xk_X12_tests ct K R n 71 ls (vi (1) :: st) σ k) ∧
  xe_X12_tests ct K R (n + 1) 71 ls st σ k = (xk_X12_tests ct K R n 75 ls st σ k) ∧
  xe_X12_tests ct K R (n + 1) 74 ls st σ k = (xk_X12_tests ct K R n 75 ls (vi (0) :: st) σ k) ∧
  xe_X12_tests ct K R (n + 1) 75 ls st σ k = (oI st fun x st => 2 < 3 ∧ xk_X12_tests ct K R n 76 (stL ls 2 (vi x)) st σ k) ∧
  xe_X12_tests ct K R (n + 1) 76 ls st σ k = (lR ls 0 fun x => xk_X12_tests ct K R n 77 ls (vr x :: st) σ k) ∧
  xe_X12_tests ct K R (n + 1) 77 ls st σ k = (oR st fun x st => kd σ x = 13 ∧ xk_X12_tests ct K R n 80 ls (vr (fR σ 1363 x) :: st) σ k) ∧
  xe_X12_tests ct K R (n + 1) 80 ls st σ k = (lI ls 1 fun x => xk_X12_tests ct K R n 81 ls (vi x :: st) σ k) ∧
  xe_X12_tests ct K R (n + 1) 81 ls st σ k = (oI st fun j st => oR st fun x st => (kd σ x = 101 ∨ kd σ x = 108) ∧ (0 ≤ j ∧ j < ln σ x) ∧ xk_X12_tests ct K R n 82 ls (vi (aI σ x j) :: st) σ k) ∧
  xe_X12_tests ct K R (n + 1) 82 ls st σ k = (xk_X12_tests ct K R n 84 ls (vi (26) :: st) σ k) ∧
  xe_X12_tests ct K R (n + 1) 84 ls st σ k = (oI st fun y st => oI st fun x st => (¬ wI x = wI y → xk_X12_tests ct K R n 106 ls st σ k) ∧ (¬ (¬ wI x = wI y) → xk_X12_tests ct K R n 87 ls st σ k)) ∧
  xe_X12_tests ct K R (n + 1) 87 ls st σ k = (lR ls 0 fun x => xk_X12_tests ct K R n 88 ls (vr x :: st) σ k) ∧
  xe_X12_tests ct K R (n + 1) 88 ls st σ k = (oR st fun x st => kd σ x = 13 ∧ xk_X12_tests ct K R n 91 ls (vr (fR σ 1362 x) :: st) σ k) ∧
  xe_X12_tests ct K R (n + 1) 91 ls st σ k = (lI ls 1 fun x => xk_X12_tests ct K R n 92 ls (vi x :: st) σ k) ∧
  xe_X12_tests ct K R (n + 1) 92 ls st σ k = (oI st fun j st => oR st fun x st => (kd σ x = 101 ∨ kd σ x = 108) ∧ (0 ≤ j ∧ j < ln σ x) ∧ xk_X12_tests ct K R n 93 ls (vi (aI σ x j) :: st) σ k) ∧
  xe_X12_tests ct K R (n + 1) 93 ls st σ k = (oI st fun x st => (wI x = wI 0 → xk_X12_tests ct K R n 104 ls st σ k) ∧ (¬ (wI x = wI 0) → xk_X12_tests ct K R n 96 ls st σ k)) ∧
  xe_X12_tests ct K R (n + 1) 96 ls st σ k = (lI ls 2 fun x => xk_X12_tests ct K R n 97 ls (vi x :: st) σ k) ∧
  xe_X12_tests ct K R (n + 1) 97 ls st σ k = (oI st fun x st => (wI x = wI 0 → xk_X12_tests ct K R n 104 ls st σ k) ∧ (¬ (wI x = wI 0) → xk_X12_tests ct K R n 100 ls st σ k)) ∧
  xe_X12_tests ct K R (n + 1) 100 ls st σ k = (xk_X12_tests ct K R n 101 ls (vi (1) :: st) σ k) ∧
  xe_X12_tests ct K R (n + 1) 101 ls st σ k = (xk_X12_tests ct K R n 105 ls st σ k) ∧
  xe_X12_tests ct K R (n + 1) 104 ls st σ k = (xk_X12_tests ct K R n 105 ls (vi (0) :: st) σ k) ∧
  xe_X12_tests ct K R (n + 1) 105 ls st σ k = (oI st fun x st => 2 < 3 ∧ xk_X12_tests ct K R n 106 (stL ls 2 (vi x)) st σ k) ∧
  xe_X12_tests ct K R (n + 1) 106 ls st σ k = (lR ls 0 fun x => xk_X12_tests ct K R n 107 ls (vr x :: st) σ k) ∧
  xe_X12_tests ct K R (n + 1) 107 ls st σ k = (oR st fun x st => kd σ x = 13 ∧ xk_X12_tests ct K R n 110 ls (vr (fR σ 1363 x) :: st) σ k) ∧
  xe_X12_tests ct K R (n + 1) 110 ls st σ k = (lI ls 1 fun x => xk_X12_tests ct K R n 111 ls (vi x :: st) σ k) ∧
  xe_X12_tests ct K R (n + 1) 111 ls st σ k = (oI st fun j st => oR st fun x st => (kd σ x = 101 ∨ kd σ x = 108) ∧ (0 ≤ j ∧ j < ln σ x) ∧ xk_X12_tests ct K R n 112 ls (vi (aI σ x j) :: st) σ k) ∧
  xe_X12_tests ct K R (n + 1) 112 ls st σ k = (xk_X12_tests ct K R n 114 ls (vi (27) :: st) σ k) ∧
  xe_X12_tests ct K R (n + 1) 114 ls st σ k = (oI st fun y st => oI st fun x st => (¬ wI x = wI y → xk_X12_tests ct K R n 136 ls st σ k) ∧ (¬ (¬ wI x = wI y) → xk_X12_tests ct K R n 117 ls st σ k)) ∧
  xe_X12_tests ct K R (n + 1) 117 ls st σ k = (lR ls 0 fun x => xk_X12_tests ct K R n 118 ls (vr x :: st) σ k) ∧
  xe_X12_tests ct K R (n + 1) 118 ls st σ k = (oR st fun x st => kd σ x = 13 ∧ xk_X12_tests ct K R n 121 ls (vr (fR σ 1362 x) :: st) σ k) ∧
  xe_X12_tests ct K R (n + 1) 121 ls st σ k = (lI ls 1 fun x => xk_X12_tests ct K R n 122 ls (vi x :: st) σ k) ∧
  xe_X12_tests ct K R (n + 1) 122 ls st σ k = (oI st fun j st => oR st fun x st => (kd σ x = 101 ∨ kd σ x = 108) ∧ (0 ≤ j ∧ j < ln σ x) ∧ xk_X12_tests ct K R n 123 ls (vi (aI σ x j) :: st) σ k) ∧
  xe_X12_tests ct K R (n + 1) 123 ls st σ k = (oI st fun x st => (¬ wI x = wI 0 → xk_X12_tests ct K R n 130 ls st σ k) ∧ (¬ (¬ wI x = wI 0) → xk_X12_tests ct K R n 126 ls st σ k)) ∧
  xe_X12_tests ct K R (n + 1) 126 ls st σ k = (lI ls 2 fun x => xk_X12_tests ct K R n 127 ls (vi x :: st) σ k) ∧
  xe_X12_tests ct K R (n + 1) 127 ls st σ k = (oI st fun x st => (wI x = wI 0 → xk_X12_tests ct K R n 134 ls st σ k) ∧ (¬ (wI x = wI 0) → xk_X12_tests ct K R n 130 ls st σ k)) ∧
  xe_X12_tests ct K R (n + 1) 130 ls st σ k = (xk_X12_tests ct K R n 131 ls (vi (1) :: st) σ k) ∧
  xe_X12_tests ct K R (n + 1) 131 ls st σ k = (xk_X12_tests ct K R n 135 ls st σ k) ∧
  xe_X12_tests ct K R (n + 1) 134 ls st σ k = (xk_X12_tests ct K R n 135 ls (vi (0) :: st) σ k) ∧
  xe_X12_tests ct K R (n + 1) 135 ls st σ k = (oI st fun x st => 2 < 3 ∧ xk_X12_tests ct K R n 136 (stL ls 2 (vi x)) st σ k) ∧
  xe_X12_tests ct K R (n + 1) 136 ls st σ k = (lR ls 0 fun x => xk_X12_tests ct K R n 137 ls (vr x :: st) σ k) ∧
  xe_X12_tests ct K R (n + 1) 137 ls st σ k = (oR st fun x st => kd σ x = 13 ∧ xk_X12_tests ct K R n 140 ls (vr (fR σ 1362 x) :: st) σ k) ∧
  xe_X12_tests ct K R (n + 1) 140 ls st σ k = (lI ls 1 fun x => xk_X12_tests ct K R n 141 ls (vi x :: st) σ k) ∧
  xe_X12_tests ct K R (n + 1) 141 ls st σ k = (lI ls 2 fun x => xk_X12_tests ct K R n 142 ls (vi x :: st) σ k) ∧
  xe_X12_tests ct K R (n + 1) 142 ls st σ k = (oI st fun v st => oI st fun j st => oR st fun x st => kd σ x = 101 ∧ (0 ≤ j ∧ j < ln σ x) ∧ xk_X12_tests ct K R n 143 ls st (qI σ x j v) k) ∧
  xe_X12_tests ct K R (n + 1) 143 ls st σ k = (lR ls 0 fun x => xk_X12_tests ct K R n 144 ls (vr x :: st) σ k) ∧
  xe_X12_tests ct K R (n + 1) 144 ls st σ k = (oR st fun x st => kd σ x = 13 ∧ xk_X12_tests ct K R n 147 ls (vr (fR σ 1365 x) :: st) σ k) ∧
  xe_X12_tests ct K R (n + 1) 147 ls st σ k = (lI ls 1 fun x => xk_X12_tests ct K R n 148 ls (vi x :: st) σ k) ∧
  xe_X12_tests ct K R (n + 1) 148 ls st σ k = (xk_X12_tests ct K R n 149 ls (vi (0) :: st) σ k) ∧
  xe_X12_tests ct K R (n + 1) 149 ls st σ k = (oI st fun v st => oI st fun j st => oR st fun x st => kd σ x = 101 ∧ (0 ≤ j ∧ j < ln σ x) ∧ xk_X12_tests ct K R n 150 ls st (qI σ x j v) k) ∧
  xe_X12_tests ct K R (n + 1) 150 ls st σ k = (lR ls 0 fun x => xk_X12_tests ct K R n 151 ls (vr x :: st) σ k) ∧
  xe_X12_tests ct K R (n + 1) 151 ls st σ k = (oR st fun x st => kd σ x = 13 ∧ xk_X12_tests ct K R n 154 ls (vr (fR σ 1366 x) :: st) σ k) ∧
  xe_X12_tests ct K R (n + 1) 154 ls st σ k = (lI ls 1 fun x => xk_X12_tests ct K R n 155 ls (vi x :: st) σ k) ∧
  xe_X12_tests ct K R (n + 1) 155 ls st σ k = (xk_X12_tests ct K R n 156 ls (vi (0) :: st) σ k) ∧
  xe_X12_tests ct K R (n + 1) 156 ls st σ k = (oI st fun v st => oI st fun j st => oR st fun x st => kd σ x = 101 ∧ (0 ≤ j ∧ j < ln σ x) ∧ xk_X12_tests ct K R n 157 ls st (qI σ x j v) k) ∧
  xe_X12_tests ct K R (n + 1) 157 ls st σ k = (lR ls 0 fun x => xk_X12_tests ct K R n 158 ls (vr x :: st) σ k) ∧
  xe_X12_tests ct K R (n + 1) 158 ls st σ k = (oR st fun x st => kd σ x = 13 ∧ xk_X12_tests ct K R n 161 ls (vr (fR σ 1367 x) :: st) σ k) ∧
  xe_X12_tests ct K R (n + 1) 161 ls st σ k = (lI ls 1 fun x => xk_X12_tests ct K R n 162 ls (vi x :: st) σ k) ∧
  xe_X12_tests ct K R (n + 1) 162 ls st σ k = (xk_X12_tests ct K R n 164 ls (vi (20) :: st) σ k) ∧
  xe_X12_tests ct K R (n + 1) 164 ls st σ k = (oI st fun v st => oI st fun j st => oR st fun x st => kd σ x = 101 ∧ (0 ≤ j ∧ j < ln σ x) ∧ xk_X12_tests ct K R n 165 ls st (qI σ x j v) k) ∧
  xe_X12_tests ct K R (n + 1) 165 ls st σ k = (st = [] ∧ 0 = 0 ∧ R none σ) :=
  ⟨exS_step.trans rfl, exS_step.trans rfl, exS_step.trans rfl, exS_step.trans rfl, exS_step.trans rfl, exS_step.trans rfl, exS_step.trans rfl, exS_step.trans rfl, exS_step.trans rfl, exS_step.trans rfl, exS_step.trans rfl, exS_step.trans rfl, exS_step.trans rfl, exS_step.trans rfl, exS_step.trans rfl, exS_step.trans rfl, exS_step.trans rfl, exS_step.trans rfl, exS_step.trans rfl, exS_step.trans rfl, exS_step.trans rfl, exS_step.trans rfl, exS_step.trans rfl, exS_step.trans rfl, exS_step.trans rfl, exS_step.trans rfl, exS_step.trans rfl, exS_step.trans rfl, exS_step.trans rfl, exS_step.trans rfl, exS_step.trans rfl, exS_step.trans rfl, exS_step.trans rfl, exS_step.trans rfl, exS_step.trans rfl, exS_step.trans rfl, exS_step.trans rfl, exS_step.trans rfl, exS_step.trans rfl, exS_step.trans rfl, exS_step.trans rfl, exS_step.trans rfl, exS_step.trans rfl, exS_step.trans rfl, exS_step.trans rfl, exS_step.trans rfl, exS_step.trans rfl, exS_step.trans rfl, exS_step.trans rfl, exS_step.trans rfl, exS_step.trans rfl, exS_step.trans rfl, exS_step.trans rfl, exS_step.trans rfl, exS_step.trans rfl, exS_step.trans rfl, exS_step.trans rfl, exS_step.trans rfl, exS_step.trans rfl, exS_step.trans rfl, exS_step.trans rfl, exS_step.trans rfl, exS_step.trans rfl, exS_step.trans rfl, exS_step.trans rfl, exS_step.trans rfl, exS_step.trans rfl, exS_step.trans rfl, exS_step.trans rfl, exS_step.trans rfl, exS_step.trans rfl, exS_step.trans rfl, exS_step.trans rfl, exS_step.trans rfl, exS_step.trans rfl, exS_step.trans rfl, exS_step.trans rfl, exS_step.trans rfl, exS_step.trans rfl, exS_step.trans rfl, exS_step.trans rfl, exS_step.trans rfl, exS_step.trans rfl, exS_step.trans rfl, exS_step.trans rfl, exS_step.trans rfl, exS_step.trans rfl, exS_step.trans rfl, exS_step.trans rfl, exS_step.trans rfl, exS_step.trans rfl, exS_step.trans rfl, exS_step.trans rfl, exS_step.trans rfl, exS_step.trans rfl, exS_step.trans rfl, exS_step.trans rfl, exS_step.trans rfl, exS_step.trans rfl, exS_step.trans rfl, exS_step.trans rfl⟩
def M_X12_tests : Md := (yX12_tests, cX12_tests, 3, (none : Option FieldType), 2, 0, 0, 0, false, tb_X12_tests, mt_X12_tests)
theorem mm_X12_tests : MMOK M_X12_tests := ⟨by decide +kernel, tk_X12_tests, mk_X12_tests, rfl, fun h => by cases h⟩
theorem go_X12_tests {Q : Option AV → Hp → Prop} {ct : Nat → Bool} {pc : Nat} {ls : List (Option AV)} {st : List AV} {σ : Hp} {k : Nat × Nat} (n : Nat) (h : xe_X12_tests ct (Go M_X12_tests Q) Q n pc ls st σ k) : Go M_X12_tests Q pc ls st σ k := Go.exS mm_X12_tests h

set_option maxRecDepth 20000 in
theorem c_X12_tests : Ct yX12_tests cX12_tests 3 ((none : Option FieldType)) 2 0 0 sp_X12_tests := by
  refine Ct.go (M := M_X12_tests) mm_X12_tests fun av σ Q h0 => ?_
  obtain ⟨this, d, rfl, hk, h⟩ := el_X12_tests h0
  clear h0
  refine ⟨Nat.le_of_ble_eq_true rfl, ?_⟩
  show Go M_X12_tests Q 0 [some (vr this), some (vi d), none] [] σ (0, 0)
  obtain ⟨rfl, hI, hd, h⟩ := h
  unfold mTests at h
  have hT := MI_mSums hI d
  generalize e9 : mSums σ d = τ at h hT
  have hk2 : kd τ 61 = 13 := hT.lay.1
  have h1 := hT.against_ d
  have h2 := hT.keptBy_ d
  unfold mTV at h
  have w136 : ∀ v, v = mTV4 τ d (mTV3 τ d (mTV2 τ d (mTV1 τ d))) → Go M_X12_tests Q 136 [some (vr 61), some (vi d), some (vi v)] [] τ (0, 0) := by
    intro v hv
    rw [← hv] at h
    refine go_X12_tests (ct := fun p => false) 40 ?_
    simp only [oI, oL, oR, o1, lI, lL, lR, popN, catS, gv, stL, stL2, swt, cnd, spObj, List.getElem?_cons_zero, List.getElem?_cons_succ, List.getD_cons_zero, List.getD_cons_succ, List.set_cons_zero, List.set_cons_succ, List.nil_append, List.cons_append, Option.toList, Bool.or_false, Bool.false_or, Bool.or_true, Bool.true_or, Nat.reduceBEq, Nat.reduceAdd, Nat.reduceLT, Nat.reduceLeDiff, Int.reduceAdd, Int.reduceToNat, true_and, and_true, Fin.isValue, Fin.val_zero, Fin.val_one, Fin.val_two, Fin.reduceFinMk, eq_self, Int.reduceNeg, imp_self, Nat.reduceMul, Nat.le_refl, not_true_eq_false, not_false_eq_true, List.getElem?_nil, reduceCtorEq, true_or, or_true, Classical.not_not, implies_true, or_self, wI_0, wI_1, wI_m1, b2i_w, b2i_eq0, b2i_eq1, b2i_bool, nor_self, nx_pI, kd_pI, ln_pI, fI_pI, fL_pI, fR_pI, aI_pI, aL_pI, aR_pI, nx_pL, kd_pL, ln_pL, fI_pL, fL_pL, fR_pL, aI_pL, aL_pL, aR_pL, nx_pR, kd_pR, ln_pR, fI_pR, fL_pR, fR_pR, aI_pR, aL_pR, aR_pR, nx_qI, kd_qI, ln_qI, fI_qI, fL_qI, fR_qI, aI_qI, aL_qI, aR_qI, nx_qL, kd_qL, ln_qL, fI_qL, fL_qL, fR_qL, aI_qL, aL_qL, aR_qL, nx_qR, kd_qR, ln_qR, fI_qR, fL_qR, fR_qR, aI_qR, aL_qR, aR_qR, nx_mk, kd_mk, ln_mk, fI_mk, fL_mk, fR_mk, aI_mk, aL_mk, aR_mk, false_and, and_false, if_false, if_true, and_self, Int.reduceEq, Nat.reduceEqDiff, ite_self, MLay_pI, MLay_pL, MLay_qI, MLay_qL, ev_X12_tests, xt_X12_tests, xf_X12_tests, us_X12_sums, hk2, hT.lay.eqs]
    try simp (disch := omega) only [wI_id, dv_nn, rm_nn]
    repeat' (first | intro z | apply And.intro)
    all_goals try omega
  have w106 : ∀ v, v = mTV3 τ d (mTV2 τ d (mTV1 τ d)) → Go M_X12_tests Q 106 [some (vr 61), some (vi d), some (vi v)] [] τ (0, 0) := by
    intro v hv
    rw [← hv] at w136
    unfold mTV4 at w136
    refine go_X12_tests (ct := fun p => p == 136) 40 ?_
    simp only [oI, oL, oR, o1, lI, lL, lR, popN, catS, gv, stL, stL2, swt, cnd, spObj, List.getElem?_cons_zero, List.getElem?_cons_succ, List.getD_cons_zero, List.getD_cons_succ, List.set_cons_zero, List.set_cons_succ, List.nil_append, List.cons_append, Option.toList, Bool.or_false, Bool.false_or, Bool.or_true, Bool.true_or, Nat.reduceBEq, Nat.reduceAdd, Nat.reduceLT, Nat.reduceLeDiff, Int.reduceAdd, Int.reduceToNat, true_and, and_true, Fin.isValue, Fin.val_zero, Fin.val_one, Fin.val_two, Fin.reduceFinMk, eq_self, Int.reduceNeg, imp_self, Nat.reduceMul, Nat.le_refl, not_true_eq_false, not_false_eq_true, List.getElem?_nil, reduceCtorEq, true_or, or_true, Classical.not_not, implies_true, or_self, wI_0, wI_1, wI_m1, b2i_w, b2i_eq0, b2i_eq1, b2i_bool, nor_self, nx_pI, kd_pI, ln_pI, fI_pI, fL_pI, fR_pI, aI_pI, aL_pI, aR_pI, nx_pL, kd_pL, ln_pL, fI_pL, fL_pL, fR_pL, aI_pL, aL_pL, aR_pL, nx_pR, kd_pR, ln_pR, fI_pR, fL_pR, fR_pR, aI_pR, aL_pR, aR_pR, nx_qI, kd_qI, ln_qI, fI_qI, fL_qI, fR_qI, aI_qI, aL_qI, aR_qI, nx_qL, kd_qL, ln_qL, fI_qL, fL_qL, fR_qL, aI_qL, aL_qL, aR_qL, nx_qR, kd_qR, ln_qR, fI_qR, fL_qR, fR_qR, aI_qR, aL_qR, aR_qR, nx_mk, kd_mk, ln_mk, fI_mk, fL_mk, fR_mk, aI_mk, aL_mk, aR_mk, false_and, and_false, if_false, if_true, and_self, Int.reduceEq, Nat.reduceEqDiff, ite_self, MLay_pI, MLay_pL, MLay_qI, MLay_qL, ev_X12_tests, xt_X12_tests, xf_X12_tests, us_X12_sums, hk2, hT.lay.eqs]
    try simp (disch := omega) only [wI_id, dv_nn, rm_nn]
    repeat' (first | intro z | apply And.intro)
    all_goals try omega
    all_goals (apply w136; grind)
  have w76 : ∀ v, v = mTV2 τ d (mTV1 τ d) → Go M_X12_tests Q 76 [some (vr 61), some (vi d), some (vi v)] [] τ (0, 0) := by
    intro v hv
    rw [← hv] at w106
    unfold mTV3 at w106
    refine go_X12_tests (ct := fun p => p == 106) 40 ?_
    simp only [oI, oL, oR, o1, lI, lL, lR, popN, catS, gv, stL, stL2, swt, cnd, spObj, List.getElem?_cons_zero, List.getElem?_cons_succ, List.getD_cons_zero, List.getD_cons_succ, List.set_cons_zero, List.set_cons_succ, List.nil_append, List.cons_append, Option.toList, Bool.or_false, Bool.false_or, Bool.or_true, Bool.true_or, Nat.reduceBEq, Nat.reduceAdd, Nat.reduceLT, Nat.reduceLeDiff, Int.reduceAdd, Int.reduceToNat, true_and, and_true, Fin.isValue, Fin.val_zero, Fin.val_one, Fin.val_two, Fin.reduceFinMk, eq_self, Int.reduceNeg, imp_self, Nat.reduceMul, Nat.le_refl, not_true_eq_false, not_false_eq_true, List.getElem?_nil, reduceCtorEq, true_or, or_true, Classical.not_not, implies_true, or_self, wI_0, wI_1, wI_m1, b2i_w, b2i_eq0, b2i_eq1, b2i_bool, nor_self, nx_pI, kd_pI, ln_pI, fI_pI, fL_pI, fR_pI, aI_pI, aL_pI, aR_pI, nx_pL, kd_pL, ln_pL, fI_pL, fL_pL, fR_pL, aI_pL, aL_pL, aR_pL, nx_pR, kd_pR, ln_pR, fI_pR, fL_pR, fR_pR, aI_pR, aL_pR, aR_pR, nx_qI, kd_qI, ln_qI, fI_qI, fL_qI, fR_qI, aI_qI, aL_qI, aR_qI, nx_qL, kd_qL, ln_qL, fI_qL, fL_qL, fR_qL, aI_qL, aL_qL, aR_qL, nx_qR, kd_qR, ln_qR, fI_qR, fL_qR, fR_qR, aI_qR, aL_qR, aR_qR, nx_mk, kd_mk, ln_mk, fI_mk, fL_mk, fR_mk, aI_mk, aL_mk, aR_mk, false_and, and_false, if_false, if_true, and_self, Int.reduceEq, Nat.reduceEqDiff, ite_self, MLay_pI, MLay_pL, MLay_qI, MLay_qL, ev_X12_tests, xt_X12_tests, xf_X12_tests, us_X12_sums, hk2, hT.lay.eqs]
    try simp (disch := omega) only [wI_id, dv_nn, rm_nn]
    repeat' (first | intro z | apply And.intro)
    all_goals try omega
    all_goals (apply w106; grind)
  have w44 : ∀ v, v = mTV1 τ d → Go M_X12_tests Q 44 [some (vr 61), some (vi d), some (vi v)] [] τ (0, 0) := by
    intro v hv
    rw [← hv] at w76
    unfold mTV2 at w76
    refine go_X12_tests (ct := fun p => p == 76) 40 ?_
    simp only [oI, oL, oR, o1, lI, lL, lR, popN, catS, gv, stL, stL2, swt, cnd, spObj, List.getElem?_cons_zero, List.getElem?_cons_succ, List.getD_cons_zero, List.getD_cons_succ, List.set_cons_zero, List.set_cons_succ, List.nil_append, List.cons_append, Option.toList, Bool.or_false, Bool.false_or, Bool.or_true, Bool.true_or, Nat.reduceBEq, Nat.reduceAdd, Nat.reduceLT, Nat.reduceLeDiff, Int.reduceAdd, Int.reduceToNat, true_and, and_true, Fin.isValue, Fin.val_zero, Fin.val_one, Fin.val_two, Fin.reduceFinMk, eq_self, Int.reduceNeg, imp_self, Nat.reduceMul, Nat.le_refl, not_true_eq_false, not_false_eq_true, List.getElem?_nil, reduceCtorEq, true_or, or_true, Classical.not_not, implies_true, or_self, wI_0, wI_1, wI_m1, b2i_w, b2i_eq0, b2i_eq1, b2i_bool, nor_self, nx_pI, kd_pI, ln_pI, fI_pI, fL_pI, fR_pI, aI_pI, aL_pI, aR_pI, nx_pL, kd_pL, ln_pL, fI_pL, fL_pL, fR_pL, aI_pL, aL_pL, aR_pL, nx_pR, kd_pR, ln_pR, fI_pR, fL_pR, fR_pR, aI_pR, aL_pR, aR_pR, nx_qI, kd_qI, ln_qI, fI_qI, fL_qI, fR_qI, aI_qI, aL_qI, aR_qI, nx_qL, kd_qL, ln_qL, fI_qL, fL_qL, fR_qL, aI_qL, aL_qL, aR_qL, nx_qR, kd_qR, ln_qR, fI_qR, fL_qR, fR_qR, aI_qR, aL_qR, aR_qR, nx_mk, kd_mk, ln_mk, fI_mk, fL_mk, fR_mk, aI_mk, aL_mk, aR_mk, false_and, and_false, if_false, if_true, and_self, Int.reduceEq, Nat.reduceEqDiff, ite_self, MLay_pI, MLay_pL, MLay_qI, MLay_qL, ev_X12_tests, xt_X12_tests, xf_X12_tests, us_X12_sums, hk2, hT.lay.eqs]
    try simp (disch := omega) only [wI_id, dv_nn, rm_nn]
    repeat' (first | intro z | apply And.intro)
    all_goals try omega
    all_goals (apply w76; grind)
  unfold mTV1 at w44
  refine go_X12_tests (ct := fun p => p == 44) 40 ?_
  simp only [oI, oL, oR, o1, lI, lL, lR, popN, catS, gv, stL, stL2, swt, cnd, spObj, List.getElem?_cons_zero, List.getElem?_cons_succ, List.getD_cons_zero, List.getD_cons_succ, List.set_cons_zero, List.set_cons_succ, List.nil_append, List.cons_append, Option.toList, Bool.or_false, Bool.false_or, Bool.or_true, Bool.true_or, Nat.reduceBEq, Nat.reduceAdd, Nat.reduceLT, Nat.reduceLeDiff, Int.reduceAdd, Int.reduceToNat, true_and, and_true, Fin.isValue, Fin.val_zero, Fin.val_one, Fin.val_two, Fin.reduceFinMk, eq_self, Int.reduceNeg, imp_self, Nat.reduceMul, Nat.le_refl, not_true_eq_false, not_false_eq_true, List.getElem?_nil, reduceCtorEq, true_or, or_true, Classical.not_not, implies_true, or_self, wI_0, wI_1, wI_m1, b2i_w, b2i_eq0, b2i_eq1, b2i_bool, nor_self, nx_pI, kd_pI, ln_pI, fI_pI, fL_pI, fR_pI, aI_pI, aL_pI, aR_pI, nx_pL, kd_pL, ln_pL, fI_pL, fL_pL, fR_pL, aI_pL, aL_pL, aR_pL, nx_pR, kd_pR, ln_pR, fI_pR, fL_pR, fR_pR, aI_pR, aL_pR, aR_pR, nx_qI, kd_qI, ln_qI, fI_qI, fL_qI, fR_qI, aI_qI, aL_qI, aR_qI, nx_qL, kd_qL, ln_qL, fI_qL, fL_qL, fR_qL, aI_qL, aL_qL, aR_qL, nx_qR, kd_qR, ln_qR, fI_qR, fL_qR, fR_qR, aI_qR, aL_qR, aR_qR, nx_mk, kd_mk, ln_mk, fI_mk, fL_mk, fR_mk, aI_mk, aL_mk, aR_mk, false_and, and_false, if_false, if_true, and_self, Int.reduceEq, Nat.reduceEqDiff, ite_self, MLay_pI, MLay_pL, MLay_qI, MLay_qL, ev_X12_tests, xt_X12_tests, xf_X12_tests, us_X12_sums, hk, hI, e9, hk2, hT.lay.eqs]
  try simp (disch := omega) only [wI_id, dv_nn, rm_nn]
  repeat' (first | intro z | apply And.intro)
  all_goals try omega
  all_goals (apply w44; grind)
