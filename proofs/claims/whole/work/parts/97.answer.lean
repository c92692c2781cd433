/-! the class: a call's answer -/

theorem BG.scr {σ τ ρ : Hp} (h : BG σ τ) (hS : Scr τ ρ) : BG σ ρ := by
  unfold BG CoE at *
  simp only [hS.fI, hS.a (r := 87) (by decide), hS.a (r := 88) (by decide), hS.a (r := 89) (by decide), hS.a (r := 91) (by decide), hS.a (r := 85) (by decide), hS.a (r := 86) (by decide)]
  exact h
theorem AlS.scr {σ τ ρ : Hp} {a p : Int} (h : AlS σ τ a p) (hS : Scr τ ρ) : AlS σ ρ a p := by
  unfold AlS at *
  simp only [hS.a (r := 115) (by decide), hS.a (r := 116) (by decide), hS.fI]
  exact h
theorem AlS.fz {fs : List Nat} {ars als : Int → Prop} {σ σ' τ : Hp} {a p : Int} (h : AlS σ τ a p) (z : Fz fs ars als σ σ') (h1 : 102 ∉ fs) (h2 : 103 ∉ fs) (h3 : ¬ ars (p + 1)) : AlS σ' τ a p := by
  unfold AlS at *
  rw [z.kd, z.ln, z.fR h1, z.fI h2, z.aI h3]
  exact h
theorem AL.q32 {σ τ : Hp} (h : AL σ τ) (j v : Int) : AL (qI σ 32 j v) τ := ⟨h.1, h.2.1, fun a q1 q2 => by
    obtain ⟨g0, g1, g2, g3, g4, g5, g6, g7, g8⟩ := h.2.2.1 a q1 q2
    refine ⟨g0, g1, g2, g3, g4, g5, g6, fun i a1 b1 => ?_, g8⟩
    have e : aI (qI σ 32 j v) (lat σ 28 a + 1) i = aI σ (lat σ 28 a + 1) i := by rw [aI_qI, if_neg (by omega)]
    exact e.trans (g7 i a1 b1), h.2.2.2.1, fun w => by
    rw [aI_qI, aI_qI, aI_qI, if_neg (by omega), if_neg (by omega), if_neg (by omega)]
    exact h.2.2.2.2.1 w, h.2.2.2.2.2⟩
theorem BX_q (σ τ : Hp) (r j v : Int) : BX (qI σ r j v) τ = BX σ τ := rfl
theorem Fz_32 (σ : Hp) (j v : Int) : Fz [] (fun r => r = 32) noR σ (qI σ 32 j v) := Fz_qI _ _ _ rfl
/-- the deck in use holds what the reference's lines hold -/
def DKR (σ τ : Hp) : Prop := ∃ xs : List Ln, LnA τ xs ∧ ∃ D D2 : Int, ((D = 33 ∧ D2 = 39) ∨ (D = 39 ∧ D2 = 33)) ∧ fR σ 1209 1 = D ∧ fR σ 501 26 = D2 ∧ DkL σ D (xs.map fun x => x.2.2.2.2.2.2.1) ∧ ∀ (i : Nat) (x : Ln), xs[i]? = some x → aI σ (D + 1) i = x.2.1 ∧ aI σ (D + 2) i = x.2.2.1
theorem DKR.fz {fs : List Nat} {ars als : Int → Prop} {σ σ' τ : Hp} (h : DKR σ τ) (z : Fz fs ars als σ σ') (hf : ∀ f ∈ fs, f ∉ [1209, 501, 807]) (ha : ∀ r, ars r → ¬ (34 ≤ r ∧ r ≤ 37) ∧ ¬ (40 ≤ r ∧ r ≤ 43)) : DKR σ' τ := by
  have hn : ∀ f ∈ [1209, 501, 807], f ∉ fs := fun f h1 h2 => hf f h2 h1
  simp only [List.forall_mem_cons, List.not_mem_nil, false_implies, implies_true, and_true] at hn
  obtain ⟨n1, n2, n3⟩ := hn
  obtain ⟨xs, hA, D, D2, hD, h1, h2, h3, h4⟩ := h
  refine ⟨xs, hA, D, D2, hD, by rw [z.fR n1]; exact h1, by rw [z.fR n2]; exact h2, ?_, fun i x hx => ?_⟩
  · unfold DkL at *
    rw [z.fI n3, z.aI (r := D + 3) (fun q => by have := ha _ q; omega), z.aI (r := D + 4) (fun q => by have := ha _ q; omega)]
    exact h3
  · rw [z.aI (r := D + 1) (fun q => by have := ha _ q; omega), z.aI (r := D + 2) (fun q => by have := ha _ q; omega)]
    exact h4 i x hx
theorem BG.sent {σ τ : Hp} (h : BG σ τ) : hwM (fun c => ¬ fI σ 603 (lat σ 18 c) = 0) (fI σ 1402 18).toNat = hwM (fun c => aI τ 89 c < 0) (fI τ 1335 61).toNat ∧ ∀ c, 0 ≤ c → c < fI σ 1402 18 → 0 ≤ fI σ 603 (lat σ 18 c) ∧ fI σ 603 (lat σ 18 c) ≤ 1 := by
  obtain ⟨h1, h2, h3, -⟩ := h
  have key : ∀ n : Nat, (n : Int) ≤ fI τ 1335 61 → hwM (fun c => ¬ fI σ 603 (lat σ 18 c) = 0) n = hwM (fun c => aI τ 89 c < 0) n := by
    intro n
    induction n with
    | zero => intro _; rfl
    | succ n ih =>
      intro hn
      obtain ⟨-, -, -, g4, g5, -⟩ := h3 n (by omega) (by omega)
      rw [hwM_s, hwM_s, ih (by omega)]
      rw [b2i_congr (p := ¬ fI σ 603 (lat σ 18 (n : Int)) = 0) (q := aI τ 89 (n : Int) < 0)]
      constructor
      · intro q
        apply Decidable.byContradiction
        intro q2
        exact q (g5 (by omega)).1
      · intro q
        rw [(g4 q).1]
        decide
  refine ⟨?_, fun c a b => ?_⟩
  · rw [h2]
    by_cases c : 0 ≤ fI τ 1335 61
    · exact key _ (by omega)
    · rw [show (fI τ 1335 61).toNat = 0 by omega]; rfl
  · obtain ⟨-, -, -, g4, g5, -⟩ := h3 c a (by rw [← h2]; exact b)
    by_cases q : aI τ 89 c < 0
    · rw [(g4 q).1]; decide
    · rw [(g5 (by omega)).1]; decide
abbrev ansF : List Nat := [603, 604, 103, 806]
def ansA (p r : Int) : Prop := r = p + 1 ∨ r = 32 ∨ r = 38 ∨ r = 44

def sp_X11_writeFact : Sp := fun av σ Q => oR av fun this av => oI av fun i av => oI av fun v av => av = [] ∧ kd σ this = 12 ∧ (this = 1 ∧ CLay σ ∧ (0 ≤ i ∧ i < 7) ∧ Q none (qI σ 32 i v))
theorem us_X11_writeFact (this : Int) (i : Int) (v : Int) (σ : Hp) (Q : Option AV → Hp → Prop) : sp_X11_writeFact [vr this, vi i, vi v] σ Q = (kd σ this = 12 ∧ (this = 1 ∧ CLay σ ∧ (0 ≤ i ∧ i < 7) ∧ Q none (qI σ 32 i v))) := propext ⟨fun h => h.2, fun h => ⟨rfl, h⟩⟩
theorem el_X11_writeFact {av : List AV} {σ : Hp} {Q : Option AV → Hp → Prop} (h : sp_X11_writeFact av σ Q) : ∃ (this : Int) (i : Int) (v : Int), av = [vr this, vi i, vi v] ∧ (kd σ this = 12 ∧ (this = 1 ∧ CLay σ ∧ (0 ≤ i ∧ i < 7) ∧ Q none (qI σ 32 i v))) := by
  obtain ⟨this, a0, rfl, h0⟩ := oR_s h
  obtain ⟨i, a1, rfl, h1⟩ := oI_s h0
  obtain ⟨v, a2, rfl, h2⟩ := oI_s h1
  obtain ⟨rfl, hz⟩ := h2
  exact ⟨this, i, v, rfl, hz⟩
theorem rc_X11_writeFact : ∀ (av : List AV) (σ : Hp) (Q : Option AV → Hp → Prop), sp_X11_writeFact av σ Q → ∃ r tl, av = vr r :: tl ∧ kd σ r = 11 + 1 := fun av σ Q h => by
  obtain ⟨this, i, v, rfl, hz, -⟩ := el_X11_writeFact h
  exact ⟨this, _, rfl, hz⟩

def tb_X11_writeFact : Tab := [(0, .iload_n 1, 1, (0, 0, 0, 0)), (1, .ifCond .lt 19, 3, (0, 0, 0, 0)), (4, .iload_n 1, 1, (0, 0, 0, 0)), (5, .aload_n 0, 1, (0, 0, 0, 0)), (6, .getfield 58, 3, (12, 1208, 2, 0)), (9, .arraylength, 1, (0, 0, 0, 0)), (10, .if_icmp .ge 10, 3, (0, 0, 0, 0)), (13, .aload_n 0, 1, (0, 0, 0, 0)), (14, .getfield 58, 3, (12, 1208, 2, 0)), (17, .iload_n 1, 1, (0, 0, 0, 0)), (18, .iload_n 2, 1, (0, 0, 0, 0)), (19, .iastore, 1, (0, 0, 0, 0)), (20, .return_, 1, (0, 0, 0, 0))]
set_option maxRecDepth 100000 in
theorem tk_X11_writeFact : TOK RX11 false cX11_writeFact tb_X11_writeFact := chkT_ok ft_X11 (by decide +kernel)
def mt_X11_writeFact : List (Nat × Mt) := []
theorem mk_X11_writeFact : MOK RX11 mt_X11_writeFact := fun q hq => by cases hq
noncomputable def xe_X11_writeFact (ct : Nat → Bool) (K : Kt) (R : Option AV → Hp → Prop) (n : Nat) : Kt := exS 3 1 0 0 0 tb_X11_writeFact mt_X11_writeFact ct K R n
noncomputable def xk_X11_writeFact (ct : Nat → Bool) (K : Kt) (R : Option AV → Hp → Prop) (n : Nat) : Kt := exkS 3 1 0 0 0 tb_X11_writeFact mt_X11_writeFact ct K R n
theorem xt_X11_writeFact {ct : Nat → Bool} {K : Kt} {R : Option AV → Hp → Prop} {n pc : Nat} {ls : List (Option AV)} {st : List AV} {σ : Hp} {k : Nat × Nat} (h : ct pc = true) : xk_X11_writeFact ct K R n pc ls st σ k = K pc ls st σ k := by unfold xk_X11_writeFact exkS; rw [h]
theorem xf_X11_writeFact {ct : Nat → Bool} {K : Kt} {R : Option AV → Hp → Prop} {n pc : Nat} {ls : List (Option AV)} {st : List AV} {σ : Hp} {k : Nat × Nat} (h : ct pc = false) : xk_X11_writeFact ct K R n pc ls st σ k = xe_X11_writeFact ct K R n pc ls st σ k := by unfold xk_X11_writeFact exkS xe_X11_writeFact; rw [h]
theorem ev_X11_writeFact_0 {ct : Nat → Bool} {K : Kt} {R : Option AV → Hp → Prop} {n : Nat} {ls : List (Option AV)} {st : List AV} {σ : Hp} {k : Nat × Nat} : xe_X11_writeFact ct K R (n + 1) 0 ls st σ k = (lI ls 1 fun x => xk_X11_writeFact ct K R n 1 ls (vi x :: st) σ k) := exS_step.trans rfl
theorem ev_X11_writeFact_1 {ct : Nat → Bool} {K : Kt} {R : Option AV → Hp → Prop} {n : Nat} {ls : List (Option AV)} {st : List AV} {σ : Hp} {k : Nat × Nat} : xe_X11_writeFact ct K R (n + 1) 1 ls st σ k = (oI st fun x st => (wI x < wI 0 → xk_X11_writeFact ct K R n 20 ls st σ k) ∧ (¬ (wI x < wI 0) → xk_X11_writeFact ct K R n 4 ls st σ k)) := exS_step.trans rfl
theorem ev_X11_writeFact_4 {ct : Nat → Bool} {K : Kt} {R : Option AV → Hp → Prop} {n : Nat} {ls : List (Option AV)} {st : List AV} {σ : Hp} {k : Nat × Nat} : xe_X11_writeFact ct K R (n + 1) 4 ls st σ k = (lI ls 1 fun x => xk_X11_writeFact ct K R n 5 ls (vi x :: st) σ k) := exS_step.trans rfl
theorem ev_X11_writeFact_5 {ct : Nat → Bool} {K : Kt} {R : Option AV → Hp → Prop} {n : Nat} {ls : List (Option AV)} {st : List AV} {σ : Hp} {k : Nat × Nat} : xe_X11_writeFact ct K R (n + 1) 5 ls st σ k = (lR ls 0 fun x => xk_X11_writeFact ct K R n 6 ls (vr x :: st) σ k) := exS_step.trans rfl
theorem ev_X11_writeFact_6 {ct : Nat → Bool} {K : Kt} {R : Option AV → Hp → Prop} {n : Nat} {ls : List (Option AV)} {st : List AV} {σ : Hp} {k : Nat × Nat} : xe_X11_writeFact ct K R (n + 1) 6 ls st σ k = (oR st fun x st => kd σ x = 12 ∧ xk_X11_writeFact ct K R n 9 ls (vr (fR σ 1208 x) :: st) σ k) := exS_step.trans rfl
theorem ev_X11_writeFact_9 {ct : Nat → Bool} {K : Kt} {R : Option AV → Hp → Prop} {n : Nat} {ls : List (Option AV)} {st : List AV} {σ : Hp} {k : Nat × Nat} : xe_X11_writeFact ct K R (n + 1) 9 ls st σ k = (oR st fun x st => (101 ≤ kd σ x ∨ kd σ x = 21) ∧ xk_X11_writeFact ct K R n 10 ls (vi (ln σ x) :: st) σ k) := exS_step.trans rfl
theorem ev_X11_writeFact_10 {ct : Nat → Bool} {K : Kt} {R : Option AV → Hp → Prop} {n : Nat} {ls : List (Option AV)} {st : List AV} {σ : Hp} {k : Nat × Nat} : xe_X11_writeFact ct K R (n + 1) 10 ls st σ k = (oI st fun y st => oI st fun x st => (wI y ≤ wI x → xk_X11_writeFact ct K R n 20 ls st σ k) ∧ (¬ (wI y ≤ wI x) → xk_X11_writeFact ct K R n 13 ls st σ k)) := exS_step.trans rfl
theorem ev_X11_writeFact_13 {ct : Nat → Bool} {K : Kt} {R : Option AV → Hp → Prop} {n : Nat} {ls : List (Option AV)} {st : List AV} {σ : Hp} {k : Nat × Nat} : xe_X11_writeFact ct K R (n + 1) 13 ls st σ k = (lR ls 0 fun x => xk_X11_writeFact ct K R n 14 ls (vr x :: st) σ k) := exS_step.trans rfl
theorem ev_X11_writeFact_14 {ct : Nat → Bool} {K : Kt} {R : Option AV → Hp → Prop} {n : Nat} {ls : List (Option AV)} {st : List AV} {σ : Hp} {k : Nat × Nat} : xe_X11_writeFact ct K R (n + 1) 14 ls st σ k = (oR st fun x st => kd σ x = 12 ∧ xk_X11_writeFact ct K R n 17 ls (vr (fR σ 1208 x) :: st) σ k) := exS_step.trans rfl
theorem ev_X11_writeFact_17 {ct : Nat → Bool} {K : Kt} {R : Option AV → Hp → Prop} {n : Nat} {ls : List (Option AV)} {st : List AV} {σ : Hp} {k : Nat × Nat} : xe_X11_writeFact ct K R (n + 1) 17 ls st σ k = (lI ls 1 fun x => xk_X11_writeFact ct K R n 18 ls (vi x :: st) σ k) := exS_step.trans rfl
theorem ev_X11_writeFact_18 {ct : Nat → Bool} {K : Kt} {R : Option AV → Hp → Prop} {n : Nat} {ls : List (Option AV)} {st : List AV} {σ : Hp} {k : Nat × Nat} : xe_X11_writeFact ct K R (n + 1) 18 ls st σ k = (lI ls 2 fun x => xk_X11_writeFact ct K R n 19 ls (vi x :: st) σ k) := exS_step.trans rfl
theorem ev_X11_writeFact_19 {ct : Nat → Bool} {K : Kt} {R : Option AV → Hp → Prop} {n : Nat} {ls : List (Option AV)} {st : List AV} {σ : Hp} {k : Nat × Nat} : xe_X11_writeFact ct K R (n + 1) 19 ls st σ k = (oI st fun v st => oI st fun j st => oR st fun x st => kd σ x = 101 ∧ (0 ≤ j ∧ j < ln σ x) ∧ xk_X11_writeFact ct K R n 20 ls st (qI σ x j v) k) := exS_step.trans rfl
theorem ev_X11_writeFact_20 {ct : Nat → Bool} {K : Kt} {R : Option AV → Hp → Prop} {n : Nat} {ls : List (Option AV)} {st : List AV} {σ : Hp} {k : Nat × Nat} : xe_X11_writeFact ct K R (n + 1) 20 ls st σ k = (st = [] ∧ 0 = 0 ∧ R none σ) := exS_step.trans rfl
def M_X11_writeFact : Md := (yX11_writeFact, cX11_writeFact, 3, (none : Option FieldType), 1, 0, 0, 0, false, tb_X11_writeFact, mt_X11_writeFact)
theorem mm_X11_writeFact : MMOK M_X11_writeFact := ⟨by decide +kernel, tk_X11_writeFact, mk_X11_writeFact, rfl, fun h => by cases h⟩
theorem go_X11_writeFact {Q : Option AV → Hp → Prop} {ct : Nat → Bool} {pc : Nat} {ls : List (Option AV)} {st : List AV} {σ : Hp} {k : Nat × Nat} (n : Nat) (h : xe_X11_writeFact ct (Go M_X11_writeFact Q) Q n pc ls st σ k) : Go M_X11_writeFact Q pc ls st σ k := Go.exS mm_X11_writeFact h

set_option maxRecDepth 20000 in
theorem c_X11_writeFact : Ct yX11_writeFact cX11_writeFact 3 ((none : Option FieldType)) 1 0 0 sp_X11_writeFact := by
  refine Ct.go (M := M_X11_writeFact) mm_X11_writeFact fun av σ Q h0 => ?_
  obtain ⟨this, i, v, rfl, hk, h⟩ := el_X11_writeFact h0
  clear h0
  refine ⟨Nat.le_of_ble_eq_true rfl, ?_⟩
  show Go M_X11_writeFact Q 0 [some (vr this), some (vi i), some (vi v)] [] σ (0, 0)
  obtain ⟨rfl, hC, hi, h⟩ := h
  refine go_X11_writeFact (ct := fun p => p == 99) 40 ?_
  simp only [oI, oL, oR, o1, lI, lL, lR, popN, catS, gv, stL, stL2, swt, cnd, spObj, List.getElem?_cons_zero, List.getElem?_cons_succ, List.getD_cons_zero, List.getD_cons_succ, List.set_cons_zero, List.set_cons_succ, List.nil_append, List.cons_append, Option.toList, Bool.or_false, Bool.false_or, Bool.or_true, Bool.true_or, Nat.reduceBEq, Nat.reduceAdd, Nat.reduceLT, Nat.reduceLeDiff, Int.reduceAdd, Int.reduceToNat, true_and, and_true, Fin.isValue, Fin.val_zero, Fin.val_one, Fin.val_two, Fin.reduceFinMk, eq_self, Int.reduceNeg, imp_self, Nat.reduceMul, Nat.le_refl, not_true_eq_false, not_false_eq_true, List.getElem?_nil, reduceCtorEq, true_or, or_true, Classical.not_not, implies_true, or_self, wI_0, wI_1, wI_m1, b2i_w, b2i_eq0, b2i_eq1, b2i_bool, nor_self, nx_pI, kd_pI, ln_pI, fI_pI, fL_pI, fR_pI, aI_pI, aL_pI, aR_pI, nx_pL, kd_pL, ln_pL, fI_pL, fL_pL, fR_pL, aI_pL, aL_pL, aR_pL, nx_pR, kd_pR, ln_pR, fI_pR, fL_pR, fR_pR, aI_pR, aL_pR, aR_pR, nx_qI, kd_qI, ln_qI, fI_qI, fL_qI, fR_qI, aI_qI, aL_qI, aR_qI, nx_qL, kd_qL, ln_qL, fI_qL, fL_qL, fR_qL, aI_qL, aL_qL, aR_qL, nx_qR, kd_qR, ln_qR, fI_qR, fL_qR, fR_qR, aI_qR, aL_qR, aR_qR, nx_mk, kd_mk, ln_mk, fI_mk, fL_mk, fR_mk, aI_mk, aL_mk, aR_mk, false_and, and_false, if_false, if_true, and_self, Int.reduceEq, Nat.reduceEqDiff, ite_self, MLay_pI, MLay_pL, MLay_qI, MLay_qL, ev_X11_writeFact_0, ev_X11_writeFact_1, ev_X11_writeFact_4, ev_X11_writeFact_5, ev_X11_writeFact_6, ev_X11_writeFact_9, ev_X11_writeFact_10, ev_X11_writeFact_13, ev_X11_writeFact_14, ev_X11_writeFact_17, ev_X11_writeFact_18, ev_X11_writeFact_19, ev_X11_writeFact_20, xt_X11_writeFact, xf_X11_writeFact, hC.eqs]
  try simp (disch := omega) only [wI_id, dv_nn, rm_nn]
  repeat' (first | intro z | apply And.intro)
  all_goals try omega
  all_goals try contradiction
  all_goals exact h

def sp_X11_answerCall : Sp := fun av σ Q => oR av fun this av => oR av fun p av => av = [] ∧ kd σ this = 12 ∧ (this = 1 ∧ CLay σ ∧ ∃ τ τ0 a b, (DKR σ τ ∧ BG σ τ ∧ MI τ ∧ (0 ≤ a ∧ a < 100) ∧ AlS σ τ a p ∧ aI τ 115 a ≤ mTo τ a) ∧ (fR σ 100 p = lat σ 3 b ∧ aI τ 109 a = b ∧ fI σ 104 p = aI τ 111 a ∧ BxE σ τ b (lat σ 3 b)) ∧ (fI σ 1210 1 = fI τ 1301 61) ∧ (AL σ τ0 ∧ BX σ τ0 ∧ MI τ0 ∧ WI τ0 ∧ AB τ0 ∧ (0 ≤ b ∧ b < fI τ0 1302 61) ∧ mRate τ0 b (fI τ 1301 61 / 86400) = mRate τ b (fI τ 1301 61 / 86400)) ∧ (∀ σ', BG σ' (mAns τ a) → AlS σ' (mAns τ a) a p → Fz ansF (ansA p) noR σ σ' → Q none σ'))
theorem us_X11_answerCall (this : Int) (p : Int) (σ : Hp) (Q : Option AV → Hp → Prop) : sp_X11_answerCall [vr this, vr p] σ Q = (kd σ this = 12 ∧ (this = 1 ∧ CLay σ ∧ ∃ τ τ0 a b, (DKR σ τ ∧ BG σ τ ∧ MI τ ∧ (0 ≤ a ∧ a < 100) ∧ AlS σ τ a p ∧ aI τ 115 a ≤ mTo τ a) ∧ (fR σ 100 p = lat σ 3 b ∧ aI τ 109 a = b ∧ fI σ 104 p = aI τ 111 a ∧ BxE σ τ b (lat σ 3 b)) ∧ (fI σ 1210 1 = fI τ 1301 61) ∧ (AL σ τ0 ∧ BX σ τ0 ∧ MI τ0 ∧ WI τ0 ∧ AB τ0 ∧ (0 ≤ b ∧ b < fI τ0 1302 61) ∧ mRate τ0 b (fI τ 1301 61 / 86400) = mRate τ b (fI τ 1301 61 / 86400)) ∧ (∀ σ', BG σ' (mAns τ a) → AlS σ' (mAns τ a) a p → Fz ansF (ansA p) noR σ σ' → Q none σ'))) := propext ⟨fun h => h.2, fun h => ⟨rfl, h⟩⟩
theorem el_X11_answerCall {av : List AV} {σ : Hp} {Q : Option AV → Hp → Prop} (h : sp_X11_answerCall av σ Q) : ∃ (this : Int) (p : Int), av = [vr this, vr p] ∧ (kd σ this = 12 ∧ (this = 1 ∧ CLay σ ∧ ∃ τ τ0 a b, (DKR σ τ ∧ BG σ τ ∧ MI τ ∧ (0 ≤ a ∧ a < 100) ∧ AlS σ τ a p ∧ aI τ 115 a ≤ mTo τ a) ∧ (fR σ 100 p = lat σ 3 b ∧ aI τ 109 a = b ∧ fI σ 104 p = aI τ 111 a ∧ BxE σ τ b (lat σ 3 b)) ∧ (fI σ 1210 1 = fI τ 1301 61) ∧ (AL σ τ0 ∧ BX σ τ0 ∧ MI τ0 ∧ WI τ0 ∧ AB τ0 ∧ (0 ≤ b ∧ b < fI τ0 1302 61) ∧ mRate τ0 b (fI τ 1301 61 / 86400) = mRate τ b (fI τ 1301 61 / 86400)) ∧ (∀ σ', BG σ' (mAns τ a) → AlS σ' (mAns τ a) a p → Fz ansF (ansA p) noR σ σ' → Q none σ'))) := by
  obtain ⟨this, a0, rfl, h0⟩ := oR_s h
  obtain ⟨p, a1, rfl, h1⟩ := oR_s h0
  obtain ⟨rfl, hz⟩ := h1
  exact ⟨this, p, rfl, hz⟩
theorem rc_X11_answerCall : ∀ (av : List AV) (σ : Hp) (Q : Option AV → Hp → Prop), sp_X11_answerCall av σ Q → ∃ r tl, av = vr r :: tl ∧ kd σ r = 11 + 1 := fun av σ Q h => by
  obtain ⟨this, p, rfl, hz, -⟩ := el_X11_answerCall h
  exact ⟨this, _, rfl, hz⟩

def tb_X11_answerCall : Tab := [(0, .aload_n 1, 1, (0, 0, 0, 0)), (1, .getfield 341, 3, (1, 100, 2, 0)), (4, .astore_n 2, 1, (0, 0, 0, 0)), (5, .aload_n 0, 1, (0, 0, 0, 0)), (6, .iconst 0, 1, (0, 0, 0, 0)), (7, .aload_n 2, 1, (0, 0, 0, 0)), (8, .getfield 294, 3, (3, 300, 0, 0)), (11, .invokevirtual 345, 3, (0, 0, 0, 0)), (14, .aload_n 0, 1, (0, 0, 0, 0)), (15, .iconst 1, 1, (0, 0, 0, 0)), (16, .aload_n 2, 1, (0, 0, 0, 0)), (17, .getfield 285, 3, (3, 307, 0, 0)), (20, .invokevirtual 345, 3, (0, 0, 0, 0)), (23, .aload_n 0, 1, (0, 0, 0, 0)), (24, .iconst 2, 1, (0, 0, 0, 0)), (25, .aload_n 2, 1, (0, 0, 0, 0)), (26, .getfield 291, 3, (3, 303, 0, 0)), (29, .invokevirtual 345, 3, (0, 0, 0, 0)), (32, .aload_n 0, 1, (0, 0, 0, 0)), (33, .iconst 3, 1, (0, 0, 0, 0)), (34, .aload_n 0, 1, (0, 0, 0, 0)), (35, .getfield 69, 3, (12, 1210, 0, 0)), (38, .sipush 3600, 3, (0, 0, 0, 0)), (41, .idiv, 1, (0, 0, 0, 0)), (42, .bipush 24, 2, (0, 0, 0, 0)), (44, .irem, 1, (0, 0, 0, 0)), (45, .invokevirtual 345, 3, (0, 0, 0, 0)), (48, .aload_n 0, 1, (0, 0, 0, 0)), (49, .iconst 4, 1, (0, 0, 0, 0)), (50, .aload_n 1, 1, (0, 0, 0, 0)), (51, .getfield 220, 3, (1, 104, 0, 0)), (54, .invokevirtual 345, 3, (0, 0, 0, 0)), (57, .aload_n 0, 1, (0, 0, 0, 0)), (58, .iconst 5, 1, (0, 0, 0, 0)), (59, .aload_n 0, 1, (0, 0, 0, 0)), (60, .getfield 38, 3, (12, 1204, 2, 0)), (63, .invokevirtual 316, 3, (0, 0, 0, 0)), (66, .invokevirtual 345, 3, (0, 0, 0, 0)), (69, .aload_n 0, 1, (0, 0, 0, 0)), (70, .bipush 6, 2, (0, 0, 0, 0)), (72, .aload_n 0, 1, (0, 0, 0, 0)), (73, .getfield 54, 3, (12, 1207, 2, 0)), (76, .aload_n 2, 1, (0, 0, 0, 0)), (77, .aload_n 0, 1, (0, 0, 0, 0)), (78, .invokevirtual 203, 3, (0, 0, 0, 0)), (81, .invokevirtual 277, 3, (0, 0, 0, 0)), (84, .invokevirtual 345, 3, (0, 0, 0, 0)), (87, .aload_n 0, 1, (0, 0, 0, 0)), (88, .getfield 65, 3, (12, 1209, 2, 0)), (91, .aload_n 0, 1, (0, 0, 0, 0)), (92, .getfield 58, 3, (12, 1208, 2, 0)), (95, .invokevirtual 348, 3, (0, 0, 0, 0)), (98, .istore_n 3, 1, (0, 0, 0, 0)), (99, .iload_n 3, 1, (0, 0, 0, 0)), (100, .iconst (-1), 1, (0, 0, 0, 0)), (101, .if_icmp .eq 45, 3, (0, 0, 0, 0)), (104, .aload_n 0, 1, (0, 0, 0, 0)), (105, .getfield 38, 3, (12, 1204, 2, 0)), (108, .aload_n 1, 1, (0, 0, 0, 0)), (109, .iconst 0, 1, (0, 0, 0, 0)), (110, .aload_n 0, 1, (0, 0, 0, 0)), (111, .getfield 65, 3, (12, 1209, 2, 0)), (114, .iload_n 3, 1, (0, 0, 0, 0)), (115, .invokevirtual 352, 3, (0, 0, 0, 0)), (118, .aload_n 0, 1, (0, 0, 0, 0)), (119, .getfield 69, 3, (12, 1210, 0, 0)), (122, .invokevirtual 355, 3, (0, 0, 0, 0)), (125, .aload_n 0, 1, (0, 0, 0, 0)), (126, .getfield 38, 3, (12, 1204, 2, 0)), (129, .aload_n 1, 1, (0, 0, 0, 0)), (130, .iconst 1, 1, (0, 0, 0, 0)), (131, .aload_n 0, 1, (0, 0, 0, 0)), (132, .getfield 65, 3, (12, 1209, 2, 0)), (135, .iload_n 3, 1, (0, 0, 0, 0)), (136, .invokevirtual 359, 3, (0, 0, 0, 0)), (139, .aload_n 0, 1, (0, 0, 0, 0)), (140, .getfield 69, 3, (12, 1210, 0, 0)), (143, .invokevirtual 355, 3, (0, 0, 0, 0)), (146, .return_, 1, (0, 0, 0, 0))]
set_option maxRecDepth 100000 in
theorem tk_X11_answerCall : TOK RX11 false cX11_answerCall tb_X11_answerCall := chkT_ok ft_X11 (by decide +kernel)
theorem rw_X11_2760 : Row RX11 (.invokevirtual 345) 3 3 0 0 1 sp_X11_writeFact := row_V (n := 2) (ci := 11) c_X11_writeFact ⟨TBL_in 1182 (by decide +kernel) rfl, TBL_in 1185 (by decide +kernel) rfl, TBL_in 111 (by decide +kernel) rfl, by decide +kernel, by decide⟩ (by decide) rfl (TBL_in 1184 (by decide +kernel) rfl) (TBL_in 46 (by decide +kernel) rfl) rc_X11_writeFact
theorem rw_X11_2528 : Row RX11 (.invokevirtual 316) 3 1 0 0 4 sp_X3_countSent := row_V (n := 0) (ci := 3) c_X3_countSent ⟨TBL_in 1186 (by decide +kernel) rfl, TBL_in 1189 (by decide +kernel) rfl, TBL_in 117 (by decide +kernel) rfl, by decide +kernel, by decide⟩ (by decide) rfl (TBL_in 1187 (by decide +kernel) rfl) (TBL_in 1188 (by decide +kernel) rfl) rc_X3_countSent
theorem rw_X11_2784 : Row RX11 (.invokevirtual 348) 3 2 0 0 3 sp_X7_firstThatCounts := row_V (n := 1) (ci := 7) c_X7_firstThatCounts ⟨TBL_in 1206 (by decide +kernel) rfl, TBL_in 1209 (by decide +kernel) rfl, TBL_in 120 (by decide +kernel) rfl, by decide +kernel, by decide⟩ (by decide) rfl (TBL_in 1207 (by decide +kernel) rfl) (TBL_in 1208 (by decide +kernel) rfl) rc_X7_firstThatCounts
theorem rw_X11_2816 : Row RX11 (.invokevirtual 352) 3 2 0 0 1 sp_X7_enginesOf := row_V (n := 1) (ci := 7) c_X7_enginesOf ⟨TBL_in 1225 (by decide +kernel) rfl, TBL_in 1228 (by decide +kernel) rfl, TBL_in 120 (by decide +kernel) rfl, by decide +kernel, by decide⟩ (by decide) rfl (TBL_in 1226 (by decide +kernel) rfl) (TBL_in 1227 (by decide +kernel) rfl) rc_X7_enginesOf
theorem rw_X11_2840 : Row RX11 (.invokevirtual 355) 3 5 0 0 5 sp_X3_sendOut := row_V (n := 4) (ci := 3) c_X3_sendOut ⟨TBL_in 1229 (by decide +kernel) rfl, TBL_in 1232 (by decide +kernel) rfl, TBL_in 117 (by decide +kernel) rfl, by decide +kernel, by decide⟩ (by decide) rfl (TBL_in 1230 (by decide +kernel) rfl) (TBL_in 1231 (by decide +kernel) rfl) rc_X3_sendOut
theorem rw_X11_2872 : Row RX11 (.invokevirtual 359) 3 2 0 0 1 sp_X7_laddersOf := row_V (n := 1) (ci := 7) c_X7_laddersOf ⟨TBL_in 1256 (by decide +kernel) rfl, TBL_in 1259 (by decide +kernel) rfl, TBL_in 120 (by decide +kernel) rfl, by decide +kernel, by decide⟩ (by decide) rfl (TBL_in 1257 (by decide +kernel) rfl) (TBL_in 1258 (by decide +kernel) rfl) rc_X7_laddersOf
def mt_X11_answerCall : List (Nat × Mt) := [(2760, 3, 0, 0, 1, sp_X11_writeFact), (2528, 1, 0, 0, 4, sp_X3_countSent), (1624, 1, 0, 0, 1, sp_X11_today), (2216, 3, 0, 0, 6, sp_X1_rateOn), (2784, 2, 0, 0, 3, sp_X7_firstThatCounts), (2816, 2, 0, 0, 1, sp_X7_enginesOf), (2840, 5, 0, 0, 5, sp_X3_sendOut), (2872, 2, 0, 0, 1, sp_X7_laddersOf)]
theorem em_X11_answerCall : mt_X11_answerCall.lookup 2760 = some (3, 0, 0, 1, sp_X11_writeFact) ∧ mt_X11_answerCall.lookup 2528 = some (1, 0, 0, 4, sp_X3_countSent) ∧ mt_X11_answerCall.lookup 1624 = some (1, 0, 0, 1, sp_X11_today) ∧ mt_X11_answerCall.lookup 2216 = some (3, 0, 0, 6, sp_X1_rateOn) ∧ mt_X11_answerCall.lookup 2784 = some (2, 0, 0, 3, sp_X7_firstThatCounts) ∧ mt_X11_answerCall.lookup 2816 = some (2, 0, 0, 1, sp_X7_enginesOf) ∧ mt_X11_answerCall.lookup 2840 = some (5, 0, 0, 5, sp_X3_sendOut) ∧ mt_X11_answerCall.lookup 2872 = some (2, 0, 0, 1, sp_X7_laddersOf) := ⟨rfl, rfl, rfl, rfl, rfl, rfl, rfl, rfl⟩
theorem mk_X11_answerCall : MOK RX11 mt_X11_answerCall := by
  intro q hq
  simp only [mt_X11_answerCall, List.mem_cons, List.not_mem_nil, or_false] at hq
  rcases hq with rfl | rfl | rfl | rfl | rfl | rfl | rfl | rfl
  · exact rw_X11_2760
  · exact rw_X11_2528
  · exact rw_X11_1624
  · exact rw_X11_2216
  · exact rw_X11_2784
  · exact rw_X11_2816
  · exact rw_X11_2840
  · exact rw_X11_2872
noncomputable def xe_X11_answerCall (ct : Nat → Bool) (K : Kt) (R : Option AV → Hp → Prop) (n : Nat) : Kt := exS 4 7 0 0 0 tb_X11_answerCall mt_X11_answerCall ct K R n
noncomputable def xk_X11_answerCall (ct : Nat → Bool) (K : Kt) (R : Option AV → Hp → Prop) (n : Nat) : Kt := exkS 4 7 0 0 0 tb_X11_answerCall mt_X11_answerCall ct K R n
theorem xt_X11_answerCall {ct : Nat → Bool} {K : Kt} {R : Option AV → Hp → Prop} {n pc : Nat} {ls : List (Option AV)} {st : List AV} {σ : Hp} {k : Nat × Nat} (h : ct pc = true) : xk_X11_answerCall ct K R n pc ls st σ k = K pc ls st σ k := by unfold xk_X11_answerCall exkS; rw [h]
theorem xf_X11_answerCall {ct : Nat → Bool} {K : Kt} {R : Option AV → Hp → Prop} {n pc : Nat} {ls : List (Option AV)} {st : List AV} {σ : Hp} {k : Nat × Nat} (h : ct pc = false) : xk_X11_answerCall ct K R n pc ls st σ k = xe_X11_answerCall ct K R n pc ls st σ k := by unfold xk_X11_answerCall exkS xe_X11_answerCall; rw [h]
theorem ev_X11_answerCall_0 {ct : Nat → Bool} {K : Kt} {R : Option AV → Hp → Prop} {n : Nat} {ls : List (Option AV)} {st : List AV} {σ : Hp} {k : Nat × Nat} : xe_X11_answerCall ct K R (n + 1) 0 ls st σ k = (lR ls 1 fun x => xk_X11_answerCall ct K R n 1 ls (vr x :: st) σ k) := exS_step.trans rfl
theorem ev_X11_answerCall_1 {ct : Nat → Bool} {K : Kt} {R : Option AV → Hp → Prop} {n : Nat} {ls : List (Option AV)} {st : List AV} {σ : Hp} {k : Nat × Nat} : xe_X11_answerCall ct K R (n + 1) 1 ls st σ k = (oR st fun x st => kd σ x = 1 ∧ xk_X11_answerCall ct K R n 4 ls (vr (fR σ 100 x) :: st) σ k) := exS_step.trans rfl
theorem ev_X11_answerCall_4 {ct : Nat → Bool} {K : Kt} {R : Option AV → Hp → Prop} {n : Nat} {ls : List (Option AV)} {st : List AV} {σ : Hp} {k : Nat × Nat} : xe_X11_answerCall ct K R (n + 1) 4 ls st σ k = (oR st fun x st => 2 < 4 ∧ xk_X11_answerCall ct K R n 5 (stL ls 2 (vr x)) st σ k) := exS_step.trans rfl
theorem ev_X11_answerCall_5 {ct : Nat → Bool} {K : Kt} {R : Option AV → Hp → Prop} {n : Nat} {ls : List (Option AV)} {st : List AV} {σ : Hp} {k : Nat × Nat} : xe_X11_answerCall ct K R (n + 1) 5 ls st σ k = (lR ls 0 fun x => xk_X11_answerCall ct K R n 6 ls (vr x :: st) σ k) := exS_step.trans rfl
theorem ev_X11_answerCall_6 {ct : Nat → Bool} {K : Kt} {R : Option AV → Hp → Prop} {n : Nat} {ls : List (Option AV)} {st : List AV} {σ : Hp} {k : Nat × Nat} : xe_X11_answerCall ct K R (n + 1) 6 ls st σ k = (xk_X11_answerCall ct K R n 7 ls (vi (0) :: st) σ k) := exS_step.trans rfl
theorem ev_X11_answerCall_7 {ct : Nat → Bool} {K : Kt} {R : Option AV → Hp → Prop} {n : Nat} {ls : List (Option AV)} {st : List AV} {σ : Hp} {k : Nat × Nat} : xe_X11_answerCall ct K R (n + 1) 7 ls st σ k = (lR ls 2 fun x => xk_X11_answerCall ct K R n 8 ls (vr x :: st) σ k) := exS_step.trans rfl
theorem ev_X11_answerCall_8 {ct : Nat → Bool} {K : Kt} {R : Option AV → Hp → Prop} {n : Nat} {ls : List (Option AV)} {st : List AV} {σ : Hp} {k : Nat × Nat} : xe_X11_answerCall ct K R (n + 1) 8 ls st σ k = (oR st fun x st => kd σ x = 3 ∧ xk_X11_answerCall ct K R n 11 ls (vi (fI σ 300 x) :: st) σ k) := exS_step.trans rfl
theorem ev_X11_answerCall_11 {ct : Nat → Bool} {K : Kt} {R : Option AV → Hp → Prop} {n : Nat} {ls : List (Option AV)} {st : List AV} {σ : Hp} {k : Nat × Nat} : xe_X11_answerCall ct K R (n + 1) 11 ls st σ k = (popN 3 st [] fun av rest => (catS rest ≤ 8 ∧ 1 < 7 ∧ k.1 + 0 ≤ 0 ∧ k.2 + 0 ≤ 0) ∧ (sp_X11_writeFact) av σ fun v σ' => xk_X11_answerCall ct K R n 14 ls (v.toList ++ rest) σ' (k.1 + 0, k.2 + 0)) := exS_step.trans rfl
theorem ev_X11_answerCall_14 {ct : Nat → Bool} {K : Kt} {R : Option AV → Hp → Prop} {n : Nat} {ls : List (Option AV)} {st : List AV} {σ : Hp} {k : Nat × Nat} : xe_X11_answerCall ct K R (n + 1) 14 ls st σ k = (lR ls 0 fun x => xk_X11_answerCall ct K R n 15 ls (vr x :: st) σ k) := exS_step.trans rfl
theorem ev_X11_answerCall_15 {ct : Nat → Bool} {K : Kt} {R : Option AV → Hp → Prop} {n : Nat} {ls : List (Option AV)} {st : List AV} {σ : Hp} {k : Nat × Nat} : xe_X11_answerCall ct K R (n + 1) 15 ls st σ k = (xk_X11_answerCall ct K R n 16 ls (vi (1) :: st) σ k) := exS_step.trans rfl
theorem ev_X11_answerCall_16 {ct : Nat → Bool} {K : Kt} {R : Option AV → Hp → Prop} {n : Nat} {ls : List (Option AV)} {st : List AV} {σ : Hp} {k : Nat × Nat} : xe_X11_answerCall ct K R (n + 1) 16 ls st σ k = (lR ls 2 fun x => xk_X11_answerCall ct K R n 17 ls (vr x :: st) σ k) := exS_step.trans rfl
theorem ev_X11_answerCall_17 {ct : Nat → Bool} {K : Kt} {R : Option AV → Hp → Prop} {n : Nat} {ls : List (Option AV)} {st : List AV} {σ : Hp} {k : Nat × Nat} : xe_X11_answerCall ct K R (n + 1) 17 ls st σ k = (oR st fun x st => kd σ x = 3 ∧ xk_X11_answerCall ct K R n 20 ls (vi (fI σ 307 x) :: st) σ k) := exS_step.trans rfl
theorem ev_X11_answerCall_20 {ct : Nat → Bool} {K : Kt} {R : Option AV → Hp → Prop} {n : Nat} {ls : List (Option AV)} {st : List AV} {σ : Hp} {k : Nat × Nat} : xe_X11_answerCall ct K R (n + 1) 20 ls st σ k = (popN 3 st [] fun av rest => (catS rest ≤ 8 ∧ 1 < 7 ∧ k.1 + 0 ≤ 0 ∧ k.2 + 0 ≤ 0) ∧ (sp_X11_writeFact) av σ fun v σ' => xk_X11_answerCall ct K R n 23 ls (v.toList ++ rest) σ' (k.1 + 0, k.2 + 0)) := exS_step.trans rfl
theorem ev_X11_answerCall_23 {ct : Nat → Bool} {K : Kt} {R : Option AV → Hp → Prop} {n : Nat} {ls : List (Option AV)} {st : List AV} {σ : Hp} {k : Nat × Nat} : xe_X11_answerCall ct K R (n + 1) 23 ls st σ k = (lR ls 0 fun x => xk_X11_answerCall ct K R n 24 ls (vr x :: st) σ k) := exS_step.trans rfl
theorem ev_X11_answerCall_24 {ct : Nat → Bool} {K : Kt} {R : Option AV → Hp → Prop} {n : Nat} {ls : List (Option AV)} {st : List AV} {σ : Hp} {k : Nat × Nat} : xe_X11_answerCall ct K R (n + 1) 24 ls st σ k = (xk_X11_answerCall ct K R n 25 ls (vi (2) :: st) σ k) := exS_step.trans rfl
theorem ev_X11_answerCall_25 {ct : Nat → Bool} {K : Kt} {R : Option AV → Hp → Prop} {n : Nat} {ls : List (Option AV)} {st : List AV} {σ : Hp} {k : Nat × Nat} : xe_X11_answerCall ct K R (n + 1) 25 ls st σ k = (lR ls 2 fun x => xk_X11_answerCall ct K R n 26 ls (vr x :: st) σ k) := exS_step.trans rfl
theorem ev_X11_answerCall_26 {ct : Nat → Bool} {K : Kt} {R : Option AV → Hp → Prop} {n : Nat} {ls : List (Option AV)} {st : List AV} {σ : Hp} {k : Nat × Nat} : xe_X11_answerCall ct K R (n + 1) 26 ls st σ k = (oR st fun x st => kd σ x = 3 ∧ xk_X11_answerCall ct K R n 29 ls (vi (fI σ 303 x) :: st) σ k) := exS_step.trans rfl
theorem ev_X11_answerCall_29 {ct : Nat → Bool} {K : Kt} {R : Option AV → Hp → Prop} {n : Nat} {ls : List (Option AV)} {st : List AV} {σ : Hp} {k : Nat × Nat} : xe_X11_answerCall ct K R (n + 1) 29 ls st σ k = (popN 3 st [] fun av rest => (catS rest ≤ 8 ∧ 1 < 7 ∧ k.1 + 0 ≤ 0 ∧ k.2 + 0 ≤ 0) ∧ (sp_X11_writeFact) av σ fun v σ' => xk_X11_answerCall ct K R n 32 ls (v.toList ++ rest) σ' (k.1 + 0, k.2 + 0)) := exS_step.trans rfl
theorem ev_X11_answerCall_32 {ct : Nat → Bool} {K : Kt} {R : Option AV → Hp → Prop} {n : Nat} {ls : List (Option AV)} {st : List AV} {σ : Hp} {k : Nat × Nat} : xe_X11_answerCall ct K R (n + 1) 32 ls st σ k = (lR ls 0 fun x => xk_X11_answerCall ct K R n 33 ls (vr x :: st) σ k) := exS_step.trans rfl
theorem ev_X11_answerCall_33 {ct : Nat → Bool} {K : Kt} {R : Option AV → Hp → Prop} {n : Nat} {ls : List (Option AV)} {st : List AV} {σ : Hp} {k : Nat × Nat} : xe_X11_answerCall ct K R (n + 1) 33 ls st σ k = (xk_X11_answerCall ct K R n 34 ls (vi (3) :: st) σ k) := exS_step.trans rfl
theorem ev_X11_answerCall_34 {ct : Nat → Bool} {K : Kt} {R : Option AV → Hp → Prop} {n : Nat} {ls : List (Option AV)} {st : List AV} {σ : Hp} {k : Nat × Nat} : xe_X11_answerCall ct K R (n + 1) 34 ls st σ k = (lR ls 0 fun x => xk_X11_answerCall ct K R n 35 ls (vr x :: st) σ k) := exS_step.trans rfl
theorem ev_X11_answerCall_35 {ct : Nat → Bool} {K : Kt} {R : Option AV → Hp → Prop} {n : Nat} {ls : List (Option AV)} {st : List AV} {σ : Hp} {k : Nat × Nat} : xe_X11_answerCall ct K R (n + 1) 35 ls st σ k = (oR st fun x st => kd σ x = 12 ∧ xk_X11_answerCall ct K R n 38 ls (vi (fI σ 1210 x) :: st) σ k) := exS_step.trans rfl
theorem ev_X11_answerCall_38 {ct : Nat → Bool} {K : Kt} {R : Option AV → Hp → Prop} {n : Nat} {ls : List (Option AV)} {st : List AV} {σ : Hp} {k : Nat × Nat} : xe_X11_answerCall ct K R (n + 1) 38 ls st σ k = (xk_X11_answerCall ct K R n 41 ls (vi (3600) :: st) σ k) := exS_step.trans rfl
theorem ev_X11_answerCall_41 {ct : Nat → Bool} {K : Kt} {R : Option AV → Hp → Prop} {n : Nat} {ls : List (Option AV)} {st : List AV} {σ : Hp} {k : Nat × Nat} : xe_X11_answerCall ct K R (n + 1) 41 ls st σ k = (oI st fun y st => oI st fun x st => ¬ wI y = 0 ∧ xk_X11_answerCall ct K R n 42 ls (vi (dvI x y) :: st) σ k) := exS_step.trans rfl
theorem ev_X11_answerCall_42 {ct : Nat → Bool} {K : Kt} {R : Option AV → Hp → Prop} {n : Nat} {ls : List (Option AV)} {st : List AV} {σ : Hp} {k : Nat × Nat} : xe_X11_answerCall ct K R (n + 1) 42 ls st σ k = (xk_X11_answerCall ct K R n 44 ls (vi (24) :: st) σ k) := exS_step.trans rfl
theorem ev_X11_answerCall_44 {ct : Nat → Bool} {K : Kt} {R : Option AV → Hp → Prop} {n : Nat} {ls : List (Option AV)} {st : List AV} {σ : Hp} {k : Nat × Nat} : xe_X11_answerCall ct K R (n + 1) 44 ls st σ k = (oI st fun y st => oI st fun x st => ¬ wI y = 0 ∧ xk_X11_answerCall ct K R n 45 ls (vi (rmI x y) :: st) σ k) := exS_step.trans rfl
theorem ev_X11_answerCall_45 {ct : Nat → Bool} {K : Kt} {R : Option AV → Hp → Prop} {n : Nat} {ls : List (Option AV)} {st : List AV} {σ : Hp} {k : Nat × Nat} : xe_X11_answerCall ct K R (n + 1) 45 ls st σ k = (popN 3 st [] fun av rest => (catS rest ≤ 8 ∧ 1 < 7 ∧ k.1 + 0 ≤ 0 ∧ k.2 + 0 ≤ 0) ∧ (sp_X11_writeFact) av σ fun v σ' => xk_X11_answerCall ct K R n 48 ls (v.toList ++ rest) σ' (k.1 + 0, k.2 + 0)) := exS_step.trans rfl
theorem ev_X11_answerCall_48 {ct : Nat → Bool} {K : Kt} {R : Option AV → Hp → Prop} {n : Nat} {ls : List (Option AV)} {st : List AV} {σ : Hp} {k : Nat × Nat} : xe_X11_answerCall ct K R (n + 1) 48 ls st σ k = (lR ls 0 fun x => xk_X11_answerCall ct K R n 49 ls (vr x :: st) σ k) := exS_step.trans rfl
theorem ev_X11_answerCall_49 {ct : Nat → Bool} {K : Kt} {R : Option AV → Hp → Prop} {n : Nat} {ls : List (Option AV)} {st : List AV} {σ : Hp} {k : Nat × Nat} : xe_X11_answerCall ct K R (n + 1) 49 ls st σ k = (xk_X11_answerCall ct K R n 50 ls (vi (4) :: st) σ k) := exS_step.trans rfl
theorem ev_X11_answerCall_50 {ct : Nat → Bool} {K : Kt} {R : Option AV → Hp → Prop} {n : Nat} {ls : List (Option AV)} {st : List AV} {σ : Hp} {k : Nat × Nat} : xe_X11_answerCall ct K R (n + 1) 50 ls st σ k = (lR ls 1 fun x => xk_X11_answerCall ct K R n 51 ls (vr x :: st) σ k) := exS_step.trans rfl
theorem ev_X11_answerCall_51 {ct : Nat → Bool} {K : Kt} {R : Option AV → Hp → Prop} {n : Nat} {ls : List (Option AV)} {st : List AV} {σ : Hp} {k : Nat × Nat} : xe_X11_answerCall ct K R (n + 1) 51 ls st σ k = (oR st fun x st => kd σ x = 1 ∧ xk_X11_answerCall ct K R n 54 ls (vi (fI σ 104 x) :: st) σ k) := exS_step.trans rfl
theorem ev_X11_answerCall_54 {ct : Nat → Bool} {K : Kt} {R : Option AV → Hp → Prop} {n : Nat} {ls : List (Option AV)} {st : List AV} {σ : Hp} {k : Nat × Nat} : xe_X11_answerCall ct K R (n + 1) 54 ls st σ k = (popN 3 st [] fun av rest => (catS rest ≤ 8 ∧ 1 < 7 ∧ k.1 + 0 ≤ 0 ∧ k.2 + 0 ≤ 0) ∧ (sp_X11_writeFact) av σ fun v σ' => xk_X11_answerCall ct K R n 57 ls (v.toList ++ rest) σ' (k.1 + 0, k.2 + 0)) := exS_step.trans rfl
theorem ev_X11_answerCall_57 {ct : Nat → Bool} {K : Kt} {R : Option AV → Hp → Prop} {n : Nat} {ls : List (Option AV)} {st : List AV} {σ : Hp} {k : Nat × Nat} : xe_X11_answerCall ct K R (n + 1) 57 ls st σ k = (lR ls 0 fun x => xk_X11_answerCall ct K R n 58 ls (vr x :: st) σ k) := exS_step.trans rfl
theorem ev_X11_answerCall_58 {ct : Nat → Bool} {K : Kt} {R : Option AV → Hp → Prop} {n : Nat} {ls : List (Option AV)} {st : List AV} {σ : Hp} {k : Nat × Nat} : xe_X11_answerCall ct K R (n + 1) 58 ls st σ k = (xk_X11_answerCall ct K R n 59 ls (vi (5) :: st) σ k) := exS_step.trans rfl
theorem ev_X11_answerCall_59 {ct : Nat → Bool} {K : Kt} {R : Option AV → Hp → Prop} {n : Nat} {ls : List (Option AV)} {st : List AV} {σ : Hp} {k : Nat × Nat} : xe_X11_answerCall ct K R (n + 1) 59 ls st σ k = (lR ls 0 fun x => xk_X11_answerCall ct K R n 60 ls (vr x :: st) σ k) := exS_step.trans rfl
theorem ev_X11_answerCall_60 {ct : Nat → Bool} {K : Kt} {R : Option AV → Hp → Prop} {n : Nat} {ls : List (Option AV)} {st : List AV} {σ : Hp} {k : Nat × Nat} : xe_X11_answerCall ct K R (n + 1) 60 ls st σ k = (oR st fun x st => kd σ x = 12 ∧ xk_X11_answerCall ct K R n 63 ls (vr (fR σ 1204 x) :: st) σ k) := exS_step.trans rfl
theorem ev_X11_answerCall_63 {ct : Nat → Bool} {K : Kt} {R : Option AV → Hp → Prop} {n : Nat} {ls : List (Option AV)} {st : List AV} {σ : Hp} {k : Nat × Nat} : xe_X11_answerCall ct K R (n + 1) 63 ls st σ k = (popN 1 st [] fun av rest => (catS rest ≤ 8 ∧ 4 < 7 ∧ k.1 + 0 ≤ 0 ∧ k.2 + 0 ≤ 0) ∧ (sp_X3_countSent) av σ fun v σ' => xk_X11_answerCall ct K R n 66 ls (v.toList ++ rest) σ' (k.1 + 0, k.2 + 0)) := exS_step.trans rfl
theorem ev_X11_answerCall_66 {ct : Nat → Bool} {K : Kt} {R : Option AV → Hp → Prop} {n : Nat} {ls : List (Option AV)} {st : List AV} {σ : Hp} {k : Nat × Nat} : xe_X11_answerCall ct K R (n + 1) 66 ls st σ k = (popN 3 st [] fun av rest => (catS rest ≤ 8 ∧ 1 < 7 ∧ k.1 + 0 ≤ 0 ∧ k.2 + 0 ≤ 0) ∧ (sp_X11_writeFact) av σ fun v σ' => xk_X11_answerCall ct K R n 69 ls (v.toList ++ rest) σ' (k.1 + 0, k.2 + 0)) := exS_step.trans rfl
theorem ev_X11_answerCall_69 {ct : Nat → Bool} {K : Kt} {R : Option AV → Hp → Prop} {n : Nat} {ls : List (Option AV)} {st : List AV} {σ : Hp} {k : Nat × Nat} : xe_X11_answerCall ct K R (n + 1) 69 ls st σ k = (lR ls 0 fun x => xk_X11_answerCall ct K R n 70 ls (vr x :: st) σ k) := exS_step.trans rfl
theorem ev_X11_answerCall_70 {ct : Nat → Bool} {K : Kt} {R : Option AV → Hp → Prop} {n : Nat} {ls : List (Option AV)} {st : List AV} {σ : Hp} {k : Nat × Nat} : xe_X11_answerCall ct K R (n + 1) 70 ls st σ k = (xk_X11_answerCall ct K R n 72 ls (vi (6) :: st) σ k) := exS_step.trans rfl
theorem ev_X11_answerCall_72 {ct : Nat → Bool} {K : Kt} {R : Option AV → Hp → Prop} {n : Nat} {ls : List (Option AV)} {st : List AV} {σ : Hp} {k : Nat × Nat} : xe_X11_answerCall ct K R (n + 1) 72 ls st σ k = (lR ls 0 fun x => xk_X11_answerCall ct K R n 73 ls (vr x :: st) σ k) := exS_step.trans rfl
theorem ev_X11_answerCall_73 {ct : Nat → Bool} {K : Kt} {R : Option AV → Hp → Prop} {n : Nat} {ls : List (Option AV)} {st : List AV} {σ : Hp} {k : Nat × Nat} : xe_X11_answerCall ct K R (n + 1) 73 ls st σ k = (oR st fun x st => kd σ x = 12 ∧ xk_X11_answerCall ct K R n 76 ls (vr (fR σ 1207 x) :: st) σ k) := exS_step.trans rfl
theorem ev_X11_answerCall_76 {ct : Nat → Bool} {K : Kt} {R : Option AV → Hp → Prop} {n : Nat} {ls : List (Option AV)} {st : List AV} {σ : Hp} {k : Nat × Nat} : xe_X11_answerCall ct K R (n + 1) 76 ls st σ k = (lR ls 2 fun x => xk_X11_answerCall ct K R n 77 ls (vr x :: st) σ k) := exS_step.trans rfl
theorem ev_X11_answerCall_77 {ct : Nat → Bool} {K : Kt} {R : Option AV → Hp → Prop} {n : Nat} {ls : List (Option AV)} {st : List AV} {σ : Hp} {k : Nat × Nat} : xe_X11_answerCall ct K R (n + 1) 77 ls st σ k = (lR ls 0 fun x => xk_X11_answerCall ct K R n 78 ls (vr x :: st) σ k) := exS_step.trans rfl
theorem ev_X11_answerCall_78 {ct : Nat → Bool} {K : Kt} {R : Option AV → Hp → Prop} {n : Nat} {ls : List (Option AV)} {st : List AV} {σ : Hp} {k : Nat × Nat} : xe_X11_answerCall ct K R (n + 1) 78 ls st σ k = (popN 1 st [] fun av rest => (catS rest ≤ 8 ∧ 1 < 7 ∧ k.1 + 0 ≤ 0 ∧ k.2 + 0 ≤ 0) ∧ (sp_X11_today) av σ fun v σ' => xk_X11_answerCall ct K R n 81 ls (v.toList ++ rest) σ' (k.1 + 0, k.2 + 0)) := exS_step.trans rfl
theorem ev_X11_answerCall_81 {ct : Nat → Bool} {K : Kt} {R : Option AV → Hp → Prop} {n : Nat} {ls : List (Option AV)} {st : List AV} {σ : Hp} {k : Nat × Nat} : xe_X11_answerCall ct K R (n + 1) 81 ls st σ k = (popN 3 st [] fun av rest => (catS rest ≤ 8 ∧ 6 < 7 ∧ k.1 + 0 ≤ 0 ∧ k.2 + 0 ≤ 0) ∧ (sp_X1_rateOn) av σ fun v σ' => xk_X11_answerCall ct K R n 84 ls (v.toList ++ rest) σ' (k.1 + 0, k.2 + 0)) := exS_step.trans rfl
theorem ev_X11_answerCall_84 {ct : Nat → Bool} {K : Kt} {R : Option AV → Hp → Prop} {n : Nat} {ls : List (Option AV)} {st : List AV} {σ : Hp} {k : Nat × Nat} : xe_X11_answerCall ct K R (n + 1) 84 ls st σ k = (popN 3 st [] fun av rest => (catS rest ≤ 8 ∧ 1 < 7 ∧ k.1 + 0 ≤ 0 ∧ k.2 + 0 ≤ 0) ∧ (sp_X11_writeFact) av σ fun v σ' => xk_X11_answerCall ct K R n 87 ls (v.toList ++ rest) σ' (k.1 + 0, k.2 + 0)) := exS_step.trans rfl
theorem ev_X11_answerCall_87 {ct : Nat → Bool} {K : Kt} {R : Option AV → Hp → Prop} {n : Nat} {ls : List (Option AV)} {st : List AV} {σ : Hp} {k : Nat × Nat} : xe_X11_answerCall ct K R (n + 1) 87 ls st σ k = (lR ls 0 fun x => xk_X11_answerCall ct K R n 88 ls (vr x :: st) σ k) := exS_step.trans rfl
theorem ev_X11_answerCall_88 {ct : Nat → Bool} {K : Kt} {R : Option AV → Hp → Prop} {n : Nat} {ls : List (Option AV)} {st : List AV} {σ : Hp} {k : Nat × Nat} : xe_X11_answerCall ct K R (n + 1) 88 ls st σ k = (oR st fun x st => kd σ x = 12 ∧ xk_X11_answerCall ct K R n 91 ls (vr (fR σ 1209 x) :: st) σ k) := exS_step.trans rfl
theorem ev_X11_answerCall_91 {ct : Nat → Bool} {K : Kt} {R : Option AV → Hp → Prop} {n : Nat} {ls : List (Option AV)} {st : List AV} {σ : Hp} {k : Nat × Nat} : xe_X11_answerCall ct K R (n + 1) 91 ls st σ k = (lR ls 0 fun x => xk_X11_answerCall ct K R n 92 ls (vr x :: st) σ k) := exS_step.trans rfl
theorem ev_X11_answerCall_92 {ct : Nat → Bool} {K : Kt} {R : Option AV → Hp → Prop} {n : Nat} {ls : List (Option AV)} {st : List AV} {σ : Hp} {k : Nat × Nat} : xe_X11_answerCall ct K R (n + 1) 92 ls st σ k = (oR st fun x st => kd σ x = 12 ∧ xk_X11_answerCall ct K R n 95 ls (vr (fR σ 1208 x) :: st) σ k) := exS_step.trans rfl
theorem ev_X11_answerCall_95 {ct : Nat → Bool} {K : Kt} {R : Option AV → Hp → Prop} {n : Nat} {ls : List (Option AV)} {st : List AV} {σ : Hp} {k : Nat × Nat} : xe_X11_answerCall ct K R (n + 1) 95 ls st σ k = (popN 2 st [] fun av rest => (catS rest ≤ 8 ∧ 3 < 7 ∧ k.1 + 0 ≤ 0 ∧ k.2 + 0 ≤ 0) ∧ (sp_X7_firstThatCounts) av σ fun v σ' => xk_X11_answerCall ct K R n 98 ls (v.toList ++ rest) σ' (k.1 + 0, k.2 + 0)) := exS_step.trans rfl
theorem ev_X11_answerCall_98 {ct : Nat → Bool} {K : Kt} {R : Option AV → Hp → Prop} {n : Nat} {ls : List (Option AV)} {st : List AV} {σ : Hp} {k : Nat × Nat} : xe_X11_answerCall ct K R (n + 1) 98 ls st σ k = (oI st fun x st => 3 < 4 ∧ xk_X11_answerCall ct K R n 99 (stL ls 3 (vi x)) st σ k) := exS_step.trans rfl
theorem ev_X11_answerCall_99 {ct : Nat → Bool} {K : Kt} {R : Option AV → Hp → Prop} {n : Nat} {ls : List (Option AV)} {st : List AV} {σ : Hp} {k : Nat × Nat} : xe_X11_answerCall ct K R (n + 1) 99 ls st σ k = (lI ls 3 fun x => xk_X11_answerCall ct K R n 100 ls (vi x :: st) σ k) := exS_step.trans rfl
theorem ev_X11_answerCall_100 {ct : Nat → Bool} {K : Kt} {R : Option AV → Hp → Prop} {n : Nat} {ls : List (Option AV)} {st : List AV} {σ : Hp} {k : Nat × Nat} : xe_X11_answerCall ct K R (n + 1) 100 ls st σ k = (xk_X11_answerCall ct K R n 101 ls (vi (-1) :: st) σ k) := exS_step.trans rfl
theorem ev_X11_answerCall_101 {ct : Nat → Bool} {K : Kt} {R : Option AV → Hp → Prop} {n : Nat} {ls : List (Option AV)} {st : List AV} {σ : Hp} {k : Nat × Nat} : xe_X11_answerCall ct K R (n + 1) 101 ls st σ k = (oI st fun y st => oI st fun x st => (wI x = wI y → xk_X11_answerCall ct K R n 146 ls st σ k) ∧ (¬ (wI x = wI y) → xk_X11_answerCall ct K R n 104 ls st σ k)) := exS_step.trans rfl
theorem ev_X11_answerCall_104 {ct : Nat → Bool} {K : Kt} {R : Option AV → Hp → Prop} {n : Nat} {ls : List (Option AV)} {st : List AV} {σ : Hp} {k : Nat × Nat} : xe_X11_answerCall ct K R (n + 1) 104 ls st σ k = (lR ls 0 fun x => xk_X11_answerCall ct K R n 105 ls (vr x :: st) σ k) := exS_step.trans rfl
theorem ev_X11_answerCall_105 {ct : Nat → Bool} {K : Kt} {R : Option AV → Hp → Prop} {n : Nat} {ls : List (Option AV)} {st : List AV} {σ : Hp} {k : Nat × Nat} : xe_X11_answerCall ct K R (n + 1) 105 ls st σ k = (oR st fun x st => kd σ x = 12 ∧ xk_X11_answerCall ct K R n 108 ls (vr (fR σ 1204 x) :: st) σ k) := exS_step.trans rfl
theorem ev_X11_answerCall_108 {ct : Nat → Bool} {K : Kt} {R : Option AV → Hp → Prop} {n : Nat} {ls : List (Option AV)} {st : List AV} {σ : Hp} {k : Nat × Nat} : xe_X11_answerCall ct K R (n + 1) 108 ls st σ k = (lR ls 1 fun x => xk_X11_answerCall ct K R n 109 ls (vr x :: st) σ k) := exS_step.trans rfl
theorem ev_X11_answerCall_109 {ct : Nat → Bool} {K : Kt} {R : Option AV → Hp → Prop} {n : Nat} {ls : List (Option AV)} {st : List AV} {σ : Hp} {k : Nat × Nat} : xe_X11_answerCall ct K R (n + 1) 109 ls st σ k = (xk_X11_answerCall ct K R n 110 ls (vi (0) :: st) σ k) := exS_step.trans rfl
theorem ev_X11_answerCall_110 {ct : Nat → Bool} {K : Kt} {R : Option AV → Hp → Prop} {n : Nat} {ls : List (Option AV)} {st : List AV} {σ : Hp} {k : Nat × Nat} : xe_X11_answerCall ct K R (n + 1) 110 ls st σ k = (lR ls 0 fun x => xk_X11_answerCall ct K R n 111 ls (vr x :: st) σ k) := exS_step.trans rfl
theorem ev_X11_answerCall_111 {ct : Nat → Bool} {K : Kt} {R : Option AV → Hp → Prop} {n : Nat} {ls : List (Option AV)} {st : List AV} {σ : Hp} {k : Nat × Nat} : xe_X11_answerCall ct K R (n + 1) 111 ls st σ k = (oR st fun x st => kd σ x = 12 ∧ xk_X11_answerCall ct K R n 114 ls (vr (fR σ 1209 x) :: st) σ k) := exS_step.trans rfl
theorem ev_X11_answerCall_114 {ct : Nat → Bool} {K : Kt} {R : Option AV → Hp → Prop} {n : Nat} {ls : List (Option AV)} {st : List AV} {σ : Hp} {k : Nat × Nat} : xe_X11_answerCall ct K R (n + 1) 114 ls st σ k = (lI ls 3 fun x => xk_X11_answerCall ct K R n 115 ls (vi x :: st) σ k) := exS_step.trans rfl
theorem ev_X11_answerCall_115 {ct : Nat → Bool} {K : Kt} {R : Option AV → Hp → Prop} {n : Nat} {ls : List (Option AV)} {st : List AV} {σ : Hp} {k : Nat × Nat} : xe_X11_answerCall ct K R (n + 1) 115 ls st σ k = (popN 2 st [] fun av rest => (catS rest ≤ 8 ∧ 1 < 7 ∧ k.1 + 0 ≤ 0 ∧ k.2 + 0 ≤ 0) ∧ (sp_X7_enginesOf) av σ fun v σ' => xk_X11_answerCall ct K R n 118 ls (v.toList ++ rest) σ' (k.1 + 0, k.2 + 0)) := exS_step.trans rfl
theorem ev_X11_answerCall_118 {ct : Nat → Bool} {K : Kt} {R : Option AV → Hp → Prop} {n : Nat} {ls : List (Option AV)} {st : List AV} {σ : Hp} {k : Nat × Nat} : xe_X11_answerCall ct K R (n + 1) 118 ls st σ k = (lR ls 0 fun x => xk_X11_answerCall ct K R n 119 ls (vr x :: st) σ k) := exS_step.trans rfl
theorem ev_X11_answerCall_119 {ct : Nat → Bool} {K : Kt} {R : Option AV → Hp → Prop} {n : Nat} {ls : List (Option AV)} {st : List AV} {σ : Hp} {k : Nat × Nat} : xe_X11_answerCall ct K R (n + 1) 119 ls st σ k = (oR st fun x st => kd σ x = 12 ∧ xk_X11_answerCall ct K R n 122 ls (vi (fI σ 1210 x) :: st) σ k) := exS_step.trans rfl
theorem ev_X11_answerCall_122 {ct : Nat → Bool} {K : Kt} {R : Option AV → Hp → Prop} {n : Nat} {ls : List (Option AV)} {st : List AV} {σ : Hp} {k : Nat × Nat} : xe_X11_answerCall ct K R (n + 1) 122 ls st σ k = (popN 5 st [] fun av rest => (catS rest ≤ 8 ∧ 5 < 7 ∧ k.1 + 0 ≤ 0 ∧ k.2 + 0 ≤ 0) ∧ (sp_X3_sendOut) av σ fun v σ' => xk_X11_answerCall ct K R n 125 ls (v.toList ++ rest) σ' (k.1 + 0, k.2 + 0)) := exS_step.trans rfl
theorem ev_X11_answerCall_125 {ct : Nat → Bool} {K : Kt} {R : Option AV → Hp → Prop} {n : Nat} {ls : List (Option AV)} {st : List AV} {σ : Hp} {k : Nat × Nat} : xe_X11_answerCall ct K R (n + 1) 125 ls st σ k = (lR ls 0 fun x => xk_X11_answerCall ct K R n 126 ls (vr x :: st) σ k) := exS_step.trans rfl
theorem ev_X11_answerCall_126 {ct : Nat → Bool} {K : Kt} {R : Option AV → Hp → Prop} {n : Nat} {ls : List (Option AV)} {st : List AV} {σ : Hp} {k : Nat × Nat} : xe_X11_answerCall ct K R (n + 1) 126 ls st σ k = (oR st fun x st => kd σ x = 12 ∧ xk_X11_answerCall ct K R n 129 ls (vr (fR σ 1204 x) :: st) σ k) := exS_step.trans rfl
theorem ev_X11_answerCall_129 {ct : Nat → Bool} {K : Kt} {R : Option AV → Hp → Prop} {n : Nat} {ls : List (Option AV)} {st : List AV} {σ : Hp} {k : Nat × Nat} : xe_X11_answerCall ct K R (n + 1) 129 ls st σ k = (lR ls 1 fun x => xk_X11_answerCall ct K R n 130 ls (vr x :: st) σ k) := exS_step.trans rfl
theorem ev_X11_answerCall_130 {ct : Nat → Bool} {K : Kt} {R : Option AV → Hp → Prop} {n : Nat} {ls : List (Option AV)} {st : List AV} {σ : Hp} {k : Nat × Nat} : xe_X11_answerCall ct K R (n + 1) 130 ls st σ k = (xk_X11_answerCall ct K R n 131 ls (vi (1) :: st) σ k) := exS_step.trans rfl
theorem ev_X11_answerCall_131 {ct : Nat → Bool} {K : Kt} {R : Option AV → Hp → Prop} {n : Nat} {ls : List (Option AV)} {st : List AV} {σ : Hp} {k : Nat × Nat} : xe_X11_answerCall ct K R (n + 1) 131 ls st σ k = (lR ls 0 fun x => xk_X11_answerCall ct K R n 132 ls (vr x :: st) σ k) := exS_step.trans rfl
theorem ev_X11_answerCall_132 {ct : Nat → Bool} {K : Kt} {R : Option AV → Hp → Prop} {n : Nat} {ls : List (Option AV)} {st : List AV} {σ : Hp} {k : Nat × Nat} : xe_X11_answerCall ct K R (n + 1) 132 ls st σ k = (oR st fun x st => kd σ x = 12 ∧ xk_X11_answerCall ct K R n 135 ls (vr (fR σ 1209 x) :: st) σ k) := exS_step.trans rfl
theorem ev_X11_answerCall_135 {ct : Nat → Bool} {K : Kt} {R : Option AV → Hp → Prop} {n : Nat} {ls : List (Option AV)} {st : List AV} {σ : Hp} {k : Nat × Nat} : xe_X11_answerCall ct K R (n + 1) 135 ls st σ k = (lI ls 3 fun x => xk_X11_answerCall ct K R n 136 ls (vi x :: st) σ k) := exS_step.trans rfl
theorem ev_X11_answerCall_136 {ct : Nat → Bool} {K : Kt} {R : Option AV → Hp → Prop} {n : Nat} {ls : List (Option AV)} {st : List AV} {σ : Hp} {k : Nat × Nat} : xe_X11_answerCall ct K R (n + 1) 136 ls st σ k = (popN 2 st [] fun av rest => (catS rest ≤ 8 ∧ 1 < 7 ∧ k.1 + 0 ≤ 0 ∧ k.2 + 0 ≤ 0) ∧ (sp_X7_laddersOf) av σ fun v σ' => xk_X11_answerCall ct K R n 139 ls (v.toList ++ rest) σ' (k.1 + 0, k.2 + 0)) := exS_step.trans rfl
theorem ev_X11_answerCall_139 {ct : Nat → Bool} {K : Kt} {R : Option AV → Hp → Prop} {n : Nat} {ls : List (Option AV)} {st : List AV} {σ : Hp} {k : Nat × Nat} : xe_X11_answerCall ct K R (n + 1) 139 ls st σ k = (lR ls 0 fun x => xk_X11_answerCall ct K R n 140 ls (vr x :: st) σ k) := exS_step.trans rfl
theorem ev_X11_answerCall_140 {ct : Nat → Bool} {K : Kt} {R : Option AV → Hp → Prop} {n : Nat} {ls : List (Option AV)} {st : List AV} {σ : Hp} {k : Nat × Nat} : xe_X11_answerCall ct K R (n + 1) 140 ls st σ k = (oR st fun x st => kd σ x = 12 ∧ xk_X11_answerCall ct K R n 143 ls (vi (fI σ 1210 x) :: st) σ k) := exS_step.trans rfl
theorem ev_X11_answerCall_143 {ct : Nat → Bool} {K : Kt} {R : Option AV → Hp → Prop} {n : Nat} {ls : List (Option AV)} {st : List AV} {σ : Hp} {k : Nat × Nat} : xe_X11_answerCall ct K R (n + 1) 143 ls st σ k = (popN 5 st [] fun av rest => (catS rest ≤ 8 ∧ 5 < 7 ∧ k.1 + 0 ≤ 0 ∧ k.2 + 0 ≤ 0) ∧ (sp_X3_sendOut) av σ fun v σ' => xk_X11_answerCall ct K R n 146 ls (v.toList ++ rest) σ' (k.1 + 0, k.2 + 0)) := exS_step.trans rfl
theorem ev_X11_answerCall_146 {ct : Nat → Bool} {K : Kt} {R : Option AV → Hp → Prop} {n : Nat} {ls : List (Option AV)} {st : List AV} {σ : Hp} {k : Nat × Nat} : xe_X11_answerCall ct K R (n + 1) 146 ls st σ k = (st = [] ∧ 0 = 0 ∧ R none σ) := exS_step.trans rfl
def M_X11_answerCall : Md := (yX11_answerCall, cX11_answerCall, 4, (none : Option FieldType), 7, 0, 0, 0, false, tb_X11_answerCall, mt_X11_answerCall)
theorem mm_X11_answerCall : MMOK M_X11_answerCall := ⟨by decide +kernel, tk_X11_answerCall, mk_X11_answerCall, rfl, fun h => by cases h⟩
theorem go_X11_answerCall {Q : Option AV → Hp → Prop} {ct : Nat → Bool} {pc : Nat} {ls : List (Option AV)} {st : List AV} {σ : Hp} {k : Nat × Nat} (n : Nat) (h : xe_X11_answerCall ct (Go M_X11_answerCall Q) Q n pc ls st σ k) : Go M_X11_answerCall Q pc ls st σ k := Go.exS mm_X11_answerCall h

set_option maxRecDepth 20000 in
theorem ans_104 {Q : Option AV → Hp → Prop} {ρ ρ' : Hp} {p bp a l D : Int} {x : Ln} (hC : CLay ρ) (hD : D = 33 ∨ D = 39) (hdk : fR ρ 1209 1 = D) (hl : 0 ≤ l ∧ l < 24) (he : aI ρ (D + 1) l = x.2.1) (hd : aI ρ (D + 2) l = x.2.2.1) (hg1 : 0 ≤ x.2.1 ∧ x.2.1 ≤ 9) (hg2 : 0 ≤ x.2.2.1 ∧ x.2.2.1 ≤ 9) (hG : BG ρ ρ') (hI : MI ρ') (ha : 0 ≤ a ∧ a < 100) (hS : AlS ρ ρ' a p) (hnw : fI ρ 1210 1 = fI ρ' 1301 61) (hb : fR ρ 100 p = bp) (hkb : kd ρ bp = 3) (hx : fI ρ 305 bp = aI ρ' 65 (aI ρ' 109 a)) (hy : fI ρ 306 bp = aI ρ' 66 (aI ρ' 109 a)) (hm : aI ρ' 115 a ≤ mTo ρ' a)
    (h : ∀ σ', BG σ' (mSends (mSends ρ' a 0 x.2.1.toNat) a 1 x.2.2.1.toNat) → AlS σ' (mSends (mSends ρ' a 0 x.2.1.toNat) a 1 x.2.2.1.toNat) a p → Fz sndF (fun r => r = p + 1) noR ρ σ' → Q none σ') :
    Go M_X11_answerCall Q 104 [some (vr 1), some (vr p), some (vr bp), some (vi l)] [] ρ (0, 0) := by
  have c1 := mSends_c x.2.1.toNat a 0 hI ha hm
  have e1 : fI (mSends ρ' a 0 x.2.1.toNat) 1301 61 = fI ρ' 1301 61 := by rw [c1.2.2.1]
  have e2 : aI (mSends ρ' a 0 x.2.1.toNat) 109 = aI ρ' 109 := mSends_a _ _ _ _ (by decide)
  have e3 : aI (mSends ρ' a 0 x.2.1.toNat) 65 = aI ρ' 65 := mSends_a _ _ _ _ (by decide)
  have e4 : aI (mSends ρ' a 0 x.2.1.toNat) 66 = aI ρ' 66 := mSends_a _ _ _ _ (by decide)
  have hp := hS.1
  have hkp := hS.2.1
  have w125 : ∀ σ1, BG σ1 (mSends ρ' a 0 x.2.1.toNat) → AlS σ1 (mSends ρ' a 0 x.2.1.toNat) a p → Fz sndF (fun r => r = p + 1) noR ρ σ1 → Go M_X11_answerCall Q 125 [some (vr 1), some (vr p), some (vr bp), some (vi l)] [] σ1 (0, 0) := fun σ1 g1 g2 z => by
    have C1 := hC.fz z (by decide)
    have k1 : kd σ1 p = 1 := by rw [z.kd]; exact hkp
    have k2 : kd σ1 bp = 3 := by rw [z.kd]; exact hkb
    have d1 : fR σ1 1209 1 = D := by rw [z.fR (by decide)]; exact hdk
    have dk : DkO σ1 D := DkO.of C1 hD
    have kD : kd σ1 D = 8 := dk.1
    have v1 : aI σ1 (D + 2) l = x.2.2.1 := by rw [z.aI (by omega)]; exact hd
    have n1 : fI σ1 1210 1 = fI (mSends ρ' a 0 x.2.1.toNat) 1301 61 := by rw [z.fI (by decide), e1]; exact hnw
    have b1 : fR σ1 100 p = bp := by rw [z.fR (by decide)]; exact hb
    have x1 : fI σ1 305 bp = aI (mSends ρ' a 0 x.2.1.toNat) 65 (aI (mSends ρ' a 0 x.2.1.toNat) 109 a) := by rw [z.fI (by decide), e2, e3]; exact hx
    have y1 : fI σ1 306 bp = aI (mSends ρ' a 0 x.2.1.toNat) 66 (aI (mSends ρ' a 0 x.2.1.toNat) 109 a) := by rw [z.fI (by decide), e2, e4]; exact hy
    have hm1 := c1.2.1
    have hI1 := c1.1
    have h := fun σ' q1 q2 (q3 : Fz sndF (fun r => r = p + 1) noR σ1 σ') => h σ' q1 q2 (z.tr q3)
    clear e1 e2 e3 e4 c1 hG hI hS hm hC hdk he hd hnw hb hx hy z
    generalize mSends ρ' a 0 x.2.1.toNat = R1 at *
    refine go_X11_answerCall (ct := fun p => p == 0) 40 ?_
    simp only [oI, oL, oR, o1, lI, lL, lR, popN, catS, gv, stL, stL2, swt, cnd, spObj, List.getElem?_cons_zero, List.getElem?_cons_succ, List.getD_cons_zero, List.getD_cons_succ, List.set_cons_zero, List.set_cons_succ, List.nil_append, List.cons_append, Option.toList, Bool.or_false, Bool.false_or, Bool.or_true, Bool.true_or, Nat.reduceBEq, Nat.reduceAdd, Nat.reduceLT, Nat.reduceLeDiff, Int.reduceAdd, Int.reduceToNat, true_and, and_true, Fin.isValue, Fin.val_zero, Fin.val_one, Fin.val_two, Fin.reduceFinMk, eq_self, Int.reduceNeg, imp_self, Nat.reduceMul, Nat.le_refl, not_true_eq_false, not_false_eq_true, List.getElem?_nil, reduceCtorEq, true_or, or_true, Classical.not_not, implies_true, or_self, wI_0, wI_1, wI_m1, b2i_w, b2i_eq0, b2i_eq1, b2i_bool, nor_self, nx_pI, kd_pI, ln_pI, fI_pI, fL_pI, fR_pI, aI_pI, aL_pI, aR_pI, nx_pL, kd_pL, ln_pL, fI_pL, fL_pL, fR_pL, aI_pL, aL_pL, aR_pL, nx_pR, kd_pR, ln_pR, fI_pR, fL_pR, fR_pR, aI_pR, aL_pR, aR_pR, nx_qI, kd_qI, ln_qI, fI_qI, fL_qI, fR_qI, aI_qI, aL_qI, aR_qI, nx_qL, kd_qL, ln_qL, fI_qL, fL_qL, fR_qL, aI_qL, aL_qL, aR_qL, nx_qR, kd_qR, ln_qR, fI_qR, fL_qR, fR_qR, aI_qR, aL_qR, aR_qR, nx_mk, kd_mk, ln_mk, fI_mk, fL_mk, fR_mk, aI_mk, aL_mk, aR_mk, false_and, and_false, if_false, if_true, and_self, Int.reduceEq, Nat.reduceEqDiff, ite_self, MLay_pI, MLay_pL, MLay_qI, MLay_qL, ev_X11_answerCall_125, ev_X11_answerCall_126, ev_X11_answerCall_129, ev_X11_answerCall_130, ev_X11_answerCall_131, ev_X11_answerCall_132, ev_X11_answerCall_135, ev_X11_answerCall_136, ev_X11_answerCall_139, ev_X11_answerCall_140, ev_X11_answerCall_143, ev_X11_answerCall_146, xt_X11_answerCall, xf_X11_answerCall, us_X11_writeFact, us_X3_countSent, us_X11_today, us_X1_rateOn, us_X7_firstThatCounts, us_X7_enginesOf, us_X3_sendOut, us_X7_laddersOf, C1, C1.eqs, k1, k2, d1, dk, kD, hl, v1, hg2]
    repeat' (first | intro z | apply And.intro)
    all_goals try omega
    all_goals try contradiction
    all_goals first | exact h | (refine ⟨R1, a, g1, hI1, ha, g2, n1, ⟨by rw [b1]; exact k2, by rw [b1]; exact x1, by rw [b1]; exact y1⟩, hm1, h⟩)
  have dk : DkO ρ D := DkO.of hC hD
  have kD : kd ρ D = 8 := dk.1
  clear h
  refine go_X11_answerCall (ct := fun p => p == 125) 40 ?_
  simp only [oI, oL, oR, o1, lI, lL, lR, popN, catS, gv, stL, stL2, swt, cnd, spObj, List.getElem?_cons_zero, List.getElem?_cons_succ, List.getD_cons_zero, List.getD_cons_succ, List.set_cons_zero, List.set_cons_succ, List.nil_append, List.cons_append, Option.toList, Bool.or_false, Bool.false_or, Bool.or_true, Bool.true_or, Nat.reduceBEq, Nat.reduceAdd, Nat.reduceLT, Nat.reduceLeDiff, Int.reduceAdd, Int.reduceToNat, true_and, and_true, Fin.isValue, Fin.val_zero, Fin.val_one, Fin.val_two, Fin.reduceFinMk, eq_self, Int.reduceNeg, imp_self, Nat.reduceMul, Nat.le_refl, not_true_eq_false, not_false_eq_true, List.getElem?_nil, reduceCtorEq, true_or, or_true, Classical.not_not, implies_true, or_self, wI_0, wI_1, wI_m1, b2i_w, b2i_eq0, b2i_eq1, b2i_bool, nor_self, nx_pI, kd_pI, ln_pI, fI_pI, fL_pI, fR_pI, aI_pI, aL_pI, aR_pI, nx_pL, kd_pL, ln_pL, fI_pL, fL_pL, fR_pL, aI_pL, aL_pL, aR_pL, nx_pR, kd_pR, ln_pR, fI_pR, fL_pR, fR_pR, aI_pR, aL_pR, aR_pR, nx_qI, kd_qI, ln_qI, fI_qI, fL_qI, fR_qI, aI_qI, aL_qI, aR_qI, nx_qL, kd_qL, ln_qL, fI_qL, fL_qL, fR_qL, aI_qL, aL_qL, aR_qL, nx_qR, kd_qR, ln_qR, fI_qR, fL_qR, fR_qR, aI_qR, aL_qR, aR_qR, nx_mk, kd_mk, ln_mk, fI_mk, fL_mk, fR_mk, aI_mk, aL_mk, aR_mk, false_and, and_false, if_false, if_true, and_self, Int.reduceEq, Nat.reduceEqDiff, ite_self, MLay_pI, MLay_pL, MLay_qI, MLay_qL, ev_X11_answerCall_104, ev_X11_answerCall_105, ev_X11_answerCall_108, ev_X11_answerCall_109, ev_X11_answerCall_110, ev_X11_answerCall_111, ev_X11_answerCall_114, ev_X11_answerCall_115, ev_X11_answerCall_118, ev_X11_answerCall_119, ev_X11_answerCall_122, xt_X11_answerCall, xf_X11_answerCall, us_X11_writeFact, us_X3_countSent, us_X11_today, us_X1_rateOn, us_X7_firstThatCounts, us_X7_enginesOf, us_X3_sendOut, us_X7_laddersOf, hC, hC.eqs, hkp, hdk, dk, kD, hl, he, hg1]
  repeat' (first | intro z | apply And.intro)
  all_goals try omega
  all_goals try contradiction
  all_goals first | exact w125 | (refine ⟨ρ', a, hG, hI, ha, hS, hnw, ⟨by rw [hb]; exact hkb, by rw [hb]; exact hx, by rw [hb]; exact hy⟩, hm, w125⟩)

set_option maxRecDepth 20000 in
theorem ans_87 {Q : Option AV → Hp → Prop} {ρ τ : Hp} {p bp a : Int} (hC : CLay ρ) (hK : DKR ρ τ) (hG : BG ρ τ) (hI : MI τ) (ha : 0 ≤ a ∧ a < 100) (hS : AlS ρ τ a p) (hm : aI τ 115 a ≤ mTo τ a) (hf : ∀ i, 0 ≤ i → i ≤ 6 → aI ρ 32 i = aI (mFacts τ a) 108 (i + 1)) (hnw : fI ρ 1210 1 = fI τ 1301 61) (hb : fR ρ 100 p = bp) (hkb : kd ρ bp = 3) (hx : fI ρ 305 bp = aI τ 65 (aI τ 109 a)) (hy : fI ρ 306 bp = aI τ 66 (aI τ 109 a)) (h : ∀ σ', BG σ' (mAns τ a) → AlS σ' (mAns τ a) a p → Fz ansF (ansA p) noR ρ σ' → Q none σ') : Go M_X11_answerCall Q 87 [some (vr 1), some (vr p), some (vr bp), none] [] ρ (0, 0) := by
  obtain ⟨xs, ⟨hn, hn24, hgood, o, b, ho, hbb, hL⟩, D, D2, hD12, hdk, -, hDL, hEL⟩ := hK
  have hD : D = 33 ∨ D = 39 := by omega
  have hSf := Scr_mFacts τ a
  have hp := hS.1
  have key := mLines_first (a := a) hgood ho hbb (hL.scr hSf) xs.length 0 (mFacts τ a) (by omega) (MI_mFacts hI a) (Scr.refl _) rfl
  have eA : mAns τ a = mLines (mFacts τ a) a xs.length 0 := by unfold mAns; rw [hn, Int.toNat_natCast]
  rw [eA] at h
  have dz : ∀ σ', Fz dkF (fun r => r = D + 5) noR ρ σ' → Fz ansF (ansA p) noR ρ σ' := fun σ' z => z.up (by decide) (fun r q => by unfold ansA; omega) (fun r q => q)
  have gB : ∀ σ' R, Fz dkF (fun r => r = D + 5) noR ρ σ' → Scr τ R → BG σ' R ∧ AlS σ' R a p := fun σ' R z hR => ⟨(hG.fz z (by decide) (by omega) (by omega)).scr hR, (hS.fz z (by decide) (by decide) (by omega)).scr hR⟩
  have wz : ∀ σ', Fz dkF (fun r => r = D + 5) noR ρ σ' → (∀ v ∈ xs.map (fun x => lnV x (mFacts τ a)), wI v = 0) → Go M_X11_answerCall Q 98 [some (vr 1), some (vr p), some (vr bp), none] [vi (-1)] σ' (0, 0) := fun σ' z hv => by
    have hR := key.1 (fun l x _ hx => hv _ (List.mem_map.mpr ⟨x, List.mem_of_getElem? hx, rfl⟩))
    have h := h σ' (gB σ' _ z (hSf.trans hR)).1 (gB σ' _ z (hSf.trans hR)).2 (dz σ' z)
    clear key hG hS hI hf
    refine go_X11_answerCall (ct := fun p => p == 104) 20 ?_
    simp only [oI, oL, oR, o1, lI, lL, lR, popN, catS, gv, stL, stL2, swt, cnd, spObj, List.getElem?_cons_zero, List.getElem?_cons_succ, List.getD_cons_zero, List.getD_cons_succ, List.set_cons_zero, List.set_cons_succ, List.nil_append, List.cons_append, Option.toList, Bool.or_false, Bool.false_or, Bool.or_true, Bool.true_or, Nat.reduceBEq, Nat.reduceAdd, Nat.reduceLT, Nat.reduceLeDiff, Int.reduceAdd, Int.reduceToNat, true_and, and_true, Fin.isValue, Fin.val_zero, Fin.val_one, Fin.val_two, Fin.reduceFinMk, eq_self, Int.reduceNeg, imp_self, Nat.reduceMul, Nat.le_refl, not_true_eq_false, not_false_eq_true, List.getElem?_nil, reduceCtorEq, true_or, or_true, Classical.not_not, implies_true, or_self, wI_0, wI_1, wI_m1, b2i_w, b2i_eq0, b2i_eq1, b2i_bool, nor_self, nx_pI, kd_pI, ln_pI, fI_pI, fL_pI, fR_pI, aI_pI, aL_pI, aR_pI, nx_pL, kd_pL, ln_pL, fI_pL, fL_pL, fR_pL, aI_pL, aL_pL, aR_pL, nx_pR, kd_pR, ln_pR, fI_pR, fL_pR, fR_pR, aI_pR, aL_pR, aR_pR, nx_qI, kd_qI, ln_qI, fI_qI, fL_qI, fR_qI, aI_qI, aL_qI, aR_qI, nx_qL, kd_qL, ln_qL, fI_qL, fL_qL, fR_qL, aI_qL, aL_qL, aR_qL, nx_qR, kd_qR, ln_qR, fI_qR, fL_qR, fR_qR, aI_qR, aL_qR, aR_qR, nx_mk, kd_mk, ln_mk, fI_mk, fL_mk, fR_mk, aI_mk, aL_mk, aR_mk, false_and, and_false, if_false, if_true, and_self, Int.reduceEq, Nat.reduceEqDiff, ite_self, MLay_pI, MLay_pL, MLay_qI, MLay_qL, ev_X11_answerCall_98, ev_X11_answerCall_99, ev_X11_answerCall_100, ev_X11_answerCall_101, ev_X11_answerCall_146, xt_X11_answerCall, xf_X11_answerCall, us_X11_writeFact, us_X3_countSent, us_X11_today, us_X1_rateOn, us_X7_firstThatCounts, us_X7_enginesOf, us_X3_sendOut, us_X7_laddersOf]
    repeat' (first | intro z | apply And.intro)
    all_goals try omega
    all_goals try contradiction
    all_goals exact h
  have wl : ∀ σ' (l : Nat) (v : Int), Fz dkF (fun r => r = D + 5) noR ρ σ' → (xs.map (fun x => lnV x (mFacts τ a)))[l]? = some v → ¬ wI v = 0 → (∀ (l' : Nat) (v' : Int), l' < l → (xs.map (fun x => lnV x (mFacts τ a)))[l']? = some v' → wI v' = 0) → Go M_X11_answerCall Q 98 [some (vr 1), some (vr p), some (vr bp), none] [vi l] σ' (0, 0) := fun σ' l v z hv hnz hno => by
    rw [List.getElem?_map] at hv
    obtain ⟨x, hxl, hxv⟩ := Option.map_eq_some_iff.mp hv
    subst hxv
    obtain ⟨R, hIR, hSR, eR⟩ := key.2 l x (Nat.zero_le _) hxl hnz (fun l' x' _ hl' hx' => hno l' _ hl' (by rw [List.getElem?_map, hx']; rfl))
    rw [eR] at h
    have hR := hSf.trans hSR
    have hl := (List.getElem?_eq_some_iff.mp hxl).1
    have hgx := hgood x (List.mem_of_getElem? hxl)
    have hE := hEL l x hxl
    have g := gB σ' R z hR
    have a1 := hR.a (r := 109) (by decide)
    have a2 := hR.a (r := 65) (by decide)
    have a3 := hR.a (r := 66) (by decide)
    have a4 := hR.a (r := 115) (by decide)
    have w := ans_104 (Q := Q) (ρ := σ') (ρ' := R) (p := p) (bp := bp) (a := a) (l := l) (D := D) (x := x) (hC.fz z (by decide)) hD (by rw [z.fR (by decide)]; exact hdk) (by omega) (by rw [z.aI (by omega)]; exact hE.1) (by rw [z.aI (by omega)]; exact hE.2) hgx.2.2.1 hgx.2.2.2 g.1 hIR ha g.2 (by rw [z.fI (by decide), hR.fI]; exact hnw) (by rw [z.fR (by decide)]; exact hb) (by rw [z.kd]; exact hkb) (by rw [z.fI (by decide), a1, a2]; exact hx) (by rw [z.fI (by decide), a1, a3]; exact hy) (by rw [a4, mTo_Scr hR]; exact hm)
      (fun σ'' q1 q2 q3 => h σ'' q1 q2 ((dz σ' z).tr (q3.up (by decide) (fun r q => by unfold ansA; omega) (fun r q => q))))
    clear key h hG hS hI hf g hno hE eR
    refine go_X11_answerCall (ct := fun p => p == 104 || p == 146) 20 ?_
    simp only [oI, oL, oR, o1, lI, lL, lR, popN, catS, gv, stL, stL2, swt, cnd, spObj, List.getElem?_cons_zero, List.getElem?_cons_succ, List.getD_cons_zero, List.getD_cons_succ, List.set_cons_zero, List.set_cons_succ, List.nil_append, List.cons_append, Option.toList, Bool.or_false, Bool.false_or, Bool.or_true, Bool.true_or, Nat.reduceBEq, Nat.reduceAdd, Nat.reduceLT, Nat.reduceLeDiff, Int.reduceAdd, Int.reduceToNat, true_and, and_true, Fin.isValue, Fin.val_zero, Fin.val_one, Fin.val_two, Fin.reduceFinMk, eq_self, Int.reduceNeg, imp_self, Nat.reduceMul, Nat.le_refl, not_true_eq_false, not_false_eq_true, List.getElem?_nil, reduceCtorEq, true_or, or_true, Classical.not_not, implies_true, or_self, wI_0, wI_1, wI_m1, b2i_w, b2i_eq0, b2i_eq1, b2i_bool, nor_self, nx_pI, kd_pI, ln_pI, fI_pI, fL_pI, fR_pI, aI_pI, aL_pI, aR_pI, nx_pL, kd_pL, ln_pL, fI_pL, fL_pL, fR_pL, aI_pL, aL_pL, aR_pL, nx_pR, kd_pR, ln_pR, fI_pR, fL_pR, fR_pR, aI_pR, aL_pR, aR_pR, nx_qI, kd_qI, ln_qI, fI_qI, fL_qI, fR_qI, aI_qI, aL_qI, aR_qI, nx_qL, kd_qL, ln_qL, fI_qL, fL_qL, fR_qL, aI_qL, aL_qL, aR_qL, nx_qR, kd_qR, ln_qR, fI_qR, fL_qR, fR_qR, aI_qR, aL_qR, aR_qR, nx_mk, kd_mk, ln_mk, fI_mk, fL_mk, fR_mk, aI_mk, aL_mk, aR_mk, false_and, and_false, if_false, if_true, and_self, Int.reduceEq, Nat.reduceEqDiff, ite_self, MLay_pI, MLay_pL, MLay_qI, MLay_qL, ev_X11_answerCall_98, ev_X11_answerCall_99, ev_X11_answerCall_100, ev_X11_answerCall_101, xt_X11_answerCall, xf_X11_answerCall, us_X11_writeFact, us_X3_countSent, us_X11_today, us_X1_rateOn, us_X7_firstThatCounts, us_X7_enginesOf, us_X3_sendOut, us_X7_laddersOf]
    try simp (disch := omega) only [wI_id, dv_nn, rm_nn]
    clear z hR hSR a1 a2 a3 a4 hnz hgx
    repeat' (first | intro z | apply And.intro)
    all_goals first | exact w | omega
  have hstep : ∀ (l : Nat) (c : List Int), (xs.map (fun x => x.2.2.2.2.2.2.1))[l]? = some c → okS (aI ρ 32) [] c ∧ ∃ v, (xs.map (fun x => lnV x (mFacts τ a)))[l]? = some v ∧ rnS (aI ρ 32) [] c = [v] := fun l c hc => by
    rw [List.getElem?_map] at hc
    obtain ⟨x, hxl, hxv⟩ := Option.map_eq_some_iff.mp hc
    subst hxv
    have g := (hgood x (List.mem_of_getElem? hxl)).steps (σ := mFacts τ a) (f := aI ρ 32) hf
    exact ⟨g.1, _, by rw [List.getElem?_map, hxl]; rfl, g.2⟩
  have dk : DkO ρ D := DkO.of hC hD
  have kD : kd ρ D = 8 := dk.1
  have nD : ¬ 32 = D + 5 := by omega
  have elen : (xs.map (fun x => lnV x (mFacts τ a))).length = (xs.map (fun x => x.2.2.2.2.2.2.1)).length := by rw [List.length_map, List.length_map]
  clear key h hG hS hI hf gB dz
  refine go_X11_answerCall (ct := fun p => p == 98) 20 ?_
  simp only [oI, oL, oR, o1, lI, lL, lR, popN, catS, gv, stL, stL2, swt, cnd, spObj, List.getElem?_cons_zero, List.getElem?_cons_succ, List.getD_cons_zero, List.getD_cons_succ, List.set_cons_zero, List.set_cons_succ, List.nil_append, List.cons_append, Option.toList, Bool.or_false, Bool.false_or, Bool.or_true, Bool.true_or, Nat.reduceBEq, Nat.reduceAdd, Nat.reduceLT, Nat.reduceLeDiff, Int.reduceAdd, Int.reduceToNat, true_and, and_true, Fin.isValue, Fin.val_zero, Fin.val_one, Fin.val_two, Fin.reduceFinMk, eq_self, Int.reduceNeg, imp_self, Nat.reduceMul, Nat.le_refl, not_true_eq_false, not_false_eq_true, List.getElem?_nil, reduceCtorEq, true_or, or_true, Classical.not_not, implies_true, or_self, wI_0, wI_1, wI_m1, b2i_w, b2i_eq0, b2i_eq1, b2i_bool, nor_self, nx_pI, kd_pI, ln_pI, fI_pI, fL_pI, fR_pI, aI_pI, aL_pI, aR_pI, nx_pL, kd_pL, ln_pL, fI_pL, fL_pL, fR_pL, aI_pL, aL_pL, aR_pL, nx_pR, kd_pR, ln_pR, fI_pR, fL_pR, fR_pR, aI_pR, aL_pR, aR_pR, nx_qI, kd_qI, ln_qI, fI_qI, fL_qI, fR_qI, aI_qI, aL_qI, aR_qI, nx_qL, kd_qL, ln_qL, fI_qL, fL_qL, fR_qL, aI_qL, aL_qL, aR_qL, nx_qR, kd_qR, ln_qR, fI_qR, fL_qR, fR_qR, aI_qR, aL_qR, aR_qR, nx_mk, kd_mk, ln_mk, fI_mk, fL_mk, fR_mk, aI_mk, aL_mk, aR_mk, false_and, and_false, if_false, if_true, and_self, Int.reduceEq, Nat.reduceEqDiff, ite_self, MLay_pI, MLay_pL, MLay_qI, MLay_qL, ev_X11_answerCall_87, ev_X11_answerCall_88, ev_X11_answerCall_91, ev_X11_answerCall_92, ev_X11_answerCall_95, xt_X11_answerCall, xf_X11_answerCall, us_X11_writeFact, us_X3_countSent, us_X11_today, us_X1_rateOn, us_X7_firstThatCounts, us_X7_enginesOf, us_X3_sendOut, us_X7_laddersOf, hC, hC.eqs, hdk, dk, kD, nD]
  repeat' (first | intro z | apply And.intro)
  all_goals try omega
  all_goals try contradiction
  all_goals exact ⟨_, _, hDL, elen, hstep, wl, wz⟩

set_option maxRecDepth 20000 in
theorem ans_69 {Q : Option AV → Hp → Prop} {σ τ τ0 ρ : Hp} {p a b : Int} (hC : CLay σ) (hnw : fI σ 1210 1 = fI τ 1301 61) (hns : 0 ≤ fI τ 1301 61 ∧ fI τ 1301 61 ≤ 999999) (hI0 : MI τ0) (hW0 : WI τ0) (hAB0 : AB τ0) (hb0 : 0 ≤ b ∧ b < fI τ0 1302 61) (hab : aI τ 109 a = b) (hr : mRate τ0 b (fI τ 1301 61 / 86400) = mRate τ b (fI τ 1301 61 / 86400)) (w87 : ∀ ρ, Fz [] (fun r => r = 32) noR σ ρ → (∀ i, 0 ≤ i → i ≤ 6 → aI ρ 32 i = aI (mFacts τ a) 108 (i + 1)) → Go M_X11_answerCall Q 87 [some (vr 1), some (vr p), some (vr (lat σ 3 b)), none] [] ρ (0, 0)) (z : Fz [] (fun r => r = 32) noR σ ρ) (hA : AL ρ τ0) (hB : BX ρ τ0) (hf : ∀ i, 0 ≤ i → i ≤ 5 → aI ρ 32 i = aI (mFacts τ a) 108 (i + 1)) : Go M_X11_answerCall Q 69 [some (vr 1), some (vr p), some (vr (lat σ 3 b)), none] [] ρ (0, 0) := by
  have C := hC.fz z (by decide)
  have w := w87 (qI ρ 32 6 (mRate τ0 b (fI τ 1301 61 / 86400))) (z.tr (Fz_32 ρ _ _)) (fun i i0 i6 => by
    rw [aI_qI]
    by_cases e : i = 6
    · rw [if_pos ⟨rfl, e⟩, e, hr]
      unfold mFacts
      simp only [aI_qI, Int.reduceAdd, and_self, if_true, hab]
    · rw [if_neg (fun q => e q.2)]
      exact hf i i0 (by omega))
  have n1 : fI ρ 1210 1 = fI τ 1301 61 := by rw [z.fI (by decide)]; exact hnw
  have lt : lat σ 3 b = lat ρ 3 b := by rw [lat_fz z (by decide)]
  have hd : inR (fI τ 1301 61 / 86400) := by unfold inR; omega
  clear w87 hf z
  rw [lt] at w ⊢
  refine go_X11_answerCall (ct := fun p => p == 87) 40 ?_
  simp only [oI, oL, oR, o1, lI, lL, lR, popN, catS, gv, stL, stL2, swt, cnd, spObj, List.getElem?_cons_zero, List.getElem?_cons_succ, List.getD_cons_zero, List.getD_cons_succ, List.set_cons_zero, List.set_cons_succ, List.nil_append, List.cons_append, Option.toList, Bool.or_false, Bool.false_or, Bool.or_true, Bool.true_or, Nat.reduceBEq, Nat.reduceAdd, Nat.reduceLT, Nat.reduceLeDiff, Int.reduceAdd, Int.reduceToNat, true_and, and_true, Fin.isValue, Fin.val_zero, Fin.val_one, Fin.val_two, Fin.reduceFinMk, eq_self, Int.reduceNeg, imp_self, Nat.reduceMul, Nat.le_refl, not_true_eq_false, not_false_eq_true, List.getElem?_nil, reduceCtorEq, true_or, or_true, Classical.not_not, implies_true, or_self, wI_0, wI_1, wI_m1, b2i_w, b2i_eq0, b2i_eq1, b2i_bool, nor_self, nx_pI, kd_pI, ln_pI, fI_pI, fL_pI, fR_pI, aI_pI, aL_pI, aR_pI, nx_pL, kd_pL, ln_pL, fI_pL, fL_pL, fR_pL, aI_pL, aL_pL, aR_pL, nx_pR, kd_pR, ln_pR, fI_pR, fL_pR, fR_pR, aI_pR, aL_pR, aR_pR, nx_qI, kd_qI, ln_qI, fI_qI, fL_qI, fR_qI, aI_qI, aL_qI, aR_qI, nx_qL, kd_qL, ln_qL, fI_qL, fL_qL, fR_qL, aI_qL, aL_qL, aR_qL, nx_qR, kd_qR, ln_qR, fI_qR, fL_qR, fR_qR, aI_qR, aL_qR, aR_qR, nx_mk, kd_mk, ln_mk, fI_mk, fL_mk, fR_mk, aI_mk, aL_mk, aR_mk, false_and, and_false, if_false, if_true, and_self, Int.reduceEq, Nat.reduceEqDiff, ite_self, MLay_pI, MLay_pL, MLay_qI, MLay_qL, ev_X11_answerCall_69, ev_X11_answerCall_70, ev_X11_answerCall_72, ev_X11_answerCall_73, ev_X11_answerCall_76, ev_X11_answerCall_77, ev_X11_answerCall_78, ev_X11_answerCall_81, ev_X11_answerCall_84, xt_X11_answerCall, xf_X11_answerCall, us_X11_writeFact, us_X3_countSent, us_X11_today, us_X1_rateOn, us_X7_firstThatCounts, us_X7_enginesOf, us_X3_sendOut, us_X7_laddersOf, C, C.eqs, n1, hns, hd]
  repeat' (first | intro z | apply And.intro)
  all_goals try omega
  all_goals try contradiction
  all_goals first | exact w | (exact ⟨τ0, b, hA, hB, hI0, hW0, hAB0, hb0, rfl, ⟨by omega, w⟩⟩)

set_option maxRecDepth 20000 in
theorem ans_57 {Q : Option AV → Hp → Prop} {σ τ τ0 ρ : Hp} {p a b : Int} (hC : CLay σ) (hG : BG σ τ) (w69 : ∀ ρ, Fz [] (fun r => r = 32) noR σ ρ → AL ρ τ0 → BX ρ τ0 → (∀ i, 0 ≤ i → i ≤ 5 → aI ρ 32 i = aI (mFacts τ a) 108 (i + 1)) → Go M_X11_answerCall Q 69 [some (vr 1), some (vr p), some (vr (lat σ 3 b)), none] [] ρ (0, 0)) (z : Fz [] (fun r => r = 32) noR σ ρ) (hA : AL ρ τ0) (hB : BX ρ τ0) (hf : ∀ i, 0 ≤ i → i ≤ 4 → aI ρ 32 i = aI (mFacts τ a) 108 (i + 1)) : Go M_X11_answerCall Q 57 [some (vr 1), some (vr p), some (vr (lat σ 3 b)), none] [] ρ (0, 0) := by
    have C := hC.fz z (by decide)
    have G := hG.fz z (by decide) (by omega) (by omega)
    have L := G.1
    have s := G.sent
    have w := w69 (qI ρ 32 5 (hwM (fun c => aI τ 89 c < 0) (fI τ 1335 61).toNat)) (z.tr (Fz_32 ρ _ _)) (hA.q32 _ _) hB (fun i i0 i6 => by
      rw [aI_qI]
      by_cases e : i = 5
      · rw [if_pos ⟨rfl, e⟩, e]
        unfold mFacts
        simp only [aI_qI, Int.reduceAdd, Int.reduceEq, and_false, and_self, if_true, if_false]
      · rw [if_neg (fun q => e q.2)]
        exact hf i i0 (by omega))
    have s1 := s.1
    have s2 := s.2
    clear w69 hf z G s hA hB hG
    refine go_X11_answerCall (ct := fun p => p == 69) 40 ?_
    simp only [oI, oL, oR, o1, lI, lL, lR, popN, catS, gv, stL, stL2, swt, cnd, spObj, List.getElem?_cons_zero, List.getElem?_cons_succ, List.getD_cons_zero, List.getD_cons_succ, List.set_cons_zero, List.set_cons_succ, List.nil_append, List.cons_append, Option.toList, Bool.or_false, Bool.false_or, Bool.or_true, Bool.true_or, Nat.reduceBEq, Nat.reduceAdd, Nat.reduceLT, Nat.reduceLeDiff, Int.reduceAdd, Int.reduceToNat, true_and, and_true, Fin.isValue, Fin.val_zero, Fin.val_one, Fin.val_two, Fin.reduceFinMk, eq_self, Int.reduceNeg, imp_self, Nat.reduceMul, Nat.le_refl, not_true_eq_false, not_false_eq_true, List.getElem?_nil, reduceCtorEq, true_or, or_true, Classical.not_not, implies_true, or_self, wI_0, wI_1, wI_m1, b2i_w, b2i_eq0, b2i_eq1, b2i_bool, nor_self, nx_pI, kd_pI, ln_pI, fI_pI, fL_pI, fR_pI, aI_pI, aL_pI, aR_pI, nx_pL, kd_pL, ln_pL, fI_pL, fL_pL, fR_pL, aI_pL, aL_pL, aR_pL, nx_pR, kd_pR, ln_pR, fI_pR, fL_pR, fR_pR, aI_pR, aL_pR, aR_pR, nx_qI, kd_qI, ln_qI, fI_qI, fL_qI, fR_qI, aI_qI, aL_qI, aR_qI, nx_qL, kd_qL, ln_qL, fI_qL, fL_qL, fR_qL, aI_qL, aL_qL, aR_qL, nx_qR, kd_qR, ln_qR, fI_qR, fL_qR, fR_qR, aI_qR, aL_qR, aR_qR, nx_mk, kd_mk, ln_mk, fI_mk, fL_mk, fR_mk, aI_mk, aL_mk, aR_mk, false_and, and_false, if_false, if_true, and_self, Int.reduceEq, Nat.reduceEqDiff, ite_self, MLay_pI, MLay_pL, MLay_qI, MLay_qL, ev_X11_answerCall_57, ev_X11_answerCall_58, ev_X11_answerCall_59, ev_X11_answerCall_60, ev_X11_answerCall_63, ev_X11_answerCall_66, xt_X11_answerCall, xf_X11_answerCall, us_X11_writeFact, us_X3_countSent, us_X11_today, us_X1_rateOn, us_X7_firstThatCounts, us_X7_enginesOf, us_X3_sendOut, us_X7_laddersOf, C, C.eqs, L, s1]
    repeat' (first | intro z | apply And.intro)
    all_goals try omega
    all_goals try contradiction
    all_goals first | exact w | (exact (s2 _ (by assumption) (by assumption)).1) | (exact (s2 _ (by assumption) (by assumption)).2)

set_option maxRecDepth 20000 in
theorem c_X11_answerCall : Ct yX11_answerCall cX11_answerCall 4 ((none : Option FieldType)) 7 0 0 sp_X11_answerCall := by
  refine Ct.go (M := M_X11_answerCall) mm_X11_answerCall fun av σ Q h0 => ?_
  obtain ⟨this, p, rfl, hk, h⟩ := el_X11_answerCall h0
  clear h0
  refine ⟨Nat.le_of_ble_eq_true rfl, ?_⟩
  show Go M_X11_answerCall Q 0 [some (vr this), some (vr p), none, none] [] σ (0, 0)
  obtain ⟨rfl, hC, τ, τ0, a, b, ⟨hK, hG, hI, ha, hS, hm⟩, ⟨hb, hab, hcl, hbx⟩, hnw, ⟨hA0, hB0, hI0, hW0, hAB0, hb0, hr⟩, h⟩ := h
  have hp := hS.1
  have hkp := hS.2.1
  have hkb : kd σ (lat σ 3 b) = 3 := hB0.k hb0.1 hb0.2
  obtain ⟨q0, qn, -, -, ql, -, qx, qy, qw, -⟩ := id hbx
  have hns := hI.now_s
  have z32 : ∀ ρ, Fz [] (fun r => r = 32) noR σ ρ → Fz ansF (ansA p) noR σ ρ := fun ρ z => z.up (by decide) (fun r q => by unfold ansA; omega) (fun r q => q)
  have w87 : ∀ ρ, Fz [] (fun r => r = 32) noR σ ρ → (∀ i, 0 ≤ i → i ≤ 6 → aI ρ 32 i = aI (mFacts τ a) 108 (i + 1)) → Go M_X11_answerCall Q 87 [some (vr 1), some (vr p), some (vr (lat σ 3 b)), none] [] ρ (0, 0) := fun ρ z hf => ans_87 (hC.fz z (by decide)) (hK.fz z (by decide) (fun r q => by omega)) (hG.fz z (by decide) (by omega) (by omega)) hI ha (hS.fz z (by decide) (by decide) (by omega)) hm hf (by rw [z.fI (by decide)]; exact hnw) (by rw [z.fR (by decide)]; exact hb) (by rw [z.kd]; exact hkb) (by rw [z.fI (by decide), hab]; exact qx) (by rw [z.fI (by decide), hab]; exact qy) (fun σ' g1 g2 g3 => h σ' g1 g2 ((z32 ρ z).tr g3))
  have w := ans_57 (Q := Q) (τ := τ) (τ0 := τ0) (p := p) (a := a) (b := b) (ρ := qI (qI (qI (qI (qI σ 32 0 (aI τ 63 b)) 32 1 (aI τ 67 b)) 32 2 (aI τ 62 b)) 32 3 (fI τ 1301 61 / 3600 % 24)) 32 4 (aI τ 111 a)) hC hG (fun ρ z hA hB hf => ans_69 hC hnw hns hI0 hW0 hAB0 hb0 hab hr w87 z hA hB hf) (((((Fz_32 σ _ _).tr (Fz_32 _ _ _)).tr (Fz_32 _ _ _)).tr (Fz_32 _ _ _)).tr (Fz_32 _ _ _)) (((((hA0.q32 _ _).q32 _ _).q32 _ _).q32 _ _).q32 _ _) (by rw [BX_q, BX_q, BX_q, BX_q, BX_q]; exact hB0) (fun i i0 i6 => by
    have e : i = 0 ∨ i = 1 ∨ i = 2 ∨ i = 3 ∨ i = 4 := by omega
    unfold mFacts
    rcases e with rfl | rfl | rfl | rfl | rfl <;> simp only [aI_qI, Int.reduceAdd, Int.reduceEq, and_false, and_self, if_true, if_false, hab])
  clear w87 h hK hG hS hA0 hB0 hbx z32
  refine go_X11_answerCall (ct := fun p => p == 57) 60 ?_
  simp only [oI, oL, oR, o1, lI, lL, lR, popN, catS, gv, stL, stL2, swt, cnd, spObj, List.getElem?_cons_zero, List.getElem?_cons_succ, List.getD_cons_zero, List.getD_cons_succ, List.set_cons_zero, List.set_cons_succ, List.nil_append, List.cons_append, Option.toList, Bool.or_false, Bool.false_or, Bool.or_true, Bool.true_or, Nat.reduceBEq, Nat.reduceAdd, Nat.reduceLT, Nat.reduceLeDiff, Int.reduceAdd, Int.reduceToNat, true_and, and_true, Fin.isValue, Fin.val_zero, Fin.val_one, Fin.val_two, Fin.reduceFinMk, eq_self, Int.reduceNeg, imp_self, Nat.reduceMul, Nat.le_refl, not_true_eq_false, not_false_eq_true, List.getElem?_nil, reduceCtorEq, true_or, or_true, Classical.not_not, implies_true, or_self, wI_0, wI_1, wI_m1, b2i_w, b2i_eq0, b2i_eq1, b2i_bool, nor_self, nx_pI, kd_pI, ln_pI, fI_pI, fL_pI, fR_pI, aI_pI, aL_pI, aR_pI, nx_pL, kd_pL, ln_pL, fI_pL, fL_pL, fR_pL, aI_pL, aL_pL, aR_pL, nx_pR, kd_pR, ln_pR, fI_pR, fL_pR, fR_pR, aI_pR, aL_pR, aR_pR, nx_qI, kd_qI, ln_qI, fI_qI, fL_qI, fR_qI, aI_qI, aL_qI, aR_qI, nx_qL, kd_qL, ln_qL, fI_qL, fL_qL, fR_qL, aI_qL, aL_qL, aR_qL, nx_qR, kd_qR, ln_qR, fI_qR, fL_qR, fR_qR, aI_qR, aL_qR, aR_qR, nx_mk, kd_mk, ln_mk, fI_mk, fL_mk, fR_mk, aI_mk, aL_mk, aR_mk, false_and, and_false, if_false, if_true, and_self, Int.reduceEq, Nat.reduceEqDiff, ite_self, MLay_pI, MLay_pL, MLay_qI, MLay_qL, ev_X11_answerCall_0, ev_X11_answerCall_1, ev_X11_answerCall_4, ev_X11_answerCall_5, ev_X11_answerCall_6, ev_X11_answerCall_7, ev_X11_answerCall_8, ev_X11_answerCall_11, ev_X11_answerCall_14, ev_X11_answerCall_15, ev_X11_answerCall_16, ev_X11_answerCall_17, ev_X11_answerCall_20, ev_X11_answerCall_23, ev_X11_answerCall_24, ev_X11_answerCall_25, ev_X11_answerCall_26, ev_X11_answerCall_29, ev_X11_answerCall_32, ev_X11_answerCall_33, ev_X11_answerCall_34, ev_X11_answerCall_35, ev_X11_answerCall_38, ev_X11_answerCall_41, ev_X11_answerCall_42, ev_X11_answerCall_44, ev_X11_answerCall_45, ev_X11_answerCall_48, ev_X11_answerCall_49, ev_X11_answerCall_50, ev_X11_answerCall_51, ev_X11_answerCall_54, xt_X11_answerCall, xf_X11_answerCall, us_X11_writeFact, us_X3_countSent, us_X11_today, us_X1_rateOn, us_X7_firstThatCounts, us_X7_enginesOf, us_X3_sendOut, us_X7_laddersOf, hC, hC.eqs, hkp, hb, hkb, qn, qw, ql, hnw, hcl, CLay_qI]
  try simp (disch := omega) only [wI_id, dv_nn, rm_nn]
  repeat' (first | intro z | apply And.intro)
  all_goals try omega
  all_goals try contradiction
  all_goals exact w
