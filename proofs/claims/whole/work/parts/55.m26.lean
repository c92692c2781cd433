/-! the reference: a tape made ready, as a contract -/

theorem mTaped_Uv {fs : List Nat} {ar al : Int → Int → Prop} {σ τ : Hp} (h : Uv fs ar al σ τ) (h1 : ∀ j, ¬ ar 78 j) (h2 : ∀ j, ¬ ar 79 j) (l t : Int) : mTaped τ l t = mTaped σ l t := by
  unfold mTaped
  rw [h.a h1, h.a h2]
/-- the first tick of the range that is on the tape, or -1 -/
def Earl (σ : Hp) (l f e t : Int) : Prop := (e = -1 ∧ ∀ u, t ≤ u → u < fI σ 1329 61 → ¬ mTaped σ l (f + u)) ∨ ((t ≤ e ∧ e < fI σ 1329 61) ∧ mTaped σ l (f + e) ∧ ∀ u, t ≤ u → u < e → ¬ mTaped σ l (f + u))
def Prep (σ τ : Hp) (l f : Int) : Prop := RO σ τ ∧ BW (aL τ 84) 0 (fun u => u < fI σ 1329 61 ∧ mTaped σ l (f + u)) ∧ Rows σ τ l f (aI σ 74 l) (aI σ 74 l) 0 ∧ Earl σ l f (fI τ 1330 61) 0

def sp_X12_prepares : Sp := fun av σ Q => oR av fun this av => oI av fun l av => oI av fun f av => av = [] ∧ kd σ this = 13 ∧ (this = 61 ∧ MI σ ∧ (0 ≤ l ∧ l < 4) ∧ (1 ≤ f ∧ f ≤ 999999) ∧ ∀ τ, Prep σ τ l f → Q none τ)
theorem us_X12_prepares (this : Int) (l : Int) (f : Int) (σ : Hp) (Q : Option AV → Hp → Prop) : sp_X12_prepares [vr this, vi l, vi f] σ Q = (kd σ this = 13 ∧ (this = 61 ∧ MI σ ∧ (0 ≤ l ∧ l < 4) ∧ (1 ≤ f ∧ f ≤ 999999) ∧ ∀ τ, Prep σ τ l f → Q none τ)) := propext ⟨fun h => h.2, fun h => ⟨rfl, h⟩⟩
theorem el_X12_prepares {av : List AV} {σ : Hp} {Q : Option AV → Hp → Prop} (h : sp_X12_prepares av σ Q) : ∃ (this : Int) (l : Int) (f : Int), av = [vr this, vi l, vi f] ∧ (kd σ this = 13 ∧ (this = 61 ∧ MI σ ∧ (0 ≤ l ∧ l < 4) ∧ (1 ≤ f ∧ f ≤ 999999) ∧ ∀ τ, Prep σ τ l f → Q none τ)) := by
  obtain ⟨this, a0, rfl, h0⟩ := oR_s h
  obtain ⟨l, a1, rfl, h1⟩ := oI_s h0
  obtain ⟨f, a2, rfl, h2⟩ := oI_s h1
  obtain ⟨rfl, hz⟩ := h2
  exact ⟨this, l, f, rfl, hz⟩
theorem rc_X12_prepares : ∀ (av : List AV) (σ : Hp) (Q : Option AV → Hp → Prop), sp_X12_prepares av σ Q → ∃ r tl, av = vr r :: tl ∧ kd σ r = 12 + 1 := fun av σ Q h => by
  obtain ⟨this, l, f, rfl, hz, -⟩ := el_X12_prepares h
  exact ⟨this, _, rfl, hz⟩

section PR
variable {Q : Option AV → Hp → Prop} {σ : Hp} {l f : Int}

set_option maxRecDepth 20000 in
theorem pr_81 {n e : Int} (hI : MI σ) (hl : 0 ≤ l ∧ l < 4) (hn : n = aI σ 74 l) (w : ∀ τ, RO σ τ → BW (aL τ 84) 0 (fun u => u < fI σ 1329 61 ∧ mTaped σ l (f + u)) → Rows σ τ l f n n 0 → fI τ 1330 61 = e → Q none τ) :
    ∀ (m : Nat) (k : Int) (τ : Hp) (a4 a5 a6 a7 a8 a9 : Option AV), 0 ≤ k → k + m = n → RO σ τ → BW (aL τ 84) 0 (fun u => u < fI σ 1329 61 ∧ mTaped σ l (f + u)) → Rows σ τ l f n k 0 → fI τ 1330 61 = e → Go M_X12_prepares Q 81 [some (vr 61), some (vi l), some (vi f), some (vi k), a4, a5, a6, a7, a8, a9] [] τ (0, 0) := by
  have hm := hI.many_ l
  intro m
  induction m with
  | zero =>
    intro k τ a4 a5 a6 a7 a8 a9 h0 hk hR hW hRw he
    have hkd : kd τ 61 = 13 := hR.1.lay.1
    have em := hR.a (r := 74) (by decide)
    have ek : k = n := by omega
    rw [ek] at hRw
    have w := w τ hR hW hRw he
    refine go_X12_prepares (ct := fun p => p == 91) 20 ?_
    simp only [oI, oL, oR, o1, lI, lL, lR, popN, catS, gv, stL, stL2, swt, cnd, spObj, List.getElem?_cons_zero, List.getElem?_cons_succ, List.getD_cons_zero, List.getD_cons_succ, List.set_cons_zero, List.set_cons_succ, List.nil_append, List.cons_append, Option.toList, Bool.or_false, Bool.false_or, Bool.or_true, Bool.true_or, Nat.reduceBEq, Nat.reduceAdd, Nat.reduceLT, Nat.reduceLeDiff, Int.reduceAdd, Int.reduceToNat, true_and, and_true, Fin.isValue, Fin.val_zero, Fin.val_one, Fin.val_two, Fin.reduceFinMk, eq_self, Int.reduceNeg, imp_self, Nat.reduceMul, Nat.le_refl, not_true_eq_false, not_false_eq_true, List.getElem?_nil, reduceCtorEq, true_or, or_true, Classical.not_not, implies_true, or_self, wI_0, wI_1, wI_m1, b2i_w, b2i_eq0, b2i_eq1, b2i_bool, nor_self, nx_pI, kd_pI, ln_pI, fI_pI, fL_pI, fR_pI, aI_pI, aL_pI, aR_pI, nx_pL, kd_pL, ln_pL, fI_pL, fL_pL, fR_pL, aI_pL, aL_pL, aR_pL, nx_pR, kd_pR, ln_pR, fI_pR, fL_pR, fR_pR, aI_pR, aL_pR, aR_pR, nx_qI, kd_qI, ln_qI, fI_qI, fL_qI, fR_qI, aI_qI, aL_qI, aR_qI, nx_qL, kd_qL, ln_qL, fI_qL, fL_qL, fR_qL, aI_qL, aL_qL, aR_qL, nx_qR, kd_qR, ln_qR, fI_qR, fL_qR, fR_qR, aI_qR, aL_qR, aR_qR, nx_mk, kd_mk, ln_mk, fI_mk, fL_mk, fR_mk, aI_mk, aL_mk, aR_mk, false_and, and_false, if_false, if_true, and_self, Int.reduceEq, Nat.reduceEqDiff, ite_self, MLay_pI, MLay_pL, MLay_qI, MLay_qL, ev_X12_prepares_81, ev_X12_prepares_82, ev_X12_prepares_83, ev_X12_prepares_86, ev_X12_prepares_87, ev_X12_prepares_88, ev_X12_prepares_334, xt_X12_prepares, xf_X12_prepares, us_X12_isTaped, us_X12_rowOf, hkd, hR.1.lay.eqs, em]
    try simp (disch := omega) only [wI_id, dv_nn, rm_nn]
    repeat' (first | intro z | apply And.intro)
    all_goals try omega
    all_goals exact w
  | succ m ih =>
    intro k τ a4 a5 a6 a7 a8 a9 h0 hk hR hW hRw he
    have hkd : kd τ 61 = 13 := hR.1.lay.1
    have em := hR.a (r := 74) (by decide)
    have eb := hR.a (r := 75) (by decide)
    have hsp := hI.span_s
    have w107 := pr_107 (Q := Q) (l := l) (f := f) (k := k) (n := n) (e := e) hI hl (by omega) (by omega) (by omega) (fun τ a5 a6 a7 a8 a9 g1 g2 g3 g4 => by
      have hkd : kd τ 61 = 13 := g1.1.lay.1
      have ih := ih (k + 1) τ (some (vi (aI σ 75 (12 * l + k)))) a5 a6 a7 a8 a9 (by omega) (by omega) g1 g2 g3 g4
      refine go_X12_prepares (ct := fun p => p == 81) 20 ?_
      simp only [oI, oL, oR, o1, lI, lL, lR, popN, catS, gv, stL, stL2, swt, cnd, spObj, List.getElem?_cons_zero, List.getElem?_cons_succ, List.getD_cons_zero, List.getD_cons_succ, List.set_cons_zero, List.set_cons_succ, List.nil_append, List.cons_append, Option.toList, Bool.or_false, Bool.false_or, Bool.or_true, Bool.true_or, Nat.reduceBEq, Nat.reduceAdd, Nat.reduceLT, Nat.reduceLeDiff, Int.reduceAdd, Int.reduceToNat, true_and, and_true, Fin.isValue, Fin.val_zero, Fin.val_one, Fin.val_two, Fin.reduceFinMk, eq_self, Int.reduceNeg, imp_self, Nat.reduceMul, Nat.le_refl, not_true_eq_false, not_false_eq_true, List.getElem?_nil, reduceCtorEq, true_or, or_true, Classical.not_not, implies_true, or_self, wI_0, wI_1, wI_m1, b2i_w, b2i_eq0, b2i_eq1, b2i_bool, nor_self, nx_pI, kd_pI, ln_pI, fI_pI, fL_pI, fR_pI, aI_pI, aL_pI, aR_pI, nx_pL, kd_pL, ln_pL, fI_pL, fL_pL, fR_pL, aI_pL, aL_pL, aR_pL, nx_pR, kd_pR, ln_pR, fI_pR, fL_pR, fR_pR, aI_pR, aL_pR, aR_pR, nx_qI, kd_qI, ln_qI, fI_qI, fL_qI, fR_qI, aI_qI, aL_qI, aR_qI, nx_qL, kd_qL, ln_qL, fI_qL, fL_qL, fR_qL, aI_qL, aL_qL, aR_qL, nx_qR, kd_qR, ln_qR, fI_qR, fL_qR, fR_qR, aI_qR, aL_qR, aR_qR, nx_mk, kd_mk, ln_mk, fI_mk, fL_mk, fR_mk, aI_mk, aL_mk, aR_mk, false_and, and_false, if_false, if_true, and_self, Int.reduceEq, Nat.reduceEqDiff, ite_self, MLay_pI, MLay_pL, MLay_qI, MLay_qL, ev_X12_prepares_328, ev_X12_prepares_331, xt_X12_prepares, xf_X12_prepares, us_X12_isTaped, us_X12_rowOf, hkd]
      exact ih) (fI σ 1329 61).toNat 0 τ a6 a7 a8 a9 (by omega) (by omega) hR hW hRw he
    refine go_X12_prepares (ct := fun p => p == 107 || p == 334) 30 ?_
    simp only [oI, oL, oR, o1, lI, lL, lR, popN, catS, gv, stL, stL2, swt, cnd, spObj, List.getElem?_cons_zero, List.getElem?_cons_succ, List.getD_cons_zero, List.getD_cons_succ, List.set_cons_zero, List.set_cons_succ, List.nil_append, List.cons_append, Option.toList, Bool.or_false, Bool.false_or, Bool.or_true, Bool.true_or, Nat.reduceBEq, Nat.reduceAdd, Nat.reduceLT, Nat.reduceLeDiff, Int.reduceAdd, Int.reduceToNat, true_and, and_true, Fin.isValue, Fin.val_zero, Fin.val_one, Fin.val_two, Fin.reduceFinMk, eq_self, Int.reduceNeg, imp_self, Nat.reduceMul, Nat.le_refl, not_true_eq_false, not_false_eq_true, List.getElem?_nil, reduceCtorEq, true_or, or_true, Classical.not_not, implies_true, or_self, wI_0, wI_1, wI_m1, b2i_w, b2i_eq0, b2i_eq1, b2i_bool, nor_self, nx_pI, kd_pI, ln_pI, fI_pI, fL_pI, fR_pI, aI_pI, aL_pI, aR_pI, nx_pL, kd_pL, ln_pL, fI_pL, fL_pL, fR_pL, aI_pL, aL_pL, aR_pL, nx_pR, kd_pR, ln_pR, fI_pR, fL_pR, fR_pR, aI_pR, aL_pR, aR_pR, nx_qI, kd_qI, ln_qI, fI_qI, fL_qI, fR_qI, aI_qI, aL_qI, aR_qI, nx_qL, kd_qL, ln_qL, fI_qL, fL_qL, fR_qL, aI_qL, aL_qL, aR_qL, nx_qR, kd_qR, ln_qR, fI_qR, fL_qR, fR_qR, aI_qR, aL_qR, aR_qR, nx_mk, kd_mk, ln_mk, fI_mk, fL_mk, fR_mk, aI_mk, aL_mk, aR_mk, false_and, and_false, if_false, if_true, and_self, Int.reduceEq, Nat.reduceEqDiff, ite_self, MLay_pI, MLay_pL, MLay_qI, MLay_qL, ev_X12_prepares_81, ev_X12_prepares_82, ev_X12_prepares_83, ev_X12_prepares_86, ev_X12_prepares_87, ev_X12_prepares_88, ev_X12_prepares_91, ev_X12_prepares_92, ev_X12_prepares_95, ev_X12_prepares_97, ev_X12_prepares_98, ev_X12_prepares_99, ev_X12_prepares_100, ev_X12_prepares_101, ev_X12_prepares_102, ev_X12_prepares_104, ev_X12_prepares_105, xt_X12_prepares, xf_X12_prepares, us_X12_isTaped, us_X12_rowOf, hkd, hR.1.lay.eqs, em, eb]
    try simp (disch := omega) only [wI_id, dv_nn, rm_nn]
    repeat' (first | intro z | apply And.intro)
    all_goals try omega
    all_goals exact w107

set_option maxRecDepth 20000 in
theorem pr_32 (hI : MI σ) (hl : 0 ≤ l ∧ l < 4) (hf : 1 ≤ f ∧ f ≤ 999999) (w : ∀ τ e a4 a5 a6 a7 a8 a9, RO σ τ → BW (aL τ 84) 0 (fun u => u < fI σ 1329 61 ∧ mTaped σ l (f + u)) → fI τ 1330 61 = e → Earl σ l f e 0 → Go M_X12_prepares Q 79 [some (vr 61), some (vi l), some (vi f), some (vi (-1)), a4, a5, a6, a7, a8, a9] [] τ (0, 0)) :
    ∀ (m : Nat) (t e : Int) (τ : Hp) (a4 a5 a6 a7 a8 a9 : Option AV), t + 1 = m → t < fI σ 1329 61 → RO σ τ → BW (aL τ 84) 0 (fun u => t < u ∧ u < fI σ 1329 61 ∧ mTaped σ l (f + u)) → fI τ 1330 61 = e → Earl σ l f e (t + 1) → Go M_X12_prepares Q 32 [some (vr 61), some (vi l), some (vi f), some (vi t), a4, a5, a6, a7, a8, a9] [] τ (0, 0) := by
  have hsp := hI.span_s
  intro m
  induction m with
  | zero =>
    intro t e τ a4 a5 a6 a7 a8 a9 ht htl hR hW he hE
    have hkd : kd τ 61 = 13 := hR.1.lay.1
    have et : t = -1 := by omega
    rw [et] at hW hE ⊢
    have w := w τ e a4 a5 a6 a7 a8 a9 hR (hW.congr fun u q1 q2 => ⟨fun z => z.2, fun z => ⟨by omega, z⟩⟩) he hE
    refine go_X12_prepares (ct := fun p => p == 36 || p == 79) 20 ?_
    simp only [oI, oL, oR, o1, lI, lL, lR, popN, catS, gv, stL, stL2, swt, cnd, spObj, List.getElem?_cons_zero, List.getElem?_cons_succ, List.getD_cons_zero, List.getD_cons_succ, List.set_cons_zero, List.set_cons_succ, List.nil_append, List.cons_append, Option.toList, Bool.or_false, Bool.false_or, Bool.or_true, Bool.true_or, Nat.reduceBEq, Nat.reduceAdd, Nat.reduceLT, Nat.reduceLeDiff, Int.reduceAdd, Int.reduceToNat, true_and, and_true, Fin.isValue, Fin.val_zero, Fin.val_one, Fin.val_two, Fin.reduceFinMk, eq_self, Int.reduceNeg, imp_self, Nat.reduceMul, Nat.le_refl, not_true_eq_false, not_false_eq_true, List.getElem?_nil, reduceCtorEq, true_or, or_true, Classical.not_not, implies_true, or_self, wI_0, wI_1, wI_m1, b2i_w, b2i_eq0, b2i_eq1, b2i_bool, nor_self, nx_pI, kd_pI, ln_pI, fI_pI, fL_pI, fR_pI, aI_pI, aL_pI, aR_pI, nx_pL, kd_pL, ln_pL, fI_pL, fL_pL, fR_pL, aI_pL, aL_pL, aR_pL, nx_pR, kd_pR, ln_pR, fI_pR, fL_pR, fR_pR, aI_pR, aL_pR, aR_pR, nx_qI, kd_qI, ln_qI, fI_qI, fL_qI, fR_qI, aI_qI, aL_qI, aR_qI, nx_qL, kd_qL, ln_qL, fI_qL, fL_qL, fR_qL, aI_qL, aL_qL, aR_qL, nx_qR, kd_qR, ln_qR, fI_qR, fL_qR, fR_qR, aI_qR, aL_qR, aR_qR, nx_mk, kd_mk, ln_mk, fI_mk, fL_mk, fR_mk, aI_mk, aL_mk, aR_mk, false_and, and_false, if_false, if_true, and_self, Int.reduceEq, Nat.reduceEqDiff, ite_self, MLay_pI, MLay_pL, MLay_qI, MLay_qL, ev_X12_prepares_32, ev_X12_prepares_33, xt_X12_prepares, xf_X12_prepares, us_X12_isTaped, us_X12_rowOf, hkd]
    try simp (disch := omega) only [wI_id, dv_nn, rm_nn]
    repeat' (first | intro z | apply And.intro)
    all_goals try omega
    all_goals exact w
  | succ m ih =>
    intro t e τ a4 a5 a6 a7 a8 a9 ht htl hR hW he hE
    have hT := hR.1
    have hkd : kd τ 61 = 13 := hT.lay.1
    have hwt : wI t = t := wI_id (by omega) (by omega)
    have hr : inR (f + t) := by unfold inR; omega
    have eT : mTaped τ l (f + t) = mTaped σ l (f + t) := mTaped_Uv hR.2 (fun j => by unfold prA; decide) (fun j => by unfold prA; decide) l _
    by_cases c : mTaped σ l (f + t)
    · have hdv : dvI t 60 = t / 60 := dv_nn (by omega) (by omega) (by omega) (by omega)
      have hrm : rmI t 60 = t % 60 := rm_nn (by omega) (by omega) (by omega) (by omega)
      have cT := eq_true c
      have o1 : BitVec.ofNat 64 1 = 1#64 := rfl
      have w := ih (t - 1) t (pI (qL τ 84 (t / 60) (aL τ 84 (t / 60) ||| 1#64 <<< ((t % 60) % 64).toNat)) 1330 61 t) a4 a5 a6 a7 a8 a9 (by omega) (by omega) ⟨MI_earliest_p (MI_qL hT) (by omega), (hR.2.qL _ (Or.inl rfl)).pI _ (by decide)⟩ ((hW.set (u := t) (A' := aL (qL τ 84 (t / 60) (aL τ 84 (t / 60) ||| 1#64 <<< ((t % 60) % 64).toNat)) 84) (by omega) (fun j => by rw [Int.zero_add]; exact qL_at _ _ _ _ j)).congr fun u _ _ => by
        constructor
        · rintro (q | q)
          · exact ⟨by omega, q.2⟩
          · subst q; exact ⟨by omega, by omega, c⟩
        · rintro ⟨q1, q2, q3⟩
          by_cases e9 : u = t
          · exact Or.inr e9
          · exact Or.inl ⟨by omega, q2, q3⟩) rfl (Or.inr ⟨by omega, c, fun u q1 q2 => by omega⟩)
      refine go_X12_prepares (ct := fun p => p == 47 || p == 32) 40 ?_
      simp only [oI, oL, oR, o1, lI, lL, lR, popN, catS, gv, stL, stL2, swt, cnd, spObj, List.getElem?_cons_zero, List.getElem?_cons_succ, List.getD_cons_zero, List.getD_cons_succ, List.set_cons_zero, List.set_cons_succ, List.nil_append, List.cons_append, Option.toList, Bool.or_false, Bool.false_or, Bool.or_true, Bool.true_or, Nat.reduceBEq, Nat.reduceAdd, Nat.reduceLT, Nat.reduceLeDiff, Int.reduceAdd, Int.reduceToNat, true_and, and_true, Fin.isValue, Fin.val_zero, Fin.val_one, Fin.val_two, Fin.reduceFinMk, eq_self, Int.reduceNeg, imp_self, Nat.reduceMul, Nat.le_refl, not_true_eq_false, not_false_eq_true, List.getElem?_nil, reduceCtorEq, true_or, or_true, Classical.not_not, implies_true, or_self, wI_0, wI_1, wI_m1, b2i_w, b2i_eq0, b2i_eq1, b2i_bool, nor_self, nx_pI, kd_pI, ln_pI, fI_pI, fL_pI, fR_pI, aI_pI, aL_pI, aR_pI, nx_pL, kd_pL, ln_pL, fI_pL, fL_pL, fR_pL, aI_pL, aL_pL, aR_pL, nx_pR, kd_pR, ln_pR, fI_pR, fL_pR, fR_pR, aI_pR, aL_pR, aR_pR, nx_qI, kd_qI, ln_qI, fI_qI, fL_qI, fR_qI, aI_qI, aL_qI, aR_qI, nx_qL, kd_qL, ln_qL, fI_qL, fL_qL, fR_qL, aI_qL, aL_qL, aR_qL, nx_qR, kd_qR, ln_qR, fI_qR, fL_qR, fR_qR, aI_qR, aL_qR, aR_qR, nx_mk, kd_mk, ln_mk, fI_mk, fL_mk, fR_mk, aI_mk, aL_mk, aR_mk, false_and, and_false, if_false, if_true, and_self, Int.reduceEq, Nat.reduceEqDiff, ite_self, MLay_pI, MLay_pL, MLay_qI, MLay_qL, ev_X12_prepares_32, ev_X12_prepares_33, ev_X12_prepares_36, ev_X12_prepares_37, ev_X12_prepares_38, ev_X12_prepares_39, ev_X12_prepares_40, ev_X12_prepares_41, ev_X12_prepares_44, ev_X12_prepares_47, ev_X12_prepares_50, ev_X12_prepares_51, ev_X12_prepares_54, ev_X12_prepares_55, ev_X12_prepares_57, ev_X12_prepares_58, ev_X12_prepares_59, ev_X12_prepares_60, ev_X12_prepares_61, ev_X12_prepares_62, ev_X12_prepares_64, ev_X12_prepares_65, ev_X12_prepares_66, ev_X12_prepares_67, ev_X12_prepares_68, ev_X12_prepares_69, ev_X12_prepares_70, ev_X12_prepares_73, ev_X12_prepares_76, xt_X12_prepares, xf_X12_prepares, us_X12_isTaped, us_X12_rowOf, hkd, hT, hT.lay.eqs, hl, hr, hwt, hdv, hrm, eT, cT, o1, b2i_T, not_true_eq_false, not_false_eq_true, false_imp_iff, true_imp_iff]
      try simp (disch := omega) only [wI_id, dv_nn, rm_nn]
      repeat' (first | intro z | apply And.intro)
      all_goals try omega
      all_goals first | exact w | (simp only [hT.lay.eqs]; done) | (simp only [hT.lay.eqs]; omega)
    · have cF := eq_false c
      have w := ih (t - 1) e τ a4 a5 a6 a7 a8 a9 (by omega) (by omega) hR (hW.congr fun u _ _ => by
        constructor
        · rintro q; exact ⟨by omega, q.2⟩
        · rintro ⟨q1, q2, q3⟩
          by_cases e9 : u = t
          · subst e9; exact absurd q3 c
          · exact ⟨by omega, q2, q3⟩) he (by
        have et : t - 1 + 1 = t := by omega
        rw [et]
        rcases hE with ⟨q1, q2⟩ | ⟨q1, q2, q3⟩
        · refine Or.inl ⟨q1, fun u z1 z2 => ?_⟩
          by_cases e9 : u = t
          · subst e9; exact c
          · exact q2 u (by omega) z2
        · refine Or.inr ⟨by omega, q2, fun u z1 z2 => ?_⟩
          by_cases e9 : u = t
          · subst e9; exact c
          · exact q3 u (by omega) z2)
      refine go_X12_prepares (ct := fun p => p == 50 || p == 32) 40 ?_
      simp only [oI, oL, oR, o1, lI, lL, lR, popN, catS, gv, stL, stL2, swt, cnd, spObj, List.getElem?_cons_zero, List.getElem?_cons_succ, List.getD_cons_zero, List.getD_cons_succ, List.set_cons_zero, List.set_cons_succ, List.nil_append, List.cons_append, Option.toList, Bool.or_false, Bool.false_or, Bool.or_true, Bool.true_or, Nat.reduceBEq, Nat.reduceAdd, Nat.reduceLT, Nat.reduceLeDiff, Int.reduceAdd, Int.reduceToNat, true_and, and_true, Fin.isValue, Fin.val_zero, Fin.val_one, Fin.val_two, Fin.reduceFinMk, eq_self, Int.reduceNeg, imp_self, Nat.reduceMul, Nat.le_refl, not_true_eq_false, not_false_eq_true, List.getElem?_nil, reduceCtorEq, true_or, or_true, Classical.not_not, implies_true, or_self, wI_0, wI_1, wI_m1, b2i_w, b2i_eq0, b2i_eq1, b2i_bool, nor_self, nx_pI, kd_pI, ln_pI, fI_pI, fL_pI, fR_pI, aI_pI, aL_pI, aR_pI, nx_pL, kd_pL, ln_pL, fI_pL, fL_pL, fR_pL, aI_pL, aL_pL, aR_pL, nx_pR, kd_pR, ln_pR, fI_pR, fL_pR, fR_pR, aI_pR, aL_pR, aR_pR, nx_qI, kd_qI, ln_qI, fI_qI, fL_qI, fR_qI, aI_qI, aL_qI, aR_qI, nx_qL, kd_qL, ln_qL, fI_qL, fL_qL, fR_qL, aI_qL, aL_qL, aR_qL, nx_qR, kd_qR, ln_qR, fI_qR, fL_qR, fR_qR, aI_qR, aL_qR, aR_qR, nx_mk, kd_mk, ln_mk, fI_mk, fL_mk, fR_mk, aI_mk, aL_mk, aR_mk, false_and, and_false, if_false, if_true, and_self, Int.reduceEq, Nat.reduceEqDiff, ite_self, MLay_pI, MLay_pL, MLay_qI, MLay_qL, ev_X12_prepares_32, ev_X12_prepares_33, ev_X12_prepares_36, ev_X12_prepares_37, ev_X12_prepares_38, ev_X12_prepares_39, ev_X12_prepares_40, ev_X12_prepares_41, ev_X12_prepares_44, ev_X12_prepares_47, ev_X12_prepares_50, ev_X12_prepares_51, ev_X12_prepares_54, ev_X12_prepares_55, ev_X12_prepares_57, ev_X12_prepares_58, ev_X12_prepares_59, ev_X12_prepares_60, ev_X12_prepares_61, ev_X12_prepares_62, ev_X12_prepares_64, ev_X12_prepares_65, ev_X12_prepares_66, ev_X12_prepares_67, ev_X12_prepares_68, ev_X12_prepares_69, ev_X12_prepares_70, ev_X12_prepares_73, ev_X12_prepares_76, xt_X12_prepares, xf_X12_prepares, us_X12_isTaped, us_X12_rowOf, hkd, hT, hT.lay.eqs, hl, hr, hwt, eT, cF, b2i_F, not_true_eq_false, not_false_eq_true, false_imp_iff, true_imp_iff]
      try simp (disch := omega) only [wI_id, dv_nn, rm_nn]
      repeat' (first | intro z | apply And.intro)
      all_goals try omega
      all_goals exact w

set_option maxRecDepth 20000 in
theorem pr_2 (hI : MI σ) (hl : 0 ≤ l ∧ l < 4) (hf : 1 ≤ f ∧ f ≤ 999999) (w : ∀ τ, Prep σ τ l f → Q none τ) :
    ∀ (m : Nat) (k : Int) (τ : Hp) (a4 a5 a6 a7 a8 a9 : Option AV), 0 ≤ k → k + m = 5 → RO σ τ → (∀ j, 0 ≤ j → j < k → aL τ 84 j = 0#64) → Go M_X12_prepares Q 2 [some (vr 61), some (vi l), some (vi f), some (vi k), a4, a5, a6, a7, a8, a9] [] τ (0, 0) := by
  have hsp := hI.span_s
  have hm := hI.many_ l
  have z0 : BitVec.ofNat 64 0 = 0#64 := rfl
  intro m
  induction m with
  | zero =>
    intro k τ a4 a5 a6 a7 a8 a9 h0 hk hR hz
    have hT := hR.1
    have hkd : kd τ 61 = 13 := hT.lay.1
    have es : fI τ 1329 61 = fI σ 1329 61 := hR.2.f (by decide)
    have ek : k = 5 := by omega
    subst ek
    have w32 := pr_32 (Q := Q) (l := l) (f := f) hI hl hf (fun τ e a4 a5 a6 a7 a8 a9 g1 g2 g3 g4 => by
      have hkd : kd τ 61 = 13 := g1.1.lay.1
      have w81 := pr_81 (Q := Q) (l := l) (f := f) (n := aI σ 74 l) (e := e) hI hl rfl (fun τ q1 q2 q3 q4 => w τ ⟨q1, q2, q3, by rw [q4]; exact g4⟩) (aI σ 74 l).toNat 0 τ a4 a5 a6 a7 a8 a9 (by omega) (by omega) g1 g2 (fun k' t' q1 q2 q3 => by omega) g3
      refine go_X12_prepares (ct := fun p => p == 81) 20 ?_
      simp only [oI, oL, oR, o1, lI, lL, lR, popN, catS, gv, stL, stL2, swt, cnd, spObj, List.getElem?_cons_zero, List.getElem?_cons_succ, List.getD_cons_zero, List.getD_cons_succ, List.set_cons_zero, List.set_cons_succ, List.nil_append, List.cons_append, Option.toList, Bool.or_false, Bool.false_or, Bool.or_true, Bool.true_or, Nat.reduceBEq, Nat.reduceAdd, Nat.reduceLT, Nat.reduceLeDiff, Int.reduceAdd, Int.reduceToNat, true_and, and_true, Fin.isValue, Fin.val_zero, Fin.val_one, Fin.val_two, Fin.reduceFinMk, eq_self, Int.reduceNeg, imp_self, Nat.reduceMul, Nat.le_refl, not_true_eq_false, not_false_eq_true, List.getElem?_nil, reduceCtorEq, true_or, or_true, Classical.not_not, implies_true, or_self, wI_0, wI_1, wI_m1, b2i_w, b2i_eq0, b2i_eq1, b2i_bool, nor_self, nx_pI, kd_pI, ln_pI, fI_pI, fL_pI, fR_pI, aI_pI, aL_pI, aR_pI, nx_pL, kd_pL, ln_pL, fI_pL, fL_pL, fR_pL, aI_pL, aL_pL, aR_pL, nx_pR, kd_pR, ln_pR, fI_pR, fL_pR, fR_pR, aI_pR, aL_pR, aR_pR, nx_qI, kd_qI, ln_qI, fI_qI, fL_qI, fR_qI, aI_qI, aL_qI, aR_qI, nx_qL, kd_qL, ln_qL, fI_qL, fL_qL, fR_qL, aI_qL, aL_qL, aR_qL, nx_qR, kd_qR, ln_qR, fI_qR, fL_qR, fR_qR, aI_qR, aL_qR, aR_qR, nx_mk, kd_mk, ln_mk, fI_mk, fL_mk, fR_mk, aI_mk, aL_mk, aR_mk, false_and, and_false, if_false, if_true, and_self, Int.reduceEq, Nat.reduceEqDiff, ite_self, MLay_pI, MLay_pL, MLay_qI, MLay_qL, ev_X12_prepares_79, ev_X12_prepares_80, xt_X12_prepares, xf_X12_prepares, us_X12_isTaped, us_X12_rowOf, hkd]
      exact w81) (fI σ 1329 61).toNat (fI σ 1329 61 - 1) (-1) (pI τ 1330 61 (-1)) a4 a5 a6 a7 a8 a9 (by omega) (by omega) ⟨MI_earliest_p hT (by omega), hR.2.pI _ (by decide)⟩ ((BW.zero (A := aL τ 84) (o := 0) (fun i q1 q2 => by rw [Int.zero_add]; exact hz i q1 q2)).congr fun u _ _ => ⟨False.elim, fun q => by omega⟩) rfl (Or.inl ⟨rfl, fun u q1 q2 => by omega⟩)
    refine go_X12_prepares (ct := fun p => p == 7 || p == 32) 30 ?_
    simp only [oI, oL, oR, o1, lI, lL, lR, popN, catS, gv, stL, stL2, swt, cnd, spObj, List.getElem?_cons_zero, List.getElem?_cons_succ, List.getD_cons_zero, List.getD_cons_succ, List.set_cons_zero, List.set_cons_succ, List.nil_append, List.cons_append, Option.toList, Bool.or_false, Bool.false_or, Bool.or_true, Bool.true_or, Nat.reduceBEq, Nat.reduceAdd, Nat.reduceLT, Nat.reduceLeDiff, Int.reduceAdd, Int.reduceToNat, true_and, and_true, Fin.isValue, Fin.val_zero, Fin.val_one, Fin.val_two, Fin.reduceFinMk, eq_self, Int.reduceNeg, imp_self, Nat.reduceMul, Nat.le_refl, not_true_eq_false, not_false_eq_true, List.getElem?_nil, reduceCtorEq, true_or, or_true, Classical.not_not, implies_true, or_self, wI_0, wI_1, wI_m1, b2i_w, b2i_eq0, b2i_eq1, b2i_bool, nor_self, nx_pI, kd_pI, ln_pI, fI_pI, fL_pI, fR_pI, aI_pI, aL_pI, aR_pI, nx_pL, kd_pL, ln_pL, fI_pL, fL_pL, fR_pL, aI_pL, aL_pL, aR_pL, nx_pR, kd_pR, ln_pR, fI_pR, fL_pR, fR_pR, aI_pR, aL_pR, aR_pR, nx_qI, kd_qI, ln_qI, fI_qI, fL_qI, fR_qI, aI_qI, aL_qI, aR_qI, nx_qL, kd_qL, ln_qL, fI_qL, fL_qL, fR_qL, aI_qL, aL_qL, aR_qL, nx_qR, kd_qR, ln_qR, fI_qR, fL_qR, fR_qR, aI_qR, aL_qR, aR_qR, nx_mk, kd_mk, ln_mk, fI_mk, fL_mk, fR_mk, aI_mk, aL_mk, aR_mk, false_and, and_false, if_false, if_true, and_self, Int.reduceEq, Nat.reduceEqDiff, ite_self, MLay_pI, MLay_pL, MLay_qI, MLay_qL, ev_X12_prepares_2, ev_X12_prepares_3, ev_X12_prepares_4, ev_X12_prepares_7, ev_X12_prepares_8, ev_X12_prepares_11, ev_X12_prepares_12, ev_X12_prepares_13, ev_X12_prepares_14, ev_X12_prepares_17, ev_X12_prepares_20, ev_X12_prepares_21, ev_X12_prepares_22, ev_X12_prepares_25, ev_X12_prepares_26, ev_X12_prepares_29, ev_X12_prepares_30, ev_X12_prepares_31, xt_X12_prepares, xf_X12_prepares, us_X12_isTaped, us_X12_rowOf, hkd, es]
    try simp (disch := omega) only [wI_id, dv_nn, rm_nn]
    repeat' (first | intro z | apply And.intro)
    all_goals try omega
    all_goals exact w32
  | succ m ih =>
    intro k τ a4 a5 a6 a7 a8 a9 h0 hk hR hz
    have hT := hR.1
    have hkd : kd τ 61 = 13 := hT.lay.1
    have ih := ih (k + 1) (qL τ 84 k 0#64) a4 a5 a6 a7 a8 a9 (by omega) (by omega) ⟨MI_qL hT, hR.2.qL _ (Or.inl rfl)⟩ (fun j q1 q2 => by
      rw [qL_at]
      by_cases e : j = k
      · rw [if_pos e]
      · rw [if_neg e]; exact hz j q1 (by omega))
    refine go_X12_prepares (ct := fun p => p == 20 || p == 2) 30 ?_
    simp only [oI, oL, oR, o1, lI, lL, lR, popN, catS, gv, stL, stL2, swt, cnd, spObj, List.getElem?_cons_zero, List.getElem?_cons_succ, List.getD_cons_zero, List.getD_cons_succ, List.set_cons_zero, List.set_cons_succ, List.nil_append, List.cons_append, Option.toList, Bool.or_false, Bool.false_or, Bool.or_true, Bool.true_or, Nat.reduceBEq, Nat.reduceAdd, Nat.reduceLT, Nat.reduceLeDiff, Int.reduceAdd, Int.reduceToNat, true_and, and_true, Fin.isValue, Fin.val_zero, Fin.val_one, Fin.val_two, Fin.reduceFinMk, eq_self, Int.reduceNeg, imp_self, Nat.reduceMul, Nat.le_refl, not_true_eq_false, not_false_eq_true, List.getElem?_nil, reduceCtorEq, true_or, or_true, Classical.not_not, implies_true, or_self, wI_0, wI_1, wI_m1, b2i_w, b2i_eq0, b2i_eq1, b2i_bool, nor_self, nx_pI, kd_pI, ln_pI, fI_pI, fL_pI, fR_pI, aI_pI, aL_pI, aR_pI, nx_pL, kd_pL, ln_pL, fI_pL, fL_pL, fR_pL, aI_pL, aL_pL, aR_pL, nx_pR, kd_pR, ln_pR, fI_pR, fL_pR, fR_pR, aI_pR, aL_pR, aR_pR, nx_qI, kd_qI, ln_qI, fI_qI, fL_qI, fR_qI, aI_qI, aL_qI, aR_qI, nx_qL, kd_qL, ln_qL, fI_qL, fL_qL, fR_qL, aI_qL, aL_qL, aR_qL, nx_qR, kd_qR, ln_qR, fI_qR, fL_qR, fR_qR, aI_qR, aL_qR, aR_qR, nx_mk, kd_mk, ln_mk, fI_mk, fL_mk, fR_mk, aI_mk, aL_mk, aR_mk, false_and, and_false, if_false, if_true, and_self, Int.reduceEq, Nat.reduceEqDiff, ite_self, MLay_pI, MLay_pL, MLay_qI, MLay_qL, ev_X12_prepares_2, ev_X12_prepares_3, ev_X12_prepares_4, ev_X12_prepares_7, ev_X12_prepares_8, ev_X12_prepares_11, ev_X12_prepares_12, ev_X12_prepares_13, ev_X12_prepares_14, ev_X12_prepares_17, ev_X12_prepares_20, ev_X12_prepares_21, ev_X12_prepares_22, ev_X12_prepares_25, ev_X12_prepares_26, ev_X12_prepares_29, ev_X12_prepares_30, ev_X12_prepares_31, xt_X12_prepares, xf_X12_prepares, us_X12_isTaped, us_X12_rowOf, hkd, hT.lay.eqs, z0]
    try simp (disch := omega) only [wI_id, dv_nn, rm_nn]
    repeat' (first | intro z | apply And.intro)
    all_goals try omega
    all_goals exact ih

end PR

set_option maxRecDepth 20000 in
theorem c_X12_prepares : Ct yX12_prepares cX12_prepares 10 ((none : Option FieldType)) 2 0 0 sp_X12_prepares := by
  refine Ct.go (M := M_X12_prepares) mm_X12_prepares fun av σ Q h0 => ?_
  obtain ⟨this, l, f, rfl, hk, h⟩ := el_X12_prepares h0
  clear h0
  refine ⟨Nat.le_of_ble_eq_true rfl, ?_⟩
  show Go M_X12_prepares Q 0 [some (vr this), some (vi l), some (vi f), none, none, none, none, none, none, none] [] σ (0, 0)
  obtain ⟨rfl, hI, hl, hf, h⟩ := h
  have w := pr_2 hI hl hf h 5 0 σ none none none none none none (by omega) (by omega) ⟨hI, Uv.refl _ _ _ _⟩ (fun j q1 q2 => by omega)
  refine go_X12_prepares (ct := fun p => p == 2) 30 ?_
  simp only [oI, oL, oR, o1, lI, lL, lR, popN, catS, gv, stL, stL2, swt, cnd, spObj, List.getElem?_cons_zero, List.getElem?_cons_succ, List.getD_cons_zero, List.getD_cons_succ, List.set_cons_zero, List.set_cons_succ, List.nil_append, List.cons_append, Option.toList, Bool.or_false, Bool.false_or, Bool.or_true, Bool.true_or, Nat.reduceBEq, Nat.reduceAdd, Nat.reduceLT, Nat.reduceLeDiff, Int.reduceAdd, Int.reduceToNat, true_and, and_true, Fin.isValue, Fin.val_zero, Fin.val_one, Fin.val_two, Fin.reduceFinMk, eq_self, Int.reduceNeg, imp_self, Nat.reduceMul, Nat.le_refl, not_true_eq_false, not_false_eq_true, List.getElem?_nil, reduceCtorEq, true_or, or_true, Classical.not_not, implies_true, or_self, wI_0, wI_1, wI_m1, b2i_w, b2i_eq0, b2i_eq1, b2i_bool, nor_self, nx_pI, kd_pI, ln_pI, fI_pI, fL_pI, fR_pI, aI_pI, aL_pI, aR_pI, nx_pL, kd_pL, ln_pL, fI_pL, fL_pL, fR_pL, aI_pL, aL_pL, aR_pL, nx_pR, kd_pR, ln_pR, fI_pR, fL_pR, fR_pR, aI_pR, aL_pR, aR_pR, nx_qI, kd_qI, ln_qI, fI_qI, fL_qI, fR_qI, aI_qI, aL_qI, aR_qI, nx_qL, kd_qL, ln_qL, fI_qL, fL_qL, fR_qL, aI_qL, aL_qL, aR_qL, nx_qR, kd_qR, ln_qR, fI_qR, fL_qR, fR_qR, aI_qR, aL_qR, aR_qR, nx_mk, kd_mk, ln_mk, fI_mk, fL_mk, fR_mk, aI_mk, aL_mk, aR_mk, false_and, and_false, if_false, if_true, and_self, Int.reduceEq, Nat.reduceEqDiff, ite_self, MLay_pI, MLay_pL, MLay_qI, MLay_qL, ev_X12_prepares_0, ev_X12_prepares_1, xt_X12_prepares, xf_X12_prepares, us_X12_isTaped, us_X12_rowOf]
  exact w
