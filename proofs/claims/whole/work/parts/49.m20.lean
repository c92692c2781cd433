/-! the reference: a line's test, as a contract -/

theorem skp_idem (L : Int → Int) (z : Int) : ∀ (n : Nat) (p : Int), p + n = z → (skp L z n p = z ∨ ¬ (L (skp L z n p) = 32 ∨ L (skp L z n p) = 10))
  | 0, p, h => Or.inl (by unfold skp; omega)
  | n + 1, p, h => by
    unfold skp
    by_cases c : p < z ∧ (L p = 32 ∨ L p = 10)
    · rw [if_pos c]
      exact skp_idem L z n (p + 1) (by omega)
    · rw [if_neg c]
      exact Or.inr fun q => c ⟨by omega, q⟩
theorem kB_kB (L : Int → Int) {z p : Int} (h : p ≤ z) : kB L z (kB L z p) = kB L z p := by
  have h1 := skp_idem L z (z - p).toNat p (by omega)
  have h2 := kB_in L h
  have e : skp L z (z - p).toNat p = kB L z p := rfl
  rw [e] at h1
  generalize kB L z p = b at *
  show skp L z (z - b).toNat b = b
  cases hn : (z - b).toNat with
  | zero => rfl
  | succ n =>
    unfold skp
    rw [if_neg]
    rintro ⟨q1, q2⟩
    rcases h1 with h1 | h1
    · omega
    · exact h1 q2
theorem TT.b {L : Int → Int} {z : Int} {τ : Hp} {p : Int} (h : TT L z τ p) (hp : p ≤ z) : TT L z τ (fI τ 1347 61) := by
  obtain ⟨h1, h2, h3, h4, h5⟩ := h
  rw [h1]
  have e := kB_kB L hp
  refine ⟨?_, ?_, ?_, ?_, ?_⟩
  · rw [e]; exact h1
  · rw [h2]; unfold tE; rw [e]
  · rw [h3]; unfold tW; rw [e]
  · rw [h4]; unfold tT; rw [e]
  · rw [h5]; unfold tK; rw [e]
/-- a line's test, behind "when" -/
def rdF (L : Int → Int) (z : Int) (r : Rs) : Rs := if r.1 ≠ 0 then r else if isS L z r.2.1 59 then (0, tE L z r.2.1, r.2.2) else (1 + 16 * kB L z r.2.1, r.2)
def rdR (L : Int → Int) (z p : Int) : Rs := rdF L z (pp L z (8 * (z - p).toNat + 4) 4 0 (a0 p))
def arL (l : Int) (r j : Int) : Prop := arR r j ∨ ((r = 95 ∨ r = 96) ∧ j = l)
/-- where lines lie: as before, or written anew -/
def FL (σ τ : Hp) : Prop := ∀ j, (aI τ 95 j = aI σ 95 j ∨ 0 ≤ aI τ 95 j) ∧ (aI τ 96 j = aI σ 96 j ∨ 0 ≤ aI τ 96 j)
/-- at a token -/
def TS (τ : Hp) : Prop := TT (aI τ 92) (fI τ 1345 61) τ (fI τ 1347 61) ∧ (0 ≤ fI τ 1347 61 ∧ fI τ 1347 61 ≤ fI τ 1345 61) ∧ 1000 ≤ fI τ 1359 61 ∧ fI τ 1359 61 ≤ 1000 + fI τ 1347 61

def sp_X12_reads : Sp := fun av σ Q => oR av fun this av => oI av fun l av => av = [] ∧ kd σ this = 13 ∧ (this = 61 ∧ MI σ ∧ (24 ≤ l ∧ l < 48) ∧ TS σ ∧ ((rdR (aI σ 92) (fI σ 1345 61) (fI σ 1347 61)).1 ≠ 0 → ∀ τ, MI τ → Ut fsR (arL l) σ τ → FL σ τ → fI τ 1351 61 = (rdR (aI σ 92) (fI σ 1345 61) (fI σ 1347 61)).1 → Q (some (vi 0)) τ) ∧ ((rdR (aI σ 92) (fI σ 1345 61) (fI σ 1347 61)).1 = 0 → ∀ τ, MI τ → Ut fsR (arL l) σ τ → TS τ → fI τ 1347 61 = kB (aI σ 92) (fI σ 1345 61) (rdR (aI σ 92) (fI σ 1345 61) (fI σ 1347 61)).2.1 → RR σ τ (rdR (aI σ 92) (fI σ 1345 61) (fI σ 1347 61)).2.2.1 → aI τ 95 l = fI σ 1359 61 → aI τ 96 l = fI τ 1359 61 → Q (some (vi 1)) τ))
theorem us_X12_reads (this : Int) (l : Int) (σ : Hp) (Q : Option AV → Hp → Prop) : sp_X12_reads [vr this, vi l] σ Q = (kd σ this = 13 ∧ (this = 61 ∧ MI σ ∧ (24 ≤ l ∧ l < 48) ∧ TS σ ∧ ((rdR (aI σ 92) (fI σ 1345 61) (fI σ 1347 61)).1 ≠ 0 → ∀ τ, MI τ → Ut fsR (arL l) σ τ → FL σ τ → fI τ 1351 61 = (rdR (aI σ 92) (fI σ 1345 61) (fI σ 1347 61)).1 → Q (some (vi 0)) τ) ∧ ((rdR (aI σ 92) (fI σ 1345 61) (fI σ 1347 61)).1 = 0 → ∀ τ, MI τ → Ut fsR (arL l) σ τ → TS τ → fI τ 1347 61 = kB (aI σ 92) (fI σ 1345 61) (rdR (aI σ 92) (fI σ 1345 61) (fI σ 1347 61)).2.1 → RR σ τ (rdR (aI σ 92) (fI σ 1345 61) (fI σ 1347 61)).2.2.1 → aI τ 95 l = fI σ 1359 61 → aI τ 96 l = fI τ 1359 61 → Q (some (vi 1)) τ))) := propext ⟨fun h => h.2, fun h => ⟨rfl, h⟩⟩
theorem el_X12_reads {av : List AV} {σ : Hp} {Q : Option AV → Hp → Prop} (h : sp_X12_reads av σ Q) : ∃ (this : Int) (l : Int), av = [vr this, vi l] ∧ (kd σ this = 13 ∧ (this = 61 ∧ MI σ ∧ (24 ≤ l ∧ l < 48) ∧ TS σ ∧ ((rdR (aI σ 92) (fI σ 1345 61) (fI σ 1347 61)).1 ≠ 0 → ∀ τ, MI τ → Ut fsR (arL l) σ τ → FL σ τ → fI τ 1351 61 = (rdR (aI σ 92) (fI σ 1345 61) (fI σ 1347 61)).1 → Q (some (vi 0)) τ) ∧ ((rdR (aI σ 92) (fI σ 1345 61) (fI σ 1347 61)).1 = 0 → ∀ τ, MI τ → Ut fsR (arL l) σ τ → TS τ → fI τ 1347 61 = kB (aI σ 92) (fI σ 1345 61) (rdR (aI σ 92) (fI σ 1345 61) (fI σ 1347 61)).2.1 → RR σ τ (rdR (aI σ 92) (fI σ 1345 61) (fI σ 1347 61)).2.2.1 → aI τ 95 l = fI σ 1359 61 → aI τ 96 l = fI τ 1359 61 → Q (some (vi 1)) τ))) := by
  obtain ⟨this, a0, rfl, h0⟩ := oR_s h
  obtain ⟨l, a1, rfl, h1⟩ := oI_s h0
  obtain ⟨rfl, hz⟩ := h1
  exact ⟨this, l, rfl, hz⟩
theorem rc_X12_reads : ∀ (av : List AV) (σ : Hp) (Q : Option AV → Hp → Prop), sp_X12_reads av σ Q → ∃ r tl, av = vr r :: tl ∧ kd σ r = 12 + 1 := fun av σ Q h => by
  obtain ⟨this, l, rfl, hz, -⟩ := el_X12_reads h
  exact ⟨this, _, rfl, hz⟩

set_option maxRecDepth 20000 in
theorem c_X12_reads : Ct yX12_reads cX12_reads 7 ((some FieldType.boolean)) 3 0 0 sp_X12_reads := by
  refine Ct.go (M := M_X12_reads) mm_X12_reads fun av σ Q h0 => ?_
  obtain ⟨this, l, rfl, hk, h⟩ := el_X12_reads h0
  clear h0
  refine ⟨Nat.le_of_ble_eq_true rfl, ?_⟩
  show Go M_X12_reads Q 0 [some (vr this), some (vi l), none, none, none, none, none] [] σ (0, 0)
  obtain ⟨rfl, hI, hl, ⟨hT, hb, hc1, hc2⟩, k1, k2⟩ := h
  have hcd := hI.code_s
  have hsz := hI.size_s
  generalize eL : aI σ 92 = L at *
  generalize ez : fI σ 1345 61 = z at *
  generalize ep : fI σ 1347 61 = p at *
  let σ1 := qI (qI σ 99 0 0) 95 l (fI σ 1359 61)
  have hM1 : MI σ1 := MI_lineFrom_q (MI_compared_q hI (by omega)) (by omega)
  have eL1 : aI σ1 92 = L := by rw [← eL]; funext j; simp [σ1, aI_qI]
  have eo : ∀ j, aI σ1 97 j = aI σ 97 j := fun j => by simp [σ1, aI_qI]
  have hU1 : Ut fsR (arL l) σ σ1 := ((Ut.refl _ _ _).qI _ (Or.inl (Or.inr (Or.inl rfl)))).qI _ (Or.inr ⟨Or.inl rfl, rfl⟩)
  have hFL : ∀ τ, Ut fsR arR σ1 τ → FL σ τ := by
    intro τ hU j
    have e1 := hU.2.2.2.2.2.2.2.2 95 j (by unfold arR; omega)
    have e2 := hU.2.2.2.2.2.2.2.2 96 j (by unfold arR; omega)
    rw [e1, e2]
    simp only [σ1, aI_qI]
    refine ⟨?_, Or.inl (by simp)⟩
    by_cases e : j = l
    · right; simp [e]; omega
    · left; simp [e]
  have hI1 : IV L z σ1 σ1 p := ⟨hM1, Ut.refl _ _ _, eL1, ez, hsz.2, hT, hb, hc1, hc2⟩
  have m4 := (m_all (Q := Q) (l := l) (σ := σ1) (L := L) (z := z) (8 * (z - p).toNat + 4)).2.2.2.2.1 0 p σ1 (by omega) (by omega) rfl (by simp [σ1, aI_qI]) hI1
  have hps := pp_pos L z (8 * (z - p).toNat + 4) 4 0 (a0 p) hb.1 hb.2
  have e0 : ((0 : Nat) : Int) = 0 := rfl
  rw [e0] at m4
  unfold rdR at k1 k2
  generalize pp L z (8 * (z - p).toNat + 4) 4 0 (a0 p) = r at *
  unfold rdF at k1 k2
  have w := m4 (fun e τ hM hU hw => by
    rw [if_pos e] at k1
    exact k1 e τ hM (hU1.trans (hU.mono (fun f q => q) (fun r j q => Or.inl q))) (hFL τ hU) hw) (fun e τ hIv hR hLv q1 q2 q3 => by
    have hps := hps e
    rw [if_neg (by rw [e]; decide)] at k1 k2
    intro a4 a5 a6
    have hU := hU1.trans (hIv.2.1.mono (fun f q => q) (fun r j q => Or.inl q) : Ut fsR (arL l) σ1 τ)
    have hRσ : RR σ τ r.2.2.1 := ⟨hR.1, fun j q => (hR.2.1 j q).trans (eo j), hR.2.2⟩
    by_cases c : isS L z r.2.1 59
    · rw [if_pos c] at k2
      have ht := tok_in L hps.2.1
      have ht2 := ht.2.2.2.2 (by rw [c.1]; decide)
      have hl2 : 0 ≤ l ∧ l < 48 := by clear q1 q2 q3; omega
      refine rd_end hIv hl2 c ?_ a4 a5 a6
      obtain ⟨hM, h2, h3, h4, h5, h6, h7, h8⟩ := hIv
      have hcd2 := hM.code_s
      have hM2 : MI (qI τ 96 l (fI τ 1359 61)) := MI_lineTo_q hM (by clear q1 q2 q3; omega)
      have hP : fI (qI τ 96 l (fI τ 1359 61)) 1346 61 = tE L z r.2.1 := h6.2.1
      have eL2 : aI (qI τ 96 l (fI τ 1359 61)) 92 = L := by rw [← h3]; funext j; simp [aI_qI]
      have eL3 : aI (mNext (qI τ 96 l (fI τ 1359 61))) 92 = L := by rw [aI_mNext, eL2]
      have eN : mNext (qI τ 96 l (fI τ 1359 61)) = tk (qI τ 96 l (fI τ 1359 61)) (kB L z (tE L z r.2.1)) (tE L z (tE L z r.2.1)) (tW L z (tE L z r.2.1)) (tT L z (tE L z r.2.1)) (tK L z (tE L z r.2.1)) := by
        unfold mNext
        rw [eL2, hP, show fI (qI τ 96 l (fI τ 1359 61)) 1345 61 = z from h4]
      have hTn : TT L z (mNext (qI τ 96 l (fI τ 1359 61))) (tE L z r.2.1) := by rw [eN]; exact ⟨rfl, rfl, rfl, rfl, rfl⟩
      have hb2 := tok_in L ht.2.2.2.1
      have eB : fI (mNext (qI τ 96 l (fI τ 1359 61))) 1347 61 = kB L z (tE L z r.2.1) := hTn.1
      have eC : fI (mNext (qI τ 96 l (fI τ 1359 61))) 1359 61 = fI τ 1359 61 := cd_mNext _
      have eZ : fI (mNext (qI τ 96 l (fI τ 1359 61))) 1345 61 = z := by rw [eN, tk_fz]; exact h4
      refine k2 rfl _ (MI_mNext hM2 ?_) ?_ ⟨?_, ?_, ?_⟩ ?_ ?_ ?_ ?_
      · rw [hP, show fI (qI τ 96 l (fI τ 1359 61)) 1345 61 = z from h4]; exact ht.2.2.2.1
      · rw [eN]
        exact (((((hU.qI _ (Or.inr ⟨Or.inr rfl, rfl⟩)).pI _ (by decide)).pI _ (by decide)).pL _ (by decide)).pI _ (by decide)).pI _ (by decide)
      · rw [eL3, eZ]; exact hTn.b ht.2.2.2.1
      · rw [eB, eZ]; clear q1 q2 q3; omega
      · rw [eB, eC]; clear q1 q2 q3; omega
      · exact eB
      · refine hRσ.of (by rw [aI_mNext]; funext j; simp [aI_qI]) eC
      · rw [aI_mNext]
        have hU2 := h2.2.2.2.2.2.2.2.2 95 l (by clear q1 q2 q3; unfold arR; omega)
        rw [aI_qI, if_neg (fun q => absurd q.1 (by decide)), hU2]
        simp [σ1, aI_qI]
      · rw [aI_mNext, eC, aI_qI, if_pos ⟨rfl, rfl⟩]
    · rw [if_neg c] at k1
      have h0 : (0 : Int) ≤ (0 : Int) ∧ (0 : Int) < 6 := by decide
      refine rd_stop hIv h0 q1 q2 q3 (fun _ => rfl) (fun q => absurd q c) ?_ a4 a5 a6
      have hK : KF Q σ1 (1 + 16 * kB L z r.2.1) := fun ne τ' a b d => k1 ne τ' a (hU1.trans (b.mono (fun f q => q) (fun r j q => Or.inl q))) (hFL τ' b) d
      exact hK.use hIv ⟨by decide, by decide⟩)
  refine go_X12_reads (ct := fun p => p == 21 || p == 166 || p == 370) 30 ?_
  simp only [oI, oL, oR, o1, lI, lL, lR, popN, catS, gv, stL, stL2, swt, cnd, spObj, List.getElem?_cons_zero, List.getElem?_cons_succ, List.getD_cons_zero, List.getD_cons_succ, List.set_cons_zero, List.set_cons_succ, List.nil_append, List.cons_append, Option.toList, Bool.or_false, Bool.false_or, Bool.or_true, Bool.true_or, Nat.reduceBEq, Nat.reduceAdd, Nat.reduceLT, Nat.reduceLeDiff, Int.reduceAdd, Int.reduceToNat, true_and, and_true, Fin.isValue, Fin.val_zero, Fin.val_one, Fin.val_two, Fin.reduceFinMk, eq_self, Int.reduceNeg, imp_self, Nat.reduceMul, Nat.le_refl, not_true_eq_false, not_false_eq_true, List.getElem?_nil, reduceCtorEq, true_or, or_true, Classical.not_not, implies_true, or_self, wI_0, wI_1, wI_m1, b2i_w, b2i_eq0, b2i_eq1, b2i_bool, nor_self, nx_pI, kd_pI, ln_pI, fI_pI, fL_pI, fR_pI, aI_pI, aL_pI, aR_pI, nx_pL, kd_pL, ln_pL, fI_pL, fL_pL, fR_pL, aI_pL, aL_pL, aR_pL, nx_pR, kd_pR, ln_pR, fI_pR, fL_pR, fR_pR, aI_pR, aL_pR, aR_pR, nx_qI, kd_qI, ln_qI, fI_qI, fL_qI, fR_qI, aI_qI, aL_qI, aR_qI, nx_qL, kd_qL, ln_qL, fI_qL, fL_qL, fR_qL, aI_qL, aL_qL, aR_qL, nx_qR, kd_qR, ln_qR, fI_qR, fL_qR, fR_qR, aI_qR, aL_qR, aR_qR, nx_mk, kd_mk, ln_mk, fI_mk, fL_mk, fR_mk, aI_mk, aL_mk, aR_mk, false_and, and_false, if_false, if_true, and_self, Int.reduceEq, Nat.reduceEqDiff, ite_self, MLay_pI, MLay_pL, MLay_qI, MLay_qL, ev_X12_reads_0, ev_X12_reads_1, ev_X12_reads_2, ev_X12_reads_3, ev_X12_reads_4, ev_X12_reads_5, ev_X12_reads_8, ev_X12_reads_9, ev_X12_reads_10, ev_X12_reads_11, ev_X12_reads_12, ev_X12_reads_15, ev_X12_reads_16, ev_X12_reads_17, ev_X12_reads_20, xt_X12_reads, xf_X12_reads, us_X12_fact, us_X12_isWord, us_X12_isSign, us_X12_fails, us_X12_code, us_X12_next, hk, hI.lay.eqs]
  repeat' (first | intro z | apply And.intro)
  all_goals try omega
  all_goals exact w _ _ _
