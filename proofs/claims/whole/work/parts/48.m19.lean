/-! the reference: a line's test, tests and parts -/

theorem aI_mNext (τ : Hp) : aI (mNext τ) = aI τ := Eq.trans rfl rfl
theorem cd_mNext (τ : Hp) : fI (mNext τ) 1359 61 = fI τ 1359 61 := Eq.trans rfl rfl
theorem RR.nx {τ τ1 : Hp} {a : List Int} (h : RR τ τ1 a) : RR τ (mNext τ1) a := h.of (aI_mNext τ1 ▸ rfl) (cd_mNext τ1)
theorem RR.mop (τ : Hp) (c d v : Int) : RR τ (mOp τ c d v) [c] := (RR.one τ c).of (op_cod τ c d v) (Eq.trans rfl rfl)
section RD
variable {Q : Option AV → Hp → Prop} {l : Int} {σ : Hp} {L : Int → Int} {z : Int}
theorem m_3 {n : Nat} (h1 : M1 Q l σ L z n) : M3 Q l σ L z (n + 1) := by
  intro d p τ hn hd hb hcz hI hK hc
  rw [pp_3] at hK hc
  have hp := hI.2.2.2.2.2.2.1
  have ps := pp_pos L z n 1 d (a0 p) hp.1 hp.2
  have e9 : (a0 p).2.1 = p := rfl
  refine h1 d p τ (by omega) hd hb hI (fun e => ?_) fun e τ1 hI1 hR hL hcm hno => ?_
  · rw [if_pos e] at hK
    exact hK e
  · rw [if_neg (by rw [e]; decide)] at hK hc
    have ps := ps e
    have ps1 := ps.2.2 (Or.inr (Or.inl rfl))
    have hb1 : bs τ1 d = d := (bs_congr fun j q => hL.1 j q).trans hb
    generalize pp L z n 1 d (a0 p) = r at *
    by_cases c1 : isS L z r.2.1 60 ∨ isS L z r.2.1 61
    · rw [if_pos c1] at hK hc
      have hk : tK L z r.2.1 ≠ 0 := by rcases c1 with q | q <;> (rw [q.1]; decide)
      have ht := tok_in L ps.2.1
      have ht2 := ht.2.2.2.2 hk
      have hP := (hI1.code hk (c := if isS L z r.2.1 60 then 24 else 25) (by split <;> omega)).cm (j := d) (v := 1) (by omega)
      have hI2 := hP.next
      intro a4 a5 a6
      refine rd_cmp hI1 (by omega) c1 (hcm.trans hcz) (fun a4 a5 a6 => rd_425 hP ?_) a4 a5 a6
      have hR1 : RR τ1 (mNext (qI (mCode τ1 (if isS L z r.2.1 60 then 24 else 25)) 99 d 1)) [if isS L z r.2.1 60 then 24 else 25] := (RR.one τ1 _).of (by
        show aI (qI (mCode τ1 (if isS L z r.2.1 60 then 24 else 25)) 99 d 1) 97 = _
        funext j; simp [aI_qI]) rfl
      have eo : ∀ j, aI (mNext (qI (mCode τ1 (if isS L z r.2.1 60 then 24 else 25)) 99 d 1)) 98 j = aI τ1 98 j := fun j => by
        show aI (qI (mCode τ1 (if isS L z r.2.1 60 then 24 else 25)) 99 d 1) 98 j = _
        rw [aI_qI, if_neg (by omega), op_mCode]
      have ec : ∀ j, aI (mNext (qI (mCode τ1 (if isS L z r.2.1 60 then 24 else 25)) 99 d 1)) 99 j = if j = d then 1 else aI τ1 99 j := fun j => by
        show aI (qI (mCode τ1 (if isS L z r.2.1 60 then 24 else 25)) 99 d 1) 99 j = _
        rw [aI_qI, cm_mCode]
        by_cases e : j = d <;> simp [e]
      generalize mNext (qI (mCode τ1 (if isS L z r.2.1 60 then 24 else 25)) 99 d 1) = ρ at *
      have hb2 : bs ρ d = d := (bs_congr fun j q => eo j).trans hb1
      have hLρ : LV d τ1 ρ := ⟨fun j q => eo j, fun j q => by rw [ec, if_neg (by omega)]⟩
      refine h1 d (tE L z r.2.1) ρ (by omega) hd hb2 hI2 (fun e => ?_) (fun e τ2 hI3 hR3 hL3 hcm3 hno3 => ?_) a4 a5 a6
      · rw [if_pos e] at hK
        exact hK e
      · rw [if_neg (by rw [e]; decide)] at hK hc
        refine hc rfl τ2 hI3 ?_ ((hL.trans hLρ).trans hL3) hno3 (fun _ => by rw [hcm3, ec, if_pos rfl]; decide)
        have := (hR.trans hR1).trans hR3
        rw [List.append_assoc] at this
        exact this
    · rw [if_neg c1] at hK hc
      exact hc e τ1 hI1 hR hL hno (fun q => absurd q c1)
theorem ari (d : Nat) : (∀ j : Int, j ≤ d → j ≤ (d : Int) + 1) ∧ (∀ j : Int, j < d → j < (d : Int) + 1) ∧ (∀ j : Int, j ≤ d → ¬ j = (d : Int) + 1) ∧ (∀ j : Int, j < d → ¬ j = (d : Int) + 1) ∧ (d : Int) ≤ d ∧ (d : Int) < (d : Int) + 1 := ⟨fun j h => by omega, fun j h => by omega, fun j h => by omega, fun j h => by omega, by omega, by omega⟩
theorem ari2 {d : Nat} (hd : d ≤ 5) (h : ¬ (d : Int) = 5) : d < 5 ∧ (0 ≤ (d : Int) ∧ (d : Int) < 5) ∧ (d + 1 ≤ 5) ∧ (0 ≤ ((d + 1 : Nat) : Int) ∧ ((d + 1 : Nat) : Int) < 6) ∧ ¬ ((d + 1 : Nat) : Int) = 0 ∧ (((d + 1 : Nat)) : Int) = (d : Int) + 1 := by omega
theorem m_0 {n : Nat} (h0 : M0 Q l σ L z n) (h4 : M4 Q l σ L z n) : M0 Q l σ L z (n + 1) := by
  intro d p τ hn hd hI hK hc
  rw [pp_0] at hK hc
  rw [show (a0 p).2.1 = p from rfl] at hK hc
  have hp := hI.2.2.2.2.2.2.1
  have ht := tok_in L hp.2
  have hf := fc_in L z p
  have hm := hI.1
  unfold fPart at hK hc
  by_cases c1 : fc L z p = 0 ∧ ¬ isW L z p 10631 ∧ ¬ isS L z p 40 ∧ ¬ tK L z p = 2
  · rw [if_pos c1] at hK
    exact rd_f1 hI c1 (hK.use hI (by omega))
  rw [if_neg c1] at hK hc
  by_cases c2 : (d : Int) = 5
  · rw [if_pos c2] at hK
    unfold G21
    rw [c2]
    exact rd_f5 hI c1 (hK.use hI (by omega))
  rw [if_neg c2] at hK hc
  have ps4 := pp_pos L z n 4 ((d : Int) + 1) (a0 (tE L z p)) (show 0 ≤ tE L z p by omega) ht.2.2.2.1
  have ps0 := pp_pos L z n 0 ((d : Int) + 1) (a0 (tE L z p)) (show 0 ≤ tE L z p by omega) ht.2.2.2.1
  rw [show (a0 (tE L z p)).2.1 = tE L z p from rfl] at ps4 ps0
  have ar := ari d
  have ar2 := ari2 hd c2
  have ed := ar2.2.2.2.2.2
  by_cases c3 : isS L z p 40
  · rw [if_pos c3] at hK hc
    have hk : tK L z p ≠ 0 := by rw [c3.1]; decide
    have ht2 := ht.2.2.2.2 hk
    have nd4 : 8 * (z - tE L z p) + 4 ≤ n := by clear c1 c3; omega
    have nd0 : 8 * (z - tE L z p) + 1 ≤ n := by clear c1 c3; omega
    have hP := PV.mop hI hk (c := 28) (d := d) (v := 2) (by decide) (by decide)
    have hI1 := hP.next
    refine rd_open hI ar2.2.1 c3 fun a4 a5 a6 => rd_186 hP ?_
    have hR1 : RR τ (mNext (mOp τ 28 d 2)) [28] := (RR.mop τ 28 d 2).nx
    have eo : ∀ j, aI (mNext (mOp τ 28 d 2)) 98 j = if j = (d : Int) + 1 then 2 else aI τ 98 j := fun j => by rw [aI_mNext]; exact op_opd τ 28 d 2 j
    have ec : ∀ j, aI (mNext (mOp τ 28 d 2)) 99 j = if j = (d : Int) + 1 then 0 else aI τ 99 j := fun j => by rw [aI_mNext]; exact op_cmp τ 28 d 2 j
    generalize mNext (mOp τ 28 d 2) = ρ at *
    have hb1 : bs ρ (d + 1) = d + 1 := by
      unfold bs
      rw [eo, if_pos rfl, if_neg (by decide)]
    have w := h4 (d + 1) (tE L z p) ρ nd4 ar2.2.2.1 hb1 (by rw [ed, ec, if_pos rfl]) hI1
    rw [ed] at w
    have w := w ?_ ?_ a4 a5 a6
    · rw [ed] at w; exact w
    · intro e
      rw [if_pos e] at hK
      exact hK e
    · intro e τ1 hI2 hR2 hL2 q1 q2 q3
      rw [if_neg (by rw [e]; decide)] at hK hc
      have ps4 := ps4 e
      generalize pp L z n 4 ((d : Int) + 1) (a0 (tE L z p)) = r at *
      by_cases c4 : isS L z r.2.1 41
      · rw [if_pos c4] at hc
        have hk2 : tK L z r.2.1 ≠ 0 := by rw [c4.1]; decide
        have hP2 := hI2.code hk2 (c := 29) (by decide)
        intro a4 a5 a6
        rw [ed]
        refine rd_close hI2 ar2.1 c4 (fun a4 a5 a6 => rd_370 hP2.1 d hd (rd_425 hP2 ?_)) a4 a5 a6
        have eb : bs (mCode τ1 29) d = bs τ d := bs_congr fun j q => by
          rw [op_mCode, hL2.1 j (ar.1 j q), eo, if_neg (ar.2.2.1 j q)]
        rw [eb]
        refine hc rfl _ hP2.next ?_ ⟨fun j q => ?_, fun j q => ?_⟩ ?_ _ _ _
        · have := hR1.trans (hR2.trans (RR.one τ1 29).nx)
          exact this
        · rw [aI_mNext, op_mCode]
          rw [hL2.1 j (ar.1 j q), eo, if_neg (ar.2.2.1 j q)]
        · rw [aI_mNext, cm_mCode]
          rw [hL2.2 j (ar.2.1 j q), ec, if_neg (ar.2.2.2.1 j q)]
        · rw [aI_mNext, cm_mCode]
          rw [hL2.2 d ar.2.2.2.2.2, ec, if_neg (ar.2.2.1 d ar.2.2.2.2.1)]
      · rw [if_neg c4] at hK
        intro a4 a5 a6
        exact rd_stop hI2 ar2.2.2.2.1 q1 q2 q3 (fun q => absurd q c4) (fun _ => ar2.2.2.2.2.1) (hK.use hI2 ⟨Int.le_refl 1, by decide⟩) a4 a5 a6
  rw [if_neg c3] at hK hc
  by_cases c4 : isW L z p 10631
  · rw [if_pos c4] at hK hc
    have hk : tK L z p ≠ 0 := by rw [c4.1]; decide
    have ht2 := ht.2.2.2.2 hk
    have nd0 : 8 * (z - tE L z p) + 1 ≤ n := by clear c1 c3 c4; omega
    have hP := PV.mop hI hk (c := 30) (d := d) (v := 1) (by decide) (by decide)
    have hI1 := hP.next
    refine rd_not hI ar2.2.1 c4 fun a4 a5 a6 => rd_186 hP ?_
    have hR1 : RR τ (mNext (mOp τ 30 d 1)) [30] := (RR.mop τ 30 d 1).nx
    have eo : ∀ j, aI (mNext (mOp τ 30 d 1)) 98 j = if j = (d : Int) + 1 then 1 else aI τ 98 j := fun j => by rw [aI_mNext]; exact op_opd τ 30 d 1 j
    have ec : ∀ j, aI (mNext (mOp τ 30 d 1)) 99 j = if j = (d : Int) + 1 then 0 else aI τ 99 j := fun j => by rw [aI_mNext]; exact op_cmp τ 30 d 1 j
    generalize mNext (mOp τ 30 d 1) = ρ at *
    have hb1 : bs ρ (d + 1) = bs τ d := by
      have e1 : bs ρ (d + 1) = bs ρ d := by
        show (if aI ρ 98 ((d : Int) + 1) = 1 then bs ρ d else d + 1) = _
        rw [eo, if_pos rfl, if_pos rfl]
      rw [e1]
      exact bs_congr fun j q => by rw [eo, if_neg (ar.2.2.1 j q)]
    have w := h0 (d + 1) (tE L z p) ρ nd0 ar2.2.2.1 hI1
    rw [ed] at w
    have w := w ?_ ?_ a4 a5 a6
    · rw [ed] at w; exact w
    · intro e
      rw [if_pos e] at hK
      exact hK e
    · intro e τ1 hI2 hR2 hL2 hcm2
      rw [if_neg (by rw [e]; decide)] at hK hc
      rw [hb1]
      refine hc rfl τ1 hI2 (hR1.trans hR2) ⟨fun j q => ?_, fun j q => ?_⟩ ?_
      · rw [hL2.1 j (ar.1 j q), eo, if_neg (ar.2.2.1 j q)]
      · rw [hL2.2 j (ar.2.1 j q), ec, if_neg (ar.2.2.2.1 j q)]
      · rw [hL2.2 d ar.2.2.2.2.2, ec, if_neg (ar.2.2.1 d ar.2.2.2.2.1)]
  · rw [if_neg c4] at hK hc
    have hk : tK L z p ≠ 0 := by
      intro e
      refine c1 ⟨?_, c4, c3, by omega⟩
      by_cases e2 : fc L z p = 0
      · exact e2
      · have := hf.2.2 e2; omega
    have htt := tT_in L z p hp.2
    have hP := hI.code hk (c := if 0 < fc L z p then fc L z p else 100 + tT L z p) (by split <;> omega)
    refine rd_atom hI ar2.2.1 c1 c3 c4 fun a4 a5 a6 => rd_166 hP.1 d hd (rd_186 hP ?_)
    have eb : bs (mCode τ (if 0 < fc L z p then fc L z p else 100 + tT L z p)) d = bs τ d := bs_congr fun j q => by rw [op_mCode]
    rw [eb]
    exact hc rfl _ hP.next (RR.one τ _).nx ⟨fun j q => by rw [aI_mNext, op_mCode], fun j q => by rw [aI_mNext, cm_mCode]⟩ (by rw [aI_mNext, cm_mCode]) _ _ _
theorem m_all (n : Nat) : M0 Q l σ L z n ∧ M1 Q l σ L z n ∧ M2 Q l σ L z n ∧ M3 Q l σ L z n ∧ M4 Q l σ L z n ∧ M5 Q l σ L z n := by
  induction n with
  | zero =>
    refine ⟨?_, ?_, ?_, ?_, ?_, ?_⟩
    · intro d p τ hn hd hI; have := hI.2.2.2.2.2.2.1; omega
    · intro d p τ hn hd hb hI; have := hI.2.2.2.2.2.2.1; omega
    · intro d a τ0 τ hn hd hb ha hI; have := hI.2.2.2.2.2.2.1; omega
    · intro d p τ hn hd hb hz hI; have := hI.2.2.2.2.2.2.1; omega
    · intro d p τ hn hd hb hz hI; have := hI.2.2.2.2.2.2.1; omega
    · intro d a τ0 τ hn hd hb ha hI; have := hI.2.2.2.2.2.2.1; omega
  | succ n ih => exact ⟨m_0 ih.1 ih.2.2.2.2.1, m_1 ih.1 ih.2.2.1, m_2 ih.1 ih.2.2.1, m_3 ih.2.1, m_4 ih.2.2.2.1 ih.2.2.2.2.2, m_5 ih.2.2.2.1 ih.2.2.2.2.2⟩
end RD
