/-! the reference: a line's test is what the pure reader says -/

def Cs (A : Int → Int) : Int → List Int → Prop
  | _, [] => True
  | k, c :: cs => A k = c ∧ Cs A (k + 1) cs
theorem Cs.congr {A B : Int → Int} : ∀ {cs : List Int} {k : Int}, Cs A k cs → (∀ j, k ≤ j → j < k + cs.length → B j = A j) → Cs B k cs
  | [], _, _, _ => trivial
  | c :: cs, k, h, hb => by
    simp only [List.length_cons, Int.natCast_add, Int.cast_ofNat_Int] at hb
    exact ⟨(hb k (Int.le_refl _) (by omega)).trans h.1, h.2.congr fun j a b => hb j (by omega) (by omega)⟩
theorem Cs.app {A : Int → Int} : ∀ {cs ds : List Int} {k : Int}, Cs A k cs → Cs A (k + cs.length) ds → Cs A k (cs ++ ds)
  | [], ds, k, _, h => by simpa using h
  | c :: cs, ds, k, h, h2 => ⟨h.1, h.2.app (by simp only [List.length_cons, Int.natCast_add, Int.cast_ofNat_Int] at h2; rw [show k + 1 + (cs.length : Int) = k + ((cs.length : Int) + 1) by omega]; exact h2)⟩
/-- these codes were written -/
def RR (τ τ' : Hp) (cs : List Int) : Prop := fI τ' 1359 61 = fI τ 1359 61 + cs.length ∧ (∀ j, j < fI τ 1359 61 → aI τ' 97 j = aI τ 97 j) ∧ Cs (aI τ' 97) (fI τ 1359 61) cs
theorem RR.refl (τ : Hp) : RR τ τ [] := ⟨by simp, fun _ _ => rfl, trivial⟩
theorem RR.trans {τ τ1 τ2 : Hp} {a b : List Int} (h : RR τ τ1 a) (g : RR τ1 τ2 b) : RR τ τ2 (a ++ b) := by
  obtain ⟨h1, h2, h3⟩ := h
  obtain ⟨g1, g2, g3⟩ := g
  refine ⟨by rw [g1, h1, List.length_append, Int.natCast_add]; omega, fun j q => (g2 j (by omega)).trans (h2 j q), Cs.app (h3.congr fun j q1 q2 => g2 j (by omega)) ?_⟩
  rw [← h1]; exact g3
theorem RR.of {τ τ1 τ2 : Hp} {a : List Int} (h : RR τ τ1 a) (h1 : aI τ2 97 = aI τ1 97) (h2 : fI τ2 1359 61 = fI τ1 1359 61) : RR τ τ2 a := by
  refine ⟨h2.trans h.1, fun j q => by rw [h1]; exact h.2.1 j q, by rw [h1]; exact h.2.2⟩
theorem RR.one (τ : Hp) (c : Int) : RR τ (mCode τ c) [c] := by
  refine ⟨rfl, fun j q => ?_, ?_, trivial⟩
  · show aI (qI τ 97 (fI τ 1359 61) c) 97 j = _
    rw [aI_qI, if_neg (by omega)]
  · show aI (qI τ 97 (fI τ 1359 61) c) 97 (fI τ 1359 61) = _
    rw [aI_qI, if_pos ⟨rfl, rfl⟩]
theorem bs_congr {τ τ' : Hp} : ∀ {d : Nat}, (∀ j : Int, j ≤ d → aI τ' 98 j = aI τ 98 j) → bs τ' d = bs τ d
  | 0, _ => rfl
  | d + 1, h => by
    unfold bs
    rw [h ((d : Int) + 1) (by simp), bs_congr fun j q => h j (by omega)]
def LV (d : Int) (τ τ' : Hp) : Prop := (∀ j, j ≤ d → aI τ' 98 j = aI τ 98 j) ∧ ∀ j, j < d → aI τ' 99 j = aI τ 99 j
theorem LV.trans {d : Int} {τ τ1 τ2 : Hp} (h : LV d τ τ1) (g : LV d τ1 τ2) : LV d τ τ2 := ⟨fun j q => (g.1 j q).trans (h.1 j q), fun j q => (g.2 j q).trans (h.2 j q)⟩
theorem LV.low {d e : Int} {τ τ1 : Hp} (h : LV d τ τ1) (he : e ≤ d) : LV e τ τ1 := ⟨fun j q => h.1 j (by omega), fun j q => h.2 j (by omega)⟩
theorem op_cod (τ : Hp) (c d v : Int) : aI (mOp τ c d v) 97 = aI (mCode τ c) 97 := by funext j; simp [mOp, aI_qI]
theorem op_opd (τ : Hp) (c d v j : Int) : aI (mOp τ c d v) 98 j = if j = d + 1 then v else aI τ 98 j := by
  simp only [mOp, aI_qI, op_mCode]
  by_cases e : j = d + 1 <;> simp [e]
theorem op_cmp (τ : Hp) (c d v j : Int) : aI (mOp τ c d v) 99 j = if j = d + 1 then 0 else aI τ 99 j := by
  simp only [mOp, aI_qI, cm_mCode]
  by_cases e : j = d + 1 <;> simp [e]
theorem op_code (τ : Hp) (c d v : Int) : fI τ 1359 61 + 1 = fI (mOp τ c d v) 1359 61 := rfl
theorem PV.mop {L : Int → Int} {z : Int} {σ τ : Hp} {p : Int} (h : IV L z σ τ p) (hz : tK L z p ≠ 0) {c d v : Int} (hc : 0 ≤ c ∧ c ≤ 11000) (hv : 0 ≤ v ∧ v ≤ 2) : PV L z σ (mOp τ c d v) (tE L z p) := ((h.code hz hc).op hv).cm (by omega)
section RD
variable {Q : Option AV → Hp → Prop} {l : Int} {σ : Hp} {L : Int → Int} {z : Int}
def KF (Q : Option AV → Hp → Prop) (σ : Hp) (f : Int) : Prop := f ≠ 0 → ∀ τ', MI τ' → Ut fsR arR σ τ' → fI τ' 1351 61 = f → Q (some (vi 0)) τ'
theorem KF.use {τ : Hp} {p f : Int} (h : IV L z σ τ p) (g : 1 ≤ f ∧ f ≤ 5) (k : KF Q σ (f + 16 * kB L z p)) : Q (some (vi 0)) (pI τ 1351 61 (f + 16 * kB L z p)) := by
  have ht := tok_in L h.2.2.2.2.2.2.1.2
  have h5 := h.2.2.2.2.1
  have h7 := h.2.2.2.2.2.2.1
  exact k (by omega) _ (MI_wrong_p h.1 (by omega)) (h.2.1.pI _ (by decide)) rfl

set_option maxRecDepth 20000 in
def G21 (Q : Option AV → Hp → Prop) (l : Int) (τ : Hp) (d : Nat) (wn : Int) : Prop := ∀ a4 a5 a6 : Option AV, Go M_X12_reads Q 21 [some (vr 61), some (vi l), some (vi d), some (vi wn), a4, a5, a6] [] τ (0, 0)

def M0 (Q : Option AV → Hp → Prop) (l : Int) (σ : Hp) (L : Int → Int) (z : Int) (n : Nat) : Prop := ∀ (d : Nat) (p : Int) (τ : Hp), 8 * (z - p) + 1 ≤ n → d ≤ 5 → IV L z σ τ p → KF Q σ (pp L z n 0 d (a0 p)).1 →
  ((pp L z n 0 d (a0 p)).1 = 0 → ∀ τ', IV L z σ τ' (pp L z n 0 d (a0 p)).2.1 → RR τ τ' (pp L z n 0 d (a0 p)).2.2.1 → LV d τ τ' → aI τ' 99 d = aI τ 99 d → G21 Q l τ' (bs τ d) 0) → G21 Q l τ d 1
def M1 (Q : Option AV → Hp → Prop) (l : Int) (σ : Hp) (L : Int → Int) (z : Int) (n : Nat) : Prop := ∀ (d : Nat) (p : Int) (τ : Hp), 8 * (z - p) + 2 ≤ n → d ≤ 5 → bs τ d = d → IV L z σ τ p → KF Q σ (pp L z n 1 d (a0 p)).1 →
  ((pp L z n 1 d (a0 p)).1 = 0 → ∀ τ', IV L z σ τ' (pp L z n 1 d (a0 p)).2.1 → RR τ τ' (pp L z n 1 d (a0 p)).2.2.1 → LV d τ τ' → aI τ' 99 d = aI τ 99 d → ¬ (isS L z (pp L z n 1 d (a0 p)).2.1 43 ∨ isS L z (pp L z n 1 d (a0 p)).2.1 45) → G21 Q l τ' d 0) → G21 Q l τ d 1
def M2 (Q : Option AV → Hp → Prop) (l : Int) (σ : Hp) (L : Int → Int) (z : Int) (n : Nat) : Prop := ∀ (d : Nat) (a : Rs) (τ0 τ : Hp), 8 * (z - a.2.1) + 1 ≤ n → d ≤ 5 → bs τ d = d → a.1 = 0 → IV L z σ τ a.2.1 → RR τ0 τ a.2.2.1 → KF Q σ (pp L z n 2 d a).1 →
  ((pp L z n 2 d a).1 = 0 → ∀ τ', IV L z σ τ' (pp L z n 2 d a).2.1 → RR τ0 τ' (pp L z n 2 d a).2.2.1 → LV d τ τ' → aI τ' 99 d = aI τ 99 d → ¬ (isS L z (pp L z n 2 d a).2.1 43 ∨ isS L z (pp L z n 2 d a).2.1 45) → G21 Q l τ' d 0) → G21 Q l τ d 0
def M3 (Q : Option AV → Hp → Prop) (l : Int) (σ : Hp) (L : Int → Int) (z : Int) (n : Nat) : Prop := ∀ (d : Nat) (p : Int) (τ : Hp), 8 * (z - p) + 3 ≤ n → d ≤ 5 → bs τ d = d → aI τ 99 d = 0 → IV L z σ τ p → KF Q σ (pp L z n 3 d (a0 p)).1 →
  ((pp L z n 3 d (a0 p)).1 = 0 → ∀ τ', IV L z σ τ' (pp L z n 3 d (a0 p)).2.1 → RR τ τ' (pp L z n 3 d (a0 p)).2.2.1 → LV d τ τ' → ¬ (isS L z (pp L z n 3 d (a0 p)).2.1 43 ∨ isS L z (pp L z n 3 d (a0 p)).2.1 45) → (isS L z (pp L z n 3 d (a0 p)).2.1 60 ∨ isS L z (pp L z n 3 d (a0 p)).2.1 61 → ¬ aI τ' 99 d = 0) → G21 Q l τ' d 0) → G21 Q l τ d 1
def M4 (Q : Option AV → Hp → Prop) (l : Int) (σ : Hp) (L : Int → Int) (z : Int) (n : Nat) : Prop := ∀ (d : Nat) (p : Int) (τ : Hp), 8 * (z - p) + 4 ≤ n → d ≤ 5 → bs τ d = d → aI τ 99 d = 0 → IV L z σ τ p → KF Q σ (pp L z n 4 d (a0 p)).1 →
  ((pp L z n 4 d (a0 p)).1 = 0 → ∀ τ', IV L z σ τ' (pp L z n 4 d (a0 p)).2.1 → RR τ τ' (pp L z n 4 d (a0 p)).2.2.1 → LV d τ τ' → ¬ (isS L z (pp L z n 4 d (a0 p)).2.1 43 ∨ isS L z (pp L z n 4 d (a0 p)).2.1 45) → (isS L z (pp L z n 4 d (a0 p)).2.1 60 ∨ isS L z (pp L z n 4 d (a0 p)).2.1 61 → ¬ aI τ' 99 d = 0) → ¬ (isW L z (pp L z n 4 d (a0 p)).2.1 1111 ∨ isW L z (pp L z n 4 d (a0 p)).2.1 423) → G21 Q l τ' d 0) → G21 Q l τ d 1
def M5 (Q : Option AV → Hp → Prop) (l : Int) (σ : Hp) (L : Int → Int) (z : Int) (n : Nat) : Prop := ∀ (d : Nat) (a : Rs) (τ0 τ : Hp), 8 * (z - a.2.1) + 1 ≤ n → d ≤ 5 → bs τ d = d → a.1 = 0 → IV L z σ τ a.2.1 → RR τ0 τ a.2.2.1 → ¬ (isS L z a.2.1 43 ∨ isS L z a.2.1 45) → (isS L z a.2.1 60 ∨ isS L z a.2.1 61 → ¬ aI τ 99 d = 0) → KF Q σ (pp L z n 5 d a).1 →
  ((pp L z n 5 d a).1 = 0 → ∀ τ', IV L z σ τ' (pp L z n 5 d a).2.1 → RR τ0 τ' (pp L z n 5 d a).2.2.1 → LV d τ τ' → ¬ (isS L z (pp L z n 5 d a).2.1 43 ∨ isS L z (pp L z n 5 d a).2.1 45) → (isS L z (pp L z n 5 d a).2.1 60 ∨ isS L z (pp L z n 5 d a).2.1 61 → ¬ aI τ' 99 d = 0) → ¬ (isW L z (pp L z n 5 d a).2.1 1111 ∨ isW L z (pp L z n 5 d a).2.1 423) → G21 Q l τ' d 0) → G21 Q l τ d 0
theorem m_1 {n : Nat} (h0 : M0 Q l σ L z n) (h2 : M2 Q l σ L z n) : M1 Q l σ L z (n + 1) := by
  intro d p τ hn hd hb hI hK hc
  rw [pp_1] at hK hc
  have hp := hI.2.2.2.2.2.2.1
  have ps := pp_pos L z n 0 d (a0 p) hp.1 hp.2
  refine h0 d p τ (by omega) hd hI (fun e => ?_) fun e τ1 hI1 hR hL hcm => ?_
  · rw [if_pos e] at hK
    exact hK e
  · rw [if_neg (by rw [e]; decide)] at hK hc
    have ps := ps e
    have e9 : (a0 p).2.1 = p := rfl
    have hb1 : bs τ1 d = d := (bs_congr fun j q => hL.1 j q).trans hb
    rw [hb]
    refine h2 d _ τ τ1 (by have := ps.2.2 (Or.inl rfl); omega) hd hb1 e hI1 hR hK fun e2 τ2 hI2 hR2 hL2 hcm2 hno => ?_
    exact hc e2 τ2 hI2 hR2 (hL.trans hL2) (hcm2.trans hcm) hno
theorem m_2 {n : Nat} (h0 : M0 Q l σ L z n) (h2 : M2 Q l σ L z n) : M2 Q l σ L z (n + 1) := by
  intro d a τ0 τ hn hd hb ha hI hR hK hc
  rw [pp_2] at hK hc
  have hp := hI.2.2.2.2.2.2.1
  by_cases c1 : isS L z a.2.1 43 ∨ isS L z a.2.1 45
  · rw [if_pos c1] at hK hc
    have hk : tK L z a.2.1 ≠ 0 := by rcases c1 with q | q <;> (rw [q.1]; decide)
    have ht := tok_in L hp.2
    have ht2 := ht.2.2.2.2 hk
    have hP := hI.code hk (c := if isS L z a.2.1 43 then 20 else 21) (by split <;> omega)
    have hI1 := hP.next
    have ps := pp_pos L z n 0 d (a0 (tE L z a.2.1)) (show 0 ≤ tE L z a.2.1 by omega) ht.2.2.2.1
    have e9 : (a0 (tE L z a.2.1)).2.1 = tE L z a.2.1 := rfl
    intro a4 a5 a6
    refine rd_sum hI c1 (fun a4 a5 a6 => rd_425 hP ?_) a4 a5 a6
    have hR1 : RR τ (mNext (mCode τ (if isS L z a.2.1 43 then 20 else 21))) [if isS L z a.2.1 43 then 20 else 21] := (RR.one τ _).of rfl rfl
    have hb0 : bs (mNext (mCode τ (if isS L z a.2.1 43 then 20 else 21))) d = bs τ d := bs_congr fun j q => rfl
    have hb1 := hb0.trans hb
    refine h0 d _ _ (by omega) hd hI1 (fun e => ?_) (fun e τ1 hI2 hR2 hL2 hcm2 => ?_) a4 a5 a6
    · rw [if_pos e] at hK
      exact hK e
    · rw [if_neg (by rw [e]; decide)] at hK hc
      have ps := ps e
      rw [hb1]
      have hb2 : bs τ1 d = d := (bs_congr fun j q => hL2.1 j q).trans hb1
      refine h2 d (fSum L z a (pp L z n 0 d (a0 (tE L z a.2.1)))) τ0 τ1 (show 8 * (z - (pp L z n 0 d (a0 (tE L z a.2.1))).2.1) + 1 ≤ n by omega) hd hb2 rfl hI2 ?_ hK fun e2 τ2 hI3 hR3 hL3 hcm3 hno => hc e2 τ2 hI3 hR3 (hL2.trans hL3) (hcm3.trans hcm2) hno
      have := (hR.trans hR1).trans hR2
      rw [List.append_assoc] at this
      exact this
  · rw [if_neg c1] at hK hc
    exact hc ha τ hI hR ⟨fun _ _ => rfl, fun _ _ => rfl⟩ rfl c1
theorem m_4 {n : Nat} (h3 : M3 Q l σ L z n) (h5 : M5 Q l σ L z n) : M4 Q l σ L z (n + 1) := by
  intro d p τ hn hd hb hcz hI hK hc
  rw [pp_4] at hK hc
  have hp := hI.2.2.2.2.2.2.1
  have ps := pp_pos L z n 3 d (a0 p) hp.1 hp.2
  refine h3 d p τ (by omega) hd hb hcz hI (fun e => ?_) fun e τ1 hI1 hR hL hn1 hn2 => ?_
  · rw [if_pos e] at hK
    exact hK e
  · rw [if_neg (by rw [e]; decide)] at hK hc
    have ps := ps e
    have e9 : (a0 p).2.1 = p := rfl
    have hb1 : bs τ1 d = d := (bs_congr fun j q => hL.1 j q).trans hb
    refine h5 d _ τ τ1 (by have := ps.2.2 (Or.inr (Or.inr (Or.inl rfl))); omega) hd hb1 e hI1 hR hn1 hn2 hK fun e2 τ2 hI2 hR2 hL2 q1 q2 q3 => ?_
    exact hc e2 τ2 hI2 hR2 (hL.trans hL2) q1 q2 q3
theorem m_5 {n : Nat} (h3 : M3 Q l σ L z n) (h5 : M5 Q l σ L z n) : M5 Q l σ L z (n + 1) := by
  intro d a τ0 τ hn hd hb ha hI hR hn1 hn2 hK hc
  rw [pp_5 L z n 0] at hK hc
  have hp := hI.2.2.2.2.2.2.1
  by_cases c1 : isW L z a.2.1 1111 ∨ isW L z a.2.1 423
  · rw [if_pos c1] at hK hc
    have hk : tK L z a.2.1 ≠ 0 := by rcases c1 with q | q <;> (rw [q.1]; decide)
    have ht := tok_in L hp.2
    have ht2 := ht.2.2.2.2 hk
    have hP := (hI.code hk (c := if isW L z a.2.1 1111 then 26 else 27) (by split <;> omega)).cm (j := d) (v := 0) (by omega)
    have hI1 := hP.next
    have ps := pp_pos L z n 3 d (a0 (tE L z a.2.1)) (show 0 ≤ tE L z a.2.1 by omega) ht.2.2.2.1
    have e9 : (a0 (tE L z a.2.1)).2.1 = tE L z a.2.1 := rfl
    intro a4 a5 a6
    refine rd_and hI (by omega) c1 (fun a4 a5 a6 => rd_425 hP ?_) a4 a5 a6
    have hR1 : RR τ (mNext (qI (mCode τ (if isW L z a.2.1 1111 then 26 else 27)) 99 d 0)) [if isW L z a.2.1 1111 then 26 else 27] := (RR.one τ _).of (by
      show aI (qI (mCode τ (if isW L z a.2.1 1111 then 26 else 27)) 99 d 0) 97 = _
      funext j; simp [aI_qI]) rfl
    have eo : ∀ j, aI (mNext (qI (mCode τ (if isW L z a.2.1 1111 then 26 else 27)) 99 d 0)) 98 j = aI τ 98 j := fun j => by
      show aI (qI (mCode τ (if isW L z a.2.1 1111 then 26 else 27)) 99 d 0) 98 j = _
      rw [aI_qI, if_neg (by omega), op_mCode]
    have ec : ∀ j, aI (mNext (qI (mCode τ (if isW L z a.2.1 1111 then 26 else 27)) 99 d 0)) 99 j = if j = d then 0 else aI τ 99 j := fun j => by
      show aI (qI (mCode τ (if isW L z a.2.1 1111 then 26 else 27)) 99 d 0) 99 j = _
      rw [aI_qI, cm_mCode]
      by_cases e : j = d <;> simp [e]
    generalize mNext (qI (mCode τ (if isW L z a.2.1 1111 then 26 else 27)) 99 d 0) = ρ at *
    have hb1 : bs ρ d = d := (bs_congr fun j q => eo j).trans hb
    have hLρ : LV d τ ρ := ⟨fun j q => eo j, fun j q => by rw [ec, if_neg (by omega)]⟩
    refine h3 d _ ρ (by omega) hd hb1 (by rw [ec, if_pos rfl]) hI1 (fun e => ?_) (fun e τ1 hI2 hR2 hL2 q1 q2 => ?_) a4 a5 a6
    · rw [if_pos e] at hK
      exact hK e
    · rw [if_neg (by rw [e]; decide)] at hK hc
      have ps := ps e
      have hb2 : bs τ1 d = d := (bs_congr fun j q => hL2.1 j q).trans hb1
      refine h5 d (fWhole L z a (pp L z n 3 d (a0 (tE L z a.2.1)))) τ0 τ1 (show 8 * (z - (pp L z n 3 d (a0 (tE L z a.2.1))).2.1) + 1 ≤ n by omega) hd hb2 rfl hI2 ?_ q1 q2 hK fun e2 τ2 hI3 hR3 hL3 q3 q4 q5 => hc e2 τ2 hI3 hR3 ((hLρ.trans hL2).trans hL3) q3 q4 q5
      have := (hR.trans hR1).trans hR2
      rw [List.append_assoc] at this
      exact this
  · rw [if_neg c1] at hK hc
    exact hc ha τ hI hR ⟨fun _ _ => rfl, fun _ _ => rfl⟩ hn1 hn2 c1
end RD
