/-! something that nobody of the picture knows is made (an exception): all that holds goes on holding -/

theorem fu_mk99 {b n : Int} {σ : Hp} (hF : Fu b n σ) (hw : Wf σ) : Fu b n (mk σ 99 0) := by
  obtain ⟨⟨hC, hnw, hX, hL, hG, hA, hK, hR, hH, hT, hLT, hTX, hLD⟩, ⟨iM, iB, iF, iU, iC, iW, iA, iH, iG, iN, iS, iT⟩, hS⟩ := hF
  have hnx := hw.1
  have ls0 := lists_ok hX hG hA hL
  have kn : ∀ k, kd σ k ≠ 0 → ¬ k = nx σ := fun k hk => by
    have := hw.bel k hk
    omega
  have z : Kp (fun _ => False) (fun _ => False) σ (mk σ 99 0) := ⟨fun k hk => by
    have h1 := kn k hk
    exact ⟨by rw [kd_mk, if_neg h1], by rw [ln_mk, if_neg h1], by rw [aI_mk], by rw [aL_mk], fun f _ => ⟨by rw [fI_mk], by rw [fR_mk]⟩, fun f => by rw [fL_mk], fun _ => by rw [aR_mk]⟩, by rw [fR_mk]⟩
  have re : RE σ (mk σ 99 0) := z.re iM.1.lay (fun _ _ _ q => q)
  have s0 : S21 (mk σ 99 0) := fun k hk => by
    rw [kd_mk] at hk
    by_cases q2 : k = nx σ
    · rw [if_pos q2] at hk
      omega
    · rw [if_neg q2] at hk
      exact hw.s21 k hk
  have C1 : CLay (mk σ 99 0) := hC.kp z (fun q => q) (fun q => q)
  have c1 : kd σ 1 ≠ 0 := by simp only [hC.eqs]; decide
  have r_now : fI (mk σ 99 0) 1210 1 = fI (mk σ 99 0) 1301 61 := by
    rw [fI_mk]
    exact hnw
  have r_BX : BX (mk σ 99 0) (mk σ 99 0) := (hX.kp z (fun q => q) (fun q => q)).re re
  have r_LR : ∀ l, 0 ≤ l → l < 4 → LR l (mk σ 99 0) (mk σ 99 0) := fun l a1 a2 => ((hL l a1 a2).kp hC ⟨a1, a2⟩ z (fun q => q) (fun q => q) (fun k p1 p2 => (hX.1.kp z (fun q => q) (fun q => q)).2.2 _)).re re
  have r_BG : BG (mk σ 99 0) (mk σ 99 0) := (hG.kp hC z (fun q => q) (fun q => q)).re re
  have r_AL : AL (mk σ 99 0) (mk σ 99 0) := (hA.kp hC z (fun q => q) (fun q => q) (fun a _ _ => (hX.1.kp z (fun q => q) (fun q => q)).2.2 _)).re re
  have r_DKR : DKR (mk σ 99 0) (mk σ 99 0) := (hK.kp hC z).re re
  have r_RDR : RDR (mk σ 99 0) (mk σ 99 0) := (hR.kp hC z).re re
  have r_held : fI (mk σ 99 0) 901 24 = fI (mk σ 99 0) 1343 61 ∧ aI (mk σ 99 0) 25 = aI (mk σ 99 0) 92 := by
    rw [fI_mk, aI_mk]
    exact hH
  have r_TG : TGr (mk σ 99 0) := hT.kp hC z
  have r_LTT : LTT (mk σ 99 0) := hLT.kp hC z
  have r_TXT : TXT (mk σ 99 0) := hTX.kp hw.s21 s0 z (fun _ _ q => q) (fun k hk => by rw [kd_mk, if_neg (by omega)]) (by rw [fI_mk])
  have r_LD : LD (mk σ 99 0) := hLD.kp z (fun _ _ q => q) (fun q h => by obtain ⟨ci, g⟩ := ls0 q h; rw [g.1]; decide) (fun q h => by obtain ⟨ci, g⟩ := ls0 q h; rw [g.2.1]; decide)
  exact ⟨⟨C1, r_now, r_BX, r_LR, r_BG, r_AL, r_DKR, r_RDR, r_held, r_TG, r_LTT, r_TXT, r_LD⟩, ⟨iM.re re, iB.re re, iF.re re, iU.re re, iC.re re, iW.re re, iA.re re, iH.re re, iG.re re, iN.re re, iS.re re, iT.re re⟩, hS.kp z⟩
/-- d such things -/
def jk (σ : Hp) : Nat → Hp
  | 0 => σ
  | d + 1 => mk (jk σ d) 99 0
theorem Wf_jk {σ : Hp} (hw : Wf σ) : ∀ d, Wf (jk σ d)
  | 0 => hw
  | d + 1 => (Wf_jk hw d).mk (Or.inr (by omega)) (by omega)
theorem fu_jk {b n : Int} {σ : Hp} (hF : Fu b n σ) (hw : Wf σ) : ∀ d, Fu b n (jk σ d)
  | 0 => hF
  | d + 1 => fu_mk99 (fu_jk hF hw d) (Wf_jk hw d)
theorem nx_jk (σ : Hp) : ∀ d : Nat, nx (jk σ d) = nx σ + d
  | 0 => by
    show nx σ = nx σ + ((0 : Nat) : Int)
    omega
  | d + 1 => by
    have ih := nx_jk σ d
    show nx (mk (jk σ d) 99 0) = _
    rw [nx_mk, ih]
    omega
/-- the picture of them: the heap keeps what lay there -/
theorem HB_jk {g : GG} {U : State} {σ : Hp} {H H1 : Heap} (h : HB g U σ H) (oq : ∀ q : Nat, q < H.size → H1[q]? = H[q]?) {d : Nat} (hs : H1.size = H.size + d) : HB g U (jk σ d) H1 := by
  obtain ⟨h1, h2, h3, h4⟩ := h
  have key : ∀ e : Nat, Sim g (jk σ e) H1 ∧ Str g U (jk σ e) H1 := fun e => by
    induction e with
    | zero => exact ⟨fun k hk h0 => (h1 k hk h0).kept (oq _ (h1 k hk h0).lt), h4.kept fun a ha _ => oq a ha⟩
    | succ e ih =>
      have w := Wf_jk h2 e
      refine ⟨?_, ih.2.mk w.1 w.kd0 (by decide)⟩
      show Sim g (mk (jk σ e) 99 0) H1
      refine ih.1.grow (fun q hq => by rw [kd_mk, if_neg hq]) (fun q hq _ => cel_mk hq) (fun ht => ?_) (fun q _ => rfl)
      rw [kd_mk, if_pos rfl] at ht
      unfold trk at ht
      omega
  have hn := h2.1
  refine ⟨(key d).1, Wf_jk h2 d, ⟨?_, fun r hr => h3.2 r ?_⟩, (key d).2⟩
  · rw [nx_jk, hs, h3.1]
    omega
  · rw [nx_jk] at hr
    omega
theorem jk_a (σ : Hp) (r : Int) : ∀ d : Nat, aI (jk σ d) r = aI σ r
  | 0 => rfl
  | d + 1 => by
    show aI (mk (jk σ d) 99 0) r = _
    rw [aI_mk]
    exact jk_a σ r d
theorem jk_f (σ : Hp) (f : Nat) (k : Int) : ∀ d : Nat, fI (jk σ d) f k = fI σ f k
  | 0 => rfl
  | d + 1 => by
    show fI (mk (jk σ d) 99 0) f k = _
    rw [fI_mk]
    exact jk_f σ f k d
