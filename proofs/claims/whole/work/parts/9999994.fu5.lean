/-! all that holds between two steps holds behind a step: feed, over -/

section FEE
variable {σ τ : Hp}
def HLq (σ τ : Hp) : Prop := fI σ 901 24 = fI τ 1343 61 ∧ aI σ 25 = aI τ 92
theorem HLq_sg {x : Int} (h : HLq σ τ) : HLq (cSg σ x) (mSign τ x) := by
  obtain ⟨h1, h2⟩ := h
  unfold HLq cSg mSign
  by_cases c : (x = 10 ∨ (32 ≤ x ∧ x ≤ 126)) ∧ fI σ 901 24 < 1000
  · rw [if_pos c, if_pos ⟨by rw [← h1]; exact c.2, c.1⟩]
    refine ⟨?_, funext fun j => ?_⟩
    · rw [fI_pI, if_pos ⟨rfl, rfl⟩, fI_pI, if_pos ⟨rfl, rfl⟩, h1]
    · simp only [aI_pI, aI_qI, true_and]
      rw [h1, h2]
  · rw [if_neg c, if_neg (fun q => c ⟨q.2, by rw [h1]; exact q.1⟩)]
    exact ⟨h1, h2⟩
theorem byte3_1 (a b c : BitVec 64) {n : Nat} (h : n < 8) : byte3 a b c n = cBt a n := by
  unfold byte3 cBt
  rw [if_pos (by omega), show ((n : Int) % 8) = n by omega]
theorem byte3_2 (a b c : BitVec 64) {n : Nat} (h : n < 8) : byte3 a b c ((8 + n : Nat) : Int) = cBt b n := by
  unfold byte3 cBt
  rw [if_neg (by omega), if_pos (by omega), show (((8 + n : Nat) : Int) % 8) = n by omega]
theorem byte3_3 (a b c : BitVec 64) {n : Nat} (h : n < 8) : byte3 a b c ((16 + n : Nat) : Int) = cBt c n := by
  unfold byte3 cBt
  rw [if_neg (by omega), if_neg (by omega), show (((16 + n : Nat) : Int) % 8) = n by omega]
theorem HLq_1 (h : HLq σ τ) (a b c : BitVec 64) : ∀ n : Nat, n ≤ 8 → HLq (cBs σ a n) (mFeed τ a b c n)
  | 0, _ => h
  | n + 1, hn => by
    show HLq (cSg (cBs σ a n) (cBt a n)) (mSign (mFeed τ a b c n) (byte3 a b c n))
    rw [byte3_1 a b c (by omega)]
    exact HLq_sg (HLq_1 h a b c n (by omega))
theorem HLq_2 (h : HLq σ τ) (a b c : BitVec 64) : ∀ n : Nat, n ≤ 8 → HLq (cBs (cBs σ a 8) b n) (mFeed τ a b c (8 + n))
  | 0, _ => HLq_1 h a b c 8 (by omega)
  | n + 1, hn => by
    show HLq (cSg (cBs (cBs σ a 8) b n) (cBt b n)) (mSign (mFeed τ a b c (8 + n)) (byte3 a b c ((8 + n : Nat) : Int)))
    rw [byte3_2 a b c (by omega)]
    exact HLq_sg (HLq_2 h a b c n (by omega))
theorem HLq_3 (h : HLq σ τ) (a b c : BitVec 64) : ∀ n : Nat, n ≤ 8 → HLq (cBs (cBs (cBs σ a 8) b 8) c n) (mFeed τ a b c (16 + n))
  | 0, _ => HLq_2 h a b c 8 (by omega)
  | n + 1, hn => by
    show HLq (cSg (cBs (cBs (cBs σ a 8) b 8) c n) (cBt c n)) (mSign (mFeed τ a b c (16 + n)) (byte3 a b c ((16 + n : Nat) : Int)))
    rw [byte3_3 a b c (by omega)]
    exact HLq_sg (HLq_3 h a b c n (by omega))
theorem LTT_sg {x : Int} (h : LTT σ) : LTT (cSg σ x) := by
  obtain ⟨h1, h2⟩ := h
  unfold cSg
  split
  · rename_i c
    refine ⟨?_, fun j => ?_⟩
    · rw [fI_pI, if_pos ⟨rfl, rfl⟩]
      omega
    · rw [aI_pI, aI_qI]
      split
      · omega
      · exact h2 j
  · exact ⟨h1, h2⟩
theorem LTT_bs (h : LTT σ) (v : BitVec 64) : ∀ n : Nat, LTT (cBs σ v n)
  | 0 => h
  | n + 1 => LTT_sg (LTT_bs h v n)
theorem Rf_mFeed (τ : Hp) (a b c : BitVec 64) : ∀ n : Nat, Rf [1300, 1343] [92] τ (mFeed τ a b c n)
  | 0 => Rf.rf _ _ τ
  | n + 1 => by
    have ih := Rf_mFeed τ a b c n
    show Rf _ _ τ (mSign (mFeed τ a b c n) (byte3 a b c n))
    unfold mSign
    split
    · exact (ih.q (by decide)).p (by decide)
    · exact ih
theorem CE_mFeed (τ : Hp) (a b c : BitVec 64) : ∀ n : Nat, CE τ (mFeed τ a b c n)
  | 0 => CE.rf τ
  | n + 1 => by
    have ih := CE_mFeed τ a b c n
    show CE τ (mSign (mFeed τ a b c n) (byte3 a b c n))
    unfold mSign
    split
    · exact (ih.tr (CE_qI _ _ _ (by decide))).tr (CE_pI _ 61 _ (by decide))
    · exact ih
end FEE
theorem fu_feed {b n : Int} {σ : Hp} {u v w : BitVec 64} (hF : Fu b n σ) (hb : b < 0) (hw : ∀ r, kd σ r = 21 → r < 0)  : Fu b n (mFeed (pI (cBs (cBs (cBs σ u 8) v 8) w 8) 1300 61 0) u v w 24) := by
  obtain ⟨⟨hC, hnw, hX, hL, hG, hA, hK, hR, hH, hT, hLT, hTX, hLD⟩, ⟨iM, iB, iF, iU, iC, iW, iA, iH, iG, iN, iS, iT⟩, hS⟩ := hF
  have z : Fz [901] (fun r => r = 25) noR σ (cBs (cBs (cBs σ u 8) v 8) w 8) := ((cBs_s σ u 8).1.tr (cBs_s _ v 8).1).tr (cBs_s _ w 8).1
  have re : RE σ (cBs (cBs (cBs σ u 8) v 8) w 8) := z.re (by decide) (fun r q => by first | exact absurd q id | (dsimp only at q; omega) | omega | (unfold tfA at q; omega) | (unfold tfL at q; omega)) (fun r q => by first | exact absurd q id | (dsimp only at q; omega) | omega | (unfold tfA at q; omega) | (unfold tfL at q; omega))
  have gH0 : HLq σ (pI (cBs (cBs (cBs σ u 8) v 8) w 8) 1300 61 0) := ⟨hH.1.trans (re.2 1343 (by omega) (by omega)).1.symm, hH.2.trans (re.1 92 (by omega) (by omega)).2.2.1.symm⟩
  have gH : HLq (cBs (cBs (cBs σ u 8) v 8) w 8) (mFeed (pI (cBs (cBs (cBs σ u 8) v 8) w 8) 1300 61 0) u v w 24) := HLq_3 gH0 u v w 8 (by omega)
  obtain ⟨σ1, e1⟩ : ∃ ρ9 : Hp, ρ9 = cBs (cBs (cBs σ u 8) v 8) w 8 := ⟨_, rfl⟩
  rw [← e1] at z re gH ⊢
  have C1 : CLay σ1 := hC.fz z (by decide)
  have n1 : fI σ1 1210 1 = fI σ1 1301 61 := by
    rw [z.fI (f := 1210) (by decide), hnw]
    exact (re.2 1301 (by omega) (by omega)).1.symm
  have iM1 : MI σ1 := MI_RE re iM.1
  obtain ⟨τ, e2⟩ : ∃ ρ9 : Hp, ρ9 = mFeed (pI σ1 1300 61 0) u v w 24 := ⟨_, rfl⟩
  rw [← e2] at gH ⊢
  have rf : Rf [1300, 1343] [92] σ1 τ := by
    rw [e2]
    exact (Rf_thr _ _ σ1 0 (by decide)).tr (Rf_mFeed _ u v w 24)
  have ce : CE σ1 τ := by
    rw [e2]
    exact (CE_pI σ1 61 0 (by decide)).tr (CE_mFeed _ u v w 24)
  have mi : MI τ := by
    rw [e2]
    exact MI_mFeed (MI_fre iM1 (by decide)) u v w 24
  have S1 : Scp σ1 b n := by
    unfold Scp at *
    rw [z.kd, z.ln, z.aI (r := b) (by first | exact id | omega | (intro q; dsimp only at q; omega) | (unfold tfA; omega))]
    exact hS
  have r_now : fI σ1 1210 1 = fI τ 1301 61 := n1.trans (rf.1 1301 (by omega) (by omega) (by decide)).symm
  have r_BX : BX σ1 τ := ((hX.re re).fz z (by decide) (by decide) (by decide) (by decide)).rf rf (by decide) (by decide)
  have r_LR : ∀ l, 0 ≤ l → l < 4 → LR l σ1 τ := fun l a b => ((((hL l a b).re re).fz hC ⟨a, b⟩ z (by decide) (by decide) (by decide) (by decide) (by decide) (fun r h1 h2 => by first | exact id | omega | (intro q; dsimp only at q; omega) | (unfold tfA; omega))).rf rf (by decide))
  have r_BG : BG σ1 τ := ((hG.re re).fz z (by decide) (by first | exact id | omega | (intro q; dsimp only at q; omega) | (unfold tfA; omega) | (unfold tfL; omega)) (by first | exact id | omega | (intro q; dsimp only at q; omega) | (unfold tfA; omega) | (unfold tfL; omega))).rf rf (by decide) (by decide)
  have r_AL : AL σ1 τ := ((hA.re re).fz z (by decide) (by decide) (by decide) (by decide) (by decide) (fun r q => by first | exact absurd q id | (dsimp only at q; omega) | omega | (unfold tfA at q; omega) | (unfold tfL at q; omega))).rf rf (by decide) (by decide)
  have r_DKR : DKR σ1 τ := ((hK.re re).fz z (by decide) (fun r q => by first | exact absurd q id | (dsimp only at q; omega) | omega | (unfold tfA at q; omega) | (unfold tfL at q; omega))).rf rf (by decide) (by decide)
  have r_RDR : RDR σ1 τ := ((hR.re re).fz z (by decide) (by first | exact id | omega | (intro q; dsimp only at q; omega) | (unfold tfA; omega) | (unfold tfL; omega))).rf rf (by decide) (by decide)
  have r_held : fI σ1 901 24 = fI τ 1343 61 ∧ aI σ1 25 = aI τ 92 := gH
  have r_TG : TGr σ1 := hT.fz z (by first | exact id | omega | (intro q; dsimp only at q; omega) | (unfold tfA; omega) | (unfold tfL; omega)) (by first | exact id | omega | (intro q; dsimp only at q; omega) | (unfold tfA; omega) | (unfold tfL; omega))
  have r_LTT : LTT σ1 := by rw [e1]; exact LTT_bs (LTT_bs (LTT_bs hLT u 8) v 8) w 8
  have r_TXT : TXT σ1 := hTX.fz z (by decide) (fun r q e => by have q2 := hw r e; first | exact absurd q id | (dsimp only at q; omega) | omega | (unfold tfA at q; omega))
  have r_LD : LD σ1 := hLD.fz z (by decide)
  have i_MT : MT τ := (iM.re re).rf rf mi (by decide) (by decide)
  have i_RB : RB τ := (iB.re re).rf rf (by decide) (by decide)
  have i_kF : kFirst τ := (iF.re re).rf rf (by decide)
  have i_upL : upL τ := (iU.re re).rf rf (by decide)
  have i_mC : mCards τ := (iC.re re).rf rf (by decide) (by decide)
  have i_WI : WI τ := (iW.re re).rf rf (by decide) (by decide)
  have i_AB : AB τ := (iA.re re).rf rf (by decide) (by decide)
  have i_HI : HIs τ := (iH.re re).rf rf (by decide) (by decide)
  have i_WG : WG τ := (iG.re re).rf rf (by decide) (by decide)
  have i_InN : InN τ := (iN.re re).rf rf (by decide) (by decide)
  have i_InS : InS2 τ := (iS.re re).rf rf (by decide) (by decide)
  have i_lT : lT τ := (iT.re re).rf rf (by decide) (by decide)
  have rel : Rel σ1 τ := ⟨C1, r_now, r_BX, r_LR, r_BG, r_AL, r_DKR, r_RDR, r_held, r_TG, r_LTT, r_TXT, r_LD⟩
  exact ⟨rel.ce (fun r q => hw r (by rw [← z.kd]; exact q)) ce, ⟨i_MT, i_RB, i_kF, i_upL, i_mC, i_WI, i_AB, i_HI, i_WG, i_InN, i_InS, i_lT⟩, S1.ce hb ce⟩
section OVR
variable {σ τ : Hp}
theorem cHm_is (σ : Hp) (al q : Int) : ∀ n : Nat, ((∃ i : Nat, i < n ∧ lat σ 18 (aI σ (al + 1) i) = q) → fI (cHm σ al n) 603 q = 0 ∧ fI (cHm σ al n) 602 q = fI σ 601 q) ∧ (¬ (∃ i : Nat, i < n ∧ lat σ 18 (aI σ (al + 1) i) = q) → fI (cHm σ al n) 603 q = fI σ 603 q ∧ fI (cHm σ al n) 602 q = fI σ 602 q)
  | 0 => ⟨fun ⟨i, h, _⟩ => absurd h (Nat.not_lt_zero i), fun _ => ⟨rfl, rfl⟩⟩
  | n + 1 => by
    have ih := cHm_is σ al q n
    have e1 : fI (cHm σ al (n + 1)) 603 q = if q = lat σ 18 (aI σ (al + 1) n) then 0 else fI (cHm σ al n) 603 q := by
      show fI (pI (pI (cHm σ al n) 603 (lat σ 18 (aI σ (al + 1) n)) 0) 602 (lat σ 18 (aI σ (al + 1) n)) (fI σ 601 ((lat σ 18 (aI σ (al + 1) n))))) 603 q = _
      simp only [fI_pI, Nat.reduceEqDiff, false_and, if_false, true_and]
    have e2 : fI (cHm σ al (n + 1)) 602 q = if q = lat σ 18 (aI σ (al + 1) n) then fI σ 601 ((lat σ 18 (aI σ (al + 1) n))) else fI (cHm σ al n) 602 q := by
      show fI (pI (pI (cHm σ al n) 603 (lat σ 18 (aI σ (al + 1) n)) 0) 602 (lat σ 18 (aI σ (al + 1) n)) (fI σ 601 ((lat σ 18 (aI σ (al + 1) n))))) 602 q = _
      simp only [fI_pI, Nat.reduceEqDiff, false_and, if_false, true_and]
    rw [e1, e2]
    by_cases c : q = lat σ 18 (aI σ (al + 1) n)
    · rw [if_pos c, if_pos c, ← c]
      exact ⟨fun _ => ⟨rfl, rfl⟩, fun h => absurd ⟨n, Nat.lt_succ_self n, c.symm⟩ h⟩
    · rw [if_neg c, if_neg c]
      refine ⟨fun ⟨i, h1, h2⟩ => ih.1 ⟨i, ?_, h2⟩, fun h => ih.2 fun ⟨i, h1, h2⟩ => h ⟨i, by omega, h2⟩⟩
      have : i ≠ n := fun e => c (by rw [← e]; exact h2.symm)
      omega
theorem mOv_a (τ : Hp) (a v : Int) {r : Int} (h : ¬ r = 89) (j : Int) : aI (mOv τ a v) r j = aI (qI (qI (qI (pI τ 1300 61 0) 112 a 1) 113 a v) 114 a (fI τ 1301 61 / 86400)) r j := mHome_a _ a h j _
theorem mOv_f (τ : Hp) (a v : Int) {f : Nat} (h : ¬ f = 1300) (k : Int) : fI (mOv τ a v) f k = fI τ f k := by
  unfold mOv
  rw [fI_mHome]
  simp only [fI_qI, fI_pI]
  rw [if_neg (fun q => h q.1)]
theorem mOv_at (τ : Hp) (a v j : Int) : aI (mOv τ a v) 89 j = if (0 ≤ j ∧ j < (fI τ 1335 61).toNat) ∧ aI τ 89 j < 0 ∧ aI τ 90 j = a then aI τ 88 j else aI τ 89 j := by
  unfold mOv
  rw [mHome_j]
  simp only [aI_qI, aI_pI, Int.reduceEq, false_and, if_false]
theorem Rf_mOv (τ : Hp) (a v : Int) : Rf [1300] [112, 113, 114, 89] τ (mOv τ a v) := ⟨fun f p q h => mOv_f τ a v (fun e => h (by rw [e]; exact List.mem_cons_self)) 61, fun r p q h => funext fun j => by
  simp only [List.mem_cons, List.not_mem_nil, or_false, not_or] at h
  rw [mOv_a τ a v h.2.2.2 j]
  simp only [aI_qI, aI_pI, h, false_and, if_false]⟩
theorem CE_mHome (τ : Hp) (a : Int) : ∀ n : Nat, CE τ (mHome τ a n)
  | 0 => CE.rf τ
  | n + 1 => by
    have ih := CE_mHome τ a n
    unfold mHome
    split
    · exact ih.tr (CE_qI _ _ _ (by decide))
    · exact ih
theorem CE_mOv (τ : Hp) (a v : Int) : CE τ (mOv τ a v) :=
  ((((CE_pI τ 61 0 (by decide)).tr (CE_qI _ _ _ (by decide))).tr (CE_qI _ _ _ (by decide))).tr (CE_qI _ _ _ (by decide))).tr (CE_mHome _ a _)
theorem MI_mOv {τ : Hp} (h : MI τ) (a : Int) {v : Int} (hv : v = 0 ∨ v = 1) : MI (mOv τ a v) := by
  have hn := h.now_s
  exact MI_mHome (MI_overDay_q (MI_overTrue_q (MI_isOver_q (MI_fre h (by decide)) (by omega)) (by omega)) (by omega)) a _
/-- who is on the way to an open alarm: its row -/
theorem InS2.row (h : InS2 τ) {a c : Int} (ha : 0 ≤ a ∧ a < fI τ 1371 61) (ho : aI τ 112 a = 0) (hc : 0 ≤ c ∧ c < fI τ 1335 61) : (aI τ 89 c < 0 ∧ aI τ 90 c = a) ↔ ∃ i, (0 ≤ i ∧ i < aI τ 115 a) ∧ aI τ 116 (20 * a + i) = c := by
  constructor
  · rintro ⟨h1, h2⟩
    obtain ⟨-, -, i, q1, q2⟩ := h.1 c hc.1 hc.2 h1
    rw [h2] at q1 q2
    exact ⟨i, q1, q2⟩
  · rintro ⟨i, q1, q2⟩
    have := (h.2.1 a i ha q1).2 ho
    rw [q2] at this
    exact this
theorem BG_over {a v d : Int} {m : Nat} (g : BG σ τ) (hS : InS2 τ) (hI : MI τ) (hA : AL σ τ) (ha : 0 ≤ a ∧ a < fI τ 1371 61) (ho : aI τ 112 a = 0) (hm : (m : Int) = aI τ 115 a) : BG (cHm (cOv1 σ (lat σ 28 a) v d) (lat σ 28 a) m) (mOv τ a v) := by
  obtain ⟨σ2, e2⟩ : ∃ ρ9 : Hp, ρ9 = cOv1 σ (lat σ 28 a) v d := ⟨_, rfl⟩
  have z1 : Fz [105, 106, 107] noR noR σ σ2 := by
    rw [e2]
    exact ((Fz_pI (fs := [105, 106, 107]) (f := 105) _ _ _ (by decide)).tr (Fz_pI (f := 106) _ _ _ (by decide))).tr (Fz_pI (f := 107) _ _ _ (by decide))
  rw [← e2]
  have z2 := Fz_cHm σ2 (lat σ 28 a) m
  have el1 := z1.elt (by decide)
  have el2 := z2.elt (by decide)
  have g0 := g
  obtain ⟨g1, g2, g3, g4, g5, g6, g7, g8⟩ := g
  have f1 : ∀ {f : Nat}, ¬ f = 1300 → ∀ k, fI (mOv τ a v) f k = fI τ f k := fun h k => mOv_f τ a v h k
  have hAE := hA.2.2.1 a ha.1 ha.2
  have sm := hI.sentMany_ a
  refine ⟨(g1.fz z1 (by decide) (by decide) (by decide)).fz z2 (by decide) (by decide) (by decide), ?_, ?_, ?_, ?_, ?_, ?_, ?_⟩
  · rw [z2.fI (f := 1402) (by decide), z1.fI (f := 1402) (by decide), f1 (by decide)]
    exact g2
  · intro c q1 q2
    rw [f1 (by decide)] at q2
    rw [el2, el1]
    have ge := g3 c q1 q2
    have hrow := hS.row ha ho ⟨q1, q2⟩
    have hc := cHm_is σ2 (lat σ 28 a) (lat σ 18 c) m
    rw [el1, z1.aI (r := lat σ 28 a + 1) id, z1.fI (f := 603) (by decide), z1.fI (f := 602) (by decide), z1.fI (f := 601) (by decide)] at hc
    have hiff : (∃ i : Nat, i < m ∧ lat σ 18 (aI σ (lat σ 28 a + 1) i) = lat σ 18 c) ↔ (aI τ 89 c < 0 ∧ aI τ 90 c = a) := by
      rw [hrow]
      constructor
      · rintro ⟨i, y1, y2⟩
        refine ⟨(i : Int), by omega, ?_⟩
        have y3 := hAE.2.2.2.2.2.2.2.1 (i : Int) (by omega) (by omega)
        rw [y3] at y2
        have y4 := (hS.2.1 a (i : Int) ha (by omega)).1
        rcases Int.lt_trichotomy (aI τ 116 (20 * a + i)) c with y | y | y
        · exact absurd y2 (g4 _ _ y4.1 y q2)
        · exact y
        · exact absurd y2.symm (g4 _ _ q1 y y4.2)
      · rintro ⟨i, y1, y2⟩
        refine ⟨i.toNat, by omega, ?_⟩
        have y3 := hAE.2.2.2.2.2.2.2.1 i (by omega) (by omega)
        have yi : ((i.toNat : Nat) : Int) = i := by omega
        rw [yi, y3, y2]
    have hat := mOv_at τ a v c
    have hkd := mOv_a τ a v (r := 87) (by decide) c
    have how := mOv_a τ a v (r := 88) (by decide) c
    have hth := mOv_a τ a v (r := 91) (by decide) c
    simp only [aI_qI, aI_pI, Int.reduceEq, false_and, if_false] at hkd how hth
    have ow := hI.own_ c
    unfold CoE at ge ⊢
    obtain ⟨p0, p1, p2, p3, p4, p5⟩ := ge
    rw [z2.fI (f := 600) (by decide), z2.fI (f := 601) (by decide), z2.fI (f := 604) (by decide), z1.fI (f := 600) (by decide), z1.fI (f := 601) (by decide), z1.fI (f := 604) (by decide), hkd, how, hth, hat]
    by_cases y : aI τ 89 c < 0 ∧ aI τ 90 c = a
    · have h2 := hc.1 (hiff.mpr y)
      rw [if_pos ⟨⟨q1, by omega⟩, y⟩, h2.1, h2.2, p2]
      exact ⟨p0, p1, rfl, fun q => by omega, fun _ => ⟨rfl, rfl⟩, by omega⟩
    · have h2 := hc.2 (fun q => y (hiff.mp q))
      rw [if_neg (fun q => y q.2), h2.1, h2.2]
      exact ⟨p0, p1, p2, p3, p4, p5⟩
  · intro c e q1 q2 q3
    rw [f1 (by decide)] at q3
    rw [el2, el1]
    exact g4 c e q1 q2 q3
  · rw [z2.fI (f := 403) (by decide), z1.fI (f := 403) (by decide), f1 (by decide)]
    exact g5
  · intro u
    rw [z2.aI (r := 16) id, z2.aI (r := 17) id, z1.aI (r := 16) id, z1.aI (r := 17) id, mOv_a τ a v (by decide), mOv_a τ a v (by decide)]
    exact g6 u
  · rw [z2.fI (f := 404) (by decide), z1.fI (f := 404) (by decide), f1 (by decide)]
    exact g7
  · rw [z2.fI (f := 405) (by decide), z1.fI (f := 405) (by decide), f1 (by decide)]
    exact g8
theorem AL_over {a v d : Int} {m : Nat} (h : AL σ τ) (ha : 0 ≤ a ∧ a < fI τ 1371 61) (hd : d = fI τ 1301 61 / 86400) : AL (cHm (cOv1 σ (lat σ 28 a) v d) (lat σ 28 a) m) (mOv τ a v) := by
  have hne : ∀ b, 0 ≤ b → b < fI τ 1371 61 → ¬ b = a → ¬ lat σ 28 b = lat σ 28 a := fun b q1 q2 e => by
    rcases Int.lt_or_gt_of_ne e with z | z
    · exact h.2.2.2.1 b a q1 z ha.2
    · exact fun y => h.2.2.2.1 a b ha.1 z q2 y.symm
  have z2 := Fz_cHm (cOv1 σ (lat σ 28 a) v d) (lat σ 28 a) m
  have z1 : Fz [105, 106, 107] noR noR σ (cOv1 σ (lat σ 28 a) v d) := ((Fz_pI (fs := [105, 106, 107]) (f := 105) _ _ _ (by decide)).tr (Fz_pI (f := 106) _ _ _ (by decide))).tr (Fz_pI (f := 107) _ _ _ (by decide))
  have v1 : ∀ q, fI (cOv1 σ (lat σ 28 a) v d) 105 q = if q = lat σ 28 a then 1 else fI σ 105 q := fun q => by
    unfold cOv1
    simp only [fI_pI, Nat.reduceEqDiff, false_and, if_false, true_and]
  have v2 : ∀ q, fI (cOv1 σ (lat σ 28 a) v d) 106 q = if q = lat σ 28 a then v else fI σ 106 q := fun q => by
    unfold cOv1
    simp only [fI_pI, Nat.reduceEqDiff, false_and, if_false, true_and]
  have v3 : ∀ q, fI (cOv1 σ (lat σ 28 a) v d) 107 q = if q = lat σ 28 a then d else fI σ 107 q := fun q => by
    unfold cOv1
    simp only [fI_pI, Nat.reduceEqDiff, false_and, if_false, true_and]
  generalize cOv1 σ (lat σ 28 a) v d = σ2 at *
  generalize cHm σ2 (lat σ 28 a) m = σ3 at *
  have el1 := z1.elt (by decide)
  have el2 := z2.elt (by decide)
  obtain ⟨h1, h2, h3, h4, h5, h6⟩ := h
  have f1 : ∀ {f : Nat}, ¬ f = 1300 → ∀ k, fI (mOv τ a v) f k = fI τ f k := fun h k => mOv_f τ a v h k
  have ar : ∀ {r : Int}, ¬ r = 89 → ¬ r = 112 → ¬ r = 113 → ¬ r = 114 → aI (mOv τ a v) r = aI τ r := fun q0 q1 q2 q3 => funext fun j => by
    rw [mOv_a τ a v q0 j]
    simp only [aI_qI, aI_pI, q1, q2, q3, false_and, if_false]
  have o1 : ∀ b, aI (mOv τ a v) 112 b = if b = a then 1 else aI τ 112 b := fun b => by
    rw [mOv_a τ a v (by decide)]
    simp only [aI_qI, aI_pI, Int.reduceEq, false_and, if_false, true_and]
  have o2 : ∀ b, aI (mOv τ a v) 113 b = if b = a then v else aI τ 113 b := fun b => by
    rw [mOv_a τ a v (by decide)]
    simp only [aI_qI, aI_pI, Int.reduceEq, false_and, if_false, true_and]
  have o3 : ∀ b, aI (mOv τ a v) 114 b = if b = a then d else aI τ 114 b := fun b => by
    rw [mOv_a τ a v (by decide), hd]
    simp only [aI_qI, aI_pI, Int.reduceEq, false_and, if_false, true_and]
  refine ⟨(h1.fz z1 (by decide) (by decide) (by decide)).fz z2 (by decide) (by decide) (by decide), ?_, ?_, ?_, ?_, ?_⟩
  · rw [z2.fI (f := 1402) (by decide), z1.fI (f := 1402) (by decide), f1 (by decide)]
    exact h2
  · intro b q1 q2
    rw [f1 (by decide)] at q2
    have ge := h3 b q1 q2
    rw [el2, el1]
    unfold AlE at ge ⊢
    rw [el2, el1, z2.fR (f := 100) (by decide), z1.fR (f := 100) (by decide), z2.fR (f := 102) (by decide), z1.fR (f := 102) (by decide), z2.kd, z1.kd, z2.ln, z1.ln, z2.aI (r := lat σ 28 b + 1) id, z1.aI (r := lat σ 28 b + 1) id, z2.fI (f := 101) (by decide), z1.fI (f := 101) (by decide), z2.fI (f := 103) (by decide), z1.fI (f := 103) (by decide), z2.fI (f := 104) (by decide), z1.fI (f := 104) (by decide), z2.fI (f := 105) (by decide), z2.fI (f := 106) (by decide), z2.fI (f := 107) (by decide), v1, v2, v3, ar (r := 109) (by decide) (by decide) (by decide) (by decide), ar (r := 110) (by decide) (by decide) (by decide) (by decide), ar (r := 115) (by decide) (by decide) (by decide) (by decide), ar (r := 116) (by decide) (by decide) (by decide) (by decide), ar (r := 111) (by decide) (by decide) (by decide) (by decide), o1, o2, o3]
    obtain ⟨k0, k1, k2, k3, k4, k5, k6, k7, k8, k9, k10, k11⟩ := ge
    by_cases e : b = a
    · subst e
      simp only [if_true]
      exact ⟨k0, k1, k2, k3, k4, k5, k6, k7, k8, trivial, trivial, trivial⟩
    · have hn := hne b q1 q2 e
      simp only [hn, e, if_false]
      exact ⟨k0, k1, k2, k3, k4, k5, k6, k7, k8, k9, k10, k11⟩
  · intro b e q1 q2 q3
    rw [f1 (by decide)] at q3
    rw [el2, el1]
    exact h4 b e q1 q2 q3
  · intro w
    rw [z2.aI (r := 29) id, z1.aI (r := 29) id, z2.aI (r := 30) id, z1.aI (r := 30) id, z2.aI (r := 31) id, z1.aI (r := 31) id, ar (r := 117) (by decide) (by decide) (by decide) (by decide), ar (r := 119) (by decide) (by decide) (by decide) (by decide), ar (r := 118) (by decide) (by decide) (by decide) (by decide)]
    exact h5 w
  · rw [z2.fI (f := 204) (by decide), z1.fI (f := 204) (by decide), f1 (by decide)]
    exact h6
end OVR
theorem fu_over {b n : Int} {σ : Hp} {a v d : Int} {m : Nat} (hF : Fu b n σ) (hb : b < 0) (hw : ∀ r, kd σ r = 21 → r < 0) (hd : d = fI σ 1301 61 / 86400) (hv : v = 0 ∨ v = 1) (hm : (m : Int) = aI σ 115 a) (c : (0 ≤ a ∧ a < fI σ 1371 61) ∧ aI σ 112 a = 0) : Fu b n (mOv (cHm (cOv1 σ (lat σ 28 a) v d) (lat σ 28 a) m) a v) := by
  obtain ⟨⟨hC, hnw, hX, hL, hG, hA, hK, hR, hH, hT, hLT, hTX, hLD⟩, ⟨iM, iB, iF, iU, iC, iW, iA, iH, iG, iN, iS, iT⟩, hS⟩ := hF
  have z : Fz [105, 106, 107, 603, 602] noR noR σ (cHm (cOv1 σ (lat σ 28 a) v d) (lat σ 28 a) m) := ((((Fz_pI (fs := [105, 106, 107, 603, 602]) (f := 105) _ _ _ (by decide)).tr (Fz_pI (f := 106) _ _ _ (by decide))).tr (Fz_pI (f := 107) _ _ _ (by decide))).tr ((Fz_cHm _ (lat σ 28 a) m).up (by decide) (fun r q => q) (fun r q => q)))
  have re : RE σ (cHm (cOv1 σ (lat σ 28 a) v d) (lat σ 28 a) m) := z.re (by decide) (fun r q => by first | exact absurd q id | (dsimp only at q; omega) | omega | (unfold tfA at q; omega) | (unfold tfL at q; omega)) (fun r q => by first | exact absurd q id | (dsimp only at q; omega) | omega | (unfold tfA at q; omega) | (unfold tfL at q; omega))
  have gG := BG_over (σ := σ) (v := v) (d := d) (m := m) (hG.re re) (iS.re re) (MI_RE re iM.1) (hA.re re) (by rw [(re.2 1371 (by omega) (by omega)).1]; exact c.1) (by rw [(re.1 112 (by omega) (by omega)).2.2.1]; exact c.2) (by rw [(re.1 115 (by omega) (by omega)).2.2.1]; exact hm)
  have gA := AL_over (σ := σ) (v := v) (d := d) (m := m) (hA.re re) (by rw [(re.2 1371 (by omega) (by omega)).1]; exact c.1) (by rw [(re.2 1301 (by omega) (by omega)).1]; exact hd)
  obtain ⟨σ1, e1⟩ : ∃ ρ9 : Hp, ρ9 = cHm (cOv1 σ (lat σ 28 a) v d) (lat σ 28 a) m := ⟨_, rfl⟩
  rw [← e1] at z re gG gA ⊢
  have C1 : CLay σ1 := hC.fz z (by decide)
  have n1 : fI σ1 1210 1 = fI σ1 1301 61 := by
    rw [z.fI (f := 1210) (by decide), hnw]
    exact (re.2 1301 (by omega) (by omega)).1.symm
  have iM1 : MI σ1 := MI_RE re iM.1
  obtain ⟨τ, e2⟩ : ∃ ρ9 : Hp, ρ9 = mOv σ1 a v := ⟨_, rfl⟩
  rw [← e2] at gG gA ⊢
  have rf : Rf [1300] [112, 113, 114, 89] σ1 τ := by
    rw [e2]
    exact Rf_mOv σ1 a v
  have ce : CE σ1 τ := by
    rw [e2]
    exact CE_mOv σ1 a v
  have mi : MI τ := by
    rw [e2]
    exact MI_mOv iM1 a hv
  have S1 : Scp σ1 b n := by
    unfold Scp at *
    rw [z.kd, z.ln, z.aI (r := b) (by first | exact id | omega | (intro q; dsimp only at q; omega) | (unfold tfA; omega))]
    exact hS
  have r_now : fI σ1 1210 1 = fI τ 1301 61 := n1.trans (rf.1 1301 (by omega) (by omega) (by decide)).symm
  have r_BX : BX σ1 τ := ((hX.re re).fz z (by decide) (by decide) (by decide) (by decide)).rf rf (by decide) (by decide)
  have r_LR : ∀ l, 0 ≤ l → l < 4 → LR l σ1 τ := fun l a b => ((((hL l a b).re re).fz hC ⟨a, b⟩ z (by decide) (by decide) (by decide) (by decide) (by decide) (fun r h1 h2 => by first | exact id | omega | (intro q; dsimp only at q; omega) | (unfold tfA; omega))).rf rf (by decide))
  have r_BG : BG σ1 τ := gG
  have r_AL : AL σ1 τ := gA
  have r_DKR : DKR σ1 τ := ((hK.re re).fz z (by decide) (fun r q => by first | exact absurd q id | (dsimp only at q; omega) | omega | (unfold tfA at q; omega) | (unfold tfL at q; omega))).rf rf (by decide) (by decide)
  have r_RDR : RDR σ1 τ := ((hR.re re).fz z (by decide) (by first | exact id | omega | (intro q; dsimp only at q; omega) | (unfold tfA; omega) | (unfold tfL; omega))).rf rf (by decide) (by decide)
  have r_held : fI σ1 901 24 = fI τ 1343 61 ∧ aI σ1 25 = aI τ 92 := ⟨by rw [z.fI (f := 901) (by decide), hH.1]; exact ((rf.1 1343 (by omega) (by omega) (by decide)).trans (re.2 1343 (by omega) (by omega)).1).symm, by rw [z.aI (r := 25) (by first | exact id | omega | (intro q; dsimp only at q; omega) | (unfold tfA; omega) | (unfold tfL; omega)), hH.2]; exact ((rf.2 92 (by omega) (by omega) (by decide)).trans (re.1 92 (by omega) (by omega)).2.2.1).symm⟩
  have r_TG : TGr σ1 := hT.fz z (by first | exact id | omega | (intro q; dsimp only at q; omega) | (unfold tfA; omega) | (unfold tfL; omega)) (by first | exact id | omega | (intro q; dsimp only at q; omega) | (unfold tfA; omega) | (unfold tfL; omega))
  have r_LTT : LTT σ1 := (hLT.fz z (by decide) (by first | exact id | omega | (intro q; dsimp only at q; omega) | (unfold tfA; omega) | (unfold tfL; omega))).1
  have r_TXT : TXT σ1 := hTX.fz z (by decide) (fun r q e => by have q2 := hw r e; first | exact absurd q id | (dsimp only at q; omega) | omega | (unfold tfA at q; omega))
  have r_LD : LD σ1 := hLD.fz z (by decide)
  have i_MT : MT τ := (iM.re re).rf rf mi (by decide) (by decide)
  have i_RB : RB τ := (iB.re re).rf rf (by decide) (by decide)
  have i_kF : kFirst τ := (iF.re re).rf rf (by decide)
  have i_upL : upL τ := (iU.re re).rf rf (by decide)
  have i_mC : mCards τ := (iC.re re).rf rf (by decide) (by decide)
  have i_WI : WI τ := by
    have h0 := iW.re re
    intro w q1 q2
    rw [rf.1 1380 (by omega) (by omega) (by decide)] at q2
    obtain ⟨k1, k2, k3⟩ := h0 w q1 q2
    rw [rf.1 1371 (by omega) (by omega) (by decide), rf.2 117 (by omega) (by omega) (by decide), rf.2 119 (by omega) (by omega) (by decide)]
    have hne : ¬ aI σ1 117 w = a := fun q => k2 (by rw [q, (re.1 112 (by omega) (by omega)).2.2.1]; exact c.2)
    have y1 : aI τ 112 (aI σ1 117 w) = aI σ1 112 (aI σ1 117 w) := by
      rw [e2, mOv_a σ1 a v (by decide)]
      simp only [aI_qI, aI_pI, Int.reduceEq, false_and, if_false, true_and, hne]
    have y2 : aI τ 114 (aI σ1 117 w) = aI σ1 114 (aI σ1 117 w) := by
      rw [e2, mOv_a σ1 a v (by decide)]
      simp only [aI_qI, aI_pI, Int.reduceEq, false_and, if_false, true_and, hne]
    rw [y1, y2]
    exact ⟨k1, k2, k3⟩
  have i_AB : AB τ := (iA.re re).rf rf (by decide) (by decide)
  have i_HI : HIs τ := by
    have h0 := iH.re re
    intro q q1 q2
    rw [rf.1 1335 (by omega) (by omega) (by decide)] at q2
    obtain ⟨k1, k2⟩ := h0 q q1 q2
    rw [rf.1 1332 (by omega) (by omega) (by decide), rf.2 88 (by omega) (by omega) (by decide), e2, mOv_at]
    refine ⟨?_, k2⟩
    split
    · exact k2
    · exact k1
  have i_WG : WG τ := (iG.re re).rf rf (by decide) (by decide)
  have i_InN : InN τ := by
    obtain ⟨n0, n2, n3, n4⟩ := iN.re re
    have al : fI σ1 1371 61 = fI σ 1371 61 := (re.2 1371 (by omega) (by omega)).1
    have y1 : ∀ x, ¬ x = a → aI τ 112 x = aI σ1 112 x ∧ aI τ 113 x = aI σ1 113 x ∧ aI τ 114 x = aI σ1 114 x := fun x hx => by
      rw [e2, mOv_a σ1 a v (by decide), mOv_a σ1 a v (by decide), mOv_a σ1 a v (by decide)]
      simp only [aI_qI, aI_pI, Int.reduceEq, false_and, if_false, true_and, hx, and_self]
    have y2 : aI τ 114 a = fI σ1 1301 61 / 86400 := by
      rw [e2, mOv_a σ1 a v (by decide)]
      simp only [aI_qI, aI_pI, Int.reduceEq, false_and, if_false, true_and, if_true]
    refine ⟨?_, fun x hx => ?_, ?_, fun x => ?_⟩
    · rw [rf.1 1302 (by omega) (by omega) (by decide), rf.2 72 (by omega) (by omega) (by decide), rf.2 73 (by omega) (by omega) (by decide), rf.2 70 (by omega) (by omega) (by decide)]
      exact n0
    · rw [rf.1 1371 (by omega) (by omega) (by decide)] at hx
      obtain ⟨u1, u2, u3⟩ := y1 x (by omega)
      rw [u1, u2, u3, rf.2 115 (by omega) (by omega) (by decide)]
      exact n2 x hx
    · rw [rf.1 1322 (by omega) (by omega) (by decide), rf.1 1321 (by omega) (by omega) (by decide)]
      exact n3
    · rw [rf.1 1301 (by omega) (by omega) (by decide)]
      by_cases hx : x = a
      · rw [hx, y2]
        omega
      · rw [(y1 x hx).2.2]
        exact n4 x
  have i_InS : InS2 τ := by
    have h0 := iS.re re
    have co := rf.1 1335 (by omega) (by omega) (by decide)
    have al := rf.1 1371 (by omega) (by omega) (by decide)
    have al2 : fI σ1 1371 61 = fI σ 1371 61 := (re.2 1371 (by omega) (by omega)).1
    have ov2 := (re.1 112 (by omega) (by omega)).2.2.1
    have st := rf.2 90 (by omega) (by omega) (by decide)
    have sm := rf.2 115 (by omega) (by omega) (by decide)
    have sr := rf.2 116 (by omega) (by omega) (by decide)
    have y1 : ∀ x, ¬ x = a → aI τ 112 x = aI σ1 112 x := fun x hx => by
      rw [e2, mOv_a σ1 a v (by decide)]
      simp only [aI_qI, aI_pI, Int.reduceEq, false_and, if_false, true_and, hx]
    have y2 : ¬ aI τ 112 a = 0 := by
      rw [e2, mOv_a σ1 a v (by decide)]
      simp only [aI_qI, aI_pI, Int.reduceEq, false_and, if_false, true_and, if_true, not_false_eq_true]
    have y3 : ∀ x, aI τ 89 x = if (0 ≤ x ∧ x < (fI σ1 1335 61).toNat) ∧ aI σ1 89 x < 0 ∧ aI σ1 90 x = a then aI σ1 88 x else aI σ1 89 x := fun x => by
      rw [e2, mOv_at]
    have y4 : ∀ x, aI τ 89 x < 0 → aI σ1 89 x < 0 ∧ ((0 ≤ x ∧ x < fI σ1 1335 61) → ¬ aI σ1 90 x = a) := fun x hx => by
      rw [y3] at hx
      have ow := iM1.own_ x
      split at hx
      · omega
      · rename_i u
        exact ⟨hx, fun q w => u ⟨by omega, hx, w⟩⟩
    have y5 : ∀ x, ¬ aI σ1 90 x = a → aI τ 89 x = aI σ1 89 x := fun x hx => by
      rw [y3, if_neg (fun q => hx q.2.2)]
    refine ⟨fun q q1 q2 q3 => ?_, fun x i q1 q2 => ?_, fun x q1 q2 => ?_⟩
    · rw [co] at q2
      obtain ⟨w1, w2⟩ := y4 q q3
      obtain ⟨k1, k2, k3⟩ := h0.1 q q1 q2 w1
      rw [al, st, sm, sr, y1 _ (w2 ⟨q1, q2⟩)]
      exact ⟨k1, k2, k3⟩
    · rw [al] at q1
      rw [sm] at q2
      obtain ⟨k1, k2⟩ := h0.2.1 x i q1 q2
      rw [sr, co, st]
      refine ⟨k1, fun q3 => ?_⟩
      have hx : ¬ x = a := fun e => y2 (by rw [← e]; exact q3)
      rw [y1 x hx] at q3
      obtain ⟨k3, k4⟩ := k2 q3
      rw [y5 _ (by rw [k4]; exact hx)]
      exact ⟨k3, k4⟩
    · rw [al] at q1
      have hx : ¬ x = a := fun e => y2 (by rw [← e]; exact q2)
      rw [y1 x hx] at q2
      have k := h0.2.2 x q1 q2
      rw [sm]
      unfold mTo at k ⊢
      rw [co, st, hwM_cgb (P := fun c => aI σ1 89 c < 0 ∧ aI σ1 90 c = x) (P' := fun c => aI τ 89 c < 0 ∧ aI σ1 90 c = x) _ (fun j _ _ => by
        constructor
        · rintro ⟨u1, u2⟩
          exact ⟨(y4 j u1).1, u2⟩
        · rintro ⟨u1, u2⟩
          exact ⟨by rw [y5 j (by rw [u2]; exact hx)]; exact u1, u2⟩)]
      exact k
  have i_lT : lT τ := (iT.re re).rf rf (by decide) (by decide)
  have rel : Rel σ1 τ := ⟨C1, r_now, r_BX, r_LR, r_BG, r_AL, r_DKR, r_RDR, r_held, r_TG, r_LTT, r_TXT, r_LD⟩
  exact ⟨rel.ce (fun r q => hw r (by rw [← z.kd]; exact q)) ce, ⟨i_MT, i_RB, i_kF, i_upL, i_mC, i_WI, i_AB, i_HI, i_WG, i_InN, i_InS, i_lT⟩, S1.ce hb ce⟩
