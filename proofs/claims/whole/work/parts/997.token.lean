/-! the card reader: tokens -/

abbrev tkF : List Nat := [502, 503, 504, 505]
theorem LTT.fz {fs : List Nat} {ars als : Int → Prop} {σ σ' : Hp} (h : LTT σ) (z : Fz fs ars als σ σ') (h1 : 901 ∉ fs) (h2 : ¬ ars 25) : LTT σ' ∧ fI σ' 901 24 = fI σ 901 24 ∧ aI σ' 25 = aI σ 25 := by
  have e1 : fI σ' 901 24 = fI σ 901 24 := by rw [z.fI h1]
  have e2 : aI σ' 25 = aI σ 25 := z.aI h2
  refine ⟨?_, e1, e2⟩
  unfold LTT
  rw [e1, e2]
  exact h
theorem LTT.l2 {σ : Hp} (h : LTT σ) : ∀ j, 0 ≤ aI σ 25 j ∧ aI σ 25 j ≤ 255 := fun j => by have := h.2 j; omega
theorem SK.fz {fs : List Nat} {ars als : Int → Prop} {σ σ' : Hp} (h : SK σ) (z : Fz fs ars als σ σ') (h1 : ∀ f ∈ fs, f < 2000) (h2 : ∀ r, ars r → kd σ r ≠ 21) : SK σ' := by
  have n1 : (3001 : Nat) ∉ fs := fun q => by have := h1 _ q; omega
  have n2 : (2001 : Nat) ∉ fs := fun q => by have := h1 _ q; omega
  have n3 : (2000 : Nat) ∉ fs := fun q => by have := h1 _ q; omega
  obtain ⟨a1, a2, a3⟩ := h
  refine ⟨by rw [z.fI n1]; exact a1, fun k q => ?_, fun r q => ?_⟩
  · rw [z.kd] at q ⊢
    rw [z.fI n2, z.fR n3]
    exact a2 k q
  · rw [z.kd] at q
    rw [z.ln, z.aI (fun y => h2 r y q)]
    exact a3 r q
theorem Wd.fz {fs : List Nat} {ars als : Int → Prop} {σ σ' : Hp} {r w : Int} (h : Wd σ r w) (z : Fz fs ars als σ σ') (h1 : ∀ f ∈ fs, f < 2000) (h2 : ∀ r, ars r → kd σ r ≠ 21) : Wd σ' r w := by
  have n3 : (2000 : Nat) ∉ fs := fun q => by have := h1 _ q; omega
  obtain ⟨a1, a2, a3⟩ := h
  have k21 := (a1.2.1 r a2).2
  refine ⟨a1.fz z h1 h2, by rw [z.kd]; exact a2, ?_⟩
  rw [z.fR n3, z.ln, z.aI (fun y => h2 _ y k21)]
  exact a3
theorem Sgt.fz {fs : List Nat} {ars als : Int → Prop} {σ σ' : Hp} (h : Sgt σ) (z : Fz fs ars als σ σ') (h1 : ∀ f ∈ fs, f < 2000) (h2 : ∀ r, ars r → kd σ r ≠ 21) : Sgt σ' := by
  have n3 : (2000 : Nat) ∉ fs := fun q => by have := h1 _ q; omega
  obtain ⟨a1, a2, a3⟩ := h
  have k21 := (a1.2.1 (-15) a2).2
  refine ⟨a1.fz z h1 h2, by rw [z.kd]; exact a2, ?_⟩
  rw [z.fR n3, z.ln, z.aI (fun y => h2 _ y k21)]
  exact a3
/-- the texts of the cards' language -/
def TXT (σ : Hp) : Prop := Sgt σ ∧ Wd σ (-1) 378004 ∧ Wd σ (-2) 2141894737 ∧ Wd σ (-3) 4665603421 ∧ Wd σ (-4) 458690 ∧ Wd σ (-5) 1111 ∧ Wd σ (-6) 423 ∧ Wd σ (-7) 10631 ∧ Wd σ (-8) 1887 ∧ Wd σ (-9) 453928 ∧ Wd σ (-10) 247552 ∧ Wd σ (-11) 168984 ∧ Wd σ (-12) 60114 ∧ Wd σ (-13) 11522 ∧ Wd σ (-14) 3217595
theorem TXT.fz {fs : List Nat} {ars als : Int → Prop} {σ σ' : Hp} (h : TXT σ) (z : Fz fs ars als σ σ') (h1 : ∀ f ∈ fs, f < 2000) (h2 : ∀ r, ars r → kd σ r ≠ 21) : TXT σ' := by
  obtain ⟨a0, a1, a2, a3, a4, a5, a6, a7, a8, a9, a10, a11, a12, a13, a14⟩ := h
  exact ⟨a0.fz z h1 h2, a1.fz z h1 h2, a2.fz z h1 h2, a3.fz z h1 h2, a4.fz z h1 h2, a5.fz z h1 h2, a6.fz z h1 h2, a7.fz z h1 h2, a8.fz z h1 h2, a9.fz z h1 h2, a10.fz z h1 h2, a11.fz z h1 h2, a12.fz z h1 h2, a13.fz z h1 h2, a14.fz z h1 h2⟩
theorem tok_end (L : Int → Int) {z p : Int} (h : kB L z p = z) : tE L z p = z ∧ tK L z p = 0 := by
  unfold tE tK tEb tKb
  rw [if_pos h, if_pos h]
  exact ⟨rfl, rfl⟩
theorem rn_s (L : Int → Int) {z lo hi b : Int} (h : b < z) (h2 : lo ≤ L b ∧ L b ≤ hi) : rn L z lo hi (z - b).toNat b = rn L z lo hi (z - (b + 1)).toNat (b + 1) := by
  have e : (z - b).toNat = (z - (b + 1)).toNat + 1 := by omega
  rw [e]
  conv => lhs; unfold rn
  rw [if_pos ⟨h, h2⟩]
theorem tok_lett (L : Int → Int) {z p : Int} (h : kB L z p < z) (h2 : 97 ≤ L (kB L z p) ∧ L (kB L z p) ≤ 122) : tE L z p = rn L z 97 122 (z - (kB L z p + 1)).toNat (kB L z p + 1) ∧ tK L z p = (if tE L z p - kB L z p ≤ 8 then 1 else 4) := by
  have n1 : ¬ kB L z p = z := by omega
  refine ⟨?_, ?_⟩
  · rw [← rn_s L h h2]
    unfold tE tEb
    rw [if_neg n1, if_pos h2]
  · unfold tK tKb
    rw [if_neg n1, if_pos h2]
    rfl
theorem tok_dig (L : Int → Int) {z p : Int} (h : kB L z p < z) (h1 : ¬ (97 ≤ L (kB L z p) ∧ L (kB L z p) ≤ 122)) (h2 : 48 ≤ L (kB L z p) ∧ L (kB L z p) ≤ 57) : tE L z p = rn L z 48 57 (z - (kB L z p + 1)).toNat (kB L z p + 1) ∧ tK L z p = (if tE L z p - kB L z p ≤ 4 then 2 else 4) ∧ tT L z p = nv L (kB L z p) (min (tE L z p - kB L z p) 4).toNat := by
  have n1 : ¬ kB L z p = z := by omega
  refine ⟨?_, ?_, ?_⟩
  · rw [← rn_s L h h2]
    unfold tE tEb
    rw [if_neg n1, if_neg h1, if_pos h2]
  · unfold tK tKb
    rw [if_neg n1, if_neg h1, if_pos h2]
    rfl
  · unfold tT tTb
    rw [if_neg n1, if_neg h1, if_pos h2]
    rfl
theorem tok_sgn (L : Int → Int) {z p : Int} (h : kB L z p < z) (h1 : ¬ (97 ≤ L (kB L z p) ∧ L (kB L z p) ≤ 122)) (h2 : ¬ (48 ≤ L (kB L z p) ∧ L (kB L z p) ≤ 57)) : tE L z p = kB L z p + 1 ∧ (sgn (L (kB L z p)) → tK L z p = 3) ∧ (¬ sgn (L (kB L z p)) → tK L z p = 4) := by
  have n1 : ¬ kB L z p = z := by omega
  refine ⟨?_, fun q => ?_, fun q => ?_⟩
  · unfold tE tEb
    rw [if_neg n1, if_neg h1, if_neg h2]
  · unfold sgn at q
    unfold tK tKb
    rw [if_neg n1, if_neg h1, if_neg h2, if_pos q]
  · unfold sgn at q
    unfold tK tKb
    rw [if_neg n1, if_neg h1, if_neg h2, if_neg q]

def sp_X4_readWord : Sp := fun av σ Q => oR av fun this av => av = [] ∧ kd σ this = 5 ∧ (this = 26 ∧ CLay σ ∧ LTT σ ∧ (0 ≤ fI σ 503 26 ∧ fI σ 503 26 < fI σ 504 26 ∧ fI σ 504 26 ≤ fI σ 901 24) ∧ ∀ σ', Fz tkF noR noR σ σ' → fI σ' 503 26 = fI σ 503 26 → fI σ' 504 26 = rn (aI σ 25) (fI σ 901 24) 97 122 (fI σ 901 24 - fI σ 504 26).toNat (fI σ 504 26) → fI σ' 502 26 = (if fI σ' 504 26 - fI σ 503 26 ≤ 8 then 2 else 1) → Q none σ')
theorem us_X4_readWord (this : Int) (σ : Hp) (Q : Option AV → Hp → Prop) : sp_X4_readWord [vr this] σ Q = (kd σ this = 5 ∧ (this = 26 ∧ CLay σ ∧ LTT σ ∧ (0 ≤ fI σ 503 26 ∧ fI σ 503 26 < fI σ 504 26 ∧ fI σ 504 26 ≤ fI σ 901 24) ∧ ∀ σ', Fz tkF noR noR σ σ' → fI σ' 503 26 = fI σ 503 26 → fI σ' 504 26 = rn (aI σ 25) (fI σ 901 24) 97 122 (fI σ 901 24 - fI σ 504 26).toNat (fI σ 504 26) → fI σ' 502 26 = (if fI σ' 504 26 - fI σ 503 26 ≤ 8 then 2 else 1) → Q none σ')) := propext ⟨fun h => h.2, fun h => ⟨rfl, h⟩⟩
theorem el_X4_readWord {av : List AV} {σ : Hp} {Q : Option AV → Hp → Prop} (h : sp_X4_readWord av σ Q) : ∃ (this : Int), av = [vr this] ∧ (kd σ this = 5 ∧ (this = 26 ∧ CLay σ ∧ LTT σ ∧ (0 ≤ fI σ 503 26 ∧ fI σ 503 26 < fI σ 504 26 ∧ fI σ 504 26 ≤ fI σ 901 24) ∧ ∀ σ', Fz tkF noR noR σ σ' → fI σ' 503 26 = fI σ 503 26 → fI σ' 504 26 = rn (aI σ 25) (fI σ 901 24) 97 122 (fI σ 901 24 - fI σ 504 26).toNat (fI σ 504 26) → fI σ' 502 26 = (if fI σ' 504 26 - fI σ 503 26 ≤ 8 then 2 else 1) → Q none σ')) := by
  obtain ⟨this, a0, rfl, h0⟩ := oR_s h
  obtain ⟨rfl, hz⟩ := h0
  exact ⟨this, rfl, hz⟩
theorem rc_X4_readWord : ∀ (av : List AV) (σ : Hp) (Q : Option AV → Hp → Prop), sp_X4_readWord av σ Q → ∃ r tl, av = vr r :: tl ∧ kd σ r = 4 + 1 := fun av σ Q h => by
  obtain ⟨this, rfl, hz, -⟩ := el_X4_readWord h
  exact ⟨this, _, rfl, hz⟩

def tb_X4_readWord : Tab := [(0, .aload_n 0, 1, (0, 0, 0, 0)), (1, .getfield 32, 3, (5, 504, 0, 0)), (4, .aload_n 0, 1, (0, 0, 0, 0)), (5, .getfield 12, 3, (5, 500, 2, 0)), (8, .getfield 143, 3, (9, 901, 0, 0)), (11, .if_icmp .ge 33, 3, (0, 0, 0, 0)), (14, .aload_n 0, 1, (0, 0, 0, 0)), (15, .getfield 12, 3, (5, 500, 2, 0)), (18, .aload_n 0, 1, (0, 0, 0, 0)), (19, .getfield 32, 3, (5, 504, 0, 0)), (22, .invokevirtual 136, 3, (0, 0, 0, 0)), (25, .invokestatic 149, 3, (0, 0, 0, 0)), (28, .ifCond .eq 16, 3, (0, 0, 0, 0)), (31, .aload_n 0, 1, (0, 0, 0, 0)), (32, .dup, 1, (0, 0, 0, 0)), (33, .getfield 32, 3, (5, 504, 0, 0)), (36, .iconst 1, 1, (0, 0, 0, 0)), (37, .iadd, 1, (0, 0, 0, 0)), (38, .putfield 32, 3, (5, 504, 0, 0)), (41, .goto (-41), 3, (0, 0, 0, 0)), (44, .aload_n 0, 1, (0, 0, 0, 0)), (45, .aload_n 0, 1, (0, 0, 0, 0)), (46, .getfield 32, 3, (5, 504, 0, 0)), (49, .aload_n 0, 1, (0, 0, 0, 0)), (50, .getfield 29, 3, (5, 503, 0, 0)), (53, .isub, 1, (0, 0, 0, 0)), (54, .bipush 8, 2, (0, 0, 0, 0)), (56, .if_icmp .gt 7, 3, (0, 0, 0, 0)), (59, .iconst 2, 1, (0, 0, 0, 0)), (60, .goto 4, 3, (0, 0, 0, 0)), (63, .iconst 1, 1, (0, 0, 0, 0)), (64, .putfield 25, 3, (5, 502, 0, 0)), (67, .return_, 1, (0, 0, 0, 0))]
set_option maxRecDepth 100000 in
theorem tk_X4_readWord : TOK RX4 false cX4_readWord tb_X4_readWord := chkT_ok ft_X4 (by decide +kernel)
theorem rw_X4_1193 : Row RX4 (.invokestatic 149) 3 1 0 0 1 sp_X4_isLetter := row_S c_X4_isLetter ⟨TBL_in 928 (by decide +kernel) rfl, TBL_in 930 (by decide +kernel) rfl, TBL_in 118 (by decide +kernel) rfl, by decide +kernel, by decide⟩ (TBL_in 929 (by decide +kernel) rfl)
def mt_X4_readWord : List (Nat × Mt) := [(1088, 2, 0, 0, 1, sp_X8_signAt), (1193, 1, 0, 0, 1, sp_X4_isLetter)]
theorem em_X4_readWord : mt_X4_readWord.lookup 1088 = some (2, 0, 0, 1, sp_X8_signAt) ∧ mt_X4_readWord.lookup 1193 = some (1, 0, 0, 1, sp_X4_isLetter) := ⟨rfl, rfl⟩
theorem mk_X4_readWord : MOK RX4 mt_X4_readWord := by
  intro q hq
  simp only [mt_X4_readWord, List.mem_cons, List.not_mem_nil, or_false] at hq
  rcases hq with rfl | rfl
  · exact rw_X4_1088
  · exact rw_X4_1193
noncomputable def xe_X4_readWord (ct : Nat → Bool) (K : Kt) (R : Option AV → Hp → Prop) (n : Nat) : Kt := exS 1 3 0 0 0 tb_X4_readWord mt_X4_readWord ct K R n
noncomputable def xk_X4_readWord (ct : Nat → Bool) (K : Kt) (R : Option AV → Hp → Prop) (n : Nat) : Kt := exkS 1 3 0 0 0 tb_X4_readWord mt_X4_readWord ct K R n
theorem xt_X4_readWord {ct : Nat → Bool} {K : Kt} {R : Option AV → Hp → Prop} {n pc : Nat} {ls : List (Option AV)} {st : List AV} {σ : Hp} {k : Nat × Nat} (h : ct pc = true) : xk_X4_readWord ct K R n pc ls st σ k = K pc ls st σ k := by unfold xk_X4_readWord exkS; rw [h]
theorem xf_X4_readWord {ct : Nat → Bool} {K : Kt} {R : Option AV → Hp → Prop} {n pc : Nat} {ls : List (Option AV)} {st : List AV} {σ : Hp} {k : Nat × Nat} (h : ct pc = false) : xk_X4_readWord ct K R n pc ls st σ k = xe_X4_readWord ct K R n pc ls st σ k := by unfold xk_X4_readWord exkS xe_X4_readWord; rw [h]
theorem ev_X4_readWord_0 {ct : Nat → Bool} {K : Kt} {R : Option AV → Hp → Prop} {n : Nat} {ls : List (Option AV)} {st : List AV} {σ : Hp} {k : Nat × Nat} : xe_X4_readWord ct K R (n + 1) 0 ls st σ k = (lR ls 0 fun x => xk_X4_readWord ct K R n 1 ls (vr x :: st) σ k) := exS_step.trans rfl
theorem ev_X4_readWord_1 {ct : Nat → Bool} {K : Kt} {R : Option AV → Hp → Prop} {n : Nat} {ls : List (Option AV)} {st : List AV} {σ : Hp} {k : Nat × Nat} : xe_X4_readWord ct K R (n + 1) 1 ls st σ k = (oR st fun x st => kd σ x = 5 ∧ xk_X4_readWord ct K R n 4 ls (vi (fI σ 504 x) :: st) σ k) := exS_step.trans rfl
theorem ev_X4_readWord_4 {ct : Nat → Bool} {K : Kt} {R : Option AV → Hp → Prop} {n : Nat} {ls : List (Option AV)} {st : List AV} {σ : Hp} {k : Nat × Nat} : xe_X4_readWord ct K R (n + 1) 4 ls st σ k = (lR ls 0 fun x => xk_X4_readWord ct K R n 5 ls (vr x :: st) σ k) := exS_step.trans rfl
theorem ev_X4_readWord_5 {ct : Nat → Bool} {K : Kt} {R : Option AV → Hp → Prop} {n : Nat} {ls : List (Option AV)} {st : List AV} {σ : Hp} {k : Nat × Nat} : xe_X4_readWord ct K R (n + 1) 5 ls st σ k = (oR st fun x st => kd σ x = 5 ∧ xk_X4_readWord ct K R n 8 ls (vr (fR σ 500 x) :: st) σ k) := exS_step.trans rfl
theorem ev_X4_readWord_8 {ct : Nat → Bool} {K : Kt} {R : Option AV → Hp → Prop} {n : Nat} {ls : List (Option AV)} {st : List AV} {σ : Hp} {k : Nat × Nat} : xe_X4_readWord ct K R (n + 1) 8 ls st σ k = (oR st fun x st => kd σ x = 9 ∧ xk_X4_readWord ct K R n 11 ls (vi (fI σ 901 x) :: st) σ k) := exS_step.trans rfl
theorem ev_X4_readWord_11 {ct : Nat → Bool} {K : Kt} {R : Option AV → Hp → Prop} {n : Nat} {ls : List (Option AV)} {st : List AV} {σ : Hp} {k : Nat × Nat} : xe_X4_readWord ct K R (n + 1) 11 ls st σ k = (oI st fun y st => oI st fun x st => (wI y ≤ wI x → xk_X4_readWord ct K R n 44 ls st σ k) ∧ (¬ (wI y ≤ wI x) → xk_X4_readWord ct K R n 14 ls st σ k)) := exS_step.trans rfl
theorem ev_X4_readWord_14 {ct : Nat → Bool} {K : Kt} {R : Option AV → Hp → Prop} {n : Nat} {ls : List (Option AV)} {st : List AV} {σ : Hp} {k : Nat × Nat} : xe_X4_readWord ct K R (n + 1) 14 ls st σ k = (lR ls 0 fun x => xk_X4_readWord ct K R n 15 ls (vr x :: st) σ k) := exS_step.trans rfl
theorem ev_X4_readWord_15 {ct : Nat → Bool} {K : Kt} {R : Option AV → Hp → Prop} {n : Nat} {ls : List (Option AV)} {st : List AV} {σ : Hp} {k : Nat × Nat} : xe_X4_readWord ct K R (n + 1) 15 ls st σ k = (oR st fun x st => kd σ x = 5 ∧ xk_X4_readWord ct K R n 18 ls (vr (fR σ 500 x) :: st) σ k) := exS_step.trans rfl
theorem ev_X4_readWord_18 {ct : Nat → Bool} {K : Kt} {R : Option AV → Hp → Prop} {n : Nat} {ls : List (Option AV)} {st : List AV} {σ : Hp} {k : Nat × Nat} : xe_X4_readWord ct K R (n + 1) 18 ls st σ k = (lR ls 0 fun x => xk_X4_readWord ct K R n 19 ls (vr x :: st) σ k) := exS_step.trans rfl
theorem ev_X4_readWord_19 {ct : Nat → Bool} {K : Kt} {R : Option AV → Hp → Prop} {n : Nat} {ls : List (Option AV)} {st : List AV} {σ : Hp} {k : Nat × Nat} : xe_X4_readWord ct K R (n + 1) 19 ls st σ k = (oR st fun x st => kd σ x = 5 ∧ xk_X4_readWord ct K R n 22 ls (vi (fI σ 504 x) :: st) σ k) := exS_step.trans rfl
theorem ev_X4_readWord_22 {ct : Nat → Bool} {K : Kt} {R : Option AV → Hp → Prop} {n : Nat} {ls : List (Option AV)} {st : List AV} {σ : Hp} {k : Nat × Nat} : xe_X4_readWord ct K R (n + 1) 22 ls st σ k = (popN 2 st [] fun av rest => (catS rest ≤ 8 ∧ 1 < 3 ∧ k.1 + 0 ≤ 0 ∧ k.2 + 0 ≤ 0) ∧ (sp_X8_signAt) av σ fun v σ' => xk_X4_readWord ct K R n 25 ls (v.toList ++ rest) σ' (k.1 + 0, k.2 + 0)) := exS_step.trans rfl
theorem ev_X4_readWord_25 {ct : Nat → Bool} {K : Kt} {R : Option AV → Hp → Prop} {n : Nat} {ls : List (Option AV)} {st : List AV} {σ : Hp} {k : Nat × Nat} : xe_X4_readWord ct K R (n + 1) 25 ls st σ k = (popN 1 st [] fun av rest => (catS rest ≤ 8 ∧ 1 < 3 ∧ k.1 + 0 ≤ 0 ∧ k.2 + 0 ≤ 0) ∧ (sp_X4_isLetter) av σ fun v σ' => xk_X4_readWord ct K R n 28 ls (v.toList ++ rest) σ' (k.1 + 0, k.2 + 0)) := exS_step.trans rfl
theorem ev_X4_readWord_28 {ct : Nat → Bool} {K : Kt} {R : Option AV → Hp → Prop} {n : Nat} {ls : List (Option AV)} {st : List AV} {σ : Hp} {k : Nat × Nat} : xe_X4_readWord ct K R (n + 1) 28 ls st σ k = (oI st fun x st => (wI x = wI 0 → xk_X4_readWord ct K R n 44 ls st σ k) ∧ (¬ (wI x = wI 0) → xk_X4_readWord ct K R n 31 ls st σ k)) := exS_step.trans rfl
theorem ev_X4_readWord_31 {ct : Nat → Bool} {K : Kt} {R : Option AV → Hp → Prop} {n : Nat} {ls : List (Option AV)} {st : List AV} {σ : Hp} {k : Nat × Nat} : xe_X4_readWord ct K R (n + 1) 31 ls st σ k = (lR ls 0 fun x => xk_X4_readWord ct K R n 32 ls (vr x :: st) σ k) := exS_step.trans rfl
theorem ev_X4_readWord_32 {ct : Nat → Bool} {K : Kt} {R : Option AV → Hp → Prop} {n : Nat} {ls : List (Option AV)} {st : List AV} {σ : Hp} {k : Nat × Nat} : xe_X4_readWord ct K R (n + 1) 32 ls st σ k = (o1 st fun v st => xk_X4_readWord ct K R n 33 ls (v :: v :: st) σ k) := exS_step.trans rfl
theorem ev_X4_readWord_33 {ct : Nat → Bool} {K : Kt} {R : Option AV → Hp → Prop} {n : Nat} {ls : List (Option AV)} {st : List AV} {σ : Hp} {k : Nat × Nat} : xe_X4_readWord ct K R (n + 1) 33 ls st σ k = (oR st fun x st => kd σ x = 5 ∧ xk_X4_readWord ct K R n 36 ls (vi (fI σ 504 x) :: st) σ k) := exS_step.trans rfl
theorem ev_X4_readWord_36 {ct : Nat → Bool} {K : Kt} {R : Option AV → Hp → Prop} {n : Nat} {ls : List (Option AV)} {st : List AV} {σ : Hp} {k : Nat × Nat} : xe_X4_readWord ct K R (n + 1) 36 ls st σ k = (xk_X4_readWord ct K R n 37 ls (vi (1) :: st) σ k) := exS_step.trans rfl
theorem ev_X4_readWord_37 {ct : Nat → Bool} {K : Kt} {R : Option AV → Hp → Prop} {n : Nat} {ls : List (Option AV)} {st : List AV} {σ : Hp} {k : Nat × Nat} : xe_X4_readWord ct K R (n + 1) 37 ls st σ k = (oI st fun y st => oI st fun x st => xk_X4_readWord ct K R n 38 ls (vi (x + y) :: st) σ k) := exS_step.trans rfl
theorem ev_X4_readWord_38 {ct : Nat → Bool} {K : Kt} {R : Option AV → Hp → Prop} {n : Nat} {ls : List (Option AV)} {st : List AV} {σ : Hp} {k : Nat × Nat} : xe_X4_readWord ct K R (n + 1) 38 ls st σ k = (oI st fun v st => oR st fun x st => kd σ x = 5 ∧ xk_X4_readWord ct K R n 41 ls st (pI σ 504 x v) k) := exS_step.trans rfl
theorem ev_X4_readWord_41 {ct : Nat → Bool} {K : Kt} {R : Option AV → Hp → Prop} {n : Nat} {ls : List (Option AV)} {st : List AV} {σ : Hp} {k : Nat × Nat} : xe_X4_readWord ct K R (n + 1) 41 ls st σ k = (xk_X4_readWord ct K R n 0 ls st σ k) := exS_step.trans rfl
theorem ev_X4_readWord_44 {ct : Nat → Bool} {K : Kt} {R : Option AV → Hp → Prop} {n : Nat} {ls : List (Option AV)} {st : List AV} {σ : Hp} {k : Nat × Nat} : xe_X4_readWord ct K R (n + 1) 44 ls st σ k = (lR ls 0 fun x => xk_X4_readWord ct K R n 45 ls (vr x :: st) σ k) := exS_step.trans rfl
theorem ev_X4_readWord_45 {ct : Nat → Bool} {K : Kt} {R : Option AV → Hp → Prop} {n : Nat} {ls : List (Option AV)} {st : List AV} {σ : Hp} {k : Nat × Nat} : xe_X4_readWord ct K R (n + 1) 45 ls st σ k = (lR ls 0 fun x => xk_X4_readWord ct K R n 46 ls (vr x :: st) σ k) := exS_step.trans rfl
theorem ev_X4_readWord_46 {ct : Nat → Bool} {K : Kt} {R : Option AV → Hp → Prop} {n : Nat} {ls : List (Option AV)} {st : List AV} {σ : Hp} {k : Nat × Nat} : xe_X4_readWord ct K R (n + 1) 46 ls st σ k = (oR st fun x st => kd σ x = 5 ∧ xk_X4_readWord ct K R n 49 ls (vi (fI σ 504 x) :: st) σ k) := exS_step.trans rfl
theorem ev_X4_readWord_49 {ct : Nat → Bool} {K : Kt} {R : Option AV → Hp → Prop} {n : Nat} {ls : List (Option AV)} {st : List AV} {σ : Hp} {k : Nat × Nat} : xe_X4_readWord ct K R (n + 1) 49 ls st σ k = (lR ls 0 fun x => xk_X4_readWord ct K R n 50 ls (vr x :: st) σ k) := exS_step.trans rfl
theorem ev_X4_readWord_50 {ct : Nat → Bool} {K : Kt} {R : Option AV → Hp → Prop} {n : Nat} {ls : List (Option AV)} {st : List AV} {σ : Hp} {k : Nat × Nat} : xe_X4_readWord ct K R (n + 1) 50 ls st σ k = (oR st fun x st => kd σ x = 5 ∧ xk_X4_readWord ct K R n 53 ls (vi (fI σ 503 x) :: st) σ k) := exS_step.trans rfl
theorem ev_X4_readWord_53 {ct : Nat → Bool} {K : Kt} {R : Option AV → Hp → Prop} {n : Nat} {ls : List (Option AV)} {st : List AV} {σ : Hp} {k : Nat × Nat} : xe_X4_readWord ct K R (n + 1) 53 ls st σ k = (oI st fun y st => oI st fun x st => xk_X4_readWord ct K R n 54 ls (vi (x - y) :: st) σ k) := exS_step.trans rfl
theorem ev_X4_readWord_54 {ct : Nat → Bool} {K : Kt} {R : Option AV → Hp → Prop} {n : Nat} {ls : List (Option AV)} {st : List AV} {σ : Hp} {k : Nat × Nat} : xe_X4_readWord ct K R (n + 1) 54 ls st σ k = (xk_X4_readWord ct K R n 56 ls (vi (8) :: st) σ k) := exS_step.trans rfl
theorem ev_X4_readWord_56 {ct : Nat → Bool} {K : Kt} {R : Option AV → Hp → Prop} {n : Nat} {ls : List (Option AV)} {st : List AV} {σ : Hp} {k : Nat × Nat} : xe_X4_readWord ct K R (n + 1) 56 ls st σ k = (oI st fun y st => oI st fun x st => (wI y < wI x → xk_X4_readWord ct K R n 63 ls st σ k) ∧ (¬ (wI y < wI x) → xk_X4_readWord ct K R n 59 ls st σ k)) := exS_step.trans rfl
theorem ev_X4_readWord_59 {ct : Nat → Bool} {K : Kt} {R : Option AV → Hp → Prop} {n : Nat} {ls : List (Option AV)} {st : List AV} {σ : Hp} {k : Nat × Nat} : xe_X4_readWord ct K R (n + 1) 59 ls st σ k = (xk_X4_readWord ct K R n 60 ls (vi (2) :: st) σ k) := exS_step.trans rfl
theorem ev_X4_readWord_60 {ct : Nat → Bool} {K : Kt} {R : Option AV → Hp → Prop} {n : Nat} {ls : List (Option AV)} {st : List AV} {σ : Hp} {k : Nat × Nat} : xe_X4_readWord ct K R (n + 1) 60 ls st σ k = (xk_X4_readWord ct K R n 64 ls st σ k) := exS_step.trans rfl
theorem ev_X4_readWord_63 {ct : Nat → Bool} {K : Kt} {R : Option AV → Hp → Prop} {n : Nat} {ls : List (Option AV)} {st : List AV} {σ : Hp} {k : Nat × Nat} : xe_X4_readWord ct K R (n + 1) 63 ls st σ k = (xk_X4_readWord ct K R n 64 ls (vi (1) :: st) σ k) := exS_step.trans rfl
theorem ev_X4_readWord_64 {ct : Nat → Bool} {K : Kt} {R : Option AV → Hp → Prop} {n : Nat} {ls : List (Option AV)} {st : List AV} {σ : Hp} {k : Nat × Nat} : xe_X4_readWord ct K R (n + 1) 64 ls st σ k = (oI st fun v st => oR st fun x st => kd σ x = 5 ∧ xk_X4_readWord ct K R n 67 ls st (pI σ 502 x v) k) := exS_step.trans rfl
theorem ev_X4_readWord_67 {ct : Nat → Bool} {K : Kt} {R : Option AV → Hp → Prop} {n : Nat} {ls : List (Option AV)} {st : List AV} {σ : Hp} {k : Nat × Nat} : xe_X4_readWord ct K R (n + 1) 67 ls st σ k = (st = [] ∧ 0 = 0 ∧ R none σ) := exS_step.trans rfl
def M_X4_readWord : Md := (yX4_readWord, cX4_readWord, 1, (none : Option FieldType), 3, 0, 0, 0, false, tb_X4_readWord, mt_X4_readWord)
theorem mm_X4_readWord : MMOK M_X4_readWord := ⟨by decide +kernel, tk_X4_readWord, mk_X4_readWord, rfl, fun h => by cases h⟩
theorem go_X4_readWord {Q : Option AV → Hp → Prop} {ct : Nat → Bool} {pc : Nat} {ls : List (Option AV)} {st : List AV} {σ : Hp} {k : Nat × Nat} (n : Nat) (h : xe_X4_readWord ct (Go M_X4_readWord Q) Q n pc ls st σ k) : Go M_X4_readWord Q pc ls st σ k := Go.exS mm_X4_readWord h

set_option maxRecDepth 20000 in
theorem c_X4_readWord : Ct yX4_readWord cX4_readWord 1 ((none : Option FieldType)) 3 0 0 sp_X4_readWord := by
  refine Ct.go (M := M_X4_readWord) mm_X4_readWord fun av σ Q h0 => ?_
  obtain ⟨this, rfl, hk, h⟩ := el_X4_readWord h0
  clear h0
  refine ⟨Nat.le_of_ble_eq_true rfl, ?_⟩
  show Go M_X4_readWord Q 0 [some (vr this)] [] σ (0, 0)
  obtain ⟨rfl, hC, hT, hp, h⟩ := h
  generalize er : fI σ 504 26 = q0 at *
  generalize eb : fI σ 503 26 = b0 at *
  generalize ez : fI σ 901 24 = z at *
  generalize eL : aI σ 25 = L at *
  have fin : ∀ (q : Int) (ρ : Hp), (b0 < q ∧ q ≤ z) → ¬ (q < z ∧ 97 ≤ L q ∧ L q ≤ 122) → Fz tkF noR noR σ ρ → fI ρ 503 26 = b0 → fI ρ 504 26 = q → (∀ σ', Fz tkF noR noR σ σ' → fI σ' 503 26 = b0 → fI σ' 504 26 = q → fI σ' 502 26 = (if q - b0 ≤ 8 then 2 else 1) → Q none σ') → Go M_X4_readWord Q 0 [some (vr 26)] [] ρ (0, 0) := by
    intro q ρ hq hc zz e1 e2 k9
    have C := hC.fz zz (by decide)
    obtain ⟨T, g1, g2⟩ := hT.fz zz (by decide) (fun q => q)
    have hkr : kd ρ 26 = 5 := by simp only [C.eqs]
    have k2 : ∀ v, v = (if q - b0 ≤ 8 then 2 else 1) → Q none (pI ρ 502 26 v) := fun v hv => k9 _ (zz.tr (Fz_pI _ _ _ (by decide))) (by rw [fI_pI, if_neg (by decide)]; exact e1) (by rw [fI_pI, if_neg (by decide)]; exact e2) (by rw [fI_pI, if_pos ⟨rfl, rfl⟩]; exact hv)
    have hl2 := T.l2
    have hLq := T.2 q
    rw [ez] at g1
    rw [eL] at g2
    rw [g2] at hLq hl2
    have hz : 0 ≤ z ∧ z ≤ 1000 := by have := T.1; rw [g1] at this; exact this
    have hqr : inR q := by unfold inR; omega
    clear k9 zz h T
    by_cases c1 : q < z
    · have hin : 0 ≤ q ∧ q < z := by omega
      have hn : ¬ (97 ≤ L q ∧ L q ≤ 122) := by omega
      refine go_X4_readWord (ct := fun p => p == 31) 60 ?_
      simp only [oI, oL, oR, o1, lI, lL, lR, popN, catS, gv, stL, stL2, swt, cnd, spObj, List.getElem?_cons_zero, List.getElem?_cons_succ, List.getD_cons_zero, List.getD_cons_succ, List.set_cons_zero, List.set_cons_succ, List.nil_append, List.cons_append, Option.toList, Bool.or_false, Bool.false_or, Bool.or_true, Bool.true_or, Nat.reduceBEq, Nat.reduceAdd, Nat.reduceLT, Nat.reduceLeDiff, Int.reduceAdd, Int.reduceToNat, true_and, and_true, Fin.isValue, Fin.val_zero, Fin.val_one, Fin.val_two, Fin.reduceFinMk, eq_self, Int.reduceNeg, imp_self, Nat.reduceMul, Nat.le_refl, not_true_eq_false, not_false_eq_true, List.getElem?_nil, reduceCtorEq, true_or, or_true, Classical.not_not, implies_true, or_self, wI_0, wI_1, wI_m1, b2i_w, b2i_eq0, b2i_eq1, b2i_bool, nor_self, nx_pI, kd_pI, ln_pI, fI_pI, fL_pI, fR_pI, aI_pI, aL_pI, aR_pI, nx_pL, kd_pL, ln_pL, fI_pL, fL_pL, fR_pL, aI_pL, aL_pL, aR_pL, nx_pR, kd_pR, ln_pR, fI_pR, fL_pR, fR_pR, aI_pR, aL_pR, aR_pR, nx_qI, kd_qI, ln_qI, fI_qI, fL_qI, fR_qI, aI_qI, aL_qI, aR_qI, nx_qL, kd_qL, ln_qL, fI_qL, fL_qL, fR_qL, aI_qL, aL_qL, aR_qL, nx_qR, kd_qR, ln_qR, fI_qR, fL_qR, fR_qR, aI_qR, aL_qR, aR_qR, nx_mk, kd_mk, ln_mk, fI_mk, fL_mk, fR_mk, aI_mk, aL_mk, aR_mk, false_and, and_false, if_false, if_true, and_self, Int.reduceEq, Nat.reduceEqDiff, ite_self, MLay_pI, MLay_pL, MLay_qI, MLay_qL, ev_X4_readWord_0, ev_X4_readWord_1, ev_X4_readWord_4, ev_X4_readWord_5, ev_X4_readWord_8, ev_X4_readWord_11, ev_X4_readWord_14, ev_X4_readWord_15, ev_X4_readWord_18, ev_X4_readWord_19, ev_X4_readWord_22, ev_X4_readWord_25, ev_X4_readWord_28, ev_X4_readWord_31, ev_X4_readWord_32, ev_X4_readWord_33, ev_X4_readWord_36, ev_X4_readWord_37, ev_X4_readWord_38, ev_X4_readWord_41, ev_X4_readWord_44, ev_X4_readWord_45, ev_X4_readWord_46, ev_X4_readWord_49, ev_X4_readWord_50, ev_X4_readWord_53, ev_X4_readWord_54, ev_X4_readWord_56, ev_X4_readWord_59, ev_X4_readWord_60, ev_X4_readWord_63, ev_X4_readWord_64, ev_X4_readWord_67, xt_X4_readWord, xf_X4_readWord, us_X8_signAt, us_X4_isLetter, C, C.eqs, hkr, e1, e2, g1, g2, hl2, hz, hin, hqr]
      try simp (disch := omega) only [wI_id, dv_nn, rm_nn]
      repeat' (first | intro z | apply And.intro)
      all_goals try omega
      all_goals try contradiction
      · exact k2 _ (by rw [if_neg (by omega)])
      · exact k2 _ (by rw [if_pos (by omega)])
    · refine go_X4_readWord (ct := fun p => p == 14) 60 ?_
      simp only [oI, oL, oR, o1, lI, lL, lR, popN, catS, gv, stL, stL2, swt, cnd, spObj, List.getElem?_cons_zero, List.getElem?_cons_succ, List.getD_cons_zero, List.getD_cons_succ, List.set_cons_zero, List.set_cons_succ, List.nil_append, List.cons_append, Option.toList, Bool.or_false, Bool.false_or, Bool.or_true, Bool.true_or, Nat.reduceBEq, Nat.reduceAdd, Nat.reduceLT, Nat.reduceLeDiff, Int.reduceAdd, Int.reduceToNat, true_and, and_true, Fin.isValue, Fin.val_zero, Fin.val_one, Fin.val_two, Fin.reduceFinMk, eq_self, Int.reduceNeg, imp_self, Nat.reduceMul, Nat.le_refl, not_true_eq_false, not_false_eq_true, List.getElem?_nil, reduceCtorEq, true_or, or_true, Classical.not_not, implies_true, or_self, wI_0, wI_1, wI_m1, b2i_w, b2i_eq0, b2i_eq1, b2i_bool, nor_self, nx_pI, kd_pI, ln_pI, fI_pI, fL_pI, fR_pI, aI_pI, aL_pI, aR_pI, nx_pL, kd_pL, ln_pL, fI_pL, fL_pL, fR_pL, aI_pL, aL_pL, aR_pL, nx_pR, kd_pR, ln_pR, fI_pR, fL_pR, fR_pR, aI_pR, aL_pR, aR_pR, nx_qI, kd_qI, ln_qI, fI_qI, fL_qI, fR_qI, aI_qI, aL_qI, aR_qI, nx_qL, kd_qL, ln_qL, fI_qL, fL_qL, fR_qL, aI_qL, aL_qL, aR_qL, nx_qR, kd_qR, ln_qR, fI_qR, fL_qR, fR_qR, aI_qR, aL_qR, aR_qR, nx_mk, kd_mk, ln_mk, fI_mk, fL_mk, fR_mk, aI_mk, aL_mk, aR_mk, false_and, and_false, if_false, if_true, and_self, Int.reduceEq, Nat.reduceEqDiff, ite_self, MLay_pI, MLay_pL, MLay_qI, MLay_qL, ev_X4_readWord_0, ev_X4_readWord_1, ev_X4_readWord_4, ev_X4_readWord_5, ev_X4_readWord_8, ev_X4_readWord_11, ev_X4_readWord_14, ev_X4_readWord_15, ev_X4_readWord_18, ev_X4_readWord_19, ev_X4_readWord_22, ev_X4_readWord_25, ev_X4_readWord_28, ev_X4_readWord_31, ev_X4_readWord_32, ev_X4_readWord_33, ev_X4_readWord_36, ev_X4_readWord_37, ev_X4_readWord_38, ev_X4_readWord_41, ev_X4_readWord_44, ev_X4_readWord_45, ev_X4_readWord_46, ev_X4_readWord_49, ev_X4_readWord_50, ev_X4_readWord_53, ev_X4_readWord_54, ev_X4_readWord_56, ev_X4_readWord_59, ev_X4_readWord_60, ev_X4_readWord_63, ev_X4_readWord_64, ev_X4_readWord_67, xt_X4_readWord, xf_X4_readWord, us_X8_signAt, us_X4_isLetter, C, C.eqs, hkr, e1, e2, g1, g2]
      try simp (disch := omega) only [wI_id, dv_nn, rm_nn]
      repeat' (first | intro z | apply And.intro)
      all_goals try omega
      all_goals try contradiction
      · exact k2 _ (by rw [if_neg (by omega)])
      · exact k2 _ (by rw [if_pos (by omega)])
  have loop : ∀ (n : Nat) (q : Int) (ρ : Hp), b0 < q → q + n = z → Fz tkF noR noR σ ρ → fI ρ 503 26 = b0 → fI ρ 504 26 = q → (∀ σ', Fz tkF noR noR σ σ' → fI σ' 503 26 = b0 → fI σ' 504 26 = rn L z 97 122 n q → fI σ' 502 26 = (if rn L z 97 122 n q - b0 ≤ 8 then 2 else 1) → Q none σ') → Go M_X4_readWord Q 0 [some (vr 26)] [] ρ (0, 0) := by
    intro n
    induction n with
    | zero =>
      intro q ρ h1 h2 zz e1 e2 k9
      exact fin q ρ (by omega) (by omega) zz e1 e2 k9
    | succ n ih =>
      intro q ρ h1 h2 zz e1 e2 k9
      unfold rn at k9
      by_cases c : q < z ∧ 97 ≤ L q ∧ L q ≤ 122
      · rw [if_pos c] at k9
        have ih := ih (q + 1) (pI ρ 504 26 (q + 1)) (by omega) (by omega) (zz.tr (Fz_pI _ _ _ (by decide))) (by rw [fI_pI, if_neg (by decide)]; exact e1) (by rw [fI_pI, if_pos ⟨rfl, rfl⟩]) k9
        have C := hC.fz zz (by decide)
        obtain ⟨T, g1, g2⟩ := hT.fz zz (by decide) (fun q => q)
        have hkr : kd ρ 26 = 5 := by simp only [C.eqs]
        have hl2 := T.l2
        have hLq := T.2 q
        rw [ez] at g1
        rw [eL] at g2
        rw [g2] at hLq hl2
        have hz : 0 ≤ z ∧ z ≤ 1000 := by have := T.1; rw [g1] at this; exact this
        have hqr : inR q := by unfold inR; omega
        have hin : 0 ≤ q ∧ q < z := by omega
        clear k9 zz h T fin
        refine go_X4_readWord (ct := fun p => p == 44 || p == 0) 60 ?_
        simp only [oI, oL, oR, o1, lI, lL, lR, popN, catS, gv, stL, stL2, swt, cnd, spObj, List.getElem?_cons_zero, List.getElem?_cons_succ, List.getD_cons_zero, List.getD_cons_succ, List.set_cons_zero, List.set_cons_succ, List.nil_append, List.cons_append, Option.toList, Bool.or_false, Bool.false_or, Bool.or_true, Bool.true_or, Nat.reduceBEq, Nat.reduceAdd, Nat.reduceLT, Nat.reduceLeDiff, Int.reduceAdd, Int.reduceToNat, true_and, and_true, Fin.isValue, Fin.val_zero, Fin.val_one, Fin.val_two, Fin.reduceFinMk, eq_self, Int.reduceNeg, imp_self, Nat.reduceMul, Nat.le_refl, not_true_eq_false, not_false_eq_true, List.getElem?_nil, reduceCtorEq, true_or, or_true, Classical.not_not, implies_true, or_self, wI_0, wI_1, wI_m1, b2i_w, b2i_eq0, b2i_eq1, b2i_bool, nor_self, nx_pI, kd_pI, ln_pI, fI_pI, fL_pI, fR_pI, aI_pI, aL_pI, aR_pI, nx_pL, kd_pL, ln_pL, fI_pL, fL_pL, fR_pL, aI_pL, aL_pL, aR_pL, nx_pR, kd_pR, ln_pR, fI_pR, fL_pR, fR_pR, aI_pR, aL_pR, aR_pR, nx_qI, kd_qI, ln_qI, fI_qI, fL_qI, fR_qI, aI_qI, aL_qI, aR_qI, nx_qL, kd_qL, ln_qL, fI_qL, fL_qL, fR_qL, aI_qL, aL_qL, aR_qL, nx_qR, kd_qR, ln_qR, fI_qR, fL_qR, fR_qR, aI_qR, aL_qR, aR_qR, nx_mk, kd_mk, ln_mk, fI_mk, fL_mk, fR_mk, aI_mk, aL_mk, aR_mk, false_and, and_false, if_false, if_true, and_self, Int.reduceEq, Nat.reduceEqDiff, ite_self, MLay_pI, MLay_pL, MLay_qI, MLay_qL, ev_X4_readWord_0, ev_X4_readWord_1, ev_X4_readWord_4, ev_X4_readWord_5, ev_X4_readWord_8, ev_X4_readWord_11, ev_X4_readWord_14, ev_X4_readWord_15, ev_X4_readWord_18, ev_X4_readWord_19, ev_X4_readWord_22, ev_X4_readWord_25, ev_X4_readWord_28, ev_X4_readWord_31, ev_X4_readWord_32, ev_X4_readWord_33, ev_X4_readWord_36, ev_X4_readWord_37, ev_X4_readWord_38, ev_X4_readWord_41, ev_X4_readWord_44, ev_X4_readWord_45, ev_X4_readWord_46, ev_X4_readWord_49, ev_X4_readWord_50, ev_X4_readWord_53, ev_X4_readWord_54, ev_X4_readWord_56, ev_X4_readWord_59, ev_X4_readWord_60, ev_X4_readWord_63, ev_X4_readWord_64, ev_X4_readWord_67, xt_X4_readWord, xf_X4_readWord, us_X8_signAt, us_X4_isLetter, C, C.eqs, hkr, e1, e2, g1, g2, hl2, hz, hin, hqr, c.2]
        try simp (disch := omega) only [wI_id, dv_nn, rm_nn]
        repeat' (first | intro z | apply And.intro)
        all_goals try omega
        all_goals try contradiction
        all_goals exact ih
      · rw [if_neg c] at k9
        exact fin q ρ (by omega) c zz e1 e2 k9
  exact loop (z - q0).toNat q0 σ (by omega) (by omega) (Fz.rf σ) eb er (fun σ' a1 a2 a3 a4 => h σ' a1 a2 a3 (by rw [a3]; exact a4))

def sp_X4_readNumber : Sp := fun av σ Q => oR av fun this av => av = [] ∧ kd σ this = 5 ∧ (this = 26 ∧ CLay σ ∧ LTT σ ∧ (0 ≤ fI σ 503 26 ∧ fI σ 504 26 = fI σ 503 26 + 1 ∧ fI σ 504 26 ≤ fI σ 901 24) ∧ ∀ σ', Fz tkF noR noR σ σ' → fI σ' 503 26 = fI σ 503 26 → fI σ' 504 26 = rn (aI σ 25) (fI σ 901 24) 48 57 (fI σ 901 24 - fI σ 504 26).toNat (fI σ 504 26) → fI σ' 502 26 = (if fI σ' 504 26 - fI σ 503 26 ≤ 4 then 3 else 1) → fI σ' 505 26 = nv (aI σ 25) (fI σ 503 26) (fI σ' 504 26 - fI σ 503 26).toNat → Q none σ')
theorem us_X4_readNumber (this : Int) (σ : Hp) (Q : Option AV → Hp → Prop) : sp_X4_readNumber [vr this] σ Q = (kd σ this = 5 ∧ (this = 26 ∧ CLay σ ∧ LTT σ ∧ (0 ≤ fI σ 503 26 ∧ fI σ 504 26 = fI σ 503 26 + 1 ∧ fI σ 504 26 ≤ fI σ 901 24) ∧ ∀ σ', Fz tkF noR noR σ σ' → fI σ' 503 26 = fI σ 503 26 → fI σ' 504 26 = rn (aI σ 25) (fI σ 901 24) 48 57 (fI σ 901 24 - fI σ 504 26).toNat (fI σ 504 26) → fI σ' 502 26 = (if fI σ' 504 26 - fI σ 503 26 ≤ 4 then 3 else 1) → fI σ' 505 26 = nv (aI σ 25) (fI σ 503 26) (fI σ' 504 26 - fI σ 503 26).toNat → Q none σ')) := propext ⟨fun h => h.2, fun h => ⟨rfl, h⟩⟩
theorem el_X4_readNumber {av : List AV} {σ : Hp} {Q : Option AV → Hp → Prop} (h : sp_X4_readNumber av σ Q) : ∃ (this : Int), av = [vr this] ∧ (kd σ this = 5 ∧ (this = 26 ∧ CLay σ ∧ LTT σ ∧ (0 ≤ fI σ 503 26 ∧ fI σ 504 26 = fI σ 503 26 + 1 ∧ fI σ 504 26 ≤ fI σ 901 24) ∧ ∀ σ', Fz tkF noR noR σ σ' → fI σ' 503 26 = fI σ 503 26 → fI σ' 504 26 = rn (aI σ 25) (fI σ 901 24) 48 57 (fI σ 901 24 - fI σ 504 26).toNat (fI σ 504 26) → fI σ' 502 26 = (if fI σ' 504 26 - fI σ 503 26 ≤ 4 then 3 else 1) → fI σ' 505 26 = nv (aI σ 25) (fI σ 503 26) (fI σ' 504 26 - fI σ 503 26).toNat → Q none σ')) := by
  obtain ⟨this, a0, rfl, h0⟩ := oR_s h
  obtain ⟨rfl, hz⟩ := h0
  exact ⟨this, rfl, hz⟩
theorem rc_X4_readNumber : ∀ (av : List AV) (σ : Hp) (Q : Option AV → Hp → Prop), sp_X4_readNumber av σ Q → ∃ r tl, av = vr r :: tl ∧ kd σ r = 4 + 1 := fun av σ Q h => by
  obtain ⟨this, rfl, hz, -⟩ := el_X4_readNumber h
  exact ⟨this, _, rfl, hz⟩

def tb_X4_readNumber : Tab := [(0, .aload_n 0, 1, (0, 0, 0, 0)), (1, .aload_n 0, 1, (0, 0, 0, 0)), (2, .getfield 12, 3, (5, 500, 2, 0)), (5, .aload_n 0, 1, (0, 0, 0, 0)), (6, .getfield 29, 3, (5, 503, 0, 0)), (9, .invokevirtual 136, 3, (0, 0, 0, 0)), (12, .bipush 48, 2, (0, 0, 0, 0)), (14, .isub, 1, (0, 0, 0, 0)), (15, .putfield 35, 3, (5, 505, 0, 0)), (18, .aload_n 0, 1, (0, 0, 0, 0)), (19, .getfield 32, 3, (5, 504, 0, 0)), (22, .aload_n 0, 1, (0, 0, 0, 0)), (23, .getfield 12, 3, (5, 500, 2, 0)), (26, .getfield 143, 3, (9, 901, 0, 0)), (29, .if_icmp .ge 59, 3, (0, 0, 0, 0)), (32, .aload_n 0, 1, (0, 0, 0, 0)), (33, .getfield 12, 3, (5, 500, 2, 0)), (36, .aload_n 0, 1, (0, 0, 0, 0)), (37, .getfield 32, 3, (5, 504, 0, 0)), (40, .invokevirtual 136, 3, (0, 0, 0, 0)), (43, .invokestatic 155, 3, (0, 0, 0, 0)), (46, .ifCond .eq 42, 3, (0, 0, 0, 0)), (49, .aload_n 0, 1, (0, 0, 0, 0)), (50, .bipush 10, 2, (0, 0, 0, 0)), (52, .aload_n 0, 1, (0, 0, 0, 0)), (53, .getfield 35, 3, (5, 505, 0, 0)), (56, .imul, 1, (0, 0, 0, 0)), (57, .aload_n 0, 1, (0, 0, 0, 0)), (58, .getfield 12, 3, (5, 500, 2, 0)), (61, .aload_n 0, 1, (0, 0, 0, 0)), (62, .getfield 32, 3, (5, 504, 0, 0)), (65, .invokevirtual 136, 3, (0, 0, 0, 0)), (68, .iadd, 1, (0, 0, 0, 0)), (69, .bipush 48, 2, (0, 0, 0, 0)), (71, .isub, 1, (0, 0, 0, 0)), (72, .putfield 35, 3, (5, 505, 0, 0)), (75, .aload_n 0, 1, (0, 0, 0, 0)), (76, .dup, 1, (0, 0, 0, 0)), (77, .getfield 32, 3, (5, 504, 0, 0)), (80, .iconst 1, 1, (0, 0, 0, 0)), (81, .iadd, 1, (0, 0, 0, 0)), (82, .putfield 32, 3, (5, 504, 0, 0)), (85, .goto (-67), 3, (0, 0, 0, 0)), (88, .aload_n 0, 1, (0, 0, 0, 0)), (89, .aload_n 0, 1, (0, 0, 0, 0)), (90, .getfield 32, 3, (5, 504, 0, 0)), (93, .aload_n 0, 1, (0, 0, 0, 0)), (94, .getfield 29, 3, (5, 503, 0, 0)), (97, .isub, 1, (0, 0, 0, 0)), (98, .iconst 4, 1, (0, 0, 0, 0)), (99, .if_icmp .gt 7, 3, (0, 0, 0, 0)), (102, .iconst 3, 1, (0, 0, 0, 0)), (103, .goto 4, 3, (0, 0, 0, 0)), (106, .iconst 1, 1, (0, 0, 0, 0)), (107, .putfield 25, 3, (5, 502, 0, 0)), (110, .return_, 1, (0, 0, 0, 0))]
set_option maxRecDepth 100000 in
theorem tk_X4_readNumber : TOK RX4 false cX4_readNumber tb_X4_readNumber := chkT_ok ft_X4 (by decide +kernel)
theorem rw_X4_1241 : Row RX4 (.invokestatic 155) 3 1 0 0 1 sp_X4_isNumeral := row_S c_X4_isNumeral ⟨TBL_in 935 (by decide +kernel) rfl, TBL_in 937 (by decide +kernel) rfl, TBL_in 118 (by decide +kernel) rfl, by decide +kernel, by decide⟩ (TBL_in 936 (by decide +kernel) rfl)
def mt_X4_readNumber : List (Nat × Mt) := [(1088, 2, 0, 0, 1, sp_X8_signAt), (1241, 1, 0, 0, 1, sp_X4_isNumeral)]
theorem em_X4_readNumber : mt_X4_readNumber.lookup 1088 = some (2, 0, 0, 1, sp_X8_signAt) ∧ mt_X4_readNumber.lookup 1241 = some (1, 0, 0, 1, sp_X4_isNumeral) := ⟨rfl, rfl⟩
theorem mk_X4_readNumber : MOK RX4 mt_X4_readNumber := by
  intro q hq
  simp only [mt_X4_readNumber, List.mem_cons, List.not_mem_nil, or_false] at hq
  rcases hq with rfl | rfl
  · exact rw_X4_1088
  · exact rw_X4_1241
noncomputable def xe_X4_readNumber (ct : Nat → Bool) (K : Kt) (R : Option AV → Hp → Prop) (n : Nat) : Kt := exS 1 3 0 0 0 tb_X4_readNumber mt_X4_readNumber ct K R n
noncomputable def xk_X4_readNumber (ct : Nat → Bool) (K : Kt) (R : Option AV → Hp → Prop) (n : Nat) : Kt := exkS 1 3 0 0 0 tb_X4_readNumber mt_X4_readNumber ct K R n
theorem xt_X4_readNumber {ct : Nat → Bool} {K : Kt} {R : Option AV → Hp → Prop} {n pc : Nat} {ls : List (Option AV)} {st : List AV} {σ : Hp} {k : Nat × Nat} (h : ct pc = true) : xk_X4_readNumber ct K R n pc ls st σ k = K pc ls st σ k := by unfold xk_X4_readNumber exkS; rw [h]
theorem xf_X4_readNumber {ct : Nat → Bool} {K : Kt} {R : Option AV → Hp → Prop} {n pc : Nat} {ls : List (Option AV)} {st : List AV} {σ : Hp} {k : Nat × Nat} (h : ct pc = false) : xk_X4_readNumber ct K R n pc ls st σ k = xe_X4_readNumber ct K R n pc ls st σ k := by unfold xk_X4_readNumber exkS xe_X4_readNumber; rw [h]
theorem ev_X4_readNumber_0 {ct : Nat → Bool} {K : Kt} {R : Option AV → Hp → Prop} {n : Nat} {ls : List (Option AV)} {st : List AV} {σ : Hp} {k : Nat × Nat} : xe_X4_readNumber ct K R (n + 1) 0 ls st σ k = (lR ls 0 fun x => xk_X4_readNumber ct K R n 1 ls (vr x :: st) σ k) := exS_step.trans rfl
theorem ev_X4_readNumber_1 {ct : Nat → Bool} {K : Kt} {R : Option AV → Hp → Prop} {n : Nat} {ls : List (Option AV)} {st : List AV} {σ : Hp} {k : Nat × Nat} : xe_X4_readNumber ct K R (n + 1) 1 ls st σ k = (lR ls 0 fun x => xk_X4_readNumber ct K R n 2 ls (vr x :: st) σ k) := exS_step.trans rfl
theorem ev_X4_readNumber_2 {ct : Nat → Bool} {K : Kt} {R : Option AV → Hp → Prop} {n : Nat} {ls : List (Option AV)} {st : List AV} {σ : Hp} {k : Nat × Nat} : xe_X4_readNumber ct K R (n + 1) 2 ls st σ k = (oR st fun x st => kd σ x = 5 ∧ xk_X4_readNumber ct K R n 5 ls (vr (fR σ 500 x) :: st) σ k) := exS_step.trans rfl
theorem ev_X4_readNumber_5 {ct : Nat → Bool} {K : Kt} {R : Option AV → Hp → Prop} {n : Nat} {ls : List (Option AV)} {st : List AV} {σ : Hp} {k : Nat × Nat} : xe_X4_readNumber ct K R (n + 1) 5 ls st σ k = (lR ls 0 fun x => xk_X4_readNumber ct K R n 6 ls (vr x :: st) σ k) := exS_step.trans rfl
theorem ev_X4_readNumber_6 {ct : Nat → Bool} {K : Kt} {R : Option AV → Hp → Prop} {n : Nat} {ls : List (Option AV)} {st : List AV} {σ : Hp} {k : Nat × Nat} : xe_X4_readNumber ct K R (n + 1) 6 ls st σ k = (oR st fun x st => kd σ x = 5 ∧ xk_X4_readNumber ct K R n 9 ls (vi (fI σ 503 x) :: st) σ k) := exS_step.trans rfl
theorem ev_X4_readNumber_9 {ct : Nat → Bool} {K : Kt} {R : Option AV → Hp → Prop} {n : Nat} {ls : List (Option AV)} {st : List AV} {σ : Hp} {k : Nat × Nat} : xe_X4_readNumber ct K R (n + 1) 9 ls st σ k = (popN 2 st [] fun av rest => (catS rest ≤ 8 ∧ 1 < 3 ∧ k.1 + 0 ≤ 0 ∧ k.2 + 0 ≤ 0) ∧ (sp_X8_signAt) av σ fun v σ' => xk_X4_readNumber ct K R n 12 ls (v.toList ++ rest) σ' (k.1 + 0, k.2 + 0)) := exS_step.trans rfl
theorem ev_X4_readNumber_12 {ct : Nat → Bool} {K : Kt} {R : Option AV → Hp → Prop} {n : Nat} {ls : List (Option AV)} {st : List AV} {σ : Hp} {k : Nat × Nat} : xe_X4_readNumber ct K R (n + 1) 12 ls st σ k = (xk_X4_readNumber ct K R n 14 ls (vi (48) :: st) σ k) := exS_step.trans rfl
theorem ev_X4_readNumber_14 {ct : Nat → Bool} {K : Kt} {R : Option AV → Hp → Prop} {n : Nat} {ls : List (Option AV)} {st : List AV} {σ : Hp} {k : Nat × Nat} : xe_X4_readNumber ct K R (n + 1) 14 ls st σ k = (oI st fun y st => oI st fun x st => xk_X4_readNumber ct K R n 15 ls (vi (x - y) :: st) σ k) := exS_step.trans rfl
theorem ev_X4_readNumber_15 {ct : Nat → Bool} {K : Kt} {R : Option AV → Hp → Prop} {n : Nat} {ls : List (Option AV)} {st : List AV} {σ : Hp} {k : Nat × Nat} : xe_X4_readNumber ct K R (n + 1) 15 ls st σ k = (oI st fun v st => oR st fun x st => kd σ x = 5 ∧ xk_X4_readNumber ct K R n 18 ls st (pI σ 505 x v) k) := exS_step.trans rfl
theorem ev_X4_readNumber_18 {ct : Nat → Bool} {K : Kt} {R : Option AV → Hp → Prop} {n : Nat} {ls : List (Option AV)} {st : List AV} {σ : Hp} {k : Nat × Nat} : xe_X4_readNumber ct K R (n + 1) 18 ls st σ k = (lR ls 0 fun x => xk_X4_readNumber ct K R n 19 ls (vr x :: st) σ k) := exS_step.trans rfl
theorem ev_X4_readNumber_19 {ct : Nat → Bool} {K : Kt} {R : Option AV → Hp → Prop} {n : Nat} {ls : List (Option AV)} {st : List AV} {σ : Hp} {k : Nat × Nat} : xe_X4_readNumber ct K R (n + 1) 19 ls st σ k = (oR st fun x st => kd σ x = 5 ∧ xk_X4_readNumber ct K R n 22 ls (vi (fI σ 504 x) :: st) σ k) := exS_step.trans rfl
theorem ev_X4_readNumber_22 {ct : Nat → Bool} {K : Kt} {R : Option AV → Hp → Prop} {n : Nat} {ls : List (Option AV)} {st : List AV} {σ : Hp} {k : Nat × Nat} : xe_X4_readNumber ct K R (n + 1) 22 ls st σ k = (lR ls 0 fun x => xk_X4_readNumber ct K R n 23 ls (vr x :: st) σ k) := exS_step.trans rfl
theorem ev_X4_readNumber_23 {ct : Nat → Bool} {K : Kt} {R : Option AV → Hp → Prop} {n : Nat} {ls : List (Option AV)} {st : List AV} {σ : Hp} {k : Nat × Nat} : xe_X4_readNumber ct K R (n + 1) 23 ls st σ k = (oR st fun x st => kd σ x = 5 ∧ xk_X4_readNumber ct K R n 26 ls (vr (fR σ 500 x) :: st) σ k) := exS_step.trans rfl
theorem ev_X4_readNumber_26 {ct : Nat → Bool} {K : Kt} {R : Option AV → Hp → Prop} {n : Nat} {ls : List (Option AV)} {st : List AV} {σ : Hp} {k : Nat × Nat} : xe_X4_readNumber ct K R (n + 1) 26 ls st σ k = (oR st fun x st => kd σ x = 9 ∧ xk_X4_readNumber ct K R n 29 ls (vi (fI σ 901 x) :: st) σ k) := exS_step.trans rfl
theorem ev_X4_readNumber_29 {ct : Nat → Bool} {K : Kt} {R : Option AV → Hp → Prop} {n : Nat} {ls : List (Option AV)} {st : List AV} {σ : Hp} {k : Nat × Nat} : xe_X4_readNumber ct K R (n + 1) 29 ls st σ k = (oI st fun y st => oI st fun x st => (wI y ≤ wI x → xk_X4_readNumber ct K R n 88 ls st σ k) ∧ (¬ (wI y ≤ wI x) → xk_X4_readNumber ct K R n 32 ls st σ k)) := exS_step.trans rfl
theorem ev_X4_readNumber_32 {ct : Nat → Bool} {K : Kt} {R : Option AV → Hp → Prop} {n : Nat} {ls : List (Option AV)} {st : List AV} {σ : Hp} {k : Nat × Nat} : xe_X4_readNumber ct K R (n + 1) 32 ls st σ k = (lR ls 0 fun x => xk_X4_readNumber ct K R n 33 ls (vr x :: st) σ k) := exS_step.trans rfl
theorem ev_X4_readNumber_33 {ct : Nat → Bool} {K : Kt} {R : Option AV → Hp → Prop} {n : Nat} {ls : List (Option AV)} {st : List AV} {σ : Hp} {k : Nat × Nat} : xe_X4_readNumber ct K R (n + 1) 33 ls st σ k = (oR st fun x st => kd σ x = 5 ∧ xk_X4_readNumber ct K R n 36 ls (vr (fR σ 500 x) :: st) σ k) := exS_step.trans rfl
theorem ev_X4_readNumber_36 {ct : Nat → Bool} {K : Kt} {R : Option AV → Hp → Prop} {n : Nat} {ls : List (Option AV)} {st : List AV} {σ : Hp} {k : Nat × Nat} : xe_X4_readNumber ct K R (n + 1) 36 ls st σ k = (lR ls 0 fun x => xk_X4_readNumber ct K R n 37 ls (vr x :: st) σ k) := exS_step.trans rfl
theorem ev_X4_readNumber_37 {ct : Nat → Bool} {K : Kt} {R : Option AV → Hp → Prop} {n : Nat} {ls : List (Option AV)} {st : List AV} {σ : Hp} {k : Nat × Nat} : xe_X4_readNumber ct K R (n + 1) 37 ls st σ k = (oR st fun x st => kd σ x = 5 ∧ xk_X4_readNumber ct K R n 40 ls (vi (fI σ 504 x) :: st) σ k) := exS_step.trans rfl
theorem ev_X4_readNumber_40 {ct : Nat → Bool} {K : Kt} {R : Option AV → Hp → Prop} {n : Nat} {ls : List (Option AV)} {st : List AV} {σ : Hp} {k : Nat × Nat} : xe_X4_readNumber ct K R (n + 1) 40 ls st σ k = (popN 2 st [] fun av rest => (catS rest ≤ 8 ∧ 1 < 3 ∧ k.1 + 0 ≤ 0 ∧ k.2 + 0 ≤ 0) ∧ (sp_X8_signAt) av σ fun v σ' => xk_X4_readNumber ct K R n 43 ls (v.toList ++ rest) σ' (k.1 + 0, k.2 + 0)) := exS_step.trans rfl
theorem ev_X4_readNumber_43 {ct : Nat → Bool} {K : Kt} {R : Option AV → Hp → Prop} {n : Nat} {ls : List (Option AV)} {st : List AV} {σ : Hp} {k : Nat × Nat} : xe_X4_readNumber ct K R (n + 1) 43 ls st σ k = (popN 1 st [] fun av rest => (catS rest ≤ 8 ∧ 1 < 3 ∧ k.1 + 0 ≤ 0 ∧ k.2 + 0 ≤ 0) ∧ (sp_X4_isNumeral) av σ fun v σ' => xk_X4_readNumber ct K R n 46 ls (v.toList ++ rest) σ' (k.1 + 0, k.2 + 0)) := exS_step.trans rfl
theorem ev_X4_readNumber_46 {ct : Nat → Bool} {K : Kt} {R : Option AV → Hp → Prop} {n : Nat} {ls : List (Option AV)} {st : List AV} {σ : Hp} {k : Nat × Nat} : xe_X4_readNumber ct K R (n + 1) 46 ls st σ k = (oI st fun x st => (wI x = wI 0 → xk_X4_readNumber ct K R n 88 ls st σ k) ∧ (¬ (wI x = wI 0) → xk_X4_readNumber ct K R n 49 ls st σ k)) := exS_step.trans rfl
theorem ev_X4_readNumber_49 {ct : Nat → Bool} {K : Kt} {R : Option AV → Hp → Prop} {n : Nat} {ls : List (Option AV)} {st : List AV} {σ : Hp} {k : Nat × Nat} : xe_X4_readNumber ct K R (n + 1) 49 ls st σ k = (lR ls 0 fun x => xk_X4_readNumber ct K R n 50 ls (vr x :: st) σ k) := exS_step.trans rfl
theorem ev_X4_readNumber_50 {ct : Nat → Bool} {K : Kt} {R : Option AV → Hp → Prop} {n : Nat} {ls : List (Option AV)} {st : List AV} {σ : Hp} {k : Nat × Nat} : xe_X4_readNumber ct K R (n + 1) 50 ls st σ k = (xk_X4_readNumber ct K R n 52 ls (vi (10) :: st) σ k) := exS_step.trans rfl
theorem ev_X4_readNumber_52 {ct : Nat → Bool} {K : Kt} {R : Option AV → Hp → Prop} {n : Nat} {ls : List (Option AV)} {st : List AV} {σ : Hp} {k : Nat × Nat} : xe_X4_readNumber ct K R (n + 1) 52 ls st σ k = (lR ls 0 fun x => xk_X4_readNumber ct K R n 53 ls (vr x :: st) σ k) := exS_step.trans rfl
theorem ev_X4_readNumber_53 {ct : Nat → Bool} {K : Kt} {R : Option AV → Hp → Prop} {n : Nat} {ls : List (Option AV)} {st : List AV} {σ : Hp} {k : Nat × Nat} : xe_X4_readNumber ct K R (n + 1) 53 ls st σ k = (oR st fun x st => kd σ x = 5 ∧ xk_X4_readNumber ct K R n 56 ls (vi (fI σ 505 x) :: st) σ k) := exS_step.trans rfl
theorem ev_X4_readNumber_56 {ct : Nat → Bool} {K : Kt} {R : Option AV → Hp → Prop} {n : Nat} {ls : List (Option AV)} {st : List AV} {σ : Hp} {k : Nat × Nat} : xe_X4_readNumber ct K R (n + 1) 56 ls st σ k = (oI st fun y st => oI st fun x st => xk_X4_readNumber ct K R n 57 ls (vi (x * y) :: st) σ k) := exS_step.trans rfl
theorem ev_X4_readNumber_57 {ct : Nat → Bool} {K : Kt} {R : Option AV → Hp → Prop} {n : Nat} {ls : List (Option AV)} {st : List AV} {σ : Hp} {k : Nat × Nat} : xe_X4_readNumber ct K R (n + 1) 57 ls st σ k = (lR ls 0 fun x => xk_X4_readNumber ct K R n 58 ls (vr x :: st) σ k) := exS_step.trans rfl
theorem ev_X4_readNumber_58 {ct : Nat → Bool} {K : Kt} {R : Option AV → Hp → Prop} {n : Nat} {ls : List (Option AV)} {st : List AV} {σ : Hp} {k : Nat × Nat} : xe_X4_readNumber ct K R (n + 1) 58 ls st σ k = (oR st fun x st => kd σ x = 5 ∧ xk_X4_readNumber ct K R n 61 ls (vr (fR σ 500 x) :: st) σ k) := exS_step.trans rfl
theorem ev_X4_readNumber_61 {ct : Nat → Bool} {K : Kt} {R : Option AV → Hp → Prop} {n : Nat} {ls : List (Option AV)} {st : List AV} {σ : Hp} {k : Nat × Nat} : xe_X4_readNumber ct K R (n + 1) 61 ls st σ k = (lR ls 0 fun x => xk_X4_readNumber ct K R n 62 ls (vr x :: st) σ k) := exS_step.trans rfl
theorem ev_X4_readNumber_62 {ct : Nat → Bool} {K : Kt} {R : Option AV → Hp → Prop} {n : Nat} {ls : List (Option AV)} {st : List AV} {σ : Hp} {k : Nat × Nat} : xe_X4_readNumber ct K R (n + 1) 62 ls st σ k = (oR st fun x st => kd σ x = 5 ∧ xk_X4_readNumber ct K R n 65 ls (vi (fI σ 504 x) :: st) σ k) := exS_step.trans rfl
theorem ev_X4_readNumber_65 {ct : Nat → Bool} {K : Kt} {R : Option AV → Hp → Prop} {n : Nat} {ls : List (Option AV)} {st : List AV} {σ : Hp} {k : Nat × Nat} : xe_X4_readNumber ct K R (n + 1) 65 ls st σ k = (popN 2 st [] fun av rest => (catS rest ≤ 8 ∧ 1 < 3 ∧ k.1 + 0 ≤ 0 ∧ k.2 + 0 ≤ 0) ∧ (sp_X8_signAt) av σ fun v σ' => xk_X4_readNumber ct K R n 68 ls (v.toList ++ rest) σ' (k.1 + 0, k.2 + 0)) := exS_step.trans rfl
theorem ev_X4_readNumber_68 {ct : Nat → Bool} {K : Kt} {R : Option AV → Hp → Prop} {n : Nat} {ls : List (Option AV)} {st : List AV} {σ : Hp} {k : Nat × Nat} : xe_X4_readNumber ct K R (n + 1) 68 ls st σ k = (oI st fun y st => oI st fun x st => xk_X4_readNumber ct K R n 69 ls (vi (x + y) :: st) σ k) := exS_step.trans rfl
theorem ev_X4_readNumber_69 {ct : Nat → Bool} {K : Kt} {R : Option AV → Hp → Prop} {n : Nat} {ls : List (Option AV)} {st : List AV} {σ : Hp} {k : Nat × Nat} : xe_X4_readNumber ct K R (n + 1) 69 ls st σ k = (xk_X4_readNumber ct K R n 71 ls (vi (48) :: st) σ k) := exS_step.trans rfl
theorem ev_X4_readNumber_71 {ct : Nat → Bool} {K : Kt} {R : Option AV → Hp → Prop} {n : Nat} {ls : List (Option AV)} {st : List AV} {σ : Hp} {k : Nat × Nat} : xe_X4_readNumber ct K R (n + 1) 71 ls st σ k = (oI st fun y st => oI st fun x st => xk_X4_readNumber ct K R n 72 ls (vi (x - y) :: st) σ k) := exS_step.trans rfl
theorem ev_X4_readNumber_72 {ct : Nat → Bool} {K : Kt} {R : Option AV → Hp → Prop} {n : Nat} {ls : List (Option AV)} {st : List AV} {σ : Hp} {k : Nat × Nat} : xe_X4_readNumber ct K R (n + 1) 72 ls st σ k = (oI st fun v st => oR st fun x st => kd σ x = 5 ∧ xk_X4_readNumber ct K R n 75 ls st (pI σ 505 x v) k) := exS_step.trans rfl
theorem ev_X4_readNumber_75 {ct : Nat → Bool} {K : Kt} {R : Option AV → Hp → Prop} {n : Nat} {ls : List (Option AV)} {st : List AV} {σ : Hp} {k : Nat × Nat} : xe_X4_readNumber ct K R (n + 1) 75 ls st σ k = (lR ls 0 fun x => xk_X4_readNumber ct K R n 76 ls (vr x :: st) σ k) := exS_step.trans rfl
theorem ev_X4_readNumber_76 {ct : Nat → Bool} {K : Kt} {R : Option AV → Hp → Prop} {n : Nat} {ls : List (Option AV)} {st : List AV} {σ : Hp} {k : Nat × Nat} : xe_X4_readNumber ct K R (n + 1) 76 ls st σ k = (o1 st fun v st => xk_X4_readNumber ct K R n 77 ls (v :: v :: st) σ k) := exS_step.trans rfl
theorem ev_X4_readNumber_77 {ct : Nat → Bool} {K : Kt} {R : Option AV → Hp → Prop} {n : Nat} {ls : List (Option AV)} {st : List AV} {σ : Hp} {k : Nat × Nat} : xe_X4_readNumber ct K R (n + 1) 77 ls st σ k = (oR st fun x st => kd σ x = 5 ∧ xk_X4_readNumber ct K R n 80 ls (vi (fI σ 504 x) :: st) σ k) := exS_step.trans rfl
theorem ev_X4_readNumber_80 {ct : Nat → Bool} {K : Kt} {R : Option AV → Hp → Prop} {n : Nat} {ls : List (Option AV)} {st : List AV} {σ : Hp} {k : Nat × Nat} : xe_X4_readNumber ct K R (n + 1) 80 ls st σ k = (xk_X4_readNumber ct K R n 81 ls (vi (1) :: st) σ k) := exS_step.trans rfl
theorem ev_X4_readNumber_81 {ct : Nat → Bool} {K : Kt} {R : Option AV → Hp → Prop} {n : Nat} {ls : List (Option AV)} {st : List AV} {σ : Hp} {k : Nat × Nat} : xe_X4_readNumber ct K R (n + 1) 81 ls st σ k = (oI st fun y st => oI st fun x st => xk_X4_readNumber ct K R n 82 ls (vi (x + y) :: st) σ k) := exS_step.trans rfl
theorem ev_X4_readNumber_82 {ct : Nat → Bool} {K : Kt} {R : Option AV → Hp → Prop} {n : Nat} {ls : List (Option AV)} {st : List AV} {σ : Hp} {k : Nat × Nat} : xe_X4_readNumber ct K R (n + 1) 82 ls st σ k = (oI st fun v st => oR st fun x st => kd σ x = 5 ∧ xk_X4_readNumber ct K R n 85 ls st (pI σ 504 x v) k) := exS_step.trans rfl
theorem ev_X4_readNumber_85 {ct : Nat → Bool} {K : Kt} {R : Option AV → Hp → Prop} {n : Nat} {ls : List (Option AV)} {st : List AV} {σ : Hp} {k : Nat × Nat} : xe_X4_readNumber ct K R (n + 1) 85 ls st σ k = (xk_X4_readNumber ct K R n 18 ls st σ k) := exS_step.trans rfl
theorem ev_X4_readNumber_88 {ct : Nat → Bool} {K : Kt} {R : Option AV → Hp → Prop} {n : Nat} {ls : List (Option AV)} {st : List AV} {σ : Hp} {k : Nat × Nat} : xe_X4_readNumber ct K R (n + 1) 88 ls st σ k = (lR ls 0 fun x => xk_X4_readNumber ct K R n 89 ls (vr x :: st) σ k) := exS_step.trans rfl
theorem ev_X4_readNumber_89 {ct : Nat → Bool} {K : Kt} {R : Option AV → Hp → Prop} {n : Nat} {ls : List (Option AV)} {st : List AV} {σ : Hp} {k : Nat × Nat} : xe_X4_readNumber ct K R (n + 1) 89 ls st σ k = (lR ls 0 fun x => xk_X4_readNumber ct K R n 90 ls (vr x :: st) σ k) := exS_step.trans rfl
theorem ev_X4_readNumber_90 {ct : Nat → Bool} {K : Kt} {R : Option AV → Hp → Prop} {n : Nat} {ls : List (Option AV)} {st : List AV} {σ : Hp} {k : Nat × Nat} : xe_X4_readNumber ct K R (n + 1) 90 ls st σ k = (oR st fun x st => kd σ x = 5 ∧ xk_X4_readNumber ct K R n 93 ls (vi (fI σ 504 x) :: st) σ k) := exS_step.trans rfl
theorem ev_X4_readNumber_93 {ct : Nat → Bool} {K : Kt} {R : Option AV → Hp → Prop} {n : Nat} {ls : List (Option AV)} {st : List AV} {σ : Hp} {k : Nat × Nat} : xe_X4_readNumber ct K R (n + 1) 93 ls st σ k = (lR ls 0 fun x => xk_X4_readNumber ct K R n 94 ls (vr x :: st) σ k) := exS_step.trans rfl
theorem ev_X4_readNumber_94 {ct : Nat → Bool} {K : Kt} {R : Option AV → Hp → Prop} {n : Nat} {ls : List (Option AV)} {st : List AV} {σ : Hp} {k : Nat × Nat} : xe_X4_readNumber ct K R (n + 1) 94 ls st σ k = (oR st fun x st => kd σ x = 5 ∧ xk_X4_readNumber ct K R n 97 ls (vi (fI σ 503 x) :: st) σ k) := exS_step.trans rfl
theorem ev_X4_readNumber_97 {ct : Nat → Bool} {K : Kt} {R : Option AV → Hp → Prop} {n : Nat} {ls : List (Option AV)} {st : List AV} {σ : Hp} {k : Nat × Nat} : xe_X4_readNumber ct K R (n + 1) 97 ls st σ k = (oI st fun y st => oI st fun x st => xk_X4_readNumber ct K R n 98 ls (vi (x - y) :: st) σ k) := exS_step.trans rfl
theorem ev_X4_readNumber_98 {ct : Nat → Bool} {K : Kt} {R : Option AV → Hp → Prop} {n : Nat} {ls : List (Option AV)} {st : List AV} {σ : Hp} {k : Nat × Nat} : xe_X4_readNumber ct K R (n + 1) 98 ls st σ k = (xk_X4_readNumber ct K R n 99 ls (vi (4) :: st) σ k) := exS_step.trans rfl
theorem ev_X4_readNumber_99 {ct : Nat → Bool} {K : Kt} {R : Option AV → Hp → Prop} {n : Nat} {ls : List (Option AV)} {st : List AV} {σ : Hp} {k : Nat × Nat} : xe_X4_readNumber ct K R (n + 1) 99 ls st σ k = (oI st fun y st => oI st fun x st => (wI y < wI x → xk_X4_readNumber ct K R n 106 ls st σ k) ∧ (¬ (wI y < wI x) → xk_X4_readNumber ct K R n 102 ls st σ k)) := exS_step.trans rfl
theorem ev_X4_readNumber_102 {ct : Nat → Bool} {K : Kt} {R : Option AV → Hp → Prop} {n : Nat} {ls : List (Option AV)} {st : List AV} {σ : Hp} {k : Nat × Nat} : xe_X4_readNumber ct K R (n + 1) 102 ls st σ k = (xk_X4_readNumber ct K R n 103 ls (vi (3) :: st) σ k) := exS_step.trans rfl
theorem ev_X4_readNumber_103 {ct : Nat → Bool} {K : Kt} {R : Option AV → Hp → Prop} {n : Nat} {ls : List (Option AV)} {st : List AV} {σ : Hp} {k : Nat × Nat} : xe_X4_readNumber ct K R (n + 1) 103 ls st σ k = (xk_X4_readNumber ct K R n 107 ls st σ k) := exS_step.trans rfl
theorem ev_X4_readNumber_106 {ct : Nat → Bool} {K : Kt} {R : Option AV → Hp → Prop} {n : Nat} {ls : List (Option AV)} {st : List AV} {σ : Hp} {k : Nat × Nat} : xe_X4_readNumber ct K R (n + 1) 106 ls st σ k = (xk_X4_readNumber ct K R n 107 ls (vi (1) :: st) σ k) := exS_step.trans rfl
theorem ev_X4_readNumber_107 {ct : Nat → Bool} {K : Kt} {R : Option AV → Hp → Prop} {n : Nat} {ls : List (Option AV)} {st : List AV} {σ : Hp} {k : Nat × Nat} : xe_X4_readNumber ct K R (n + 1) 107 ls st σ k = (oI st fun v st => oR st fun x st => kd σ x = 5 ∧ xk_X4_readNumber ct K R n 110 ls st (pI σ 502 x v) k) := exS_step.trans rfl
theorem ev_X4_readNumber_110 {ct : Nat → Bool} {K : Kt} {R : Option AV → Hp → Prop} {n : Nat} {ls : List (Option AV)} {st : List AV} {σ : Hp} {k : Nat × Nat} : xe_X4_readNumber ct K R (n + 1) 110 ls st σ k = (st = [] ∧ 0 = 0 ∧ R none σ) := exS_step.trans rfl
def M_X4_readNumber : Md := (yX4_readNumber, cX4_readNumber, 1, (none : Option FieldType), 3, 0, 0, 0, false, tb_X4_readNumber, mt_X4_readNumber)
theorem mm_X4_readNumber : MMOK M_X4_readNumber := ⟨by decide +kernel, tk_X4_readNumber, mk_X4_readNumber, rfl, fun h => by cases h⟩
theorem go_X4_readNumber {Q : Option AV → Hp → Prop} {ct : Nat → Bool} {pc : Nat} {ls : List (Option AV)} {st : List AV} {σ : Hp} {k : Nat × Nat} (n : Nat) (h : xe_X4_readNumber ct (Go M_X4_readNumber Q) Q n pc ls st σ k) : Go M_X4_readNumber Q pc ls st σ k := Go.exS mm_X4_readNumber h

set_option maxRecDepth 20000 in
theorem c_X4_readNumber : Ct yX4_readNumber cX4_readNumber 1 ((none : Option FieldType)) 3 0 0 sp_X4_readNumber := by
  refine Ct.go (M := M_X4_readNumber) mm_X4_readNumber fun av σ Q h0 => ?_
  obtain ⟨this, rfl, hk, h⟩ := el_X4_readNumber h0
  clear h0
  refine ⟨Nat.le_of_ble_eq_true rfl, ?_⟩
  show Go M_X4_readNumber Q 0 [some (vr this)] [] σ (0, 0)
  obtain ⟨rfl, hC, hT, hp, h⟩ := h
  generalize er : fI σ 504 26 = q0 at *
  generalize eb : fI σ 503 26 = b0 at *
  generalize ez : fI σ 901 24 = z at *
  generalize eL : aI σ 25 = L at *
  have fin : ∀ (q : Int) (ρ : Hp), (b0 < q ∧ q ≤ z) → ¬ (q < z ∧ 48 ≤ L q ∧ L q ≤ 57) → Fz tkF noR noR σ ρ → fI ρ 503 26 = b0 → fI ρ 504 26 = q → fI ρ 505 26 = nv L b0 (q - b0).toNat → (∀ σ', Fz tkF noR noR σ σ' → fI σ' 503 26 = b0 → fI σ' 504 26 = q → fI σ' 502 26 = (if q - b0 ≤ 4 then 3 else 1) → fI σ' 505 26 = nv L b0 (q - b0).toNat → Q none σ') → Go M_X4_readNumber Q 18 [some (vr 26)] [] ρ (0, 0) := by
    intro q ρ hq hc zz e1 e2 e3 k9
    have C := hC.fz zz (by decide)
    obtain ⟨T, g1, g2⟩ := hT.fz zz (by decide) (fun q => q)
    have hkr : kd ρ 26 = 5 := by simp only [C.eqs]
    have k2 : ∀ v, v = (if q - b0 ≤ 4 then 3 else 1) → Q none (pI ρ 502 26 v) := fun v hv => k9 _ (zz.tr (Fz_pI _ _ _ (by decide))) (by rw [fI_pI, if_neg (by decide)]; exact e1) (by rw [fI_pI, if_neg (by decide)]; exact e2) (by rw [fI_pI, if_pos ⟨rfl, rfl⟩]; exact hv) (by rw [fI_pI, if_neg (by decide)]; exact e3)
    have hl2 := T.l2
    have hLq := T.2 q
    rw [ez] at g1
    rw [eL] at g2
    rw [g2] at hLq hl2
    have hz : 0 ≤ z ∧ z ≤ 1000 := by have := T.1; rw [g1] at this; exact this
    have hqr : inR q := by unfold inR; omega
    clear k9 zz h T e3
    by_cases c1 : q < z
    · have hin : 0 ≤ q ∧ q < z := by omega
      have hn : ¬ (48 ≤ L q ∧ L q ≤ 57) := by omega
      refine go_X4_readNumber (ct := fun p => p == 49) 60 ?_
      simp only [oI, oL, oR, o1, lI, lL, lR, popN, catS, gv, stL, stL2, swt, cnd, spObj, List.getElem?_cons_zero, List.getElem?_cons_succ, List.getD_cons_zero, List.getD_cons_succ, List.set_cons_zero, List.set_cons_succ, List.nil_append, List.cons_append, Option.toList, Bool.or_false, Bool.false_or, Bool.or_true, Bool.true_or, Nat.reduceBEq, Nat.reduceAdd, Nat.reduceLT, Nat.reduceLeDiff, Int.reduceAdd, Int.reduceToNat, true_and, and_true, Fin.isValue, Fin.val_zero, Fin.val_one, Fin.val_two, Fin.reduceFinMk, eq_self, Int.reduceNeg, imp_self, Nat.reduceMul, Nat.le_refl, not_true_eq_false, not_false_eq_true, List.getElem?_nil, reduceCtorEq, true_or, or_true, Classical.not_not, implies_true, or_self, wI_0, wI_1, wI_m1, b2i_w, b2i_eq0, b2i_eq1, b2i_bool, nor_self, nx_pI, kd_pI, ln_pI, fI_pI, fL_pI, fR_pI, aI_pI, aL_pI, aR_pI, nx_pL, kd_pL, ln_pL, fI_pL, fL_pL, fR_pL, aI_pL, aL_pL, aR_pL, nx_pR, kd_pR, ln_pR, fI_pR, fL_pR, fR_pR, aI_pR, aL_pR, aR_pR, nx_qI, kd_qI, ln_qI, fI_qI, fL_qI, fR_qI, aI_qI, aL_qI, aR_qI, nx_qL, kd_qL, ln_qL, fI_qL, fL_qL, fR_qL, aI_qL, aL_qL, aR_qL, nx_qR, kd_qR, ln_qR, fI_qR, fL_qR, fR_qR, aI_qR, aL_qR, aR_qR, nx_mk, kd_mk, ln_mk, fI_mk, fL_mk, fR_mk, aI_mk, aL_mk, aR_mk, false_and, and_false, if_false, if_true, and_self, Int.reduceEq, Nat.reduceEqDiff, ite_self, MLay_pI, MLay_pL, MLay_qI, MLay_qL, ev_X4_readNumber_18, ev_X4_readNumber_19, ev_X4_readNumber_22, ev_X4_readNumber_23, ev_X4_readNumber_26, ev_X4_readNumber_29, ev_X4_readNumber_32, ev_X4_readNumber_33, ev_X4_readNumber_36, ev_X4_readNumber_37, ev_X4_readNumber_40, ev_X4_readNumber_43, ev_X4_readNumber_46, ev_X4_readNumber_49, ev_X4_readNumber_50, ev_X4_readNumber_52, ev_X4_readNumber_53, ev_X4_readNumber_56, ev_X4_readNumber_57, ev_X4_readNumber_58, ev_X4_readNumber_61, ev_X4_readNumber_62, ev_X4_readNumber_65, ev_X4_readNumber_68, ev_X4_readNumber_69, ev_X4_readNumber_71, ev_X4_readNumber_72, ev_X4_readNumber_75, ev_X4_readNumber_76, ev_X4_readNumber_77, ev_X4_readNumber_80, ev_X4_readNumber_81, ev_X4_readNumber_82, ev_X4_readNumber_85, ev_X4_readNumber_88, ev_X4_readNumber_89, ev_X4_readNumber_90, ev_X4_readNumber_93, ev_X4_readNumber_94, ev_X4_readNumber_97, ev_X4_readNumber_98, ev_X4_readNumber_99, ev_X4_readNumber_102, ev_X4_readNumber_103, ev_X4_readNumber_106, ev_X4_readNumber_107, ev_X4_readNumber_110, xt_X4_readNumber, xf_X4_readNumber, us_X8_signAt, us_X4_isNumeral, C, C.eqs, hkr, e1, e2, g1, g2, hl2, hz, hin, hqr]
      try simp (disch := omega) only [wI_id, dv_nn, rm_nn]
      repeat' (first | intro z | apply And.intro)
      all_goals try omega
      all_goals try contradiction
      · exact k2 _ (by rw [if_neg (by omega)])
      · exact k2 _ (by rw [if_pos (by omega)])
    · refine go_X4_readNumber (ct := fun p => p == 32) 60 ?_
      simp only [oI, oL, oR, o1, lI, lL, lR, popN, catS, gv, stL, stL2, swt, cnd, spObj, List.getElem?_cons_zero, List.getElem?_cons_succ, List.getD_cons_zero, List.getD_cons_succ, List.set_cons_zero, List.set_cons_succ, List.nil_append, List.cons_append, Option.toList, Bool.or_false, Bool.false_or, Bool.or_true, Bool.true_or, Nat.reduceBEq, Nat.reduceAdd, Nat.reduceLT, Nat.reduceLeDiff, Int.reduceAdd, Int.reduceToNat, true_and, and_true, Fin.isValue, Fin.val_zero, Fin.val_one, Fin.val_two, Fin.reduceFinMk, eq_self, Int.reduceNeg, imp_self, Nat.reduceMul, Nat.le_refl, not_true_eq_false, not_false_eq_true, List.getElem?_nil, reduceCtorEq, true_or, or_true, Classical.not_not, implies_true, or_self, wI_0, wI_1, wI_m1, b2i_w, b2i_eq0, b2i_eq1, b2i_bool, nor_self, nx_pI, kd_pI, ln_pI, fI_pI, fL_pI, fR_pI, aI_pI, aL_pI, aR_pI, nx_pL, kd_pL, ln_pL, fI_pL, fL_pL, fR_pL, aI_pL, aL_pL, aR_pL, nx_pR, kd_pR, ln_pR, fI_pR, fL_pR, fR_pR, aI_pR, aL_pR, aR_pR, nx_qI, kd_qI, ln_qI, fI_qI, fL_qI, fR_qI, aI_qI, aL_qI, aR_qI, nx_qL, kd_qL, ln_qL, fI_qL, fL_qL, fR_qL, aI_qL, aL_qL, aR_qL, nx_qR, kd_qR, ln_qR, fI_qR, fL_qR, fR_qR, aI_qR, aL_qR, aR_qR, nx_mk, kd_mk, ln_mk, fI_mk, fL_mk, fR_mk, aI_mk, aL_mk, aR_mk, false_and, and_false, if_false, if_true, and_self, Int.reduceEq, Nat.reduceEqDiff, ite_self, MLay_pI, MLay_pL, MLay_qI, MLay_qL, ev_X4_readNumber_18, ev_X4_readNumber_19, ev_X4_readNumber_22, ev_X4_readNumber_23, ev_X4_readNumber_26, ev_X4_readNumber_29, ev_X4_readNumber_32, ev_X4_readNumber_33, ev_X4_readNumber_36, ev_X4_readNumber_37, ev_X4_readNumber_40, ev_X4_readNumber_43, ev_X4_readNumber_46, ev_X4_readNumber_49, ev_X4_readNumber_50, ev_X4_readNumber_52, ev_X4_readNumber_53, ev_X4_readNumber_56, ev_X4_readNumber_57, ev_X4_readNumber_58, ev_X4_readNumber_61, ev_X4_readNumber_62, ev_X4_readNumber_65, ev_X4_readNumber_68, ev_X4_readNumber_69, ev_X4_readNumber_71, ev_X4_readNumber_72, ev_X4_readNumber_75, ev_X4_readNumber_76, ev_X4_readNumber_77, ev_X4_readNumber_80, ev_X4_readNumber_81, ev_X4_readNumber_82, ev_X4_readNumber_85, ev_X4_readNumber_88, ev_X4_readNumber_89, ev_X4_readNumber_90, ev_X4_readNumber_93, ev_X4_readNumber_94, ev_X4_readNumber_97, ev_X4_readNumber_98, ev_X4_readNumber_99, ev_X4_readNumber_102, ev_X4_readNumber_103, ev_X4_readNumber_106, ev_X4_readNumber_107, ev_X4_readNumber_110, xt_X4_readNumber, xf_X4_readNumber, us_X8_signAt, us_X4_isNumeral, C, C.eqs, hkr, e1, e2, g1, g2]
      try simp (disch := omega) only [wI_id, dv_nn, rm_nn]
      repeat' (first | intro z | apply And.intro)
      all_goals try omega
      all_goals try contradiction
      · exact k2 _ (by rw [if_neg (by omega)])
      · exact k2 _ (by rw [if_pos (by omega)])
  have loop : ∀ (n : Nat) (q : Int) (ρ : Hp), b0 < q → q + n = z → Fz tkF noR noR σ ρ → fI ρ 503 26 = b0 → fI ρ 504 26 = q → fI ρ 505 26 = nv L b0 (q - b0).toNat → (∀ σ', Fz tkF noR noR σ σ' → fI σ' 503 26 = b0 → fI σ' 504 26 = rn L z 48 57 n q → fI σ' 502 26 = (if rn L z 48 57 n q - b0 ≤ 4 then 3 else 1) → fI σ' 505 26 = nv L b0 (rn L z 48 57 n q - b0).toNat → Q none σ') → Go M_X4_readNumber Q 18 [some (vr 26)] [] ρ (0, 0) := by
    intro n
    induction n with
    | zero =>
      intro q ρ h1 h2 zz e1 e2 e3 k9
      exact fin q ρ (by omega) (by omega) zz e1 e2 e3 k9
    | succ n ih =>
      intro q ρ h1 h2 zz e1 e2 e3 k9
      unfold rn at k9
      by_cases c : q < z ∧ 48 ≤ L q ∧ L q ≤ 57
      · rw [if_pos c] at k9
        have ih := ih (q + 1) (pI (pI ρ 505 26 (10 * nv L b0 (q - b0).toNat + L q - 48)) 504 26 (q + 1)) (by omega) (by omega) ((zz.tr (Fz_pI _ _ _ (by decide))).tr (Fz_pI _ _ _ (by decide))) (by rw [fI_pI, if_neg (by decide), fI_pI, if_neg (by decide)]; exact e1) (by rw [fI_pI, if_pos ⟨rfl, rfl⟩]) (by
          rw [fI_pI, if_neg (by decide), fI_pI, if_pos ⟨rfl, rfl⟩]
          have e : (q + 1 - b0).toNat = (q - b0).toNat + 1 := by omega
          rw [e]
          show _ = nv L b0 (q - b0).toNat * 10 + L (b0 + ((q - b0).toNat : Nat)) - 48
          rw [show b0 + (((q - b0).toNat : Nat) : Int) = q by omega]
          omega) k9
        have C := hC.fz zz (by decide)
        obtain ⟨T, g1, g2⟩ := hT.fz zz (by decide) (fun q => q)
        have hkr : kd ρ 26 = 5 := by simp only [C.eqs]
        have hl2 := T.l2
        have hLq := T.2 q
        rw [ez] at g1
        rw [eL] at g2
        rw [g2] at hLq hl2
        have hz : 0 ≤ z ∧ z ≤ 1000 := by have := T.1; rw [g1] at this; exact this
        have hqr : inR q := by unfold inR; omega
        have hin : 0 ≤ q ∧ q < z := by omega
        clear k9 zz h T fin
        generalize nv L b0 (q - b0).toNat = nn at *
        refine go_X4_readNumber (ct := fun p => p == 88 || p == 18) 60 ?_
        simp only [oI, oL, oR, o1, lI, lL, lR, popN, catS, gv, stL, stL2, swt, cnd, spObj, List.getElem?_cons_zero, List.getElem?_cons_succ, List.getD_cons_zero, List.getD_cons_succ, List.set_cons_zero, List.set_cons_succ, List.nil_append, List.cons_append, Option.toList, Bool.or_false, Bool.false_or, Bool.or_true, Bool.true_or, Nat.reduceBEq, Nat.reduceAdd, Nat.reduceLT, Nat.reduceLeDiff, Int.reduceAdd, Int.reduceToNat, true_and, and_true, Fin.isValue, Fin.val_zero, Fin.val_one, Fin.val_two, Fin.reduceFinMk, eq_self, Int.reduceNeg, imp_self, Nat.reduceMul, Nat.le_refl, not_true_eq_false, not_false_eq_true, List.getElem?_nil, reduceCtorEq, true_or, or_true, Classical.not_not, implies_true, or_self, wI_0, wI_1, wI_m1, b2i_w, b2i_eq0, b2i_eq1, b2i_bool, nor_self, nx_pI, kd_pI, ln_pI, fI_pI, fL_pI, fR_pI, aI_pI, aL_pI, aR_pI, nx_pL, kd_pL, ln_pL, fI_pL, fL_pL, fR_pL, aI_pL, aL_pL, aR_pL, nx_pR, kd_pR, ln_pR, fI_pR, fL_pR, fR_pR, aI_pR, aL_pR, aR_pR, nx_qI, kd_qI, ln_qI, fI_qI, fL_qI, fR_qI, aI_qI, aL_qI, aR_qI, nx_qL, kd_qL, ln_qL, fI_qL, fL_qL, fR_qL, aI_qL, aL_qL, aR_qL, nx_qR, kd_qR, ln_qR, fI_qR, fL_qR, fR_qR, aI_qR, aL_qR, aR_qR, nx_mk, kd_mk, ln_mk, fI_mk, fL_mk, fR_mk, aI_mk, aL_mk, aR_mk, false_and, and_false, if_false, if_true, and_self, Int.reduceEq, Nat.reduceEqDiff, ite_self, MLay_pI, MLay_pL, MLay_qI, MLay_qL, ev_X4_readNumber_18, ev_X4_readNumber_19, ev_X4_readNumber_22, ev_X4_readNumber_23, ev_X4_readNumber_26, ev_X4_readNumber_29, ev_X4_readNumber_32, ev_X4_readNumber_33, ev_X4_readNumber_36, ev_X4_readNumber_37, ev_X4_readNumber_40, ev_X4_readNumber_43, ev_X4_readNumber_46, ev_X4_readNumber_49, ev_X4_readNumber_50, ev_X4_readNumber_52, ev_X4_readNumber_53, ev_X4_readNumber_56, ev_X4_readNumber_57, ev_X4_readNumber_58, ev_X4_readNumber_61, ev_X4_readNumber_62, ev_X4_readNumber_65, ev_X4_readNumber_68, ev_X4_readNumber_69, ev_X4_readNumber_71, ev_X4_readNumber_72, ev_X4_readNumber_75, ev_X4_readNumber_76, ev_X4_readNumber_77, ev_X4_readNumber_80, ev_X4_readNumber_81, ev_X4_readNumber_82, ev_X4_readNumber_85, xt_X4_readNumber, xf_X4_readNumber, us_X8_signAt, us_X4_isNumeral, C, CLay_pI, C.eqs, hkr, e1, e2, e3, g1, g2, hl2, hz, hin, hqr, c.2]
        try simp (disch := omega) only [wI_id, dv_nn, rm_nn]
        repeat' (first | intro z | apply And.intro)
        all_goals try omega
        all_goals try contradiction
        all_goals exact ih
      · rw [if_neg c] at k9
        exact fin q ρ (by omega) c zz e1 e2 e3 k9
  have w := loop (z - q0).toNat q0 (pI σ 505 26 (L b0 - 48)) (by omega) (by omega) (Fz_pI _ _ _ (by decide)) (by rw [fI_pI, if_neg (by decide)]; exact eb) (by rw [fI_pI, if_neg (by decide)]; exact er) (by
    rw [fI_pI, if_pos ⟨rfl, rfl⟩, show (q0 - b0).toNat = 1 by omega]
    show _ = 0 * 10 + L (b0 + ((0 : Nat) : Int)) - 48
    rw [show b0 + ((0 : Nat) : Int) = b0 by omega]
    omega) (fun σ' a1 a2 a3 a4 a5 => h σ' a1 a2 a3 (by rw [a3]; exact a4) (by rw [a3]; exact a5))
  have hl2 := hT.l2
  have hz := hT.1
  rw [ez] at hz
  rw [eL] at hl2
  have hqr : inR b0 := by unfold inR; omega
  have hin : 0 ≤ b0 ∧ b0 < z := by omega
  clear loop fin h
  refine go_X4_readNumber (ct := fun p => p == 18) 60 ?_
  simp only [oI, oL, oR, o1, lI, lL, lR, popN, catS, gv, stL, stL2, swt, cnd, spObj, List.getElem?_cons_zero, List.getElem?_cons_succ, List.getD_cons_zero, List.getD_cons_succ, List.set_cons_zero, List.set_cons_succ, List.nil_append, List.cons_append, Option.toList, Bool.or_false, Bool.false_or, Bool.or_true, Bool.true_or, Nat.reduceBEq, Nat.reduceAdd, Nat.reduceLT, Nat.reduceLeDiff, Int.reduceAdd, Int.reduceToNat, true_and, and_true, Fin.isValue, Fin.val_zero, Fin.val_one, Fin.val_two, Fin.reduceFinMk, eq_self, Int.reduceNeg, imp_self, Nat.reduceMul, Nat.le_refl, not_true_eq_false, not_false_eq_true, List.getElem?_nil, reduceCtorEq, true_or, or_true, Classical.not_not, implies_true, or_self, wI_0, wI_1, wI_m1, b2i_w, b2i_eq0, b2i_eq1, b2i_bool, nor_self, nx_pI, kd_pI, ln_pI, fI_pI, fL_pI, fR_pI, aI_pI, aL_pI, aR_pI, nx_pL, kd_pL, ln_pL, fI_pL, fL_pL, fR_pL, aI_pL, aL_pL, aR_pL, nx_pR, kd_pR, ln_pR, fI_pR, fL_pR, fR_pR, aI_pR, aL_pR, aR_pR, nx_qI, kd_qI, ln_qI, fI_qI, fL_qI, fR_qI, aI_qI, aL_qI, aR_qI, nx_qL, kd_qL, ln_qL, fI_qL, fL_qL, fR_qL, aI_qL, aL_qL, aR_qL, nx_qR, kd_qR, ln_qR, fI_qR, fL_qR, fR_qR, aI_qR, aL_qR, aR_qR, nx_mk, kd_mk, ln_mk, fI_mk, fL_mk, fR_mk, aI_mk, aL_mk, aR_mk, false_and, and_false, if_false, if_true, and_self, Int.reduceEq, Nat.reduceEqDiff, ite_self, MLay_pI, MLay_pL, MLay_qI, MLay_qL, ev_X4_readNumber_0, ev_X4_readNumber_1, ev_X4_readNumber_2, ev_X4_readNumber_5, ev_X4_readNumber_6, ev_X4_readNumber_9, ev_X4_readNumber_12, ev_X4_readNumber_14, ev_X4_readNumber_15, xt_X4_readNumber, xf_X4_readNumber, us_X8_signAt, us_X4_isNumeral, hC, hC.eqs, hk, eb, ez, eL, hl2, hz, hin, hqr]
  repeat' (first | intro z | apply And.intro)
  all_goals try omega
  all_goals try contradiction
  all_goals exact w

def sp_X4_nextToken : Sp := fun av σ Q => oR av fun this av => av = [] ∧ kd σ this = 5 ∧ (this = 26 ∧ CLay σ ∧ LTT σ ∧ Sgt σ ∧ (0 ≤ fI σ 504 26 ∧ fI σ 504 26 ≤ fI σ 901 24) ∧ ∀ σ', Fz tkF noR noR σ σ' → RD σ' (fI σ 504 26) → Q none σ')
theorem us_X4_nextToken (this : Int) (σ : Hp) (Q : Option AV → Hp → Prop) : sp_X4_nextToken [vr this] σ Q = (kd σ this = 5 ∧ (this = 26 ∧ CLay σ ∧ LTT σ ∧ Sgt σ ∧ (0 ≤ fI σ 504 26 ∧ fI σ 504 26 ≤ fI σ 901 24) ∧ ∀ σ', Fz tkF noR noR σ σ' → RD σ' (fI σ 504 26) → Q none σ')) := propext ⟨fun h => h.2, fun h => ⟨rfl, h⟩⟩
theorem el_X4_nextToken {av : List AV} {σ : Hp} {Q : Option AV → Hp → Prop} (h : sp_X4_nextToken av σ Q) : ∃ (this : Int), av = [vr this] ∧ (kd σ this = 5 ∧ (this = 26 ∧ CLay σ ∧ LTT σ ∧ Sgt σ ∧ (0 ≤ fI σ 504 26 ∧ fI σ 504 26 ≤ fI σ 901 24) ∧ ∀ σ', Fz tkF noR noR σ σ' → RD σ' (fI σ 504 26) → Q none σ')) := by
  obtain ⟨this, a0, rfl, h0⟩ := oR_s h
  obtain ⟨rfl, hz⟩ := h0
  exact ⟨this, rfl, hz⟩
theorem rc_X4_nextToken : ∀ (av : List AV) (σ : Hp) (Q : Option AV → Hp → Prop), sp_X4_nextToken av σ Q → ∃ r tl, av = vr r :: tl ∧ kd σ r = 4 + 1 := fun av σ Q h => by
  obtain ⟨this, rfl, hz, -⟩ := el_X4_nextToken h
  exact ⟨this, _, rfl, hz⟩

def tb_X4_nextToken : Tab := [(0, .aload_n 0, 1, (0, 0, 0, 0)), (1, .aload_n 0, 1, (0, 0, 0, 0)), (2, .getfield 32, 3, (5, 504, 0, 0)), (5, .putfield 29, 3, (5, 503, 0, 0)), (8, .aload_n 0, 1, (0, 0, 0, 0)), (9, .getfield 29, 3, (5, 503, 0, 0)), (12, .aload_n 0, 1, (0, 0, 0, 0)), (13, .getfield 12, 3, (5, 500, 2, 0)), (16, .getfield 143, 3, (9, 901, 0, 0)), (19, .if_icmp .ge 33, 3, (0, 0, 0, 0)), (22, .aload_n 0, 1, (0, 0, 0, 0)), (23, .getfield 12, 3, (5, 500, 2, 0)), (26, .aload_n 0, 1, (0, 0, 0, 0)), (27, .getfield 29, 3, (5, 503, 0, 0)), (30, .invokevirtual 136, 3, (0, 0, 0, 0)), (33, .invokestatic 146, 3, (0, 0, 0, 0)), (36, .ifCond .eq 16, 3, (0, 0, 0, 0)), (39, .aload_n 0, 1, (0, 0, 0, 0)), (40, .dup, 1, (0, 0, 0, 0)), (41, .getfield 29, 3, (5, 503, 0, 0)), (44, .iconst 1, 1, (0, 0, 0, 0)), (45, .iadd, 1, (0, 0, 0, 0)), (46, .putfield 29, 3, (5, 503, 0, 0)), (49, .goto (-41), 3, (0, 0, 0, 0)), (52, .aload_n 0, 1, (0, 0, 0, 0)), (53, .getfield 12, 3, (5, 500, 2, 0)), (56, .aload_n 0, 1, (0, 0, 0, 0)), (57, .getfield 29, 3, (5, 503, 0, 0)), (60, .invokevirtual 136, 3, (0, 0, 0, 0)), (63, .istore_n 1, 1, (0, 0, 0, 0)), (64, .aload_n 0, 1, (0, 0, 0, 0)), (65, .aload_n 0, 1, (0, 0, 0, 0)), (66, .getfield 29, 3, (5, 503, 0, 0)), (69, .iconst 1, 1, (0, 0, 0, 0)), (70, .iadd, 1, (0, 0, 0, 0)), (71, .putfield 32, 3, (5, 504, 0, 0)), (74, .aload_n 0, 1, (0, 0, 0, 0)), (75, .getfield 29, 3, (5, 503, 0, 0)), (78, .aload_n 0, 1, (0, 0, 0, 0)), (79, .getfield 12, 3, (5, 500, 2, 0)), (82, .getfield 143, 3, (9, 901, 0, 0)), (85, .if_icmp .lt 19, 3, (0, 0, 0, 0)), (88, .aload_n 0, 1, (0, 0, 0, 0)), (89, .aload_n 0, 1, (0, 0, 0, 0)), (90, .getfield 29, 3, (5, 503, 0, 0)), (93, .putfield 32, 3, (5, 504, 0, 0)), (96, .aload_n 0, 1, (0, 0, 0, 0)), (97, .iconst 0, 1, (0, 0, 0, 0)), (98, .putfield 25, 3, (5, 502, 0, 0)), (101, .goto 47, 3, (0, 0, 0, 0)), (104, .iload_n 1, 1, (0, 0, 0, 0)), (105, .invokestatic 149, 3, (0, 0, 0, 0)), (108, .ifCond .eq 10, 3, (0, 0, 0, 0)), (111, .aload_n 0, 1, (0, 0, 0, 0)), (112, .invokevirtual 152, 3, (0, 0, 0, 0)), (115, .goto 33, 3, (0, 0, 0, 0)), (118, .iload_n 1, 1, (0, 0, 0, 0)), (119, .invokestatic 155, 3, (0, 0, 0, 0)), (122, .ifCond .eq 10, 3, (0, 0, 0, 0)), (125, .aload_n 0, 1, (0, 0, 0, 0)), (126, .invokevirtual 158, 3, (0, 0, 0, 0)), (129, .goto 19, 3, (0, 0, 0, 0)), (132, .aload_n 0, 1, (0, 0, 0, 0)), (133, .iload_n 1, 1, (0, 0, 0, 0)), (134, .invokestatic 161, 3, (0, 0, 0, 0)), (137, .ifCond .eq 7, 3, (0, 0, 0, 0)), (140, .iconst 4, 1, (0, 0, 0, 0)), (141, .goto 4, 3, (0, 0, 0, 0)), (144, .iconst 1, 1, (0, 0, 0, 0)), (145, .putfield 25, 3, (5, 502, 0, 0)), (148, .return_, 1, (0, 0, 0, 0))]
set_option maxRecDepth 100000 in
theorem tk_X4_nextToken : TOK RX4 false cX4_nextToken tb_X4_nextToken := chkT_ok ft_X4 (by decide +kernel)
theorem rw_X4_1169 : Row RX4 (.invokestatic 146) 3 1 0 0 1 sp_X4_isBlank := row_S c_X4_isBlank ⟨TBL_in 925 (by decide +kernel) rfl, TBL_in 927 (by decide +kernel) rfl, TBL_in 118 (by decide +kernel) rfl, by decide +kernel, by decide⟩ (TBL_in 926 (by decide +kernel) rfl)
theorem rw_X4_1216 : Row RX4 (.invokevirtual 152) 3 1 0 0 3 sp_X4_readWord := row_V (n := 0) (ci := 4) c_X4_readWord ⟨TBL_in 931 (by decide +kernel) rfl, TBL_in 934 (by decide +kernel) rfl, TBL_in 118 (by decide +kernel) rfl, by decide +kernel, by decide⟩ (by decide) rfl (TBL_in 933 (by decide +kernel) rfl) (TBL_in 29 (by decide +kernel) rfl) rc_X4_readWord
theorem rw_X4_1264 : Row RX4 (.invokevirtual 158) 3 1 0 0 3 sp_X4_readNumber := row_V (n := 0) (ci := 4) c_X4_readNumber ⟨TBL_in 938 (by decide +kernel) rfl, TBL_in 941 (by decide +kernel) rfl, TBL_in 118 (by decide +kernel) rfl, by decide +kernel, by decide⟩ (by decide) rfl (TBL_in 940 (by decide +kernel) rfl) (TBL_in 30 (by decide +kernel) rfl) rc_X4_readNumber
theorem rw_X4_1289 : Row RX4 (.invokestatic 161) 3 1 0 0 5 sp_X4_isKnownSign := row_S c_X4_isKnownSign ⟨TBL_in 942 (by decide +kernel) rfl, TBL_in 944 (by decide +kernel) rfl, TBL_in 118 (by decide +kernel) rfl, by decide +kernel, by decide⟩ (TBL_in 943 (by decide +kernel) rfl)
def mt_X4_nextToken : List (Nat × Mt) := [(1088, 2, 0, 0, 1, sp_X8_signAt), (1169, 1, 0, 0, 1, sp_X4_isBlank), (1193, 1, 0, 0, 1, sp_X4_isLetter), (1216, 1, 0, 0, 3, sp_X4_readWord), (1241, 1, 0, 0, 1, sp_X4_isNumeral), (1264, 1, 0, 0, 3, sp_X4_readNumber), (1289, 1, 0, 0, 5, sp_X4_isKnownSign)]
theorem em_X4_nextToken : mt_X4_nextToken.lookup 1088 = some (2, 0, 0, 1, sp_X8_signAt) ∧ mt_X4_nextToken.lookup 1169 = some (1, 0, 0, 1, sp_X4_isBlank) ∧ mt_X4_nextToken.lookup 1193 = some (1, 0, 0, 1, sp_X4_isLetter) ∧ mt_X4_nextToken.lookup 1216 = some (1, 0, 0, 3, sp_X4_readWord) ∧ mt_X4_nextToken.lookup 1241 = some (1, 0, 0, 1, sp_X4_isNumeral) ∧ mt_X4_nextToken.lookup 1264 = some (1, 0, 0, 3, sp_X4_readNumber) ∧ mt_X4_nextToken.lookup 1289 = some (1, 0, 0, 5, sp_X4_isKnownSign) := ⟨rfl, rfl, rfl, rfl, rfl, rfl, rfl⟩
theorem mk_X4_nextToken : MOK RX4 mt_X4_nextToken := by
  intro q hq
  simp only [mt_X4_nextToken, List.mem_cons, List.not_mem_nil, or_false] at hq
  rcases hq with rfl | rfl | rfl | rfl | rfl | rfl | rfl
  · exact rw_X4_1088
  · exact rw_X4_1169
  · exact rw_X4_1193
  · exact rw_X4_1216
  · exact rw_X4_1241
  · exact rw_X4_1264
  · exact rw_X4_1289
noncomputable def xe_X4_nextToken (ct : Nat → Bool) (K : Kt) (R : Option AV → Hp → Prop) (n : Nat) : Kt := exS 2 6 0 0 0 tb_X4_nextToken mt_X4_nextToken ct K R n
noncomputable def xk_X4_nextToken (ct : Nat → Bool) (K : Kt) (R : Option AV → Hp → Prop) (n : Nat) : Kt := exkS 2 6 0 0 0 tb_X4_nextToken mt_X4_nextToken ct K R n
theorem xt_X4_nextToken {ct : Nat → Bool} {K : Kt} {R : Option AV → Hp → Prop} {n pc : Nat} {ls : List (Option AV)} {st : List AV} {σ : Hp} {k : Nat × Nat} (h : ct pc = true) : xk_X4_nextToken ct K R n pc ls st σ k = K pc ls st σ k := by unfold xk_X4_nextToken exkS; rw [h]
theorem xf_X4_nextToken {ct : Nat → Bool} {K : Kt} {R : Option AV → Hp → Prop} {n pc : Nat} {ls : List (Option AV)} {st : List AV} {σ : Hp} {k : Nat × Nat} (h : ct pc = false) : xk_X4_nextToken ct K R n pc ls st σ k = xe_X4_nextToken ct K R n pc ls st σ k := by unfold xk_X4_nextToken exkS xe_X4_nextToken; rw [h]
theorem ev_X4_nextToken_0 {ct : Nat → Bool} {K : Kt} {R : Option AV → Hp → Prop} {n : Nat} {ls : List (Option AV)} {st : List AV} {σ : Hp} {k : Nat × Nat} : xe_X4_nextToken ct K R (n + 1) 0 ls st σ k = (lR ls 0 fun x => xk_X4_nextToken ct K R n 1 ls (vr x :: st) σ k) := exS_step.trans rfl
theorem ev_X4_nextToken_1 {ct : Nat → Bool} {K : Kt} {R : Option AV → Hp → Prop} {n : Nat} {ls : List (Option AV)} {st : List AV} {σ : Hp} {k : Nat × Nat} : xe_X4_nextToken ct K R (n + 1) 1 ls st σ k = (lR ls 0 fun x => xk_X4_nextToken ct K R n 2 ls (vr x :: st) σ k) := exS_step.trans rfl
theorem ev_X4_nextToken_2 {ct : Nat → Bool} {K : Kt} {R : Option AV → Hp → Prop} {n : Nat} {ls : List (Option AV)} {st : List AV} {σ : Hp} {k : Nat × Nat} : xe_X4_nextToken ct K R (n + 1) 2 ls st σ k = (oR st fun x st => kd σ x = 5 ∧ xk_X4_nextToken ct K R n 5 ls (vi (fI σ 504 x) :: st) σ k) := exS_step.trans rfl
theorem ev_X4_nextToken_5 {ct : Nat → Bool} {K : Kt} {R : Option AV → Hp → Prop} {n : Nat} {ls : List (Option AV)} {st : List AV} {σ : Hp} {k : Nat × Nat} : xe_X4_nextToken ct K R (n + 1) 5 ls st σ k = (oI st fun v st => oR st fun x st => kd σ x = 5 ∧ xk_X4_nextToken ct K R n 8 ls st (pI σ 503 x v) k) := exS_step.trans rfl
theorem ev_X4_nextToken_8 {ct : Nat → Bool} {K : Kt} {R : Option AV → Hp → Prop} {n : Nat} {ls : List (Option AV)} {st : List AV} {σ : Hp} {k : Nat × Nat} : xe_X4_nextToken ct K R (n + 1) 8 ls st σ k = (lR ls 0 fun x => xk_X4_nextToken ct K R n 9 ls (vr x :: st) σ k) := exS_step.trans rfl
theorem ev_X4_nextToken_9 {ct : Nat → Bool} {K : Kt} {R : Option AV → Hp → Prop} {n : Nat} {ls : List (Option AV)} {st : List AV} {σ : Hp} {k : Nat × Nat} : xe_X4_nextToken ct K R (n + 1) 9 ls st σ k = (oR st fun x st => kd σ x = 5 ∧ xk_X4_nextToken ct K R n 12 ls (vi (fI σ 503 x) :: st) σ k) := exS_step.trans rfl
theorem ev_X4_nextToken_12 {ct : Nat → Bool} {K : Kt} {R : Option AV → Hp → Prop} {n : Nat} {ls : List (Option AV)} {st : List AV} {σ : Hp} {k : Nat × Nat} : xe_X4_nextToken ct K R (n + 1) 12 ls st σ k = (lR ls 0 fun x => xk_X4_nextToken ct K R n 13 ls (vr x :: st) σ k) := exS_step.trans rfl
theorem ev_X4_nextToken_13 {ct : Nat → Bool} {K : Kt} {R : Option AV → Hp → Prop} {n : Nat} {ls : List (Option AV)} {st : List AV} {σ : Hp} {k : Nat × Nat} : xe_X4_nextToken ct K R (n + 1) 13 ls st σ k = (oR st fun x st => kd σ x = 5 ∧ xk_X4_nextToken ct K R n 16 ls (vr (fR σ 500 x) :: st) σ k) := exS_step.trans rfl
theorem ev_X4_nextToken_16 {ct : Nat → Bool} {K : Kt} {R : Option AV → Hp → Prop} {n : Nat} {ls : List (Option AV)} {st : List AV} {σ : Hp} {k : Nat × Nat} : xe_X4_nextToken ct K R (n + 1) 16 ls st σ k = (oR st fun x st => kd σ x = 9 ∧ xk_X4_nextToken ct K R n 19 ls (vi (fI σ 901 x) :: st) σ k) := exS_step.trans rfl
theorem ev_X4_nextToken_19 {ct : Nat → Bool} {K : Kt} {R : Option AV → Hp → Prop} {n : Nat} {ls : List (Option AV)} {st : List AV} {σ : Hp} {k : Nat × Nat} : xe_X4_nextToken ct K R (n + 1) 19 ls st σ k = (oI st fun y st => oI st fun x st => (wI y ≤ wI x → xk_X4_nextToken ct K R n 52 ls st σ k) ∧ (¬ (wI y ≤ wI x) → xk_X4_nextToken ct K R n 22 ls st σ k)) := exS_step.trans rfl
theorem ev_X4_nextToken_22 {ct : Nat → Bool} {K : Kt} {R : Option AV → Hp → Prop} {n : Nat} {ls : List (Option AV)} {st : List AV} {σ : Hp} {k : Nat × Nat} : xe_X4_nextToken ct K R (n + 1) 22 ls st σ k = (lR ls 0 fun x => xk_X4_nextToken ct K R n 23 ls (vr x :: st) σ k) := exS_step.trans rfl
theorem ev_X4_nextToken_23 {ct : Nat → Bool} {K : Kt} {R : Option AV → Hp → Prop} {n : Nat} {ls : List (Option AV)} {st : List AV} {σ : Hp} {k : Nat × Nat} : xe_X4_nextToken ct K R (n + 1) 23 ls st σ k = (oR st fun x st => kd σ x = 5 ∧ xk_X4_nextToken ct K R n 26 ls (vr (fR σ 500 x) :: st) σ k) := exS_step.trans rfl
theorem ev_X4_nextToken_26 {ct : Nat → Bool} {K : Kt} {R : Option AV → Hp → Prop} {n : Nat} {ls : List (Option AV)} {st : List AV} {σ : Hp} {k : Nat × Nat} : xe_X4_nextToken ct K R (n + 1) 26 ls st σ k = (lR ls 0 fun x => xk_X4_nextToken ct K R n 27 ls (vr x :: st) σ k) := exS_step.trans rfl
theorem ev_X4_nextToken_27 {ct : Nat → Bool} {K : Kt} {R : Option AV → Hp → Prop} {n : Nat} {ls : List (Option AV)} {st : List AV} {σ : Hp} {k : Nat × Nat} : xe_X4_nextToken ct K R (n + 1) 27 ls st σ k = (oR st fun x st => kd σ x = 5 ∧ xk_X4_nextToken ct K R n 30 ls (vi (fI σ 503 x) :: st) σ k) := exS_step.trans rfl
theorem ev_X4_nextToken_30 {ct : Nat → Bool} {K : Kt} {R : Option AV → Hp → Prop} {n : Nat} {ls : List (Option AV)} {st : List AV} {σ : Hp} {k : Nat × Nat} : xe_X4_nextToken ct K R (n + 1) 30 ls st σ k = (popN 2 st [] fun av rest => (catS rest ≤ 8 ∧ 1 < 6 ∧ k.1 + 0 ≤ 0 ∧ k.2 + 0 ≤ 0) ∧ (sp_X8_signAt) av σ fun v σ' => xk_X4_nextToken ct K R n 33 ls (v.toList ++ rest) σ' (k.1 + 0, k.2 + 0)) := exS_step.trans rfl
theorem ev_X4_nextToken_33 {ct : Nat → Bool} {K : Kt} {R : Option AV → Hp → Prop} {n : Nat} {ls : List (Option AV)} {st : List AV} {σ : Hp} {k : Nat × Nat} : xe_X4_nextToken ct K R (n + 1) 33 ls st σ k = (popN 1 st [] fun av rest => (catS rest ≤ 8 ∧ 1 < 6 ∧ k.1 + 0 ≤ 0 ∧ k.2 + 0 ≤ 0) ∧ (sp_X4_isBlank) av σ fun v σ' => xk_X4_nextToken ct K R n 36 ls (v.toList ++ rest) σ' (k.1 + 0, k.2 + 0)) := exS_step.trans rfl
theorem ev_X4_nextToken_36 {ct : Nat → Bool} {K : Kt} {R : Option AV → Hp → Prop} {n : Nat} {ls : List (Option AV)} {st : List AV} {σ : Hp} {k : Nat × Nat} : xe_X4_nextToken ct K R (n + 1) 36 ls st σ k = (oI st fun x st => (wI x = wI 0 → xk_X4_nextToken ct K R n 52 ls st σ k) ∧ (¬ (wI x = wI 0) → xk_X4_nextToken ct K R n 39 ls st σ k)) := exS_step.trans rfl
theorem ev_X4_nextToken_39 {ct : Nat → Bool} {K : Kt} {R : Option AV → Hp → Prop} {n : Nat} {ls : List (Option AV)} {st : List AV} {σ : Hp} {k : Nat × Nat} : xe_X4_nextToken ct K R (n + 1) 39 ls st σ k = (lR ls 0 fun x => xk_X4_nextToken ct K R n 40 ls (vr x :: st) σ k) := exS_step.trans rfl
theorem ev_X4_nextToken_40 {ct : Nat → Bool} {K : Kt} {R : Option AV → Hp → Prop} {n : Nat} {ls : List (Option AV)} {st : List AV} {σ : Hp} {k : Nat × Nat} : xe_X4_nextToken ct K R (n + 1) 40 ls st σ k = (o1 st fun v st => xk_X4_nextToken ct K R n 41 ls (v :: v :: st) σ k) := exS_step.trans rfl
theorem ev_X4_nextToken_41 {ct : Nat → Bool} {K : Kt} {R : Option AV → Hp → Prop} {n : Nat} {ls : List (Option AV)} {st : List AV} {σ : Hp} {k : Nat × Nat} : xe_X4_nextToken ct K R (n + 1) 41 ls st σ k = (oR st fun x st => kd σ x = 5 ∧ xk_X4_nextToken ct K R n 44 ls (vi (fI σ 503 x) :: st) σ k) := exS_step.trans rfl
theorem ev_X4_nextToken_44 {ct : Nat → Bool} {K : Kt} {R : Option AV → Hp → Prop} {n : Nat} {ls : List (Option AV)} {st : List AV} {σ : Hp} {k : Nat × Nat} : xe_X4_nextToken ct K R (n + 1) 44 ls st σ k = (xk_X4_nextToken ct K R n 45 ls (vi (1) :: st) σ k) := exS_step.trans rfl
theorem ev_X4_nextToken_45 {ct : Nat → Bool} {K : Kt} {R : Option AV → Hp → Prop} {n : Nat} {ls : List (Option AV)} {st : List AV} {σ : Hp} {k : Nat × Nat} : xe_X4_nextToken ct K R (n + 1) 45 ls st σ k = (oI st fun y st => oI st fun x st => xk_X4_nextToken ct K R n 46 ls (vi (x + y) :: st) σ k) := exS_step.trans rfl
theorem ev_X4_nextToken_46 {ct : Nat → Bool} {K : Kt} {R : Option AV → Hp → Prop} {n : Nat} {ls : List (Option AV)} {st : List AV} {σ : Hp} {k : Nat × Nat} : xe_X4_nextToken ct K R (n + 1) 46 ls st σ k = (oI st fun v st => oR st fun x st => kd σ x = 5 ∧ xk_X4_nextToken ct K R n 49 ls st (pI σ 503 x v) k) := exS_step.trans rfl
theorem ev_X4_nextToken_49 {ct : Nat → Bool} {K : Kt} {R : Option AV → Hp → Prop} {n : Nat} {ls : List (Option AV)} {st : List AV} {σ : Hp} {k : Nat × Nat} : xe_X4_nextToken ct K R (n + 1) 49 ls st σ k = (xk_X4_nextToken ct K R n 8 ls st σ k) := exS_step.trans rfl
theorem ev_X4_nextToken_52 {ct : Nat → Bool} {K : Kt} {R : Option AV → Hp → Prop} {n : Nat} {ls : List (Option AV)} {st : List AV} {σ : Hp} {k : Nat × Nat} : xe_X4_nextToken ct K R (n + 1) 52 ls st σ k = (lR ls 0 fun x => xk_X4_nextToken ct K R n 53 ls (vr x :: st) σ k) := exS_step.trans rfl
theorem ev_X4_nextToken_53 {ct : Nat → Bool} {K : Kt} {R : Option AV → Hp → Prop} {n : Nat} {ls : List (Option AV)} {st : List AV} {σ : Hp} {k : Nat × Nat} : xe_X4_nextToken ct K R (n + 1) 53 ls st σ k = (oR st fun x st => kd σ x = 5 ∧ xk_X4_nextToken ct K R n 56 ls (vr (fR σ 500 x) :: st) σ k) := exS_step.trans rfl
theorem ev_X4_nextToken_56 {ct : Nat → Bool} {K : Kt} {R : Option AV → Hp → Prop} {n : Nat} {ls : List (Option AV)} {st : List AV} {σ : Hp} {k : Nat × Nat} : xe_X4_nextToken ct K R (n + 1) 56 ls st σ k = (lR ls 0 fun x => xk_X4_nextToken ct K R n 57 ls (vr x :: st) σ k) := exS_step.trans rfl
theorem ev_X4_nextToken_57 {ct : Nat → Bool} {K : Kt} {R : Option AV → Hp → Prop} {n : Nat} {ls : List (Option AV)} {st : List AV} {σ : Hp} {k : Nat × Nat} : xe_X4_nextToken ct K R (n + 1) 57 ls st σ k = (oR st fun x st => kd σ x = 5 ∧ xk_X4_nextToken ct K R n 60 ls (vi (fI σ 503 x) :: st) σ k) := exS_step.trans rfl
theorem ev_X4_nextToken_60 {ct : Nat → Bool} {K : Kt} {R : Option AV → Hp → Prop} {n : Nat} {ls : List (Option AV)} {st : List AV} {σ : Hp} {k : Nat × Nat} : xe_X4_nextToken ct K R (n + 1) 60 ls st σ k = (popN 2 st [] fun av rest => (catS rest ≤ 8 ∧ 1 < 6 ∧ k.1 + 0 ≤ 0 ∧ k.2 + 0 ≤ 0) ∧ (sp_X8_signAt) av σ fun v σ' => xk_X4_nextToken ct K R n 63 ls (v.toList ++ rest) σ' (k.1 + 0, k.2 + 0)) := exS_step.trans rfl
theorem ev_X4_nextToken_63 {ct : Nat → Bool} {K : Kt} {R : Option AV → Hp → Prop} {n : Nat} {ls : List (Option AV)} {st : List AV} {σ : Hp} {k : Nat × Nat} : xe_X4_nextToken ct K R (n + 1) 63 ls st σ k = (oI st fun x st => 1 < 2 ∧ xk_X4_nextToken ct K R n 64 (stL ls 1 (vi x)) st σ k) := exS_step.trans rfl
theorem ev_X4_nextToken_64 {ct : Nat → Bool} {K : Kt} {R : Option AV → Hp → Prop} {n : Nat} {ls : List (Option AV)} {st : List AV} {σ : Hp} {k : Nat × Nat} : xe_X4_nextToken ct K R (n + 1) 64 ls st σ k = (lR ls 0 fun x => xk_X4_nextToken ct K R n 65 ls (vr x :: st) σ k) := exS_step.trans rfl
theorem ev_X4_nextToken_65 {ct : Nat → Bool} {K : Kt} {R : Option AV → Hp → Prop} {n : Nat} {ls : List (Option AV)} {st : List AV} {σ : Hp} {k : Nat × Nat} : xe_X4_nextToken ct K R (n + 1) 65 ls st σ k = (lR ls 0 fun x => xk_X4_nextToken ct K R n 66 ls (vr x :: st) σ k) := exS_step.trans rfl
theorem ev_X4_nextToken_66 {ct : Nat → Bool} {K : Kt} {R : Option AV → Hp → Prop} {n : Nat} {ls : List (Option AV)} {st : List AV} {σ : Hp} {k : Nat × Nat} : xe_X4_nextToken ct K R (n + 1) 66 ls st σ k = (oR st fun x st => kd σ x = 5 ∧ xk_X4_nextToken ct K R n 69 ls (vi (fI σ 503 x) :: st) σ k) := exS_step.trans rfl
theorem ev_X4_nextToken_69 {ct : Nat → Bool} {K : Kt} {R : Option AV → Hp → Prop} {n : Nat} {ls : List (Option AV)} {st : List AV} {σ : Hp} {k : Nat × Nat} : xe_X4_nextToken ct K R (n + 1) 69 ls st σ k = (xk_X4_nextToken ct K R n 70 ls (vi (1) :: st) σ k) := exS_step.trans rfl
theorem ev_X4_nextToken_70 {ct : Nat → Bool} {K : Kt} {R : Option AV → Hp → Prop} {n : Nat} {ls : List (Option AV)} {st : List AV} {σ : Hp} {k : Nat × Nat} : xe_X4_nextToken ct K R (n + 1) 70 ls st σ k = (oI st fun y st => oI st fun x st => xk_X4_nextToken ct K R n 71 ls (vi (x + y) :: st) σ k) := exS_step.trans rfl
theorem ev_X4_nextToken_71 {ct : Nat → Bool} {K : Kt} {R : Option AV → Hp → Prop} {n : Nat} {ls : List (Option AV)} {st : List AV} {σ : Hp} {k : Nat × Nat} : xe_X4_nextToken ct K R (n + 1) 71 ls st σ k = (oI st fun v st => oR st fun x st => kd σ x = 5 ∧ xk_X4_nextToken ct K R n 74 ls st (pI σ 504 x v) k) := exS_step.trans rfl
theorem ev_X4_nextToken_74 {ct : Nat → Bool} {K : Kt} {R : Option AV → Hp → Prop} {n : Nat} {ls : List (Option AV)} {st : List AV} {σ : Hp} {k : Nat × Nat} : xe_X4_nextToken ct K R (n + 1) 74 ls st σ k = (lR ls 0 fun x => xk_X4_nextToken ct K R n 75 ls (vr x :: st) σ k) := exS_step.trans rfl
theorem ev_X4_nextToken_75 {ct : Nat → Bool} {K : Kt} {R : Option AV → Hp → Prop} {n : Nat} {ls : List (Option AV)} {st : List AV} {σ : Hp} {k : Nat × Nat} : xe_X4_nextToken ct K R (n + 1) 75 ls st σ k = (oR st fun x st => kd σ x = 5 ∧ xk_X4_nextToken ct K R n 78 ls (vi (fI σ 503 x) :: st) σ k) := exS_step.trans rfl
theorem ev_X4_nextToken_78 {ct : Nat → Bool} {K : Kt} {R : Option AV → Hp → Prop} {n : Nat} {ls : List (Option AV)} {st : List AV} {σ : Hp} {k : Nat × Nat} : xe_X4_nextToken ct K R (n + 1) 78 ls st σ k = (lR ls 0 fun x => xk_X4_nextToken ct K R n 79 ls (vr x :: st) σ k) := exS_step.trans rfl
theorem ev_X4_nextToken_79 {ct : Nat → Bool} {K : Kt} {R : Option AV → Hp → Prop} {n : Nat} {ls : List (Option AV)} {st : List AV} {σ : Hp} {k : Nat × Nat} : xe_X4_nextToken ct K R (n + 1) 79 ls st σ k = (oR st fun x st => kd σ x = 5 ∧ xk_X4_nextToken ct K R n 82 ls (vr (fR σ 500 x) :: st) σ k) := exS_step.trans rfl
theorem ev_X4_nextToken_82 {ct : Nat → Bool} {K : Kt} {R : Option AV → Hp → Prop} {n : Nat} {ls : List (Option AV)} {st : List AV} {σ : Hp} {k : Nat × Nat} : xe_X4_nextToken ct K R (n + 1) 82 ls st σ k = (oR st fun x st => kd σ x = 9 ∧ xk_X4_nextToken ct K R n 85 ls (vi (fI σ 901 x) :: st) σ k) := exS_step.trans rfl
theorem ev_X4_nextToken_85 {ct : Nat → Bool} {K : Kt} {R : Option AV → Hp → Prop} {n : Nat} {ls : List (Option AV)} {st : List AV} {σ : Hp} {k : Nat × Nat} : xe_X4_nextToken ct K R (n + 1) 85 ls st σ k = (oI st fun y st => oI st fun x st => (wI x < wI y → xk_X4_nextToken ct K R n 104 ls st σ k) ∧ (¬ (wI x < wI y) → xk_X4_nextToken ct K R n 88 ls st σ k)) := exS_step.trans rfl
theorem ev_X4_nextToken_88 {ct : Nat → Bool} {K : Kt} {R : Option AV → Hp → Prop} {n : Nat} {ls : List (Option AV)} {st : List AV} {σ : Hp} {k : Nat × Nat} : xe_X4_nextToken ct K R (n + 1) 88 ls st σ k = (lR ls 0 fun x => xk_X4_nextToken ct K R n 89 ls (vr x :: st) σ k) := exS_step.trans rfl
theorem ev_X4_nextToken_89 {ct : Nat → Bool} {K : Kt} {R : Option AV → Hp → Prop} {n : Nat} {ls : List (Option AV)} {st : List AV} {σ : Hp} {k : Nat × Nat} : xe_X4_nextToken ct K R (n + 1) 89 ls st σ k = (lR ls 0 fun x => xk_X4_nextToken ct K R n 90 ls (vr x :: st) σ k) := exS_step.trans rfl
theorem ev_X4_nextToken_90 {ct : Nat → Bool} {K : Kt} {R : Option AV → Hp → Prop} {n : Nat} {ls : List (Option AV)} {st : List AV} {σ : Hp} {k : Nat × Nat} : xe_X4_nextToken ct K R (n + 1) 90 ls st σ k = (oR st fun x st => kd σ x = 5 ∧ xk_X4_nextToken ct K R n 93 ls (vi (fI σ 503 x) :: st) σ k) := exS_step.trans rfl
theorem ev_X4_nextToken_93 {ct : Nat → Bool} {K : Kt} {R : Option AV → Hp → Prop} {n : Nat} {ls : List (Option AV)} {st : List AV} {σ : Hp} {k : Nat × Nat} : xe_X4_nextToken ct K R (n + 1) 93 ls st σ k = (oI st fun v st => oR st fun x st => kd σ x = 5 ∧ xk_X4_nextToken ct K R n 96 ls st (pI σ 504 x v) k) := exS_step.trans rfl
theorem ev_X4_nextToken_96 {ct : Nat → Bool} {K : Kt} {R : Option AV → Hp → Prop} {n : Nat} {ls : List (Option AV)} {st : List AV} {σ : Hp} {k : Nat × Nat} : xe_X4_nextToken ct K R (n + 1) 96 ls st σ k = (lR ls 0 fun x => xk_X4_nextToken ct K R n 97 ls (vr x :: st) σ k) := exS_step.trans rfl
theorem ev_X4_nextToken_97 {ct : Nat → Bool} {K : Kt} {R : Option AV → Hp → Prop} {n : Nat} {ls : List (Option AV)} {st : List AV} {σ : Hp} {k : Nat × Nat} : xe_X4_nextToken ct K R (n + 1) 97 ls st σ k = (xk_X4_nextToken ct K R n 98 ls (vi (0) :: st) σ k) := exS_step.trans rfl
theorem ev_X4_nextToken_98 {ct : Nat → Bool} {K : Kt} {R : Option AV → Hp → Prop} {n : Nat} {ls : List (Option AV)} {st : List AV} {σ : Hp} {k : Nat × Nat} : xe_X4_nextToken ct K R (n + 1) 98 ls st σ k = (oI st fun v st => oR st fun x st => kd σ x = 5 ∧ xk_X4_nextToken ct K R n 101 ls st (pI σ 502 x v) k) := exS_step.trans rfl
theorem ev_X4_nextToken_101 {ct : Nat → Bool} {K : Kt} {R : Option AV → Hp → Prop} {n : Nat} {ls : List (Option AV)} {st : List AV} {σ : Hp} {k : Nat × Nat} : xe_X4_nextToken ct K R (n + 1) 101 ls st σ k = (xk_X4_nextToken ct K R n 148 ls st σ k) := exS_step.trans rfl
theorem ev_X4_nextToken_104 {ct : Nat → Bool} {K : Kt} {R : Option AV → Hp → Prop} {n : Nat} {ls : List (Option AV)} {st : List AV} {σ : Hp} {k : Nat × Nat} : xe_X4_nextToken ct K R (n + 1) 104 ls st σ k = (lI ls 1 fun x => xk_X4_nextToken ct K R n 105 ls (vi x :: st) σ k) := exS_step.trans rfl
theorem ev_X4_nextToken_105 {ct : Nat → Bool} {K : Kt} {R : Option AV → Hp → Prop} {n : Nat} {ls : List (Option AV)} {st : List AV} {σ : Hp} {k : Nat × Nat} : xe_X4_nextToken ct K R (n + 1) 105 ls st σ k = (popN 1 st [] fun av rest => (catS rest ≤ 8 ∧ 1 < 6 ∧ k.1 + 0 ≤ 0 ∧ k.2 + 0 ≤ 0) ∧ (sp_X4_isLetter) av σ fun v σ' => xk_X4_nextToken ct K R n 108 ls (v.toList ++ rest) σ' (k.1 + 0, k.2 + 0)) := exS_step.trans rfl
theorem ev_X4_nextToken_108 {ct : Nat → Bool} {K : Kt} {R : Option AV → Hp → Prop} {n : Nat} {ls : List (Option AV)} {st : List AV} {σ : Hp} {k : Nat × Nat} : xe_X4_nextToken ct K R (n + 1) 108 ls st σ k = (oI st fun x st => (wI x = wI 0 → xk_X4_nextToken ct K R n 118 ls st σ k) ∧ (¬ (wI x = wI 0) → xk_X4_nextToken ct K R n 111 ls st σ k)) := exS_step.trans rfl
theorem ev_X4_nextToken_111 {ct : Nat → Bool} {K : Kt} {R : Option AV → Hp → Prop} {n : Nat} {ls : List (Option AV)} {st : List AV} {σ : Hp} {k : Nat × Nat} : xe_X4_nextToken ct K R (n + 1) 111 ls st σ k = (lR ls 0 fun x => xk_X4_nextToken ct K R n 112 ls (vr x :: st) σ k) := exS_step.trans rfl
theorem ev_X4_nextToken_112 {ct : Nat → Bool} {K : Kt} {R : Option AV → Hp → Prop} {n : Nat} {ls : List (Option AV)} {st : List AV} {σ : Hp} {k : Nat × Nat} : xe_X4_nextToken ct K R (n + 1) 112 ls st σ k = (popN 1 st [] fun av rest => (catS rest ≤ 8 ∧ 3 < 6 ∧ k.1 + 0 ≤ 0 ∧ k.2 + 0 ≤ 0) ∧ (sp_X4_readWord) av σ fun v σ' => xk_X4_nextToken ct K R n 115 ls (v.toList ++ rest) σ' (k.1 + 0, k.2 + 0)) := exS_step.trans rfl
theorem ev_X4_nextToken_115 {ct : Nat → Bool} {K : Kt} {R : Option AV → Hp → Prop} {n : Nat} {ls : List (Option AV)} {st : List AV} {σ : Hp} {k : Nat × Nat} : xe_X4_nextToken ct K R (n + 1) 115 ls st σ k = (xk_X4_nextToken ct K R n 148 ls st σ k) := exS_step.trans rfl
theorem ev_X4_nextToken_118 {ct : Nat → Bool} {K : Kt} {R : Option AV → Hp → Prop} {n : Nat} {ls : List (Option AV)} {st : List AV} {σ : Hp} {k : Nat × Nat} : xe_X4_nextToken ct K R (n + 1) 118 ls st σ k = (lI ls 1 fun x => xk_X4_nextToken ct K R n 119 ls (vi x :: st) σ k) := exS_step.trans rfl
theorem ev_X4_nextToken_119 {ct : Nat → Bool} {K : Kt} {R : Option AV → Hp → Prop} {n : Nat} {ls : List (Option AV)} {st : List AV} {σ : Hp} {k : Nat × Nat} : xe_X4_nextToken ct K R (n + 1) 119 ls st σ k = (popN 1 st [] fun av rest => (catS rest ≤ 8 ∧ 1 < 6 ∧ k.1 + 0 ≤ 0 ∧ k.2 + 0 ≤ 0) ∧ (sp_X4_isNumeral) av σ fun v σ' => xk_X4_nextToken ct K R n 122 ls (v.toList ++ rest) σ' (k.1 + 0, k.2 + 0)) := exS_step.trans rfl
theorem ev_X4_nextToken_122 {ct : Nat → Bool} {K : Kt} {R : Option AV → Hp → Prop} {n : Nat} {ls : List (Option AV)} {st : List AV} {σ : Hp} {k : Nat × Nat} : xe_X4_nextToken ct K R (n + 1) 122 ls st σ k = (oI st fun x st => (wI x = wI 0 → xk_X4_nextToken ct K R n 132 ls st σ k) ∧ (¬ (wI x = wI 0) → xk_X4_nextToken ct K R n 125 ls st σ k)) := exS_step.trans rfl
theorem ev_X4_nextToken_125 {ct : Nat → Bool} {K : Kt} {R : Option AV → Hp → Prop} {n : Nat} {ls : List (Option AV)} {st : List AV} {σ : Hp} {k : Nat × Nat} : xe_X4_nextToken ct K R (n + 1) 125 ls st σ k = (lR ls 0 fun x => xk_X4_nextToken ct K R n 126 ls (vr x :: st) σ k) := exS_step.trans rfl
theorem ev_X4_nextToken_126 {ct : Nat → Bool} {K : Kt} {R : Option AV → Hp → Prop} {n : Nat} {ls : List (Option AV)} {st : List AV} {σ : Hp} {k : Nat × Nat} : xe_X4_nextToken ct K R (n + 1) 126 ls st σ k = (popN 1 st [] fun av rest => (catS rest ≤ 8 ∧ 3 < 6 ∧ k.1 + 0 ≤ 0 ∧ k.2 + 0 ≤ 0) ∧ (sp_X4_readNumber) av σ fun v σ' => xk_X4_nextToken ct K R n 129 ls (v.toList ++ rest) σ' (k.1 + 0, k.2 + 0)) := exS_step.trans rfl
theorem ev_X4_nextToken_129 {ct : Nat → Bool} {K : Kt} {R : Option AV → Hp → Prop} {n : Nat} {ls : List (Option AV)} {st : List AV} {σ : Hp} {k : Nat × Nat} : xe_X4_nextToken ct K R (n + 1) 129 ls st σ k = (xk_X4_nextToken ct K R n 148 ls st σ k) := exS_step.trans rfl
theorem ev_X4_nextToken_132 {ct : Nat → Bool} {K : Kt} {R : Option AV → Hp → Prop} {n : Nat} {ls : List (Option AV)} {st : List AV} {σ : Hp} {k : Nat × Nat} : xe_X4_nextToken ct K R (n + 1) 132 ls st σ k = (lR ls 0 fun x => xk_X4_nextToken ct K R n 133 ls (vr x :: st) σ k) := exS_step.trans rfl
theorem ev_X4_nextToken_133 {ct : Nat → Bool} {K : Kt} {R : Option AV → Hp → Prop} {n : Nat} {ls : List (Option AV)} {st : List AV} {σ : Hp} {k : Nat × Nat} : xe_X4_nextToken ct K R (n + 1) 133 ls st σ k = (lI ls 1 fun x => xk_X4_nextToken ct K R n 134 ls (vi x :: st) σ k) := exS_step.trans rfl
theorem ev_X4_nextToken_134 {ct : Nat → Bool} {K : Kt} {R : Option AV → Hp → Prop} {n : Nat} {ls : List (Option AV)} {st : List AV} {σ : Hp} {k : Nat × Nat} : xe_X4_nextToken ct K R (n + 1) 134 ls st σ k = (popN 1 st [] fun av rest => (catS rest ≤ 8 ∧ 5 < 6 ∧ k.1 + 0 ≤ 0 ∧ k.2 + 0 ≤ 0) ∧ (sp_X4_isKnownSign) av σ fun v σ' => xk_X4_nextToken ct K R n 137 ls (v.toList ++ rest) σ' (k.1 + 0, k.2 + 0)) := exS_step.trans rfl
theorem ev_X4_nextToken_137 {ct : Nat → Bool} {K : Kt} {R : Option AV → Hp → Prop} {n : Nat} {ls : List (Option AV)} {st : List AV} {σ : Hp} {k : Nat × Nat} : xe_X4_nextToken ct K R (n + 1) 137 ls st σ k = (oI st fun x st => (wI x = wI 0 → xk_X4_nextToken ct K R n 144 ls st σ k) ∧ (¬ (wI x = wI 0) → xk_X4_nextToken ct K R n 140 ls st σ k)) := exS_step.trans rfl
theorem ev_X4_nextToken_140 {ct : Nat → Bool} {K : Kt} {R : Option AV → Hp → Prop} {n : Nat} {ls : List (Option AV)} {st : List AV} {σ : Hp} {k : Nat × Nat} : xe_X4_nextToken ct K R (n + 1) 140 ls st σ k = (xk_X4_nextToken ct K R n 141 ls (vi (4) :: st) σ k) := exS_step.trans rfl
theorem ev_X4_nextToken_141 {ct : Nat → Bool} {K : Kt} {R : Option AV → Hp → Prop} {n : Nat} {ls : List (Option AV)} {st : List AV} {σ : Hp} {k : Nat × Nat} : xe_X4_nextToken ct K R (n + 1) 141 ls st σ k = (xk_X4_nextToken ct K R n 145 ls st σ k) := exS_step.trans rfl
theorem ev_X4_nextToken_144 {ct : Nat → Bool} {K : Kt} {R : Option AV → Hp → Prop} {n : Nat} {ls : List (Option AV)} {st : List AV} {σ : Hp} {k : Nat × Nat} : xe_X4_nextToken ct K R (n + 1) 144 ls st σ k = (xk_X4_nextToken ct K R n 145 ls (vi (1) :: st) σ k) := exS_step.trans rfl
theorem ev_X4_nextToken_145 {ct : Nat → Bool} {K : Kt} {R : Option AV → Hp → Prop} {n : Nat} {ls : List (Option AV)} {st : List AV} {σ : Hp} {k : Nat × Nat} : xe_X4_nextToken ct K R (n + 1) 145 ls st σ k = (oI st fun v st => oR st fun x st => kd σ x = 5 ∧ xk_X4_nextToken ct K R n 148 ls st (pI σ 502 x v) k) := exS_step.trans rfl
theorem ev_X4_nextToken_148 {ct : Nat → Bool} {K : Kt} {R : Option AV → Hp → Prop} {n : Nat} {ls : List (Option AV)} {st : List AV} {σ : Hp} {k : Nat × Nat} : xe_X4_nextToken ct K R (n + 1) 148 ls st σ k = (st = [] ∧ 0 = 0 ∧ R none σ) := exS_step.trans rfl
def M_X4_nextToken : Md := (yX4_nextToken, cX4_nextToken, 2, (none : Option FieldType), 6, 0, 0, 0, false, tb_X4_nextToken, mt_X4_nextToken)
theorem mm_X4_nextToken : MMOK M_X4_nextToken := ⟨by decide +kernel, tk_X4_nextToken, mk_X4_nextToken, rfl, fun h => by cases h⟩
theorem go_X4_nextToken {Q : Option AV → Hp → Prop} {ct : Nat → Bool} {pc : Nat} {ls : List (Option AV)} {st : List AV} {σ : Hp} {k : Nat × Nat} (n : Nat) (h : xe_X4_nextToken ct (Go M_X4_nextToken Q) Q n pc ls st σ k) : Go M_X4_nextToken Q pc ls st σ k := Go.exS mm_X4_nextToken h

set_option maxRecDepth 20000 in
theorem nt_52 {Q : Option AV → Hp → Prop} {σ : Hp} {p b z : Int} {L : Int → Int} (hC : CLay σ) (hT : LTT σ) (hS : Sgt σ) (ez : fI σ 901 24 = z) (eL : aI σ 25 = L) (hp : 0 ≤ p ∧ p ≤ z) (eb : kB L z p = b) (e1 : fI σ 503 26 = b) (a1 : Option AV) (h : ∀ σ', Fz tkF noR noR σ σ' → RD σ' p → Q none σ') : Go M_X4_nextToken Q 52 [some (vr 26), a1] [] σ (0, 0) := by
  have hk : kd σ 26 = 5 := by simp only [hC.eqs]
  have hl2 := hT.l2
  have hLb := hT.2 b
  have hz := hT.1
  rw [ez] at hz
  rw [eL] at hl2 hLb
  have hb := kB_in L hp.2
  rw [eb] at hb
  have hqr : inR b := by unfold inR; omega
  have mk : ∀ σ', Fz tkF noR noR σ σ' → fI σ' 503 26 = b → fI σ' 504 26 = tE L z p → fI σ' 502 26 = km (tK L z p) → (tK L z p = 2 → fI σ' 505 26 = tT L z p) → Q none σ' := fun σ' zz q1 q2 q3 q4 => by
    obtain ⟨T, g1, g2⟩ := hT.fz zz (by decide) (fun q => q)
    refine h σ' zz ⟨T, ?_, ?_, ?_, ?_, ?_⟩ <;> rw [g1, ez] <;> (try rw [g2, eL])
    · exact hp
    · rw [q1, eb]
    · exact q2
    · exact q3
    · exact q4
  by_cases c0 : b < z
  · have hin : 0 ≤ b ∧ b < z := by omega
    have C1 : CLay (pI σ 504 26 (b + 1)) := hC
    have T1 : LTT (pI σ 504 26 (b + 1)) := hT
    have eL1 : aI (pI σ 504 26 (b + 1)) 25 = L := eL
    have ez1 : fI (pI σ 504 26 (b + 1)) 901 24 = z := by rw [fI_pI, if_neg (by decide)]; exact ez
    have p1 : fI (pI σ 504 26 (b + 1)) 503 26 = b := by rw [fI_pI, if_neg (by decide)]; exact e1
    have b1 : fI (pI σ 504 26 (b + 1)) 504 26 = b + 1 := by rw [fI_pI, if_pos ⟨rfl, rfl⟩]
    have z1 : Fz tkF noR noR σ (pI σ 504 26 (b + 1)) := Fz_pI _ _ _ (by decide)
    have k1 : kd (pI σ 504 26 (b + 1)) 26 = 5 := hk
    have w104 : Go M_X4_nextToken Q 104 [some (vr 26), some (vi (L b))] [] (pI σ 504 26 (b + 1)) (0, 0) := by
      have S1 := hS.fz z1 (by decide) (fun r q => absurd q id)
      clear h
      generalize pI σ 504 26 (b + 1) = ρ at *
      have hpb : 0 ≤ b ∧ b + 1 ≤ z := by omega
      by_cases c1 : 97 ≤ L b ∧ L b ≤ 122
      · have tl := tok_lett L (z := z) (p := p) (by rw [eb]; exact c0) (by rw [eb]; exact c1)
        rw [eb] at tl
        have w148 : ∀ σ', Fz tkF noR noR ρ σ' → fI σ' 503 26 = b → fI σ' 504 26 = rn L z 97 122 (z - (b + 1)).toNat (b + 1) → fI σ' 502 26 = (if fI σ' 504 26 - b ≤ 8 then 2 else 1) → Go M_X4_nextToken Q 115 [some (vr 26), some (vi (L b))] [] σ' (0, 0) := fun σ' zz q1 q2 q3 => by
          have w := mk σ' (z1.tr zz) q1 (by rw [tl.1]; exact q2) (by
            rw [q3, q2, ← tl.1, tl.2]
            by_cases c : tE L z p - b ≤ 8
            · rw [if_pos c, if_pos c]; rfl
            · rw [if_neg c, if_neg c]; rfl) (fun q => by
            rw [tl.2] at q
            by_cases c : tE L z p - b ≤ 8
            · rw [if_pos c] at q; exact absurd q (by decide)
            · rw [if_neg c] at q; exact absurd q (by decide))
          refine go_X4_nextToken (ct := fun p => p == 99) 10 ?_
          simp only [oI, oL, oR, o1, lI, lL, lR, popN, catS, gv, stL, stL2, swt, cnd, spObj, List.getElem?_cons_zero, List.getElem?_cons_succ, List.getD_cons_zero, List.getD_cons_succ, List.set_cons_zero, List.set_cons_succ, List.nil_append, List.cons_append, Option.toList, Bool.or_false, Bool.false_or, Bool.or_true, Bool.true_or, Nat.reduceBEq, Nat.reduceAdd, Nat.reduceLT, Nat.reduceLeDiff, Int.reduceAdd, Int.reduceToNat, true_and, and_true, Fin.isValue, Fin.val_zero, Fin.val_one, Fin.val_two, Fin.reduceFinMk, eq_self, Int.reduceNeg, imp_self, Nat.reduceMul, Nat.le_refl, not_true_eq_false, not_false_eq_true, List.getElem?_nil, reduceCtorEq, true_or, or_true, Classical.not_not, implies_true, or_self, wI_0, wI_1, wI_m1, b2i_w, b2i_eq0, b2i_eq1, b2i_bool, nor_self, nx_pI, kd_pI, ln_pI, fI_pI, fL_pI, fR_pI, aI_pI, aL_pI, aR_pI, nx_pL, kd_pL, ln_pL, fI_pL, fL_pL, fR_pL, aI_pL, aL_pL, aR_pL, nx_pR, kd_pR, ln_pR, fI_pR, fL_pR, fR_pR, aI_pR, aL_pR, aR_pR, nx_qI, kd_qI, ln_qI, fI_qI, fL_qI, fR_qI, aI_qI, aL_qI, aR_qI, nx_qL, kd_qL, ln_qL, fI_qL, fL_qL, fR_qL, aI_qL, aL_qL, aR_qL, nx_qR, kd_qR, ln_qR, fI_qR, fL_qR, fR_qR, aI_qR, aL_qR, aR_qR, nx_mk, kd_mk, ln_mk, fI_mk, fL_mk, fR_mk, aI_mk, aL_mk, aR_mk, false_and, and_false, if_false, if_true, and_self, Int.reduceEq, Nat.reduceEqDiff, ite_self, MLay_pI, MLay_pL, MLay_qI, MLay_qL, ev_X4_nextToken_115, ev_X4_nextToken_148, xt_X4_nextToken, xf_X4_nextToken, us_X8_signAt, us_X4_isBlank, us_X4_isLetter, us_X4_readWord, us_X4_isNumeral, us_X4_readNumber, us_X4_isKnownSign]
          repeat' (first | intro z | apply And.intro)
          all_goals try omega
          all_goals try contradiction
          all_goals exact w
        clear mk
        refine go_X4_nextToken (ct := fun p => p == 115 || p == 118) 20 ?_
        simp only [oI, oL, oR, o1, lI, lL, lR, popN, catS, gv, stL, stL2, swt, cnd, spObj, List.getElem?_cons_zero, List.getElem?_cons_succ, List.getD_cons_zero, List.getD_cons_succ, List.set_cons_zero, List.set_cons_succ, List.nil_append, List.cons_append, Option.toList, Bool.or_false, Bool.false_or, Bool.or_true, Bool.true_or, Nat.reduceBEq, Nat.reduceAdd, Nat.reduceLT, Nat.reduceLeDiff, Int.reduceAdd, Int.reduceToNat, true_and, and_true, Fin.isValue, Fin.val_zero, Fin.val_one, Fin.val_two, Fin.reduceFinMk, eq_self, Int.reduceNeg, imp_self, Nat.reduceMul, Nat.le_refl, not_true_eq_false, not_false_eq_true, List.getElem?_nil, reduceCtorEq, true_or, or_true, Classical.not_not, implies_true, or_self, wI_0, wI_1, wI_m1, b2i_w, b2i_eq0, b2i_eq1, b2i_bool, nor_self, nx_pI, kd_pI, ln_pI, fI_pI, fL_pI, fR_pI, aI_pI, aL_pI, aR_pI, nx_pL, kd_pL, ln_pL, fI_pL, fL_pL, fR_pL, aI_pL, aL_pL, aR_pL, nx_pR, kd_pR, ln_pR, fI_pR, fL_pR, fR_pR, aI_pR, aL_pR, aR_pR, nx_qI, kd_qI, ln_qI, fI_qI, fL_qI, fR_qI, aI_qI, aL_qI, aR_qI, nx_qL, kd_qL, ln_qL, fI_qL, fL_qL, fR_qL, aI_qL, aL_qL, aR_qL, nx_qR, kd_qR, ln_qR, fI_qR, fL_qR, fR_qR, aI_qR, aL_qR, aR_qR, nx_mk, kd_mk, ln_mk, fI_mk, fL_mk, fR_mk, aI_mk, aL_mk, aR_mk, false_and, and_false, if_false, if_true, and_self, Int.reduceEq, Nat.reduceEqDiff, ite_self, MLay_pI, MLay_pL, MLay_qI, MLay_qL, ev_X4_nextToken_104, ev_X4_nextToken_105, ev_X4_nextToken_108, ev_X4_nextToken_111, ev_X4_nextToken_112, xt_X4_nextToken, xf_X4_nextToken, us_X8_signAt, us_X4_isBlank, us_X4_isLetter, us_X4_readWord, us_X4_isNumeral, us_X4_readNumber, us_X4_isKnownSign, C1, T1, k1, p1, b1, ez1, eL1, c1]
        repeat' (first | intro z | apply And.intro)
        all_goals try omega
        all_goals try contradiction
        all_goals first | exact w148 _ ‹_› ‹_› ‹_› ‹_› | omega
      · by_cases c2 : 48 ≤ L b ∧ L b ≤ 57
        · have tl := tok_dig L (z := z) (p := p) (by rw [eb]; exact c0) (by rw [eb]; exact c1) (by rw [eb]; exact c2)
          rw [eb] at tl
          have w148 : ∀ σ', Fz tkF noR noR ρ σ' → fI σ' 503 26 = b → fI σ' 504 26 = rn L z 48 57 (z - (b + 1)).toNat (b + 1) → fI σ' 502 26 = (if fI σ' 504 26 - b ≤ 4 then 3 else 1) → fI σ' 505 26 = nv L b (fI σ' 504 26 - b).toNat → Go M_X4_nextToken Q 129 [some (vr 26), some (vi (L b))] [] σ' (0, 0) := fun σ' zz q1 q2 q3 q4 => by
            have w := mk σ' (z1.tr zz) q1 (by rw [tl.1]; exact q2) (by
              rw [q3, q2, ← tl.1, tl.2.1]
              by_cases c : tE L z p - b ≤ 4
              · rw [if_pos c, if_pos c]; rfl
              · rw [if_neg c, if_neg c]; rfl) (fun q => by
              rw [q4, q2, ← tl.1, tl.2.2]
              rw [tl.2.1] at q
              have c : tE L z p - b ≤ 4 := by
                by_cases c : tE L z p - b ≤ 4
                · exact c
                · rw [if_neg c] at q; exact absurd q (by decide)
              rw [show min (tE L z p - b) 4 = tE L z p - b by omega])
            refine go_X4_nextToken (ct := fun p => p == 99) 10 ?_
            simp only [oI, oL, oR, o1, lI, lL, lR, popN, catS, gv, stL, stL2, swt, cnd, spObj, List.getElem?_cons_zero, List.getElem?_cons_succ, List.getD_cons_zero, List.getD_cons_succ, List.set_cons_zero, List.set_cons_succ, List.nil_append, List.cons_append, Option.toList, Bool.or_false, Bool.false_or, Bool.or_true, Bool.true_or, Nat.reduceBEq, Nat.reduceAdd, Nat.reduceLT, Nat.reduceLeDiff, Int.reduceAdd, Int.reduceToNat, true_and, and_true, Fin.isValue, Fin.val_zero, Fin.val_one, Fin.val_two, Fin.reduceFinMk, eq_self, Int.reduceNeg, imp_self, Nat.reduceMul, Nat.le_refl, not_true_eq_false, not_false_eq_true, List.getElem?_nil, reduceCtorEq, true_or, or_true, Classical.not_not, implies_true, or_self, wI_0, wI_1, wI_m1, b2i_w, b2i_eq0, b2i_eq1, b2i_bool, nor_self, nx_pI, kd_pI, ln_pI, fI_pI, fL_pI, fR_pI, aI_pI, aL_pI, aR_pI, nx_pL, kd_pL, ln_pL, fI_pL, fL_pL, fR_pL, aI_pL, aL_pL, aR_pL, nx_pR, kd_pR, ln_pR, fI_pR, fL_pR, fR_pR, aI_pR, aL_pR, aR_pR, nx_qI, kd_qI, ln_qI, fI_qI, fL_qI, fR_qI, aI_qI, aL_qI, aR_qI, nx_qL, kd_qL, ln_qL, fI_qL, fL_qL, fR_qL, aI_qL, aL_qL, aR_qL, nx_qR, kd_qR, ln_qR, fI_qR, fL_qR, fR_qR, aI_qR, aL_qR, aR_qR, nx_mk, kd_mk, ln_mk, fI_mk, fL_mk, fR_mk, aI_mk, aL_mk, aR_mk, false_and, and_false, if_false, if_true, and_self, Int.reduceEq, Nat.reduceEqDiff, ite_self, MLay_pI, MLay_pL, MLay_qI, MLay_qL, ev_X4_nextToken_129, ev_X4_nextToken_148, xt_X4_nextToken, xf_X4_nextToken, us_X8_signAt, us_X4_isBlank, us_X4_isLetter, us_X4_readWord, us_X4_isNumeral, us_X4_readNumber, us_X4_isKnownSign]
            repeat' (first | intro z | apply And.intro)
            all_goals try omega
            all_goals try contradiction
            all_goals exact w
          clear mk
          refine go_X4_nextToken (ct := fun p => p == 111 || p == 129 || p == 132) 20 ?_
          simp only [oI, oL, oR, o1, lI, lL, lR, popN, catS, gv, stL, stL2, swt, cnd, spObj, List.getElem?_cons_zero, List.getElem?_cons_succ, List.getD_cons_zero, List.getD_cons_succ, List.set_cons_zero, List.set_cons_succ, List.nil_append, List.cons_append, Option.toList, Bool.or_false, Bool.false_or, Bool.or_true, Bool.true_or, Nat.reduceBEq, Nat.reduceAdd, Nat.reduceLT, Nat.reduceLeDiff, Int.reduceAdd, Int.reduceToNat, true_and, and_true, Fin.isValue, Fin.val_zero, Fin.val_one, Fin.val_two, Fin.reduceFinMk, eq_self, Int.reduceNeg, imp_self, Nat.reduceMul, Nat.le_refl, not_true_eq_false, not_false_eq_true, List.getElem?_nil, reduceCtorEq, true_or, or_true, Classical.not_not, implies_true, or_self, wI_0, wI_1, wI_m1, b2i_w, b2i_eq0, b2i_eq1, b2i_bool, nor_self, nx_pI, kd_pI, ln_pI, fI_pI, fL_pI, fR_pI, aI_pI, aL_pI, aR_pI, nx_pL, kd_pL, ln_pL, fI_pL, fL_pL, fR_pL, aI_pL, aL_pL, aR_pL, nx_pR, kd_pR, ln_pR, fI_pR, fL_pR, fR_pR, aI_pR, aL_pR, aR_pR, nx_qI, kd_qI, ln_qI, fI_qI, fL_qI, fR_qI, aI_qI, aL_qI, aR_qI, nx_qL, kd_qL, ln_qL, fI_qL, fL_qL, fR_qL, aI_qL, aL_qL, aR_qL, nx_qR, kd_qR, ln_qR, fI_qR, fL_qR, fR_qR, aI_qR, aL_qR, aR_qR, nx_mk, kd_mk, ln_mk, fI_mk, fL_mk, fR_mk, aI_mk, aL_mk, aR_mk, false_and, and_false, if_false, if_true, and_self, Int.reduceEq, Nat.reduceEqDiff, ite_self, MLay_pI, MLay_pL, MLay_qI, MLay_qL, ev_X4_nextToken_104, ev_X4_nextToken_105, ev_X4_nextToken_108, ev_X4_nextToken_111, ev_X4_nextToken_112, ev_X4_nextToken_115, ev_X4_nextToken_118, ev_X4_nextToken_119, ev_X4_nextToken_122, ev_X4_nextToken_125, ev_X4_nextToken_126, xt_X4_nextToken, xf_X4_nextToken, us_X8_signAt, us_X4_isBlank, us_X4_isLetter, us_X4_readWord, us_X4_isNumeral, us_X4_readNumber, us_X4_isKnownSign, C1, T1, k1, p1, b1, ez1, eL1, c2]
          repeat' (first | intro z | apply And.intro)
          all_goals try omega
          all_goals try contradiction
          all_goals first | exact w148 _ ‹_› ‹_› ‹_› ‹_› ‹_› | omega
        · have tl := tok_sgn L (z := z) (p := p) (by rw [eb]; exact c0) (by rw [eb]; exact c1) (by rw [eb]; exact c2)
          rw [eb] at tl
          have w := fun v q => mk (pI ρ 502 26 v) (z1.tr (Fz_pI _ _ _ (by decide))) (by rw [fI_pI, if_neg (by decide)]; exact p1) (by rw [fI_pI, if_neg (by decide), tl.1]; exact b1) (by rw [fI_pI, if_pos ⟨rfl, rfl⟩]; exact q) (fun q9 => by
            by_cases c : sgn (L b)
            · have := tl.2.1 c; omega
            · have := tl.2.2 c; omega)
          clear mk
          by_cases c3 : sgn (L b)
          · have w := w 4 (by rw [tl.2.1 c3]; rfl)
            refine go_X4_nextToken (ct := fun p => p == 111 || p == 125 || p == 144) 20 ?_
            simp only [oI, oL, oR, o1, lI, lL, lR, popN, catS, gv, stL, stL2, swt, cnd, spObj, List.getElem?_cons_zero, List.getElem?_cons_succ, List.getD_cons_zero, List.getD_cons_succ, List.set_cons_zero, List.set_cons_succ, List.nil_append, List.cons_append, Option.toList, Bool.or_false, Bool.false_or, Bool.or_true, Bool.true_or, Nat.reduceBEq, Nat.reduceAdd, Nat.reduceLT, Nat.reduceLeDiff, Int.reduceAdd, Int.reduceToNat, true_and, and_true, Fin.isValue, Fin.val_zero, Fin.val_one, Fin.val_two, Fin.reduceFinMk, eq_self, Int.reduceNeg, imp_self, Nat.reduceMul, Nat.le_refl, not_true_eq_false, not_false_eq_true, List.getElem?_nil, reduceCtorEq, true_or, or_true, Classical.not_not, implies_true, or_self, wI_0, wI_1, wI_m1, b2i_w, b2i_eq0, b2i_eq1, b2i_bool, nor_self, nx_pI, kd_pI, ln_pI, fI_pI, fL_pI, fR_pI, aI_pI, aL_pI, aR_pI, nx_pL, kd_pL, ln_pL, fI_pL, fL_pL, fR_pL, aI_pL, aL_pL, aR_pL, nx_pR, kd_pR, ln_pR, fI_pR, fL_pR, fR_pR, aI_pR, aL_pR, aR_pR, nx_qI, kd_qI, ln_qI, fI_qI, fL_qI, fR_qI, aI_qI, aL_qI, aR_qI, nx_qL, kd_qL, ln_qL, fI_qL, fL_qL, fR_qL, aI_qL, aL_qL, aR_qL, nx_qR, kd_qR, ln_qR, fI_qR, fL_qR, fR_qR, aI_qR, aL_qR, aR_qR, nx_mk, kd_mk, ln_mk, fI_mk, fL_mk, fR_mk, aI_mk, aL_mk, aR_mk, false_and, and_false, if_false, if_true, and_self, Int.reduceEq, Nat.reduceEqDiff, ite_self, MLay_pI, MLay_pL, MLay_qI, MLay_qL, ev_X4_nextToken_104, ev_X4_nextToken_105, ev_X4_nextToken_108, ev_X4_nextToken_111, ev_X4_nextToken_112, ev_X4_nextToken_115, ev_X4_nextToken_118, ev_X4_nextToken_119, ev_X4_nextToken_122, ev_X4_nextToken_125, ev_X4_nextToken_126, ev_X4_nextToken_129, ev_X4_nextToken_132, ev_X4_nextToken_133, ev_X4_nextToken_134, ev_X4_nextToken_137, ev_X4_nextToken_140, ev_X4_nextToken_141, ev_X4_nextToken_144, ev_X4_nextToken_145, ev_X4_nextToken_148, xt_X4_nextToken, xf_X4_nextToken, us_X8_signAt, us_X4_isBlank, us_X4_isLetter, us_X4_readWord, us_X4_isNumeral, us_X4_readNumber, us_X4_isKnownSign, C1, S1, k1, b2i_t c3]
            repeat' (first | intro z | apply And.intro)
            all_goals try omega
            all_goals try contradiction
            all_goals exact w
          · have w := w 1 (by rw [tl.2.2 c3]; rfl)
            refine go_X4_nextToken (ct := fun p => p == 111 || p == 125 || p == 140) 20 ?_
            simp only [oI, oL, oR, o1, lI, lL, lR, popN, catS, gv, stL, stL2, swt, cnd, spObj, List.getElem?_cons_zero, List.getElem?_cons_succ, List.getD_cons_zero, List.getD_cons_succ, List.set_cons_zero, List.set_cons_succ, List.nil_append, List.cons_append, Option.toList, Bool.or_false, Bool.false_or, Bool.or_true, Bool.true_or, Nat.reduceBEq, Nat.reduceAdd, Nat.reduceLT, Nat.reduceLeDiff, Int.reduceAdd, Int.reduceToNat, true_and, and_true, Fin.isValue, Fin.val_zero, Fin.val_one, Fin.val_two, Fin.reduceFinMk, eq_self, Int.reduceNeg, imp_self, Nat.reduceMul, Nat.le_refl, not_true_eq_false, not_false_eq_true, List.getElem?_nil, reduceCtorEq, true_or, or_true, Classical.not_not, implies_true, or_self, wI_0, wI_1, wI_m1, b2i_w, b2i_eq0, b2i_eq1, b2i_bool, nor_self, nx_pI, kd_pI, ln_pI, fI_pI, fL_pI, fR_pI, aI_pI, aL_pI, aR_pI, nx_pL, kd_pL, ln_pL, fI_pL, fL_pL, fR_pL, aI_pL, aL_pL, aR_pL, nx_pR, kd_pR, ln_pR, fI_pR, fL_pR, fR_pR, aI_pR, aL_pR, aR_pR, nx_qI, kd_qI, ln_qI, fI_qI, fL_qI, fR_qI, aI_qI, aL_qI, aR_qI, nx_qL, kd_qL, ln_qL, fI_qL, fL_qL, fR_qL, aI_qL, aL_qL, aR_qL, nx_qR, kd_qR, ln_qR, fI_qR, fL_qR, fR_qR, aI_qR, aL_qR, aR_qR, nx_mk, kd_mk, ln_mk, fI_mk, fL_mk, fR_mk, aI_mk, aL_mk, aR_mk, false_and, and_false, if_false, if_true, and_self, Int.reduceEq, Nat.reduceEqDiff, ite_self, MLay_pI, MLay_pL, MLay_qI, MLay_qL, ev_X4_nextToken_104, ev_X4_nextToken_105, ev_X4_nextToken_108, ev_X4_nextToken_111, ev_X4_nextToken_112, ev_X4_nextToken_115, ev_X4_nextToken_118, ev_X4_nextToken_119, ev_X4_nextToken_122, ev_X4_nextToken_125, ev_X4_nextToken_126, ev_X4_nextToken_129, ev_X4_nextToken_132, ev_X4_nextToken_133, ev_X4_nextToken_134, ev_X4_nextToken_137, ev_X4_nextToken_140, ev_X4_nextToken_141, ev_X4_nextToken_144, ev_X4_nextToken_145, ev_X4_nextToken_148, xt_X4_nextToken, xf_X4_nextToken, us_X8_signAt, us_X4_isBlank, us_X4_isLetter, us_X4_readWord, us_X4_isNumeral, us_X4_readNumber, us_X4_isKnownSign, C1, S1, k1, b2i_f c3]
            repeat' (first | intro z | apply And.intro)
            all_goals try omega
            all_goals try contradiction
            all_goals exact w
    clear mk h T1 p1 b1 k1
    refine go_X4_nextToken (ct := fun p => p == 88 || p == 104) 40 ?_
    simp only [oI, oL, oR, o1, lI, lL, lR, popN, catS, gv, stL, stL2, swt, cnd, spObj, List.getElem?_cons_zero, List.getElem?_cons_succ, List.getD_cons_zero, List.getD_cons_succ, List.set_cons_zero, List.set_cons_succ, List.nil_append, List.cons_append, Option.toList, Bool.or_false, Bool.false_or, Bool.or_true, Bool.true_or, Nat.reduceBEq, Nat.reduceAdd, Nat.reduceLT, Nat.reduceLeDiff, Int.reduceAdd, Int.reduceToNat, true_and, and_true, Fin.isValue, Fin.val_zero, Fin.val_one, Fin.val_two, Fin.reduceFinMk, eq_self, Int.reduceNeg, imp_self, Nat.reduceMul, Nat.le_refl, not_true_eq_false, not_false_eq_true, List.getElem?_nil, reduceCtorEq, true_or, or_true, Classical.not_not, implies_true, or_self, wI_0, wI_1, wI_m1, b2i_w, b2i_eq0, b2i_eq1, b2i_bool, nor_self, nx_pI, kd_pI, ln_pI, fI_pI, fL_pI, fR_pI, aI_pI, aL_pI, aR_pI, nx_pL, kd_pL, ln_pL, fI_pL, fL_pL, fR_pL, aI_pL, aL_pL, aR_pL, nx_pR, kd_pR, ln_pR, fI_pR, fL_pR, fR_pR, aI_pR, aL_pR, aR_pR, nx_qI, kd_qI, ln_qI, fI_qI, fL_qI, fR_qI, aI_qI, aL_qI, aR_qI, nx_qL, kd_qL, ln_qL, fI_qL, fL_qL, fR_qL, aI_qL, aL_qL, aR_qL, nx_qR, kd_qR, ln_qR, fI_qR, fL_qR, fR_qR, aI_qR, aL_qR, aR_qR, nx_mk, kd_mk, ln_mk, fI_mk, fL_mk, fR_mk, aI_mk, aL_mk, aR_mk, false_and, and_false, if_false, if_true, and_self, Int.reduceEq, Nat.reduceEqDiff, ite_self, MLay_pI, MLay_pL, MLay_qI, MLay_qL, ev_X4_nextToken_52, ev_X4_nextToken_53, ev_X4_nextToken_56, ev_X4_nextToken_57, ev_X4_nextToken_60, ev_X4_nextToken_63, ev_X4_nextToken_64, ev_X4_nextToken_65, ev_X4_nextToken_66, ev_X4_nextToken_69, ev_X4_nextToken_70, ev_X4_nextToken_71, ev_X4_nextToken_74, ev_X4_nextToken_75, ev_X4_nextToken_78, ev_X4_nextToken_79, ev_X4_nextToken_82, ev_X4_nextToken_85, xt_X4_nextToken, xf_X4_nextToken, us_X8_signAt, us_X4_isBlank, us_X4_isLetter, us_X4_readWord, us_X4_isNumeral, us_X4_readNumber, us_X4_isKnownSign, hC, hC.eqs, CLay_pI, hk, e1, ez, eL, hl2, hz, hin, hqr]
    try simp (disch := omega) only [wI_id, dv_nn, rm_nn]
    repeat' (first | intro z | apply And.intro)
    all_goals try omega
    all_goals try contradiction
    all_goals exact w104
  · have eb2 : b = z := by omega
    have tl := tok_end L (z := z) (p := p) (by rw [eb]; exact eb2)
    have w := mk (pI (pI (pI σ 504 26 (b + 1)) 504 26 b) 502 26 0) (((Fz_pI _ _ _ (by decide)).tr (Fz_pI _ _ _ (by decide))).tr (Fz_pI _ _ _ (by decide))) (by rw [fI_pI, if_neg (by decide), fI_pI, if_neg (by decide), fI_pI, if_neg (by decide)]; exact e1) (by rw [fI_pI, if_neg (by decide), fI_pI, if_pos ⟨rfl, rfl⟩, tl.1]; exact eb2) (by rw [fI_pI, if_pos ⟨rfl, rfl⟩, tl.2]; rfl) (fun q => by rw [tl.2] at q; omega)
    have hno : ¬ (0 ≤ b ∧ b < z) := by omega
    clear mk h
    refine go_X4_nextToken (ct := fun p => p == 104) 40 ?_
    simp only [oI, oL, oR, o1, lI, lL, lR, popN, catS, gv, stL, stL2, swt, cnd, spObj, List.getElem?_cons_zero, List.getElem?_cons_succ, List.getD_cons_zero, List.getD_cons_succ, List.set_cons_zero, List.set_cons_succ, List.nil_append, List.cons_append, Option.toList, Bool.or_false, Bool.false_or, Bool.or_true, Bool.true_or, Nat.reduceBEq, Nat.reduceAdd, Nat.reduceLT, Nat.reduceLeDiff, Int.reduceAdd, Int.reduceToNat, true_and, and_true, Fin.isValue, Fin.val_zero, Fin.val_one, Fin.val_two, Fin.reduceFinMk, eq_self, Int.reduceNeg, imp_self, Nat.reduceMul, Nat.le_refl, not_true_eq_false, not_false_eq_true, List.getElem?_nil, reduceCtorEq, true_or, or_true, Classical.not_not, implies_true, or_self, wI_0, wI_1, wI_m1, b2i_w, b2i_eq0, b2i_eq1, b2i_bool, nor_self, nx_pI, kd_pI, ln_pI, fI_pI, fL_pI, fR_pI, aI_pI, aL_pI, aR_pI, nx_pL, kd_pL, ln_pL, fI_pL, fL_pL, fR_pL, aI_pL, aL_pL, aR_pL, nx_pR, kd_pR, ln_pR, fI_pR, fL_pR, fR_pR, aI_pR, aL_pR, aR_pR, nx_qI, kd_qI, ln_qI, fI_qI, fL_qI, fR_qI, aI_qI, aL_qI, aR_qI, nx_qL, kd_qL, ln_qL, fI_qL, fL_qL, fR_qL, aI_qL, aL_qL, aR_qL, nx_qR, kd_qR, ln_qR, fI_qR, fL_qR, fR_qR, aI_qR, aL_qR, aR_qR, nx_mk, kd_mk, ln_mk, fI_mk, fL_mk, fR_mk, aI_mk, aL_mk, aR_mk, false_and, and_false, if_false, if_true, and_self, Int.reduceEq, Nat.reduceEqDiff, ite_self, MLay_pI, MLay_pL, MLay_qI, MLay_qL, ev_X4_nextToken_52, ev_X4_nextToken_53, ev_X4_nextToken_56, ev_X4_nextToken_57, ev_X4_nextToken_60, ev_X4_nextToken_63, ev_X4_nextToken_64, ev_X4_nextToken_65, ev_X4_nextToken_66, ev_X4_nextToken_69, ev_X4_nextToken_70, ev_X4_nextToken_71, ev_X4_nextToken_74, ev_X4_nextToken_75, ev_X4_nextToken_78, ev_X4_nextToken_79, ev_X4_nextToken_82, ev_X4_nextToken_85, ev_X4_nextToken_88, ev_X4_nextToken_89, ev_X4_nextToken_90, ev_X4_nextToken_93, ev_X4_nextToken_96, ev_X4_nextToken_97, ev_X4_nextToken_98, ev_X4_nextToken_101, ev_X4_nextToken_148, xt_X4_nextToken, xf_X4_nextToken, us_X8_signAt, us_X4_isBlank, us_X4_isLetter, us_X4_readWord, us_X4_isNumeral, us_X4_readNumber, us_X4_isKnownSign, hC, hC.eqs, CLay_pI, hk, e1, ez, eL, hl2, hz, hqr]
    try simp (disch := omega) only [wI_id, dv_nn, rm_nn]
    repeat' (first | intro z | apply And.intro)
    all_goals try omega
    all_goals try contradiction
    all_goals exact w

set_option maxRecDepth 20000 in
theorem c_X4_nextToken : Ct yX4_nextToken cX4_nextToken 2 ((none : Option FieldType)) 6 0 0 sp_X4_nextToken := by
  refine Ct.go (M := M_X4_nextToken) mm_X4_nextToken fun av σ Q h0 => ?_
  obtain ⟨this, rfl, hk, h⟩ := el_X4_nextToken h0
  clear h0
  refine ⟨Nat.le_of_ble_eq_true rfl, ?_⟩
  show Go M_X4_nextToken Q 0 [some (vr this), none] [] σ (0, 0)
  obtain ⟨rfl, hC, hT, hS, hp, h⟩ := h
  generalize er : fI σ 504 26 = p at *
  generalize ez : fI σ 901 24 = z at *
  generalize eL : aI σ 25 = L at *
  have fin : ∀ (ρ : Hp), Fz tkF noR noR σ ρ → fI ρ 503 26 = kB L z p → Go M_X4_nextToken Q 52 [some (vr 26), none] [] ρ (0, 0) := fun ρ zz e1 => by
    obtain ⟨T, g1, g2⟩ := hT.fz zz (by decide) (fun q => q)
    exact nt_52 (hC.fz zz (by decide)) T (hS.fz zz (by decide) (fun r q => absurd q id)) (g1.trans ez) (g2.trans eL) hp rfl e1 none (fun σ' z2 q => h σ' (zz.tr z2) q)
  have loop : ∀ (n : Nat) (q : Int) (ρ : Hp), p ≤ q → q + n = z → Fz tkF noR noR σ ρ → fI ρ 503 26 = q → skp L z n q = kB L z p → Go M_X4_nextToken Q 8 [some (vr 26), none] [] ρ (0, 0) := by
    intro n
    induction n with
    | zero =>
      intro q ρ h1 h2 zz e1 e2
      have C := hC.fz zz (by decide)
      obtain ⟨T, g1, g2⟩ := hT.fz zz (by decide) (fun q => q)
      have hkr : kd ρ 26 = 5 := by simp only [C.eqs]
      have w := fin ρ zz (e1.trans e2)
      rw [ez] at g1
      have hz := T.1
      rw [g1] at hz
      clear fin h T zz
      refine go_X4_nextToken (ct := fun p => p == 22 || p == 52) 40 ?_
      simp only [oI, oL, oR, o1, lI, lL, lR, popN, catS, gv, stL, stL2, swt, cnd, spObj, List.getElem?_cons_zero, List.getElem?_cons_succ, List.getD_cons_zero, List.getD_cons_succ, List.set_cons_zero, List.set_cons_succ, List.nil_append, List.cons_append, Option.toList, Bool.or_false, Bool.false_or, Bool.or_true, Bool.true_or, Nat.reduceBEq, Nat.reduceAdd, Nat.reduceLT, Nat.reduceLeDiff, Int.reduceAdd, Int.reduceToNat, true_and, and_true, Fin.isValue, Fin.val_zero, Fin.val_one, Fin.val_two, Fin.reduceFinMk, eq_self, Int.reduceNeg, imp_self, Nat.reduceMul, Nat.le_refl, not_true_eq_false, not_false_eq_true, List.getElem?_nil, reduceCtorEq, true_or, or_true, Classical.not_not, implies_true, or_self, wI_0, wI_1, wI_m1, b2i_w, b2i_eq0, b2i_eq1, b2i_bool, nor_self, nx_pI, kd_pI, ln_pI, fI_pI, fL_pI, fR_pI, aI_pI, aL_pI, aR_pI, nx_pL, kd_pL, ln_pL, fI_pL, fL_pL, fR_pL, aI_pL, aL_pL, aR_pL, nx_pR, kd_pR, ln_pR, fI_pR, fL_pR, fR_pR, aI_pR, aL_pR, aR_pR, nx_qI, kd_qI, ln_qI, fI_qI, fL_qI, fR_qI, aI_qI, aL_qI, aR_qI, nx_qL, kd_qL, ln_qL, fI_qL, fL_qL, fR_qL, aI_qL, aL_qL, aR_qL, nx_qR, kd_qR, ln_qR, fI_qR, fL_qR, fR_qR, aI_qR, aL_qR, aR_qR, nx_mk, kd_mk, ln_mk, fI_mk, fL_mk, fR_mk, aI_mk, aL_mk, aR_mk, false_and, and_false, if_false, if_true, and_self, Int.reduceEq, Nat.reduceEqDiff, ite_self, MLay_pI, MLay_pL, MLay_qI, MLay_qL, ev_X4_nextToken_8, ev_X4_nextToken_9, ev_X4_nextToken_12, ev_X4_nextToken_13, ev_X4_nextToken_16, ev_X4_nextToken_19, xt_X4_nextToken, xf_X4_nextToken, us_X8_signAt, us_X4_isBlank, us_X4_isLetter, us_X4_readWord, us_X4_isNumeral, us_X4_readNumber, us_X4_isKnownSign, C.eqs, hkr, e1, g1]
      try simp (disch := omega) only [wI_id, dv_nn, rm_nn]
      repeat' (first | intro z | apply And.intro)
      all_goals try omega
      all_goals try contradiction
      all_goals exact w
    | succ n ih =>
      intro q ρ h1 h2 zz e1 e2
      unfold skp at e2
      have C := hC.fz zz (by decide)
      obtain ⟨T, g1, g2⟩ := hT.fz zz (by decide) (fun q => q)
      have hkr : kd ρ 26 = 5 := by simp only [C.eqs]
      have hl2 := T.l2
      have hLq := T.2 q
      rw [ez] at g1
      rw [eL] at g2
      rw [g2] at hLq hl2
      have hz : 0 ≤ z ∧ z ≤ 1000 := by have := T.1; rw [g1] at this; exact this
      have hqr : inR q := by unfold inR; omega
      by_cases c : q < z ∧ (L q = 32 ∨ L q = 10)
      · rw [if_pos c] at e2
        have w := ih (q + 1) (pI ρ 503 26 (q + 1)) (by omega) (by omega) (zz.tr (Fz_pI _ _ _ (by decide))) (by rw [fI_pI, if_pos ⟨rfl, rfl⟩]) e2
        have hin : 0 ≤ q ∧ q < z := by omega
        clear ih fin h T zz
        refine go_X4_nextToken (ct := fun p => p == 52 || p == 8) 40 ?_
        simp only [oI, oL, oR, o1, lI, lL, lR, popN, catS, gv, stL, stL2, swt, cnd, spObj, List.getElem?_cons_zero, List.getElem?_cons_succ, List.getD_cons_zero, List.getD_cons_succ, List.set_cons_zero, List.set_cons_succ, List.nil_append, List.cons_append, Option.toList, Bool.or_false, Bool.false_or, Bool.or_true, Bool.true_or, Nat.reduceBEq, Nat.reduceAdd, Nat.reduceLT, Nat.reduceLeDiff, Int.reduceAdd, Int.reduceToNat, true_and, and_true, Fin.isValue, Fin.val_zero, Fin.val_one, Fin.val_two, Fin.reduceFinMk, eq_self, Int.reduceNeg, imp_self, Nat.reduceMul, Nat.le_refl, not_true_eq_false, not_false_eq_true, List.getElem?_nil, reduceCtorEq, true_or, or_true, Classical.not_not, implies_true, or_self, wI_0, wI_1, wI_m1, b2i_w, b2i_eq0, b2i_eq1, b2i_bool, nor_self, nx_pI, kd_pI, ln_pI, fI_pI, fL_pI, fR_pI, aI_pI, aL_pI, aR_pI, nx_pL, kd_pL, ln_pL, fI_pL, fL_pL, fR_pL, aI_pL, aL_pL, aR_pL, nx_pR, kd_pR, ln_pR, fI_pR, fL_pR, fR_pR, aI_pR, aL_pR, aR_pR, nx_qI, kd_qI, ln_qI, fI_qI, fL_qI, fR_qI, aI_qI, aL_qI, aR_qI, nx_qL, kd_qL, ln_qL, fI_qL, fL_qL, fR_qL, aI_qL, aL_qL, aR_qL, nx_qR, kd_qR, ln_qR, fI_qR, fL_qR, fR_qR, aI_qR, aL_qR, aR_qR, nx_mk, kd_mk, ln_mk, fI_mk, fL_mk, fR_mk, aI_mk, aL_mk, aR_mk, false_and, and_false, if_false, if_true, and_self, Int.reduceEq, Nat.reduceEqDiff, ite_self, MLay_pI, MLay_pL, MLay_qI, MLay_qL, ev_X4_nextToken_8, ev_X4_nextToken_9, ev_X4_nextToken_12, ev_X4_nextToken_13, ev_X4_nextToken_16, ev_X4_nextToken_19, ev_X4_nextToken_22, ev_X4_nextToken_23, ev_X4_nextToken_26, ev_X4_nextToken_27, ev_X4_nextToken_30, ev_X4_nextToken_33, ev_X4_nextToken_36, ev_X4_nextToken_39, ev_X4_nextToken_40, ev_X4_nextToken_41, ev_X4_nextToken_44, ev_X4_nextToken_45, ev_X4_nextToken_46, ev_X4_nextToken_49, xt_X4_nextToken, xf_X4_nextToken, us_X8_signAt, us_X4_isBlank, us_X4_isLetter, us_X4_readWord, us_X4_isNumeral, us_X4_readNumber, us_X4_isKnownSign, C, C.eqs, hkr, e1, g1, g2, hl2, hz, hin, hqr, b2i_t c.2]
        try simp (disch := omega) only [wI_id, dv_nn, rm_nn]
        repeat' (first | intro z | apply And.intro)
        all_goals try omega
        all_goals try contradiction
        all_goals exact w
      · rw [if_neg c] at e2
        have w := fin ρ zz (e1.trans e2)
        have hin : 0 ≤ q ∧ q < z := by omega
        have c2 : ¬ (L q = 32 ∨ L q = 10) := fun y => c ⟨hin.2, y⟩
        clear ih fin h T zz
        refine go_X4_nextToken (ct := fun p => p == 52 || p == 39) 40 ?_
        simp only [oI, oL, oR, o1, lI, lL, lR, popN, catS, gv, stL, stL2, swt, cnd, spObj, List.getElem?_cons_zero, List.getElem?_cons_succ, List.getD_cons_zero, List.getD_cons_succ, List.set_cons_zero, List.set_cons_succ, List.nil_append, List.cons_append, Option.toList, Bool.or_false, Bool.false_or, Bool.or_true, Bool.true_or, Nat.reduceBEq, Nat.reduceAdd, Nat.reduceLT, Nat.reduceLeDiff, Int.reduceAdd, Int.reduceToNat, true_and, and_true, Fin.isValue, Fin.val_zero, Fin.val_one, Fin.val_two, Fin.reduceFinMk, eq_self, Int.reduceNeg, imp_self, Nat.reduceMul, Nat.le_refl, not_true_eq_false, not_false_eq_true, List.getElem?_nil, reduceCtorEq, true_or, or_true, Classical.not_not, implies_true, or_self, wI_0, wI_1, wI_m1, b2i_w, b2i_eq0, b2i_eq1, b2i_bool, nor_self, nx_pI, kd_pI, ln_pI, fI_pI, fL_pI, fR_pI, aI_pI, aL_pI, aR_pI, nx_pL, kd_pL, ln_pL, fI_pL, fL_pL, fR_pL, aI_pL, aL_pL, aR_pL, nx_pR, kd_pR, ln_pR, fI_pR, fL_pR, fR_pR, aI_pR, aL_pR, aR_pR, nx_qI, kd_qI, ln_qI, fI_qI, fL_qI, fR_qI, aI_qI, aL_qI, aR_qI, nx_qL, kd_qL, ln_qL, fI_qL, fL_qL, fR_qL, aI_qL, aL_qL, aR_qL, nx_qR, kd_qR, ln_qR, fI_qR, fL_qR, fR_qR, aI_qR, aL_qR, aR_qR, nx_mk, kd_mk, ln_mk, fI_mk, fL_mk, fR_mk, aI_mk, aL_mk, aR_mk, false_and, and_false, if_false, if_true, and_self, Int.reduceEq, Nat.reduceEqDiff, ite_self, MLay_pI, MLay_pL, MLay_qI, MLay_qL, ev_X4_nextToken_8, ev_X4_nextToken_9, ev_X4_nextToken_12, ev_X4_nextToken_13, ev_X4_nextToken_16, ev_X4_nextToken_19, ev_X4_nextToken_22, ev_X4_nextToken_23, ev_X4_nextToken_26, ev_X4_nextToken_27, ev_X4_nextToken_30, ev_X4_nextToken_33, ev_X4_nextToken_36, ev_X4_nextToken_39, ev_X4_nextToken_40, ev_X4_nextToken_41, ev_X4_nextToken_44, ev_X4_nextToken_45, ev_X4_nextToken_46, ev_X4_nextToken_49, xt_X4_nextToken, xf_X4_nextToken, us_X8_signAt, us_X4_isBlank, us_X4_isLetter, us_X4_readWord, us_X4_isNumeral, us_X4_readNumber, us_X4_isKnownSign, C, C.eqs, hkr, e1, g1, g2, hl2, hz, hin, hqr, b2i_f c2]
        try simp (disch := omega) only [wI_id, dv_nn, rm_nn]
        repeat' (first | intro z | apply And.intro)
        all_goals try omega
        all_goals try contradiction
        all_goals exact w
  have w := loop (z - p).toNat p (pI σ 503 26 p) (by omega) (by omega) (Fz_pI _ _ _ (by decide)) (by rw [fI_pI, if_pos ⟨rfl, rfl⟩]) rfl
  clear loop fin h
  refine go_X4_nextToken (ct := fun p => p == 8) 40 ?_
  simp only [oI, oL, oR, o1, lI, lL, lR, popN, catS, gv, stL, stL2, swt, cnd, spObj, List.getElem?_cons_zero, List.getElem?_cons_succ, List.getD_cons_zero, List.getD_cons_succ, List.set_cons_zero, List.set_cons_succ, List.nil_append, List.cons_append, Option.toList, Bool.or_false, Bool.false_or, Bool.or_true, Bool.true_or, Nat.reduceBEq, Nat.reduceAdd, Nat.reduceLT, Nat.reduceLeDiff, Int.reduceAdd, Int.reduceToNat, true_and, and_true, Fin.isValue, Fin.val_zero, Fin.val_one, Fin.val_two, Fin.reduceFinMk, eq_self, Int.reduceNeg, imp_self, Nat.reduceMul, Nat.le_refl, not_true_eq_false, not_false_eq_true, List.getElem?_nil, reduceCtorEq, true_or, or_true, Classical.not_not, implies_true, or_self, wI_0, wI_1, wI_m1, b2i_w, b2i_eq0, b2i_eq1, b2i_bool, nor_self, nx_pI, kd_pI, ln_pI, fI_pI, fL_pI, fR_pI, aI_pI, aL_pI, aR_pI, nx_pL, kd_pL, ln_pL, fI_pL, fL_pL, fR_pL, aI_pL, aL_pL, aR_pL, nx_pR, kd_pR, ln_pR, fI_pR, fL_pR, fR_pR, aI_pR, aL_pR, aR_pR, nx_qI, kd_qI, ln_qI, fI_qI, fL_qI, fR_qI, aI_qI, aL_qI, aR_qI, nx_qL, kd_qL, ln_qL, fI_qL, fL_qL, fR_qL, aI_qL, aL_qL, aR_qL, nx_qR, kd_qR, ln_qR, fI_qR, fL_qR, fR_qR, aI_qR, aL_qR, aR_qR, nx_mk, kd_mk, ln_mk, fI_mk, fL_mk, fR_mk, aI_mk, aL_mk, aR_mk, false_and, and_false, if_false, if_true, and_self, Int.reduceEq, Nat.reduceEqDiff, ite_self, MLay_pI, MLay_pL, MLay_qI, MLay_qL, ev_X4_nextToken_0, ev_X4_nextToken_1, ev_X4_nextToken_2, ev_X4_nextToken_5, xt_X4_nextToken, xf_X4_nextToken, us_X8_signAt, us_X4_isBlank, us_X4_isLetter, us_X4_readWord, us_X4_isNumeral, us_X4_readNumber, us_X4_isKnownSign, hk, er]
  repeat' (first | intro z | apply And.intro)
  all_goals try omega
  all_goals try contradiction
  all_goals exact w
