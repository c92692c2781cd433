/-! the card reader: words, signs -/

theorem rn_all (L : Int → Int) (z lo hi : Int) : ∀ (n : Nat) (p j : Int), p ≤ j → j < rn L z lo hi n p → lo ≤ L j ∧ L j ≤ hi
  | 0, p, j, a, b => by unfold rn at b; omega
  | n + 1, p, j, a, b => by
    unfold rn at b
    split at b
    · by_cases e : j = p
      · subst e; rename_i q; exact q.2
      · exact rn_all L z lo hi n (p + 1) j (by omega) b
    · omega
theorem wv_pos {L : Int → Int} {b : Int} : ∀ n : Nat, (∀ i : Int, 0 ≤ i → i < n → 97 ≤ L (b + i) ∧ L (b + i) ≤ 122) → 0 ≤ wv L b n ∧ wv L b n < 27 ^ n ∧ (0 < n → 1 ≤ wv L b n)
  | 0, _ => by unfold wv; omega
  | n + 1, h => by
    have ih := wv_pos n (fun i a c => h i a (by omega))
    have h2 := h n (by omega) (by omega)
    have hp : (27 : Int) ^ (n + 1) = 27 * 27 ^ n := by rw [Int.pow_succ, Int.mul_comm]
    unfold wv
    omega
theorem p27 : ∀ n : Nat, n ≤ 8 → (27 : Int) ^ n ≤ 282429536481
  | 0, _ => by decide
  | 1, _ => by decide
  | 2, _ => by decide
  | 3, _ => by decide
  | 4, _ => by decide
  | 5, _ => by decide
  | 6, _ => by decide
  | 7, _ => by decide
  | 8, _ => by decide
  | n + 9, h => by omega
theorem wv_inj {L T : Int → Int} {b c : Int} : ∀ n m : Nat, (∀ i : Int, 0 ≤ i → i < n → 97 ≤ L (b + i) ∧ L (b + i) ≤ 122) → (∀ i : Int, 0 ≤ i → i < m → 97 ≤ T (c + i) ∧ T (c + i) ≤ 122) → wv L b n = wv T c m → n = m ∧ ∀ i : Int, 0 ≤ i → i < n → L (b + i) = T (c + i)
  | 0, 0, _, _, _ => ⟨rfl, fun i a q => by omega⟩
  | 0, m + 1, _, h2, e => by
    have := (wv_pos (m + 1) h2).2.2 (by omega)
    rw [← e] at this
    unfold wv at this
    omega
  | n + 1, 0, h1, _, e => by
    have := (wv_pos (n + 1) h1).2.2 (by omega)
    rw [e] at this
    unfold wv at this
    omega
  | n + 1, m + 1, h1, h2, e => by
    have ih := wv_inj n m (fun i a q => h1 i a (by omega)) (fun i a q => h2 i a (by omega))
    have a1 := h1 n (by omega) (by omega)
    have a2 := h2 m (by omega) (by omega)
    unfold wv at e
    have e1 : wv L b n = wv T c m := by omega
    have e2 : L (b + n) = T (c + m) := by omega
    have ih := ih e1
    refine ⟨by omega, fun i q1 q2 => ?_⟩
    by_cases z : i = n
    · have z2 : (m : Int) = n := by omega
      rw [z, e2, z2]
    · exact ih.2 i q1 (by omega)
theorem wv_congr {L T : Int → Int} {b c : Int} : ∀ n : Nat, (∀ i : Int, 0 ≤ i → i < n → L (b + i) = T (c + i)) → wv L b n = wv T c n
  | 0, _ => rfl
  | n + 1, h => by
    unfold wv
    rw [wv_congr n (fun i a q => h i a (by omega)), h n (by omega) (by omega)]
theorem tok_word (L : Int → Int) {z p : Int} (hp : p ≤ z) (h : tK L z p = 1) : ∃ m : Nat, (1 ≤ m ∧ m ≤ 8) ∧ tE L z p = kB L z p + m ∧ (∀ i : Int, 0 ≤ i → i < m → 97 ≤ L (kB L z p + i) ∧ L (kB L z p + i) ≤ 122) ∧ tW L z p = BitVec.ofInt 64 (wv L (kB L z p) m) := by
  unfold tK tKb at h
  by_cases c1 : kB L z p = z
  · rw [if_pos c1] at h; omega
  rw [if_neg c1] at h
  by_cases c2 : 97 ≤ L (kB L z p) ∧ L (kB L z p) ≤ 122
  · rw [if_pos c2] at h
    have c3 : tEb L z (kB L z p) - kB L z p ≤ 8 := by
      by_cases c3 : tEb L z (kB L z p) - kB L z p ≤ 8
      · exact c3
      · rw [if_neg c3] at h; omega
    have e : tEb L z (kB L z p) = rn L z 97 122 (z - kB L z p).toNat (kB L z p) := by unfold tEb; rw [if_neg c1, if_pos c2]
    have h1 : kB L z p + 1 ≤ tEb L z (kB L z p) := by
      have c4 : kB L z p < z := by
        have := kB_in L hp
        omega
      rw [e]
      exact (rn_1 L z 97 122 c4 c2).1
    refine ⟨(tEb L z (kB L z p) - kB L z p).toNat, by omega, ?_, fun i a b => ?_, ?_⟩
    · show tEb L z (kB L z p) = _
      omega
    · exact rn_all L z 97 122 (z - kB L z p).toNat (kB L z p) _ (by omega) (by rw [← e]; omega)
    · unfold tW tWb
      rw [if_neg c1, if_pos c2, show (min (tEb L z (kB L z p) - kB L z p) 8).toNat = (tEb L z (kB L z p) - kB L z p).toNat by omega]
  · rw [if_neg c2] at h
    split at h
    · split at h <;> omega
    · split at h <;> omega
theorem ofInt_inj {x y : Int} (hx : 0 ≤ x ∧ x < 282429536481) (hy : 0 ≤ y ∧ y < 282429536481) (h : BitVec.ofInt 64 x = BitVec.ofInt 64 y) : x = y := by
  have e := congrArg BitVec.toNat h
  rw [BitVec.toNat_ofInt, BitVec.toNat_ofInt] at e
  omega
theorem isW_iff {L T : Int → Int} {z p : Int} {n : Nat} {w : Int} (hp : p ≤ z) (hn : 1 ≤ n ∧ n ≤ 8) (hT : ∀ i : Int, 0 ≤ i → i < n → 97 ≤ T i ∧ T i ≤ 122) (hw : wv T 0 n = w) : (tK L z p = 1 ∧ tE L z p - kB L z p = n ∧ ∀ i : Int, 0 ≤ i → i < n → L (kB L z p + i) = T i) ↔ isW L z p (BitVec.ofInt 64 w) := by
  have hT2 : ∀ i : Int, 0 ≤ i → i < n → 97 ≤ T (0 + i) ∧ T (0 + i) ≤ 122 := fun i a b => by rw [Int.zero_add]; exact hT i a b
  constructor
  · rintro ⟨h1, h2, h3⟩
    refine ⟨h1, ?_⟩
    obtain ⟨m, hm, e, hl, ew⟩ := tok_word L hp h1
    have : m = n := by omega
    subst this
    rw [ew, ← hw, wv_congr (L := L) (T := T) (b := kB L z p) (c := 0) m (fun i a b => by rw [Int.zero_add]; exact h3 i a b)]
  · rintro ⟨h1, h2⟩
    obtain ⟨m, hm, e, hl, ew⟩ := tok_word L hp h1
    have b1 := wv_pos m hl
    have b2 := wv_pos n hT2
    have b3 := p27 m hm.2
    have b4 := p27 n hn.2
    rw [ew, ← hw] at h2
    have := wv_inj m n hl hT2 (ofInt_inj (by omega) (by omega) h2)
    refine ⟨h1, by omega, fun i a b => ?_⟩
    have := this.2 i a (by omega)
    rw [Int.zero_add] at this
    exact this
/-- a word's kind, as the class counts them -/
def km (k : Int) : Int := if k = 0 then 0 else if k = 4 then 1 else k + 1
theorem km_in (L : Int → Int) (z p : Int) : (0 ≤ tK L z p ∧ tK L z p ≤ 4) ∧ (0 ≤ km (tK L z p) ∧ km (tK L z p) ≤ 4) ∧ (km (tK L z p) = 0 ↔ tK L z p = 0) ∧ (km (tK L z p) = 2 ↔ tK L z p = 1) ∧ (km (tK L z p) = 3 ↔ tK L z p = 2) ∧ (km (tK L z p) = 4 ↔ tK L z p = 3) := by
  have h : 0 ≤ tK L z p ∧ tK L z p ≤ 4 := tKb_in L z (kB L z p)
  unfold km
  omega
/-- the letters -/
def LTT (σ : Hp) : Prop := (0 ≤ fI σ 901 24 ∧ fI σ 901 24 ≤ 1000) ∧ ∀ j, 0 ≤ aI σ 25 j ∧ aI σ 25 j ≤ 126
/-- the reader has read the token at p -/
def RD (σ : Hp) (p : Int) : Prop := LTT σ ∧ (0 ≤ p ∧ p ≤ fI σ 901 24) ∧ fI σ 503 26 = kB (aI σ 25) (fI σ 901 24) p ∧ fI σ 504 26 = tE (aI σ 25) (fI σ 901 24) p ∧ fI σ 502 26 = km (tK (aI σ 25) (fI σ 901 24) p) ∧ (tK (aI σ 25) (fI σ 901 24) p = 2 → fI σ 505 26 = tT (aI σ 25) (fI σ 901 24) p)
/-- a text that is a word -/
def Wd (σ : Hp) (r w : Int) : Prop := SK σ ∧ kd σ r = 20 ∧ (1 ≤ ln σ (fR σ 2000 r) ∧ ln σ (fR σ 2000 r) ≤ 8) ∧ (∀ i, 0 ≤ i → i < ln σ (fR σ 2000 r) → 97 ≤ aI σ (fR σ 2000 r) i ∧ aI σ (fR σ 2000 r) i ≤ 122) ∧ wv (aI σ (fR σ 2000 r)) 0 (ln σ (fR σ 2000 r)).toNat = w

def sp_X4_isBlank : Sp := fun av σ Q => oI av fun s av => av = [] ∧ ((0 ≤ s ∧ s < 65536) ∧ Q (some (vi (b2i (s = 32 ∨ s = 10)))) σ)
theorem us_X4_isBlank (s : Int) (σ : Hp) (Q : Option AV → Hp → Prop) : sp_X4_isBlank [vi s] σ Q = (((0 ≤ s ∧ s < 65536) ∧ Q (some (vi (b2i (s = 32 ∨ s = 10)))) σ)) := propext ⟨fun h => h.2, fun h => ⟨rfl, h⟩⟩
theorem el_X4_isBlank {av : List AV} {σ : Hp} {Q : Option AV → Hp → Prop} (h : sp_X4_isBlank av σ Q) : ∃ (s : Int), av = [vi s] ∧ (((0 ≤ s ∧ s < 65536) ∧ Q (some (vi (b2i (s = 32 ∨ s = 10)))) σ)) := by
  obtain ⟨s, a0, rfl, h0⟩ := oI_s h
  obtain ⟨rfl, hz⟩ := h0
  exact ⟨s, rfl, hz⟩

def tb_X4_isBlank : Tab := [(0, .iload_n 0, 1, (0, 0, 0, 0)), (1, .bipush 10, 2, (0, 0, 0, 0)), (3, .if_icmp .eq 9, 3, (0, 0, 0, 0)), (6, .iload_n 0, 1, (0, 0, 0, 0)), (7, .bipush 32, 2, (0, 0, 0, 0)), (9, .if_icmp .ne 7, 3, (0, 0, 0, 0)), (12, .iconst 1, 1, (0, 0, 0, 0)), (13, .goto 4, 3, (0, 0, 0, 0)), (16, .iconst 0, 1, (0, 0, 0, 0)), (17, .ireturn, 1, (0, 0, 0, 0))]
set_option maxRecDepth 100000 in
theorem tk_X4_isBlank : TOK RX4 false cX4_isBlank tb_X4_isBlank := chkT_ok ft_X4 (by decide +kernel)
def mt_X4_isBlank : List (Nat × Mt) := []
theorem mk_X4_isBlank : MOK RX4 mt_X4_isBlank := fun q hq => by cases hq
noncomputable def xe_X4_isBlank (ct : Nat → Bool) (K : Kt) (R : Option AV → Hp → Prop) (n : Nat) : Kt := exS 1 1 0 0 2 tb_X4_isBlank mt_X4_isBlank ct K R n
noncomputable def xk_X4_isBlank (ct : Nat → Bool) (K : Kt) (R : Option AV → Hp → Prop) (n : Nat) : Kt := exkS 1 1 0 0 2 tb_X4_isBlank mt_X4_isBlank ct K R n
theorem xt_X4_isBlank {ct : Nat → Bool} {K : Kt} {R : Option AV → Hp → Prop} {n pc : Nat} {ls : List (Option AV)} {st : List AV} {σ : Hp} {k : Nat × Nat} (h : ct pc = true) : xk_X4_isBlank ct K R n pc ls st σ k = K pc ls st σ k := by unfold xk_X4_isBlank exkS; rw [h]
theorem xf_X4_isBlank {ct : Nat → Bool} {K : Kt} {R : Option AV → Hp → Prop} {n pc : Nat} {ls : List (Option AV)} {st : List AV} {σ : Hp} {k : Nat × Nat} (h : ct pc = false) : xk_X4_isBlank ct K R n pc ls st σ k = xe_X4_isBlank ct K R n pc ls st σ k := by unfold xk_X4_isBlank exkS xe_X4_isBlank; rw [h]
theorem ev_X4_isBlank_0 {ct : Nat → Bool} {K : Kt} {R : Option AV → Hp → Prop} {n : Nat} {ls : List (Option AV)} {st : List AV} {σ : Hp} {k : Nat × Nat} : xe_X4_isBlank ct K R (n + 1) 0 ls st σ k = (lI ls 0 fun x => xk_X4_isBlank ct K R n 1 ls (vi x :: st) σ k) := exS_step.trans rfl
theorem ev_X4_isBlank_1 {ct : Nat → Bool} {K : Kt} {R : Option AV → Hp → Prop} {n : Nat} {ls : List (Option AV)} {st : List AV} {σ : Hp} {k : Nat × Nat} : xe_X4_isBlank ct K R (n + 1) 1 ls st σ k = (xk_X4_isBlank ct K R n 3 ls (vi (10) :: st) σ k) := exS_step.trans rfl
theorem ev_X4_isBlank_3 {ct : Nat → Bool} {K : Kt} {R : Option AV → Hp → Prop} {n : Nat} {ls : List (Option AV)} {st : List AV} {σ : Hp} {k : Nat × Nat} : xe_X4_isBlank ct K R (n + 1) 3 ls st σ k = (oI st fun y st => oI st fun x st => (wI x = wI y → xk_X4_isBlank ct K R n 12 ls st σ k) ∧ (¬ (wI x = wI y) → xk_X4_isBlank ct K R n 6 ls st σ k)) := exS_step.trans rfl
theorem ev_X4_isBlank_6 {ct : Nat → Bool} {K : Kt} {R : Option AV → Hp → Prop} {n : Nat} {ls : List (Option AV)} {st : List AV} {σ : Hp} {k : Nat × Nat} : xe_X4_isBlank ct K R (n + 1) 6 ls st σ k = (lI ls 0 fun x => xk_X4_isBlank ct K R n 7 ls (vi x :: st) σ k) := exS_step.trans rfl
theorem ev_X4_isBlank_7 {ct : Nat → Bool} {K : Kt} {R : Option AV → Hp → Prop} {n : Nat} {ls : List (Option AV)} {st : List AV} {σ : Hp} {k : Nat × Nat} : xe_X4_isBlank ct K R (n + 1) 7 ls st σ k = (xk_X4_isBlank ct K R n 9 ls (vi (32) :: st) σ k) := exS_step.trans rfl
theorem ev_X4_isBlank_9 {ct : Nat → Bool} {K : Kt} {R : Option AV → Hp → Prop} {n : Nat} {ls : List (Option AV)} {st : List AV} {σ : Hp} {k : Nat × Nat} : xe_X4_isBlank ct K R (n + 1) 9 ls st σ k = (oI st fun y st => oI st fun x st => (¬ wI x = wI y → xk_X4_isBlank ct K R n 16 ls st σ k) ∧ (¬ (¬ wI x = wI y) → xk_X4_isBlank ct K R n 12 ls st σ k)) := exS_step.trans rfl
theorem ev_X4_isBlank_12 {ct : Nat → Bool} {K : Kt} {R : Option AV → Hp → Prop} {n : Nat} {ls : List (Option AV)} {st : List AV} {σ : Hp} {k : Nat × Nat} : xe_X4_isBlank ct K R (n + 1) 12 ls st σ k = (xk_X4_isBlank ct K R n 13 ls (vi (1) :: st) σ k) := exS_step.trans rfl
theorem ev_X4_isBlank_13 {ct : Nat → Bool} {K : Kt} {R : Option AV → Hp → Prop} {n : Nat} {ls : List (Option AV)} {st : List AV} {σ : Hp} {k : Nat × Nat} : xe_X4_isBlank ct K R (n + 1) 13 ls st σ k = (xk_X4_isBlank ct K R n 17 ls st σ k) := exS_step.trans rfl
theorem ev_X4_isBlank_16 {ct : Nat → Bool} {K : Kt} {R : Option AV → Hp → Prop} {n : Nat} {ls : List (Option AV)} {st : List AV} {σ : Hp} {k : Nat × Nat} : xe_X4_isBlank ct K R (n + 1) 16 ls st σ k = (xk_X4_isBlank ct K R n 17 ls (vi (0) :: st) σ k) := exS_step.trans rfl
theorem ev_X4_isBlank_17 {ct : Nat → Bool} {K : Kt} {R : Option AV → Hp → Prop} {n : Nat} {ls : List (Option AV)} {st : List AV} {σ : Hp} {k : Nat × Nat} : xe_X4_isBlank ct K R (n + 1) 17 ls st σ k = (oI st fun x st => st = [] ∧ (x = 0 ∨ x = 1) ∧ R (some (vi x)) σ) := exS_step.trans rfl
def M_X4_isBlank : Md := (yX4_isBlank, cX4_isBlank, 1, (some FieldType.boolean), 1, 0, 0, 2, false, tb_X4_isBlank, mt_X4_isBlank)
theorem mm_X4_isBlank : MMOK M_X4_isBlank := ⟨by decide +kernel, tk_X4_isBlank, mk_X4_isBlank, rfl, fun h => by cases h⟩
theorem go_X4_isBlank {Q : Option AV → Hp → Prop} {ct : Nat → Bool} {pc : Nat} {ls : List (Option AV)} {st : List AV} {σ : Hp} {k : Nat × Nat} (n : Nat) (h : xe_X4_isBlank ct (Go M_X4_isBlank Q) Q n pc ls st σ k) : Go M_X4_isBlank Q pc ls st σ k := Go.exS mm_X4_isBlank h

set_option maxRecDepth 20000 in
theorem c_X4_isBlank : Ct yX4_isBlank cX4_isBlank 1 ((some FieldType.boolean)) 1 0 0 sp_X4_isBlank := by
  refine Ct.go (M := M_X4_isBlank) mm_X4_isBlank fun av σ Q h0 => ?_
  obtain ⟨s, rfl, h⟩ := el_X4_isBlank h0
  clear h0
  refine ⟨Nat.le_of_ble_eq_true rfl, ?_⟩
  show Go M_X4_isBlank Q 0 [some (vi s)] [] σ (0, 0)
  obtain ⟨hc, h⟩ := h
  by_cases c1 : s = 32 ∨ s = 10
  · rw [b2i_t c1] at h
    refine go_X4_isBlank (ct := fun p => p == 16) 20 ?_
    simp only [oI, oL, oR, o1, lI, lL, lR, popN, catS, gv, stL, stL2, swt, cnd, spObj, List.getElem?_cons_zero, List.getElem?_cons_succ, List.getD_cons_zero, List.getD_cons_succ, List.set_cons_zero, List.set_cons_succ, List.nil_append, List.cons_append, Option.toList, Bool.or_false, Bool.false_or, Bool.or_true, Bool.true_or, Nat.reduceBEq, Nat.reduceAdd, Nat.reduceLT, Nat.reduceLeDiff, Int.reduceAdd, Int.reduceToNat, true_and, and_true, Fin.isValue, Fin.val_zero, Fin.val_one, Fin.val_two, Fin.reduceFinMk, eq_self, Int.reduceNeg, imp_self, Nat.reduceMul, Nat.le_refl, not_true_eq_false, not_false_eq_true, List.getElem?_nil, reduceCtorEq, true_or, or_true, Classical.not_not, implies_true, or_self, wI_0, wI_1, wI_m1, b2i_w, b2i_eq0, b2i_eq1, b2i_bool, nor_self, nx_pI, kd_pI, ln_pI, fI_pI, fL_pI, fR_pI, aI_pI, aL_pI, aR_pI, nx_pL, kd_pL, ln_pL, fI_pL, fL_pL, fR_pL, aI_pL, aL_pL, aR_pL, nx_pR, kd_pR, ln_pR, fI_pR, fL_pR, fR_pR, aI_pR, aL_pR, aR_pR, nx_qI, kd_qI, ln_qI, fI_qI, fL_qI, fR_qI, aI_qI, aL_qI, aR_qI, nx_qL, kd_qL, ln_qL, fI_qL, fL_qL, fR_qL, aI_qL, aL_qL, aR_qL, nx_qR, kd_qR, ln_qR, fI_qR, fL_qR, fR_qR, aI_qR, aL_qR, aR_qR, nx_mk, kd_mk, ln_mk, fI_mk, fL_mk, fR_mk, aI_mk, aL_mk, aR_mk, false_and, and_false, if_false, if_true, and_self, Int.reduceEq, Nat.reduceEqDiff, ite_self, MLay_pI, MLay_pL, MLay_qI, MLay_qL, ev_X4_isBlank_0, ev_X4_isBlank_1, ev_X4_isBlank_3, ev_X4_isBlank_6, ev_X4_isBlank_7, ev_X4_isBlank_9, ev_X4_isBlank_12, ev_X4_isBlank_13, ev_X4_isBlank_16, ev_X4_isBlank_17, xt_X4_isBlank, xf_X4_isBlank]
    try simp (disch := omega) only [wI_id, dv_nn, rm_nn]
    repeat' (first | intro z | apply And.intro)
    all_goals try omega
    all_goals try contradiction
    all_goals exact h
  · rw [b2i_f c1] at h
    refine go_X4_isBlank (ct := fun p => p == 12) 20 ?_
    simp only [oI, oL, oR, o1, lI, lL, lR, popN, catS, gv, stL, stL2, swt, cnd, spObj, List.getElem?_cons_zero, List.getElem?_cons_succ, List.getD_cons_zero, List.getD_cons_succ, List.set_cons_zero, List.set_cons_succ, List.nil_append, List.cons_append, Option.toList, Bool.or_false, Bool.false_or, Bool.or_true, Bool.true_or, Nat.reduceBEq, Nat.reduceAdd, Nat.reduceLT, Nat.reduceLeDiff, Int.reduceAdd, Int.reduceToNat, true_and, and_true, Fin.isValue, Fin.val_zero, Fin.val_one, Fin.val_two, Fin.reduceFinMk, eq_self, Int.reduceNeg, imp_self, Nat.reduceMul, Nat.le_refl, not_true_eq_false, not_false_eq_true, List.getElem?_nil, reduceCtorEq, true_or, or_true, Classical.not_not, implies_true, or_self, wI_0, wI_1, wI_m1, b2i_w, b2i_eq0, b2i_eq1, b2i_bool, nor_self, nx_pI, kd_pI, ln_pI, fI_pI, fL_pI, fR_pI, aI_pI, aL_pI, aR_pI, nx_pL, kd_pL, ln_pL, fI_pL, fL_pL, fR_pL, aI_pL, aL_pL, aR_pL, nx_pR, kd_pR, ln_pR, fI_pR, fL_pR, fR_pR, aI_pR, aL_pR, aR_pR, nx_qI, kd_qI, ln_qI, fI_qI, fL_qI, fR_qI, aI_qI, aL_qI, aR_qI, nx_qL, kd_qL, ln_qL, fI_qL, fL_qL, fR_qL, aI_qL, aL_qL, aR_qL, nx_qR, kd_qR, ln_qR, fI_qR, fL_qR, fR_qR, aI_qR, aL_qR, aR_qR, nx_mk, kd_mk, ln_mk, fI_mk, fL_mk, fR_mk, aI_mk, aL_mk, aR_mk, false_and, and_false, if_false, if_true, and_self, Int.reduceEq, Nat.reduceEqDiff, ite_self, MLay_pI, MLay_pL, MLay_qI, MLay_qL, ev_X4_isBlank_0, ev_X4_isBlank_1, ev_X4_isBlank_3, ev_X4_isBlank_6, ev_X4_isBlank_7, ev_X4_isBlank_9, ev_X4_isBlank_12, ev_X4_isBlank_13, ev_X4_isBlank_16, ev_X4_isBlank_17, xt_X4_isBlank, xf_X4_isBlank]
    try simp (disch := omega) only [wI_id, dv_nn, rm_nn]
    repeat' (first | intro z | apply And.intro)
    all_goals try omega
    all_goals try contradiction
    all_goals exact h

def sp_X4_isLetter : Sp := fun av σ Q => oI av fun s av => av = [] ∧ ((0 ≤ s ∧ s < 65536) ∧ Q (some (vi (b2i (97 ≤ s ∧ s ≤ 122)))) σ)
theorem us_X4_isLetter (s : Int) (σ : Hp) (Q : Option AV → Hp → Prop) : sp_X4_isLetter [vi s] σ Q = (((0 ≤ s ∧ s < 65536) ∧ Q (some (vi (b2i (97 ≤ s ∧ s ≤ 122)))) σ)) := propext ⟨fun h => h.2, fun h => ⟨rfl, h⟩⟩
theorem el_X4_isLetter {av : List AV} {σ : Hp} {Q : Option AV → Hp → Prop} (h : sp_X4_isLetter av σ Q) : ∃ (s : Int), av = [vi s] ∧ (((0 ≤ s ∧ s < 65536) ∧ Q (some (vi (b2i (97 ≤ s ∧ s ≤ 122)))) σ)) := by
  obtain ⟨s, a0, rfl, h0⟩ := oI_s h
  obtain ⟨rfl, hz⟩ := h0
  exact ⟨s, rfl, hz⟩

def tb_X4_isLetter : Tab := [(0, .iload_n 0, 1, (0, 0, 0, 0)), (1, .bipush 97, 2, (0, 0, 0, 0)), (3, .if_icmp .lt 13, 3, (0, 0, 0, 0)), (6, .iload_n 0, 1, (0, 0, 0, 0)), (7, .bipush 122, 2, (0, 0, 0, 0)), (9, .if_icmp .gt 7, 3, (0, 0, 0, 0)), (12, .iconst 1, 1, (0, 0, 0, 0)), (13, .goto 4, 3, (0, 0, 0, 0)), (16, .iconst 0, 1, (0, 0, 0, 0)), (17, .ireturn, 1, (0, 0, 0, 0))]
set_option maxRecDepth 100000 in
theorem tk_X4_isLetter : TOK RX4 false cX4_isLetter tb_X4_isLetter := chkT_ok ft_X4 (by decide +kernel)
def mt_X4_isLetter : List (Nat × Mt) := []
theorem mk_X4_isLetter : MOK RX4 mt_X4_isLetter := fun q hq => by cases hq
noncomputable def xe_X4_isLetter (ct : Nat → Bool) (K : Kt) (R : Option AV → Hp → Prop) (n : Nat) : Kt := exS 1 1 0 0 2 tb_X4_isLetter mt_X4_isLetter ct K R n
noncomputable def xk_X4_isLetter (ct : Nat → Bool) (K : Kt) (R : Option AV → Hp → Prop) (n : Nat) : Kt := exkS 1 1 0 0 2 tb_X4_isLetter mt_X4_isLetter ct K R n
theorem xt_X4_isLetter {ct : Nat → Bool} {K : Kt} {R : Option AV → Hp → Prop} {n pc : Nat} {ls : List (Option AV)} {st : List AV} {σ : Hp} {k : Nat × Nat} (h : ct pc = true) : xk_X4_isLetter ct K R n pc ls st σ k = K pc ls st σ k := by unfold xk_X4_isLetter exkS; rw [h]
theorem xf_X4_isLetter {ct : Nat → Bool} {K : Kt} {R : Option AV → Hp → Prop} {n pc : Nat} {ls : List (Option AV)} {st : List AV} {σ : Hp} {k : Nat × Nat} (h : ct pc = false) : xk_X4_isLetter ct K R n pc ls st σ k = xe_X4_isLetter ct K R n pc ls st σ k := by unfold xk_X4_isLetter exkS xe_X4_isLetter; rw [h]
theorem ev_X4_isLetter_0 {ct : Nat → Bool} {K : Kt} {R : Option AV → Hp → Prop} {n : Nat} {ls : List (Option AV)} {st : List AV} {σ : Hp} {k : Nat × Nat} : xe_X4_isLetter ct K R (n + 1) 0 ls st σ k = (lI ls 0 fun x => xk_X4_isLetter ct K R n 1 ls (vi x :: st) σ k) := exS_step.trans rfl
theorem ev_X4_isLetter_1 {ct : Nat → Bool} {K : Kt} {R : Option AV → Hp → Prop} {n : Nat} {ls : List (Option AV)} {st : List AV} {σ : Hp} {k : Nat × Nat} : xe_X4_isLetter ct K R (n + 1) 1 ls st σ k = (xk_X4_isLetter ct K R n 3 ls (vi (97) :: st) σ k) := exS_step.trans rfl
theorem ev_X4_isLetter_3 {ct : Nat → Bool} {K : Kt} {R : Option AV → Hp → Prop} {n : Nat} {ls : List (Option AV)} {st : List AV} {σ : Hp} {k : Nat × Nat} : xe_X4_isLetter ct K R (n + 1) 3 ls st σ k = (oI st fun y st => oI st fun x st => (wI x < wI y → xk_X4_isLetter ct K R n 16 ls st σ k) ∧ (¬ (wI x < wI y) → xk_X4_isLetter ct K R n 6 ls st σ k)) := exS_step.trans rfl
theorem ev_X4_isLetter_6 {ct : Nat → Bool} {K : Kt} {R : Option AV → Hp → Prop} {n : Nat} {ls : List (Option AV)} {st : List AV} {σ : Hp} {k : Nat × Nat} : xe_X4_isLetter ct K R (n + 1) 6 ls st σ k = (lI ls 0 fun x => xk_X4_isLetter ct K R n 7 ls (vi x :: st) σ k) := exS_step.trans rfl
theorem ev_X4_isLetter_7 {ct : Nat → Bool} {K : Kt} {R : Option AV → Hp → Prop} {n : Nat} {ls : List (Option AV)} {st : List AV} {σ : Hp} {k : Nat × Nat} : xe_X4_isLetter ct K R (n + 1) 7 ls st σ k = (xk_X4_isLetter ct K R n 9 ls (vi (122) :: st) σ k) := exS_step.trans rfl
theorem ev_X4_isLetter_9 {ct : Nat → Bool} {K : Kt} {R : Option AV → Hp → Prop} {n : Nat} {ls : List (Option AV)} {st : List AV} {σ : Hp} {k : Nat × Nat} : xe_X4_isLetter ct K R (n + 1) 9 ls st σ k = (oI st fun y st => oI st fun x st => (wI y < wI x → xk_X4_isLetter ct K R n 16 ls st σ k) ∧ (¬ (wI y < wI x) → xk_X4_isLetter ct K R n 12 ls st σ k)) := exS_step.trans rfl
theorem ev_X4_isLetter_12 {ct : Nat → Bool} {K : Kt} {R : Option AV → Hp → Prop} {n : Nat} {ls : List (Option AV)} {st : List AV} {σ : Hp} {k : Nat × Nat} : xe_X4_isLetter ct K R (n + 1) 12 ls st σ k = (xk_X4_isLetter ct K R n 13 ls (vi (1) :: st) σ k) := exS_step.trans rfl
theorem ev_X4_isLetter_13 {ct : Nat → Bool} {K : Kt} {R : Option AV → Hp → Prop} {n : Nat} {ls : List (Option AV)} {st : List AV} {σ : Hp} {k : Nat × Nat} : xe_X4_isLetter ct K R (n + 1) 13 ls st σ k = (xk_X4_isLetter ct K R n 17 ls st σ k) := exS_step.trans rfl
theorem ev_X4_isLetter_16 {ct : Nat → Bool} {K : Kt} {R : Option AV → Hp → Prop} {n : Nat} {ls : List (Option AV)} {st : List AV} {σ : Hp} {k : Nat × Nat} : xe_X4_isLetter ct K R (n + 1) 16 ls st σ k = (xk_X4_isLetter ct K R n 17 ls (vi (0) :: st) σ k) := exS_step.trans rfl
theorem ev_X4_isLetter_17 {ct : Nat → Bool} {K : Kt} {R : Option AV → Hp → Prop} {n : Nat} {ls : List (Option AV)} {st : List AV} {σ : Hp} {k : Nat × Nat} : xe_X4_isLetter ct K R (n + 1) 17 ls st σ k = (oI st fun x st => st = [] ∧ (x = 0 ∨ x = 1) ∧ R (some (vi x)) σ) := exS_step.trans rfl
def M_X4_isLetter : Md := (yX4_isLetter, cX4_isLetter, 1, (some FieldType.boolean), 1, 0, 0, 2, false, tb_X4_isLetter, mt_X4_isLetter)
theorem mm_X4_isLetter : MMOK M_X4_isLetter := ⟨by decide +kernel, tk_X4_isLetter, mk_X4_isLetter, rfl, fun h => by cases h⟩
theorem go_X4_isLetter {Q : Option AV → Hp → Prop} {ct : Nat → Bool} {pc : Nat} {ls : List (Option AV)} {st : List AV} {σ : Hp} {k : Nat × Nat} (n : Nat) (h : xe_X4_isLetter ct (Go M_X4_isLetter Q) Q n pc ls st σ k) : Go M_X4_isLetter Q pc ls st σ k := Go.exS mm_X4_isLetter h

set_option maxRecDepth 20000 in
theorem c_X4_isLetter : Ct yX4_isLetter cX4_isLetter 1 ((some FieldType.boolean)) 1 0 0 sp_X4_isLetter := by
  refine Ct.go (M := M_X4_isLetter) mm_X4_isLetter fun av σ Q h0 => ?_
  obtain ⟨s, rfl, h⟩ := el_X4_isLetter h0
  clear h0
  refine ⟨Nat.le_of_ble_eq_true rfl, ?_⟩
  show Go M_X4_isLetter Q 0 [some (vi s)] [] σ (0, 0)
  obtain ⟨hc, h⟩ := h
  by_cases c1 : 97 ≤ s ∧ s ≤ 122
  · rw [b2i_t c1] at h
    refine go_X4_isLetter (ct := fun p => p == 16) 20 ?_
    simp only [oI, oL, oR, o1, lI, lL, lR, popN, catS, gv, stL, stL2, swt, cnd, spObj, List.getElem?_cons_zero, List.getElem?_cons_succ, List.getD_cons_zero, List.getD_cons_succ, List.set_cons_zero, List.set_cons_succ, List.nil_append, List.cons_append, Option.toList, Bool.or_false, Bool.false_or, Bool.or_true, Bool.true_or, Nat.reduceBEq, Nat.reduceAdd, Nat.reduceLT, Nat.reduceLeDiff, Int.reduceAdd, Int.reduceToNat, true_and, and_true, Fin.isValue, Fin.val_zero, Fin.val_one, Fin.val_two, Fin.reduceFinMk, eq_self, Int.reduceNeg, imp_self, Nat.reduceMul, Nat.le_refl, not_true_eq_false, not_false_eq_true, List.getElem?_nil, reduceCtorEq, true_or, or_true, Classical.not_not, implies_true, or_self, wI_0, wI_1, wI_m1, b2i_w, b2i_eq0, b2i_eq1, b2i_bool, nor_self, nx_pI, kd_pI, ln_pI, fI_pI, fL_pI, fR_pI, aI_pI, aL_pI, aR_pI, nx_pL, kd_pL, ln_pL, fI_pL, fL_pL, fR_pL, aI_pL, aL_pL, aR_pL, nx_pR, kd_pR, ln_pR, fI_pR, fL_pR, fR_pR, aI_pR, aL_pR, aR_pR, nx_qI, kd_qI, ln_qI, fI_qI, fL_qI, fR_qI, aI_qI, aL_qI, aR_qI, nx_qL, kd_qL, ln_qL, fI_qL, fL_qL, fR_qL, aI_qL, aL_qL, aR_qL, nx_qR, kd_qR, ln_qR, fI_qR, fL_qR, fR_qR, aI_qR, aL_qR, aR_qR, nx_mk, kd_mk, ln_mk, fI_mk, fL_mk, fR_mk, aI_mk, aL_mk, aR_mk, false_and, and_false, if_false, if_true, and_self, Int.reduceEq, Nat.reduceEqDiff, ite_self, MLay_pI, MLay_pL, MLay_qI, MLay_qL, ev_X4_isLetter_0, ev_X4_isLetter_1, ev_X4_isLetter_3, ev_X4_isLetter_6, ev_X4_isLetter_7, ev_X4_isLetter_9, ev_X4_isLetter_12, ev_X4_isLetter_13, ev_X4_isLetter_16, ev_X4_isLetter_17, xt_X4_isLetter, xf_X4_isLetter]
    try simp (disch := omega) only [wI_id, dv_nn, rm_nn]
    repeat' (first | intro z | apply And.intro)
    all_goals try omega
    all_goals try contradiction
    all_goals exact h
  · rw [b2i_f c1] at h
    refine go_X4_isLetter (ct := fun p => p == 12) 20 ?_
    simp only [oI, oL, oR, o1, lI, lL, lR, popN, catS, gv, stL, stL2, swt, cnd, spObj, List.getElem?_cons_zero, List.getElem?_cons_succ, List.getD_cons_zero, List.getD_cons_succ, List.set_cons_zero, List.set_cons_succ, List.nil_append, List.cons_append, Option.toList, Bool.or_false, Bool.false_or, Bool.or_true, Bool.true_or, Nat.reduceBEq, Nat.reduceAdd, Nat.reduceLT, Nat.reduceLeDiff, Int.reduceAdd, Int.reduceToNat, true_and, and_true, Fin.isValue, Fin.val_zero, Fin.val_one, Fin.val_two, Fin.reduceFinMk, eq_self, Int.reduceNeg, imp_self, Nat.reduceMul, Nat.le_refl, not_true_eq_false, not_false_eq_true, List.getElem?_nil, reduceCtorEq, true_or, or_true, Classical.not_not, implies_true, or_self, wI_0, wI_1, wI_m1, b2i_w, b2i_eq0, b2i_eq1, b2i_bool, nor_self, nx_pI, kd_pI, ln_pI, fI_pI, fL_pI, fR_pI, aI_pI, aL_pI, aR_pI, nx_pL, kd_pL, ln_pL, fI_pL, fL_pL, fR_pL, aI_pL, aL_pL, aR_pL, nx_pR, kd_pR, ln_pR, fI_pR, fL_pR, fR_pR, aI_pR, aL_pR, aR_pR, nx_qI, kd_qI, ln_qI, fI_qI, fL_qI, fR_qI, aI_qI, aL_qI, aR_qI, nx_qL, kd_qL, ln_qL, fI_qL, fL_qL, fR_qL, aI_qL, aL_qL, aR_qL, nx_qR, kd_qR, ln_qR, fI_qR, fL_qR, fR_qR, aI_qR, aL_qR, aR_qR, nx_mk, kd_mk, ln_mk, fI_mk, fL_mk, fR_mk, aI_mk, aL_mk, aR_mk, false_and, and_false, if_false, if_true, and_self, Int.reduceEq, Nat.reduceEqDiff, ite_self, MLay_pI, MLay_pL, MLay_qI, MLay_qL, ev_X4_isLetter_0, ev_X4_isLetter_1, ev_X4_isLetter_3, ev_X4_isLetter_6, ev_X4_isLetter_7, ev_X4_isLetter_9, ev_X4_isLetter_12, ev_X4_isLetter_13, ev_X4_isLetter_16, ev_X4_isLetter_17, xt_X4_isLetter, xf_X4_isLetter]
    try simp (disch := omega) only [wI_id, dv_nn, rm_nn]
    repeat' (first | intro z | apply And.intro)
    all_goals try omega
    all_goals try contradiction
    all_goals exact h

def sp_X4_isNumeral : Sp := fun av σ Q => oI av fun s av => av = [] ∧ ((0 ≤ s ∧ s < 65536) ∧ Q (some (vi (b2i (48 ≤ s ∧ s ≤ 57)))) σ)
theorem us_X4_isNumeral (s : Int) (σ : Hp) (Q : Option AV → Hp → Prop) : sp_X4_isNumeral [vi s] σ Q = (((0 ≤ s ∧ s < 65536) ∧ Q (some (vi (b2i (48 ≤ s ∧ s ≤ 57)))) σ)) := propext ⟨fun h => h.2, fun h => ⟨rfl, h⟩⟩
theorem el_X4_isNumeral {av : List AV} {σ : Hp} {Q : Option AV → Hp → Prop} (h : sp_X4_isNumeral av σ Q) : ∃ (s : Int), av = [vi s] ∧ (((0 ≤ s ∧ s < 65536) ∧ Q (some (vi (b2i (48 ≤ s ∧ s ≤ 57)))) σ)) := by
  obtain ⟨s, a0, rfl, h0⟩ := oI_s h
  obtain ⟨rfl, hz⟩ := h0
  exact ⟨s, rfl, hz⟩

def tb_X4_isNumeral : Tab := [(0, .iload_n 0, 1, (0, 0, 0, 0)), (1, .bipush 48, 2, (0, 0, 0, 0)), (3, .if_icmp .lt 13, 3, (0, 0, 0, 0)), (6, .iload_n 0, 1, (0, 0, 0, 0)), (7, .bipush 57, 2, (0, 0, 0, 0)), (9, .if_icmp .gt 7, 3, (0, 0, 0, 0)), (12, .iconst 1, 1, (0, 0, 0, 0)), (13, .goto 4, 3, (0, 0, 0, 0)), (16, .iconst 0, 1, (0, 0, 0, 0)), (17, .ireturn, 1, (0, 0, 0, 0))]
set_option maxRecDepth 100000 in
theorem tk_X4_isNumeral : TOK RX4 false cX4_isNumeral tb_X4_isNumeral := chkT_ok ft_X4 (by decide +kernel)
def mt_X4_isNumeral : List (Nat × Mt) := []
theorem mk_X4_isNumeral : MOK RX4 mt_X4_isNumeral := fun q hq => by cases hq
noncomputable def xe_X4_isNumeral (ct : Nat → Bool) (K : Kt) (R : Option AV → Hp → Prop) (n : Nat) : Kt := exS 1 1 0 0 2 tb_X4_isNumeral mt_X4_isNumeral ct K R n
noncomputable def xk_X4_isNumeral (ct : Nat → Bool) (K : Kt) (R : Option AV → Hp → Prop) (n : Nat) : Kt := exkS 1 1 0 0 2 tb_X4_isNumeral mt_X4_isNumeral ct K R n
theorem xt_X4_isNumeral {ct : Nat → Bool} {K : Kt} {R : Option AV → Hp → Prop} {n pc : Nat} {ls : List (Option AV)} {st : List AV} {σ : Hp} {k : Nat × Nat} (h : ct pc = true) : xk_X4_isNumeral ct K R n pc ls st σ k = K pc ls st σ k := by unfold xk_X4_isNumeral exkS; rw [h]
theorem xf_X4_isNumeral {ct : Nat → Bool} {K : Kt} {R : Option AV → Hp → Prop} {n pc : Nat} {ls : List (Option AV)} {st : List AV} {σ : Hp} {k : Nat × Nat} (h : ct pc = false) : xk_X4_isNumeral ct K R n pc ls st σ k = xe_X4_isNumeral ct K R n pc ls st σ k := by unfold xk_X4_isNumeral exkS xe_X4_isNumeral; rw [h]
theorem ev_X4_isNumeral_0 {ct : Nat → Bool} {K : Kt} {R : Option AV → Hp → Prop} {n : Nat} {ls : List (Option AV)} {st : List AV} {σ : Hp} {k : Nat × Nat} : xe_X4_isNumeral ct K R (n + 1) 0 ls st σ k = (lI ls 0 fun x => xk_X4_isNumeral ct K R n 1 ls (vi x :: st) σ k) := exS_step.trans rfl
theorem ev_X4_isNumeral_1 {ct : Nat → Bool} {K : Kt} {R : Option AV → Hp → Prop} {n : Nat} {ls : List (Option AV)} {st : List AV} {σ : Hp} {k : Nat × Nat} : xe_X4_isNumeral ct K R (n + 1) 1 ls st σ k = (xk_X4_isNumeral ct K R n 3 ls (vi (48) :: st) σ k) := exS_step.trans rfl
theorem ev_X4_isNumeral_3 {ct : Nat → Bool} {K : Kt} {R : Option AV → Hp → Prop} {n : Nat} {ls : List (Option AV)} {st : List AV} {σ : Hp} {k : Nat × Nat} : xe_X4_isNumeral ct K R (n + 1) 3 ls st σ k = (oI st fun y st => oI st fun x st => (wI x < wI y → xk_X4_isNumeral ct K R n 16 ls st σ k) ∧ (¬ (wI x < wI y) → xk_X4_isNumeral ct K R n 6 ls st σ k)) := exS_step.trans rfl
theorem ev_X4_isNumeral_6 {ct : Nat → Bool} {K : Kt} {R : Option AV → Hp → Prop} {n : Nat} {ls : List (Option AV)} {st : List AV} {σ : Hp} {k : Nat × Nat} : xe_X4_isNumeral ct K R (n + 1) 6 ls st σ k = (lI ls 0 fun x => xk_X4_isNumeral ct K R n 7 ls (vi x :: st) σ k) := exS_step.trans rfl
theorem ev_X4_isNumeral_7 {ct : Nat → Bool} {K : Kt} {R : Option AV → Hp → Prop} {n : Nat} {ls : List (Option AV)} {st : List AV} {σ : Hp} {k : Nat × Nat} : xe_X4_isNumeral ct K R (n + 1) 7 ls st σ k = (xk_X4_isNumeral ct K R n 9 ls (vi (57) :: st) σ k) := exS_step.trans rfl
theorem ev_X4_isNumeral_9 {ct : Nat → Bool} {K : Kt} {R : Option AV → Hp → Prop} {n : Nat} {ls : List (Option AV)} {st : List AV} {σ : Hp} {k : Nat × Nat} : xe_X4_isNumeral ct K R (n + 1) 9 ls st σ k = (oI st fun y st => oI st fun x st => (wI y < wI x → xk_X4_isNumeral ct K R n 16 ls st σ k) ∧ (¬ (wI y < wI x) → xk_X4_isNumeral ct K R n 12 ls st σ k)) := exS_step.trans rfl
theorem ev_X4_isNumeral_12 {ct : Nat → Bool} {K : Kt} {R : Option AV → Hp → Prop} {n : Nat} {ls : List (Option AV)} {st : List AV} {σ : Hp} {k : Nat × Nat} : xe_X4_isNumeral ct K R (n + 1) 12 ls st σ k = (xk_X4_isNumeral ct K R n 13 ls (vi (1) :: st) σ k) := exS_step.trans rfl
theorem ev_X4_isNumeral_13 {ct : Nat → Bool} {K : Kt} {R : Option AV → Hp → Prop} {n : Nat} {ls : List (Option AV)} {st : List AV} {σ : Hp} {k : Nat × Nat} : xe_X4_isNumeral ct K R (n + 1) 13 ls st σ k = (xk_X4_isNumeral ct K R n 17 ls st σ k) := exS_step.trans rfl
theorem ev_X4_isNumeral_16 {ct : Nat → Bool} {K : Kt} {R : Option AV → Hp → Prop} {n : Nat} {ls : List (Option AV)} {st : List AV} {σ : Hp} {k : Nat × Nat} : xe_X4_isNumeral ct K R (n + 1) 16 ls st σ k = (xk_X4_isNumeral ct K R n 17 ls (vi (0) :: st) σ k) := exS_step.trans rfl
theorem ev_X4_isNumeral_17 {ct : Nat → Bool} {K : Kt} {R : Option AV → Hp → Prop} {n : Nat} {ls : List (Option AV)} {st : List AV} {σ : Hp} {k : Nat × Nat} : xe_X4_isNumeral ct K R (n + 1) 17 ls st σ k = (oI st fun x st => st = [] ∧ (x = 0 ∨ x = 1) ∧ R (some (vi x)) σ) := exS_step.trans rfl
def M_X4_isNumeral : Md := (yX4_isNumeral, cX4_isNumeral, 1, (some FieldType.boolean), 1, 0, 0, 2, false, tb_X4_isNumeral, mt_X4_isNumeral)
theorem mm_X4_isNumeral : MMOK M_X4_isNumeral := ⟨by decide +kernel, tk_X4_isNumeral, mk_X4_isNumeral, rfl, fun h => by cases h⟩
theorem go_X4_isNumeral {Q : Option AV → Hp → Prop} {ct : Nat → Bool} {pc : Nat} {ls : List (Option AV)} {st : List AV} {σ : Hp} {k : Nat × Nat} (n : Nat) (h : xe_X4_isNumeral ct (Go M_X4_isNumeral Q) Q n pc ls st σ k) : Go M_X4_isNumeral Q pc ls st σ k := Go.exS mm_X4_isNumeral h

set_option maxRecDepth 20000 in
theorem c_X4_isNumeral : Ct yX4_isNumeral cX4_isNumeral 1 ((some FieldType.boolean)) 1 0 0 sp_X4_isNumeral := by
  refine Ct.go (M := M_X4_isNumeral) mm_X4_isNumeral fun av σ Q h0 => ?_
  obtain ⟨s, rfl, h⟩ := el_X4_isNumeral h0
  clear h0
  refine ⟨Nat.le_of_ble_eq_true rfl, ?_⟩
  show Go M_X4_isNumeral Q 0 [some (vi s)] [] σ (0, 0)
  obtain ⟨hc, h⟩ := h
  by_cases c1 : 48 ≤ s ∧ s ≤ 57
  · rw [b2i_t c1] at h
    refine go_X4_isNumeral (ct := fun p => p == 16) 20 ?_
    simp only [oI, oL, oR, o1, lI, lL, lR, popN, catS, gv, stL, stL2, swt, cnd, spObj, List.getElem?_cons_zero, List.getElem?_cons_succ, List.getD_cons_zero, List.getD_cons_succ, List.set_cons_zero, List.set_cons_succ, List.nil_append, List.cons_append, Option.toList, Bool.or_false, Bool.false_or, Bool.or_true, Bool.true_or, Nat.reduceBEq, Nat.reduceAdd, Nat.reduceLT, Nat.reduceLeDiff, Int.reduceAdd, Int.reduceToNat, true_and, and_true, Fin.isValue, Fin.val_zero, Fin.val_one, Fin.val_two, Fin.reduceFinMk, eq_self, Int.reduceNeg, imp_self, Nat.reduceMul, Nat.le_refl, not_true_eq_false, not_false_eq_true, List.getElem?_nil, reduceCtorEq, true_or, or_true, Classical.not_not, implies_true, or_self, wI_0, wI_1, wI_m1, b2i_w, b2i_eq0, b2i_eq1, b2i_bool, nor_self, nx_pI, kd_pI, ln_pI, fI_pI, fL_pI, fR_pI, aI_pI, aL_pI, aR_pI, nx_pL, kd_pL, ln_pL, fI_pL, fL_pL, fR_pL, aI_pL, aL_pL, aR_pL, nx_pR, kd_pR, ln_pR, fI_pR, fL_pR, fR_pR, aI_pR, aL_pR, aR_pR, nx_qI, kd_qI, ln_qI, fI_qI, fL_qI, fR_qI, aI_qI, aL_qI, aR_qI, nx_qL, kd_qL, ln_qL, fI_qL, fL_qL, fR_qL, aI_qL, aL_qL, aR_qL, nx_qR, kd_qR, ln_qR, fI_qR, fL_qR, fR_qR, aI_qR, aL_qR, aR_qR, nx_mk, kd_mk, ln_mk, fI_mk, fL_mk, fR_mk, aI_mk, aL_mk, aR_mk, false_and, and_false, if_false, if_true, and_self, Int.reduceEq, Nat.reduceEqDiff, ite_self, MLay_pI, MLay_pL, MLay_qI, MLay_qL, ev_X4_isNumeral_0, ev_X4_isNumeral_1, ev_X4_isNumeral_3, ev_X4_isNumeral_6, ev_X4_isNumeral_7, ev_X4_isNumeral_9, ev_X4_isNumeral_12, ev_X4_isNumeral_13, ev_X4_isNumeral_16, ev_X4_isNumeral_17, xt_X4_isNumeral, xf_X4_isNumeral]
    try simp (disch := omega) only [wI_id, dv_nn, rm_nn]
    repeat' (first | intro z | apply And.intro)
    all_goals try omega
    all_goals try contradiction
    all_goals exact h
  · rw [b2i_f c1] at h
    refine go_X4_isNumeral (ct := fun p => p == 12) 20 ?_
    simp only [oI, oL, oR, o1, lI, lL, lR, popN, catS, gv, stL, stL2, swt, cnd, spObj, List.getElem?_cons_zero, List.getElem?_cons_succ, List.getD_cons_zero, List.getD_cons_succ, List.set_cons_zero, List.set_cons_succ, List.nil_append, List.cons_append, Option.toList, Bool.or_false, Bool.false_or, Bool.or_true, Bool.true_or, Nat.reduceBEq, Nat.reduceAdd, Nat.reduceLT, Nat.reduceLeDiff, Int.reduceAdd, Int.reduceToNat, true_and, and_true, Fin.isValue, Fin.val_zero, Fin.val_one, Fin.val_two, Fin.reduceFinMk, eq_self, Int.reduceNeg, imp_self, Nat.reduceMul, Nat.le_refl, not_true_eq_false, not_false_eq_true, List.getElem?_nil, reduceCtorEq, true_or, or_true, Classical.not_not, implies_true, or_self, wI_0, wI_1, wI_m1, b2i_w, b2i_eq0, b2i_eq1, b2i_bool, nor_self, nx_pI, kd_pI, ln_pI, fI_pI, fL_pI, fR_pI, aI_pI, aL_pI, aR_pI, nx_pL, kd_pL, ln_pL, fI_pL, fL_pL, fR_pL, aI_pL, aL_pL, aR_pL, nx_pR, kd_pR, ln_pR, fI_pR, fL_pR, fR_pR, aI_pR, aL_pR, aR_pR, nx_qI, kd_qI, ln_qI, fI_qI, fL_qI, fR_qI, aI_qI, aL_qI, aR_qI, nx_qL, kd_qL, ln_qL, fI_qL, fL_qL, fR_qL, aI_qL, aL_qL, aR_qL, nx_qR, kd_qR, ln_qR, fI_qR, fL_qR, fR_qR, aI_qR, aL_qR, aR_qR, nx_mk, kd_mk, ln_mk, fI_mk, fL_mk, fR_mk, aI_mk, aL_mk, aR_mk, false_and, and_false, if_false, if_true, and_self, Int.reduceEq, Nat.reduceEqDiff, ite_self, MLay_pI, MLay_pL, MLay_qI, MLay_qL, ev_X4_isNumeral_0, ev_X4_isNumeral_1, ev_X4_isNumeral_3, ev_X4_isNumeral_6, ev_X4_isNumeral_7, ev_X4_isNumeral_9, ev_X4_isNumeral_12, ev_X4_isNumeral_13, ev_X4_isNumeral_16, ev_X4_isNumeral_17, xt_X4_isNumeral, xf_X4_isNumeral]
    try simp (disch := omega) only [wI_id, dv_nn, rm_nn]
    repeat' (first | intro z | apply And.intro)
    all_goals try omega
    all_goals try contradiction
    all_goals exact h

/-- the signs of the cards, as a text -/
def Sgt (σ : Hp) : Prop := SK σ ∧ kd σ (-15) = 20 ∧ ln σ (fR σ 2000 (-15)) = 7 ∧ aI σ (fR σ 2000 (-15)) 0 = 40 ∧ aI σ (fR σ 2000 (-15)) 1 = 41 ∧ aI σ (fR σ 2000 (-15)) 2 = 60 ∧ aI σ (fR σ 2000 (-15)) 3 = 61 ∧ aI σ (fR σ 2000 (-15)) 4 = 43 ∧ aI σ (fR σ 2000 (-15)) 5 = 45 ∧ aI σ (fR σ 2000 (-15)) 6 = 59
theorem Sgt.idx {σ : Hp} (h : Sgt σ) {c v : Int} (hv : IdxOf σ (fR σ 2000 (-15)) c v) : (-1 ≤ v ∧ v < 7) ∧ (0 ≤ v ↔ sgn c) := by
  obtain ⟨-, -, h2, g0, g1, g2, g3, g4, g5, g6⟩ := h
  unfold IdxOf at hv
  unfold sgn
  rw [h2] at hv
  rcases hv with ⟨e, hv⟩ | ⟨e, hv⟩
  · have v0 := hv 0 (by omega) (by omega)
    have v1 := hv 1 (by omega) (by omega)
    have v2 := hv 2 (by omega) (by omega)
    have v3 := hv 3 (by omega) (by omega)
    have v4 := hv 4 (by omega) (by omega)
    have v5 := hv 5 (by omega) (by omega)
    have v6 := hv 6 (by omega) (by omega)
    omega
  · have q : v = 0 ∨ v = 1 ∨ v = 2 ∨ v = 3 ∨ v = 4 ∨ v = 5 ∨ v = 6 := by omega
    rcases q with q | q | q | q | q | q | q <;> (subst q; omega)

def sp_X4_isKnownSign : Sp := fun av σ Q => oI av fun s av => av = [] ∧ ((0 ≤ s ∧ s < 128) ∧ Sgt σ ∧ Q (some (vi (b2i (sgn s)))) σ)
theorem us_X4_isKnownSign (s : Int) (σ : Hp) (Q : Option AV → Hp → Prop) : sp_X4_isKnownSign [vi s] σ Q = (((0 ≤ s ∧ s < 128) ∧ Sgt σ ∧ Q (some (vi (b2i (sgn s)))) σ)) := propext ⟨fun h => h.2, fun h => ⟨rfl, h⟩⟩
theorem el_X4_isKnownSign {av : List AV} {σ : Hp} {Q : Option AV → Hp → Prop} (h : sp_X4_isKnownSign av σ Q) : ∃ (s : Int), av = [vi s] ∧ (((0 ≤ s ∧ s < 128) ∧ Sgt σ ∧ Q (some (vi (b2i (sgn s)))) σ)) := by
  obtain ⟨s, a0, rfl, h0⟩ := oI_s h
  obtain ⟨rfl, hz⟩ := h0
  exact ⟨s, rfl, hz⟩

def tb_X4_isKnownSign : Tab := [(0, .ldc 164, 2, (2, 0, 0, 15)), (2, .iload_n 0, 1, (0, 0, 0, 0)), (3, .invokevirtual 166, 3, (0, 0, 0, 0)), (6, .ifCond .lt 7, 3, (0, 0, 0, 0)), (9, .iconst 1, 1, (0, 0, 0, 0)), (10, .goto 4, 3, (0, 0, 0, 0)), (13, .iconst 0, 1, (0, 0, 0, 0)), (14, .ireturn, 1, (0, 0, 0, 0))]
set_option maxRecDepth 100000 in
theorem tk_X4_isKnownSign : TOK RX4 false cX4_isKnownSign tb_X4_isKnownSign := chkT_ok ft_X4 (by decide +kernel)
theorem rw_X4_1328 : Row RX4 (.invokevirtual 166) 3 2 0 0 4 sp_J0_indexOf_0f7a4 := row_VS (n := 1) c_J0_indexOf_0f7a4 ⟨TBL_in 946 (by decide +kernel) rfl, TBL_in 949 (by decide +kernel) rfl, TBL_in 133 (by decide +kernel) rfl, by decide +kernel, by decide⟩ rfl (TBL_in 947 (by decide +kernel) rfl) (TBL_in 948 (by decide +kernel) rfl) rc_J0_indexOf_0f7a4
def mt_X4_isKnownSign : List (Nat × Mt) := [(1328, 2, 0, 0, 4, sp_J0_indexOf_0f7a4)]
theorem em_X4_isKnownSign : mt_X4_isKnownSign.lookup 1328 = some (2, 0, 0, 4, sp_J0_indexOf_0f7a4) := rfl
theorem mk_X4_isKnownSign : MOK RX4 mt_X4_isKnownSign := by
  intro q hq
  simp only [mt_X4_isKnownSign, List.mem_cons, List.not_mem_nil, or_false] at hq
  rcases hq with rfl
  · exact rw_X4_1328
noncomputable def xe_X4_isKnownSign (ct : Nat → Bool) (K : Kt) (R : Option AV → Hp → Prop) (n : Nat) : Kt := exS 1 5 0 0 2 tb_X4_isKnownSign mt_X4_isKnownSign ct K R n
noncomputable def xk_X4_isKnownSign (ct : Nat → Bool) (K : Kt) (R : Option AV → Hp → Prop) (n : Nat) : Kt := exkS 1 5 0 0 2 tb_X4_isKnownSign mt_X4_isKnownSign ct K R n
theorem xt_X4_isKnownSign {ct : Nat → Bool} {K : Kt} {R : Option AV → Hp → Prop} {n pc : Nat} {ls : List (Option AV)} {st : List AV} {σ : Hp} {k : Nat × Nat} (h : ct pc = true) : xk_X4_isKnownSign ct K R n pc ls st σ k = K pc ls st σ k := by unfold xk_X4_isKnownSign exkS; rw [h]
theorem xf_X4_isKnownSign {ct : Nat → Bool} {K : Kt} {R : Option AV → Hp → Prop} {n pc : Nat} {ls : List (Option AV)} {st : List AV} {σ : Hp} {k : Nat × Nat} (h : ct pc = false) : xk_X4_isKnownSign ct K R n pc ls st σ k = xe_X4_isKnownSign ct K R n pc ls st σ k := by unfold xk_X4_isKnownSign exkS xe_X4_isKnownSign; rw [h]
theorem ev_X4_isKnownSign_0 {ct : Nat → Bool} {K : Kt} {R : Option AV → Hp → Prop} {n : Nat} {ls : List (Option AV)} {st : List AV} {σ : Hp} {k : Nat × Nat} : xe_X4_isKnownSign ct K R (n + 1) 0 ls st σ k = (xk_X4_isKnownSign ct K R n 2 ls (vr (-(15)) :: st) σ k) := exS_step.trans rfl
theorem ev_X4_isKnownSign_2 {ct : Nat → Bool} {K : Kt} {R : Option AV → Hp → Prop} {n : Nat} {ls : List (Option AV)} {st : List AV} {σ : Hp} {k : Nat × Nat} : xe_X4_isKnownSign ct K R (n + 1) 2 ls st σ k = (lI ls 0 fun x => xk_X4_isKnownSign ct K R n 3 ls (vi x :: st) σ k) := exS_step.trans rfl
theorem ev_X4_isKnownSign_3 {ct : Nat → Bool} {K : Kt} {R : Option AV → Hp → Prop} {n : Nat} {ls : List (Option AV)} {st : List AV} {σ : Hp} {k : Nat × Nat} : xe_X4_isKnownSign ct K R (n + 1) 3 ls st σ k = (popN 2 st [] fun av rest => (catS rest ≤ 8 ∧ 4 < 5 ∧ k.1 + 0 ≤ 0 ∧ k.2 + 0 ≤ 0) ∧ (sp_J0_indexOf_0f7a4) av σ fun v σ' => xk_X4_isKnownSign ct K R n 6 ls (v.toList ++ rest) σ' (k.1 + 0, k.2 + 0)) := exS_step.trans rfl
theorem ev_X4_isKnownSign_6 {ct : Nat → Bool} {K : Kt} {R : Option AV → Hp → Prop} {n : Nat} {ls : List (Option AV)} {st : List AV} {σ : Hp} {k : Nat × Nat} : xe_X4_isKnownSign ct K R (n + 1) 6 ls st σ k = (oI st fun x st => (wI x < wI 0 → xk_X4_isKnownSign ct K R n 13 ls st σ k) ∧ (¬ (wI x < wI 0) → xk_X4_isKnownSign ct K R n 9 ls st σ k)) := exS_step.trans rfl
theorem ev_X4_isKnownSign_9 {ct : Nat → Bool} {K : Kt} {R : Option AV → Hp → Prop} {n : Nat} {ls : List (Option AV)} {st : List AV} {σ : Hp} {k : Nat × Nat} : xe_X4_isKnownSign ct K R (n + 1) 9 ls st σ k = (xk_X4_isKnownSign ct K R n 10 ls (vi (1) :: st) σ k) := exS_step.trans rfl
theorem ev_X4_isKnownSign_10 {ct : Nat → Bool} {K : Kt} {R : Option AV → Hp → Prop} {n : Nat} {ls : List (Option AV)} {st : List AV} {σ : Hp} {k : Nat × Nat} : xe_X4_isKnownSign ct K R (n + 1) 10 ls st σ k = (xk_X4_isKnownSign ct K R n 14 ls st σ k) := exS_step.trans rfl
theorem ev_X4_isKnownSign_13 {ct : Nat → Bool} {K : Kt} {R : Option AV → Hp → Prop} {n : Nat} {ls : List (Option AV)} {st : List AV} {σ : Hp} {k : Nat × Nat} : xe_X4_isKnownSign ct K R (n + 1) 13 ls st σ k = (xk_X4_isKnownSign ct K R n 14 ls (vi (0) :: st) σ k) := exS_step.trans rfl
theorem ev_X4_isKnownSign_14 {ct : Nat → Bool} {K : Kt} {R : Option AV → Hp → Prop} {n : Nat} {ls : List (Option AV)} {st : List AV} {σ : Hp} {k : Nat × Nat} : xe_X4_isKnownSign ct K R (n + 1) 14 ls st σ k = (oI st fun x st => st = [] ∧ (x = 0 ∨ x = 1) ∧ R (some (vi x)) σ) := exS_step.trans rfl
def M_X4_isKnownSign : Md := (yX4_isKnownSign, cX4_isKnownSign, 1, (some FieldType.boolean), 5, 0, 0, 2, false, tb_X4_isKnownSign, mt_X4_isKnownSign)
theorem mm_X4_isKnownSign : MMOK M_X4_isKnownSign := ⟨by decide +kernel, tk_X4_isKnownSign, mk_X4_isKnownSign, rfl, fun h => by cases h⟩
theorem go_X4_isKnownSign {Q : Option AV → Hp → Prop} {ct : Nat → Bool} {pc : Nat} {ls : List (Option AV)} {st : List AV} {σ : Hp} {k : Nat × Nat} (n : Nat) (h : xe_X4_isKnownSign ct (Go M_X4_isKnownSign Q) Q n pc ls st σ k) : Go M_X4_isKnownSign Q pc ls st σ k := Go.exS mm_X4_isKnownSign h

set_option maxRecDepth 20000 in
theorem c_X4_isKnownSign : Ct yX4_isKnownSign cX4_isKnownSign 1 ((some FieldType.boolean)) 5 0 0 sp_X4_isKnownSign := by
  refine Ct.go (M := M_X4_isKnownSign) mm_X4_isKnownSign fun av σ Q h0 => ?_
  obtain ⟨s, rfl, h⟩ := el_X4_isKnownSign h0
  clear h0
  refine ⟨Nat.le_of_ble_eq_true rfl, ?_⟩
  show Go M_X4_isKnownSign Q 0 [some (vi s)] [] σ (0, 0)
  obtain ⟨hc, hg, h⟩ := h
  have hS := hg.1
  have hk20 := hg.2.1
  have hl := hg.2.2.1
  have w6 : ∀ v, IdxOf σ (fR σ 2000 (-15)) s v → Go M_X4_isKnownSign Q 6 [some (vi s)] [vi v] σ (0, 0) := fun v hv => by
    have e := hg.idx hv
    by_cases c1 : sgn s
    · rw [b2i_t c1] at h
      have := e.2.mpr c1
      refine go_X4_isKnownSign (ct := fun p => p == 13) 20 ?_
      simp only [oI, oL, oR, o1, lI, lL, lR, popN, catS, gv, stL, stL2, swt, cnd, spObj, List.getElem?_cons_zero, List.getElem?_cons_succ, List.getD_cons_zero, List.getD_cons_succ, List.set_cons_zero, List.set_cons_succ, List.nil_append, List.cons_append, Option.toList, Bool.or_false, Bool.false_or, Bool.or_true, Bool.true_or, Nat.reduceBEq, Nat.reduceAdd, Nat.reduceLT, Nat.reduceLeDiff, Int.reduceAdd, Int.reduceToNat, true_and, and_true, Fin.isValue, Fin.val_zero, Fin.val_one, Fin.val_two, Fin.reduceFinMk, eq_self, Int.reduceNeg, imp_self, Nat.reduceMul, Nat.le_refl, not_true_eq_false, not_false_eq_true, List.getElem?_nil, reduceCtorEq, true_or, or_true, Classical.not_not, implies_true, or_self, wI_0, wI_1, wI_m1, b2i_w, b2i_eq0, b2i_eq1, b2i_bool, nor_self, nx_pI, kd_pI, ln_pI, fI_pI, fL_pI, fR_pI, aI_pI, aL_pI, aR_pI, nx_pL, kd_pL, ln_pL, fI_pL, fL_pL, fR_pL, aI_pL, aL_pL, aR_pL, nx_pR, kd_pR, ln_pR, fI_pR, fL_pR, fR_pR, aI_pR, aL_pR, aR_pR, nx_qI, kd_qI, ln_qI, fI_qI, fL_qI, fR_qI, aI_qI, aL_qI, aR_qI, nx_qL, kd_qL, ln_qL, fI_qL, fL_qL, fR_qL, aI_qL, aL_qL, aR_qL, nx_qR, kd_qR, ln_qR, fI_qR, fL_qR, fR_qR, aI_qR, aL_qR, aR_qR, nx_mk, kd_mk, ln_mk, fI_mk, fL_mk, fR_mk, aI_mk, aL_mk, aR_mk, false_and, and_false, if_false, if_true, and_self, Int.reduceEq, Nat.reduceEqDiff, ite_self, MLay_pI, MLay_pL, MLay_qI, MLay_qL, ev_X4_isKnownSign_0, ev_X4_isKnownSign_2, ev_X4_isKnownSign_3, ev_X4_isKnownSign_6, ev_X4_isKnownSign_9, ev_X4_isKnownSign_10, ev_X4_isKnownSign_13, ev_X4_isKnownSign_14, xt_X4_isKnownSign, xf_X4_isKnownSign, us_J0_indexOf_0f7a4]
      try simp (disch := omega) only [wI_id, dv_nn, rm_nn]
      repeat' (first | intro z | apply And.intro)
      all_goals try omega
      all_goals try contradiction
      all_goals exact h
    · rw [b2i_f c1] at h
      have : ¬ 0 ≤ v := fun q => c1 (e.2.mp q)
      refine go_X4_isKnownSign (ct := fun p => p == 9) 20 ?_
      simp only [oI, oL, oR, o1, lI, lL, lR, popN, catS, gv, stL, stL2, swt, cnd, spObj, List.getElem?_cons_zero, List.getElem?_cons_succ, List.getD_cons_zero, List.getD_cons_succ, List.set_cons_zero, List.set_cons_succ, List.nil_append, List.cons_append, Option.toList, Bool.or_false, Bool.false_or, Bool.or_true, Bool.true_or, Nat.reduceBEq, Nat.reduceAdd, Nat.reduceLT, Nat.reduceLeDiff, Int.reduceAdd, Int.reduceToNat, true_and, and_true, Fin.isValue, Fin.val_zero, Fin.val_one, Fin.val_two, Fin.reduceFinMk, eq_self, Int.reduceNeg, imp_self, Nat.reduceMul, Nat.le_refl, not_true_eq_false, not_false_eq_true, List.getElem?_nil, reduceCtorEq, true_or, or_true, Classical.not_not, implies_true, or_self, wI_0, wI_1, wI_m1, b2i_w, b2i_eq0, b2i_eq1, b2i_bool, nor_self, nx_pI, kd_pI, ln_pI, fI_pI, fL_pI, fR_pI, aI_pI, aL_pI, aR_pI, nx_pL, kd_pL, ln_pL, fI_pL, fL_pL, fR_pL, aI_pL, aL_pL, aR_pL, nx_pR, kd_pR, ln_pR, fI_pR, fL_pR, fR_pR, aI_pR, aL_pR, aR_pR, nx_qI, kd_qI, ln_qI, fI_qI, fL_qI, fR_qI, aI_qI, aL_qI, aR_qI, nx_qL, kd_qL, ln_qL, fI_qL, fL_qL, fR_qL, aI_qL, aL_qL, aR_qL, nx_qR, kd_qR, ln_qR, fI_qR, fL_qR, fR_qR, aI_qR, aL_qR, aR_qR, nx_mk, kd_mk, ln_mk, fI_mk, fL_mk, fR_mk, aI_mk, aL_mk, aR_mk, false_and, and_false, if_false, if_true, and_self, Int.reduceEq, Nat.reduceEqDiff, ite_self, MLay_pI, MLay_pL, MLay_qI, MLay_qL, ev_X4_isKnownSign_0, ev_X4_isKnownSign_2, ev_X4_isKnownSign_3, ev_X4_isKnownSign_6, ev_X4_isKnownSign_9, ev_X4_isKnownSign_10, ev_X4_isKnownSign_13, ev_X4_isKnownSign_14, xt_X4_isKnownSign, xf_X4_isKnownSign, us_J0_indexOf_0f7a4]
      try simp (disch := omega) only [wI_id, dv_nn, rm_nn]
      repeat' (first | intro z | apply And.intro)
      all_goals try omega
      all_goals try contradiction
      all_goals exact h
  clear h
  refine go_X4_isKnownSign (ct := fun p => p == 6) 20 ?_
  simp only [oI, oL, oR, o1, lI, lL, lR, popN, catS, gv, stL, stL2, swt, cnd, spObj, List.getElem?_cons_zero, List.getElem?_cons_succ, List.getD_cons_zero, List.getD_cons_succ, List.set_cons_zero, List.set_cons_succ, List.nil_append, List.cons_append, Option.toList, Bool.or_false, Bool.false_or, Bool.or_true, Bool.true_or, Nat.reduceBEq, Nat.reduceAdd, Nat.reduceLT, Nat.reduceLeDiff, Int.reduceAdd, Int.reduceToNat, true_and, and_true, Fin.isValue, Fin.val_zero, Fin.val_one, Fin.val_two, Fin.reduceFinMk, eq_self, Int.reduceNeg, imp_self, Nat.reduceMul, Nat.le_refl, not_true_eq_false, not_false_eq_true, List.getElem?_nil, reduceCtorEq, true_or, or_true, Classical.not_not, implies_true, or_self, wI_0, wI_1, wI_m1, b2i_w, b2i_eq0, b2i_eq1, b2i_bool, nor_self, nx_pI, kd_pI, ln_pI, fI_pI, fL_pI, fR_pI, aI_pI, aL_pI, aR_pI, nx_pL, kd_pL, ln_pL, fI_pL, fL_pL, fR_pL, aI_pL, aL_pL, aR_pL, nx_pR, kd_pR, ln_pR, fI_pR, fL_pR, fR_pR, aI_pR, aL_pR, aR_pR, nx_qI, kd_qI, ln_qI, fI_qI, fL_qI, fR_qI, aI_qI, aL_qI, aR_qI, nx_qL, kd_qL, ln_qL, fI_qL, fL_qL, fR_qL, aI_qL, aL_qL, aR_qL, nx_qR, kd_qR, ln_qR, fI_qR, fL_qR, fR_qR, aI_qR, aL_qR, aR_qR, nx_mk, kd_mk, ln_mk, fI_mk, fL_mk, fR_mk, aI_mk, aL_mk, aR_mk, false_and, and_false, if_false, if_true, and_self, Int.reduceEq, Nat.reduceEqDiff, ite_self, MLay_pI, MLay_pL, MLay_qI, MLay_qL, ev_X4_isKnownSign_0, ev_X4_isKnownSign_2, ev_X4_isKnownSign_3, xt_X4_isKnownSign, xf_X4_isKnownSign, us_J0_indexOf_0f7a4, hS, hk20, hc, hl]
  repeat' (first | intro z | apply And.intro)
  all_goals try omega
  all_goals try contradiction
  all_goals first | exact w6 | exact w6 _ ‹_›

def sp_X4_isSign : Sp := fun av σ Q => oR av fun this av => oI av fun s av => av = [] ∧ kd σ this = 5 ∧ (this = 26 ∧ CLay σ ∧ (0 ≤ s ∧ s < 128) ∧ ∃ p, RD σ p ∧ Q (some (vi (b2i (isS (aI σ 25) (fI σ 901 24) p s)))) σ)
theorem us_X4_isSign (this : Int) (s : Int) (σ : Hp) (Q : Option AV → Hp → Prop) : sp_X4_isSign [vr this, vi s] σ Q = (kd σ this = 5 ∧ (this = 26 ∧ CLay σ ∧ (0 ≤ s ∧ s < 128) ∧ ∃ p, RD σ p ∧ Q (some (vi (b2i (isS (aI σ 25) (fI σ 901 24) p s)))) σ)) := propext ⟨fun h => h.2, fun h => ⟨rfl, h⟩⟩
theorem el_X4_isSign {av : List AV} {σ : Hp} {Q : Option AV → Hp → Prop} (h : sp_X4_isSign av σ Q) : ∃ (this : Int) (s : Int), av = [vr this, vi s] ∧ (kd σ this = 5 ∧ (this = 26 ∧ CLay σ ∧ (0 ≤ s ∧ s < 128) ∧ ∃ p, RD σ p ∧ Q (some (vi (b2i (isS (aI σ 25) (fI σ 901 24) p s)))) σ)) := by
  obtain ⟨this, a0, rfl, h0⟩ := oR_s h
  obtain ⟨s, a1, rfl, h1⟩ := oI_s h0
  obtain ⟨rfl, hz⟩ := h1
  exact ⟨this, s, rfl, hz⟩
theorem rc_X4_isSign : ∀ (av : List AV) (σ : Hp) (Q : Option AV → Hp → Prop), sp_X4_isSign av σ Q → ∃ r tl, av = vr r :: tl ∧ kd σ r = 4 + 1 := fun av σ Q h => by
  obtain ⟨this, s, rfl, hz, -⟩ := el_X4_isSign h
  exact ⟨this, _, rfl, hz⟩

def tb_X4_isSign : Tab := [(0, .aload_n 0, 1, (0, 0, 0, 0)), (1, .getfield 25, 3, (5, 502, 0, 0)), (4, .iconst 4, 1, (0, 0, 0, 0)), (5, .if_icmp .ne 22, 3, (0, 0, 0, 0)), (8, .aload_n 0, 1, (0, 0, 0, 0)), (9, .getfield 12, 3, (5, 500, 2, 0)), (12, .aload_n 0, 1, (0, 0, 0, 0)), (13, .getfield 29, 3, (5, 503, 0, 0)), (16, .invokevirtual 136, 3, (0, 0, 0, 0)), (19, .iload_n 1, 1, (0, 0, 0, 0)), (20, .if_icmp .ne 7, 3, (0, 0, 0, 0)), (23, .iconst 1, 1, (0, 0, 0, 0)), (24, .goto 4, 3, (0, 0, 0, 0)), (27, .iconst 0, 1, (0, 0, 0, 0)), (28, .ireturn, 1, (0, 0, 0, 0))]
set_option maxRecDepth 100000 in
theorem tk_X4_isSign : TOK RX4 false cX4_isSign tb_X4_isSign := chkT_ok ft_X4 (by decide +kernel)
theorem rw_X4_1088 : Row RX4 (.invokevirtual 136) 3 2 0 0 1 sp_X8_signAt := row_V (n := 1) (ci := 8) c_X8_signAt ⟨TBL_in 921 (by decide +kernel) rfl, TBL_in 924 (by decide +kernel) rfl, TBL_in 119 (by decide +kernel) rfl, by decide +kernel, by decide⟩ (by decide) rfl (TBL_in 922 (by decide +kernel) rfl) (TBL_in 923 (by decide +kernel) rfl) rc_X8_signAt
def mt_X4_isSign : List (Nat × Mt) := [(1088, 2, 0, 0, 1, sp_X8_signAt)]
theorem em_X4_isSign : mt_X4_isSign.lookup 1088 = some (2, 0, 0, 1, sp_X8_signAt) := rfl
theorem mk_X4_isSign : MOK RX4 mt_X4_isSign := by
  intro q hq
  simp only [mt_X4_isSign, List.mem_cons, List.not_mem_nil, or_false] at hq
  rcases hq with rfl
  · exact rw_X4_1088
noncomputable def xe_X4_isSign (ct : Nat → Bool) (K : Kt) (R : Option AV → Hp → Prop) (n : Nat) : Kt := exS 2 2 0 0 2 tb_X4_isSign mt_X4_isSign ct K R n
noncomputable def xk_X4_isSign (ct : Nat → Bool) (K : Kt) (R : Option AV → Hp → Prop) (n : Nat) : Kt := exkS 2 2 0 0 2 tb_X4_isSign mt_X4_isSign ct K R n
theorem xt_X4_isSign {ct : Nat → Bool} {K : Kt} {R : Option AV → Hp → Prop} {n pc : Nat} {ls : List (Option AV)} {st : List AV} {σ : Hp} {k : Nat × Nat} (h : ct pc = true) : xk_X4_isSign ct K R n pc ls st σ k = K pc ls st σ k := by unfold xk_X4_isSign exkS; rw [h]
theorem xf_X4_isSign {ct : Nat → Bool} {K : Kt} {R : Option AV → Hp → Prop} {n pc : Nat} {ls : List (Option AV)} {st : List AV} {σ : Hp} {k : Nat × Nat} (h : ct pc = false) : xk_X4_isSign ct K R n pc ls st σ k = xe_X4_isSign ct K R n pc ls st σ k := by unfold xk_X4_isSign exkS xe_X4_isSign; rw [h]
theorem ev_X4_isSign_0 {ct : Nat → Bool} {K : Kt} {R : Option AV → Hp → Prop} {n : Nat} {ls : List (Option AV)} {st : List AV} {σ : Hp} {k : Nat × Nat} : xe_X4_isSign ct K R (n + 1) 0 ls st σ k = (lR ls 0 fun x => xk_X4_isSign ct K R n 1 ls (vr x :: st) σ k) := exS_step.trans rfl
theorem ev_X4_isSign_1 {ct : Nat → Bool} {K : Kt} {R : Option AV → Hp → Prop} {n : Nat} {ls : List (Option AV)} {st : List AV} {σ : Hp} {k : Nat × Nat} : xe_X4_isSign ct K R (n + 1) 1 ls st σ k = (oR st fun x st => kd σ x = 5 ∧ xk_X4_isSign ct K R n 4 ls (vi (fI σ 502 x) :: st) σ k) := exS_step.trans rfl
theorem ev_X4_isSign_4 {ct : Nat → Bool} {K : Kt} {R : Option AV → Hp → Prop} {n : Nat} {ls : List (Option AV)} {st : List AV} {σ : Hp} {k : Nat × Nat} : xe_X4_isSign ct K R (n + 1) 4 ls st σ k = (xk_X4_isSign ct K R n 5 ls (vi (4) :: st) σ k) := exS_step.trans rfl
theorem ev_X4_isSign_5 {ct : Nat → Bool} {K : Kt} {R : Option AV → Hp → Prop} {n : Nat} {ls : List (Option AV)} {st : List AV} {σ : Hp} {k : Nat × Nat} : xe_X4_isSign ct K R (n + 1) 5 ls st σ k = (oI st fun y st => oI st fun x st => (¬ wI x = wI y → xk_X4_isSign ct K R n 27 ls st σ k) ∧ (¬ (¬ wI x = wI y) → xk_X4_isSign ct K R n 8 ls st σ k)) := exS_step.trans rfl
theorem ev_X4_isSign_8 {ct : Nat → Bool} {K : Kt} {R : Option AV → Hp → Prop} {n : Nat} {ls : List (Option AV)} {st : List AV} {σ : Hp} {k : Nat × Nat} : xe_X4_isSign ct K R (n + 1) 8 ls st σ k = (lR ls 0 fun x => xk_X4_isSign ct K R n 9 ls (vr x :: st) σ k) := exS_step.trans rfl
theorem ev_X4_isSign_9 {ct : Nat → Bool} {K : Kt} {R : Option AV → Hp → Prop} {n : Nat} {ls : List (Option AV)} {st : List AV} {σ : Hp} {k : Nat × Nat} : xe_X4_isSign ct K R (n + 1) 9 ls st σ k = (oR st fun x st => kd σ x = 5 ∧ xk_X4_isSign ct K R n 12 ls (vr (fR σ 500 x) :: st) σ k) := exS_step.trans rfl
theorem ev_X4_isSign_12 {ct : Nat → Bool} {K : Kt} {R : Option AV → Hp → Prop} {n : Nat} {ls : List (Option AV)} {st : List AV} {σ : Hp} {k : Nat × Nat} : xe_X4_isSign ct K R (n + 1) 12 ls st σ k = (lR ls 0 fun x => xk_X4_isSign ct K R n 13 ls (vr x :: st) σ k) := exS_step.trans rfl
theorem ev_X4_isSign_13 {ct : Nat → Bool} {K : Kt} {R : Option AV → Hp → Prop} {n : Nat} {ls : List (Option AV)} {st : List AV} {σ : Hp} {k : Nat × Nat} : xe_X4_isSign ct K R (n + 1) 13 ls st σ k = (oR st fun x st => kd σ x = 5 ∧ xk_X4_isSign ct K R n 16 ls (vi (fI σ 503 x) :: st) σ k) := exS_step.trans rfl
theorem ev_X4_isSign_16 {ct : Nat → Bool} {K : Kt} {R : Option AV → Hp → Prop} {n : Nat} {ls : List (Option AV)} {st : List AV} {σ : Hp} {k : Nat × Nat} : xe_X4_isSign ct K R (n + 1) 16 ls st σ k = (popN 2 st [] fun av rest => (catS rest ≤ 8 ∧ 1 < 2 ∧ k.1 + 0 ≤ 0 ∧ k.2 + 0 ≤ 0) ∧ (sp_X8_signAt) av σ fun v σ' => xk_X4_isSign ct K R n 19 ls (v.toList ++ rest) σ' (k.1 + 0, k.2 + 0)) := exS_step.trans rfl
theorem ev_X4_isSign_19 {ct : Nat → Bool} {K : Kt} {R : Option AV → Hp → Prop} {n : Nat} {ls : List (Option AV)} {st : List AV} {σ : Hp} {k : Nat × Nat} : xe_X4_isSign ct K R (n + 1) 19 ls st σ k = (lI ls 1 fun x => xk_X4_isSign ct K R n 20 ls (vi x :: st) σ k) := exS_step.trans rfl
theorem ev_X4_isSign_20 {ct : Nat → Bool} {K : Kt} {R : Option AV → Hp → Prop} {n : Nat} {ls : List (Option AV)} {st : List AV} {σ : Hp} {k : Nat × Nat} : xe_X4_isSign ct K R (n + 1) 20 ls st σ k = (oI st fun y st => oI st fun x st => (¬ wI x = wI y → xk_X4_isSign ct K R n 27 ls st σ k) ∧ (¬ (¬ wI x = wI y) → xk_X4_isSign ct K R n 23 ls st σ k)) := exS_step.trans rfl
theorem ev_X4_isSign_23 {ct : Nat → Bool} {K : Kt} {R : Option AV → Hp → Prop} {n : Nat} {ls : List (Option AV)} {st : List AV} {σ : Hp} {k : Nat × Nat} : xe_X4_isSign ct K R (n + 1) 23 ls st σ k = (xk_X4_isSign ct K R n 24 ls (vi (1) :: st) σ k) := exS_step.trans rfl
theorem ev_X4_isSign_24 {ct : Nat → Bool} {K : Kt} {R : Option AV → Hp → Prop} {n : Nat} {ls : List (Option AV)} {st : List AV} {σ : Hp} {k : Nat × Nat} : xe_X4_isSign ct K R (n + 1) 24 ls st σ k = (xk_X4_isSign ct K R n 28 ls st σ k) := exS_step.trans rfl
theorem ev_X4_isSign_27 {ct : Nat → Bool} {K : Kt} {R : Option AV → Hp → Prop} {n : Nat} {ls : List (Option AV)} {st : List AV} {σ : Hp} {k : Nat × Nat} : xe_X4_isSign ct K R (n + 1) 27 ls st σ k = (xk_X4_isSign ct K R n 28 ls (vi (0) :: st) σ k) := exS_step.trans rfl
theorem ev_X4_isSign_28 {ct : Nat → Bool} {K : Kt} {R : Option AV → Hp → Prop} {n : Nat} {ls : List (Option AV)} {st : List AV} {σ : Hp} {k : Nat × Nat} : xe_X4_isSign ct K R (n + 1) 28 ls st σ k = (oI st fun x st => st = [] ∧ (x = 0 ∨ x = 1) ∧ R (some (vi x)) σ) := exS_step.trans rfl
def M_X4_isSign : Md := (yX4_isSign, cX4_isSign, 2, (some FieldType.boolean), 2, 0, 0, 2, false, tb_X4_isSign, mt_X4_isSign)
theorem mm_X4_isSign : MMOK M_X4_isSign := ⟨by decide +kernel, tk_X4_isSign, mk_X4_isSign, rfl, fun h => by cases h⟩
theorem go_X4_isSign {Q : Option AV → Hp → Prop} {ct : Nat → Bool} {pc : Nat} {ls : List (Option AV)} {st : List AV} {σ : Hp} {k : Nat × Nat} (n : Nat) (h : xe_X4_isSign ct (Go M_X4_isSign Q) Q n pc ls st σ k) : Go M_X4_isSign Q pc ls st σ k := Go.exS mm_X4_isSign h

set_option maxRecDepth 20000 in
theorem c_X4_isSign : Ct yX4_isSign cX4_isSign 2 ((some FieldType.boolean)) 2 0 0 sp_X4_isSign := by
  refine Ct.go (M := M_X4_isSign) mm_X4_isSign fun av σ Q h0 => ?_
  obtain ⟨this, s, rfl, hk, h⟩ := el_X4_isSign h0
  clear h0
  refine ⟨Nat.le_of_ble_eq_true rfl, ?_⟩
  show Go M_X4_isSign Q 0 [some (vr this), some (vi s)] [] σ (0, 0)
  obtain ⟨rfl, hC, hs, p, hR, h⟩ := h
  obtain ⟨⟨hz, hL⟩, hp, r1, r2, r3, r4⟩ := hR
  have hL2 : ∀ j, 0 ≤ aI σ 25 j ∧ aI σ 25 j ≤ 255 := fun j => by have := hL j; omega
  have ht := tok_in (aI σ 25) hp.2
  have htk := km_in (aI σ 25) (fI σ 901 24) p
  unfold isS at h
  clear r4 r2
  have hLk := hL (kB (aI σ 25) (fI σ 901 24) p)
  generalize tK (aI σ 25) (fI σ 901 24) p = k0 at *
  generalize tE (aI σ 25) (fI σ 901 24) p = e0 at *
  generalize kB (aI σ 25) (fI σ 901 24) p = b0 at *
  generalize km k0 = k1 at *
  by_cases c1 : k0 = 3
  · have b1 := ht.2.2.2.2 (by omega)
    have hin : (0 ≤ b0 ∧ b0 < fI σ 901 24) := by omega
    have hiR : inR b0 := by unfold inR; omega
    have k4 : k1 = 4 := by omega
    subst k4
    by_cases c2 : aI σ 25 b0 = s
    · rw [b2i_t ⟨c1, c2⟩] at h
      refine go_X4_isSign (ct := fun p => p == 27) 40 ?_
      simp only [oI, oL, oR, o1, lI, lL, lR, popN, catS, gv, stL, stL2, swt, cnd, spObj, List.getElem?_cons_zero, List.getElem?_cons_succ, List.getD_cons_zero, List.getD_cons_succ, List.set_cons_zero, List.set_cons_succ, List.nil_append, List.cons_append, Option.toList, Bool.or_false, Bool.false_or, Bool.or_true, Bool.true_or, Nat.reduceBEq, Nat.reduceAdd, Nat.reduceLT, Nat.reduceLeDiff, Int.reduceAdd, Int.reduceToNat, true_and, and_true, Fin.isValue, Fin.val_zero, Fin.val_one, Fin.val_two, Fin.reduceFinMk, eq_self, Int.reduceNeg, imp_self, Nat.reduceMul, Nat.le_refl, not_true_eq_false, not_false_eq_true, List.getElem?_nil, reduceCtorEq, true_or, or_true, Classical.not_not, implies_true, or_self, wI_0, wI_1, wI_m1, b2i_w, b2i_eq0, b2i_eq1, b2i_bool, nor_self, nx_pI, kd_pI, ln_pI, fI_pI, fL_pI, fR_pI, aI_pI, aL_pI, aR_pI, nx_pL, kd_pL, ln_pL, fI_pL, fL_pL, fR_pL, aI_pL, aL_pL, aR_pL, nx_pR, kd_pR, ln_pR, fI_pR, fL_pR, fR_pR, aI_pR, aL_pR, aR_pR, nx_qI, kd_qI, ln_qI, fI_qI, fL_qI, fR_qI, aI_qI, aL_qI, aR_qI, nx_qL, kd_qL, ln_qL, fI_qL, fL_qL, fR_qL, aI_qL, aL_qL, aR_qL, nx_qR, kd_qR, ln_qR, fI_qR, fL_qR, fR_qR, aI_qR, aL_qR, aR_qR, nx_mk, kd_mk, ln_mk, fI_mk, fL_mk, fR_mk, aI_mk, aL_mk, aR_mk, false_and, and_false, if_false, if_true, and_self, Int.reduceEq, Nat.reduceEqDiff, ite_self, MLay_pI, MLay_pL, MLay_qI, MLay_qL, ev_X4_isSign_0, ev_X4_isSign_1, ev_X4_isSign_4, ev_X4_isSign_5, ev_X4_isSign_8, ev_X4_isSign_9, ev_X4_isSign_12, ev_X4_isSign_13, ev_X4_isSign_16, ev_X4_isSign_19, ev_X4_isSign_20, ev_X4_isSign_23, ev_X4_isSign_24, ev_X4_isSign_27, ev_X4_isSign_28, xt_X4_isSign, xf_X4_isSign, us_X8_signAt, hC, hC.eqs, hk, hz, hL2, r1, r3, hin, hiR, c2]
      try simp (disch := omega) only [wI_id, dv_nn, rm_nn]
      repeat' (first | intro z | apply And.intro)
      all_goals try omega
      all_goals try contradiction
      all_goals exact h
    · rw [b2i_f (fun q => c2 q.2)] at h
      refine go_X4_isSign (ct := fun p => p == 23) 40 ?_
      simp only [oI, oL, oR, o1, lI, lL, lR, popN, catS, gv, stL, stL2, swt, cnd, spObj, List.getElem?_cons_zero, List.getElem?_cons_succ, List.getD_cons_zero, List.getD_cons_succ, List.set_cons_zero, List.set_cons_succ, List.nil_append, List.cons_append, Option.toList, Bool.or_false, Bool.false_or, Bool.or_true, Bool.true_or, Nat.reduceBEq, Nat.reduceAdd, Nat.reduceLT, Nat.reduceLeDiff, Int.reduceAdd, Int.reduceToNat, true_and, and_true, Fin.isValue, Fin.val_zero, Fin.val_one, Fin.val_two, Fin.reduceFinMk, eq_self, Int.reduceNeg, imp_self, Nat.reduceMul, Nat.le_refl, not_true_eq_false, not_false_eq_true, List.getElem?_nil, reduceCtorEq, true_or, or_true, Classical.not_not, implies_true, or_self, wI_0, wI_1, wI_m1, b2i_w, b2i_eq0, b2i_eq1, b2i_bool, nor_self, nx_pI, kd_pI, ln_pI, fI_pI, fL_pI, fR_pI, aI_pI, aL_pI, aR_pI, nx_pL, kd_pL, ln_pL, fI_pL, fL_pL, fR_pL, aI_pL, aL_pL, aR_pL, nx_pR, kd_pR, ln_pR, fI_pR, fL_pR, fR_pR, aI_pR, aL_pR, aR_pR, nx_qI, kd_qI, ln_qI, fI_qI, fL_qI, fR_qI, aI_qI, aL_qI, aR_qI, nx_qL, kd_qL, ln_qL, fI_qL, fL_qL, fR_qL, aI_qL, aL_qL, aR_qL, nx_qR, kd_qR, ln_qR, fI_qR, fL_qR, fR_qR, aI_qR, aL_qR, aR_qR, nx_mk, kd_mk, ln_mk, fI_mk, fL_mk, fR_mk, aI_mk, aL_mk, aR_mk, false_and, and_false, if_false, if_true, and_self, Int.reduceEq, Nat.reduceEqDiff, ite_self, MLay_pI, MLay_pL, MLay_qI, MLay_qL, ev_X4_isSign_0, ev_X4_isSign_1, ev_X4_isSign_4, ev_X4_isSign_5, ev_X4_isSign_8, ev_X4_isSign_9, ev_X4_isSign_12, ev_X4_isSign_13, ev_X4_isSign_16, ev_X4_isSign_19, ev_X4_isSign_20, ev_X4_isSign_23, ev_X4_isSign_24, ev_X4_isSign_27, ev_X4_isSign_28, xt_X4_isSign, xf_X4_isSign, us_X8_signAt, hC, hC.eqs, hk, hz, hL2, r1, r3, hin, hiR]
      try simp (disch := omega) only [wI_id, dv_nn, rm_nn]
      repeat' (first | intro z | apply And.intro)
      all_goals try omega
      all_goals try contradiction
      all_goals exact h
  · rw [b2i_f (fun q => c1 q.1)] at h
    have k4 : ¬ k1 = 4 := by omega
    refine go_X4_isSign (ct := fun p => p == 8) 40 ?_
    simp only [oI, oL, oR, o1, lI, lL, lR, popN, catS, gv, stL, stL2, swt, cnd, spObj, List.getElem?_cons_zero, List.getElem?_cons_succ, List.getD_cons_zero, List.getD_cons_succ, List.set_cons_zero, List.set_cons_succ, List.nil_append, List.cons_append, Option.toList, Bool.or_false, Bool.false_or, Bool.or_true, Bool.true_or, Nat.reduceBEq, Nat.reduceAdd, Nat.reduceLT, Nat.reduceLeDiff, Int.reduceAdd, Int.reduceToNat, true_and, and_true, Fin.isValue, Fin.val_zero, Fin.val_one, Fin.val_two, Fin.reduceFinMk, eq_self, Int.reduceNeg, imp_self, Nat.reduceMul, Nat.le_refl, not_true_eq_false, not_false_eq_true, List.getElem?_nil, reduceCtorEq, true_or, or_true, Classical.not_not, implies_true, or_self, wI_0, wI_1, wI_m1, b2i_w, b2i_eq0, b2i_eq1, b2i_bool, nor_self, nx_pI, kd_pI, ln_pI, fI_pI, fL_pI, fR_pI, aI_pI, aL_pI, aR_pI, nx_pL, kd_pL, ln_pL, fI_pL, fL_pL, fR_pL, aI_pL, aL_pL, aR_pL, nx_pR, kd_pR, ln_pR, fI_pR, fL_pR, fR_pR, aI_pR, aL_pR, aR_pR, nx_qI, kd_qI, ln_qI, fI_qI, fL_qI, fR_qI, aI_qI, aL_qI, aR_qI, nx_qL, kd_qL, ln_qL, fI_qL, fL_qL, fR_qL, aI_qL, aL_qL, aR_qL, nx_qR, kd_qR, ln_qR, fI_qR, fL_qR, fR_qR, aI_qR, aL_qR, aR_qR, nx_mk, kd_mk, ln_mk, fI_mk, fL_mk, fR_mk, aI_mk, aL_mk, aR_mk, false_and, and_false, if_false, if_true, and_self, Int.reduceEq, Nat.reduceEqDiff, ite_self, MLay_pI, MLay_pL, MLay_qI, MLay_qL, ev_X4_isSign_0, ev_X4_isSign_1, ev_X4_isSign_4, ev_X4_isSign_5, ev_X4_isSign_8, ev_X4_isSign_9, ev_X4_isSign_12, ev_X4_isSign_13, ev_X4_isSign_16, ev_X4_isSign_19, ev_X4_isSign_20, ev_X4_isSign_23, ev_X4_isSign_24, ev_X4_isSign_27, ev_X4_isSign_28, xt_X4_isSign, xf_X4_isSign, us_X8_signAt, hk, r3]
    try simp (disch := omega) only [wI_id, dv_nn, rm_nn]
    repeat' (first | intro z | apply And.intro)
    all_goals try omega
    all_goals try contradiction
    all_goals exact h

def sp_X4_isWord : Sp := fun av σ Q => oR av fun this av => oR av fun r av => av = [] ∧ kd σ this = 5 ∧ (this = 26 ∧ CLay σ ∧ ∃ p w, RD σ p ∧ Wd σ r w ∧ Q (some (vi (b2i (isW (aI σ 25) (fI σ 901 24) p (BitVec.ofInt 64 w))))) σ)
theorem us_X4_isWord (this : Int) (r : Int) (σ : Hp) (Q : Option AV → Hp → Prop) : sp_X4_isWord [vr this, vr r] σ Q = (kd σ this = 5 ∧ (this = 26 ∧ CLay σ ∧ ∃ p w, RD σ p ∧ Wd σ r w ∧ Q (some (vi (b2i (isW (aI σ 25) (fI σ 901 24) p (BitVec.ofInt 64 w))))) σ)) := propext ⟨fun h => h.2, fun h => ⟨rfl, h⟩⟩
theorem el_X4_isWord {av : List AV} {σ : Hp} {Q : Option AV → Hp → Prop} (h : sp_X4_isWord av σ Q) : ∃ (this : Int) (r : Int), av = [vr this, vr r] ∧ (kd σ this = 5 ∧ (this = 26 ∧ CLay σ ∧ ∃ p w, RD σ p ∧ Wd σ r w ∧ Q (some (vi (b2i (isW (aI σ 25) (fI σ 901 24) p (BitVec.ofInt 64 w))))) σ)) := by
  obtain ⟨this, a0, rfl, h0⟩ := oR_s h
  obtain ⟨r, a1, rfl, h1⟩ := oR_s h0
  obtain ⟨rfl, hz⟩ := h1
  exact ⟨this, r, rfl, hz⟩
theorem rc_X4_isWord : ∀ (av : List AV) (σ : Hp) (Q : Option AV → Hp → Prop), sp_X4_isWord av σ Q → ∃ r tl, av = vr r :: tl ∧ kd σ r = 4 + 1 := fun av σ Q h => by
  obtain ⟨this, r, rfl, hz, -⟩ := el_X4_isWord h
  exact ⟨this, _, rfl, hz⟩

def tb_X4_isWord : Tab := [(0, .aload_n 0, 1, (0, 0, 0, 0)), (1, .getfield 25, 3, (5, 502, 0, 0)), (4, .iconst 2, 1, (0, 0, 0, 0)), (5, .if_icmp .ne 19, 3, (0, 0, 0, 0)), (8, .aload_n 0, 1, (0, 0, 0, 0)), (9, .getfield 32, 3, (5, 504, 0, 0)), (12, .aload_n 0, 1, (0, 0, 0, 0)), (13, .getfield 29, 3, (5, 503, 0, 0)), (16, .isub, 1, (0, 0, 0, 0)), (17, .aload_n 1, 1, (0, 0, 0, 0)), (18, .invokevirtual 131, 3, (0, 0, 0, 0)), (21, .if_icmp .eq 5, 3, (0, 0, 0, 0)), (24, .iconst 0, 1, (0, 0, 0, 0)), (25, .ireturn, 1, (0, 0, 0, 0)), (26, .iconst 0, 1, (0, 0, 0, 0)), (27, .istore_n 2, 1, (0, 0, 0, 0)), (28, .iload_n 2, 1, (0, 0, 0, 0)), (29, .aload_n 1, 1, (0, 0, 0, 0)), (30, .invokevirtual 131, 3, (0, 0, 0, 0)), (33, .if_icmp .ge 32, 3, (0, 0, 0, 0)), (36, .aload_n 0, 1, (0, 0, 0, 0)), (37, .getfield 12, 3, (5, 500, 2, 0)), (40, .aload_n 0, 1, (0, 0, 0, 0)), (41, .getfield 29, 3, (5, 503, 0, 0)), (44, .iload_n 2, 1, (0, 0, 0, 0)), (45, .iadd, 1, (0, 0, 0, 0)), (46, .invokevirtual 136, 3, (0, 0, 0, 0)), (49, .aload_n 1, 1, (0, 0, 0, 0)), (50, .iload_n 2, 1, (0, 0, 0, 0)), (51, .invokevirtual 140, 3, (0, 0, 0, 0)), (54, .if_icmp .eq 5, 3, (0, 0, 0, 0)), (57, .iconst 0, 1, (0, 0, 0, 0)), (58, .ireturn, 1, (0, 0, 0, 0)), (59, .iinc 2 1, 3, (0, 0, 0, 0)), (62, .goto (-34), 3, (0, 0, 0, 0)), (65, .iconst 1, 1, (0, 0, 0, 0)), (66, .ireturn, 1, (0, 0, 0, 0))]
set_option maxRecDepth 100000 in
theorem tk_X4_isWord : TOK RX4 false cX4_isWord tb_X4_isWord := chkT_ok ft_X4 (by decide +kernel)
theorem rw_X4_1048 : Row RX4 (.invokevirtual 131) 3 1 0 0 2 sp_J0_length_8abf5 := row_VS (n := 0) c_J0_length_8abf5 ⟨TBL_in 1037 (by decide +kernel) rfl, TBL_in 963 (by decide +kernel) rfl, TBL_in 133 (by decide +kernel) rfl, by decide +kernel, by decide⟩ rfl (TBL_in 961 (by decide +kernel) rfl) (TBL_in 962 (by decide +kernel) rfl) rc_J0_length_8abf5
theorem rw_X4_1120 : Row RX4 (.invokevirtual 140) 3 2 0 0 4 sp_J0_charAt_5068e := row_VS (n := 1) c_J0_charAt_5068e ⟨TBL_in 1038 (by decide +kernel) rfl, TBL_in 1041 (by decide +kernel) rfl, TBL_in 133 (by decide +kernel) rfl, by decide +kernel, by decide⟩ rfl (TBL_in 1039 (by decide +kernel) rfl) (TBL_in 1040 (by decide +kernel) rfl) rc_J0_charAt_5068e
def mt_X4_isWord : List (Nat × Mt) := [(1048, 1, 0, 0, 2, sp_J0_length_8abf5), (1088, 2, 0, 0, 1, sp_X8_signAt), (1120, 2, 0, 0, 4, sp_J0_charAt_5068e)]
theorem em_X4_isWord : mt_X4_isWord.lookup 1048 = some (1, 0, 0, 2, sp_J0_length_8abf5) ∧ mt_X4_isWord.lookup 1088 = some (2, 0, 0, 1, sp_X8_signAt) ∧ mt_X4_isWord.lookup 1120 = some (2, 0, 0, 4, sp_J0_charAt_5068e) := ⟨rfl, rfl, rfl⟩
theorem mk_X4_isWord : MOK RX4 mt_X4_isWord := by
  intro q hq
  simp only [mt_X4_isWord, List.mem_cons, List.not_mem_nil, or_false] at hq
  rcases hq with rfl | rfl | rfl
  · exact rw_X4_1048
  · exact rw_X4_1088
  · exact rw_X4_1120
noncomputable def xe_X4_isWord (ct : Nat → Bool) (K : Kt) (R : Option AV → Hp → Prop) (n : Nat) : Kt := exS 3 5 0 0 2 tb_X4_isWord mt_X4_isWord ct K R n
noncomputable def xk_X4_isWord (ct : Nat → Bool) (K : Kt) (R : Option AV → Hp → Prop) (n : Nat) : Kt := exkS 3 5 0 0 2 tb_X4_isWord mt_X4_isWord ct K R n
theorem xt_X4_isWord {ct : Nat → Bool} {K : Kt} {R : Option AV → Hp → Prop} {n pc : Nat} {ls : List (Option AV)} {st : List AV} {σ : Hp} {k : Nat × Nat} (h : ct pc = true) : xk_X4_isWord ct K R n pc ls st σ k = K pc ls st σ k := by unfold xk_X4_isWord exkS; rw [h]
theorem xf_X4_isWord {ct : Nat → Bool} {K : Kt} {R : Option AV → Hp → Prop} {n pc : Nat} {ls : List (Option AV)} {st : List AV} {σ : Hp} {k : Nat × Nat} (h : ct pc = false) : xk_X4_isWord ct K R n pc ls st σ k = xe_X4_isWord ct K R n pc ls st σ k := by unfold xk_X4_isWord exkS xe_X4_isWord; rw [h]
theorem ev_X4_isWord_0 {ct : Nat → Bool} {K : Kt} {R : Option AV → Hp → Prop} {n : Nat} {ls : List (Option AV)} {st : List AV} {σ : Hp} {k : Nat × Nat} : xe_X4_isWord ct K R (n + 1) 0 ls st σ k = (lR ls 0 fun x => xk_X4_isWord ct K R n 1 ls (vr x :: st) σ k) := exS_step.trans rfl
theorem ev_X4_isWord_1 {ct : Nat → Bool} {K : Kt} {R : Option AV → Hp → Prop} {n : Nat} {ls : List (Option AV)} {st : List AV} {σ : Hp} {k : Nat × Nat} : xe_X4_isWord ct K R (n + 1) 1 ls st σ k = (oR st fun x st => kd σ x = 5 ∧ xk_X4_isWord ct K R n 4 ls (vi (fI σ 502 x) :: st) σ k) := exS_step.trans rfl
theorem ev_X4_isWord_4 {ct : Nat → Bool} {K : Kt} {R : Option AV → Hp → Prop} {n : Nat} {ls : List (Option AV)} {st : List AV} {σ : Hp} {k : Nat × Nat} : xe_X4_isWord ct K R (n + 1) 4 ls st σ k = (xk_X4_isWord ct K R n 5 ls (vi (2) :: st) σ k) := exS_step.trans rfl
theorem ev_X4_isWord_5 {ct : Nat → Bool} {K : Kt} {R : Option AV → Hp → Prop} {n : Nat} {ls : List (Option AV)} {st : List AV} {σ : Hp} {k : Nat × Nat} : xe_X4_isWord ct K R (n + 1) 5 ls st σ k = (oI st fun y st => oI st fun x st => (¬ wI x = wI y → xk_X4_isWord ct K R n 24 ls st σ k) ∧ (¬ (¬ wI x = wI y) → xk_X4_isWord ct K R n 8 ls st σ k)) := exS_step.trans rfl
theorem ev_X4_isWord_8 {ct : Nat → Bool} {K : Kt} {R : Option AV → Hp → Prop} {n : Nat} {ls : List (Option AV)} {st : List AV} {σ : Hp} {k : Nat × Nat} : xe_X4_isWord ct K R (n + 1) 8 ls st σ k = (lR ls 0 fun x => xk_X4_isWord ct K R n 9 ls (vr x :: st) σ k) := exS_step.trans rfl
theorem ev_X4_isWord_9 {ct : Nat → Bool} {K : Kt} {R : Option AV → Hp → Prop} {n : Nat} {ls : List (Option AV)} {st : List AV} {σ : Hp} {k : Nat × Nat} : xe_X4_isWord ct K R (n + 1) 9 ls st σ k = (oR st fun x st => kd σ x = 5 ∧ xk_X4_isWord ct K R n 12 ls (vi (fI σ 504 x) :: st) σ k) := exS_step.trans rfl
theorem ev_X4_isWord_12 {ct : Nat → Bool} {K : Kt} {R : Option AV → Hp → Prop} {n : Nat} {ls : List (Option AV)} {st : List AV} {σ : Hp} {k : Nat × Nat} : xe_X4_isWord ct K R (n + 1) 12 ls st σ k = (lR ls 0 fun x => xk_X4_isWord ct K R n 13 ls (vr x :: st) σ k) := exS_step.trans rfl
theorem ev_X4_isWord_13 {ct : Nat → Bool} {K : Kt} {R : Option AV → Hp → Prop} {n : Nat} {ls : List (Option AV)} {st : List AV} {σ : Hp} {k : Nat × Nat} : xe_X4_isWord ct K R (n + 1) 13 ls st σ k = (oR st fun x st => kd σ x = 5 ∧ xk_X4_isWord ct K R n 16 ls (vi (fI σ 503 x) :: st) σ k) := exS_step.trans rfl
theorem ev_X4_isWord_16 {ct : Nat → Bool} {K : Kt} {R : Option AV → Hp → Prop} {n : Nat} {ls : List (Option AV)} {st : List AV} {σ : Hp} {k : Nat × Nat} : xe_X4_isWord ct K R (n + 1) 16 ls st σ k = (oI st fun y st => oI st fun x st => xk_X4_isWord ct K R n 17 ls (vi (x - y) :: st) σ k) := exS_step.trans rfl
theorem ev_X4_isWord_17 {ct : Nat → Bool} {K : Kt} {R : Option AV → Hp → Prop} {n : Nat} {ls : List (Option AV)} {st : List AV} {σ : Hp} {k : Nat × Nat} : xe_X4_isWord ct K R (n + 1) 17 ls st σ k = (lR ls 1 fun x => xk_X4_isWord ct K R n 18 ls (vr x :: st) σ k) := exS_step.trans rfl
theorem ev_X4_isWord_18 {ct : Nat → Bool} {K : Kt} {R : Option AV → Hp → Prop} {n : Nat} {ls : List (Option AV)} {st : List AV} {σ : Hp} {k : Nat × Nat} : xe_X4_isWord ct K R (n + 1) 18 ls st σ k = (popN 1 st [] fun av rest => (catS rest ≤ 8 ∧ 2 < 5 ∧ k.1 + 0 ≤ 0 ∧ k.2 + 0 ≤ 0) ∧ (sp_J0_length_8abf5) av σ fun v σ' => xk_X4_isWord ct K R n 21 ls (v.toList ++ rest) σ' (k.1 + 0, k.2 + 0)) := exS_step.trans rfl
theorem ev_X4_isWord_21 {ct : Nat → Bool} {K : Kt} {R : Option AV → Hp → Prop} {n : Nat} {ls : List (Option AV)} {st : List AV} {σ : Hp} {k : Nat × Nat} : xe_X4_isWord ct K R (n + 1) 21 ls st σ k = (oI st fun y st => oI st fun x st => (wI x = wI y → xk_X4_isWord ct K R n 26 ls st σ k) ∧ (¬ (wI x = wI y) → xk_X4_isWord ct K R n 24 ls st σ k)) := exS_step.trans rfl
theorem ev_X4_isWord_24 {ct : Nat → Bool} {K : Kt} {R : Option AV → Hp → Prop} {n : Nat} {ls : List (Option AV)} {st : List AV} {σ : Hp} {k : Nat × Nat} : xe_X4_isWord ct K R (n + 1) 24 ls st σ k = (xk_X4_isWord ct K R n 25 ls (vi (0) :: st) σ k) := exS_step.trans rfl
theorem ev_X4_isWord_25 {ct : Nat → Bool} {K : Kt} {R : Option AV → Hp → Prop} {n : Nat} {ls : List (Option AV)} {st : List AV} {σ : Hp} {k : Nat × Nat} : xe_X4_isWord ct K R (n + 1) 25 ls st σ k = (oI st fun x st => st = [] ∧ (x = 0 ∨ x = 1) ∧ R (some (vi x)) σ) := exS_step.trans rfl
theorem ev_X4_isWord_26 {ct : Nat → Bool} {K : Kt} {R : Option AV → Hp → Prop} {n : Nat} {ls : List (Option AV)} {st : List AV} {σ : Hp} {k : Nat × Nat} : xe_X4_isWord ct K R (n + 1) 26 ls st σ k = (xk_X4_isWord ct K R n 27 ls (vi (0) :: st) σ k) := exS_step.trans rfl
theorem ev_X4_isWord_27 {ct : Nat → Bool} {K : Kt} {R : Option AV → Hp → Prop} {n : Nat} {ls : List (Option AV)} {st : List AV} {σ : Hp} {k : Nat × Nat} : xe_X4_isWord ct K R (n + 1) 27 ls st σ k = (oI st fun x st => 2 < 3 ∧ xk_X4_isWord ct K R n 28 (stL ls 2 (vi x)) st σ k) := exS_step.trans rfl
theorem ev_X4_isWord_28 {ct : Nat → Bool} {K : Kt} {R : Option AV → Hp → Prop} {n : Nat} {ls : List (Option AV)} {st : List AV} {σ : Hp} {k : Nat × Nat} : xe_X4_isWord ct K R (n + 1) 28 ls st σ k = (lI ls 2 fun x => xk_X4_isWord ct K R n 29 ls (vi x :: st) σ k) := exS_step.trans rfl
theorem ev_X4_isWord_29 {ct : Nat → Bool} {K : Kt} {R : Option AV → Hp → Prop} {n : Nat} {ls : List (Option AV)} {st : List AV} {σ : Hp} {k : Nat × Nat} : xe_X4_isWord ct K R (n + 1) 29 ls st σ k = (lR ls 1 fun x => xk_X4_isWord ct K R n 30 ls (vr x :: st) σ k) := exS_step.trans rfl
theorem ev_X4_isWord_30 {ct : Nat → Bool} {K : Kt} {R : Option AV → Hp → Prop} {n : Nat} {ls : List (Option AV)} {st : List AV} {σ : Hp} {k : Nat × Nat} : xe_X4_isWord ct K R (n + 1) 30 ls st σ k = (popN 1 st [] fun av rest => (catS rest ≤ 8 ∧ 2 < 5 ∧ k.1 + 0 ≤ 0 ∧ k.2 + 0 ≤ 0) ∧ (sp_J0_length_8abf5) av σ fun v σ' => xk_X4_isWord ct K R n 33 ls (v.toList ++ rest) σ' (k.1 + 0, k.2 + 0)) := exS_step.trans rfl
theorem ev_X4_isWord_33 {ct : Nat → Bool} {K : Kt} {R : Option AV → Hp → Prop} {n : Nat} {ls : List (Option AV)} {st : List AV} {σ : Hp} {k : Nat × Nat} : xe_X4_isWord ct K R (n + 1) 33 ls st σ k = (oI st fun y st => oI st fun x st => (wI y ≤ wI x → xk_X4_isWord ct K R n 65 ls st σ k) ∧ (¬ (wI y ≤ wI x) → xk_X4_isWord ct K R n 36 ls st σ k)) := exS_step.trans rfl
theorem ev_X4_isWord_36 {ct : Nat → Bool} {K : Kt} {R : Option AV → Hp → Prop} {n : Nat} {ls : List (Option AV)} {st : List AV} {σ : Hp} {k : Nat × Nat} : xe_X4_isWord ct K R (n + 1) 36 ls st σ k = (lR ls 0 fun x => xk_X4_isWord ct K R n 37 ls (vr x :: st) σ k) := exS_step.trans rfl
theorem ev_X4_isWord_37 {ct : Nat → Bool} {K : Kt} {R : Option AV → Hp → Prop} {n : Nat} {ls : List (Option AV)} {st : List AV} {σ : Hp} {k : Nat × Nat} : xe_X4_isWord ct K R (n + 1) 37 ls st σ k = (oR st fun x st => kd σ x = 5 ∧ xk_X4_isWord ct K R n 40 ls (vr (fR σ 500 x) :: st) σ k) := exS_step.trans rfl
theorem ev_X4_isWord_40 {ct : Nat → Bool} {K : Kt} {R : Option AV → Hp → Prop} {n : Nat} {ls : List (Option AV)} {st : List AV} {σ : Hp} {k : Nat × Nat} : xe_X4_isWord ct K R (n + 1) 40 ls st σ k = (lR ls 0 fun x => xk_X4_isWord ct K R n 41 ls (vr x :: st) σ k) := exS_step.trans rfl
theorem ev_X4_isWord_41 {ct : Nat → Bool} {K : Kt} {R : Option AV → Hp → Prop} {n : Nat} {ls : List (Option AV)} {st : List AV} {σ : Hp} {k : Nat × Nat} : xe_X4_isWord ct K R (n + 1) 41 ls st σ k = (oR st fun x st => kd σ x = 5 ∧ xk_X4_isWord ct K R n 44 ls (vi (fI σ 503 x) :: st) σ k) := exS_step.trans rfl
theorem ev_X4_isWord_44 {ct : Nat → Bool} {K : Kt} {R : Option AV → Hp → Prop} {n : Nat} {ls : List (Option AV)} {st : List AV} {σ : Hp} {k : Nat × Nat} : xe_X4_isWord ct K R (n + 1) 44 ls st σ k = (lI ls 2 fun x => xk_X4_isWord ct K R n 45 ls (vi x :: st) σ k) := exS_step.trans rfl
theorem ev_X4_isWord_45 {ct : Nat → Bool} {K : Kt} {R : Option AV → Hp → Prop} {n : Nat} {ls : List (Option AV)} {st : List AV} {σ : Hp} {k : Nat × Nat} : xe_X4_isWord ct K R (n + 1) 45 ls st σ k = (oI st fun y st => oI st fun x st => xk_X4_isWord ct K R n 46 ls (vi (x + y) :: st) σ k) := exS_step.trans rfl
theorem ev_X4_isWord_46 {ct : Nat → Bool} {K : Kt} {R : Option AV → Hp → Prop} {n : Nat} {ls : List (Option AV)} {st : List AV} {σ : Hp} {k : Nat × Nat} : xe_X4_isWord ct K R (n + 1) 46 ls st σ k = (popN 2 st [] fun av rest => (catS rest ≤ 8 ∧ 1 < 5 ∧ k.1 + 0 ≤ 0 ∧ k.2 + 0 ≤ 0) ∧ (sp_X8_signAt) av σ fun v σ' => xk_X4_isWord ct K R n 49 ls (v.toList ++ rest) σ' (k.1 + 0, k.2 + 0)) := exS_step.trans rfl
theorem ev_X4_isWord_49 {ct : Nat → Bool} {K : Kt} {R : Option AV → Hp → Prop} {n : Nat} {ls : List (Option AV)} {st : List AV} {σ : Hp} {k : Nat × Nat} : xe_X4_isWord ct K R (n + 1) 49 ls st σ k = (lR ls 1 fun x => xk_X4_isWord ct K R n 50 ls (vr x :: st) σ k) := exS_step.trans rfl
theorem ev_X4_isWord_50 {ct : Nat → Bool} {K : Kt} {R : Option AV → Hp → Prop} {n : Nat} {ls : List (Option AV)} {st : List AV} {σ : Hp} {k : Nat × Nat} : xe_X4_isWord ct K R (n + 1) 50 ls st σ k = (lI ls 2 fun x => xk_X4_isWord ct K R n 51 ls (vi x :: st) σ k) := exS_step.trans rfl
theorem ev_X4_isWord_51 {ct : Nat → Bool} {K : Kt} {R : Option AV → Hp → Prop} {n : Nat} {ls : List (Option AV)} {st : List AV} {σ : Hp} {k : Nat × Nat} : xe_X4_isWord ct K R (n + 1) 51 ls st σ k = (popN 2 st [] fun av rest => (catS rest ≤ 8 ∧ 4 < 5 ∧ k.1 + 0 ≤ 0 ∧ k.2 + 0 ≤ 0) ∧ (sp_J0_charAt_5068e) av σ fun v σ' => xk_X4_isWord ct K R n 54 ls (v.toList ++ rest) σ' (k.1 + 0, k.2 + 0)) := exS_step.trans rfl
theorem ev_X4_isWord_54 {ct : Nat → Bool} {K : Kt} {R : Option AV → Hp → Prop} {n : Nat} {ls : List (Option AV)} {st : List AV} {σ : Hp} {k : Nat × Nat} : xe_X4_isWord ct K R (n + 1) 54 ls st σ k = (oI st fun y st => oI st fun x st => (wI x = wI y → xk_X4_isWord ct K R n 59 ls st σ k) ∧ (¬ (wI x = wI y) → xk_X4_isWord ct K R n 57 ls st σ k)) := exS_step.trans rfl
theorem ev_X4_isWord_57 {ct : Nat → Bool} {K : Kt} {R : Option AV → Hp → Prop} {n : Nat} {ls : List (Option AV)} {st : List AV} {σ : Hp} {k : Nat × Nat} : xe_X4_isWord ct K R (n + 1) 57 ls st σ k = (xk_X4_isWord ct K R n 58 ls (vi (0) :: st) σ k) := exS_step.trans rfl
theorem ev_X4_isWord_58 {ct : Nat → Bool} {K : Kt} {R : Option AV → Hp → Prop} {n : Nat} {ls : List (Option AV)} {st : List AV} {σ : Hp} {k : Nat × Nat} : xe_X4_isWord ct K R (n + 1) 58 ls st σ k = (oI st fun x st => st = [] ∧ (x = 0 ∨ x = 1) ∧ R (some (vi x)) σ) := exS_step.trans rfl
theorem ev_X4_isWord_59 {ct : Nat → Bool} {K : Kt} {R : Option AV → Hp → Prop} {n : Nat} {ls : List (Option AV)} {st : List AV} {σ : Hp} {k : Nat × Nat} : xe_X4_isWord ct K R (n + 1) 59 ls st σ k = (lI ls 2 fun x => 2 < 3 ∧ xk_X4_isWord ct K R n 62 (stL ls 2 (vi (x + (1)))) st σ k) := exS_step.trans rfl
theorem ev_X4_isWord_62 {ct : Nat → Bool} {K : Kt} {R : Option AV → Hp → Prop} {n : Nat} {ls : List (Option AV)} {st : List AV} {σ : Hp} {k : Nat × Nat} : xe_X4_isWord ct K R (n + 1) 62 ls st σ k = (xk_X4_isWord ct K R n 28 ls st σ k) := exS_step.trans rfl
theorem ev_X4_isWord_65 {ct : Nat → Bool} {K : Kt} {R : Option AV → Hp → Prop} {n : Nat} {ls : List (Option AV)} {st : List AV} {σ : Hp} {k : Nat × Nat} : xe_X4_isWord ct K R (n + 1) 65 ls st σ k = (xk_X4_isWord ct K R n 66 ls (vi (1) :: st) σ k) := exS_step.trans rfl
theorem ev_X4_isWord_66 {ct : Nat → Bool} {K : Kt} {R : Option AV → Hp → Prop} {n : Nat} {ls : List (Option AV)} {st : List AV} {σ : Hp} {k : Nat × Nat} : xe_X4_isWord ct K R (n + 1) 66 ls st σ k = (oI st fun x st => st = [] ∧ (x = 0 ∨ x = 1) ∧ R (some (vi x)) σ) := exS_step.trans rfl
def M_X4_isWord : Md := (yX4_isWord, cX4_isWord, 3, (some FieldType.boolean), 5, 0, 0, 2, false, tb_X4_isWord, mt_X4_isWord)
theorem mm_X4_isWord : MMOK M_X4_isWord := ⟨by decide +kernel, tk_X4_isWord, mk_X4_isWord, rfl, fun h => by cases h⟩
theorem go_X4_isWord {Q : Option AV → Hp → Prop} {ct : Nat → Bool} {pc : Nat} {ls : List (Option AV)} {st : List AV} {σ : Hp} {k : Nat × Nat} (n : Nat) (h : xe_X4_isWord ct (Go M_X4_isWord Q) Q n pc ls st σ k) : Go M_X4_isWord Q pc ls st σ k := Go.exS mm_X4_isWord h

set_option maxRecDepth 20000 in
theorem c_X4_isWord : Ct yX4_isWord cX4_isWord 3 ((some FieldType.boolean)) 5 0 0 sp_X4_isWord := by
  refine Ct.go (M := M_X4_isWord) mm_X4_isWord fun av σ Q h0 => ?_
  obtain ⟨this, r, rfl, hk, h⟩ := el_X4_isWord h0
  clear h0
  refine ⟨Nat.le_of_ble_eq_true rfl, ?_⟩
  show Go M_X4_isWord Q 0 [some (vr this), some (vr r), none] [] σ (0, 0)
  obtain ⟨rfl, hC, p, w, hR, hW, h⟩ := h
  obtain ⟨⟨hz, hL⟩, hp, r1, r2, r3, r4⟩ := hR
  obtain ⟨hS, hkr, hn, hT, hw⟩ := hW
  have hL2 : ∀ j, 0 ≤ aI σ 25 j ∧ aI σ 25 j ≤ 255 := fun j => by have := hL j; omega
  have ht := tok_in (aI σ 25) hp.2
  have htk := km_in (aI σ 25) (fI σ 901 24) p
  have hi := isW_iff (L := aI σ 25) (T := aI σ (fR σ 2000 r)) (z := fI σ 901 24) (p := p) (n := (ln σ (fR σ 2000 r)).toNat) hp.2 (by omega) (fun i a b => hT i a (by omega)) hw
  rw [← b2i_congr hi] at h
  clear hi hw r4
  have hS2 : ∀ j, 0 ≤ aI σ (fR σ 2000 r) j ∧ aI σ (fR σ 2000 r) j < 128 := (hS.2.2 _ (hS.2.1 r hkr).2).2
  generalize tK (aI σ 25) (fI σ 901 24) p = k0 at *
  generalize tE (aI σ 25) (fI σ 901 24) p = e0 at *
  generalize kB (aI σ 25) (fI σ 901 24) p = b0 at *
  generalize km k0 = k1 at *
  have hk9 := hk
  by_cases c1 : k0 = 1 ∧ e0 - b0 = ln σ (fR σ 2000 r)
  · have k2 : k1 = 2 := by omega
    subst k2
    have loop : ∀ (m : Nat) (i : Int), 0 ≤ i → i + m = ln σ (fR σ 2000 r) → (∀ j, 0 ≤ j → j < i → aI σ 25 (b0 + j) = aI σ (fR σ 2000 r) j) → Go M_X4_isWord Q 28 [some (vr 26), some (vr r), some (vi i)] [] σ (0, 0) := by
      intro m
      induction m with
      | zero =>
        intro i i0 im hj
        rw [b2i_t ⟨c1.1, by omega, fun j a b => hj j a (by omega)⟩] at h
        refine go_X4_isWord (ct := fun p => p == 36) 40 ?_
        simp only [oI, oL, oR, o1, lI, lL, lR, popN, catS, gv, stL, stL2, swt, cnd, spObj, List.getElem?_cons_zero, List.getElem?_cons_succ, List.getD_cons_zero, List.getD_cons_succ, List.set_cons_zero, List.set_cons_succ, List.nil_append, List.cons_append, Option.toList, Bool.or_false, Bool.false_or, Bool.or_true, Bool.true_or, Nat.reduceBEq, Nat.reduceAdd, Nat.reduceLT, Nat.reduceLeDiff, Int.reduceAdd, Int.reduceToNat, true_and, and_true, Fin.isValue, Fin.val_zero, Fin.val_one, Fin.val_two, Fin.reduceFinMk, eq_self, Int.reduceNeg, imp_self, Nat.reduceMul, Nat.le_refl, not_true_eq_false, not_false_eq_true, List.getElem?_nil, reduceCtorEq, true_or, or_true, Classical.not_not, implies_true, or_self, wI_0, wI_1, wI_m1, b2i_w, b2i_eq0, b2i_eq1, b2i_bool, nor_self, nx_pI, kd_pI, ln_pI, fI_pI, fL_pI, fR_pI, aI_pI, aL_pI, aR_pI, nx_pL, kd_pL, ln_pL, fI_pL, fL_pL, fR_pL, aI_pL, aL_pL, aR_pL, nx_pR, kd_pR, ln_pR, fI_pR, fL_pR, fR_pR, aI_pR, aL_pR, aR_pR, nx_qI, kd_qI, ln_qI, fI_qI, fL_qI, fR_qI, aI_qI, aL_qI, aR_qI, nx_qL, kd_qL, ln_qL, fI_qL, fL_qL, fR_qL, aI_qL, aL_qL, aR_qL, nx_qR, kd_qR, ln_qR, fI_qR, fL_qR, fR_qR, aI_qR, aL_qR, aR_qR, nx_mk, kd_mk, ln_mk, fI_mk, fL_mk, fR_mk, aI_mk, aL_mk, aR_mk, false_and, and_false, if_false, if_true, and_self, Int.reduceEq, Nat.reduceEqDiff, ite_self, MLay_pI, MLay_pL, MLay_qI, MLay_qL, ev_X4_isWord_28, ev_X4_isWord_29, ev_X4_isWord_30, ev_X4_isWord_33, ev_X4_isWord_65, ev_X4_isWord_66, xt_X4_isWord, xf_X4_isWord, us_J0_length_8abf5, us_X8_signAt, us_J0_charAt_5068e, hS, hkr]
        try simp (disch := omega) only [wI_id, dv_nn, rm_nn]
        repeat' (first | intro z | apply And.intro)
        all_goals try omega
        all_goals try contradiction
        all_goals exact h
      | succ m ih =>
        intro i i0 im hj
        have ih := ih (i + 1) (by omega) (by omega)
        have hLi := hL (b0 + i)
        have hSi := hS2 i
        have hin : 0 ≤ b0 + i ∧ b0 + i < fI σ 901 24 := by omega
        have hiR : inR (b0 + i) := by unfold inR; omega
        have hi2 : 0 ≤ i ∧ i < ln σ (fR σ 2000 r) := by omega
        by_cases c2 : aI σ 25 (b0 + i) = aI σ (fR σ 2000 r) i
        · have ih := ih (fun j a b => by
            by_cases e : j = i
            · rw [e]; exact c2
            · exact hj j a (by omega))
          clear h hj
          refine go_X4_isWord (ct := fun p => p == 65 || p == 57 || p == 28) 40 ?_
          simp only [oI, oL, oR, o1, lI, lL, lR, popN, catS, gv, stL, stL2, swt, cnd, spObj, List.getElem?_cons_zero, List.getElem?_cons_succ, List.getD_cons_zero, List.getD_cons_succ, List.set_cons_zero, List.set_cons_succ, List.nil_append, List.cons_append, Option.toList, Bool.or_false, Bool.false_or, Bool.or_true, Bool.true_or, Nat.reduceBEq, Nat.reduceAdd, Nat.reduceLT, Nat.reduceLeDiff, Int.reduceAdd, Int.reduceToNat, true_and, and_true, Fin.isValue, Fin.val_zero, Fin.val_one, Fin.val_two, Fin.reduceFinMk, eq_self, Int.reduceNeg, imp_self, Nat.reduceMul, Nat.le_refl, not_true_eq_false, not_false_eq_true, List.getElem?_nil, reduceCtorEq, true_or, or_true, Classical.not_not, implies_true, or_self, wI_0, wI_1, wI_m1, b2i_w, b2i_eq0, b2i_eq1, b2i_bool, nor_self, nx_pI, kd_pI, ln_pI, fI_pI, fL_pI, fR_pI, aI_pI, aL_pI, aR_pI, nx_pL, kd_pL, ln_pL, fI_pL, fL_pL, fR_pL, aI_pL, aL_pL, aR_pL, nx_pR, kd_pR, ln_pR, fI_pR, fL_pR, fR_pR, aI_pR, aL_pR, aR_pR, nx_qI, kd_qI, ln_qI, fI_qI, fL_qI, fR_qI, aI_qI, aL_qI, aR_qI, nx_qL, kd_qL, ln_qL, fI_qL, fL_qL, fR_qL, aI_qL, aL_qL, aR_qL, nx_qR, kd_qR, ln_qR, fI_qR, fL_qR, fR_qR, aI_qR, aL_qR, aR_qR, nx_mk, kd_mk, ln_mk, fI_mk, fL_mk, fR_mk, aI_mk, aL_mk, aR_mk, false_and, and_false, if_false, if_true, and_self, Int.reduceEq, Nat.reduceEqDiff, ite_self, MLay_pI, MLay_pL, MLay_qI, MLay_qL, ev_X4_isWord_28, ev_X4_isWord_29, ev_X4_isWord_30, ev_X4_isWord_33, ev_X4_isWord_36, ev_X4_isWord_37, ev_X4_isWord_40, ev_X4_isWord_41, ev_X4_isWord_44, ev_X4_isWord_45, ev_X4_isWord_46, ev_X4_isWord_49, ev_X4_isWord_50, ev_X4_isWord_51, ev_X4_isWord_54, ev_X4_isWord_57, ev_X4_isWord_58, ev_X4_isWord_59, ev_X4_isWord_62, xt_X4_isWord, xf_X4_isWord, us_J0_length_8abf5, us_X8_signAt, us_J0_charAt_5068e, hS, hkr, hC, hC.eqs, hk, hz, hL2, r1, hin, hiR, hi2, c2]
          try simp (disch := omega) only [wI_id, dv_nn, rm_nn]
          repeat' (first | intro z | apply And.intro)
          all_goals try omega
          all_goals try contradiction
          all_goals exact ih
        · rw [b2i_f (fun q => c2 (q.2.2 i (by omega) (by omega)))] at h
          clear ih hj
          refine go_X4_isWord (ct := fun p => p == 65 || p == 59) 40 ?_
          simp only [oI, oL, oR, o1, lI, lL, lR, popN, catS, gv, stL, stL2, swt, cnd, spObj, List.getElem?_cons_zero, List.getElem?_cons_succ, List.getD_cons_zero, List.getD_cons_succ, List.set_cons_zero, List.set_cons_succ, List.nil_append, List.cons_append, Option.toList, Bool.or_false, Bool.false_or, Bool.or_true, Bool.true_or, Nat.reduceBEq, Nat.reduceAdd, Nat.reduceLT, Nat.reduceLeDiff, Int.reduceAdd, Int.reduceToNat, true_and, and_true, Fin.isValue, Fin.val_zero, Fin.val_one, Fin.val_two, Fin.reduceFinMk, eq_self, Int.reduceNeg, imp_self, Nat.reduceMul, Nat.le_refl, not_true_eq_false, not_false_eq_true, List.getElem?_nil, reduceCtorEq, true_or, or_true, Classical.not_not, implies_true, or_self, wI_0, wI_1, wI_m1, b2i_w, b2i_eq0, b2i_eq1, b2i_bool, nor_self, nx_pI, kd_pI, ln_pI, fI_pI, fL_pI, fR_pI, aI_pI, aL_pI, aR_pI, nx_pL, kd_pL, ln_pL, fI_pL, fL_pL, fR_pL, aI_pL, aL_pL, aR_pL, nx_pR, kd_pR, ln_pR, fI_pR, fL_pR, fR_pR, aI_pR, aL_pR, aR_pR, nx_qI, kd_qI, ln_qI, fI_qI, fL_qI, fR_qI, aI_qI, aL_qI, aR_qI, nx_qL, kd_qL, ln_qL, fI_qL, fL_qL, fR_qL, aI_qL, aL_qL, aR_qL, nx_qR, kd_qR, ln_qR, fI_qR, fL_qR, fR_qR, aI_qR, aL_qR, aR_qR, nx_mk, kd_mk, ln_mk, fI_mk, fL_mk, fR_mk, aI_mk, aL_mk, aR_mk, false_and, and_false, if_false, if_true, and_self, Int.reduceEq, Nat.reduceEqDiff, ite_self, MLay_pI, MLay_pL, MLay_qI, MLay_qL, ev_X4_isWord_28, ev_X4_isWord_29, ev_X4_isWord_30, ev_X4_isWord_33, ev_X4_isWord_36, ev_X4_isWord_37, ev_X4_isWord_40, ev_X4_isWord_41, ev_X4_isWord_44, ev_X4_isWord_45, ev_X4_isWord_46, ev_X4_isWord_49, ev_X4_isWord_50, ev_X4_isWord_51, ev_X4_isWord_54, ev_X4_isWord_57, ev_X4_isWord_58, ev_X4_isWord_59, ev_X4_isWord_62, xt_X4_isWord, xf_X4_isWord, us_J0_length_8abf5, us_X8_signAt, us_J0_charAt_5068e, hS, hkr, hC, hC.eqs, hk, hz, hL2, r1, hin, hiR, hi2]
          try simp (disch := omega) only [wI_id, dv_nn, rm_nn]
          repeat' (first | intro z | apply And.intro)
          all_goals try omega
          all_goals try contradiction
          all_goals exact h
    have w := loop (ln σ (fR σ 2000 r)).toNat 0 (by omega) (by omega) (fun j a b => by omega)
    clear loop h
    refine go_X4_isWord (ct := fun p => p == 24 || p == 28) 40 ?_
    simp only [oI, oL, oR, o1, lI, lL, lR, popN, catS, gv, stL, stL2, swt, cnd, spObj, List.getElem?_cons_zero, List.getElem?_cons_succ, List.getD_cons_zero, List.getD_cons_succ, List.set_cons_zero, List.set_cons_succ, List.nil_append, List.cons_append, Option.toList, Bool.or_false, Bool.false_or, Bool.or_true, Bool.true_or, Nat.reduceBEq, Nat.reduceAdd, Nat.reduceLT, Nat.reduceLeDiff, Int.reduceAdd, Int.reduceToNat, true_and, and_true, Fin.isValue, Fin.val_zero, Fin.val_one, Fin.val_two, Fin.reduceFinMk, eq_self, Int.reduceNeg, imp_self, Nat.reduceMul, Nat.le_refl, not_true_eq_false, not_false_eq_true, List.getElem?_nil, reduceCtorEq, true_or, or_true, Classical.not_not, implies_true, or_self, wI_0, wI_1, wI_m1, b2i_w, b2i_eq0, b2i_eq1, b2i_bool, nor_self, nx_pI, kd_pI, ln_pI, fI_pI, fL_pI, fR_pI, aI_pI, aL_pI, aR_pI, nx_pL, kd_pL, ln_pL, fI_pL, fL_pL, fR_pL, aI_pL, aL_pL, aR_pL, nx_pR, kd_pR, ln_pR, fI_pR, fL_pR, fR_pR, aI_pR, aL_pR, aR_pR, nx_qI, kd_qI, ln_qI, fI_qI, fL_qI, fR_qI, aI_qI, aL_qI, aR_qI, nx_qL, kd_qL, ln_qL, fI_qL, fL_qL, fR_qL, aI_qL, aL_qL, aR_qL, nx_qR, kd_qR, ln_qR, fI_qR, fL_qR, fR_qR, aI_qR, aL_qR, aR_qR, nx_mk, kd_mk, ln_mk, fI_mk, fL_mk, fR_mk, aI_mk, aL_mk, aR_mk, false_and, and_false, if_false, if_true, and_self, Int.reduceEq, Nat.reduceEqDiff, ite_self, MLay_pI, MLay_pL, MLay_qI, MLay_qL, ev_X4_isWord_0, ev_X4_isWord_1, ev_X4_isWord_4, ev_X4_isWord_5, ev_X4_isWord_8, ev_X4_isWord_9, ev_X4_isWord_12, ev_X4_isWord_13, ev_X4_isWord_16, ev_X4_isWord_17, ev_X4_isWord_18, ev_X4_isWord_21, ev_X4_isWord_24, ev_X4_isWord_25, ev_X4_isWord_26, ev_X4_isWord_27, xt_X4_isWord, xf_X4_isWord, us_J0_length_8abf5, us_X8_signAt, us_J0_charAt_5068e, hS, hkr, hk, r1, r2, r3]
    try simp (disch := omega) only [wI_id, dv_nn, rm_nn]
    repeat' (first | intro z | apply And.intro)
    all_goals try omega
    all_goals try contradiction
    all_goals exact w
  · rw [b2i_f (fun q => c1 ⟨q.1, by omega⟩)] at h
    have hc : ¬ (k1 = 2 ∧ e0 - b0 = ln σ (fR σ 2000 r)) := by omega
    refine go_X4_isWord (ct := fun p => p == 26) 40 ?_
    simp only [oI, oL, oR, o1, lI, lL, lR, popN, catS, gv, stL, stL2, swt, cnd, spObj, List.getElem?_cons_zero, List.getElem?_cons_succ, List.getD_cons_zero, List.getD_cons_succ, List.set_cons_zero, List.set_cons_succ, List.nil_append, List.cons_append, Option.toList, Bool.or_false, Bool.false_or, Bool.or_true, Bool.true_or, Nat.reduceBEq, Nat.reduceAdd, Nat.reduceLT, Nat.reduceLeDiff, Int.reduceAdd, Int.reduceToNat, true_and, and_true, Fin.isValue, Fin.val_zero, Fin.val_one, Fin.val_two, Fin.reduceFinMk, eq_self, Int.reduceNeg, imp_self, Nat.reduceMul, Nat.le_refl, not_true_eq_false, not_false_eq_true, List.getElem?_nil, reduceCtorEq, true_or, or_true, Classical.not_not, implies_true, or_self, wI_0, wI_1, wI_m1, b2i_w, b2i_eq0, b2i_eq1, b2i_bool, nor_self, nx_pI, kd_pI, ln_pI, fI_pI, fL_pI, fR_pI, aI_pI, aL_pI, aR_pI, nx_pL, kd_pL, ln_pL, fI_pL, fL_pL, fR_pL, aI_pL, aL_pL, aR_pL, nx_pR, kd_pR, ln_pR, fI_pR, fL_pR, fR_pR, aI_pR, aL_pR, aR_pR, nx_qI, kd_qI, ln_qI, fI_qI, fL_qI, fR_qI, aI_qI, aL_qI, aR_qI, nx_qL, kd_qL, ln_qL, fI_qL, fL_qL, fR_qL, aI_qL, aL_qL, aR_qL, nx_qR, kd_qR, ln_qR, fI_qR, fL_qR, fR_qR, aI_qR, aL_qR, aR_qR, nx_mk, kd_mk, ln_mk, fI_mk, fL_mk, fR_mk, aI_mk, aL_mk, aR_mk, false_and, and_false, if_false, if_true, and_self, Int.reduceEq, Nat.reduceEqDiff, ite_self, MLay_pI, MLay_pL, MLay_qI, MLay_qL, ev_X4_isWord_0, ev_X4_isWord_1, ev_X4_isWord_4, ev_X4_isWord_5, ev_X4_isWord_8, ev_X4_isWord_9, ev_X4_isWord_12, ev_X4_isWord_13, ev_X4_isWord_16, ev_X4_isWord_17, ev_X4_isWord_18, ev_X4_isWord_21, ev_X4_isWord_24, ev_X4_isWord_25, xt_X4_isWord, xf_X4_isWord, us_J0_length_8abf5, us_X8_signAt, us_J0_charAt_5068e, hS, hkr, hk, r1, r2, r3]
    try simp (disch := omega) only [wI_id, dv_nn, rm_nn]
    repeat' (first | intro z | apply And.intro)
    all_goals try omega
    all_goals try contradiction
    all_goals exact h

def sp_X4_refuse : Sp := fun av σ Q => oR av fun this av => oI av fun f av => av = [] ∧ kd σ this = 5 ∧ (this = 26 ∧ (0 ≤ f ∧ f ≤ 5) ∧ (0 ≤ fI σ 503 26 ∧ fI σ 503 26 ≤ 1000) ∧ Q (some (vi 0)) (pI σ 507 26 (f + 16 * fI σ 503 26)))
theorem us_X4_refuse (this : Int) (f : Int) (σ : Hp) (Q : Option AV → Hp → Prop) : sp_X4_refuse [vr this, vi f] σ Q = (kd σ this = 5 ∧ (this = 26 ∧ (0 ≤ f ∧ f ≤ 5) ∧ (0 ≤ fI σ 503 26 ∧ fI σ 503 26 ≤ 1000) ∧ Q (some (vi 0)) (pI σ 507 26 (f + 16 * fI σ 503 26)))) := propext ⟨fun h => h.2, fun h => ⟨rfl, h⟩⟩
theorem el_X4_refuse {av : List AV} {σ : Hp} {Q : Option AV → Hp → Prop} (h : sp_X4_refuse av σ Q) : ∃ (this : Int) (f : Int), av = [vr this, vi f] ∧ (kd σ this = 5 ∧ (this = 26 ∧ (0 ≤ f ∧ f ≤ 5) ∧ (0 ≤ fI σ 503 26 ∧ fI σ 503 26 ≤ 1000) ∧ Q (some (vi 0)) (pI σ 507 26 (f + 16 * fI σ 503 26)))) := by
  obtain ⟨this, a0, rfl, h0⟩ := oR_s h
  obtain ⟨f, a1, rfl, h1⟩ := oI_s h0
  obtain ⟨rfl, hz⟩ := h1
  exact ⟨this, f, rfl, hz⟩
theorem rc_X4_refuse : ∀ (av : List AV) (σ : Hp) (Q : Option AV → Hp → Prop), sp_X4_refuse av σ Q → ∃ r tl, av = vr r :: tl ∧ kd σ r = 4 + 1 := fun av σ Q h => by
  obtain ⟨this, f, rfl, hz, -⟩ := el_X4_refuse h
  exact ⟨this, _, rfl, hz⟩

def tb_X4_refuse : Tab := [(0, .aload_n 0, 1, (0, 0, 0, 0)), (1, .iload_n 1, 1, (0, 0, 0, 0)), (2, .bipush 16, 2, (0, 0, 0, 0)), (4, .aload_n 0, 1, (0, 0, 0, 0)), (5, .getfield 29, 3, (5, 503, 0, 0)), (8, .imul, 1, (0, 0, 0, 0)), (9, .iadd, 1, (0, 0, 0, 0)), (10, .putfield 41, 3, (5, 507, 0, 0)), (13, .iconst 0, 1, (0, 0, 0, 0)), (14, .ireturn, 1, (0, 0, 0, 0))]
set_option maxRecDepth 100000 in
theorem tk_X4_refuse : TOK RX4 false cX4_refuse tb_X4_refuse := chkT_ok ft_X4 (by decide +kernel)
def mt_X4_refuse : List (Nat × Mt) := []
theorem mk_X4_refuse : MOK RX4 mt_X4_refuse := fun q hq => by cases hq
noncomputable def xe_X4_refuse (ct : Nat → Bool) (K : Kt) (R : Option AV → Hp → Prop) (n : Nat) : Kt := exS 2 1 0 0 2 tb_X4_refuse mt_X4_refuse ct K R n
noncomputable def xk_X4_refuse (ct : Nat → Bool) (K : Kt) (R : Option AV → Hp → Prop) (n : Nat) : Kt := exkS 2 1 0 0 2 tb_X4_refuse mt_X4_refuse ct K R n
theorem xt_X4_refuse {ct : Nat → Bool} {K : Kt} {R : Option AV → Hp → Prop} {n pc : Nat} {ls : List (Option AV)} {st : List AV} {σ : Hp} {k : Nat × Nat} (h : ct pc = true) : xk_X4_refuse ct K R n pc ls st σ k = K pc ls st σ k := by unfold xk_X4_refuse exkS; rw [h]
theorem xf_X4_refuse {ct : Nat → Bool} {K : Kt} {R : Option AV → Hp → Prop} {n pc : Nat} {ls : List (Option AV)} {st : List AV} {σ : Hp} {k : Nat × Nat} (h : ct pc = false) : xk_X4_refuse ct K R n pc ls st σ k = xe_X4_refuse ct K R n pc ls st σ k := by unfold xk_X4_refuse exkS xe_X4_refuse; rw [h]
theorem ev_X4_refuse_0 {ct : Nat → Bool} {K : Kt} {R : Option AV → Hp → Prop} {n : Nat} {ls : List (Option AV)} {st : List AV} {σ : Hp} {k : Nat × Nat} : xe_X4_refuse ct K R (n + 1) 0 ls st σ k = (lR ls 0 fun x => xk_X4_refuse ct K R n 1 ls (vr x :: st) σ k) := exS_step.trans rfl
theorem ev_X4_refuse_1 {ct : Nat → Bool} {K : Kt} {R : Option AV → Hp → Prop} {n : Nat} {ls : List (Option AV)} {st : List AV} {σ : Hp} {k : Nat × Nat} : xe_X4_refuse ct K R (n + 1) 1 ls st σ k = (lI ls 1 fun x => xk_X4_refuse ct K R n 2 ls (vi x :: st) σ k) := exS_step.trans rfl
theorem ev_X4_refuse_2 {ct : Nat → Bool} {K : Kt} {R : Option AV → Hp → Prop} {n : Nat} {ls : List (Option AV)} {st : List AV} {σ : Hp} {k : Nat × Nat} : xe_X4_refuse ct K R (n + 1) 2 ls st σ k = (xk_X4_refuse ct K R n 4 ls (vi (16) :: st) σ k) := exS_step.trans rfl
theorem ev_X4_refuse_4 {ct : Nat → Bool} {K : Kt} {R : Option AV → Hp → Prop} {n : Nat} {ls : List (Option AV)} {st : List AV} {σ : Hp} {k : Nat × Nat} : xe_X4_refuse ct K R (n + 1) 4 ls st σ k = (lR ls 0 fun x => xk_X4_refuse ct K R n 5 ls (vr x :: st) σ k) := exS_step.trans rfl
theorem ev_X4_refuse_5 {ct : Nat → Bool} {K : Kt} {R : Option AV → Hp → Prop} {n : Nat} {ls : List (Option AV)} {st : List AV} {σ : Hp} {k : Nat × Nat} : xe_X4_refuse ct K R (n + 1) 5 ls st σ k = (oR st fun x st => kd σ x = 5 ∧ xk_X4_refuse ct K R n 8 ls (vi (fI σ 503 x) :: st) σ k) := exS_step.trans rfl
theorem ev_X4_refuse_8 {ct : Nat → Bool} {K : Kt} {R : Option AV → Hp → Prop} {n : Nat} {ls : List (Option AV)} {st : List AV} {σ : Hp} {k : Nat × Nat} : xe_X4_refuse ct K R (n + 1) 8 ls st σ k = (oI st fun y st => oI st fun x st => xk_X4_refuse ct K R n 9 ls (vi (x * y) :: st) σ k) := exS_step.trans rfl
theorem ev_X4_refuse_9 {ct : Nat → Bool} {K : Kt} {R : Option AV → Hp → Prop} {n : Nat} {ls : List (Option AV)} {st : List AV} {σ : Hp} {k : Nat × Nat} : xe_X4_refuse ct K R (n + 1) 9 ls st σ k = (oI st fun y st => oI st fun x st => xk_X4_refuse ct K R n 10 ls (vi (x + y) :: st) σ k) := exS_step.trans rfl
theorem ev_X4_refuse_10 {ct : Nat → Bool} {K : Kt} {R : Option AV → Hp → Prop} {n : Nat} {ls : List (Option AV)} {st : List AV} {σ : Hp} {k : Nat × Nat} : xe_X4_refuse ct K R (n + 1) 10 ls st σ k = (oI st fun v st => oR st fun x st => kd σ x = 5 ∧ xk_X4_refuse ct K R n 13 ls st (pI σ 507 x v) k) := exS_step.trans rfl
theorem ev_X4_refuse_13 {ct : Nat → Bool} {K : Kt} {R : Option AV → Hp → Prop} {n : Nat} {ls : List (Option AV)} {st : List AV} {σ : Hp} {k : Nat × Nat} : xe_X4_refuse ct K R (n + 1) 13 ls st σ k = (xk_X4_refuse ct K R n 14 ls (vi (0) :: st) σ k) := exS_step.trans rfl
theorem ev_X4_refuse_14 {ct : Nat → Bool} {K : Kt} {R : Option AV → Hp → Prop} {n : Nat} {ls : List (Option AV)} {st : List AV} {σ : Hp} {k : Nat × Nat} : xe_X4_refuse ct K R (n + 1) 14 ls st σ k = (oI st fun x st => st = [] ∧ (x = 0 ∨ x = 1) ∧ R (some (vi x)) σ) := exS_step.trans rfl
def M_X4_refuse : Md := (yX4_refuse, cX4_refuse, 2, (some FieldType.boolean), 1, 0, 0, 2, false, tb_X4_refuse, mt_X4_refuse)
theorem mm_X4_refuse : MMOK M_X4_refuse := ⟨by decide +kernel, tk_X4_refuse, mk_X4_refuse, rfl, fun h => by cases h⟩
theorem go_X4_refuse {Q : Option AV → Hp → Prop} {ct : Nat → Bool} {pc : Nat} {ls : List (Option AV)} {st : List AV} {σ : Hp} {k : Nat × Nat} (n : Nat) (h : xe_X4_refuse ct (Go M_X4_refuse Q) Q n pc ls st σ k) : Go M_X4_refuse Q pc ls st σ k := Go.exS mm_X4_refuse h

set_option maxRecDepth 20000 in
theorem c_X4_refuse : Ct yX4_refuse cX4_refuse 2 ((some FieldType.boolean)) 1 0 0 sp_X4_refuse := by
  refine Ct.go (M := M_X4_refuse) mm_X4_refuse fun av σ Q h0 => ?_
  obtain ⟨this, f, rfl, hk, h⟩ := el_X4_refuse h0
  clear h0
  refine ⟨Nat.le_of_ble_eq_true rfl, ?_⟩
  show Go M_X4_refuse Q 0 [some (vr this), some (vi f)] [] σ (0, 0)
  obtain ⟨rfl, hf, hp, h⟩ := h
  refine go_X4_refuse (ct := fun p => p == 99) 40 ?_
  simp only [oI, oL, oR, o1, lI, lL, lR, popN, catS, gv, stL, stL2, swt, cnd, spObj, List.getElem?_cons_zero, List.getElem?_cons_succ, List.getD_cons_zero, List.getD_cons_succ, List.set_cons_zero, List.set_cons_succ, List.nil_append, List.cons_append, Option.toList, Bool.or_false, Bool.false_or, Bool.or_true, Bool.true_or, Nat.reduceBEq, Nat.reduceAdd, Nat.reduceLT, Nat.reduceLeDiff, Int.reduceAdd, Int.reduceToNat, true_and, and_true, Fin.isValue, Fin.val_zero, Fin.val_one, Fin.val_two, Fin.reduceFinMk, eq_self, Int.reduceNeg, imp_self, Nat.reduceMul, Nat.le_refl, not_true_eq_false, not_false_eq_true, List.getElem?_nil, reduceCtorEq, true_or, or_true, Classical.not_not, implies_true, or_self, wI_0, wI_1, wI_m1, b2i_w, b2i_eq0, b2i_eq1, b2i_bool, nor_self, nx_pI, kd_pI, ln_pI, fI_pI, fL_pI, fR_pI, aI_pI, aL_pI, aR_pI, nx_pL, kd_pL, ln_pL, fI_pL, fL_pL, fR_pL, aI_pL, aL_pL, aR_pL, nx_pR, kd_pR, ln_pR, fI_pR, fL_pR, fR_pR, aI_pR, aL_pR, aR_pR, nx_qI, kd_qI, ln_qI, fI_qI, fL_qI, fR_qI, aI_qI, aL_qI, aR_qI, nx_qL, kd_qL, ln_qL, fI_qL, fL_qL, fR_qL, aI_qL, aL_qL, aR_qL, nx_qR, kd_qR, ln_qR, fI_qR, fL_qR, fR_qR, aI_qR, aL_qR, aR_qR, nx_mk, kd_mk, ln_mk, fI_mk, fL_mk, fR_mk, aI_mk, aL_mk, aR_mk, false_and, and_false, if_false, if_true, and_self, Int.reduceEq, Nat.reduceEqDiff, ite_self, MLay_pI, MLay_pL, MLay_qI, MLay_qL, ev_X4_refuse_0, ev_X4_refuse_1, ev_X4_refuse_2, ev_X4_refuse_4, ev_X4_refuse_5, ev_X4_refuse_8, ev_X4_refuse_9, ev_X4_refuse_10, ev_X4_refuse_13, ev_X4_refuse_14, xt_X4_refuse, xf_X4_refuse, hk]
  try simp (disch := omega) only [wI_id, dv_nn, rm_nn]
  repeat' (first | intro z | apply And.intro)
  all_goals try omega
  all_goals try contradiction
  all_goals exact h
