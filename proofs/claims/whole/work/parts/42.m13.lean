/-! tokens -/

def skp (L : Int → Int) (z : Int) : Nat → Int → Int
  | 0, p => p
  | n + 1, p => if p < z ∧ (L p = 32 ∨ L p = 10) then skp L z n (p + 1) else p
def rn (L : Int → Int) (z lo hi : Int) : Nat → Int → Int
  | 0, p => p
  | n + 1, p => if p < z ∧ lo ≤ L p ∧ L p ≤ hi then rn L z lo hi n (p + 1) else p
def wv (L : Int → Int) (b : Int) : Nat → Int
  | 0 => 0
  | n + 1 => wv L b n * 27 + L (b + n) - 96
def nv (L : Int → Int) (b : Int) : Nat → Int
  | 0 => 0
  | n + 1 => nv L b n * 10 + L (b + n) - 48
/-- a token's begin, end, kind, word, number -/
def kB (L : Int → Int) (z p : Int) : Int := skp L z (z - p).toNat p
def lett (c : Int) : Prop := 97 ≤ c ∧ c ≤ 122
def digi (c : Int) : Prop := 48 ≤ c ∧ c ≤ 57
def tEb (L : Int → Int) (z b : Int) : Int := if b = z then z else if 97 ≤ L b ∧ L b ≤ 122 then rn L z 97 122 (z - b).toNat b else if 48 ≤ L b ∧ L b ≤ 57 then rn L z 48 57 (z - b).toNat b else b + 1
def tE (L : Int → Int) (z p : Int) : Int := tEb L z (kB L z p)
def sgn (c : Int) : Prop := c = 40 ∨ c = 41 ∨ c = 43 ∨ c = 45 ∨ (59 ≤ c ∧ c ≤ 61)
def tKb (L : Int → Int) (z b : Int) : Int := if b = z then 0 else if 97 ≤ L b ∧ L b ≤ 122 then (if tEb L z b - b ≤ 8 then 1 else 4) else if 48 ≤ L b ∧ L b ≤ 57 then (if tEb L z b - b ≤ 4 then 2 else 4) else if L b = 40 ∨ L b = 41 ∨ L b = 43 ∨ L b = 45 ∨ (59 ≤ L b ∧ L b ≤ 61) then 3 else 4
def tK (L : Int → Int) (z p : Int) : Int := tKb L z (kB L z p)
def tWb (L : Int → Int) (z b : Int) : BitVec 64 := if b = z then 0#64 else if 97 ≤ L b ∧ L b ≤ 122 then BitVec.ofInt 64 (wv L b (min (tEb L z b - b) 8).toNat) else 0#64
def tW (L : Int → Int) (z p : Int) : BitVec 64 := tWb L z (kB L z p)
def tTb (L : Int → Int) (z b : Int) : Int := if b = z then 0 else if 97 ≤ L b ∧ L b ≤ 122 then 0 else if 48 ≤ L b ∧ L b ≤ 57 then nv L b (min (tEb L z b - b) 4).toNat else 0
def tT (L : Int → Int) (z p : Int) : Int := tTb L z (kB L z p)
theorem skp_in (L : Int → Int) (z : Int) : ∀ (n : Nat) (p : Int), p ≤ z → p ≤ skp L z n p ∧ skp L z n p ≤ z
  | 0, p, h => ⟨Int.le_refl _, h⟩
  | n + 1, p, h => by
    unfold skp
    split
    · have := skp_in L z n (p + 1) (by omega); omega
    · omega
theorem rn_in (L : Int → Int) (z lo hi : Int) : ∀ (n : Nat) (p : Int), p ≤ z → p ≤ rn L z lo hi n p ∧ rn L z lo hi n p ≤ z
  | 0, p, h => ⟨Int.le_refl _, h⟩
  | n + 1, p, h => by
    unfold rn
    split
    · have := rn_in L z lo hi n (p + 1) (by omega); omega
    · omega
theorem kB_in (L : Int → Int) {z p : Int} (h : p ≤ z) : p ≤ kB L z p ∧ kB L z p ≤ z := skp_in L z _ p h
theorem rn_1 (L : Int → Int) (z lo hi : Int) {b : Int} (h : b < z) (h2 : lo ≤ L b ∧ L b ≤ hi) : b + 1 ≤ rn L z lo hi (z - b).toNat b ∧ rn L z lo hi (z - b).toNat b ≤ z := by
  obtain ⟨n, hn⟩ : ∃ n, (z - b).toNat = n + 1 := ⟨(z - b).toNat - 1, by omega⟩
  rw [hn]
  unfold rn
  rw [if_pos ⟨h, h2⟩]
  exact rn_in L z lo hi n (b + 1) (by omega)
theorem tEb_in (L : Int → Int) {z b : Int} (h : b ≤ z) : (b = z → tEb L z b = z) ∧ (b < z → b + 1 ≤ tEb L z b) ∧ tEb L z b ≤ z := by
  unfold tEb
  refine ⟨fun e => if_pos e, fun e => ?_, ?_⟩
  · rw [if_neg (by omega)]
    split
    · exact (rn_1 L z 97 122 e ‹_›).1
    · split
      · exact (rn_1 L z 48 57 e ‹_›).1
      · omega
  · split
    · omega
    · split
      · exact (rn_1 L z 97 122 (by omega) ‹_›).2
      · split
        · exact (rn_1 L z 48 57 (by omega) ‹_›).2
        · omega
theorem tKb_0 (L : Int → Int) {z b : Int} : tKb L z b = 0 ↔ b = z := by
  unfold tKb
  repeat' split
  all_goals omega
theorem tKb_in (L : Int → Int) (z b : Int) : 0 ≤ tKb L z b ∧ tKb L z b ≤ 4 := by
  unfold tKb
  repeat' split
  all_goals omega
/-- the fields of a token -/
def tk (σ : Hp) (b e : Int) (w : BitVec 64) (t k : Int) : Hp := pI (pI (pL (pI (pI σ 1347 61 b) 1346 61 e) 1349 61 w) 1350 61 t) 1348 61 k
theorem pL_pL (σ : Hp) (f : Nat) (k : Int) (v w : BitVec 64) : pL (pL σ f k v) f k w = pL σ f k w := by
  show (nx σ, kd σ, ln σ, fI σ, uf (uf (fL σ) f k v) f k w, fR σ, aI σ, aL σ, aR σ) = (nx σ, kd σ, ln σ, fI σ, uf (fL σ) f k w, fR σ, aI σ, aL σ, aR σ)
  have : uf (uf (fL σ) f k v) f k w = uf (fL σ) f k w := by
    funext g j
    unfold uf
    by_cases e : g = f ∧ j = k
    · simp only [if_pos e]
    · simp only [if_neg e]
  rw [this]
theorem pL_self (σ : Hp) (f : Nat) (k : Int) : pL σ f k (fL σ f k) = σ := by
  have : uf (fL σ) f k (fL σ f k) = fL σ := by
    funext x y
    unfold uf
    by_cases e : x = f ∧ y = k
    · rw [if_pos e, e.1, e.2]
    · rw [if_neg e]
  show (nx σ, kd σ, ln σ, fI σ, uf (fL σ) f k (fL σ f k), fR σ, aI σ, aL σ, aR σ) = σ
  rw [this]; rfl
theorem pIpL (σ : Hp) (f g : Nat) (k j v : Int) (w : BitVec 64) : pI (pL σ f k w) g j v = pL (pI σ g j v) f k w := rfl
theorem tk_b (σ : Hp) (b e : Int) (w : BitVec 64) (t k v : Int) : pI (tk σ b e w t k) 1347 61 v = tk σ v e w t k := by
  unfold tk
  rw [pI_cm _ (show (1348 : Nat) ≠ 1347 by decide), pI_cm _ (show (1350 : Nat) ≠ 1347 by decide), pIpL, pI_cm _ (show (1346 : Nat) ≠ 1347 by decide), pI_pI]
theorem tk_e (σ : Hp) (b e : Int) (w : BitVec 64) (t k v : Int) : pI (tk σ b e w t k) 1346 61 v = tk σ b v w t k := by
  unfold tk
  rw [pI_cm _ (show (1348 : Nat) ≠ 1346 by decide), pI_cm _ (show (1350 : Nat) ≠ 1346 by decide), pIpL, pI_pI]
theorem tk_w (σ : Hp) (b e : Int) (w : BitVec 64) (t k : Int) (v : BitVec 64) : pL (tk σ b e w t k) 1349 61 v = tk σ b e v t k := by
  unfold tk
  rw [← pIpL, ← pIpL, pL_pL]
theorem tk_t (σ : Hp) (b e : Int) (w : BitVec 64) (t k v : Int) : pI (tk σ b e w t k) 1350 61 v = tk σ b e w v k := by
  unfold tk
  rw [pI_cm _ (show (1348 : Nat) ≠ 1350 by decide), pI_pI]
theorem tk_k (σ : Hp) (b e : Int) (w : BitVec 64) (t k v : Int) : pI (tk σ b e w t k) 1348 61 v = tk σ b e w t v := by
  unfold tk
  rw [pI_pI]
theorem tk_0 (σ : Hp) : tk σ (fI σ 1347 61) (fI σ 1346 61) (fL σ 1349 61) (fI σ 1350 61) (fI σ 1348 61) = σ := by
  unfold tk
  rw [pI_self]
  have e1 := pI_self σ 1346 61
  rw [e1]
  have e2 := pL_self σ 1349 61
  rw [e2]
  have e3 := pI_self σ 1350 61
  rw [e3]
  exact pI_self σ 1348 61
theorem kd_tk (σ : Hp) (b e : Int) (w : BitVec 64) (t k : Int) : kd (tk σ b e w t k) = kd σ := Eq.trans rfl rfl
theorem aI_tk (σ : Hp) (b e : Int) (w : BitVec 64) (t k : Int) : aI (tk σ b e w t k) = aI σ := Eq.trans rfl rfl
theorem fR_tk (σ : Hp) (b e : Int) (w : BitVec 64) (t k : Int) : fR (tk σ b e w t k) = fR σ := Eq.trans rfl rfl
theorem ln_tk (σ : Hp) (b e : Int) (w : BitVec 64) (t k : Int) : ln (tk σ b e w t k) = ln σ := Eq.trans rfl rfl
theorem tk_fb (σ : Hp) (b e : Int) (w : BitVec 64) (t k : Int) : fI (tk σ b e w t k) 1347 61 = b := Eq.trans rfl rfl
theorem tk_fe (σ : Hp) (b e : Int) (w : BitVec 64) (t k : Int) : fI (tk σ b e w t k) 1346 61 = e := Eq.trans rfl rfl
theorem tk_fw (σ : Hp) (b e : Int) (w : BitVec 64) (t k : Int) : fL (tk σ b e w t k) 1349 61 = w := Eq.trans rfl rfl
theorem tk_ft (σ : Hp) (b e : Int) (w : BitVec 64) (t k : Int) : fI (tk σ b e w t k) 1350 61 = t := Eq.trans rfl rfl
theorem tk_fk (σ : Hp) (b e : Int) (w : BitVec 64) (t k : Int) : fI (tk σ b e w t k) 1348 61 = k := Eq.trans rfl rfl
theorem tk_fz (σ : Hp) (b e : Int) (w : BitVec 64) (t k : Int) : fI (tk σ b e w t k) 1345 61 = fI σ 1345 61 := Eq.trans rfl rfl
theorem MI_tk {σ : Hp} (h : MI σ) {b e t k : Int} {w : BitVec 64} (hb : 0 ≤ b ∧ b ≤ 1001) (he : 0 ≤ e ∧ e ≤ 1001) (ht : 0 ≤ t ∧ t ≤ 9999) (hk : 0 ≤ k ∧ k ≤ 4) : MI (tk σ b e w t k) :=
  MI_token_p (MI_told_p (MI_pL (MI_place_p (MI_begin_p h hb) he)) ht) hk
theorem nv_in {L : Int → Int} {b : Int} : ∀ n : Nat, n ≤ 4 → (∀ j, b ≤ j → j < b + n → 48 ≤ L j ∧ L j ≤ 57) → 0 ≤ nv L b n ∧ nv L b n < 10 ^ n
  | 0, _, _ => by unfold nv; omega
  | n + 1, h, hl => by
    have ih := nv_in n (by omega) fun j a c => hl j a (by omega)
    have h2 := hl (b + n) (by omega) (by omega)
    have hp : (10 : Int) ^ (n + 1) = 10 * 10 ^ n := by rw [Int.pow_succ, Int.mul_comm]
    unfold nv
    omega
theorem p10 : ∀ n : Nat, n ≤ 4 → (10 : Int) ^ n ≤ 10000
  | 0, _ => by decide
  | 1, _ => by decide
  | 2, _ => by decide
  | 3, _ => by decide
  | 4, _ => by decide
  | n + 5, h => by omega
/-- the next token -/
def mNext (σ : Hp) : Hp := tk σ (kB (aI σ 92) (fI σ 1345 61) (fI σ 1346 61)) (tE (aI σ 92) (fI σ 1345 61) (fI σ 1346 61)) (tW (aI σ 92) (fI σ 1345 61) (fI σ 1346 61)) (tT (aI σ 92) (fI σ 1345 61) (fI σ 1346 61)) (tK (aI σ 92) (fI σ 1345 61) (fI σ 1346 61))

def sp_X12_next : Sp := fun av σ Q => oR av fun this av => av = [] ∧ kd σ this = 13 ∧ (this = 61 ∧ MI σ ∧ fI σ 1346 61 ≤ fI σ 1345 61 ∧ Q none (mNext σ))
theorem us_X12_next (this : Int) (σ : Hp) (Q : Option AV → Hp → Prop) : sp_X12_next [vr this] σ Q = (kd σ this = 13 ∧ (this = 61 ∧ MI σ ∧ fI σ 1346 61 ≤ fI σ 1345 61 ∧ Q none (mNext σ))) := propext ⟨fun h => h.2, fun h => ⟨rfl, h⟩⟩
theorem el_X12_next {av : List AV} {σ : Hp} {Q : Option AV → Hp → Prop} (h : sp_X12_next av σ Q) : ∃ (this : Int), av = [vr this] ∧ (kd σ this = 13 ∧ (this = 61 ∧ MI σ ∧ fI σ 1346 61 ≤ fI σ 1345 61 ∧ Q none (mNext σ))) := by
  obtain ⟨this, a0, rfl, h0⟩ := oR_s h
  obtain ⟨rfl, hz⟩ := h0
  exact ⟨this, rfl, hz⟩
theorem rc_X12_next : ∀ (av : List AV) (σ : Hp) (Q : Option AV → Hp → Prop), sp_X12_next av σ Q → ∃ r tl, av = vr r :: tl ∧ kd σ r = 12 + 1 := fun av σ Q h => by
  obtain ⟨this, rfl, hz, -⟩ := el_X12_next h
  exact ⟨this, _, rfl, hz⟩

def tb_X12_next : Tab := [(0, .aload_n 0, 1, (0, 0, 0, 0)), (1, .getfield 307, 3, (13, 1346, 0, 0)), (4, .aload_n 0, 1, (0, 0, 0, 0)), (5, .getfield 304, 3, (13, 1345, 0, 0)), (8, .if_icmp .ge 44, 3, (0, 0, 0, 0)), (11, .aload_n 0, 1, (0, 0, 0, 0)), (12, .getfield 102, 3, (13, 1344, 2, 0)), (15, .aload_n 0, 1, (0, 0, 0, 0)), (16, .getfield 307, 3, (13, 1346, 0, 0)), (19, .iaload, 1, (0, 0, 0, 0)), (20, .bipush 32, 2, (0, 0, 0, 0)), (22, .if_icmp .eq 17, 3, (0, 0, 0, 0)), (25, .aload_n 0, 1, (0, 0, 0, 0)), (26, .getfield 102, 3, (13, 1344, 2, 0)), (29, .aload_n 0, 1, (0, 0, 0, 0)), (30, .getfield 307, 3, (13, 1346, 0, 0)), (33, .iaload, 1, (0, 0, 0, 0)), (34, .bipush 10, 2, (0, 0, 0, 0)), (36, .if_icmp .ne 16, 3, (0, 0, 0, 0)), (39, .aload_n 0, 1, (0, 0, 0, 0)), (40, .dup, 1, (0, 0, 0, 0)), (41, .getfield 307, 3, (13, 1346, 0, 0)), (44, .iconst 1, 1, (0, 0, 0, 0)), (45, .iadd, 1, (0, 0, 0, 0)), (46, .putfield 307, 3, (13, 1346, 0, 0)), (49, .goto (-49), 3, (0, 0, 0, 0)), (52, .aload_n 0, 1, (0, 0, 0, 0)), (53, .aload_n 0, 1, (0, 0, 0, 0)), (54, .getfield 307, 3, (13, 1346, 0, 0)), (57, .putfield 310, 3, (13, 1347, 0, 0)), (60, .aload_n 0, 1, (0, 0, 0, 0)), (61, .lconst 0, 1, (0, 0, 0, 0)), (62, .putfield 313, 3, (13, 1349, 1, 0)), (65, .aload_n 0, 1, (0, 0, 0, 0)), (66, .iconst 0, 1, (0, 0, 0, 0)), (67, .putfield 317, 3, (13, 1350, 0, 0)), (70, .aload_n 0, 1, (0, 0, 0, 0)), (71, .getfield 307, 3, (13, 1346, 0, 0)), (74, .aload_n 0, 1, (0, 0, 0, 0)), (75, .getfield 304, 3, (13, 1345, 0, 0)), (78, .if_icmp .ne 9, 3, (0, 0, 0, 0)), (81, .aload_n 0, 1, (0, 0, 0, 0)), (82, .iconst 0, 1, (0, 0, 0, 0)), (83, .putfield 320, 3, (13, 1348, 0, 0)), (86, .return_, 1, (0, 0, 0, 0)), (87, .aload_n 0, 1, (0, 0, 0, 0)), (88, .getfield 102, 3, (13, 1344, 2, 0)), (91, .aload_n 0, 1, (0, 0, 0, 0)), (92, .getfield 307, 3, (13, 1346, 0, 0)), (95, .iaload, 1, (0, 0, 0, 0)), (96, .istore_n 1, 1, (0, 0, 0, 0)), (97, .iload_n 1, 1, (0, 0, 0, 0)), (98, .bipush 97, 2, (0, 0, 0, 0)), (100, .if_icmp .lt 112, 3, (0, 0, 0, 0)), (103, .iload_n 1, 1, (0, 0, 0, 0)), (104, .bipush 122, 2, (0, 0, 0, 0)), (106, .if_icmp .gt 106, 3, (0, 0, 0, 0)), (109, .aload_n 0, 1, (0, 0, 0, 0)), (110, .aload_n 0, 1, (0, 0, 0, 0)), (111, .getfield 307, 3, (13, 1346, 0, 0)), (114, .invokevirtual 323, 3, (0, 0, 0, 0)), (117, .bipush 97, 2, (0, 0, 0, 0)), (119, .if_icmp .lt 69, 3, (0, 0, 0, 0)), (122, .aload_n 0, 1, (0, 0, 0, 0)), (123, .aload_n 0, 1, (0, 0, 0, 0)), (124, .getfield 307, 3, (13, 1346, 0, 0)), (127, .invokevirtual 323, 3, (0, 0, 0, 0)), (130, .bipush 122, 2, (0, 0, 0, 0)), (132, .if_icmp .gt 56, 3, (0, 0, 0, 0)), (135, .aload_n 0, 1, (0, 0, 0, 0)), (136, .getfield 307, 3, (13, 1346, 0, 0)), (139, .aload_n 0, 1, (0, 0, 0, 0)), (140, .getfield 310, 3, (13, 1347, 0, 0)), (143, .isub, 1, (0, 0, 0, 0)), (144, .bipush 8, 2, (0, 0, 0, 0)), (146, .if_icmp .ge 29, 3, (0, 0, 0, 0)), (149, .aload_n 0, 1, (0, 0, 0, 0)), (150, .aload_n 0, 1, (0, 0, 0, 0)), (151, .getfield 313, 3, (13, 1349, 1, 0)), (154, .ldc2_w 326, 3, (1, 0, 0, 27)), (157, .lmul, 1, (0, 0, 0, 0)), (158, .aload_n 0, 1, (0, 0, 0, 0)), (159, .aload_n 0, 1, (0, 0, 0, 0)), (160, .getfield 307, 3, (13, 1346, 0, 0)), (163, .invokevirtual 323, 3, (0, 0, 0, 0)), (166, .i2l, 1, (0, 0, 0, 0)), (167, .ladd, 1, (0, 0, 0, 0)), (168, .ldc2_w 328, 3, (1, 0, 0, 96)), (171, .lsub, 1, (0, 0, 0, 0)), (172, .putfield 313, 3, (13, 1349, 1, 0)), (175, .aload_n 0, 1, (0, 0, 0, 0)), (176, .dup, 1, (0, 0, 0, 0)), (177, .getfield 307, 3, (13, 1346, 0, 0)), (180, .iconst 1, 1, (0, 0, 0, 0)), (181, .iadd, 1, (0, 0, 0, 0)), (182, .putfield 307, 3, (13, 1346, 0, 0)), (185, .goto (-76), 3, (0, 0, 0, 0)), (188, .aload_n 0, 1, (0, 0, 0, 0)), (189, .aload_n 0, 1, (0, 0, 0, 0)), (190, .getfield 307, 3, (13, 1346, 0, 0)), (193, .aload_n 0, 1, (0, 0, 0, 0)), (194, .getfield 310, 3, (13, 1347, 0, 0)), (197, .isub, 1, (0, 0, 0, 0)), (198, .bipush 8, 2, (0, 0, 0, 0)), (200, .if_icmp .le 7, 3, (0, 0, 0, 0)), (203, .iconst 4, 1, (0, 0, 0, 0)), (204, .goto 4, 3, (0, 0, 0, 0)), (207, .iconst 1, 1, (0, 0, 0, 0)), (208, .putfield 320, 3, (13, 1348, 0, 0)), (211, .return_, 1, (0, 0, 0, 0)), (212, .iload_n 1, 1, (0, 0, 0, 0)), (213, .bipush 48, 2, (0, 0, 0, 0)), (215, .if_icmp .lt 107, 3, (0, 0, 0, 0)), (218, .iload_n 1, 1, (0, 0, 0, 0)), (219, .bipush 57, 2, (0, 0, 0, 0)), (221, .if_icmp .gt 101, 3, (0, 0, 0, 0)), (224, .aload_n 0, 1, (0, 0, 0, 0)), (225, .aload_n 0, 1, (0, 0, 0, 0)), (226, .getfield 307, 3, (13, 1346, 0, 0)), (229, .invokevirtual 323, 3, (0, 0, 0, 0)), (232, .bipush 48, 2, (0, 0, 0, 0)), (234, .if_icmp .lt 65, 3, (0, 0, 0, 0)), (237, .aload_n 0, 1, (0, 0, 0, 0)), (238, .aload_n 0, 1, (0, 0, 0, 0)), (239, .getfield 307, 3, (13, 1346, 0, 0)), (242, .invokevirtual 323, 3, (0, 0, 0, 0)), (245, .bipush 57, 2, (0, 0, 0, 0)), (247, .if_icmp .gt 52, 3, (0, 0, 0, 0)), (250, .aload_n 0, 1, (0, 0, 0, 0)), (251, .getfield 307, 3, (13, 1346, 0, 0)), (254, .aload_n 0, 1, (0, 0, 0, 0)), (255, .getfield 310, 3, (13, 1347, 0, 0)), (258, .isub, 1, (0, 0, 0, 0)), (259, .iconst 4, 1, (0, 0, 0, 0)), (260, .if_icmp .ge 26, 3, (0, 0, 0, 0)), (263, .aload_n 0, 1, (0, 0, 0, 0)), (264, .aload_n 0, 1, (0, 0, 0, 0)), (265, .getfield 317, 3, (13, 1350, 0, 0)), (268, .bipush 10, 2, (0, 0, 0, 0)), (270, .imul, 1, (0, 0, 0, 0)), (271, .aload_n 0, 1, (0, 0, 0, 0)), (272, .aload_n 0, 1, (0, 0, 0, 0)), (273, .getfield 307, 3, (13, 1346, 0, 0)), (276, .invokevirtual 323, 3, (0, 0, 0, 0)), (279, .iadd, 1, (0, 0, 0, 0)), (280, .bipush 48, 2, (0, 0, 0, 0)), (282, .isub, 1, (0, 0, 0, 0)), (283, .putfield 317, 3, (13, 1350, 0, 0)), (286, .aload_n 0, 1, (0, 0, 0, 0)), (287, .dup, 1, (0, 0, 0, 0)), (288, .getfield 307, 3, (13, 1346, 0, 0)), (291, .iconst 1, 1, (0, 0, 0, 0)), (292, .iadd, 1, (0, 0, 0, 0)), (293, .putfield 307, 3, (13, 1346, 0, 0)), (296, .goto (-72), 3, (0, 0, 0, 0)), (299, .aload_n 0, 1, (0, 0, 0, 0)), (300, .aload_n 0, 1, (0, 0, 0, 0)), (301, .getfield 307, 3, (13, 1346, 0, 0)), (304, .aload_n 0, 1, (0, 0, 0, 0)), (305, .getfield 310, 3, (13, 1347, 0, 0)), (308, .isub, 1, (0, 0, 0, 0)), (309, .iconst 4, 1, (0, 0, 0, 0)), (310, .if_icmp .le 7, 3, (0, 0, 0, 0)), (313, .iconst 4, 1, (0, 0, 0, 0)), (314, .goto 4, 3, (0, 0, 0, 0)), (317, .iconst 2, 1, (0, 0, 0, 0)), (318, .putfield 320, 3, (13, 1348, 0, 0)), (321, .return_, 1, (0, 0, 0, 0)), (322, .aload_n 0, 1, (0, 0, 0, 0)), (323, .dup, 1, (0, 0, 0, 0)), (324, .getfield 307, 3, (13, 1346, 0, 0)), (327, .iconst 1, 1, (0, 0, 0, 0)), (328, .iadd, 1, (0, 0, 0, 0)), (329, .putfield 307, 3, (13, 1346, 0, 0)), (332, .aload_n 0, 1, (0, 0, 0, 0)), (333, .iload_n 1, 1, (0, 0, 0, 0)), (334, .bipush 40, 2, (0, 0, 0, 0)), (336, .if_icmp .eq 33, 3, (0, 0, 0, 0)), (339, .iload_n 1, 1, (0, 0, 0, 0)), (340, .bipush 41, 2, (0, 0, 0, 0)), (342, .if_icmp .eq 27, 3, (0, 0, 0, 0)), (345, .iload_n 1, 1, (0, 0, 0, 0)), (346, .bipush 43, 2, (0, 0, 0, 0)), (348, .if_icmp .eq 21, 3, (0, 0, 0, 0)), (351, .iload_n 1, 1, (0, 0, 0, 0)), (352, .bipush 45, 2, (0, 0, 0, 0)), (354, .if_icmp .eq 15, 3, (0, 0, 0, 0)), (357, .iload_n 1, 1, (0, 0, 0, 0)), (358, .bipush 59, 2, (0, 0, 0, 0)), (360, .if_icmp .lt 13, 3, (0, 0, 0, 0)), (363, .iload_n 1, 1, (0, 0, 0, 0)), (364, .bipush 61, 2, (0, 0, 0, 0)), (366, .if_icmp .gt 7, 3, (0, 0, 0, 0)), (369, .iconst 3, 1, (0, 0, 0, 0)), (370, .goto 4, 3, (0, 0, 0, 0)), (373, .iconst 4, 1, (0, 0, 0, 0)), (374, .putfield 320, 3, (13, 1348, 0, 0)), (377, .return_, 1, (0, 0, 0, 0))]
set_option maxRecDepth 100000 in
theorem tk_X12_next : TOK RX12 false cX12_next tb_X12_next := chkT_ok ft_X12 (by decide +kernel)
theorem rw_X12_2584 : Row RX12 (.invokevirtual 323) 3 2 0 0 1 sp_X12_signAt := row_V (n := 1) (ci := 12) c_X12_signAt ⟨TBL_in 1901 (by decide +kernel) rfl, TBL_in 1904 (by decide +kernel) rfl, TBL_in 123 (by decide +kernel) rfl, by decide +kernel, by decide⟩ (by decide) rfl (TBL_in 1903 (by decide +kernel) rfl) (TBL_in 80 (by decide +kernel) rfl) rc_X12_signAt
def mt_X12_next : List (Nat × Mt) := [(2584, 2, 0, 0, 1, sp_X12_signAt)]
theorem em_X12_next : mt_X12_next.lookup 2584 = some (2, 0, 0, 1, sp_X12_signAt) := rfl
theorem mk_X12_next : MOK RX12 mt_X12_next := by
  intro q hq
  simp only [mt_X12_next, List.mem_cons, List.not_mem_nil, or_false] at hq
  rcases hq with rfl
  · exact rw_X12_2584
noncomputable def xe_X12_next (ct : Nat → Bool) (K : Kt) (R : Option AV → Hp → Prop) (n : Nat) : Kt := exS 2 2 0 0 0 tb_X12_next mt_X12_next ct K R n
noncomputable def xk_X12_next (ct : Nat → Bool) (K : Kt) (R : Option AV → Hp → Prop) (n : Nat) : Kt := exkS 2 2 0 0 0 tb_X12_next mt_X12_next ct K R n
theorem xt_X12_next {ct : Nat → Bool} {K : Kt} {R : Option AV → Hp → Prop} {n pc : Nat} {ls : List (Option AV)} {st : List AV} {σ : Hp} {k : Nat × Nat} (h : ct pc = true) : xk_X12_next ct K R n pc ls st σ k = K pc ls st σ k := by unfold xk_X12_next exkS; rw [h]
theorem xf_X12_next {ct : Nat → Bool} {K : Kt} {R : Option AV → Hp → Prop} {n pc : Nat} {ls : List (Option AV)} {st : List AV} {σ : Hp} {k : Nat × Nat} (h : ct pc = false) : xk_X12_next ct K R n pc ls st σ k = xe_X12_next ct K R n pc ls st σ k := by unfold xk_X12_next exkS xe_X12_next; rw [h]
set_option maxRecDepth 20000 in
theorem ev_X12_next {ct : Nat → Bool} {K : Kt} {R : Option AV → Hp → Prop} {n : Nat} {ls : List (Option AV)} {st : List AV} {σ : Hp} {k : Nat × Nat} :
  xe_X12_next ct K R (n + 1) 0 ls st σ k = (lR ls 0 fun x => xk_X12_next ct K R n 1 ls (vr x :: st) σ k) ∧
  xe_X12_next ct K R (n + 1) 1 ls st σ k = (oR st fun x st => kd σ x = 13 ∧ xk_X12_next ct K R n 4 ls (vi (fI σ 1346 x) :: st) σ k) ∧
  xe_X12_next ct K R (n + 1) 4 ls st σ k = (lR ls 0 fun x => xk_X12_next ct K R n 5 ls (vr x :: st) σ k) ∧
  xe_X12_next ct K R (n + 1) 5 ls st σ k = (oR st fun x st => kd σ x = 13 ∧ xk_X12_next ct K R n 8 ls (vi (fI σ 1345 x) :: st) σ k) ∧
  xe_X12_next ct K R (n + 1) 8 ls st σ k = (oI st fun y st => oI st fun x st => (wI y ≤ wI x → xk_X12_next ct K R n 52 ls st σ k) ∧ (¬ (wI y ≤ wI x) → xk_X12_next ct K R n 11 ls st σ k)) ∧
  xe_X12_next ct K R (n + 1) 11 ls st σ k = (lR ls 0 fun x => xk_X12_next ct K R n 12 ls (vr x :: st) σ k) ∧
  xe_X12_next ct K R (n + 1) 12 ls st σ k = (oR st fun x st => kd σ x = 13 ∧ xk_X12_next ct K R n 15 ls (vr (fR σ 1344 x) :: st) σ k) ∧
  xe_X12_next ct K R (n + 1) 15 ls st σ k = (lR ls 0 fun x => xk_X12_next ct K R n 16 ls (vr x :: st) σ k) ∧
  xe_X12_next ct K R (n + 1) 16 ls st σ k = (oR st fun x st => kd σ x = 13 ∧ xk_X12_next ct K R n 19 ls (vi (fI σ 1346 x) :: st) σ k) ∧
  xe_X12_next ct K R (n + 1) 19 ls st σ k = (oI st fun j st => oR st fun x st => (kd σ x = 101 ∨ kd σ x = 108) ∧ (0 ≤ j ∧ j < ln σ x) ∧ xk_X12_next ct K R n 20 ls (vi (aI σ x j) :: st) σ k) ∧
  xe_X12_next ct K R (n + 1) 20 ls st σ k = (xk_X12_next ct K R n 22 ls (vi (32) :: st) σ k) ∧
  xe_X12_next ct K R (n + 1) 22 ls st σ k = (oI st fun y st => oI st fun x st => (wI x = wI y → xk_X12_next ct K R n 39 ls st σ k) ∧ (¬ (wI x = wI y) → xk_X12_next ct K R n 25 ls st σ k)) ∧
  xe_X12_next ct K R (n + 1) 25 ls st σ k = (lR ls 0 fun x => xk_X12_next ct K R n 26 ls (vr x :: st) σ k) ∧
  xe_X12_next ct K R (n + 1) 26 ls st σ k = (oR st fun x st => kd σ x = 13 ∧ xk_X12_next ct K R n 29 ls (vr (fR σ 1344 x) :: st) σ k) ∧
  xe_X12_next ct K R (n + 1) 29 ls st σ k = (lR ls 0 fun x => xk_X12_next ct K R n 30 ls (vr x :: st) σ k) ∧
  xe_X12_next ct K R (n + 1) 30 ls st σ k = (oR st fun x st => kd σ x = 13 ∧ xk_X12_next ct K R n 33 ls (vi (fI σ 1346 x) :: st) σ k) ∧
  xe_X12_next ct K R (n + 1) 33 ls st σ k = (oI st fun j st => oR st fun x st => (kd σ x = 101 ∨ kd σ x = 108) ∧ (0 ≤ j ∧ j < ln σ x) ∧ xk_X12_next ct K R n 34 ls (vi (aI σ x j) :: st) σ k) ∧
  xe_X12_next ct K R (n + 1) 34 ls st σ k = (xk_X12_next ct K R n 36 ls (vi (10) :: st) σ k) ∧
  xe_X12_next ct K R (n + 1) 36 ls st σ k = (oI st fun y st => oI st fun x st => (¬ wI x = wI y → xk_X12_next ct K R n 52 ls st σ k) ∧ (¬ (¬ wI x = wI y) → xk_X12_next ct K R n 39 ls st σ k)) ∧
  xe_X12_next ct K R (n + 1) 39 ls st σ k = (lR ls 0 fun x => xk_X12_next ct K R n 40 ls (vr x :: st) σ k) ∧
  xe_X12_next ct K R (n + 1) 40 ls st σ k = (o1 st fun v st => xk_X12_next ct K R n 41 ls (v :: v :: st) σ k) ∧
  xe_X12_next ct K R (n + 1) 41 ls st σ k = (oR st fun x st => kd σ x = 13 ∧ xk_X12_next ct K R n 44 ls (vi (fI σ 1346 x) :: st) σ k) ∧
  xe_X12_next ct K R (n + 1) 44 ls st σ k = (xk_X12_next ct K R n 45 ls (vi (1) :: st) σ k) ∧
  xe_X12_next ct K R (n + 1) 45 ls st σ k = (oI st fun y st => oI st fun x st => xk_X12_next ct K R n 46 ls (vi (x + y) :: st) σ k) ∧
  xe_X12_next ct K R (n + 1) 46 ls st σ k = (oI st fun v st => oR st fun x st => kd σ x = 13 ∧ xk_X12_next ct K R n 49 ls st (pI σ 1346 x v) k) ∧
  xe_X12_next ct K R (n + 1) 49 ls st σ k = (xk_X12_next ct K R n 0 ls st σ k) ∧
  xe_X12_next ct K R (n + 1) 52 ls st σ k = (lR ls 0 fun x => xk_X12_next ct K R n 53 ls (vr x :: st) σ k) ∧
  xe_X12_next ct K R (n + 1) 53 ls st σ k = (lR ls 0 fun x => xk_X12_next ct K R n 54 ls (vr x :: st) σ k) ∧
  xe_X12_next ct K R (n + 1) 54 ls st σ k = (oR st fun x st => kd σ x = 13 ∧ xk_X12_next ct K R n 57 ls (vi (fI σ 1346 x) :: st) σ k) ∧
  xe_X12_next ct K R (n + 1) 57 ls st σ k = (oI st fun v st => oR st fun x st => kd σ x = 13 ∧ xk_X12_next ct K R n 60 ls st (pI σ 1347 x v) k) ∧
  xe_X12_next ct K R (n + 1) 60 ls st σ k = (lR ls 0 fun x => xk_X12_next ct K R n 61 ls (vr x :: st) σ k) ∧
  xe_X12_next ct K R (n + 1) 61 ls st σ k = (xk_X12_next ct K R n 62 ls (vl (BitVec.ofNat 64 0) :: st) σ k) ∧
  xe_X12_next ct K R (n + 1) 62 ls st σ k = (oL st fun v st => oR st fun x st => kd σ x = 13 ∧ xk_X12_next ct K R n 65 ls st (pL σ 1349 x v) k) ∧
  xe_X12_next ct K R (n + 1) 65 ls st σ k = (lR ls 0 fun x => xk_X12_next ct K R n 66 ls (vr x :: st) σ k) ∧
  xe_X12_next ct K R (n + 1) 66 ls st σ k = (xk_X12_next ct K R n 67 ls (vi (0) :: st) σ k) ∧
  xe_X12_next ct K R (n + 1) 67 ls st σ k = (oI st fun v st => oR st fun x st => kd σ x = 13 ∧ xk_X12_next ct K R n 70 ls st (pI σ 1350 x v) k) ∧
  xe_X12_next ct K R (n + 1) 70 ls st σ k = (lR ls 0 fun x => xk_X12_next ct K R n 71 ls (vr x :: st) σ k) ∧
  xe_X12_next ct K R (n + 1) 71 ls st σ k = (oR st fun x st => kd σ x = 13 ∧ xk_X12_next ct K R n 74 ls (vi (fI σ 1346 x) :: st) σ k) ∧
  xe_X12_next ct K R (n + 1) 74 ls st σ k = (lR ls 0 fun x => xk_X12_next ct K R n 75 ls (vr x :: st) σ k) ∧
  xe_X12_next ct K R (n + 1) 75 ls st σ k = (oR st fun x st => kd σ x = 13 ∧ xk_X12_next ct K R n 78 ls (vi (fI σ 1345 x) :: st) σ k) ∧
  xe_X12_next ct K R (n + 1) 78 ls st σ k = (oI st fun y st => oI st fun x st => (¬ wI x = wI y → xk_X12_next ct K R n 87 ls st σ k) ∧ (¬ (¬ wI x = wI y) → xk_X12_next ct K R n 81 ls st σ k)) ∧
  xe_X12_next ct K R (n + 1) 81 ls st σ k = (lR ls 0 fun x => xk_X12_next ct K R n 82 ls (vr x :: st) σ k) ∧
  xe_X12_next ct K R (n + 1) 82 ls st σ k = (xk_X12_next ct K R n 83 ls (vi (0) :: st) σ k) ∧
  xe_X12_next ct K R (n + 1) 83 ls st σ k = (oI st fun v st => oR st fun x st => kd σ x = 13 ∧ xk_X12_next ct K R n 86 ls st (pI σ 1348 x v) k) ∧
  xe_X12_next ct K R (n + 1) 86 ls st σ k = (st = [] ∧ 0 = 0 ∧ R none σ) ∧
  xe_X12_next ct K R (n + 1) 87 ls st σ k = (lR ls 0 fun x => xk_X12_next ct K R n 88 ls (vr x :: st) σ k) ∧
  xe_X12_next ct K R (n + 1) 88 ls st σ k = (oR st fun x st => kd σ x = 13 ∧ xk_X12_next ct K R n 91 ls (vr (fR σ 1344 x) :: st) σ k) ∧
  xe_X12_next ct K R (n + 1) 91 ls st σ k = (lR ls 0 fun x => xk_X12_next ct K R n 92 ls (vr x :: st) σ k) ∧
  xe_X12_next ct K R (n + 1) 92 ls st σ k = (oR st fun x st => kd σ x = 13 ∧ xk_X12_next ct K R n 95 ls (vi (fI σ 1346 x) :: st) σ k) ∧
  xe_X12_next ct K R (n + 1) 95 ls st σ k = (oI st fun j st => oR st fun x st => (kd σ x = 101 ∨ kd σ x = 108) ∧ (0 ≤ j ∧ j < ln σ x) ∧ xk_X12_next ct K R n 96 ls (vi (aI σ x j) :: st) σ k) ∧
  xe_X12_next ct K R (n + 1) 96 ls st σ k = (oI st fun x st => 1 < 2 ∧ xk_X12_next ct K R n 97 (stL ls 1 (vi x)) st σ k) ∧
  xe_X12_next ct K R (n + 1) 97 ls st σ k = (lI ls 1 fun x => xk_X12_next ct K R n 98 ls (vi x :: st) σ k) ∧
  xe_X12_next ct K R (n + 1) 98 ls st σ k = (xk_X12_next ct K R n 100 ls (vi (97) :: st) σ k) ∧
  xe_X12_next ct K R (n + 1) 100 ls st σ k = (oI st fun y st => oI st fun x st => (wI x < wI y → xk_X12_next ct K R n 212 ls st σ k) ∧ (¬ (wI x < wI y) → xk_X12_next ct K R n 103 ls st σ k)) ∧
  xe_X12_next ct K R (n + 1) 103 ls st σ k = (lI ls 1 fun x => xk_X12_next ct K R n 104 ls (vi x :: st) σ k) ∧
  xe_X12_next ct K R (n + 1) 104 ls st σ k = (xk_X12_next ct K R n 106 ls (vi (122) :: st) σ k) ∧
  xe_X12_next ct K R (n + 1) 106 ls st σ k = (oI st fun y st => oI st fun x st => (wI y < wI x → xk_X12_next ct K R n 212 ls st σ k) ∧ (¬ (wI y < wI x) → xk_X12_next ct K R n 109 ls st σ k)) ∧
  xe_X12_next ct K R (n + 1) 109 ls st σ k = (lR ls 0 fun x => xk_X12_next ct K R n 110 ls (vr x :: st) σ k) ∧
  xe_X12_next ct K R (n + 1) 110 ls st σ k = (lR ls 0 fun x => xk_X12_next ct K R n 111 ls (vr x :: st) σ k) ∧
  xe_X12_next ct K R (n + 1) 111 ls st σ k = (oR st fun x st => kd σ x = 13 ∧ xk_X12_next ct K R n 114 ls (vi (fI σ 1346 x) :: st) σ k) ∧
  xe_X12_next ct K R (n + 1) 114 ls st σ k = (popN 2 st [] fun av rest => (catS rest ≤ 8 ∧ 1 < 2 ∧ k.1 + 0 ≤ 0 ∧ k.2 + 0 ≤ 0) ∧ (sp_X12_signAt) av σ fun v σ' => xk_X12_next ct K R n 117 ls (v.toList ++ rest) σ' (k.1 + 0, k.2 + 0)) ∧
  xe_X12_next ct K R (n + 1) 117 ls st σ k = (xk_X12_next ct K R n 119 ls (vi (97) :: st) σ k) ∧
  xe_X12_next ct K R (n + 1) 119 ls st σ k = (oI st fun y st => oI st fun x st => (wI x < wI y → xk_X12_next ct K R n 188 ls st σ k) ∧ (¬ (wI x < wI y) → xk_X12_next ct K R n 122 ls st σ k)) ∧
  xe_X12_next ct K R (n + 1) 122 ls st σ k = (lR ls 0 fun x => xk_X12_next ct K R n 123 ls (vr x :: st) σ k) ∧
  xe_X12_next ct K R (n + 1) 123 ls st σ k = (lR ls 0 fun x => xk_X12_next ct K R n 124 ls (vr x :: st) σ k) ∧
  xe_X12_next ct K R (n + 1) 124 ls st σ k = (oR st fun x st => kd σ x = 13 ∧ xk_X12_next ct K R n 127 ls (vi (fI σ 1346 x) :: st) σ k) ∧
  xe_X12_next ct K R (n + 1) 127 ls st σ k = (popN 2 st [] fun av rest => (catS rest ≤ 8 ∧ 1 < 2 ∧ k.1 + 0 ≤ 0 ∧ k.2 + 0 ≤ 0) ∧ (sp_X12_signAt) av σ fun v σ' => xk_X12_next ct K R n 130 ls (v.toList ++ rest) σ' (k.1 + 0, k.2 + 0)) ∧
  xe_X12_next ct K R (n + 1) 130 ls st σ k = (xk_X12_next ct K R n 132 ls (vi (122) :: st) σ k) ∧
  xe_X12_next ct K R (n + 1) 132 ls st σ k = (oI st fun y st => oI st fun x st => (wI y < wI x → xk_X12_next ct K R n 188 ls st σ k) ∧ (¬ (wI y < wI x) → xk_X12_next ct K R n 135 ls st σ k)) ∧
  xe_X12_next ct K R (n + 1) 135 ls st σ k = (lR ls 0 fun x => xk_X12_next ct K R n 136 ls (vr x :: st) σ k) ∧
  xe_X12_next ct K R (n + 1) 136 ls st σ k = (oR st fun x st => kd σ x = 13 ∧ xk_X12_next ct K R n 139 ls (vi (fI σ 1346 x) :: st) σ k) ∧
  xe_X12_next ct K R (n + 1) 139 ls st σ k = (lR ls 0 fun x => xk_X12_next ct K R n 140 ls (vr x :: st) σ k) ∧
  xe_X12_next ct K R (n + 1) 140 ls st σ k = (oR st fun x st => kd σ x = 13 ∧ xk_X12_next ct K R n 143 ls (vi (fI σ 1347 x) :: st) σ k) ∧
  xe_X12_next ct K R (n + 1) 143 ls st σ k = (oI st fun y st => oI st fun x st => xk_X12_next ct K R n 144 ls (vi (x - y) :: st) σ k) ∧
  xe_X12_next ct K R (n + 1) 144 ls st σ k = (xk_X12_next ct K R n 146 ls (vi (8) :: st) σ k) ∧
  xe_X12_next ct K R (n + 1) 146 ls st σ k = (oI st fun y st => oI st fun x st => (wI y ≤ wI x → xk_X12_next ct K R n 175 ls st σ k) ∧ (¬ (wI y ≤ wI x) → xk_X12_next ct K R n 149 ls st σ k)) ∧
  xe_X12_next ct K R (n + 1) 149 ls st σ k = (lR ls 0 fun x => xk_X12_next ct K R n 150 ls (vr x :: st) σ k) ∧
  xe_X12_next ct K R (n + 1) 150 ls st σ k = (lR ls 0 fun x => xk_X12_next ct K R n 151 ls (vr x :: st) σ k) ∧
  xe_X12_next ct K R (n + 1) 151 ls st σ k = (oR st fun x st => kd σ x = 13 ∧ xk_X12_next ct K R n 154 ls (vl (fL σ 1349 x) :: st) σ k) ∧
  xe_X12_next ct K R (n + 1) 154 ls st σ k = (xk_X12_next ct K R n 157 ls (vl (BitVec.ofInt 64 (27)) :: st) σ k) ∧
  xe_X12_next ct K R (n + 1) 157 ls st σ k = (oL st fun y st => oL st fun x st => xk_X12_next ct K R n 158 ls (vl (x * y) :: st) σ k) ∧
  xe_X12_next ct K R (n + 1) 158 ls st σ k = (lR ls 0 fun x => xk_X12_next ct K R n 159 ls (vr x :: st) σ k) ∧
  xe_X12_next ct K R (n + 1) 159 ls st σ k = (lR ls 0 fun x => xk_X12_next ct K R n 160 ls (vr x :: st) σ k) ∧
  xe_X12_next ct K R (n + 1) 160 ls st σ k = (oR st fun x st => kd σ x = 13 ∧ xk_X12_next ct K R n 163 ls (vi (fI σ 1346 x) :: st) σ k) ∧
  xe_X12_next ct K R (n + 1) 163 ls st σ k = (popN 2 st [] fun av rest => (catS rest ≤ 8 ∧ 1 < 2 ∧ k.1 + 0 ≤ 0 ∧ k.2 + 0 ≤ 0) ∧ (sp_X12_signAt) av σ fun v σ' => xk_X12_next ct K R n 166 ls (v.toList ++ rest) σ' (k.1 + 0, k.2 + 0)) ∧
  xe_X12_next ct K R (n + 1) 166 ls st σ k = (oI st fun x st => xk_X12_next ct K R n 167 ls (vl (BitVec.ofInt 64 (wI x)) :: st) σ k) ∧
  xe_X12_next ct K R (n + 1) 167 ls st σ k = (oL st fun y st => oL st fun x st => xk_X12_next ct K R n 168 ls (vl (x + y) :: st) σ k) ∧
  xe_X12_next ct K R (n + 1) 168 ls st σ k = (xk_X12_next ct K R n 171 ls (vl (BitVec.ofInt 64 (96)) :: st) σ k) ∧
  xe_X12_next ct K R (n + 1) 171 ls st σ k = (oL st fun y st => oL st fun x st => xk_X12_next ct K R n 172 ls (vl (x - y) :: st) σ k) ∧
  xe_X12_next ct K R (n + 1) 172 ls st σ k = (oL st fun v st => oR st fun x st => kd σ x = 13 ∧ xk_X12_next ct K R n 175 ls st (pL σ 1349 x v) k) ∧
  xe_X12_next ct K R (n + 1) 175 ls st σ k = (lR ls 0 fun x => xk_X12_next ct K R n 176 ls (vr x :: st) σ k) ∧
  xe_X12_next ct K R (n + 1) 176 ls st σ k = (o1 st fun v st => xk_X12_next ct K R n 177 ls (v :: v :: st) σ k) ∧
  xe_X12_next ct K R (n + 1) 177 ls st σ k = (oR st fun x st => kd σ x = 13 ∧ xk_X12_next ct K R n 180 ls (vi (fI σ 1346 x) :: st) σ k) ∧
  xe_X12_next ct K R (n + 1) 180 ls st σ k = (xk_X12_next ct K R n 181 ls (vi (1) :: st) σ k) ∧
  xe_X12_next ct K R (n + 1) 181 ls st σ k = (oI st fun y st => oI st fun x st => xk_X12_next ct K R n 182 ls (vi (x + y) :: st) σ k) ∧
  xe_X12_next ct K R (n + 1) 182 ls st σ k = (oI st fun v st => oR st fun x st => kd σ x = 13 ∧ xk_X12_next ct K R n 185 ls st (pI σ 1346 x v) k) ∧
  xe_X12_next ct K R (n + 1) 185 ls st σ k = (xk_X12_next ct K R n 109 ls st σ k) ∧
  xe_X12_next ct K R (n + 1) 188 ls st σ k = (lR ls 0 fun x => xk_X12_next ct K R n 189 ls (vr x :: st) σ k) ∧
  xe_X12_next ct K R (n + 1) 189 ls st σ k = (lR ls 0 fun x => xk_X12_next ct K R n 190 ls (vr x :: st) σ k) ∧
  xe_X12_next ct K R (n + 1) 190 ls st σ k = (oR st fun x st => kd σ x = 13 ∧ xk_X12_next ct K R n 193 ls (vi (fI σ 1346 x) :: st) σ k) ∧
  xe_X12_next ct K R (n + 1) 193 ls st σ k = (lR ls 0 fun x => xk_X12_next ct K R n 194 ls (vr x :: st) σ k) ∧
  xe_X12_next ct K R (n + 1) 194 ls st σ k = (oR st fun x st => kd σ x = 13 ∧ xk_X12_next ct K R n 197 ls (vi (fI σ 1347 x) :: st) σ k) ∧
  xe_X12_next ct K R (n + 1) 197 ls st σ k = (oI st fun y st => oI st fun x st => xk_X12_next ct K R n 198 ls (vi (x - y) :: st) σ k) ∧
  xe_X12_next ct K R (n + 1) 198 ls st σ k = (xk_X12_next ct K R n 200 ls (vi (8) :: st) σ k) ∧
  xe_X12_next ct K R (n + 1) 200 ls st σ k = (oI st fun y st => oI st fun x st => (wI x ≤ wI y → xk_X12_next ct K R n 207 ls st σ k) ∧ (¬ (wI x ≤ wI y) → xk_X12_next ct K R n 203 ls st σ k)) ∧
  xe_X12_next ct K R (n + 1) 203 ls st σ k = (xk_X12_next ct K R n 204 ls (vi (4) :: st) σ k) ∧
  xe_X12_next ct K R (n + 1) 204 ls st σ k = (xk_X12_next ct K R n 208 ls st σ k) ∧
  xe_X12_next ct K R (n + 1) 207 ls st σ k = (xk_X12_next ct K R n 208 ls (vi (1) :: st) σ k) ∧
  xe_X12_next ct K R (n + 1) 208 ls st σ k = (oI st fun v st => oR st fun x st => kd σ x = 13 ∧ xk_X12_next ct K R n 211 ls st (pI σ 1348 x v) k) ∧
  xe_X12_next ct K R (n + 1) 211 ls st σ k = (st = [] ∧ 0 = 0 ∧ R none σ) ∧
  xe_X12_next ct K R (n + 1) 212 ls st σ k = (lI ls 1 fun x => xk_X12_next ct K R n 213 ls (vi x :: st) σ k) ∧
  xe_X12_next ct K R (n + 1) 213 ls st σ k = (xk_X12_next ct K R n 215 ls (vi (48) :: st) σ k) ∧
  xe_X12_next ct K R (n + 1) 215 ls st σ k = (oI st fun y st => oI st fun x st => (wI x < wI y → xk_X12_next ct K R n 322 ls st σ k) ∧ (¬ (wI x < wI y) → xk_X12_next ct K R n 218 ls st σ k)) ∧
  xe_X12_next ct K R (n + 1) 218 ls st σ k = (lI ls 1 fun x => xk_X12_next ct K R n 219 ls (vi x :: st) σ k) ∧
  xe_X12_next ct K R (n + 1) 219 ls st σ k = (xk_X12_next ct K R n 221 ls (vi (57) :: st) σ k) ∧
  xe_X12_next ct K R (n + 1) 221 ls st σ k = (oI st fun y st => oI st fun x st => (wI y < wI x → xk_X12_next ct K R n 322 ls st σ k) ∧ (¬ (wI y < wI x) → xk_X12_next ct K R n 224 ls st σ k)) ∧
  xe_X12_next ct K R (n + 1) 224 ls st σ k = (lR ls 0 fun x => xk_X12_next ct K R n 225 ls (vr x :: st) σ k) ∧
  xe_X12_next ct K R (n + 1) 225 ls st σ k = (lR ls 0 fun x => xk_X12_next ct K R n 226 ls (vr x :: st) σ k) ∧
  xe_X12_next ct K R (n + 1) 226 ls st σ k = (oR st fun x st => kd σ x = 13 ∧ xk_X12_next ct K R n 229 ls (vi (fI σ 1346 x) :: st) σ k) ∧
  xe_X12_next ct K R (n + 1) 229 ls st σ k = (popN 2 st [] fun av rest => (catS rest ≤ 8 ∧ 1 < 2 ∧ k.1 + 0 ≤ 0 ∧ k.2 + 0 ≤ 0) ∧ (sp_X12_signAt) av σ fun v σ' => xk_X12_next ct K R n 232 ls (v.toList ++ rest) σ' (k.1 + 0, k.2 + 0)) ∧
  xe_X12_next ct K R (n + 1) 232 ls st σ k = (xk_X12_next ct K R n 234 ls (vi (48) :: st) σ k) ∧
  xe_X12_next ct K R (n + 1) 234 ls st σ k = (oI st fun y st => oI st fun x st => (wI x < wI y → xk_X12_next ct K R n 299 ls st σ k) ∧ (¬ (wI x < wI y) → xk_X12_next ct K R n 237 ls st σ k)) ∧
  xe_X12_next ct K R (n + 1) 237 ls st σ k = (lR ls 0 fun x => xk_X12_next ct K R n 238 ls (vr x :: st) σ k) ∧
  xe_X12_next ct K R (n + 1) 238 ls st σ k = (lR ls 0 fun x => xk_X12_next ct K R n 239 ls (vr x :: st) σ k) ∧
  xe_X12_next ct K R (n + 1) 239 ls st σ k = (oR st fun x st => kd σ x = 13 ∧ xk_X12_next ct K R n 242 ls (vi (fI σ 1346 x) :: st) σ k) ∧
  xe_X12_next ct K R (n + 1) 242 ls st σ k = (popN 2 st [] fun av rest => (catS rest ≤ 8 ∧ 1 < 2 ∧ k.1 + 0 ≤ 0 ∧ k.2 + 0 ≤ 0) ∧ (sp_X12_signAt) av σ fun v σ' => xk_X12_next ct K R n 245 ls (v.toList ++ rest) σ' (k.1 + 0, k.2 + 0)) ∧
  xe_X12_next ct K R (n + 1) 245 ls st σ k = (xk_X12_next ct K R n 247 ls (vi (57) :: st) σ k) ∧
  xe_X12_next ct K R (n + 1) 247 ls st σ k = (oI st fun y st => oI st fun x st => (wI y < wI x → xk_X12_next ct K R n 299 ls st σ k) ∧ (¬ (wI y < wI x) → xk_X12_next ct K R n 250 ls st σ k)) ∧
  xe_X12_next ct K R (n + 1) 250 ls st σ k = (lR ls 0 fun x => xk_X12_next ct K R n 251 ls (vr x :: st) σ k) ∧
  xe_X12_next ct K R (n + 1) 251 ls st σ k = (oR st fun x st => kd σ x = 13 ∧ xk_X12_next ct K R n 254 ls (vi (fI σ 1346 x) :: st) σ k) ∧
  xe_X12_next ct K R (n + 1) 254 ls st σ k = (lR ls 0 fun x => xk_X12_next ct K R n 255 ls (vr x :: st) σ k) ∧
  xe_X12_next ct K R (n + 1) 255 ls st σ k = (oR st fun x st => kd σ x = 13 ∧ xk_X12_next ct K R n 258 ls (vi (fI σ 1347 x) :: st) σ k) ∧
  xe_X12_next ct K R (n + 1) 258 ls st σ k = (oI st fun y st => oI st fun x st => xk_X12_next ct K R n 259 ls (vi (x - y) :: st) σ k) ∧
  xe_X12_next ct K R (n + 1) 259 ls st σ k = (xk_X12_next ct K R n 260 ls (vi (4) :: st) σ k) ∧
  xe_X12_next ct K R (n + 1) 260 ls st σ k = (oI st fun y st => oI st fun x st => (wI y ≤ wI x → xk_X12_next ct K R n 286 ls st σ k) ∧ (¬ (wI y ≤ wI x) → xk_X12_next ct K R n 263 ls st σ k)) ∧
  xe_X12_next ct K R (n + 1) 263 ls st σ k = (lR ls 0 fun x => xk_X12_next ct K R n 264 ls (vr x :: st) σ k) ∧
  xe_X12_next ct K R (n + 1) 264 ls st σ k = (lR ls 0 fun x => xk_X12_next ct K R n 265 ls (vr x :: st) σ k) ∧
  xe_X12_next ct K R (n + 1) 265 ls st σ k = (oR st fun x st => kd σ x = 13 ∧ xk_X12_next ct K R n 268 ls (vi (fI σ 1350 x) :: st) σ k) ∧
  xe_X12_next ct K R (n + 1) 268 ls st σ k = (xk_X12_next ct K R n 270 ls (vi (10) :: st) σ k) ∧
  xe_X12_next ct K R (n + 1) 270 ls st σ k = (oI st fun y st => oI st fun x st => xk_X12_next ct K R n 271 ls (vi (x * y) :: st) σ k) ∧
  xe_X12_next ct K R (n + 1) 271 ls st σ k = (lR ls 0 fun x => xk_X12_next ct K R n 272 ls (vr x :: st) σ k) ∧
  xe_X12_next ct K R (n + 1) 272 ls st σ k = (lR ls 0 fun x => xk_X12_next ct K R n 273 ls (vr x :: st) σ k) ∧
  xe_X12_next ct K R (n + 1) 273 ls st σ k = (oR st fun x st => kd σ x = 13 ∧ xk_X12_next ct K R n 276 ls (vi (fI σ 1346 x) :: st) σ k) ∧
  xe_X12_next ct K R (n + 1) 276 ls st σ k = (popN 2 st [] fun av rest => (catS rest ≤ 8 ∧ 1 < 2 ∧ k.1 + 0 ≤ 0 ∧ k.2 + 0 ≤ 0) ∧ (sp_X12_signAt) av σ fun v σ' => xk_X12_next ct K R n 279 ls (v.toList ++ rest) σ' (k.1 + 0, k.2 + 0)) ∧
  xe_X12_next ct K R (n + 1) 279 ls st σ k = (oI st fun y st => oI st fun x st => xk_X12_next ct K R n 280 ls (vi (x + y) :: st) σ k) ∧
  xe_X12_next ct K R (n + 1) 280 ls st σ k = (xk_X12_next ct K R n 282 ls (vi (48) :: st) σ k) ∧
  xe_X12_next ct K R (n + 1) 282 ls st σ k = (oI st fun y st => oI st fun x st => xk_X12_next ct K R n 283 ls (vi (x - y) :: st) σ k) ∧
  xe_X12_next ct K R (n + 1) 283 ls st σ k = (oI st fun v st => oR st fun x st => kd σ x = 13 ∧ xk_X12_next ct K R n 286 ls st (pI σ 1350 x v) k) ∧
  xe_X12_next ct K R (n + 1) 286 ls st σ k = (lR ls 0 fun x => xk_X12_next ct K R n 287 ls (vr x :: st) σ k) ∧
  xe_X12_next ct K R (n + 1) 287 ls st σ k = (o1 st fun v st => xk_X12_next ct K R n 288 ls (v :: v :: st) σ k) ∧
  xe_X12_next ct K R (n + 1) 288 ls st σ k = (oR st fun x st => kd σ x = 13 ∧ xk_X12_next ct K R n 291 ls (vi (fI σ 1346 x) :: st) σ k) ∧
  xe_X12_next ct K R (n + 1) 291 ls st σ k = (xk_X12_next ct K R n 292 ls (vi (1) :: st) σ k) ∧
  xe_X12_next ct K R (n + 1) 292 ls st σ k = (oI st fun y st => oI st fun x st => xk_X12_next ct K R n 293 ls (vi (x + y) :: st) σ k) ∧
  xe_X12_next ct K R (n + 1) 293 ls st σ k = (oI st fun v st => oR st fun x st => kd σ x = 13 ∧ xk_X12_next ct K R n 296 ls st (pI σ 1346 x v) k) ∧
  xe_X12_next ct K R (n + 1) 296 ls st σ k = (xk_X12_next ct K R n 224 ls st σ k) ∧
  xe_X12_next ct K R (n + 1) 299 ls st σ k = (lR ls 0 fun x => xk_X12_next ct K R n 300 ls (vr x :: st) σ k) ∧
  xe_X12_next ct K R (n + 1) 300 ls st σ k = (lR ls 0 fun x => xk_X12_next ct K R n 301 ls (vr x :: st) σ k) ∧
  xe_X12_next ct K R (n + 1) 301 ls st σ k = (oR st fun x st => kd σ x = 13 ∧ xk_X12_next ct K R n 304 ls (vi (fI σ 1346 x) :: st) σ k) ∧
  xe_X12_next ct K R (n + 1) 304 ls st σ k = (lR ls 0 fun x => xk_X12_next ct K R n 305 ls (vr x :: st) σ k) ∧
  xe_X12_next ct K R (n + 1) 305 ls st σ k = (oR st fun x st => kd σ x = 13 ∧ xk_X12_next ct K R n 308 ls (vi (fI σ 1347 x) :: st) σ k) ∧
  xe_X12_next ct K R (n + 1) 308 ls st σ k = (oI st fun y st => oI st fun x st => xk_X12_next ct K R n 309 ls (vi (x - y) :: st) σ k) ∧
  xe_X12_next ct K R (n + 1) 309 ls st σ k = (xk_X12_next ct K R n 310 ls (vi (4) :: st) σ k) ∧
  xe_X12_next ct K R (n + 1) 310 ls st σ k = (oI st fun y st => oI st fun x st => (wI x ≤ wI y → xk_X12_next ct K R n 317 ls st σ k) ∧ (¬ (wI x ≤ wI y) → xk_X12_next ct K R n 313 ls st σ k)) ∧
  xe_X12_next ct K R (n + 1) 313 ls st σ k = (xk_X12_next ct K R n 314 ls (vi (4) :: st) σ k) ∧
  xe_X12_next ct K R (n + 1) 314 ls st σ k = (xk_X12_next ct K R n 318 ls st σ k) ∧
  xe_X12_next ct K R (n + 1) 317 ls st σ k = (xk_X12_next ct K R n 318 ls (vi (2) :: st) σ k) ∧
  xe_X12_next ct K R (n + 1) 318 ls st σ k = (oI st fun v st => oR st fun x st => kd σ x = 13 ∧ xk_X12_next ct K R n 321 ls st (pI σ 1348 x v) k) ∧
  xe_X12_next ct K R (n + 1) 321 ls st σ k = (st = [] ∧ 0 = 0 ∧ R none σ) ∧
  xe_X12_next ct K R (n + 1) 322 ls st σ k = (lR ls 0 fun x => xk_X12_next ct K R n 323 ls (vr x :: st) σ k) ∧
  xe_X12_next ct K R (n + 1) 323 ls st σ k = (o1 st fun v st => xk_X12_next ct K R n 324 ls (v :: v :: st) σ k) ∧
  xe_X12_next ct K R (n + 1) 324 ls st σ k = (oR st fun x st => kd σ x = 13 ∧ xk_X12_next ct K R n 327 ls (vi (fI σ 1346 x) :: st) σ k) ∧
  xe_X12_next ct K R (n + 1) 327 ls st σ k = (xk_X12_next ct K R n 328 ls (vi (1) :: st) σ k) ∧
  xe_X12_next ct K R (n + 1) 328 ls st σ k = (oI st fun y st => oI st fun x st => xk_X12_next ct K R n 329 ls (vi (x + y) :: st) σ k) ∧
  xe_X12_next ct K R (n + 1) 329 ls st σ k = (oI st fun v st => oR st fun x st => kd σ x = 13 ∧ xk_X12_next ct K R n 332 ls st (pI σ 1346 x v) k) ∧
  xe_X12_next ct K R (n + 1) 332 ls st σ k = (lR ls 0 fun x => xk_X12_next ct K R n 333 ls (vr x :: st) σ k) ∧
  xe_X12_next ct K R (n + 1) 333 ls st σ k = (lI ls 1 fun x => xk_X12_next ct K R n 334 ls (vi x :: st) σ k) ∧
  xe_X12_next ct K R (n + 1) 334 ls st σ k = (xk_X12_next ct K R n 336 ls (vi (40) :: st) σ k) ∧
  xe_X12_next ct K R (n + 1) 336 ls st σ k = (oI st fun y st => oI st fun x st => (wI x = wI y → xk_X12_next ct K R n 369 ls st σ k) ∧ (¬ (wI x = wI y) → xk_X12_next ct K R n 339 ls st σ k)) ∧
  xe_X12_next ct K R (n + 1) 339 ls st σ k = (lI ls 1 fun x => xk_X12_next ct K R n 340 ls (vi x :: st) σ k) ∧
  xe_X12_next ct K R (n + 1) 340 ls st σ k = (xk_X12_next ct K R n 342 ls (vi (41) :: st) σ k) ∧
  xe_X12_next ct K R (n + 1) 342 ls st σ k = (oI st fun y st => oI st fun x st => (wI x = wI y → xk_X12_next ct K R n 369 ls st σ k) ∧ (¬ (wI x = wI y) → xk_X12_next ct K R n 345 ls st σ k)) ∧
  xe_X12_next ct K R (n + 1) 345 ls st σ k = (lI ls 1 fun x => xk_X12_next ct K R n 346 ls (vi x :: st) σ k) ∧
  xe_X12_next ct K R (n + 1) 346 ls st σ k = (xk_X12_next ct K R n 348 ls (vi (43) :: st) σ k) ∧
  xe_X12_next ct K R (n + 1) 348 ls st σ k = (oI st fun y st => oI st fun x st => (wI x = wI y → xk_X12_next ct K R n 369 ls st σ k) ∧ (¬ (wI x = wI y) → xk_X12_next ct K R n 351 ls st σ k)) ∧
  xe_X12_next ct K R (n + 1) 351 ls st σ k = (lI ls 1 fun x => xk_X12_next ct K R n 352 ls (vi x :: st) σ k) ∧
  xe_X12_next ct K R (n + 1) 352 ls st σ k = (xk_X12_next ct K R n 354 ls (vi (45) :: st) σ k) ∧
  xe_X12_next ct K R (n + 1) 354 ls st σ k = (oI st fun y st => oI st fun x st => (wI x = wI y → xk_X12_next ct K R n 369 ls st σ k) ∧ (¬ (wI x = wI y) → xk_X12_next ct K R n 357 ls st σ k)) ∧
  xe_X12_next ct K R (n + 1) 357 ls st σ k = (lI ls 1 fun x => xk_X12_next ct K R n 358 ls (vi x :: st) σ k) ∧
  xe_X12_next ct K R (n + 1) 358 ls st σ k = (xk_X12_next ct K R n 360 ls (vi (59) :: st) σ k) ∧
  xe_X12_next ct K R (n + 1) 360 ls st σ k = (oI st fun y st => oI st fun x st => (wI x < wI y → xk_X12_next ct K R n 373 ls st σ k) ∧ (¬ (wI x < wI y) → xk_X12_next ct K R n 363 ls st σ k)) ∧
  xe_X12_next ct K R (n + 1) 363 ls st σ k = (lI ls 1 fun x => xk_X12_next ct K R n 364 ls (vi x :: st) σ k) ∧
  xe_X12_next ct K R (n + 1) 364 ls st σ k = (xk_X12_next ct K R n 366 ls (vi (61) :: st) σ k) ∧
  xe_X12_next ct K R (n + 1) 366 ls st σ k = (oI st fun y st => oI st fun x st => (wI y < wI x → xk_X12_next ct K R n 373 ls st σ k) ∧ (¬ (wI y < wI x) → xk_X12_next ct K R n 369 ls st σ k)) ∧
  xe_X12_next ct K R (n + 1) 369 ls st σ k = (xk_X12_next ct K R n 370 ls (vi (3) :: st) σ k) ∧
  xe_X12_next ct K R (n + 1) 370 ls st σ k = (xk_X12_next ct K R n 374 ls st σ k) ∧
  xe_X12_next ct K R (n + 1) 373 ls st σ k = (xk_X12_next ct K R n 374 ls (vi (4) :: st) σ k) ∧
  xe_X12_next ct K R (n + 1) 374 ls st σ k = (oI st fun v st => oR st fun x st => kd σ x = 13 ∧ xk_X12_next ct K R n 377 ls st (pI σ 1348 x v) k) ∧
  xe_X12_next ct K R (n + 1) 377 ls st σ k = (st = [] ∧ 0 = 0 ∧ R none σ) :=
  ⟨exS_step.trans rfl, exS_step.trans rfl, exS_step.trans rfl, exS_step.trans rfl, exS_step.trans rfl, exS_step.trans rfl, exS_step.trans rfl, exS_step.trans rfl, exS_step.trans rfl, exS_step.trans rfl, exS_step.trans rfl, exS_step.trans rfl, exS_step.trans rfl, exS_step.trans rfl, exS_step.trans rfl, exS_step.trans rfl, exS_step.trans rfl, exS_step.trans rfl, exS_step.trans rfl, exS_step.trans rfl, exS_step.trans rfl, exS_step.trans rfl, exS_step.trans rfl, exS_step.trans rfl, exS_step.trans rfl, exS_step.trans rfl, exS_step.trans rfl, exS_step.trans rfl, exS_step.trans rfl, exS_step.trans rfl, exS_step.trans rfl, exS_step.trans rfl, exS_step.trans rfl, exS_step.trans rfl, exS_step.trans rfl, exS_step.trans rfl, exS_step.trans rfl, exS_step.trans rfl, exS_step.trans rfl, exS_step.trans rfl, exS_step.trans rfl, exS_step.trans rfl, exS_step.trans rfl, exS_step.trans rfl, exS_step.trans rfl, exS_step.trans rfl, exS_step.trans rfl, exS_step.trans rfl, exS_step.trans rfl, exS_step.trans rfl, exS_step.trans rfl, exS_step.trans rfl, exS_step.trans rfl, exS_step.trans rfl, exS_step.trans rfl, exS_step.trans rfl, exS_step.trans rfl, exS_step.trans rfl, exS_step.trans rfl, exS_step.trans rfl, exS_step.trans rfl, exS_step.trans rfl, exS_step.trans rfl, exS_step.trans rfl, exS_step.trans rfl, exS_step.trans rfl, exS_step.trans rfl, exS_step.trans rfl, exS_step.trans rfl, exS_step.trans rfl, exS_step.trans rfl, exS_step.trans rfl, exS_step.trans rfl, exS_step.trans rfl, exS_step.trans rfl, exS_step.trans rfl, exS_step.trans rfl, exS_step.trans rfl, exS_step.trans rfl, exS_step.trans rfl, exS_step.trans rfl, exS_step.trans rfl, exS_step.trans rfl, exS_step.trans rfl, exS_step.trans rfl, exS_step.trans rfl, exS_step.trans rfl, exS_step.trans rfl, exS_step.trans rfl, exS_step.trans rfl, exS_step.trans rfl, exS_step.trans rfl, exS_step.trans rfl, exS_step.trans rfl, exS_step.trans rfl, exS_step.trans rfl, exS_step.trans rfl, exS_step.trans rfl, exS_step.trans rfl, exS_step.trans rfl, exS_step.trans rfl, exS_step.trans rfl, exS_step.trans rfl, exS_step.trans rfl, exS_step.trans rfl, exS_step.trans rfl, exS_step.trans rfl, exS_step.trans rfl, exS_step.trans rfl, exS_step.trans rfl, exS_step.trans rfl, exS_step.trans rfl, exS_step.trans rfl, exS_step.trans rfl, exS_step.trans rfl, exS_step.trans rfl, exS_step.trans rfl, exS_step.trans rfl, exS_step.trans rfl, exS_step.trans rfl, exS_step.trans rfl, exS_step.trans rfl, exS_step.trans rfl, exS_step.trans rfl, exS_step.trans rfl, exS_step.trans rfl, exS_step.trans rfl, exS_step.trans rfl, exS_step.trans rfl, exS_step.trans rfl, exS_step.trans rfl, exS_step.trans rfl, exS_step.trans rfl, exS_step.trans rfl, exS_step.trans rfl, exS_step.trans rfl, exS_step.trans rfl, exS_step.trans rfl, exS_step.trans rfl, exS_step.trans rfl, exS_step.trans rfl, exS_step.trans rfl, exS_step.trans rfl, exS_step.trans rfl, exS_step.trans rfl, exS_step.trans rfl, exS_step.trans rfl, exS_step.trans rfl, exS_step.trans rfl, exS_step.trans rfl, exS_step.trans rfl, exS_step.trans rfl, exS_step.trans rfl, exS_step.trans rfl, exS_step.trans rfl, exS_step.trans rfl, exS_step.trans rfl, exS_step.trans rfl, exS_step.trans rfl, exS_step.trans rfl, exS_step.trans rfl, exS_step.trans rfl, exS_step.trans rfl, exS_step.trans rfl, exS_step.trans rfl, exS_step.trans rfl, exS_step.trans rfl, exS_step.trans rfl, exS_step.trans rfl, exS_step.trans rfl, exS_step.trans rfl, exS_step.trans rfl, exS_step.trans rfl, exS_step.trans rfl, exS_step.trans rfl, exS_step.trans rfl, exS_step.trans rfl, exS_step.trans rfl, exS_step.trans rfl, exS_step.trans rfl, exS_step.trans rfl, exS_step.trans rfl, exS_step.trans rfl, exS_step.trans rfl, exS_step.trans rfl, exS_step.trans rfl, exS_step.trans rfl, exS_step.trans rfl, exS_step.trans rfl, exS_step.trans rfl, exS_step.trans rfl, exS_step.trans rfl, exS_step.trans rfl, exS_step.trans rfl, exS_step.trans rfl, exS_step.trans rfl, exS_step.trans rfl, exS_step.trans rfl⟩
def M_X12_next : Md := (yX12_next, cX12_next, 2, (none : Option FieldType), 2, 0, 0, 0, false, tb_X12_next, mt_X12_next)
theorem mm_X12_next : MMOK M_X12_next := ⟨by decide +kernel, tk_X12_next, mk_X12_next, rfl, fun h => by cases h⟩
theorem go_X12_next {Q : Option AV → Hp → Prop} {ct : Nat → Bool} {pc : Nat} {ls : List (Option AV)} {st : List AV} {σ : Hp} {k : Nat × Nat} (n : Nat) (h : xe_X12_next ct (Go M_X12_next Q) Q n pc ls st σ k) : Go M_X12_next Q pc ls st σ k := Go.exS mm_X12_next h

set_option maxRecDepth 20000 in
theorem next_109 {Q : Option AV → Hp → Prop} {σ : Hp} (hI : MI σ) (hk : kd σ 61 = 13) {b k s : Int} (hb : 0 ≤ b) (hkk : 0 ≤ k ∧ k ≤ 4) : ∀ (n : Nat) (p : Int), p + n = fI σ 1345 61 → b ≤ p →
    Q none (tk σ b (rn (aI σ 92) (fI σ 1345 61) 97 122 n p) (BitVec.ofInt 64 (wv (aI σ 92) b (min (rn (aI σ 92) (fI σ 1345 61) 97 122 n p - b) 8).toNat)) 0 (if rn (aI σ 92) (fI σ 1345 61) 97 122 n p - b ≤ 8 then 1 else 4)) →
    Go M_X12_next Q 109 [some (vr 61), some (vi s)] [] (tk σ b p (BitVec.ofInt 64 (wv (aI σ 92) b (min (p - b) 8).toNat)) 0 k) (0, 0) := by
  have x1 := hI.size_s
  have fin : ∀ p, b ≤ p → p ≤ fI σ 1345 61 → ¬ (p < fI σ 1345 61 ∧ 97 ≤ aI σ 92 p ∧ aI σ 92 p ≤ 122) → Q none (tk σ b p (BitVec.ofInt 64 (wv (aI σ 92) b (min (p - b) 8).toNat)) 0 (if p - b ≤ 8 then 1 else 4)) → Go M_X12_next Q 109 [some (vr 61), some (vi s)] [] (tk σ b p (BitVec.ofInt 64 (wv (aI σ 92) b (min (p - b) 8).toNat)) 0 k) (0, 0) := by
    intro p h1 h2 hc h
    have hM : MI (tk σ b p (BitVec.ofInt 64 (wv (aI σ 92) b (min (p - b) 8).toNat)) 0 k) := MI_tk hI (by omega) (by omega) (by omega) hkk
    generalize BitVec.ofInt 64 (wv (aI σ 92) b (min (p - b) 8).toNat) = w at *
    have x2 := hI.letters_ p
    by_cases hz : p < fI σ 1345 61
    · refine go_X12_next (ct := fun p => p == 0 || p == 109 || p == 224) 40 ?_
      simp only [oI, oL, oR, o1, lI, lL, lR, popN, catS, gv, stL, stL2, swt, cnd, spObj, List.getElem?_cons_zero, List.getElem?_cons_succ, List.getD_cons_zero, List.getD_cons_succ, List.set_cons_zero, List.set_cons_succ, List.nil_append, List.cons_append, Option.toList, Bool.or_false, Bool.false_or, Bool.or_true, Bool.true_or, Nat.reduceBEq, Nat.reduceAdd, Nat.reduceLT, Nat.reduceLeDiff, Int.reduceAdd, Int.reduceToNat, true_and, and_true, Fin.isValue, Fin.val_zero, Fin.val_one, Fin.val_two, Fin.reduceFinMk, eq_self, Int.reduceNeg, imp_self, Nat.reduceMul, Nat.le_refl, not_true_eq_false, not_false_eq_true, List.getElem?_nil, reduceCtorEq, true_or, or_true, Classical.not_not, implies_true, or_self, wI_0, wI_1, wI_m1, b2i_w, b2i_eq0, b2i_eq1, b2i_bool, nor_self, nx_pI, kd_pI, ln_pI, fI_pI, fL_pI, fR_pI, aI_pI, aL_pI, aR_pI, nx_pL, kd_pL, ln_pL, fI_pL, fL_pL, fR_pL, aI_pL, aL_pL, aR_pL, nx_pR, kd_pR, ln_pR, fI_pR, fL_pR, fR_pR, aI_pR, aL_pR, aR_pR, nx_qI, kd_qI, ln_qI, fI_qI, fL_qI, fR_qI, aI_qI, aL_qI, aR_qI, nx_qL, kd_qL, ln_qL, fI_qL, fL_qL, fR_qL, aI_qL, aL_qL, aR_qL, nx_qR, kd_qR, ln_qR, fI_qR, fL_qR, fR_qR, aI_qR, aL_qR, aR_qR, nx_mk, kd_mk, ln_mk, fI_mk, fL_mk, fR_mk, aI_mk, aL_mk, aR_mk, false_and, and_false, if_false, if_true, and_self, Int.reduceEq, Nat.reduceEqDiff, ite_self, MLay_pI, MLay_pL, MLay_qI, MLay_qL, ev_X12_next, xt_X12_next, xf_X12_next, us_X12_signAt, hk, hM, kd_tk, aI_tk, tk_fe, tk_fz, tk_fb, tk_k, if_pos hz]
      try simp (disch := omega) only [wI_id, dv_nn, rm_nn]
      repeat' (first | intro z | apply And.intro)
      all_goals try omega
      all_goals grind
    · refine go_X12_next (ct := fun p => p == 0 || p == 109 || p == 224) 40 ?_
      simp only [oI, oL, oR, o1, lI, lL, lR, popN, catS, gv, stL, stL2, swt, cnd, spObj, List.getElem?_cons_zero, List.getElem?_cons_succ, List.getD_cons_zero, List.getD_cons_succ, List.set_cons_zero, List.set_cons_succ, List.nil_append, List.cons_append, Option.toList, Bool.or_false, Bool.false_or, Bool.or_true, Bool.true_or, Nat.reduceBEq, Nat.reduceAdd, Nat.reduceLT, Nat.reduceLeDiff, Int.reduceAdd, Int.reduceToNat, true_and, and_true, Fin.isValue, Fin.val_zero, Fin.val_one, Fin.val_two, Fin.reduceFinMk, eq_self, Int.reduceNeg, imp_self, Nat.reduceMul, Nat.le_refl, not_true_eq_false, not_false_eq_true, List.getElem?_nil, reduceCtorEq, true_or, or_true, Classical.not_not, implies_true, or_self, wI_0, wI_1, wI_m1, b2i_w, b2i_eq0, b2i_eq1, b2i_bool, nor_self, nx_pI, kd_pI, ln_pI, fI_pI, fL_pI, fR_pI, aI_pI, aL_pI, aR_pI, nx_pL, kd_pL, ln_pL, fI_pL, fL_pL, fR_pL, aI_pL, aL_pL, aR_pL, nx_pR, kd_pR, ln_pR, fI_pR, fL_pR, fR_pR, aI_pR, aL_pR, aR_pR, nx_qI, kd_qI, ln_qI, fI_qI, fL_qI, fR_qI, aI_qI, aL_qI, aR_qI, nx_qL, kd_qL, ln_qL, fI_qL, fL_qL, fR_qL, aI_qL, aL_qL, aR_qL, nx_qR, kd_qR, ln_qR, fI_qR, fL_qR, fR_qR, aI_qR, aL_qR, aR_qR, nx_mk, kd_mk, ln_mk, fI_mk, fL_mk, fR_mk, aI_mk, aL_mk, aR_mk, false_and, and_false, if_false, if_true, and_self, Int.reduceEq, Nat.reduceEqDiff, ite_self, MLay_pI, MLay_pL, MLay_qI, MLay_qL, ev_X12_next, xt_X12_next, xf_X12_next, us_X12_signAt, hk, hM, kd_tk, aI_tk, tk_fe, tk_fz, tk_fb, tk_k, if_neg hz]
      try simp (disch := omega) only [wI_id, dv_nn, rm_nn]
      repeat' (first | intro z | apply And.intro)
      all_goals try omega
      all_goals grind
  intro n
  induction n with
  | zero =>
    intro p h1 h2 h
    exact fin p h2 (by omega) (by omega) h
  | succ n ih =>
    intro p h1 h2 h
    unfold rn at h
    by_cases hc : p < fI σ 1345 61 ∧ 97 ≤ aI σ 92 p ∧ aI σ 92 p ≤ 122
    · rw [if_pos hc] at h
      have ih := ih (p + 1) (by omega) (by omega) h
      have hM : ∀ w, MI (tk σ b p w 0 k) := fun w => MI_tk hI (by omega) (by omega) (by omega) hkk
      by_cases h8 : p - b < 8
      · obtain ⟨m, hm⟩ : ∃ m : Nat, p = b + m := ⟨(p - b).toNat, by omega⟩
        have e1 : (min (p - b) 8).toNat = m := by omega
        have e2 : (min (p + 1 - b) 8).toNat = m + 1 := by omega
        have ew : BitVec.ofInt 64 (wv (aI σ 92) b m) * BitVec.ofInt 64 27 + BitVec.ofInt 64 (aI σ 92 p) - BitVec.ofInt 64 96 = BitVec.ofInt 64 (wv (aI σ 92) b (m + 1)) := by
          have e9 : wv (aI σ 92) b (m + 1) = wv (aI σ 92) b m * 27 + aI σ 92 p - 96 := by rw [hm]; rfl
          rw [e9, ← BitVec.ofInt_mul, ← BitVec.ofInt_add, BitVec.sub_eq_add_neg, ← BitVec.ofInt_neg, ← BitVec.ofInt_add]
          rfl
        rw [e2] at ih
        rw [e1]
        refine go_X12_next (ct := fun p => p == 0 || p == 109 || p == 224) 60 ?_
        simp only [oI, oL, oR, o1, lI, lL, lR, popN, catS, gv, stL, stL2, swt, cnd, spObj, List.getElem?_cons_zero, List.getElem?_cons_succ, List.getD_cons_zero, List.getD_cons_succ, List.set_cons_zero, List.set_cons_succ, List.nil_append, List.cons_append, Option.toList, Bool.or_false, Bool.false_or, Bool.or_true, Bool.true_or, Nat.reduceBEq, Nat.reduceAdd, Nat.reduceLT, Nat.reduceLeDiff, Int.reduceAdd, Int.reduceToNat, true_and, and_true, Fin.isValue, Fin.val_zero, Fin.val_one, Fin.val_two, Fin.reduceFinMk, eq_self, Int.reduceNeg, imp_self, Nat.reduceMul, Nat.le_refl, not_true_eq_false, not_false_eq_true, List.getElem?_nil, reduceCtorEq, true_or, or_true, Classical.not_not, implies_true, or_self, wI_0, wI_1, wI_m1, b2i_w, b2i_eq0, b2i_eq1, b2i_bool, nor_self, nx_pI, kd_pI, ln_pI, fI_pI, fL_pI, fR_pI, aI_pI, aL_pI, aR_pI, nx_pL, kd_pL, ln_pL, fI_pL, fL_pL, fR_pL, aI_pL, aL_pL, aR_pL, nx_pR, kd_pR, ln_pR, fI_pR, fL_pR, fR_pR, aI_pR, aL_pR, aR_pR, nx_qI, kd_qI, ln_qI, fI_qI, fL_qI, fR_qI, aI_qI, aL_qI, aR_qI, nx_qL, kd_qL, ln_qL, fI_qL, fL_qL, fR_qL, aI_qL, aL_qL, aR_qL, nx_qR, kd_qR, ln_qR, fI_qR, fL_qR, fR_qR, aI_qR, aL_qR, aR_qR, nx_mk, kd_mk, ln_mk, fI_mk, fL_mk, fR_mk, aI_mk, aL_mk, aR_mk, false_and, and_false, if_false, if_true, and_self, Int.reduceEq, Nat.reduceEqDiff, ite_self, MLay_pI, MLay_pL, MLay_qI, MLay_qL, ev_X12_next, xt_X12_next, xf_X12_next, us_X12_signAt, hk, hM, kd_tk, aI_tk, tk_fe, tk_fz, tk_fb, tk_fw, tk_k, tk_w, tk_e, if_pos hc.1]
        try simp (disch := omega) only [wI_id, dv_nn, rm_nn]
        simp only [ew]
        repeat' (first | intro z | apply And.intro)
        all_goals try omega
        all_goals exact ih
      · have e2 : (min (p + 1 - b) 8).toNat = (min (p - b) 8).toNat := by omega
        rw [e2] at ih
        generalize BitVec.ofInt 64 (wv (aI σ 92) b (min (p - b) 8).toNat) = w at *
        refine go_X12_next (ct := fun p => p == 0 || p == 109 || p == 224) 60 ?_
        simp only [oI, oL, oR, o1, lI, lL, lR, popN, catS, gv, stL, stL2, swt, cnd, spObj, List.getElem?_cons_zero, List.getElem?_cons_succ, List.getD_cons_zero, List.getD_cons_succ, List.set_cons_zero, List.set_cons_succ, List.nil_append, List.cons_append, Option.toList, Bool.or_false, Bool.false_or, Bool.or_true, Bool.true_or, Nat.reduceBEq, Nat.reduceAdd, Nat.reduceLT, Nat.reduceLeDiff, Int.reduceAdd, Int.reduceToNat, true_and, and_true, Fin.isValue, Fin.val_zero, Fin.val_one, Fin.val_two, Fin.reduceFinMk, eq_self, Int.reduceNeg, imp_self, Nat.reduceMul, Nat.le_refl, not_true_eq_false, not_false_eq_true, List.getElem?_nil, reduceCtorEq, true_or, or_true, Classical.not_not, implies_true, or_self, wI_0, wI_1, wI_m1, b2i_w, b2i_eq0, b2i_eq1, b2i_bool, nor_self, nx_pI, kd_pI, ln_pI, fI_pI, fL_pI, fR_pI, aI_pI, aL_pI, aR_pI, nx_pL, kd_pL, ln_pL, fI_pL, fL_pL, fR_pL, aI_pL, aL_pL, aR_pL, nx_pR, kd_pR, ln_pR, fI_pR, fL_pR, fR_pR, aI_pR, aL_pR, aR_pR, nx_qI, kd_qI, ln_qI, fI_qI, fL_qI, fR_qI, aI_qI, aL_qI, aR_qI, nx_qL, kd_qL, ln_qL, fI_qL, fL_qL, fR_qL, aI_qL, aL_qL, aR_qL, nx_qR, kd_qR, ln_qR, fI_qR, fL_qR, fR_qR, aI_qR, aL_qR, aR_qR, nx_mk, kd_mk, ln_mk, fI_mk, fL_mk, fR_mk, aI_mk, aL_mk, aR_mk, false_and, and_false, if_false, if_true, and_self, Int.reduceEq, Nat.reduceEqDiff, ite_self, MLay_pI, MLay_pL, MLay_qI, MLay_qL, ev_X12_next, xt_X12_next, xf_X12_next, us_X12_signAt, hk, hM, kd_tk, aI_tk, tk_fe, tk_fz, tk_fb, tk_fw, tk_k, tk_w, tk_e, if_pos hc.1]
        try simp (disch := omega) only [wI_id, dv_nn, rm_nn]
        repeat' (first | intro z | apply And.intro)
        all_goals try omega
        all_goals exact ih
    · rw [if_neg hc] at h
      exact fin p h2 (by omega) hc h

set_option maxRecDepth 20000 in
theorem next_224 {Q : Option AV → Hp → Prop} {σ : Hp} (hI : MI σ) (hk : kd σ 61 = 13) {b k s : Int} (hb : 0 ≤ b) (hkk : 0 ≤ k ∧ k ≤ 4) : ∀ (n : Nat) (p : Int), p + n = fI σ 1345 61 → b ≤ p → (∀ j, b ≤ j → j < p → 48 ≤ aI σ 92 j ∧ aI σ 92 j ≤ 57) →
    Q none (tk σ b (rn (aI σ 92) (fI σ 1345 61) 48 57 n p) 0#64 (nv (aI σ 92) b (min (rn (aI σ 92) (fI σ 1345 61) 48 57 n p - b) 4).toNat) (if rn (aI σ 92) (fI σ 1345 61) 48 57 n p - b ≤ 4 then 2 else 4)) →
    Go M_X12_next Q 224 [some (vr 61), some (vi s)] [] (tk σ b p 0#64 (nv (aI σ 92) b (min (p - b) 4).toNat) k) (0, 0) := by
  have x1 := hI.size_s
  have nvb : ∀ p, b ≤ p → (∀ j, b ≤ j → j < p → 48 ≤ aI σ 92 j ∧ aI σ 92 j ≤ 57) → 0 ≤ nv (aI σ 92) b (min (p - b) 4).toNat ∧ nv (aI σ 92) b (min (p - b) 4).toNat ≤ 9999 := by
    intro p h1 h2
    have := nv_in (L := aI σ 92) (b := b) (min (p - b) 4).toNat (by omega) (fun j a c => h2 j a (by omega))
    have h3 := p10 (min (p - b) 4).toNat (by omega)
    omega
  have fin : ∀ p, b ≤ p → p ≤ fI σ 1345 61 → (∀ j, b ≤ j → j < p → 48 ≤ aI σ 92 j ∧ aI σ 92 j ≤ 57) → ¬ (p < fI σ 1345 61 ∧ 48 ≤ aI σ 92 p ∧ aI σ 92 p ≤ 57) → Q none (tk σ b p 0#64 (nv (aI σ 92) b (min (p - b) 4).toNat) (if p - b ≤ 4 then 2 else 4)) → Go M_X12_next Q 224 [some (vr 61), some (vi s)] [] (tk σ b p 0#64 (nv (aI σ 92) b (min (p - b) 4).toNat) k) (0, 0) := by
    intro p h1 h2 hd hc h
    have hN := nvb p h1 hd
    have hM : MI (tk σ b p 0#64 (nv (aI σ 92) b (min (p - b) 4).toNat) k) := MI_tk hI (by omega) (by omega) (by omega) hkk
    generalize nv (aI σ 92) b (min (p - b) 4).toNat = w at *
    have x2 := hI.letters_ p
    by_cases hz : p < fI σ 1345 61
    · refine go_X12_next (ct := fun p => p == 0 || p == 109 || p == 224) 40 ?_
      simp only [oI, oL, oR, o1, lI, lL, lR, popN, catS, gv, stL, stL2, swt, cnd, spObj, List.getElem?_cons_zero, List.getElem?_cons_succ, List.getD_cons_zero, List.getD_cons_succ, List.set_cons_zero, List.set_cons_succ, List.nil_append, List.cons_append, Option.toList, Bool.or_false, Bool.false_or, Bool.or_true, Bool.true_or, Nat.reduceBEq, Nat.reduceAdd, Nat.reduceLT, Nat.reduceLeDiff, Int.reduceAdd, Int.reduceToNat, true_and, and_true, Fin.isValue, Fin.val_zero, Fin.val_one, Fin.val_two, Fin.reduceFinMk, eq_self, Int.reduceNeg, imp_self, Nat.reduceMul, Nat.le_refl, not_true_eq_false, not_false_eq_true, List.getElem?_nil, reduceCtorEq, true_or, or_true, Classical.not_not, implies_true, or_self, wI_0, wI_1, wI_m1, b2i_w, b2i_eq0, b2i_eq1, b2i_bool, nor_self, nx_pI, kd_pI, ln_pI, fI_pI, fL_pI, fR_pI, aI_pI, aL_pI, aR_pI, nx_pL, kd_pL, ln_pL, fI_pL, fL_pL, fR_pL, aI_pL, aL_pL, aR_pL, nx_pR, kd_pR, ln_pR, fI_pR, fL_pR, fR_pR, aI_pR, aL_pR, aR_pR, nx_qI, kd_qI, ln_qI, fI_qI, fL_qI, fR_qI, aI_qI, aL_qI, aR_qI, nx_qL, kd_qL, ln_qL, fI_qL, fL_qL, fR_qL, aI_qL, aL_qL, aR_qL, nx_qR, kd_qR, ln_qR, fI_qR, fL_qR, fR_qR, aI_qR, aL_qR, aR_qR, nx_mk, kd_mk, ln_mk, fI_mk, fL_mk, fR_mk, aI_mk, aL_mk, aR_mk, false_and, and_false, if_false, if_true, and_self, Int.reduceEq, Nat.reduceEqDiff, ite_self, MLay_pI, MLay_pL, MLay_qI, MLay_qL, ev_X12_next, xt_X12_next, xf_X12_next, us_X12_signAt, hk, hM, kd_tk, aI_tk, tk_fe, tk_fz, tk_fb, tk_k, if_pos hz]
      try simp (disch := omega) only [wI_id, dv_nn, rm_nn]
      repeat' (first | intro z | apply And.intro)
      all_goals try omega
      all_goals grind
    · refine go_X12_next (ct := fun p => p == 0 || p == 109 || p == 224) 40 ?_
      simp only [oI, oL, oR, o1, lI, lL, lR, popN, catS, gv, stL, stL2, swt, cnd, spObj, List.getElem?_cons_zero, List.getElem?_cons_succ, List.getD_cons_zero, List.getD_cons_succ, List.set_cons_zero, List.set_cons_succ, List.nil_append, List.cons_append, Option.toList, Bool.or_false, Bool.false_or, Bool.or_true, Bool.true_or, Nat.reduceBEq, Nat.reduceAdd, Nat.reduceLT, Nat.reduceLeDiff, Int.reduceAdd, Int.reduceToNat, true_and, and_true, Fin.isValue, Fin.val_zero, Fin.val_one, Fin.val_two, Fin.reduceFinMk, eq_self, Int.reduceNeg, imp_self, Nat.reduceMul, Nat.le_refl, not_true_eq_false, not_false_eq_true, List.getElem?_nil, reduceCtorEq, true_or, or_true, Classical.not_not, implies_true, or_self, wI_0, wI_1, wI_m1, b2i_w, b2i_eq0, b2i_eq1, b2i_bool, nor_self, nx_pI, kd_pI, ln_pI, fI_pI, fL_pI, fR_pI, aI_pI, aL_pI, aR_pI, nx_pL, kd_pL, ln_pL, fI_pL, fL_pL, fR_pL, aI_pL, aL_pL, aR_pL, nx_pR, kd_pR, ln_pR, fI_pR, fL_pR, fR_pR, aI_pR, aL_pR, aR_pR, nx_qI, kd_qI, ln_qI, fI_qI, fL_qI, fR_qI, aI_qI, aL_qI, aR_qI, nx_qL, kd_qL, ln_qL, fI_qL, fL_qL, fR_qL, aI_qL, aL_qL, aR_qL, nx_qR, kd_qR, ln_qR, fI_qR, fL_qR, fR_qR, aI_qR, aL_qR, aR_qR, nx_mk, kd_mk, ln_mk, fI_mk, fL_mk, fR_mk, aI_mk, aL_mk, aR_mk, false_and, and_false, if_false, if_true, and_self, Int.reduceEq, Nat.reduceEqDiff, ite_self, MLay_pI, MLay_pL, MLay_qI, MLay_qL, ev_X12_next, xt_X12_next, xf_X12_next, us_X12_signAt, hk, hM, kd_tk, aI_tk, tk_fe, tk_fz, tk_fb, tk_k, if_neg hz]
      try simp (disch := omega) only [wI_id, dv_nn, rm_nn]
      repeat' (first | intro z | apply And.intro)
      all_goals try omega
      all_goals grind
  intro n
  induction n with
  | zero =>
    intro p h1 h2 hd h
    exact fin p h2 (by omega) hd (by omega) h
  | succ n ih =>
    intro p h1 h2 hd h
    unfold rn at h
    by_cases hc : p < fI σ 1345 61 ∧ 48 ≤ aI σ 92 p ∧ aI σ 92 p ≤ 57
    · rw [if_pos hc] at h
      have ih := ih (p + 1) (by omega) (by omega) (fun j a c => by
        by_cases e : j = p
        · subst e; exact hc.2
        · exact hd j a (by omega)) h
      have hN := nvb p h2 hd
      have hM : ∀ w, 0 ≤ w ∧ w ≤ 9999 → MI (tk σ b p 0#64 w k) := fun w hw => MI_tk hI (by omega) (by omega) hw hkk
      by_cases h8 : p - b < 4
      · obtain ⟨m, hm⟩ : ∃ m : Nat, p = b + m := ⟨(p - b).toNat, by omega⟩
        have e1 : (min (p - b) 4).toNat = m := by omega
        have e2 : (min (p + 1 - b) 4).toNat = m + 1 := by omega
        have ew : nv (aI σ 92) b m * 10 + aI σ 92 p - 48 = nv (aI σ 92) b (m + 1) := by
          rw [hm]; rfl
        rw [e2, ← ew] at ih
        rw [e1] at hN ⊢
        have hM := hM _ hN
        generalize nv (aI σ 92) b m = w at *
        refine go_X12_next (ct := fun p => p == 0 || p == 109 || p == 224) 60 ?_
        simp only [oI, oL, oR, o1, lI, lL, lR, popN, catS, gv, stL, stL2, swt, cnd, spObj, List.getElem?_cons_zero, List.getElem?_cons_succ, List.getD_cons_zero, List.getD_cons_succ, List.set_cons_zero, List.set_cons_succ, List.nil_append, List.cons_append, Option.toList, Bool.or_false, Bool.false_or, Bool.or_true, Bool.true_or, Nat.reduceBEq, Nat.reduceAdd, Nat.reduceLT, Nat.reduceLeDiff, Int.reduceAdd, Int.reduceToNat, true_and, and_true, Fin.isValue, Fin.val_zero, Fin.val_one, Fin.val_two, Fin.reduceFinMk, eq_self, Int.reduceNeg, imp_self, Nat.reduceMul, Nat.le_refl, not_true_eq_false, not_false_eq_true, List.getElem?_nil, reduceCtorEq, true_or, or_true, Classical.not_not, implies_true, or_self, wI_0, wI_1, wI_m1, b2i_w, b2i_eq0, b2i_eq1, b2i_bool, nor_self, nx_pI, kd_pI, ln_pI, fI_pI, fL_pI, fR_pI, aI_pI, aL_pI, aR_pI, nx_pL, kd_pL, ln_pL, fI_pL, fL_pL, fR_pL, aI_pL, aL_pL, aR_pL, nx_pR, kd_pR, ln_pR, fI_pR, fL_pR, fR_pR, aI_pR, aL_pR, aR_pR, nx_qI, kd_qI, ln_qI, fI_qI, fL_qI, fR_qI, aI_qI, aL_qI, aR_qI, nx_qL, kd_qL, ln_qL, fI_qL, fL_qL, fR_qL, aI_qL, aL_qL, aR_qL, nx_qR, kd_qR, ln_qR, fI_qR, fL_qR, fR_qR, aI_qR, aL_qR, aR_qR, nx_mk, kd_mk, ln_mk, fI_mk, fL_mk, fR_mk, aI_mk, aL_mk, aR_mk, false_and, and_false, if_false, if_true, and_self, Int.reduceEq, Nat.reduceEqDiff, ite_self, MLay_pI, MLay_pL, MLay_qI, MLay_qL, ev_X12_next, xt_X12_next, xf_X12_next, us_X12_signAt, hk, hM, kd_tk, aI_tk, tk_fe, tk_fz, tk_fb, tk_fw, tk_ft, tk_k, tk_w, tk_e, tk_t, if_pos hc.1]
        try simp (disch := omega) only [wI_id, dv_nn, rm_nn]
        repeat' (first | intro z | apply And.intro)
        all_goals try omega
        all_goals exact ih
      · have e2 : (min (p + 1 - b) 4).toNat = (min (p - b) 4).toNat := by omega
        rw [e2] at ih
        have hM := hM _ hN
        generalize nv (aI σ 92) b (min (p - b) 4).toNat = w at *
        refine go_X12_next (ct := fun p => p == 0 || p == 109 || p == 224) 60 ?_
        simp only [oI, oL, oR, o1, lI, lL, lR, popN, catS, gv, stL, stL2, swt, cnd, spObj, List.getElem?_cons_zero, List.getElem?_cons_succ, List.getD_cons_zero, List.getD_cons_succ, List.set_cons_zero, List.set_cons_succ, List.nil_append, List.cons_append, Option.toList, Bool.or_false, Bool.false_or, Bool.or_true, Bool.true_or, Nat.reduceBEq, Nat.reduceAdd, Nat.reduceLT, Nat.reduceLeDiff, Int.reduceAdd, Int.reduceToNat, true_and, and_true, Fin.isValue, Fin.val_zero, Fin.val_one, Fin.val_two, Fin.reduceFinMk, eq_self, Int.reduceNeg, imp_self, Nat.reduceMul, Nat.le_refl, not_true_eq_false, not_false_eq_true, List.getElem?_nil, reduceCtorEq, true_or, or_true, Classical.not_not, implies_true, or_self, wI_0, wI_1, wI_m1, b2i_w, b2i_eq0, b2i_eq1, b2i_bool, nor_self, nx_pI, kd_pI, ln_pI, fI_pI, fL_pI, fR_pI, aI_pI, aL_pI, aR_pI, nx_pL, kd_pL, ln_pL, fI_pL, fL_pL, fR_pL, aI_pL, aL_pL, aR_pL, nx_pR, kd_pR, ln_pR, fI_pR, fL_pR, fR_pR, aI_pR, aL_pR, aR_pR, nx_qI, kd_qI, ln_qI, fI_qI, fL_qI, fR_qI, aI_qI, aL_qI, aR_qI, nx_qL, kd_qL, ln_qL, fI_qL, fL_qL, fR_qL, aI_qL, aL_qL, aR_qL, nx_qR, kd_qR, ln_qR, fI_qR, fL_qR, fR_qR, aI_qR, aL_qR, aR_qR, nx_mk, kd_mk, ln_mk, fI_mk, fL_mk, fR_mk, aI_mk, aL_mk, aR_mk, false_and, and_false, if_false, if_true, and_self, Int.reduceEq, Nat.reduceEqDiff, ite_self, MLay_pI, MLay_pL, MLay_qI, MLay_qL, ev_X12_next, xt_X12_next, xf_X12_next, us_X12_signAt, hk, hM, kd_tk, aI_tk, tk_fe, tk_fz, tk_fb, tk_fw, tk_k, tk_w, tk_e, if_pos hc.1]
        try simp (disch := omega) only [wI_id, dv_nn, rm_nn]
        repeat' (first | intro z | apply And.intro)
        all_goals try omega
        all_goals exact ih
    · rw [if_neg hc] at h
      exact fin p h2 (by omega) hd hc h

set_option maxRecDepth 20000 in
theorem c_X12_next : Ct yX12_next cX12_next 2 ((none : Option FieldType)) 2 0 0 sp_X12_next := by
  refine Ct.go (M := M_X12_next) mm_X12_next fun av σ Q h0 => ?_
  obtain ⟨this, rfl, hk, h⟩ := el_X12_next h0
  clear h0
  refine ⟨Nat.le_of_ble_eq_true rfl, ?_⟩
  show Go M_X12_next Q 0 [some (vr this), none] [] σ (0, 0)
  obtain ⟨rfl, hI, hp, h⟩ := h
  have x1 := hI.size_s
  have x2 := hI.place_s
  have x3 := hI.begin_s
  have x4 := hI.told_s
  have x5 := hI.token_s
  unfold mNext at h
  have e0 := (tk_0 σ).symm
  generalize fI σ 1346 61 = p0 at *
  generalize fI σ 1347 61 = b0 at *
  generalize fI σ 1350 61 = t0 at *
  generalize fI σ 1348 61 = k0 at *
  generalize fL σ 1349 61 = w0 at *
  have last : ∀ p, 0 ≤ p → p ≤ fI σ 1345 61 → ¬ (p < fI σ 1345 61 ∧ (aI σ 92 p = 32 ∨ aI σ 92 p = 10)) → Q none (tk σ p (tEb (aI σ 92) (fI σ 1345 61) p) (tWb (aI σ 92) (fI σ 1345 61) p) (tTb (aI σ 92) (fI σ 1345 61) p) (tKb (aI σ 92) (fI σ 1345 61) p)) → Go M_X12_next Q 0 [some (vr 61), none] [] (tk σ b0 p w0 t0 k0) (0, 0) := by
    intro p h1 h2 hc h
    have hM : MI (tk σ b0 p w0 t0 k0) := MI_tk hI (by omega) (by omega) (by omega) (by omega)
    have y1 := hI.letters_ p
    have b0' : BitVec.ofInt 64 0 = 0#64 := by decide
    by_cases hz : p = fI σ 1345 61
    · unfold tEb tWb tTb tKb at h
      rw [if_pos hz, if_pos hz, if_pos hz, if_pos hz, ← hz] at h
      refine go_X12_next (ct := fun p => p == 109 || p == 224) 60 ?_
      simp only [oI, oL, oR, o1, lI, lL, lR, popN, catS, gv, stL, stL2, swt, cnd, spObj, List.getElem?_cons_zero, List.getElem?_cons_succ, List.getD_cons_zero, List.getD_cons_succ, List.set_cons_zero, List.set_cons_succ, List.nil_append, List.cons_append, Option.toList, Bool.or_false, Bool.false_or, Bool.or_true, Bool.true_or, Nat.reduceBEq, Nat.reduceAdd, Nat.reduceLT, Nat.reduceLeDiff, Int.reduceAdd, Int.reduceToNat, true_and, and_true, Fin.isValue, Fin.val_zero, Fin.val_one, Fin.val_two, Fin.reduceFinMk, eq_self, Int.reduceNeg, imp_self, Nat.reduceMul, Nat.le_refl, not_true_eq_false, not_false_eq_true, List.getElem?_nil, reduceCtorEq, true_or, or_true, Classical.not_not, implies_true, or_self, wI_0, wI_1, wI_m1, b2i_w, b2i_eq0, b2i_eq1, b2i_bool, nor_self, nx_pI, kd_pI, ln_pI, fI_pI, fL_pI, fR_pI, aI_pI, aL_pI, aR_pI, nx_pL, kd_pL, ln_pL, fI_pL, fL_pL, fR_pL, aI_pL, aL_pL, aR_pL, nx_pR, kd_pR, ln_pR, fI_pR, fL_pR, fR_pR, aI_pR, aL_pR, aR_pR, nx_qI, kd_qI, ln_qI, fI_qI, fL_qI, fR_qI, aI_qI, aL_qI, aR_qI, nx_qL, kd_qL, ln_qL, fI_qL, fL_qL, fR_qL, aI_qL, aL_qL, aR_qL, nx_qR, kd_qR, ln_qR, fI_qR, fL_qR, fR_qR, aI_qR, aL_qR, aR_qR, nx_mk, kd_mk, ln_mk, fI_mk, fL_mk, fR_mk, aI_mk, aL_mk, aR_mk, false_and, and_false, if_false, if_true, and_self, Int.reduceEq, Nat.reduceEqDiff, ite_self, MLay_pI, MLay_pL, MLay_qI, MLay_qL, ev_X12_next, xt_X12_next, xf_X12_next, us_X12_signAt, hk, kd_tk, fR_tk, ln_tk, aI_tk, tk_fe, tk_fz, tk_fb, tk_fw, tk_ft, tk_k, tk_w, tk_e, tk_t, tk_b, hI.lay.eqs, ← hz]
      try simp (disch := omega) only [wI_id, dv_nn, rm_nn]
      repeat' (first | intro z | apply And.intro)
      all_goals try omega
      all_goals first | exact h | (exfalso; omega)
    · by_cases hl : 97 ≤ aI σ 92 p ∧ aI σ 92 p ≤ 122
      · have w9 := next_109 (Q := Q) (s := aI σ 92 p) (k := k0) hI hk h1 x5 (fI σ 1345 61 - p).toNat p (by omega) (Int.le_refl _)
        unfold tEb tWb tTb tKb at h
        rw [if_neg hz, if_neg hz, if_neg hz, if_neg hz, if_pos hl, if_pos hl, if_pos hl, if_pos hl] at h
        unfold tEb at h
        rw [if_neg hz, if_pos hl] at h
        have w9 := w9 h
        rw [show (min (p - p) 8).toNat = 0 by omega] at w9
        simp only [wv] at w9
        refine go_X12_next (ct := fun p => p == 109 || p == 224) 60 ?_
        simp only [oI, oL, oR, o1, lI, lL, lR, popN, catS, gv, stL, stL2, swt, cnd, spObj, List.getElem?_cons_zero, List.getElem?_cons_succ, List.getD_cons_zero, List.getD_cons_succ, List.set_cons_zero, List.set_cons_succ, List.nil_append, List.cons_append, Option.toList, Bool.or_false, Bool.false_or, Bool.or_true, Bool.true_or, Nat.reduceBEq, Nat.reduceAdd, Nat.reduceLT, Nat.reduceLeDiff, Int.reduceAdd, Int.reduceToNat, true_and, and_true, Fin.isValue, Fin.val_zero, Fin.val_one, Fin.val_two, Fin.reduceFinMk, eq_self, Int.reduceNeg, imp_self, Nat.reduceMul, Nat.le_refl, not_true_eq_false, not_false_eq_true, List.getElem?_nil, reduceCtorEq, true_or, or_true, Classical.not_not, implies_true, or_self, wI_0, wI_1, wI_m1, b2i_w, b2i_eq0, b2i_eq1, b2i_bool, nor_self, nx_pI, kd_pI, ln_pI, fI_pI, fL_pI, fR_pI, aI_pI, aL_pI, aR_pI, nx_pL, kd_pL, ln_pL, fI_pL, fL_pL, fR_pL, aI_pL, aL_pL, aR_pL, nx_pR, kd_pR, ln_pR, fI_pR, fL_pR, fR_pR, aI_pR, aL_pR, aR_pR, nx_qI, kd_qI, ln_qI, fI_qI, fL_qI, fR_qI, aI_qI, aL_qI, aR_qI, nx_qL, kd_qL, ln_qL, fI_qL, fL_qL, fR_qL, aI_qL, aL_qL, aR_qL, nx_qR, kd_qR, ln_qR, fI_qR, fL_qR, fR_qR, aI_qR, aL_qR, aR_qR, nx_mk, kd_mk, ln_mk, fI_mk, fL_mk, fR_mk, aI_mk, aL_mk, aR_mk, false_and, and_false, if_false, if_true, and_self, Int.reduceEq, Nat.reduceEqDiff, ite_self, MLay_pI, MLay_pL, MLay_qI, MLay_qL, ev_X12_next, xt_X12_next, xf_X12_next, us_X12_signAt, hk, kd_tk, fR_tk, ln_tk, aI_tk, tk_fe, tk_fz, tk_fb, tk_fw, tk_ft, tk_k, tk_w, tk_e, tk_t, tk_b, hI.lay.eqs]
        try simp (disch := omega) only [wI_id, dv_nn, rm_nn]
        repeat' (first | intro z | apply And.intro)
        all_goals try omega
        all_goals first | exact w9 | (exfalso; omega)
      · by_cases hd : 48 ≤ aI σ 92 p ∧ aI σ 92 p ≤ 57
        · have w9 := next_224 (Q := Q) (s := aI σ 92 p) (k := k0) hI hk h1 x5 (fI σ 1345 61 - p).toNat p (by omega) (Int.le_refl _) (fun j a c => by omega)
          unfold tEb tWb tTb tKb at h
          rw [if_neg hz, if_neg hz, if_neg hz, if_neg hz, if_neg hl, if_neg hl, if_neg hl, if_neg hl, if_pos hd, if_pos hd, if_pos hd] at h
          unfold tEb at h
          rw [if_neg hz, if_neg hl, if_pos hd] at h
          have w9 := w9 h
          rw [show (min (p - p) 4).toNat = 0 by omega] at w9
          simp only [nv] at w9
          refine go_X12_next (ct := fun p => p == 109 || p == 224) 60 ?_
          simp only [oI, oL, oR, o1, lI, lL, lR, popN, catS, gv, stL, stL2, swt, cnd, spObj, List.getElem?_cons_zero, List.getElem?_cons_succ, List.getD_cons_zero, List.getD_cons_succ, List.set_cons_zero, List.set_cons_succ, List.nil_append, List.cons_append, Option.toList, Bool.or_false, Bool.false_or, Bool.or_true, Bool.true_or, Nat.reduceBEq, Nat.reduceAdd, Nat.reduceLT, Nat.reduceLeDiff, Int.reduceAdd, Int.reduceToNat, true_and, and_true, Fin.isValue, Fin.val_zero, Fin.val_one, Fin.val_two, Fin.reduceFinMk, eq_self, Int.reduceNeg, imp_self, Nat.reduceMul, Nat.le_refl, not_true_eq_false, not_false_eq_true, List.getElem?_nil, reduceCtorEq, true_or, or_true, Classical.not_not, implies_true, or_self, wI_0, wI_1, wI_m1, b2i_w, b2i_eq0, b2i_eq1, b2i_bool, nor_self, nx_pI, kd_pI, ln_pI, fI_pI, fL_pI, fR_pI, aI_pI, aL_pI, aR_pI, nx_pL, kd_pL, ln_pL, fI_pL, fL_pL, fR_pL, aI_pL, aL_pL, aR_pL, nx_pR, kd_pR, ln_pR, fI_pR, fL_pR, fR_pR, aI_pR, aL_pR, aR_pR, nx_qI, kd_qI, ln_qI, fI_qI, fL_qI, fR_qI, aI_qI, aL_qI, aR_qI, nx_qL, kd_qL, ln_qL, fI_qL, fL_qL, fR_qL, aI_qL, aL_qL, aR_qL, nx_qR, kd_qR, ln_qR, fI_qR, fL_qR, fR_qR, aI_qR, aL_qR, aR_qR, nx_mk, kd_mk, ln_mk, fI_mk, fL_mk, fR_mk, aI_mk, aL_mk, aR_mk, false_and, and_false, if_false, if_true, and_self, Int.reduceEq, Nat.reduceEqDiff, ite_self, MLay_pI, MLay_pL, MLay_qI, MLay_qL, ev_X12_next, xt_X12_next, xf_X12_next, us_X12_signAt, hk, kd_tk, fR_tk, ln_tk, aI_tk, tk_fe, tk_fz, tk_fb, tk_fw, tk_ft, tk_k, tk_w, tk_e, tk_t, tk_b, hI.lay.eqs, b0']
          try simp (disch := omega) only [wI_id, dv_nn, rm_nn]
          repeat' (first | intro z | apply And.intro)
          all_goals try omega
          all_goals first | exact w9 | (exfalso; omega)
        · unfold tEb tWb tTb tKb at h
          rw [if_neg hz, if_neg hz, if_neg hz, if_neg hz, if_neg hl, if_neg hl, if_neg hl, if_neg hl, if_neg hd, if_neg hd, if_neg hd] at h
          refine go_X12_next (ct := fun p => p == 109 || p == 224) 90 ?_
          simp only [oI, oL, oR, o1, lI, lL, lR, popN, catS, gv, stL, stL2, swt, cnd, spObj, List.getElem?_cons_zero, List.getElem?_cons_succ, List.getD_cons_zero, List.getD_cons_succ, List.set_cons_zero, List.set_cons_succ, List.nil_append, List.cons_append, Option.toList, Bool.or_false, Bool.false_or, Bool.or_true, Bool.true_or, Nat.reduceBEq, Nat.reduceAdd, Nat.reduceLT, Nat.reduceLeDiff, Int.reduceAdd, Int.reduceToNat, true_and, and_true, Fin.isValue, Fin.val_zero, Fin.val_one, Fin.val_two, Fin.reduceFinMk, eq_self, Int.reduceNeg, imp_self, Nat.reduceMul, Nat.le_refl, not_true_eq_false, not_false_eq_true, List.getElem?_nil, reduceCtorEq, true_or, or_true, Classical.not_not, implies_true, or_self, wI_0, wI_1, wI_m1, b2i_w, b2i_eq0, b2i_eq1, b2i_bool, nor_self, nx_pI, kd_pI, ln_pI, fI_pI, fL_pI, fR_pI, aI_pI, aL_pI, aR_pI, nx_pL, kd_pL, ln_pL, fI_pL, fL_pL, fR_pL, aI_pL, aL_pL, aR_pL, nx_pR, kd_pR, ln_pR, fI_pR, fL_pR, fR_pR, aI_pR, aL_pR, aR_pR, nx_qI, kd_qI, ln_qI, fI_qI, fL_qI, fR_qI, aI_qI, aL_qI, aR_qI, nx_qL, kd_qL, ln_qL, fI_qL, fL_qL, fR_qL, aI_qL, aL_qL, aR_qL, nx_qR, kd_qR, ln_qR, fI_qR, fL_qR, fR_qR, aI_qR, aL_qR, aR_qR, nx_mk, kd_mk, ln_mk, fI_mk, fL_mk, fR_mk, aI_mk, aL_mk, aR_mk, false_and, and_false, if_false, if_true, and_self, Int.reduceEq, Nat.reduceEqDiff, ite_self, MLay_pI, MLay_pL, MLay_qI, MLay_qL, ev_X12_next, xt_X12_next, xf_X12_next, us_X12_signAt, hk, kd_tk, fR_tk, ln_tk, aI_tk, tk_fe, tk_fz, tk_fb, tk_fw, tk_ft, tk_k, tk_w, tk_e, tk_t, tk_b, hI.lay.eqs, b0']
          try simp (disch := omega) only [wI_id, dv_nn, rm_nn]
          repeat' (first | intro z | apply And.intro)
          all_goals try omega
          all_goals first | (exfalso; omega) | (rw [if_pos (by omega)] at h; exact h) | (rw [if_neg (by omega)] at h; exact h)
  have loop : ∀ (n : Nat) (p : Int), 0 ≤ p → p + n = fI σ 1345 61 → Q none (tk σ (skp (aI σ 92) (fI σ 1345 61) n p) (tEb (aI σ 92) (fI σ 1345 61) (skp (aI σ 92) (fI σ 1345 61) n p)) (tWb (aI σ 92) (fI σ 1345 61) (skp (aI σ 92) (fI σ 1345 61) n p)) (tTb (aI σ 92) (fI σ 1345 61) (skp (aI σ 92) (fI σ 1345 61) n p)) (tKb (aI σ 92) (fI σ 1345 61) (skp (aI σ 92) (fI σ 1345 61) n p))) → Go M_X12_next Q 0 [some (vr 61), none] [] (tk σ b0 p w0 t0 k0) (0, 0) := by
    intro n
    induction n with
    | zero =>
      intro p h1 h2 h
      exact last p h1 (by omega) (by omega) h
    | succ n ih =>
      intro p h1 h2 h
      unfold skp at h
      by_cases hc : p < fI σ 1345 61 ∧ (aI σ 92 p = 32 ∨ aI σ 92 p = 10)
      · rw [if_pos hc] at h
        have ih := ih (p + 1) (by omega) (by omega) h
        have y1 := hI.letters_ p
        refine go_X12_next (ct := fun p => p == 0 || p == 109 || p == 224) 60 ?_
        simp only [oI, oL, oR, o1, lI, lL, lR, popN, catS, gv, stL, stL2, swt, cnd, spObj, List.getElem?_cons_zero, List.getElem?_cons_succ, List.getD_cons_zero, List.getD_cons_succ, List.set_cons_zero, List.set_cons_succ, List.nil_append, List.cons_append, Option.toList, Bool.or_false, Bool.false_or, Bool.or_true, Bool.true_or, Nat.reduceBEq, Nat.reduceAdd, Nat.reduceLT, Nat.reduceLeDiff, Int.reduceAdd, Int.reduceToNat, true_and, and_true, Fin.isValue, Fin.val_zero, Fin.val_one, Fin.val_two, Fin.reduceFinMk, eq_self, Int.reduceNeg, imp_self, Nat.reduceMul, Nat.le_refl, not_true_eq_false, not_false_eq_true, List.getElem?_nil, reduceCtorEq, true_or, or_true, Classical.not_not, implies_true, or_self, wI_0, wI_1, wI_m1, b2i_w, b2i_eq0, b2i_eq1, b2i_bool, nor_self, nx_pI, kd_pI, ln_pI, fI_pI, fL_pI, fR_pI, aI_pI, aL_pI, aR_pI, nx_pL, kd_pL, ln_pL, fI_pL, fL_pL, fR_pL, aI_pL, aL_pL, aR_pL, nx_pR, kd_pR, ln_pR, fI_pR, fL_pR, fR_pR, aI_pR, aL_pR, aR_pR, nx_qI, kd_qI, ln_qI, fI_qI, fL_qI, fR_qI, aI_qI, aL_qI, aR_qI, nx_qL, kd_qL, ln_qL, fI_qL, fL_qL, fR_qL, aI_qL, aL_qL, aR_qL, nx_qR, kd_qR, ln_qR, fI_qR, fL_qR, fR_qR, aI_qR, aL_qR, aR_qR, nx_mk, kd_mk, ln_mk, fI_mk, fL_mk, fR_mk, aI_mk, aL_mk, aR_mk, false_and, and_false, if_false, if_true, and_self, Int.reduceEq, Nat.reduceEqDiff, ite_self, MLay_pI, MLay_pL, MLay_qI, MLay_qL, ev_X12_next, xt_X12_next, xf_X12_next, us_X12_signAt, hk, kd_tk, fR_tk, ln_tk, aI_tk, tk_fe, tk_fz, tk_fb, tk_fw, tk_ft, tk_k, tk_w, tk_e, tk_t, tk_b, hI.lay.eqs]
        try simp (disch := omega) only [wI_id, dv_nn, rm_nn]
        repeat' (first | intro z | apply And.intro)
        all_goals try omega
        all_goals exact ih
      · rw [if_neg hc] at h
        exact last p h1 (by omega) hc h
  have w := loop (fI σ 1345 61 - p0).toNat p0 (by omega) (by omega) h
  rw [← e0] at w
  exact w
