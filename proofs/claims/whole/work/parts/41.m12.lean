/-! the reference: letters and tokens -/

/-- the k-th of 24 bytes -/
def byte3 (a b c : BitVec 64) (k : Int) : Int := ((((if k < 8 then a else if k < 16 then b else c) >>> (56 - 8 * (k % 8)).toNat) &&& 255#64).toNat : Int)
theorem byte3_in (a b c : BitVec 64) (k : Int) : 0 ≤ byte3 a b c k ∧ byte3 a b c k < 256 := by
  unfold byte3
  rw [BitVec.toNat_and]
  have := Nat.and_le_right (n := ((if k < 8 then a else if k < 16 then b else c) >>> (56 - 8 * (k % 8)).toNat).toNat) (m := (255#64).toNat)
  have e : (255#64).toNat = 255 := rfl
  omega
/-- a sign comes behind the tape of letters, or doesn't -/
def mSign (σ : Hp) (s : Int) : Hp := if fI σ 1343 61 < 1000 ∧ (s = 10 ∨ (32 ≤ s ∧ s ≤ 126)) then pI (qI σ 92 (fI σ 1343 61) s) 1343 61 (fI σ 1343 61 + 1) else σ
def mFeed (σ : Hp) (a b c : BitVec 64) : Nat → Hp
  | 0 => σ
  | n + 1 => mSign (mFeed σ a b c n) (byte3 a b c n)
theorem MI_mSign {σ : Hp} (h : MI σ) {s : Int} (hs : 0 ≤ s ∧ s < 256) : MI (mSign σ s) := by
  have := h.lettered_s
  unfold mSign
  split
  · exact MI_lettered_p (MI_letters_q h (by omega)) (by omega)
  · exact h
theorem MI_mFeed {σ : Hp} (h : MI σ) (a b c : BitVec 64) : ∀ n, MI (mFeed σ a b c n)
  | 0 => h
  | n + 1 => MI_mSign (MI_mFeed h a b c n) (byte3_in a b c n)
theorem and7 (k : Int) (h : 0 ≤ k ∧ k < 24) : bAnd k 7 = k % 8 := by
  have : k = 0 ∨ k = 1 ∨ k = 2 ∨ k = 3 ∨ k = 4 ∨ k = 5 ∨ k = 6 ∨ k = 7 ∨ k = 8 ∨ k = 9 ∨ k = 10 ∨ k = 11 ∨ k = 12 ∨ k = 13 ∨ k = 14 ∨ k = 15 ∨ k = 16 ∨ k = 17 ∨ k = 18 ∨ k = 19 ∨ k = 20 ∨ k = 21 ∨ k = 22 ∨ k = 23 := by omega
  rcases this with h | h | h | h | h | h | h | h | h | h | h | h | h | h | h | h | h | h | h | h | h | h | h | h <;> subst h <;> decide
theorem byte_eq (w : BitVec 64) {k : Int} (h : 0 ≤ k ∧ k < 24) : ((w >>> ((56 - 8 * (k % 8)) % 64).toNat) &&& BitVec.ofInt 64 255).toInt = (((w >>> (56 - 8 * (k % 8)).toNat) &&& 255#64).toNat : Int) := by
  have e : (56 - 8 * (k % 8)) % 64 = 56 - 8 * (k % 8) := by omega
  rw [e]
  show ((w >>> (56 - 8 * (k % 8)).toNat) &&& 255#64).toInt = _
  rw [BitVec.toInt_eq_toNat_cond, BitVec.toNat_and]
  have := Nat.and_le_right (n := (w >>> (56 - 8 * (k % 8)).toNat).toNat) (m := (255#64).toNat)
  have e : (255#64).toNat = 255 := rfl
  rw [if_pos (by omega)]

def sp_X12_feed : Sp := fun av σ Q => oR av fun this av => oL av fun a av => oL av fun b av => oL av fun c av => av = [] ∧ kd σ this = 13 ∧ (this = 61 ∧ MI σ ∧ Q (some (vi (fI (mFeed (pI σ 1300 61 0) a b c 24) 1343 61))) (mFeed (pI σ 1300 61 0) a b c 24))
theorem us_X12_feed (this : Int) (a : BitVec 64) (b : BitVec 64) (c : BitVec 64) (σ : Hp) (Q : Option AV → Hp → Prop) : sp_X12_feed [vr this, vl a, vl b, vl c] σ Q = (kd σ this = 13 ∧ (this = 61 ∧ MI σ ∧ Q (some (vi (fI (mFeed (pI σ 1300 61 0) a b c 24) 1343 61))) (mFeed (pI σ 1300 61 0) a b c 24))) := propext ⟨fun h => h.2, fun h => ⟨rfl, h⟩⟩
theorem el_X12_feed {av : List AV} {σ : Hp} {Q : Option AV → Hp → Prop} (h : sp_X12_feed av σ Q) : ∃ (this : Int) (a : BitVec 64) (b : BitVec 64) (c : BitVec 64), av = [vr this, vl a, vl b, vl c] ∧ (kd σ this = 13 ∧ (this = 61 ∧ MI σ ∧ Q (some (vi (fI (mFeed (pI σ 1300 61 0) a b c 24) 1343 61))) (mFeed (pI σ 1300 61 0) a b c 24))) := by
  obtain ⟨this, a0, rfl, h0⟩ := oR_s h
  obtain ⟨a, a1, rfl, h1⟩ := oL_s h0
  obtain ⟨b, a2, rfl, h2⟩ := oL_s h1
  obtain ⟨c, a3, rfl, h3⟩ := oL_s h2
  obtain ⟨rfl, hz⟩ := h3
  exact ⟨this, a, b, c, rfl, hz⟩
theorem rc_X12_feed : ∀ (av : List AV) (σ : Hp) (Q : Option AV → Hp → Prop), sp_X12_feed av σ Q → ∃ r tl, av = vr r :: tl ∧ kd σ r = 12 + 1 := fun av σ Q h => by
  obtain ⟨this, a, b, c, rfl, hz, -⟩ := el_X12_feed h
  exact ⟨this, _, rfl, hz⟩

def tb_X12_feed : Tab := [(0, .aload_n 0, 1, (0, 0, 0, 0)), (1, .iconst 0, 1, (0, 0, 0, 0)), (2, .putfield 196, 3, (13, 1300, 0, 0)), (5, .iconst 0, 1, (0, 0, 0, 0)), (6, .istore 7, 2, (0, 0, 0, 0)), (8, .iload 7, 2, (0, 0, 0, 0)), (10, .bipush 24, 2, (0, 0, 0, 0)), (12, .if_icmp .ge 108, 3, (0, 0, 0, 0)), (15, .iload 7, 2, (0, 0, 0, 0)), (17, .bipush 8, 2, (0, 0, 0, 0)), (19, .if_icmp .ge 7, 3, (0, 0, 0, 0)), (22, .lload_n 1, 1, (0, 0, 0, 0)), (23, .goto 16, 3, (0, 0, 0, 0)), (26, .iload 7, 2, (0, 0, 0, 0)), (28, .bipush 16, 2, (0, 0, 0, 0)), (30, .if_icmp .ge 7, 3, (0, 0, 0, 0)), (33, .lload_n 3, 1, (0, 0, 0, 0)), (34, .goto 5, 3, (0, 0, 0, 0)), (37, .lload 5, 2, (0, 0, 0, 0)), (39, .lstore 8, 2, (0, 0, 0, 0)), (41, .lload 8, 2, (0, 0, 0, 0)), (43, .bipush 56, 2, (0, 0, 0, 0)), (45, .bipush 8, 2, (0, 0, 0, 0)), (47, .iload 7, 2, (0, 0, 0, 0)), (49, .bipush 7, 2, (0, 0, 0, 0)), (51, .iand, 1, (0, 0, 0, 0)), (52, .imul, 1, (0, 0, 0, 0)), (53, .isub, 1, (0, 0, 0, 0)), (54, .lushr, 1, (0, 0, 0, 0)), (55, .ldc2_w 299, 3, (1, 0, 0, 255)), (58, .land, 1, (0, 0, 0, 0)), (59, .l2i, 1, (0, 0, 0, 0)), (60, .istore 10, 2, (0, 0, 0, 0)), (62, .aload_n 0, 1, (0, 0, 0, 0)), (63, .getfield 301, 3, (13, 1343, 0, 0)), (66, .sipush 1000, 3, (0, 0, 0, 0)), (69, .if_icmp .ge 45, 3, (0, 0, 0, 0)), (72, .iload 10, 2, (0, 0, 0, 0)), (74, .bipush 10, 2, (0, 0, 0, 0)), (76, .if_icmp .eq 17, 3, (0, 0, 0, 0)), (79, .iload 10, 2, (0, 0, 0, 0)), (81, .bipush 32, 2, (0, 0, 0, 0)), (83, .if_icmp .lt 31, 3, (0, 0, 0, 0)), (86, .iload 10, 2, (0, 0, 0, 0)), (88, .bipush 126, 2, (0, 0, 0, 0)), (90, .if_icmp .gt 24, 3, (0, 0, 0, 0)), (93, .aload_n 0, 1, (0, 0, 0, 0)), (94, .getfield 102, 3, (13, 1344, 2, 0)), (97, .aload_n 0, 1, (0, 0, 0, 0)), (98, .getfield 301, 3, (13, 1343, 0, 0)), (101, .iload 10, 2, (0, 0, 0, 0)), (103, .iastore, 1, (0, 0, 0, 0)), (104, .aload_n 0, 1, (0, 0, 0, 0)), (105, .dup, 1, (0, 0, 0, 0)), (106, .getfield 301, 3, (13, 1343, 0, 0)), (109, .iconst 1, 1, (0, 0, 0, 0)), (110, .iadd, 1, (0, 0, 0, 0)), (111, .putfield 301, 3, (13, 1343, 0, 0)), (114, .iinc 7 1, 3, (0, 0, 0, 0)), (117, .goto (-109), 3, (0, 0, 0, 0)), (120, .aload_n 0, 1, (0, 0, 0, 0)), (121, .getfield 301, 3, (13, 1343, 0, 0)), (124, .ireturn, 1, (0, 0, 0, 0))]
set_option maxRecDepth 100000 in
theorem tk_X12_feed : TOK RX12 false cX12_feed tb_X12_feed := chkT_ok ft_X12 (by decide +kernel)
def mt_X12_feed : List (Nat × Mt) := []
theorem mk_X12_feed : MOK RX12 mt_X12_feed := fun q hq => by cases hq
noncomputable def xe_X12_feed (ct : Nat → Bool) (K : Kt) (R : Option AV → Hp → Prop) (n : Nat) : Kt := exS 11 1 0 0 1 tb_X12_feed mt_X12_feed ct K R n
noncomputable def xk_X12_feed (ct : Nat → Bool) (K : Kt) (R : Option AV → Hp → Prop) (n : Nat) : Kt := exkS 11 1 0 0 1 tb_X12_feed mt_X12_feed ct K R n
theorem xt_X12_feed {ct : Nat → Bool} {K : Kt} {R : Option AV → Hp → Prop} {n pc : Nat} {ls : List (Option AV)} {st : List AV} {σ : Hp} {k : Nat × Nat} (h : ct pc = true) : xk_X12_feed ct K R n pc ls st σ k = K pc ls st σ k := by unfold xk_X12_feed exkS; rw [h]
theorem xf_X12_feed {ct : Nat → Bool} {K : Kt} {R : Option AV → Hp → Prop} {n pc : Nat} {ls : List (Option AV)} {st : List AV} {σ : Hp} {k : Nat × Nat} (h : ct pc = false) : xk_X12_feed ct K R n pc ls st σ k = xe_X12_feed ct K R n pc ls st σ k := by unfold xk_X12_feed exkS xe_X12_feed; rw [h]
theorem ev_X12_feed {ct : Nat → Bool} {K : Kt} {R : Option AV → Hp → Prop} {n : Nat} {ls : List (Option AV)} {st : List AV} {σ : Hp} {k : Nat × Nat} :
  xe_X12_feed ct K R (n + 1) 0 ls st σ k = (lR ls 0 fun x => xk_X12_feed ct K R n 1 ls (vr x :: st) σ k) ∧
  xe_X12_feed ct K R (n + 1) 1 ls st σ k = (xk_X12_feed ct K R n 2 ls (vi (0) :: st) σ k) ∧
  xe_X12_feed ct K R (n + 1) 2 ls st σ k = (oI st fun v st => oR st fun x st => kd σ x = 13 ∧ xk_X12_feed ct K R n 5 ls st (pI σ 1300 x v) k) ∧
  xe_X12_feed ct K R (n + 1) 5 ls st σ k = (xk_X12_feed ct K R n 6 ls (vi (0) :: st) σ k) ∧
  xe_X12_feed ct K R (n + 1) 6 ls st σ k = (oI st fun x st => 7 < 11 ∧ xk_X12_feed ct K R n 8 (stL ls 7 (vi x)) st σ k) ∧
  xe_X12_feed ct K R (n + 1) 8 ls st σ k = (lI ls 7 fun x => xk_X12_feed ct K R n 10 ls (vi x :: st) σ k) ∧
  xe_X12_feed ct K R (n + 1) 10 ls st σ k = (xk_X12_feed ct K R n 12 ls (vi (24) :: st) σ k) ∧
  xe_X12_feed ct K R (n + 1) 12 ls st σ k = (oI st fun y st => oI st fun x st => (wI y ≤ wI x → xk_X12_feed ct K R n 120 ls st σ k) ∧ (¬ (wI y ≤ wI x) → xk_X12_feed ct K R n 15 ls st σ k)) ∧
  xe_X12_feed ct K R (n + 1) 15 ls st σ k = (lI ls 7 fun x => xk_X12_feed ct K R n 17 ls (vi x :: st) σ k) ∧
  xe_X12_feed ct K R (n + 1) 17 ls st σ k = (xk_X12_feed ct K R n 19 ls (vi (8) :: st) σ k) ∧
  xe_X12_feed ct K R (n + 1) 19 ls st σ k = (oI st fun y st => oI st fun x st => (wI y ≤ wI x → xk_X12_feed ct K R n 26 ls st σ k) ∧ (¬ (wI y ≤ wI x) → xk_X12_feed ct K R n 22 ls st σ k)) ∧
  xe_X12_feed ct K R (n + 1) 22 ls st σ k = (lL ls 1 fun x => xk_X12_feed ct K R n 23 ls (vl x :: st) σ k) ∧
  xe_X12_feed ct K R (n + 1) 23 ls st σ k = (xk_X12_feed ct K R n 39 ls st σ k) ∧
  xe_X12_feed ct K R (n + 1) 26 ls st σ k = (lI ls 7 fun x => xk_X12_feed ct K R n 28 ls (vi x :: st) σ k) ∧
  xe_X12_feed ct K R (n + 1) 28 ls st σ k = (xk_X12_feed ct K R n 30 ls (vi (16) :: st) σ k) ∧
  xe_X12_feed ct K R (n + 1) 30 ls st σ k = (oI st fun y st => oI st fun x st => (wI y ≤ wI x → xk_X12_feed ct K R n 37 ls st σ k) ∧ (¬ (wI y ≤ wI x) → xk_X12_feed ct K R n 33 ls st σ k)) ∧
  xe_X12_feed ct K R (n + 1) 33 ls st σ k = (lL ls 3 fun x => xk_X12_feed ct K R n 34 ls (vl x :: st) σ k) ∧
  xe_X12_feed ct K R (n + 1) 34 ls st σ k = (xk_X12_feed ct K R n 39 ls st σ k) ∧
  xe_X12_feed ct K R (n + 1) 37 ls st σ k = (lL ls 5 fun x => xk_X12_feed ct K R n 39 ls (vl x :: st) σ k) ∧
  xe_X12_feed ct K R (n + 1) 39 ls st σ k = (oL st fun x st => 8 + 1 < 11 ∧ xk_X12_feed ct K R n 41 (stL2 ls 8 (vl x)) st σ k) ∧
  xe_X12_feed ct K R (n + 1) 41 ls st σ k = (lL ls 8 fun x => xk_X12_feed ct K R n 43 ls (vl x :: st) σ k) ∧
  xe_X12_feed ct K R (n + 1) 43 ls st σ k = (xk_X12_feed ct K R n 45 ls (vi (56) :: st) σ k) ∧
  xe_X12_feed ct K R (n + 1) 45 ls st σ k = (xk_X12_feed ct K R n 47 ls (vi (8) :: st) σ k) ∧
  xe_X12_feed ct K R (n + 1) 47 ls st σ k = (lI ls 7 fun x => xk_X12_feed ct K R n 49 ls (vi x :: st) σ k) ∧
  xe_X12_feed ct K R (n + 1) 49 ls st σ k = (xk_X12_feed ct K R n 51 ls (vi (7) :: st) σ k) ∧
  xe_X12_feed ct K R (n + 1) 51 ls st σ k = (oI st fun y st => oI st fun x st => xk_X12_feed ct K R n 52 ls (vi (bAnd x y) :: st) σ k) ∧
  xe_X12_feed ct K R (n + 1) 52 ls st σ k = (oI st fun y st => oI st fun x st => xk_X12_feed ct K R n 53 ls (vi (x * y) :: st) σ k) ∧
  xe_X12_feed ct K R (n + 1) 53 ls st σ k = (oI st fun y st => oI st fun x st => xk_X12_feed ct K R n 54 ls (vi (x - y) :: st) σ k) ∧
  xe_X12_feed ct K R (n + 1) 54 ls st σ k = (oI st fun y st => oL st fun x st => xk_X12_feed ct K R n 55 ls (vl (x >>> (y % 64).toNat) :: st) σ k) ∧
  xe_X12_feed ct K R (n + 1) 55 ls st σ k = (xk_X12_feed ct K R n 58 ls (vl (BitVec.ofInt 64 (255)) :: st) σ k) ∧
  xe_X12_feed ct K R (n + 1) 58 ls st σ k = (oL st fun y st => oL st fun x st => xk_X12_feed ct K R n 59 ls (vl (x &&& y) :: st) σ k) ∧
  xe_X12_feed ct K R (n + 1) 59 ls st σ k = (oL st fun x st => xk_X12_feed ct K R n 60 ls (vi x.toInt :: st) σ k) ∧
  xe_X12_feed ct K R (n + 1) 60 ls st σ k = (oI st fun x st => 10 < 11 ∧ xk_X12_feed ct K R n 62 (stL ls 10 (vi x)) st σ k) ∧
  xe_X12_feed ct K R (n + 1) 62 ls st σ k = (lR ls 0 fun x => xk_X12_feed ct K R n 63 ls (vr x :: st) σ k) ∧
  xe_X12_feed ct K R (n + 1) 63 ls st σ k = (oR st fun x st => kd σ x = 13 ∧ xk_X12_feed ct K R n 66 ls (vi (fI σ 1343 x) :: st) σ k) ∧
  xe_X12_feed ct K R (n + 1) 66 ls st σ k = (xk_X12_feed ct K R n 69 ls (vi (1000) :: st) σ k) ∧
  xe_X12_feed ct K R (n + 1) 69 ls st σ k = (oI st fun y st => oI st fun x st => (wI y ≤ wI x → xk_X12_feed ct K R n 114 ls st σ k) ∧ (¬ (wI y ≤ wI x) → xk_X12_feed ct K R n 72 ls st σ k)) ∧
  xe_X12_feed ct K R (n + 1) 72 ls st σ k = (lI ls 10 fun x => xk_X12_feed ct K R n 74 ls (vi x :: st) σ k) ∧
  xe_X12_feed ct K R (n + 1) 74 ls st σ k = (xk_X12_feed ct K R n 76 ls (vi (10) :: st) σ k) ∧
  xe_X12_feed ct K R (n + 1) 76 ls st σ k = (oI st fun y st => oI st fun x st => (wI x = wI y → xk_X12_feed ct K R n 93 ls st σ k) ∧ (¬ (wI x = wI y) → xk_X12_feed ct K R n 79 ls st σ k)) ∧
  xe_X12_feed ct K R (n + 1) 79 ls st σ k = (lI ls 10 fun x => xk_X12_feed ct K R n 81 ls (vi x :: st) σ k) ∧
  xe_X12_feed ct K R (n + 1) 81 ls st σ k = (xk_X12_feed ct K R n 83 ls (vi (32) :: st) σ k) ∧
  xe_X12_feed ct K R (n + 1) 83 ls st σ k = (oI st fun y st => oI st fun x st => (wI x < wI y → xk_X12_feed ct K R n 114 ls st σ k) ∧ (¬ (wI x < wI y) → xk_X12_feed ct K R n 86 ls st σ k)) ∧
  xe_X12_feed ct K R (n + 1) 86 ls st σ k = (lI ls 10 fun x => xk_X12_feed ct K R n 88 ls (vi x :: st) σ k) ∧
  xe_X12_feed ct K R (n + 1) 88 ls st σ k = (xk_X12_feed ct K R n 90 ls (vi (126) :: st) σ k) ∧
  xe_X12_feed ct K R (n + 1) 90 ls st σ k = (oI st fun y st => oI st fun x st => (wI y < wI x → xk_X12_feed ct K R n 114 ls st σ k) ∧ (¬ (wI y < wI x) → xk_X12_feed ct K R n 93 ls st σ k)) ∧
  xe_X12_feed ct K R (n + 1) 93 ls st σ k = (lR ls 0 fun x => xk_X12_feed ct K R n 94 ls (vr x :: st) σ k) ∧
  xe_X12_feed ct K R (n + 1) 94 ls st σ k = (oR st fun x st => kd σ x = 13 ∧ xk_X12_feed ct K R n 97 ls (vr (fR σ 1344 x) :: st) σ k) ∧
  xe_X12_feed ct K R (n + 1) 97 ls st σ k = (lR ls 0 fun x => xk_X12_feed ct K R n 98 ls (vr x :: st) σ k) ∧
  xe_X12_feed ct K R (n + 1) 98 ls st σ k = (oR st fun x st => kd σ x = 13 ∧ xk_X12_feed ct K R n 101 ls (vi (fI σ 1343 x) :: st) σ k) ∧
  xe_X12_feed ct K R (n + 1) 101 ls st σ k = (lI ls 10 fun x => xk_X12_feed ct K R n 103 ls (vi x :: st) σ k) ∧
  xe_X12_feed ct K R (n + 1) 103 ls st σ k = (oI st fun v st => oI st fun j st => oR st fun x st => kd σ x = 101 ∧ (0 ≤ j ∧ j < ln σ x) ∧ xk_X12_feed ct K R n 104 ls st (qI σ x j v) k) ∧
  xe_X12_feed ct K R (n + 1) 104 ls st σ k = (lR ls 0 fun x => xk_X12_feed ct K R n 105 ls (vr x :: st) σ k) ∧
  xe_X12_feed ct K R (n + 1) 105 ls st σ k = (o1 st fun v st => xk_X12_feed ct K R n 106 ls (v :: v :: st) σ k) ∧
  xe_X12_feed ct K R (n + 1) 106 ls st σ k = (oR st fun x st => kd σ x = 13 ∧ xk_X12_feed ct K R n 109 ls (vi (fI σ 1343 x) :: st) σ k) ∧
  xe_X12_feed ct K R (n + 1) 109 ls st σ k = (xk_X12_feed ct K R n 110 ls (vi (1) :: st) σ k) ∧
  xe_X12_feed ct K R (n + 1) 110 ls st σ k = (oI st fun y st => oI st fun x st => xk_X12_feed ct K R n 111 ls (vi (x + y) :: st) σ k) ∧
  xe_X12_feed ct K R (n + 1) 111 ls st σ k = (oI st fun v st => oR st fun x st => kd σ x = 13 ∧ xk_X12_feed ct K R n 114 ls st (pI σ 1343 x v) k) ∧
  xe_X12_feed ct K R (n + 1) 114 ls st σ k = (lI ls 7 fun x => 7 < 11 ∧ xk_X12_feed ct K R n 117 (stL ls 7 (vi (x + (1)))) st σ k) ∧
  xe_X12_feed ct K R (n + 1) 117 ls st σ k = (xk_X12_feed ct K R n 8 ls st σ k) ∧
  xe_X12_feed ct K R (n + 1) 120 ls st σ k = (lR ls 0 fun x => xk_X12_feed ct K R n 121 ls (vr x :: st) σ k) ∧
  xe_X12_feed ct K R (n + 1) 121 ls st σ k = (oR st fun x st => kd σ x = 13 ∧ xk_X12_feed ct K R n 124 ls (vi (fI σ 1343 x) :: st) σ k) ∧
  xe_X12_feed ct K R (n + 1) 124 ls st σ k = (oI st fun x st => st = [] ∧ True ∧ R (some (vi x)) σ) :=
  ⟨exS_step.trans rfl, exS_step.trans rfl, exS_step.trans rfl, exS_step.trans rfl, exS_step.trans rfl, exS_step.trans rfl, exS_step.trans rfl, exS_step.trans rfl, exS_step.trans rfl, exS_step.trans rfl, exS_step.trans rfl, exS_step.trans rfl, exS_step.trans rfl, exS_step.trans rfl, exS_step.trans rfl, exS_step.trans rfl, exS_step.trans rfl, exS_step.trans rfl, exS_step.trans rfl, exS_step.trans rfl, exS_step.trans rfl, exS_step.trans rfl, exS_step.trans rfl, exS_step.trans rfl, exS_step.trans rfl, exS_step.trans rfl, exS_step.trans rfl, exS_step.trans rfl, exS_step.trans rfl, exS_step.trans rfl, exS_step.trans rfl, exS_step.trans rfl, exS_step.trans rfl, exS_step.trans rfl, exS_step.trans rfl, exS_step.trans rfl, exS_step.trans rfl, exS_step.trans rfl, exS_step.trans rfl, exS_step.trans rfl, exS_step.trans rfl, exS_step.trans rfl, exS_step.trans rfl, exS_step.trans rfl, exS_step.trans rfl, exS_step.trans rfl, exS_step.trans rfl, exS_step.trans rfl, exS_step.trans rfl, exS_step.trans rfl, exS_step.trans rfl, exS_step.trans rfl, exS_step.trans rfl, exS_step.trans rfl, exS_step.trans rfl, exS_step.trans rfl, exS_step.trans rfl, exS_step.trans rfl, exS_step.trans rfl, exS_step.trans rfl, exS_step.trans rfl, exS_step.trans rfl, exS_step.trans rfl⟩
def M_X12_feed : Md := (yX12_feed, cX12_feed, 11, (some FieldType.int), 1, 0, 0, 1, false, tb_X12_feed, mt_X12_feed)
theorem mm_X12_feed : MMOK M_X12_feed := ⟨by decide +kernel, tk_X12_feed, mk_X12_feed, rfl, fun h => by cases h⟩
theorem go_X12_feed {Q : Option AV → Hp → Prop} {ct : Nat → Bool} {pc : Nat} {ls : List (Option AV)} {st : List AV} {σ : Hp} {k : Nat × Nat} (n : Nat) (h : xe_X12_feed ct (Go M_X12_feed Q) Q n pc ls st σ k) : Go M_X12_feed Q pc ls st σ k := Go.exS mm_X12_feed h

set_option maxRecDepth 20000 in
theorem c_X12_feed : Ct yX12_feed cX12_feed 11 ((some FieldType.int)) 1 0 0 sp_X12_feed := by
  refine Ct.go (M := M_X12_feed) mm_X12_feed fun av σ Q h0 => ?_
  obtain ⟨this, a, b, c, rfl, hk, h⟩ := el_X12_feed h0
  clear h0
  refine ⟨Nat.le_of_ble_eq_true rfl, ?_⟩
  show Go M_X12_feed Q 0 [some (vr this), some (vl a), none, some (vl b), none, some (vl c), none, none, none, none, none] [] σ (0, 0)
  obtain ⟨rfl, hI, h⟩ := h
  have hI2 : MI (pI σ 1300 61 0) := MI_fre hI (by decide)
  have loop : ∀ (n k : Nat) (a8 a9 a10 : Option AV), k + n = 24 → Go M_X12_feed Q 8 [some (vr 61), some (vl a), none, some (vl b), none, some (vl c), none, some (vi k), a8, a9, a10] [] (mFeed (pI σ 1300 61 0) a b c k) (0, 0) := by
    intro n
    induction n with
    | zero =>
      intro k a8 a9 a10 hn
      have ek : k = 24 := by omega
      subst ek
      have hT := MI_mFeed hI2 a b c 24
      have hk : kd (mFeed (pI σ 1300 61 0) a b c 24) 61 = 13 := hT.lay.1
      refine go_X12_feed (ct := fun p => p == 8) 40 ?_
      simp only [oI, oL, oR, o1, lI, lL, lR, popN, catS, gv, stL, stL2, swt, cnd, spObj, List.getElem?_cons_zero, List.getElem?_cons_succ, List.getD_cons_zero, List.getD_cons_succ, List.set_cons_zero, List.set_cons_succ, List.nil_append, List.cons_append, Option.toList, Bool.or_false, Bool.false_or, Bool.or_true, Bool.true_or, Nat.reduceBEq, Nat.reduceAdd, Nat.reduceLT, Nat.reduceLeDiff, Int.reduceAdd, Int.reduceToNat, true_and, and_true, Fin.isValue, Fin.val_zero, Fin.val_one, Fin.val_two, Fin.reduceFinMk, eq_self, Int.reduceNeg, imp_self, Nat.reduceMul, Nat.le_refl, not_true_eq_false, not_false_eq_true, List.getElem?_nil, reduceCtorEq, true_or, or_true, Classical.not_not, implies_true, or_self, wI_0, wI_1, wI_m1, b2i_w, b2i_eq0, b2i_eq1, b2i_bool, nor_self, nx_pI, kd_pI, ln_pI, fI_pI, fL_pI, fR_pI, aI_pI, aL_pI, aR_pI, nx_pL, kd_pL, ln_pL, fI_pL, fL_pL, fR_pL, aI_pL, aL_pL, aR_pL, nx_pR, kd_pR, ln_pR, fI_pR, fL_pR, fR_pR, aI_pR, aL_pR, aR_pR, nx_qI, kd_qI, ln_qI, fI_qI, fL_qI, fR_qI, aI_qI, aL_qI, aR_qI, nx_qL, kd_qL, ln_qL, fI_qL, fL_qL, fR_qL, aI_qL, aL_qL, aR_qL, nx_qR, kd_qR, ln_qR, fI_qR, fL_qR, fR_qR, aI_qR, aL_qR, aR_qR, nx_mk, kd_mk, ln_mk, fI_mk, fL_mk, fR_mk, aI_mk, aL_mk, aR_mk, false_and, and_false, if_false, if_true, and_self, Int.reduceEq, Nat.reduceEqDiff, ite_self, MLay_pI, MLay_pL, MLay_qI, MLay_qL, ev_X12_feed, xt_X12_feed, xf_X12_feed, hk, Int.cast_ofNat_Int, Int.le_refl]
      repeat' (first | intro z | apply And.intro)
      all_goals try omega
      all_goals first | exact h | (exfalso; assumption)
    | succ n ih =>
      intro k a8 a9 a10 hn
      have hT := MI_mFeed hI2 a b c k
      have ih := fun a8 a9 a10 => ih (k + 1) a8 a9 a10 (by omega)
      simp only [mFeed, mSign, Int.natCast_add, Int.cast_ofNat_Int] at ih
      have hk : kd (mFeed (pI σ 1300 61 0) a b c k) 61 = 13 := hT.lay.1
      have hb := byte3_in a b c k
      have x1 := hT.lettered_s
      generalize mFeed (pI σ 1300 61 0) a b c k = τ at *
      have e7 := and7 k (by omega)
      have eb := fun w => byte_eq w (k := k) (by omega)
      have c8 : ((k : Int) < 8 → byte3 a b c k = (((a >>> (56 - 8 * ((k : Int) % 8)).toNat) &&& 255#64).toNat : Int)) ∧ (¬ (k : Int) < 8 → (k : Int) < 16 → byte3 a b c k = (((b >>> (56 - 8 * ((k : Int) % 8)).toNat) &&& 255#64).toNat : Int)) ∧ (¬ (k : Int) < 8 → ¬ (k : Int) < 16 → byte3 a b c k = (((c >>> (56 - 8 * ((k : Int) % 8)).toNat) &&& 255#64).toNat : Int)) := by
        unfold byte3
        refine ⟨fun z => by rw [if_pos z], fun z z2 => by rw [if_neg z, if_pos z2], fun z z2 => by rw [if_neg z, if_neg z2]⟩
      generalize byte3 a b c k = s at *
      have w41 : ∀ (w : BitVec 64) (a9 : Option AV), s = (((w >>> (56 - 8 * ((k : Int) % 8)).toNat) &&& 255#64).toNat : Int) → Go M_X12_feed Q 41 [some (vr 61), some (vl a), none, some (vl b), none, some (vl c), none, some (vi k), some (vl w), none, a9] [] τ (0, 0) := by
        intro w a9 hs
        refine go_X12_feed (ct := fun p => p == 8) 60 ?_
        simp only [oI, oL, oR, o1, lI, lL, lR, popN, catS, gv, stL, stL2, swt, cnd, spObj, List.getElem?_cons_zero, List.getElem?_cons_succ, List.getD_cons_zero, List.getD_cons_succ, List.set_cons_zero, List.set_cons_succ, List.nil_append, List.cons_append, Option.toList, Bool.or_false, Bool.false_or, Bool.or_true, Bool.true_or, Nat.reduceBEq, Nat.reduceAdd, Nat.reduceLT, Nat.reduceLeDiff, Int.reduceAdd, Int.reduceToNat, true_and, and_true, Fin.isValue, Fin.val_zero, Fin.val_one, Fin.val_two, Fin.reduceFinMk, eq_self, Int.reduceNeg, imp_self, Nat.reduceMul, Nat.le_refl, not_true_eq_false, not_false_eq_true, List.getElem?_nil, reduceCtorEq, true_or, or_true, Classical.not_not, implies_true, or_self, wI_0, wI_1, wI_m1, b2i_w, b2i_eq0, b2i_eq1, b2i_bool, nor_self, nx_pI, kd_pI, ln_pI, fI_pI, fL_pI, fR_pI, aI_pI, aL_pI, aR_pI, nx_pL, kd_pL, ln_pL, fI_pL, fL_pL, fR_pL, aI_pL, aL_pL, aR_pL, nx_pR, kd_pR, ln_pR, fI_pR, fL_pR, fR_pR, aI_pR, aL_pR, aR_pR, nx_qI, kd_qI, ln_qI, fI_qI, fL_qI, fR_qI, aI_qI, aL_qI, aR_qI, nx_qL, kd_qL, ln_qL, fI_qL, fL_qL, fR_qL, aI_qL, aL_qL, aR_qL, nx_qR, kd_qR, ln_qR, fI_qR, fL_qR, fR_qR, aI_qR, aL_qR, aR_qR, nx_mk, kd_mk, ln_mk, fI_mk, fL_mk, fR_mk, aI_mk, aL_mk, aR_mk, false_and, and_false, if_false, if_true, and_self, Int.reduceEq, Nat.reduceEqDiff, ite_self, MLay_pI, MLay_pL, MLay_qI, MLay_qL, ev_X12_feed, xt_X12_feed, xf_X12_feed, hk, hT.lay.eqs, e7, eb, ← hs]
        try simp (disch := omega) only [wI_id, dv_nn, rm_nn]
        repeat' (first | intro z | apply And.intro)
        all_goals try omega
        · rw [if_neg (by omega)] at ih; exact ih _ _ _
        · rw [if_pos (by omega)] at ih; exact ih _ _ _
        · rw [if_neg (by omega)] at ih; exact ih _ _ _
        · rw [if_neg (by omega)] at ih; exact ih _ _ _
        · rw [if_pos (by omega)] at ih; exact ih _ _ _
      refine go_X12_feed (ct := fun p => p == 8 || p == 41) 60 ?_
      simp only [oI, oL, oR, o1, lI, lL, lR, popN, catS, gv, stL, stL2, swt, cnd, spObj, List.getElem?_cons_zero, List.getElem?_cons_succ, List.getD_cons_zero, List.getD_cons_succ, List.set_cons_zero, List.set_cons_succ, List.nil_append, List.cons_append, Option.toList, Bool.or_false, Bool.false_or, Bool.or_true, Bool.true_or, Nat.reduceBEq, Nat.reduceAdd, Nat.reduceLT, Nat.reduceLeDiff, Int.reduceAdd, Int.reduceToNat, true_and, and_true, Fin.isValue, Fin.val_zero, Fin.val_one, Fin.val_two, Fin.reduceFinMk, eq_self, Int.reduceNeg, imp_self, Nat.reduceMul, Nat.le_refl, not_true_eq_false, not_false_eq_true, List.getElem?_nil, reduceCtorEq, true_or, or_true, Classical.not_not, implies_true, or_self, wI_0, wI_1, wI_m1, b2i_w, b2i_eq0, b2i_eq1, b2i_bool, nor_self, nx_pI, kd_pI, ln_pI, fI_pI, fL_pI, fR_pI, aI_pI, aL_pI, aR_pI, nx_pL, kd_pL, ln_pL, fI_pL, fL_pL, fR_pL, aI_pL, aL_pL, aR_pL, nx_pR, kd_pR, ln_pR, fI_pR, fL_pR, fR_pR, aI_pR, aL_pR, aR_pR, nx_qI, kd_qI, ln_qI, fI_qI, fL_qI, fR_qI, aI_qI, aL_qI, aR_qI, nx_qL, kd_qL, ln_qL, fI_qL, fL_qL, fR_qL, aI_qL, aL_qL, aR_qL, nx_qR, kd_qR, ln_qR, fI_qR, fL_qR, fR_qR, aI_qR, aL_qR, aR_qR, nx_mk, kd_mk, ln_mk, fI_mk, fL_mk, fR_mk, aI_mk, aL_mk, aR_mk, false_and, and_false, if_false, if_true, and_self, Int.reduceEq, Nat.reduceEqDiff, ite_self, MLay_pI, MLay_pL, MLay_qI, MLay_qL, ev_X12_feed, xt_X12_feed, xf_X12_feed, hk]
      try simp (disch := omega) only [wI_id, dv_nn, rm_nn]
      repeat' (first | intro z | apply And.intro)
      all_goals try omega
      · exact w41 _ _ (c8.2.2 (by omega) (by omega))
      · exact w41 _ _ (c8.2.1 (by omega) (by omega))
      · exact w41 _ _ (c8.1 (by omega))
  refine go_X12_feed (ct := fun p => p == 8) 40 ?_
  simp only [oI, oL, oR, o1, lI, lL, lR, popN, catS, gv, stL, stL2, swt, cnd, spObj, List.getElem?_cons_zero, List.getElem?_cons_succ, List.getD_cons_zero, List.getD_cons_succ, List.set_cons_zero, List.set_cons_succ, List.nil_append, List.cons_append, Option.toList, Bool.or_false, Bool.false_or, Bool.or_true, Bool.true_or, Nat.reduceBEq, Nat.reduceAdd, Nat.reduceLT, Nat.reduceLeDiff, Int.reduceAdd, Int.reduceToNat, true_and, and_true, Fin.isValue, Fin.val_zero, Fin.val_one, Fin.val_two, Fin.reduceFinMk, eq_self, Int.reduceNeg, imp_self, Nat.reduceMul, Nat.le_refl, not_true_eq_false, not_false_eq_true, List.getElem?_nil, reduceCtorEq, true_or, or_true, Classical.not_not, implies_true, or_self, wI_0, wI_1, wI_m1, b2i_w, b2i_eq0, b2i_eq1, b2i_bool, nor_self, nx_pI, kd_pI, ln_pI, fI_pI, fL_pI, fR_pI, aI_pI, aL_pI, aR_pI, nx_pL, kd_pL, ln_pL, fI_pL, fL_pL, fR_pL, aI_pL, aL_pL, aR_pL, nx_pR, kd_pR, ln_pR, fI_pR, fL_pR, fR_pR, aI_pR, aL_pR, aR_pR, nx_qI, kd_qI, ln_qI, fI_qI, fL_qI, fR_qI, aI_qI, aL_qI, aR_qI, nx_qL, kd_qL, ln_qL, fI_qL, fL_qL, fR_qL, aI_qL, aL_qL, aR_qL, nx_qR, kd_qR, ln_qR, fI_qR, fL_qR, fR_qR, aI_qR, aL_qR, aR_qR, nx_mk, kd_mk, ln_mk, fI_mk, fL_mk, fR_mk, aI_mk, aL_mk, aR_mk, false_and, and_false, if_false, if_true, and_self, Int.reduceEq, Nat.reduceEqDiff, ite_self, MLay_pI, MLay_pL, MLay_qI, MLay_qL, ev_X12_feed, xt_X12_feed, xf_X12_feed, hk]
  exact loop 24 0 none none none (by omega)

def sp_X12_signAt : Sp := fun av σ Q => oR av fun this av => oI av fun p av => av = [] ∧ kd σ this = 13 ∧ (this = 61 ∧ MI σ ∧ (0 ≤ p ∧ p ≤ 1000) ∧ Q (some (vi (if p < fI σ 1345 61 then aI σ 92 p else 0))) σ)
theorem us_X12_signAt (this : Int) (p : Int) (σ : Hp) (Q : Option AV → Hp → Prop) : sp_X12_signAt [vr this, vi p] σ Q = (kd σ this = 13 ∧ (this = 61 ∧ MI σ ∧ (0 ≤ p ∧ p ≤ 1000) ∧ Q (some (vi (if p < fI σ 1345 61 then aI σ 92 p else 0))) σ)) := propext ⟨fun h => h.2, fun h => ⟨rfl, h⟩⟩
theorem el_X12_signAt {av : List AV} {σ : Hp} {Q : Option AV → Hp → Prop} (h : sp_X12_signAt av σ Q) : ∃ (this : Int) (p : Int), av = [vr this, vi p] ∧ (kd σ this = 13 ∧ (this = 61 ∧ MI σ ∧ (0 ≤ p ∧ p ≤ 1000) ∧ Q (some (vi (if p < fI σ 1345 61 then aI σ 92 p else 0))) σ)) := by
  obtain ⟨this, a0, rfl, h0⟩ := oR_s h
  obtain ⟨p, a1, rfl, h1⟩ := oI_s h0
  obtain ⟨rfl, hz⟩ := h1
  exact ⟨this, p, rfl, hz⟩
theorem rc_X12_signAt : ∀ (av : List AV) (σ : Hp) (Q : Option AV → Hp → Prop), sp_X12_signAt av σ Q → ∃ r tl, av = vr r :: tl ∧ kd σ r = 12 + 1 := fun av σ Q h => by
  obtain ⟨this, p, rfl, hz, -⟩ := el_X12_signAt h
  exact ⟨this, _, rfl, hz⟩

def tb_X12_signAt : Tab := [(0, .iload_n 1, 1, (0, 0, 0, 0)), (1, .aload_n 0, 1, (0, 0, 0, 0)), (2, .getfield 304, 3, (13, 1345, 0, 0)), (5, .if_icmp .ge 12, 3, (0, 0, 0, 0)), (8, .aload_n 0, 1, (0, 0, 0, 0)), (9, .getfield 102, 3, (13, 1344, 2, 0)), (12, .iload_n 1, 1, (0, 0, 0, 0)), (13, .iaload, 1, (0, 0, 0, 0)), (14, .goto 4, 3, (0, 0, 0, 0)), (17, .iconst 0, 1, (0, 0, 0, 0)), (18, .ireturn, 1, (0, 0, 0, 0))]
set_option maxRecDepth 100000 in
theorem tk_X12_signAt : TOK RX12 false cX12_signAt tb_X12_signAt := chkT_ok ft_X12 (by decide +kernel)
def mt_X12_signAt : List (Nat × Mt) := []
theorem mk_X12_signAt : MOK RX12 mt_X12_signAt := fun q hq => by cases hq
noncomputable def xe_X12_signAt (ct : Nat → Bool) (K : Kt) (R : Option AV → Hp → Prop) (n : Nat) : Kt := exS 2 1 0 0 1 tb_X12_signAt mt_X12_signAt ct K R n
noncomputable def xk_X12_signAt (ct : Nat → Bool) (K : Kt) (R : Option AV → Hp → Prop) (n : Nat) : Kt := exkS 2 1 0 0 1 tb_X12_signAt mt_X12_signAt ct K R n
theorem xt_X12_signAt {ct : Nat → Bool} {K : Kt} {R : Option AV → Hp → Prop} {n pc : Nat} {ls : List (Option AV)} {st : List AV} {σ : Hp} {k : Nat × Nat} (h : ct pc = true) : xk_X12_signAt ct K R n pc ls st σ k = K pc ls st σ k := by unfold xk_X12_signAt exkS; rw [h]
theorem xf_X12_signAt {ct : Nat → Bool} {K : Kt} {R : Option AV → Hp → Prop} {n pc : Nat} {ls : List (Option AV)} {st : List AV} {σ : Hp} {k : Nat × Nat} (h : ct pc = false) : xk_X12_signAt ct K R n pc ls st σ k = xe_X12_signAt ct K R n pc ls st σ k := by unfold xk_X12_signAt exkS xe_X12_signAt; rw [h]
theorem ev_X12_signAt {ct : Nat → Bool} {K : Kt} {R : Option AV → Hp → Prop} {n : Nat} {ls : List (Option AV)} {st : List AV} {σ : Hp} {k : Nat × Nat} :
  xe_X12_signAt ct K R (n + 1) 0 ls st σ k = (lI ls 1 fun x => xk_X12_signAt ct K R n 1 ls (vi x :: st) σ k) ∧
  xe_X12_signAt ct K R (n + 1) 1 ls st σ k = (lR ls 0 fun x => xk_X12_signAt ct K R n 2 ls (vr x :: st) σ k) ∧
  xe_X12_signAt ct K R (n + 1) 2 ls st σ k = (oR st fun x st => kd σ x = 13 ∧ xk_X12_signAt ct K R n 5 ls (vi (fI σ 1345 x) :: st) σ k) ∧
  xe_X12_signAt ct K R (n + 1) 5 ls st σ k = (oI st fun y st => oI st fun x st => (wI y ≤ wI x → xk_X12_signAt ct K R n 17 ls st σ k) ∧ (¬ (wI y ≤ wI x) → xk_X12_signAt ct K R n 8 ls st σ k)) ∧
  xe_X12_signAt ct K R (n + 1) 8 ls st σ k = (lR ls 0 fun x => xk_X12_signAt ct K R n 9 ls (vr x :: st) σ k) ∧
  xe_X12_signAt ct K R (n + 1) 9 ls st σ k = (oR st fun x st => kd σ x = 13 ∧ xk_X12_signAt ct K R n 12 ls (vr (fR σ 1344 x) :: st) σ k) ∧
  xe_X12_signAt ct K R (n + 1) 12 ls st σ k = (lI ls 1 fun x => xk_X12_signAt ct K R n 13 ls (vi x :: st) σ k) ∧
  xe_X12_signAt ct K R (n + 1) 13 ls st σ k = (oI st fun j st => oR st fun x st => (kd σ x = 101 ∨ kd σ x = 108) ∧ (0 ≤ j ∧ j < ln σ x) ∧ xk_X12_signAt ct K R n 14 ls (vi (aI σ x j) :: st) σ k) ∧
  xe_X12_signAt ct K R (n + 1) 14 ls st σ k = (xk_X12_signAt ct K R n 18 ls st σ k) ∧
  xe_X12_signAt ct K R (n + 1) 17 ls st σ k = (xk_X12_signAt ct K R n 18 ls (vi (0) :: st) σ k) ∧
  xe_X12_signAt ct K R (n + 1) 18 ls st σ k = (oI st fun x st => st = [] ∧ True ∧ R (some (vi x)) σ) :=
  ⟨exS_step.trans rfl, exS_step.trans rfl, exS_step.trans rfl, exS_step.trans rfl, exS_step.trans rfl, exS_step.trans rfl, exS_step.trans rfl, exS_step.trans rfl, exS_step.trans rfl, exS_step.trans rfl, exS_step.trans rfl⟩
def M_X12_signAt : Md := (yX12_signAt, cX12_signAt, 2, (some FieldType.int), 1, 0, 0, 1, false, tb_X12_signAt, mt_X12_signAt)
theorem mm_X12_signAt : MMOK M_X12_signAt := ⟨by decide +kernel, tk_X12_signAt, mk_X12_signAt, rfl, fun h => by cases h⟩
theorem go_X12_signAt {Q : Option AV → Hp → Prop} {ct : Nat → Bool} {pc : Nat} {ls : List (Option AV)} {st : List AV} {σ : Hp} {k : Nat × Nat} (n : Nat) (h : xe_X12_signAt ct (Go M_X12_signAt Q) Q n pc ls st σ k) : Go M_X12_signAt Q pc ls st σ k := Go.exS mm_X12_signAt h

set_option maxRecDepth 20000 in
theorem c_X12_signAt : Ct yX12_signAt cX12_signAt 2 ((some FieldType.int)) 1 0 0 sp_X12_signAt := by
  refine Ct.go (M := M_X12_signAt) mm_X12_signAt fun av σ Q h0 => ?_
  obtain ⟨this, p, rfl, hk, h⟩ := el_X12_signAt h0
  clear h0
  refine ⟨Nat.le_of_ble_eq_true rfl, ?_⟩
  show Go M_X12_signAt Q 0 [some (vr this), some (vi p)] [] σ (0, 0)
  obtain ⟨rfl, hI, hp, h⟩ := h
  have x1 := hI.size_s
  refine go_X12_signAt (ct := fun p => false) 40 ?_
  simp only [oI, oL, oR, o1, lI, lL, lR, popN, catS, gv, stL, stL2, swt, cnd, spObj, List.getElem?_cons_zero, List.getElem?_cons_succ, List.getD_cons_zero, List.getD_cons_succ, List.set_cons_zero, List.set_cons_succ, List.nil_append, List.cons_append, Option.toList, Bool.or_false, Bool.false_or, Bool.or_true, Bool.true_or, Nat.reduceBEq, Nat.reduceAdd, Nat.reduceLT, Nat.reduceLeDiff, Int.reduceAdd, Int.reduceToNat, true_and, and_true, Fin.isValue, Fin.val_zero, Fin.val_one, Fin.val_two, Fin.reduceFinMk, eq_self, Int.reduceNeg, imp_self, Nat.reduceMul, Nat.le_refl, not_true_eq_false, not_false_eq_true, List.getElem?_nil, reduceCtorEq, true_or, or_true, Classical.not_not, implies_true, or_self, wI_0, wI_1, wI_m1, b2i_w, b2i_eq0, b2i_eq1, b2i_bool, nor_self, nx_pI, kd_pI, ln_pI, fI_pI, fL_pI, fR_pI, aI_pI, aL_pI, aR_pI, nx_pL, kd_pL, ln_pL, fI_pL, fL_pL, fR_pL, aI_pL, aL_pL, aR_pL, nx_pR, kd_pR, ln_pR, fI_pR, fL_pR, fR_pR, aI_pR, aL_pR, aR_pR, nx_qI, kd_qI, ln_qI, fI_qI, fL_qI, fR_qI, aI_qI, aL_qI, aR_qI, nx_qL, kd_qL, ln_qL, fI_qL, fL_qL, fR_qL, aI_qL, aL_qL, aR_qL, nx_qR, kd_qR, ln_qR, fI_qR, fL_qR, fR_qR, aI_qR, aL_qR, aR_qR, nx_mk, kd_mk, ln_mk, fI_mk, fL_mk, fR_mk, aI_mk, aL_mk, aR_mk, false_and, and_false, if_false, if_true, and_self, Int.reduceEq, Nat.reduceEqDiff, ite_self, MLay_pI, MLay_pL, MLay_qI, MLay_qL, ev_X12_signAt, xt_X12_signAt, xf_X12_signAt, hk, hI.lay.eqs]
  try simp (disch := omega) only [wI_id, dv_nn, rm_nn]
  repeat' (first | intro z | apply And.intro)
  all_goals try omega
  · rw [if_neg (by omega)] at h; exact h
  · rw [if_pos (by omega)] at h; exact h

def sp_X12_isWord : Sp := fun av σ Q => oR av fun this av => oL av fun w av => av = [] ∧ kd σ this = 13 ∧ (this = 61 ∧ MI σ ∧ Q (some (vi (b2i (fI σ 1348 61 = 1 ∧ fL σ 1349 61 = w)))) σ)
theorem us_X12_isWord (this : Int) (w : BitVec 64) (σ : Hp) (Q : Option AV → Hp → Prop) : sp_X12_isWord [vr this, vl w] σ Q = (kd σ this = 13 ∧ (this = 61 ∧ MI σ ∧ Q (some (vi (b2i (fI σ 1348 61 = 1 ∧ fL σ 1349 61 = w)))) σ)) := propext ⟨fun h => h.2, fun h => ⟨rfl, h⟩⟩
theorem el_X12_isWord {av : List AV} {σ : Hp} {Q : Option AV → Hp → Prop} (h : sp_X12_isWord av σ Q) : ∃ (this : Int) (w : BitVec 64), av = [vr this, vl w] ∧ (kd σ this = 13 ∧ (this = 61 ∧ MI σ ∧ Q (some (vi (b2i (fI σ 1348 61 = 1 ∧ fL σ 1349 61 = w)))) σ)) := by
  obtain ⟨this, a0, rfl, h0⟩ := oR_s h
  obtain ⟨w, a1, rfl, h1⟩ := oL_s h0
  obtain ⟨rfl, hz⟩ := h1
  exact ⟨this, w, rfl, hz⟩
theorem rc_X12_isWord : ∀ (av : List AV) (σ : Hp) (Q : Option AV → Hp → Prop), sp_X12_isWord av σ Q → ∃ r tl, av = vr r :: tl ∧ kd σ r = 12 + 1 := fun av σ Q h => by
  obtain ⟨this, w, rfl, hz, -⟩ := el_X12_isWord h
  exact ⟨this, _, rfl, hz⟩

def tb_X12_isWord : Tab := [(0, .aload_n 0, 1, (0, 0, 0, 0)), (1, .getfield 320, 3, (13, 1348, 0, 0)), (4, .iconst 1, 1, (0, 0, 0, 0)), (5, .if_icmp .ne 16, 3, (0, 0, 0, 0)), (8, .aload_n 0, 1, (0, 0, 0, 0)), (9, .getfield 313, 3, (13, 1349, 1, 0)), (12, .lload_n 1, 1, (0, 0, 0, 0)), (13, .lcmp, 1, (0, 0, 0, 0)), (14, .ifCond .ne 7, 3, (0, 0, 0, 0)), (17, .iconst 1, 1, (0, 0, 0, 0)), (18, .goto 4, 3, (0, 0, 0, 0)), (21, .iconst 0, 1, (0, 0, 0, 0)), (22, .ireturn, 1, (0, 0, 0, 0))]
set_option maxRecDepth 100000 in
theorem tk_X12_isWord : TOK RX12 false cX12_isWord tb_X12_isWord := chkT_ok ft_X12 (by decide +kernel)
def mt_X12_isWord : List (Nat × Mt) := []
theorem mk_X12_isWord : MOK RX12 mt_X12_isWord := fun q hq => by cases hq
noncomputable def xe_X12_isWord (ct : Nat → Bool) (K : Kt) (R : Option AV → Hp → Prop) (n : Nat) : Kt := exS 3 1 0 0 2 tb_X12_isWord mt_X12_isWord ct K R n
noncomputable def xk_X12_isWord (ct : Nat → Bool) (K : Kt) (R : Option AV → Hp → Prop) (n : Nat) : Kt := exkS 3 1 0 0 2 tb_X12_isWord mt_X12_isWord ct K R n
theorem xt_X12_isWord {ct : Nat → Bool} {K : Kt} {R : Option AV → Hp → Prop} {n pc : Nat} {ls : List (Option AV)} {st : List AV} {σ : Hp} {k : Nat × Nat} (h : ct pc = true) : xk_X12_isWord ct K R n pc ls st σ k = K pc ls st σ k := by unfold xk_X12_isWord exkS; rw [h]
theorem xf_X12_isWord {ct : Nat → Bool} {K : Kt} {R : Option AV → Hp → Prop} {n pc : Nat} {ls : List (Option AV)} {st : List AV} {σ : Hp} {k : Nat × Nat} (h : ct pc = false) : xk_X12_isWord ct K R n pc ls st σ k = xe_X12_isWord ct K R n pc ls st σ k := by unfold xk_X12_isWord exkS xe_X12_isWord; rw [h]
theorem ev_X12_isWord {ct : Nat → Bool} {K : Kt} {R : Option AV → Hp → Prop} {n : Nat} {ls : List (Option AV)} {st : List AV} {σ : Hp} {k : Nat × Nat} :
  xe_X12_isWord ct K R (n + 1) 0 ls st σ k = (lR ls 0 fun x => xk_X12_isWord ct K R n 1 ls (vr x :: st) σ k) ∧
  xe_X12_isWord ct K R (n + 1) 1 ls st σ k = (oR st fun x st => kd σ x = 13 ∧ xk_X12_isWord ct K R n 4 ls (vi (fI σ 1348 x) :: st) σ k) ∧
  xe_X12_isWord ct K R (n + 1) 4 ls st σ k = (xk_X12_isWord ct K R n 5 ls (vi (1) :: st) σ k) ∧
  xe_X12_isWord ct K R (n + 1) 5 ls st σ k = (oI st fun y st => oI st fun x st => (¬ wI x = wI y → xk_X12_isWord ct K R n 21 ls st σ k) ∧ (¬ (¬ wI x = wI y) → xk_X12_isWord ct K R n 8 ls st σ k)) ∧
  xe_X12_isWord ct K R (n + 1) 8 ls st σ k = (lR ls 0 fun x => xk_X12_isWord ct K R n 9 ls (vr x :: st) σ k) ∧
  xe_X12_isWord ct K R (n + 1) 9 ls st σ k = (oR st fun x st => kd σ x = 13 ∧ xk_X12_isWord ct K R n 12 ls (vl (fL σ 1349 x) :: st) σ k) ∧
  xe_X12_isWord ct K R (n + 1) 12 ls st σ k = (lL ls 1 fun x => xk_X12_isWord ct K R n 13 ls (vl x :: st) σ k) ∧
  xe_X12_isWord ct K R (n + 1) 13 ls st σ k = (oL st fun y st => oL st fun x st => xk_X12_isWord ct K R n 14 ls (vi (cmL x y) :: st) σ k) ∧
  xe_X12_isWord ct K R (n + 1) 14 ls st σ k = (oI st fun x st => (¬ wI x = wI 0 → xk_X12_isWord ct K R n 21 ls st σ k) ∧ (¬ (¬ wI x = wI 0) → xk_X12_isWord ct K R n 17 ls st σ k)) ∧
  xe_X12_isWord ct K R (n + 1) 17 ls st σ k = (xk_X12_isWord ct K R n 18 ls (vi (1) :: st) σ k) ∧
  xe_X12_isWord ct K R (n + 1) 18 ls st σ k = (xk_X12_isWord ct K R n 22 ls st σ k) ∧
  xe_X12_isWord ct K R (n + 1) 21 ls st σ k = (xk_X12_isWord ct K R n 22 ls (vi (0) :: st) σ k) ∧
  xe_X12_isWord ct K R (n + 1) 22 ls st σ k = (oI st fun x st => st = [] ∧ (x = 0 ∨ x = 1) ∧ R (some (vi x)) σ) :=
  ⟨exS_step.trans rfl, exS_step.trans rfl, exS_step.trans rfl, exS_step.trans rfl, exS_step.trans rfl, exS_step.trans rfl, exS_step.trans rfl, exS_step.trans rfl, exS_step.trans rfl, exS_step.trans rfl, exS_step.trans rfl, exS_step.trans rfl, exS_step.trans rfl⟩
def M_X12_isWord : Md := (yX12_isWord, cX12_isWord, 3, (some FieldType.boolean), 1, 0, 0, 2, false, tb_X12_isWord, mt_X12_isWord)
theorem mm_X12_isWord : MMOK M_X12_isWord := ⟨by decide +kernel, tk_X12_isWord, mk_X12_isWord, rfl, fun h => by cases h⟩
theorem go_X12_isWord {Q : Option AV → Hp → Prop} {ct : Nat → Bool} {pc : Nat} {ls : List (Option AV)} {st : List AV} {σ : Hp} {k : Nat × Nat} (n : Nat) (h : xe_X12_isWord ct (Go M_X12_isWord Q) Q n pc ls st σ k) : Go M_X12_isWord Q pc ls st σ k := Go.exS mm_X12_isWord h

set_option maxRecDepth 20000 in
theorem c_X12_isWord : Ct yX12_isWord cX12_isWord 3 ((some FieldType.boolean)) 1 0 0 sp_X12_isWord := by
  refine Ct.go (M := M_X12_isWord) mm_X12_isWord fun av σ Q h0 => ?_
  obtain ⟨this, w, rfl, hk, h⟩ := el_X12_isWord h0
  clear h0
  refine ⟨Nat.le_of_ble_eq_true rfl, ?_⟩
  show Go M_X12_isWord Q 0 [some (vr this), some (vl w), none] [] σ (0, 0)
  obtain ⟨rfl, hI, h⟩ := h
  have x1 := hI.token_s
  have ec : ∀ x y : BitVec 64, wI (cmL x y) = 0 ↔ x = y := by
    intro x y
    unfold cmL
    by_cases e1 : y.slt x = true
    · rw [if_pos e1]
      refine ⟨fun z => absurd z (by decide), fun z => ?_⟩
      subst z
      rw [BitVec.slt_eq_decide] at e1
      simp at e1
    · rw [if_neg e1]
      by_cases e2 : x = y
      · rw [if_pos e2]; exact ⟨fun _ => e2, fun _ => rfl⟩
      · rw [if_neg e2]; exact ⟨fun z => absurd z (by decide), fun z => absurd z e2⟩
  refine go_X12_isWord (ct := fun p => false) 40 ?_
  simp only [oI, oL, oR, o1, lI, lL, lR, popN, catS, gv, stL, stL2, swt, cnd, spObj, List.getElem?_cons_zero, List.getElem?_cons_succ, List.getD_cons_zero, List.getD_cons_succ, List.set_cons_zero, List.set_cons_succ, List.nil_append, List.cons_append, Option.toList, Bool.or_false, Bool.false_or, Bool.or_true, Bool.true_or, Nat.reduceBEq, Nat.reduceAdd, Nat.reduceLT, Nat.reduceLeDiff, Int.reduceAdd, Int.reduceToNat, true_and, and_true, Fin.isValue, Fin.val_zero, Fin.val_one, Fin.val_two, Fin.reduceFinMk, eq_self, Int.reduceNeg, imp_self, Nat.reduceMul, Nat.le_refl, not_true_eq_false, not_false_eq_true, List.getElem?_nil, reduceCtorEq, true_or, or_true, Classical.not_not, implies_true, or_self, wI_0, wI_1, wI_m1, b2i_w, b2i_eq0, b2i_eq1, b2i_bool, nor_self, nx_pI, kd_pI, ln_pI, fI_pI, fL_pI, fR_pI, aI_pI, aL_pI, aR_pI, nx_pL, kd_pL, ln_pL, fI_pL, fL_pL, fR_pL, aI_pL, aL_pL, aR_pL, nx_pR, kd_pR, ln_pR, fI_pR, fL_pR, fR_pR, aI_pR, aL_pR, aR_pR, nx_qI, kd_qI, ln_qI, fI_qI, fL_qI, fR_qI, aI_qI, aL_qI, aR_qI, nx_qL, kd_qL, ln_qL, fI_qL, fL_qL, fR_qL, aI_qL, aL_qL, aR_qL, nx_qR, kd_qR, ln_qR, fI_qR, fL_qR, fR_qR, aI_qR, aL_qR, aR_qR, nx_mk, kd_mk, ln_mk, fI_mk, fL_mk, fR_mk, aI_mk, aL_mk, aR_mk, false_and, and_false, if_false, if_true, and_self, Int.reduceEq, Nat.reduceEqDiff, ite_self, MLay_pI, MLay_pL, MLay_qI, MLay_qL, ev_X12_isWord, xt_X12_isWord, xf_X12_isWord, hk, hI.lay.eqs, ec]
  try simp (disch := omega) only [wI_id, dv_nn, rm_nn]
  repeat' (first | intro z | apply And.intro)
  all_goals try omega
  · rw [b2i_f (fun q => absurd q.1 (by omega))] at h; exact h
  · rw [b2i_f (fun q => absurd q.2 ‹_›)] at h; exact h
  · rw [b2i_t ⟨by omega, by assumption⟩] at h; exact h

def sp_X12_isSign : Sp := fun av σ Q => oR av fun this av => oI av fun s av => av = [] ∧ kd σ this = 13 ∧ (this = 61 ∧ MI σ ∧ (0 ≤ s ∧ s ≤ 255) ∧ (fI σ 1348 61 = 3 → fI σ 1347 61 < 1000) ∧ Q (some (vi (b2i (fI σ 1348 61 = 3 ∧ aI σ 92 (fI σ 1347 61) = s)))) σ)
theorem us_X12_isSign (this : Int) (s : Int) (σ : Hp) (Q : Option AV → Hp → Prop) : sp_X12_isSign [vr this, vi s] σ Q = (kd σ this = 13 ∧ (this = 61 ∧ MI σ ∧ (0 ≤ s ∧ s ≤ 255) ∧ (fI σ 1348 61 = 3 → fI σ 1347 61 < 1000) ∧ Q (some (vi (b2i (fI σ 1348 61 = 3 ∧ aI σ 92 (fI σ 1347 61) = s)))) σ)) := propext ⟨fun h => h.2, fun h => ⟨rfl, h⟩⟩
theorem el_X12_isSign {av : List AV} {σ : Hp} {Q : Option AV → Hp → Prop} (h : sp_X12_isSign av σ Q) : ∃ (this : Int) (s : Int), av = [vr this, vi s] ∧ (kd σ this = 13 ∧ (this = 61 ∧ MI σ ∧ (0 ≤ s ∧ s ≤ 255) ∧ (fI σ 1348 61 = 3 → fI σ 1347 61 < 1000) ∧ Q (some (vi (b2i (fI σ 1348 61 = 3 ∧ aI σ 92 (fI σ 1347 61) = s)))) σ)) := by
  obtain ⟨this, a0, rfl, h0⟩ := oR_s h
  obtain ⟨s, a1, rfl, h1⟩ := oI_s h0
  obtain ⟨rfl, hz⟩ := h1
  exact ⟨this, s, rfl, hz⟩
theorem rc_X12_isSign : ∀ (av : List AV) (σ : Hp) (Q : Option AV → Hp → Prop), sp_X12_isSign av σ Q → ∃ r tl, av = vr r :: tl ∧ kd σ r = 12 + 1 := fun av σ Q h => by
  obtain ⟨this, s, rfl, hz, -⟩ := el_X12_isSign h
  exact ⟨this, _, rfl, hz⟩

def tb_X12_isSign : Tab := [(0, .aload_n 0, 1, (0, 0, 0, 0)), (1, .getfield 320, 3, (13, 1348, 0, 0)), (4, .iconst 3, 1, (0, 0, 0, 0)), (5, .if_icmp .ne 20, 3, (0, 0, 0, 0)), (8, .aload_n 0, 1, (0, 0, 0, 0)), (9, .getfield 102, 3, (13, 1344, 2, 0)), (12, .aload_n 0, 1, (0, 0, 0, 0)), (13, .getfield 310, 3, (13, 1347, 0, 0)), (16, .iaload, 1, (0, 0, 0, 0)), (17, .iload_n 1, 1, (0, 0, 0, 0)), (18, .if_icmp .ne 7, 3, (0, 0, 0, 0)), (21, .iconst 1, 1, (0, 0, 0, 0)), (22, .goto 4, 3, (0, 0, 0, 0)), (25, .iconst 0, 1, (0, 0, 0, 0)), (26, .ireturn, 1, (0, 0, 0, 0))]
set_option maxRecDepth 100000 in
theorem tk_X12_isSign : TOK RX12 false cX12_isSign tb_X12_isSign := chkT_ok ft_X12 (by decide +kernel)
def mt_X12_isSign : List (Nat × Mt) := []
theorem mk_X12_isSign : MOK RX12 mt_X12_isSign := fun q hq => by cases hq
noncomputable def xe_X12_isSign (ct : Nat → Bool) (K : Kt) (R : Option AV → Hp → Prop) (n : Nat) : Kt := exS 2 1 0 0 2 tb_X12_isSign mt_X12_isSign ct K R n
noncomputable def xk_X12_isSign (ct : Nat → Bool) (K : Kt) (R : Option AV → Hp → Prop) (n : Nat) : Kt := exkS 2 1 0 0 2 tb_X12_isSign mt_X12_isSign ct K R n
theorem xt_X12_isSign {ct : Nat → Bool} {K : Kt} {R : Option AV → Hp → Prop} {n pc : Nat} {ls : List (Option AV)} {st : List AV} {σ : Hp} {k : Nat × Nat} (h : ct pc = true) : xk_X12_isSign ct K R n pc ls st σ k = K pc ls st σ k := by unfold xk_X12_isSign exkS; rw [h]
theorem xf_X12_isSign {ct : Nat → Bool} {K : Kt} {R : Option AV → Hp → Prop} {n pc : Nat} {ls : List (Option AV)} {st : List AV} {σ : Hp} {k : Nat × Nat} (h : ct pc = false) : xk_X12_isSign ct K R n pc ls st σ k = xe_X12_isSign ct K R n pc ls st σ k := by unfold xk_X12_isSign exkS xe_X12_isSign; rw [h]
theorem ev_X12_isSign {ct : Nat → Bool} {K : Kt} {R : Option AV → Hp → Prop} {n : Nat} {ls : List (Option AV)} {st : List AV} {σ : Hp} {k : Nat × Nat} :
  xe_X12_isSign ct K R (n + 1) 0 ls st σ k = (lR ls 0 fun x => xk_X12_isSign ct K R n 1 ls (vr x :: st) σ k) ∧
  xe_X12_isSign ct K R (n + 1) 1 ls st σ k = (oR st fun x st => kd σ x = 13 ∧ xk_X12_isSign ct K R n 4 ls (vi (fI σ 1348 x) :: st) σ k) ∧
  xe_X12_isSign ct K R (n + 1) 4 ls st σ k = (xk_X12_isSign ct K R n 5 ls (vi (3) :: st) σ k) ∧
  xe_X12_isSign ct K R (n + 1) 5 ls st σ k = (oI st fun y st => oI st fun x st => (¬ wI x = wI y → xk_X12_isSign ct K R n 25 ls st σ k) ∧ (¬ (¬ wI x = wI y) → xk_X12_isSign ct K R n 8 ls st σ k)) ∧
  xe_X12_isSign ct K R (n + 1) 8 ls st σ k = (lR ls 0 fun x => xk_X12_isSign ct K R n 9 ls (vr x :: st) σ k) ∧
  xe_X12_isSign ct K R (n + 1) 9 ls st σ k = (oR st fun x st => kd σ x = 13 ∧ xk_X12_isSign ct K R n 12 ls (vr (fR σ 1344 x) :: st) σ k) ∧
  xe_X12_isSign ct K R (n + 1) 12 ls st σ k = (lR ls 0 fun x => xk_X12_isSign ct K R n 13 ls (vr x :: st) σ k) ∧
  xe_X12_isSign ct K R (n + 1) 13 ls st σ k = (oR st fun x st => kd σ x = 13 ∧ xk_X12_isSign ct K R n 16 ls (vi (fI σ 1347 x) :: st) σ k) ∧
  xe_X12_isSign ct K R (n + 1) 16 ls st σ k = (oI st fun j st => oR st fun x st => (kd σ x = 101 ∨ kd σ x = 108) ∧ (0 ≤ j ∧ j < ln σ x) ∧ xk_X12_isSign ct K R n 17 ls (vi (aI σ x j) :: st) σ k) ∧
  xe_X12_isSign ct K R (n + 1) 17 ls st σ k = (lI ls 1 fun x => xk_X12_isSign ct K R n 18 ls (vi x :: st) σ k) ∧
  xe_X12_isSign ct K R (n + 1) 18 ls st σ k = (oI st fun y st => oI st fun x st => (¬ wI x = wI y → xk_X12_isSign ct K R n 25 ls st σ k) ∧ (¬ (¬ wI x = wI y) → xk_X12_isSign ct K R n 21 ls st σ k)) ∧
  xe_X12_isSign ct K R (n + 1) 21 ls st σ k = (xk_X12_isSign ct K R n 22 ls (vi (1) :: st) σ k) ∧
  xe_X12_isSign ct K R (n + 1) 22 ls st σ k = (xk_X12_isSign ct K R n 26 ls st σ k) ∧
  xe_X12_isSign ct K R (n + 1) 25 ls st σ k = (xk_X12_isSign ct K R n 26 ls (vi (0) :: st) σ k) ∧
  xe_X12_isSign ct K R (n + 1) 26 ls st σ k = (oI st fun x st => st = [] ∧ (x = 0 ∨ x = 1) ∧ R (some (vi x)) σ) :=
  ⟨exS_step.trans rfl, exS_step.trans rfl, exS_step.trans rfl, exS_step.trans rfl, exS_step.trans rfl, exS_step.trans rfl, exS_step.trans rfl, exS_step.trans rfl, exS_step.trans rfl, exS_step.trans rfl, exS_step.trans rfl, exS_step.trans rfl, exS_step.trans rfl, exS_step.trans rfl, exS_step.trans rfl⟩
def M_X12_isSign : Md := (yX12_isSign, cX12_isSign, 2, (some FieldType.boolean), 1, 0, 0, 2, false, tb_X12_isSign, mt_X12_isSign)
theorem mm_X12_isSign : MMOK M_X12_isSign := ⟨by decide +kernel, tk_X12_isSign, mk_X12_isSign, rfl, fun h => by cases h⟩
theorem go_X12_isSign {Q : Option AV → Hp → Prop} {ct : Nat → Bool} {pc : Nat} {ls : List (Option AV)} {st : List AV} {σ : Hp} {k : Nat × Nat} (n : Nat) (h : xe_X12_isSign ct (Go M_X12_isSign Q) Q n pc ls st σ k) : Go M_X12_isSign Q pc ls st σ k := Go.exS mm_X12_isSign h

set_option maxRecDepth 20000 in
theorem c_X12_isSign : Ct yX12_isSign cX12_isSign 2 ((some FieldType.boolean)) 1 0 0 sp_X12_isSign := by
  refine Ct.go (M := M_X12_isSign) mm_X12_isSign fun av σ Q h0 => ?_
  obtain ⟨this, s, rfl, hk, h⟩ := el_X12_isSign h0
  clear h0
  refine ⟨Nat.le_of_ble_eq_true rfl, ?_⟩
  show Go M_X12_isSign Q 0 [some (vr this), some (vi s)] [] σ (0, 0)
  obtain ⟨rfl, hI, hs, hb, h⟩ := h
  have x1 := hI.token_s
  have x2 := hI.begin_s
  have x3 := hI.letters_ (fI σ 1347 61)
  refine go_X12_isSign (ct := fun p => false) 40 ?_
  simp only [oI, oL, oR, o1, lI, lL, lR, popN, catS, gv, stL, stL2, swt, cnd, spObj, List.getElem?_cons_zero, List.getElem?_cons_succ, List.getD_cons_zero, List.getD_cons_succ, List.set_cons_zero, List.set_cons_succ, List.nil_append, List.cons_append, Option.toList, Bool.or_false, Bool.false_or, Bool.or_true, Bool.true_or, Nat.reduceBEq, Nat.reduceAdd, Nat.reduceLT, Nat.reduceLeDiff, Int.reduceAdd, Int.reduceToNat, true_and, and_true, Fin.isValue, Fin.val_zero, Fin.val_one, Fin.val_two, Fin.reduceFinMk, eq_self, Int.reduceNeg, imp_self, Nat.reduceMul, Nat.le_refl, not_true_eq_false, not_false_eq_true, List.getElem?_nil, reduceCtorEq, true_or, or_true, Classical.not_not, implies_true, or_self, wI_0, wI_1, wI_m1, b2i_w, b2i_eq0, b2i_eq1, b2i_bool, nor_self, nx_pI, kd_pI, ln_pI, fI_pI, fL_pI, fR_pI, aI_pI, aL_pI, aR_pI, nx_pL, kd_pL, ln_pL, fI_pL, fL_pL, fR_pL, aI_pL, aL_pL, aR_pL, nx_pR, kd_pR, ln_pR, fI_pR, fL_pR, fR_pR, aI_pR, aL_pR, aR_pR, nx_qI, kd_qI, ln_qI, fI_qI, fL_qI, fR_qI, aI_qI, aL_qI, aR_qI, nx_qL, kd_qL, ln_qL, fI_qL, fL_qL, fR_qL, aI_qL, aL_qL, aR_qL, nx_qR, kd_qR, ln_qR, fI_qR, fL_qR, fR_qR, aI_qR, aL_qR, aR_qR, nx_mk, kd_mk, ln_mk, fI_mk, fL_mk, fR_mk, aI_mk, aL_mk, aR_mk, false_and, and_false, if_false, if_true, and_self, Int.reduceEq, Nat.reduceEqDiff, ite_self, MLay_pI, MLay_pL, MLay_qI, MLay_qL, ev_X12_isSign, xt_X12_isSign, xf_X12_isSign, hk, hI.lay.eqs]
  try simp (disch := omega) only [wI_id, dv_nn, rm_nn]
  repeat' (first | intro z | apply And.intro)
  all_goals try omega
  · rw [b2i_f (fun q => absurd q.1 (by omega))] at h; exact h
  · rw [b2i_f (fun q => absurd q.2 (by omega))] at h; exact h
  · rw [b2i_t ⟨by omega, by omega⟩] at h; exact h

def sp_X12_fails : Sp := fun av σ Q => oR av fun this av => oI av fun n av => av = [] ∧ kd σ this = 13 ∧ (this = 61 ∧ Q (some (vi 0)) (pI σ 1351 61 (n + 16 * fI σ 1347 61)))
theorem us_X12_fails (this : Int) (n : Int) (σ : Hp) (Q : Option AV → Hp → Prop) : sp_X12_fails [vr this, vi n] σ Q = (kd σ this = 13 ∧ (this = 61 ∧ Q (some (vi 0)) (pI σ 1351 61 (n + 16 * fI σ 1347 61)))) := propext ⟨fun h => h.2, fun h => ⟨rfl, h⟩⟩
theorem el_X12_fails {av : List AV} {σ : Hp} {Q : Option AV → Hp → Prop} (h : sp_X12_fails av σ Q) : ∃ (this : Int) (n : Int), av = [vr this, vi n] ∧ (kd σ this = 13 ∧ (this = 61 ∧ Q (some (vi 0)) (pI σ 1351 61 (n + 16 * fI σ 1347 61)))) := by
  obtain ⟨this, a0, rfl, h0⟩ := oR_s h
  obtain ⟨n, a1, rfl, h1⟩ := oI_s h0
  obtain ⟨rfl, hz⟩ := h1
  exact ⟨this, n, rfl, hz⟩
theorem rc_X12_fails : ∀ (av : List AV) (σ : Hp) (Q : Option AV → Hp → Prop), sp_X12_fails av σ Q → ∃ r tl, av = vr r :: tl ∧ kd σ r = 12 + 1 := fun av σ Q h => by
  obtain ⟨this, n, rfl, hz, -⟩ := el_X12_fails h
  exact ⟨this, _, rfl, hz⟩

def tb_X12_fails : Tab := [(0, .aload_n 0, 1, (0, 0, 0, 0)), (1, .iload_n 1, 1, (0, 0, 0, 0)), (2, .bipush 16, 2, (0, 0, 0, 0)), (4, .aload_n 0, 1, (0, 0, 0, 0)), (5, .getfield 310, 3, (13, 1347, 0, 0)), (8, .imul, 1, (0, 0, 0, 0)), (9, .iadd, 1, (0, 0, 0, 0)), (10, .putfield 330, 3, (13, 1351, 0, 0)), (13, .iconst 0, 1, (0, 0, 0, 0)), (14, .ireturn, 1, (0, 0, 0, 0))]
set_option maxRecDepth 100000 in
theorem tk_X12_fails : TOK RX12 false cX12_fails tb_X12_fails := chkT_ok ft_X12 (by decide +kernel)
def mt_X12_fails : List (Nat × Mt) := []
theorem mk_X12_fails : MOK RX12 mt_X12_fails := fun q hq => by cases hq
noncomputable def xe_X12_fails (ct : Nat → Bool) (K : Kt) (R : Option AV → Hp → Prop) (n : Nat) : Kt := exS 2 1 0 0 2 tb_X12_fails mt_X12_fails ct K R n
noncomputable def xk_X12_fails (ct : Nat → Bool) (K : Kt) (R : Option AV → Hp → Prop) (n : Nat) : Kt := exkS 2 1 0 0 2 tb_X12_fails mt_X12_fails ct K R n
theorem xt_X12_fails {ct : Nat → Bool} {K : Kt} {R : Option AV → Hp → Prop} {n pc : Nat} {ls : List (Option AV)} {st : List AV} {σ : Hp} {k : Nat × Nat} (h : ct pc = true) : xk_X12_fails ct K R n pc ls st σ k = K pc ls st σ k := by unfold xk_X12_fails exkS; rw [h]
theorem xf_X12_fails {ct : Nat → Bool} {K : Kt} {R : Option AV → Hp → Prop} {n pc : Nat} {ls : List (Option AV)} {st : List AV} {σ : Hp} {k : Nat × Nat} (h : ct pc = false) : xk_X12_fails ct K R n pc ls st σ k = xe_X12_fails ct K R n pc ls st σ k := by unfold xk_X12_fails exkS xe_X12_fails; rw [h]
theorem ev_X12_fails {ct : Nat → Bool} {K : Kt} {R : Option AV → Hp → Prop} {n : Nat} {ls : List (Option AV)} {st : List AV} {σ : Hp} {k : Nat × Nat} :
  xe_X12_fails ct K R (n + 1) 0 ls st σ k = (lR ls 0 fun x => xk_X12_fails ct K R n 1 ls (vr x :: st) σ k) ∧
  xe_X12_fails ct K R (n + 1) 1 ls st σ k = (lI ls 1 fun x => xk_X12_fails ct K R n 2 ls (vi x :: st) σ k) ∧
  xe_X12_fails ct K R (n + 1) 2 ls st σ k = (xk_X12_fails ct K R n 4 ls (vi (16) :: st) σ k) ∧
  xe_X12_fails ct K R (n + 1) 4 ls st σ k = (lR ls 0 fun x => xk_X12_fails ct K R n 5 ls (vr x :: st) σ k) ∧
  xe_X12_fails ct K R (n + 1) 5 ls st σ k = (oR st fun x st => kd σ x = 13 ∧ xk_X12_fails ct K R n 8 ls (vi (fI σ 1347 x) :: st) σ k) ∧
  xe_X12_fails ct K R (n + 1) 8 ls st σ k = (oI st fun y st => oI st fun x st => xk_X12_fails ct K R n 9 ls (vi (x * y) :: st) σ k) ∧
  xe_X12_fails ct K R (n + 1) 9 ls st σ k = (oI st fun y st => oI st fun x st => xk_X12_fails ct K R n 10 ls (vi (x + y) :: st) σ k) ∧
  xe_X12_fails ct K R (n + 1) 10 ls st σ k = (oI st fun v st => oR st fun x st => kd σ x = 13 ∧ xk_X12_fails ct K R n 13 ls st (pI σ 1351 x v) k) ∧
  xe_X12_fails ct K R (n + 1) 13 ls st σ k = (xk_X12_fails ct K R n 14 ls (vi (0) :: st) σ k) ∧
  xe_X12_fails ct K R (n + 1) 14 ls st σ k = (oI st fun x st => st = [] ∧ (x = 0 ∨ x = 1) ∧ R (some (vi x)) σ) :=
  ⟨exS_step.trans rfl, exS_step.trans rfl, exS_step.trans rfl, exS_step.trans rfl, exS_step.trans rfl, exS_step.trans rfl, exS_step.trans rfl, exS_step.trans rfl, exS_step.trans rfl, exS_step.trans rfl⟩
def M_X12_fails : Md := (yX12_fails, cX12_fails, 2, (some FieldType.boolean), 1, 0, 0, 2, false, tb_X12_fails, mt_X12_fails)
theorem mm_X12_fails : MMOK M_X12_fails := ⟨by decide +kernel, tk_X12_fails, mk_X12_fails, rfl, fun h => by cases h⟩
theorem go_X12_fails {Q : Option AV → Hp → Prop} {ct : Nat → Bool} {pc : Nat} {ls : List (Option AV)} {st : List AV} {σ : Hp} {k : Nat × Nat} (n : Nat) (h : xe_X12_fails ct (Go M_X12_fails Q) Q n pc ls st σ k) : Go M_X12_fails Q pc ls st σ k := Go.exS mm_X12_fails h

set_option maxRecDepth 20000 in
theorem c_X12_fails : Ct yX12_fails cX12_fails 2 ((some FieldType.boolean)) 1 0 0 sp_X12_fails := by
  refine Ct.go (M := M_X12_fails) mm_X12_fails fun av σ Q h0 => ?_
  obtain ⟨this, n, rfl, hk, h⟩ := el_X12_fails h0
  clear h0
  refine ⟨Nat.le_of_ble_eq_true rfl, ?_⟩
  show Go M_X12_fails Q 0 [some (vr this), some (vi n)] [] σ (0, 0)
  obtain ⟨rfl, h⟩ := h
  refine go_X12_fails (ct := fun p => false) 40 ?_
  simp only [oI, oL, oR, o1, lI, lL, lR, popN, catS, gv, stL, stL2, swt, cnd, spObj, List.getElem?_cons_zero, List.getElem?_cons_succ, List.getD_cons_zero, List.getD_cons_succ, List.set_cons_zero, List.set_cons_succ, List.nil_append, List.cons_append, Option.toList, Bool.or_false, Bool.false_or, Bool.or_true, Bool.true_or, Nat.reduceBEq, Nat.reduceAdd, Nat.reduceLT, Nat.reduceLeDiff, Int.reduceAdd, Int.reduceToNat, true_and, and_true, Fin.isValue, Fin.val_zero, Fin.val_one, Fin.val_two, Fin.reduceFinMk, eq_self, Int.reduceNeg, imp_self, Nat.reduceMul, Nat.le_refl, not_true_eq_false, not_false_eq_true, List.getElem?_nil, reduceCtorEq, true_or, or_true, Classical.not_not, implies_true, or_self, wI_0, wI_1, wI_m1, b2i_w, b2i_eq0, b2i_eq1, b2i_bool, nor_self, nx_pI, kd_pI, ln_pI, fI_pI, fL_pI, fR_pI, aI_pI, aL_pI, aR_pI, nx_pL, kd_pL, ln_pL, fI_pL, fL_pL, fR_pL, aI_pL, aL_pL, aR_pL, nx_pR, kd_pR, ln_pR, fI_pR, fL_pR, fR_pR, aI_pR, aL_pR, aR_pR, nx_qI, kd_qI, ln_qI, fI_qI, fL_qI, fR_qI, aI_qI, aL_qI, aR_qI, nx_qL, kd_qL, ln_qL, fI_qL, fL_qL, fR_qL, aI_qL, aL_qL, aR_qL, nx_qR, kd_qR, ln_qR, fI_qR, fL_qR, fR_qR, aI_qR, aL_qR, aR_qR, nx_mk, kd_mk, ln_mk, fI_mk, fL_mk, fR_mk, aI_mk, aL_mk, aR_mk, false_and, and_false, if_false, if_true, and_self, Int.reduceEq, Nat.reduceEqDiff, ite_self, MLay_pI, MLay_pL, MLay_qI, MLay_qL, ev_X12_fails, xt_X12_fails, xf_X12_fails, hk]
  exact h

def mCode (σ : Hp) (c : Int) : Hp := pI (qI σ 97 (fI σ 1359 61) c) 1359 61 (fI σ 1359 61 + 1)

def sp_X12_code : Sp := fun av σ Q => oR av fun this av => oI av fun c av => av = [] ∧ kd σ this = 13 ∧ (this = 61 ∧ MI σ ∧ fI σ 1359 61 < 2000 ∧ Q none (mCode σ c))
theorem us_X12_code (this : Int) (c : Int) (σ : Hp) (Q : Option AV → Hp → Prop) : sp_X12_code [vr this, vi c] σ Q = (kd σ this = 13 ∧ (this = 61 ∧ MI σ ∧ fI σ 1359 61 < 2000 ∧ Q none (mCode σ c))) := propext ⟨fun h => h.2, fun h => ⟨rfl, h⟩⟩
theorem el_X12_code {av : List AV} {σ : Hp} {Q : Option AV → Hp → Prop} (h : sp_X12_code av σ Q) : ∃ (this : Int) (c : Int), av = [vr this, vi c] ∧ (kd σ this = 13 ∧ (this = 61 ∧ MI σ ∧ fI σ 1359 61 < 2000 ∧ Q none (mCode σ c))) := by
  obtain ⟨this, a0, rfl, h0⟩ := oR_s h
  obtain ⟨c, a1, rfl, h1⟩ := oI_s h0
  obtain ⟨rfl, hz⟩ := h1
  exact ⟨this, c, rfl, hz⟩
theorem rc_X12_code : ∀ (av : List AV) (σ : Hp) (Q : Option AV → Hp → Prop), sp_X12_code av σ Q → ∃ r tl, av = vr r :: tl ∧ kd σ r = 12 + 1 := fun av σ Q h => by
  obtain ⟨this, c, rfl, hz, -⟩ := el_X12_code h
  exact ⟨this, _, rfl, hz⟩

def tb_X12_code : Tab := [(0, .aload_n 0, 1, (0, 0, 0, 0)), (1, .getfield 117, 3, (13, 1358, 2, 0)), (4, .aload_n 0, 1, (0, 0, 0, 0)), (5, .getfield 333, 3, (13, 1359, 0, 0)), (8, .iload_n 1, 1, (0, 0, 0, 0)), (9, .iastore, 1, (0, 0, 0, 0)), (10, .aload_n 0, 1, (0, 0, 0, 0)), (11, .dup, 1, (0, 0, 0, 0)), (12, .getfield 333, 3, (13, 1359, 0, 0)), (15, .iconst 1, 1, (0, 0, 0, 0)), (16, .iadd, 1, (0, 0, 0, 0)), (17, .putfield 333, 3, (13, 1359, 0, 0)), (20, .return_, 1, (0, 0, 0, 0))]
set_option maxRecDepth 100000 in
theorem tk_X12_code : TOK RX12 false cX12_code tb_X12_code := chkT_ok ft_X12 (by decide +kernel)
def mt_X12_code : List (Nat × Mt) := []
theorem mk_X12_code : MOK RX12 mt_X12_code := fun q hq => by cases hq
noncomputable def xe_X12_code (ct : Nat → Bool) (K : Kt) (R : Option AV → Hp → Prop) (n : Nat) : Kt := exS 2 1 0 0 0 tb_X12_code mt_X12_code ct K R n
noncomputable def xk_X12_code (ct : Nat → Bool) (K : Kt) (R : Option AV → Hp → Prop) (n : Nat) : Kt := exkS 2 1 0 0 0 tb_X12_code mt_X12_code ct K R n
theorem xt_X12_code {ct : Nat → Bool} {K : Kt} {R : Option AV → Hp → Prop} {n pc : Nat} {ls : List (Option AV)} {st : List AV} {σ : Hp} {k : Nat × Nat} (h : ct pc = true) : xk_X12_code ct K R n pc ls st σ k = K pc ls st σ k := by unfold xk_X12_code exkS; rw [h]
theorem xf_X12_code {ct : Nat → Bool} {K : Kt} {R : Option AV → Hp → Prop} {n pc : Nat} {ls : List (Option AV)} {st : List AV} {σ : Hp} {k : Nat × Nat} (h : ct pc = false) : xk_X12_code ct K R n pc ls st σ k = xe_X12_code ct K R n pc ls st σ k := by unfold xk_X12_code exkS xe_X12_code; rw [h]
theorem ev_X12_code {ct : Nat → Bool} {K : Kt} {R : Option AV → Hp → Prop} {n : Nat} {ls : List (Option AV)} {st : List AV} {σ : Hp} {k : Nat × Nat} :
  xe_X12_code ct K R (n + 1) 0 ls st σ k = (lR ls 0 fun x => xk_X12_code ct K R n 1 ls (vr x :: st) σ k) ∧
  xe_X12_code ct K R (n + 1) 1 ls st σ k = (oR st fun x st => kd σ x = 13 ∧ xk_X12_code ct K R n 4 ls (vr (fR σ 1358 x) :: st) σ k) ∧
  xe_X12_code ct K R (n + 1) 4 ls st σ k = (lR ls 0 fun x => xk_X12_code ct K R n 5 ls (vr x :: st) σ k) ∧
  xe_X12_code ct K R (n + 1) 5 ls st σ k = (oR st fun x st => kd σ x = 13 ∧ xk_X12_code ct K R n 8 ls (vi (fI σ 1359 x) :: st) σ k) ∧
  xe_X12_code ct K R (n + 1) 8 ls st σ k = (lI ls 1 fun x => xk_X12_code ct K R n 9 ls (vi x :: st) σ k) ∧
  xe_X12_code ct K R (n + 1) 9 ls st σ k = (oI st fun v st => oI st fun j st => oR st fun x st => kd σ x = 101 ∧ (0 ≤ j ∧ j < ln σ x) ∧ xk_X12_code ct K R n 10 ls st (qI σ x j v) k) ∧
  xe_X12_code ct K R (n + 1) 10 ls st σ k = (lR ls 0 fun x => xk_X12_code ct K R n 11 ls (vr x :: st) σ k) ∧
  xe_X12_code ct K R (n + 1) 11 ls st σ k = (o1 st fun v st => xk_X12_code ct K R n 12 ls (v :: v :: st) σ k) ∧
  xe_X12_code ct K R (n + 1) 12 ls st σ k = (oR st fun x st => kd σ x = 13 ∧ xk_X12_code ct K R n 15 ls (vi (fI σ 1359 x) :: st) σ k) ∧
  xe_X12_code ct K R (n + 1) 15 ls st σ k = (xk_X12_code ct K R n 16 ls (vi (1) :: st) σ k) ∧
  xe_X12_code ct K R (n + 1) 16 ls st σ k = (oI st fun y st => oI st fun x st => xk_X12_code ct K R n 17 ls (vi (x + y) :: st) σ k) ∧
  xe_X12_code ct K R (n + 1) 17 ls st σ k = (oI st fun v st => oR st fun x st => kd σ x = 13 ∧ xk_X12_code ct K R n 20 ls st (pI σ 1359 x v) k) ∧
  xe_X12_code ct K R (n + 1) 20 ls st σ k = (st = [] ∧ 0 = 0 ∧ R none σ) :=
  ⟨exS_step.trans rfl, exS_step.trans rfl, exS_step.trans rfl, exS_step.trans rfl, exS_step.trans rfl, exS_step.trans rfl, exS_step.trans rfl, exS_step.trans rfl, exS_step.trans rfl, exS_step.trans rfl, exS_step.trans rfl, exS_step.trans rfl, exS_step.trans rfl⟩
def M_X12_code : Md := (yX12_code, cX12_code, 2, (none : Option FieldType), 1, 0, 0, 0, false, tb_X12_code, mt_X12_code)
theorem mm_X12_code : MMOK M_X12_code := ⟨by decide +kernel, tk_X12_code, mk_X12_code, rfl, fun h => by cases h⟩
theorem go_X12_code {Q : Option AV → Hp → Prop} {ct : Nat → Bool} {pc : Nat} {ls : List (Option AV)} {st : List AV} {σ : Hp} {k : Nat × Nat} (n : Nat) (h : xe_X12_code ct (Go M_X12_code Q) Q n pc ls st σ k) : Go M_X12_code Q pc ls st σ k := Go.exS mm_X12_code h

set_option maxRecDepth 20000 in
theorem c_X12_code : Ct yX12_code cX12_code 2 ((none : Option FieldType)) 1 0 0 sp_X12_code := by
  refine Ct.go (M := M_X12_code) mm_X12_code fun av σ Q h0 => ?_
  obtain ⟨this, c, rfl, hk, h⟩ := el_X12_code h0
  clear h0
  refine ⟨Nat.le_of_ble_eq_true rfl, ?_⟩
  show Go M_X12_code Q 0 [some (vr this), some (vi c)] [] σ (0, 0)
  obtain ⟨rfl, hI, hc, h⟩ := h
  have x1 := hI.code_s
  unfold mCode at h
  refine go_X12_code (ct := fun p => false) 40 ?_
  simp only [oI, oL, oR, o1, lI, lL, lR, popN, catS, gv, stL, stL2, swt, cnd, spObj, List.getElem?_cons_zero, List.getElem?_cons_succ, List.getD_cons_zero, List.getD_cons_succ, List.set_cons_zero, List.set_cons_succ, List.nil_append, List.cons_append, Option.toList, Bool.or_false, Bool.false_or, Bool.or_true, Bool.true_or, Nat.reduceBEq, Nat.reduceAdd, Nat.reduceLT, Nat.reduceLeDiff, Int.reduceAdd, Int.reduceToNat, true_and, and_true, Fin.isValue, Fin.val_zero, Fin.val_one, Fin.val_two, Fin.reduceFinMk, eq_self, Int.reduceNeg, imp_self, Nat.reduceMul, Nat.le_refl, not_true_eq_false, not_false_eq_true, List.getElem?_nil, reduceCtorEq, true_or, or_true, Classical.not_not, implies_true, or_self, wI_0, wI_1, wI_m1, b2i_w, b2i_eq0, b2i_eq1, b2i_bool, nor_self, nx_pI, kd_pI, ln_pI, fI_pI, fL_pI, fR_pI, aI_pI, aL_pI, aR_pI, nx_pL, kd_pL, ln_pL, fI_pL, fL_pL, fR_pL, aI_pL, aL_pL, aR_pL, nx_pR, kd_pR, ln_pR, fI_pR, fL_pR, fR_pR, aI_pR, aL_pR, aR_pR, nx_qI, kd_qI, ln_qI, fI_qI, fL_qI, fR_qI, aI_qI, aL_qI, aR_qI, nx_qL, kd_qL, ln_qL, fI_qL, fL_qL, fR_qL, aI_qL, aL_qL, aR_qL, nx_qR, kd_qR, ln_qR, fI_qR, fL_qR, fR_qR, aI_qR, aL_qR, aR_qR, nx_mk, kd_mk, ln_mk, fI_mk, fL_mk, fR_mk, aI_mk, aL_mk, aR_mk, false_and, and_false, if_false, if_true, and_self, Int.reduceEq, Nat.reduceEqDiff, ite_self, MLay_pI, MLay_pL, MLay_qI, MLay_qL, ev_X12_code, xt_X12_code, xf_X12_code, hk, hI.lay.eqs]
  try simp (disch := omega) only [wI_id, dv_nn, rm_nn]
  repeat' (first | intro z | apply And.intro)
  all_goals try omega

/-- which fact a word names -/
def fctW (w : BitVec 64) : Int := if w = 1887 then 1 else if w = 453928 then 2 else if w = 247552 then 3 else if w = 168984 then 4 else if w = 60114 then 5 else if w = 11522 then 6 else if w = 3217595 then 7 else 0

def sp_X12_fact : Sp := fun av σ Q => oR av fun this av => av = [] ∧ kd σ this = 13 ∧ (this = 61 ∧ MI σ ∧ Q (some (vi (if fI σ 1348 61 = 1 then fctW (fL σ 1349 61) else 0))) σ)
theorem us_X12_fact (this : Int) (σ : Hp) (Q : Option AV → Hp → Prop) : sp_X12_fact [vr this] σ Q = (kd σ this = 13 ∧ (this = 61 ∧ MI σ ∧ Q (some (vi (if fI σ 1348 61 = 1 then fctW (fL σ 1349 61) else 0))) σ)) := propext ⟨fun h => h.2, fun h => ⟨rfl, h⟩⟩
theorem el_X12_fact {av : List AV} {σ : Hp} {Q : Option AV → Hp → Prop} (h : sp_X12_fact av σ Q) : ∃ (this : Int), av = [vr this] ∧ (kd σ this = 13 ∧ (this = 61 ∧ MI σ ∧ Q (some (vi (if fI σ 1348 61 = 1 then fctW (fL σ 1349 61) else 0))) σ)) := by
  obtain ⟨this, a0, rfl, h0⟩ := oR_s h
  obtain ⟨rfl, hz⟩ := h0
  exact ⟨this, rfl, hz⟩
theorem rc_X12_fact : ∀ (av : List AV) (σ : Hp) (Q : Option AV → Hp → Prop), sp_X12_fact av σ Q → ∃ r tl, av = vr r :: tl ∧ kd σ r = 12 + 1 := fun av σ Q h => by
  obtain ⟨this, rfl, hz, -⟩ := el_X12_fact h
  exact ⟨this, _, rfl, hz⟩

def tb_X12_fact : Tab := [(0, .aload_n 0, 1, (0, 0, 0, 0)), (1, .getfield 320, 3, (13, 1348, 0, 0)), (4, .iconst 1, 1, (0, 0, 0, 0)), (5, .if_icmp .eq 5, 3, (0, 0, 0, 0)), (8, .iconst 0, 1, (0, 0, 0, 0)), (9, .ireturn, 1, (0, 0, 0, 0)), (10, .aload_n 0, 1, (0, 0, 0, 0)), (11, .getfield 313, 3, (13, 1349, 1, 0)), (14, .ldc2_w 336, 3, (1, 0, 0, 1887)), (17, .lcmp, 1, (0, 0, 0, 0)), (18, .ifCond .ne 7, 3, (0, 0, 0, 0)), (21, .iconst 1, 1, (0, 0, 0, 0)), (22, .goto 96, 3, (0, 0, 0, 0)), (25, .aload_n 0, 1, (0, 0, 0, 0)), (26, .getfield 313, 3, (13, 1349, 1, 0)), (29, .ldc2_w 338, 3, (1, 0, 0, 453928)), (32, .lcmp, 1, (0, 0, 0, 0)), (33, .ifCond .ne 7, 3, (0, 0, 0, 0)), (36, .iconst 2, 1, (0, 0, 0, 0)), (37, .goto 81, 3, (0, 0, 0, 0)), (40, .aload_n 0, 1, (0, 0, 0, 0)), (41, .getfield 313, 3, (13, 1349, 1, 0)), (44, .ldc2_w 340, 3, (1, 0, 0, 247552)), (47, .lcmp, 1, (0, 0, 0, 0)), (48, .ifCond .ne 7, 3, (0, 0, 0, 0)), (51, .iconst 3, 1, (0, 0, 0, 0)), (52, .goto 66, 3, (0, 0, 0, 0)), (55, .aload_n 0, 1, (0, 0, 0, 0)), (56, .getfield 313, 3, (13, 1349, 1, 0)), (59, .ldc2_w 342, 3, (1, 0, 0, 168984)), (62, .lcmp, 1, (0, 0, 0, 0)), (63, .ifCond .ne 7, 3, (0, 0, 0, 0)), (66, .iconst 4, 1, (0, 0, 0, 0)), (67, .goto 51, 3, (0, 0, 0, 0)), (70, .aload_n 0, 1, (0, 0, 0, 0)), (71, .getfield 313, 3, (13, 1349, 1, 0)), (74, .ldc2_w 344, 3, (1, 0, 0, 60114)), (77, .lcmp, 1, (0, 0, 0, 0)), (78, .ifCond .ne 7, 3, (0, 0, 0, 0)), (81, .iconst 5, 1, (0, 0, 0, 0)), (82, .goto 36, 3, (0, 0, 0, 0)), (85, .aload_n 0, 1, (0, 0, 0, 0)), (86, .getfield 313, 3, (13, 1349, 1, 0)), (89, .ldc2_w 346, 3, (1, 0, 0, 11522)), (92, .lcmp, 1, (0, 0, 0, 0)), (93, .ifCond .ne 8, 3, (0, 0, 0, 0)), (96, .bipush 6, 2, (0, 0, 0, 0)), (98, .goto 20, 3, (0, 0, 0, 0)), (101, .aload_n 0, 1, (0, 0, 0, 0)), (102, .getfield 313, 3, (13, 1349, 1, 0)), (105, .ldc2_w 348, 3, (1, 0, 0, 3217595)), (108, .lcmp, 1, (0, 0, 0, 0)), (109, .ifCond .ne 8, 3, (0, 0, 0, 0)), (112, .bipush 7, 2, (0, 0, 0, 0)), (114, .goto 4, 3, (0, 0, 0, 0)), (117, .iconst 0, 1, (0, 0, 0, 0)), (118, .ireturn, 1, (0, 0, 0, 0))]
set_option maxRecDepth 100000 in
theorem tk_X12_fact : TOK RX12 false cX12_fact tb_X12_fact := chkT_ok ft_X12 (by decide +kernel)
def mt_X12_fact : List (Nat × Mt) := []
theorem mk_X12_fact : MOK RX12 mt_X12_fact := fun q hq => by cases hq
noncomputable def xe_X12_fact (ct : Nat → Bool) (K : Kt) (R : Option AV → Hp → Prop) (n : Nat) : Kt := exS 1 1 0 0 1 tb_X12_fact mt_X12_fact ct K R n
noncomputable def xk_X12_fact (ct : Nat → Bool) (K : Kt) (R : Option AV → Hp → Prop) (n : Nat) : Kt := exkS 1 1 0 0 1 tb_X12_fact mt_X12_fact ct K R n
theorem xt_X12_fact {ct : Nat → Bool} {K : Kt} {R : Option AV → Hp → Prop} {n pc : Nat} {ls : List (Option AV)} {st : List AV} {σ : Hp} {k : Nat × Nat} (h : ct pc = true) : xk_X12_fact ct K R n pc ls st σ k = K pc ls st σ k := by unfold xk_X12_fact exkS; rw [h]
theorem xf_X12_fact {ct : Nat → Bool} {K : Kt} {R : Option AV → Hp → Prop} {n pc : Nat} {ls : List (Option AV)} {st : List AV} {σ : Hp} {k : Nat × Nat} (h : ct pc = false) : xk_X12_fact ct K R n pc ls st σ k = xe_X12_fact ct K R n pc ls st σ k := by unfold xk_X12_fact exkS xe_X12_fact; rw [h]
theorem ev_X12_fact {ct : Nat → Bool} {K : Kt} {R : Option AV → Hp → Prop} {n : Nat} {ls : List (Option AV)} {st : List AV} {σ : Hp} {k : Nat × Nat} :
  xe_X12_fact ct K R (n + 1) 0 ls st σ k = (lR ls 0 fun x => xk_X12_fact ct K R n 1 ls (vr x :: st) σ k) ∧
  xe_X12_fact ct K R (n + 1) 1 ls st σ k = (oR st fun x st => kd σ x = 13 ∧ xk_X12_fact ct K R n 4 ls (vi (fI σ 1348 x) :: st) σ k) ∧
  xe_X12_fact ct K R (n + 1) 4 ls st σ k = (xk_X12_fact ct K R n 5 ls (vi (1) :: st) σ k) ∧
  xe_X12_fact ct K R (n + 1) 5 ls st σ k = (oI st fun y st => oI st fun x st => (wI x = wI y → xk_X12_fact ct K R n 10 ls st σ k) ∧ (¬ (wI x = wI y) → xk_X12_fact ct K R n 8 ls st σ k)) ∧
  xe_X12_fact ct K R (n + 1) 8 ls st σ k = (xk_X12_fact ct K R n 9 ls (vi (0) :: st) σ k) ∧
  xe_X12_fact ct K R (n + 1) 9 ls st σ k = (oI st fun x st => st = [] ∧ True ∧ R (some (vi x)) σ) ∧
  xe_X12_fact ct K R (n + 1) 10 ls st σ k = (lR ls 0 fun x => xk_X12_fact ct K R n 11 ls (vr x :: st) σ k) ∧
  xe_X12_fact ct K R (n + 1) 11 ls st σ k = (oR st fun x st => kd σ x = 13 ∧ xk_X12_fact ct K R n 14 ls (vl (fL σ 1349 x) :: st) σ k) ∧
  xe_X12_fact ct K R (n + 1) 14 ls st σ k = (xk_X12_fact ct K R n 17 ls (vl (BitVec.ofInt 64 (1887)) :: st) σ k) ∧
  xe_X12_fact ct K R (n + 1) 17 ls st σ k = (oL st fun y st => oL st fun x st => xk_X12_fact ct K R n 18 ls (vi (cmL x y) :: st) σ k) ∧
  xe_X12_fact ct K R (n + 1) 18 ls st σ k = (oI st fun x st => (¬ wI x = wI 0 → xk_X12_fact ct K R n 25 ls st σ k) ∧ (¬ (¬ wI x = wI 0) → xk_X12_fact ct K R n 21 ls st σ k)) ∧
  xe_X12_fact ct K R (n + 1) 21 ls st σ k = (xk_X12_fact ct K R n 22 ls (vi (1) :: st) σ k) ∧
  xe_X12_fact ct K R (n + 1) 22 ls st σ k = (xk_X12_fact ct K R n 118 ls st σ k) ∧
  xe_X12_fact ct K R (n + 1) 25 ls st σ k = (lR ls 0 fun x => xk_X12_fact ct K R n 26 ls (vr x :: st) σ k) ∧
  xe_X12_fact ct K R (n + 1) 26 ls st σ k = (oR st fun x st => kd σ x = 13 ∧ xk_X12_fact ct K R n 29 ls (vl (fL σ 1349 x) :: st) σ k) ∧
  xe_X12_fact ct K R (n + 1) 29 ls st σ k = (xk_X12_fact ct K R n 32 ls (vl (BitVec.ofInt 64 (453928)) :: st) σ k) ∧
  xe_X12_fact ct K R (n + 1) 32 ls st σ k = (oL st fun y st => oL st fun x st => xk_X12_fact ct K R n 33 ls (vi (cmL x y) :: st) σ k) ∧
  xe_X12_fact ct K R (n + 1) 33 ls st σ k = (oI st fun x st => (¬ wI x = wI 0 → xk_X12_fact ct K R n 40 ls st σ k) ∧ (¬ (¬ wI x = wI 0) → xk_X12_fact ct K R n 36 ls st σ k)) ∧
  xe_X12_fact ct K R (n + 1) 36 ls st σ k = (xk_X12_fact ct K R n 37 ls (vi (2) :: st) σ k) ∧
  xe_X12_fact ct K R (n + 1) 37 ls st σ k = (xk_X12_fact ct K R n 118 ls st σ k) ∧
  xe_X12_fact ct K R (n + 1) 40 ls st σ k = (lR ls 0 fun x => xk_X12_fact ct K R n 41 ls (vr x :: st) σ k) ∧
  xe_X12_fact ct K R (n + 1) 41 ls st σ k = (oR st fun x st => kd σ x = 13 ∧ xk_X12_fact ct K R n 44 ls (vl (fL σ 1349 x) :: st) σ k) ∧
  xe_X12_fact ct K R (n + 1) 44 ls st σ k = (xk_X12_fact ct K R n 47 ls (vl (BitVec.ofInt 64 (247552)) :: st) σ k) ∧
  xe_X12_fact ct K R (n + 1) 47 ls st σ k = (oL st fun y st => oL st fun x st => xk_X12_fact ct K R n 48 ls (vi (cmL x y) :: st) σ k) ∧
  xe_X12_fact ct K R (n + 1) 48 ls st σ k = (oI st fun x st => (¬ wI x = wI 0 → xk_X12_fact ct K R n 55 ls st σ k) ∧ (¬ (¬ wI x = wI 0) → xk_X12_fact ct K R n 51 ls st σ k)) ∧
  xe_X12_fact ct K R (n + 1) 51 ls st σ k = (xk_X12_fact ct K R n 52 ls (vi (3) :: st) σ k) ∧
  xe_X12_fact ct K R (n + 1) 52 ls st σ k = (xk_X12_fact ct K R n 118 ls st σ k) ∧
  xe_X12_fact ct K R (n + 1) 55 ls st σ k = (lR ls 0 fun x => xk_X12_fact ct K R n 56 ls (vr x :: st) σ k) ∧
  xe_X12_fact ct K R (n + 1) 56 ls st σ k = (oR st fun x st => kd σ x = 13 ∧ xk_X12_fact ct K R n 59 ls (vl (fL σ 1349 x) :: st) σ k) ∧
  xe_X12_fact ct K R (n + 1) 59 ls st σ k = (xk_X12_fact ct K R n 62 ls (vl (BitVec.ofInt 64 (168984)) :: st) σ k) ∧
  xe_X12_fact ct K R (n + 1) 62 ls st σ k = (oL st fun y st => oL st fun x st => xk_X12_fact ct K R n 63 ls (vi (cmL x y) :: st) σ k) ∧
  xe_X12_fact ct K R (n + 1) 63 ls st σ k = (oI st fun x st => (¬ wI x = wI 0 → xk_X12_fact ct K R n 70 ls st σ k) ∧ (¬ (¬ wI x = wI 0) → xk_X12_fact ct K R n 66 ls st σ k)) ∧
  xe_X12_fact ct K R (n + 1) 66 ls st σ k = (xk_X12_fact ct K R n 67 ls (vi (4) :: st) σ k) ∧
  xe_X12_fact ct K R (n + 1) 67 ls st σ k = (xk_X12_fact ct K R n 118 ls st σ k) ∧
  xe_X12_fact ct K R (n + 1) 70 ls st σ k = (lR ls 0 fun x => xk_X12_fact ct K R n 71 ls (vr x :: st) σ k) ∧
  xe_X12_fact ct K R (n + 1) 71 ls st σ k = (oR st fun x st => kd σ x = 13 ∧ xk_X12_fact ct K R n 74 ls (vl (fL σ 1349 x) :: st) σ k) ∧
  xe_X12_fact ct K R (n + 1) 74 ls st σ k = (xk_X12_fact ct K R n 77 ls (vl (BitVec.ofInt 64 (60114)) :: st) σ k) ∧
  xe_X12_fact ct K R (n + 1) 77 ls st σ k = (oL st fun y st => oL st fun x st => xk_X12_fact ct K R n 78 ls (vi (cmL x y) :: st) σ k) ∧
  xe_X12_fact ct K R (n + 1) 78 ls st σ k = (oI st fun x st => (¬ wI x = wI 0 → xk_X12_fact ct K R n 85 ls st σ k) ∧ (¬ (¬ wI x = wI 0) → xk_X12_fact ct K R n 81 ls st σ k)) ∧
  xe_X12_fact ct K R (n + 1) 81 ls st σ k = (xk_X12_fact ct K R n 82 ls (vi (5) :: st) σ k) ∧
  xe_X12_fact ct K R (n + 1) 82 ls st σ k = (xk_X12_fact ct K R n 118 ls st σ k) ∧
  xe_X12_fact ct K R (n + 1) 85 ls st σ k = (lR ls 0 fun x => xk_X12_fact ct K R n 86 ls (vr x :: st) σ k) ∧
  xe_X12_fact ct K R (n + 1) 86 ls st σ k = (oR st fun x st => kd σ x = 13 ∧ xk_X12_fact ct K R n 89 ls (vl (fL σ 1349 x) :: st) σ k) ∧
  xe_X12_fact ct K R (n + 1) 89 ls st σ k = (xk_X12_fact ct K R n 92 ls (vl (BitVec.ofInt 64 (11522)) :: st) σ k) ∧
  xe_X12_fact ct K R (n + 1) 92 ls st σ k = (oL st fun y st => oL st fun x st => xk_X12_fact ct K R n 93 ls (vi (cmL x y) :: st) σ k) ∧
  xe_X12_fact ct K R (n + 1) 93 ls st σ k = (oI st fun x st => (¬ wI x = wI 0 → xk_X12_fact ct K R n 101 ls st σ k) ∧ (¬ (¬ wI x = wI 0) → xk_X12_fact ct K R n 96 ls st σ k)) ∧
  xe_X12_fact ct K R (n + 1) 96 ls st σ k = (xk_X12_fact ct K R n 98 ls (vi (6) :: st) σ k) ∧
  xe_X12_fact ct K R (n + 1) 98 ls st σ k = (xk_X12_fact ct K R n 118 ls st σ k) ∧
  xe_X12_fact ct K R (n + 1) 101 ls st σ k = (lR ls 0 fun x => xk_X12_fact ct K R n 102 ls (vr x :: st) σ k) ∧
  xe_X12_fact ct K R (n + 1) 102 ls st σ k = (oR st fun x st => kd σ x = 13 ∧ xk_X12_fact ct K R n 105 ls (vl (fL σ 1349 x) :: st) σ k) ∧
  xe_X12_fact ct K R (n + 1) 105 ls st σ k = (xk_X12_fact ct K R n 108 ls (vl (BitVec.ofInt 64 (3217595)) :: st) σ k) ∧
  xe_X12_fact ct K R (n + 1) 108 ls st σ k = (oL st fun y st => oL st fun x st => xk_X12_fact ct K R n 109 ls (vi (cmL x y) :: st) σ k) ∧
  xe_X12_fact ct K R (n + 1) 109 ls st σ k = (oI st fun x st => (¬ wI x = wI 0 → xk_X12_fact ct K R n 117 ls st σ k) ∧ (¬ (¬ wI x = wI 0) → xk_X12_fact ct K R n 112 ls st σ k)) ∧
  xe_X12_fact ct K R (n + 1) 112 ls st σ k = (xk_X12_fact ct K R n 114 ls (vi (7) :: st) σ k) ∧
  xe_X12_fact ct K R (n + 1) 114 ls st σ k = (xk_X12_fact ct K R n 118 ls st σ k) ∧
  xe_X12_fact ct K R (n + 1) 117 ls st σ k = (xk_X12_fact ct K R n 118 ls (vi (0) :: st) σ k) ∧
  xe_X12_fact ct K R (n + 1) 118 ls st σ k = (oI st fun x st => st = [] ∧ True ∧ R (some (vi x)) σ) :=
  ⟨exS_step.trans rfl, exS_step.trans rfl, exS_step.trans rfl, exS_step.trans rfl, exS_step.trans rfl, exS_step.trans rfl, exS_step.trans rfl, exS_step.trans rfl, exS_step.trans rfl, exS_step.trans rfl, exS_step.trans rfl, exS_step.trans rfl, exS_step.trans rfl, exS_step.trans rfl, exS_step.trans rfl, exS_step.trans rfl, exS_step.trans rfl, exS_step.trans rfl, exS_step.trans rfl, exS_step.trans rfl, exS_step.trans rfl, exS_step.trans rfl, exS_step.trans rfl, exS_step.trans rfl, exS_step.trans rfl, exS_step.trans rfl, exS_step.trans rfl, exS_step.trans rfl, exS_step.trans rfl, exS_step.trans rfl, exS_step.trans rfl, exS_step.trans rfl, exS_step.trans rfl, exS_step.trans rfl, exS_step.trans rfl, exS_step.trans rfl, exS_step.trans rfl, exS_step.trans rfl, exS_step.trans rfl, exS_step.trans rfl, exS_step.trans rfl, exS_step.trans rfl, exS_step.trans rfl, exS_step.trans rfl, exS_step.trans rfl, exS_step.trans rfl, exS_step.trans rfl, exS_step.trans rfl, exS_step.trans rfl, exS_step.trans rfl, exS_step.trans rfl, exS_step.trans rfl, exS_step.trans rfl, exS_step.trans rfl, exS_step.trans rfl, exS_step.trans rfl, exS_step.trans rfl⟩
def M_X12_fact : Md := (yX12_fact, cX12_fact, 1, (some FieldType.int), 1, 0, 0, 1, false, tb_X12_fact, mt_X12_fact)
theorem mm_X12_fact : MMOK M_X12_fact := ⟨by decide +kernel, tk_X12_fact, mk_X12_fact, rfl, fun h => by cases h⟩
theorem go_X12_fact {Q : Option AV → Hp → Prop} {ct : Nat → Bool} {pc : Nat} {ls : List (Option AV)} {st : List AV} {σ : Hp} {k : Nat × Nat} (n : Nat) (h : xe_X12_fact ct (Go M_X12_fact Q) Q n pc ls st σ k) : Go M_X12_fact Q pc ls st σ k := Go.exS mm_X12_fact h

set_option maxRecDepth 20000 in
theorem c_X12_fact : Ct yX12_fact cX12_fact 1 ((some FieldType.int)) 1 0 0 sp_X12_fact := by
  refine Ct.go (M := M_X12_fact) mm_X12_fact fun av σ Q h0 => ?_
  obtain ⟨this, rfl, hk, h⟩ := el_X12_fact h0
  clear h0
  refine ⟨Nat.le_of_ble_eq_true rfl, ?_⟩
  show Go M_X12_fact Q 0 [some (vr this)] [] σ (0, 0)
  obtain ⟨rfl, hI, h⟩ := h
  have x1 := hI.token_s
  have ec : ∀ x y : BitVec 64, wI (cmL x y) = 0 ↔ x = y := by
    intro x y
    unfold cmL
    by_cases e1 : y.slt x = true
    · rw [if_pos e1]
      refine ⟨fun z => absurd z (by decide), fun z => ?_⟩
      subst z
      rw [BitVec.slt_eq_decide] at e1
      simp at e1
    · rw [if_neg e1]
      by_cases e2 : x = y
      · rw [if_pos e2]; exact ⟨fun _ => e2, fun _ => rfl⟩
      · rw [if_neg e2]; exact ⟨fun z => absurd z (by decide), fun z => absurd z e2⟩
  have e1 : BitVec.ofInt 64 1887 = 1887#64 := by decide
  have e2 : BitVec.ofInt 64 453928 = 453928#64 := by decide
  have e3 : BitVec.ofInt 64 247552 = 247552#64 := by decide
  have e4 : BitVec.ofInt 64 168984 = 168984#64 := by decide
  have e5 : BitVec.ofInt 64 60114 = 60114#64 := by decide
  have e6 : BitVec.ofInt 64 11522 = 11522#64 := by decide
  have e7 : BitVec.ofInt 64 3217595 = 3217595#64 := by decide
  unfold fctW at h
  refine go_X12_fact (ct := fun p => false) 60 ?_
  simp only [oI, oL, oR, o1, lI, lL, lR, popN, catS, gv, stL, stL2, swt, cnd, spObj, List.getElem?_cons_zero, List.getElem?_cons_succ, List.getD_cons_zero, List.getD_cons_succ, List.set_cons_zero, List.set_cons_succ, List.nil_append, List.cons_append, Option.toList, Bool.or_false, Bool.false_or, Bool.or_true, Bool.true_or, Nat.reduceBEq, Nat.reduceAdd, Nat.reduceLT, Nat.reduceLeDiff, Int.reduceAdd, Int.reduceToNat, true_and, and_true, Fin.isValue, Fin.val_zero, Fin.val_one, Fin.val_two, Fin.reduceFinMk, eq_self, Int.reduceNeg, imp_self, Nat.reduceMul, Nat.le_refl, not_true_eq_false, not_false_eq_true, List.getElem?_nil, reduceCtorEq, true_or, or_true, Classical.not_not, implies_true, or_self, wI_0, wI_1, wI_m1, b2i_w, b2i_eq0, b2i_eq1, b2i_bool, nor_self, nx_pI, kd_pI, ln_pI, fI_pI, fL_pI, fR_pI, aI_pI, aL_pI, aR_pI, nx_pL, kd_pL, ln_pL, fI_pL, fL_pL, fR_pL, aI_pL, aL_pL, aR_pL, nx_pR, kd_pR, ln_pR, fI_pR, fL_pR, fR_pR, aI_pR, aL_pR, aR_pR, nx_qI, kd_qI, ln_qI, fI_qI, fL_qI, fR_qI, aI_qI, aL_qI, aR_qI, nx_qL, kd_qL, ln_qL, fI_qL, fL_qL, fR_qL, aI_qL, aL_qL, aR_qL, nx_qR, kd_qR, ln_qR, fI_qR, fL_qR, fR_qR, aI_qR, aL_qR, aR_qR, nx_mk, kd_mk, ln_mk, fI_mk, fL_mk, fR_mk, aI_mk, aL_mk, aR_mk, false_and, and_false, if_false, if_true, and_self, Int.reduceEq, Nat.reduceEqDiff, ite_self, MLay_pI, MLay_pL, MLay_qI, MLay_qL, ev_X12_fact, xt_X12_fact, xf_X12_fact, hk, hI.lay.eqs, ec, e1, e2, e3, e4, e5, e6, e7]
  try simp (disch := omega) only [wI_id, dv_nn, rm_nn]
  repeat' (first | intro z | apply And.intro)
  all_goals try omega
  all_goals grind
