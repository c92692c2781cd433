/-! one instruction each, over the picture -/
theorem c32_i8 {n : Int} (h : -128 ≤ n) (h2 : n < 128) : (Int8.ofInt n).toInt32 = c32 n := by
  apply Int32.toInt_inj.mp
  rw [c32_toInt, Int8.toInt_toInt32, Int8.toInt_ofInt, wI_id (by omega) (by omega)]
  show Int.bmod n 256 = _
  rw [Int.bmod_def]
  split <;> omega
theorem c32_i16 {n : Int} (h : -32768 ≤ n) (h2 : n < 32768) : (Int16.ofInt n).toInt32 = c32 n := by
  apply Int32.toInt_inj.mp
  rw [c32_toInt, Int16.toInt_toInt32, Int16.toInt_ofInt, wI_id (by omega) (by omega)]
  show Int.bmod n 65536 = _
  rw [Int.bmod_def]
  split <;> omega
def shlI (x s : Int) : Int := x * 2 ^ (s % 32).toNat
def shrI (x s : Int) : Int := wI x / 2 ^ (s % 32).toNat
def ushI (x s : Int) : Int := (x % 4294967296) / 2 ^ (s % 32).toNat
def dvI (x y : Int) : Int := (wI x).tdiv (wI y)
def rmI (x y : Int) : Int := (wI x).tmod (wI y)
def cmL (x y : BitVec 64) : Int := if y.slt x = true then 1 else if x = y then 0 else -1
theorem tB_nat (s : Int) : (tB s).toNat = (s % 4294967296).toNat := by
  unfold tB
  rw [BitVec.toNat_ofInt]
  rfl
theorem sh31 (s : Int) : (c32 s &&& 31).toBitVec.toNat = (s % 32).toNat := by
  show (tB s &&& 31#32).toNat = _
  rw [BitVec.toNat_and, tB_nat]
  show (s % 4294967296).toNat &&& (2 ^ 5 - 1) = _
  rw [Nat.and_two_pow_sub_one_eq_mod]
  omega
theorem sh31s (s : Int) : ((c32 s &&& 31).toBitVec.smod 32).toNat = (s % 32).toNat := by
  have h := sh31 s
  generalize (c32 s &&& 31).toBitVec = b at h
  have hb : b.toNat < 32 := by omega
  have : b.smod 32#32 = b := by
    apply BitVec.eq_of_toInt_eq
    rw [BitVec.toInt_smod]
    have e1 : b.toInt = b.toNat := by rw [BitVec.toInt_eq_toNat_cond]; omega
    rw [e1]
    show Int.fmod (b.toNat : Int) 32 = _
    rw [Int.fmod_eq_emod_of_nonneg _ (by omega)]
    omega
  show (b.smod 32#32).toNat = _
  rw [this, h]
theorem c32_shl (x s : Int) : c32 x <<< (c32 s &&& 31) = c32 (shlI x s) := by
  have h := pk_shl (c32 x) (c32 s &&& 31) (s % 32).toNat (sh31s s)
  apply Int32.toBitVec_inj.mp
  apply BitVec.eq_of_toNat_eq
  rw [h]
  show (tB x).toNat * _ % _ = (tB (shlI x s)).toNat
  rw [tB_nat, tB_nat]
  unfold shlI
  apply Int.ofNat.inj
  show ((((x % 4294967296).toNat * 2 ^ (s % 32).toNat % 2 ^ 32 : Nat)) : Int) = ((x * 2 ^ (s % 32).toNat % 4294967296).toNat : Int)
  rw [Int.toNat_of_nonneg (Int.emod_nonneg _ (by omega))]
  rw [Int.natCast_emod, Int.natCast_mul, Int.toNat_of_nonneg (Int.emod_nonneg _ (by omega))]
  rw [Int.natCast_pow]
  show x % 4294967296 * 2 ^ (s % 32).toNat % 4294967296 = _
  rw [Int.mul_emod, Int.emod_emod, ← Int.mul_emod]
theorem c32_shr (x s : Int) : c32 x >>> (c32 s &&& 31) = c32 (shrI x s) := by
  have h := pk_shr (c32 x) (c32 s &&& 31) (s % 32).toNat (sh31s s)
  apply Int32.toInt_inj.mp
  rw [h, c32_toInt, c32_toInt]
  unfold shrI
  rw [Int.shiftRight_eq_div_pow]
  have h1 : -2147483648 ≤ wI x ∧ wI x < 2147483648 := by unfold wI; omega
  generalize wI x = y at h1
  have hp : (0:Int) < ((2 ^ (s % 32).toNat : Nat) : Int) := by
    have := Nat.two_pow_pos (s % 32).toNat
    omega
  rw [show ((2 : Int) ^ (s % 32).toNat) = ((2 ^ (s % 32).toNat : Nat) : Int) by rw [Int.natCast_pow]; rfl]
  generalize ((2 ^ (s % 32).toNat : Nat) : Int) = d at hp
  rw [wI_id]
  · have := Int.le_ediv_of_mul_le hp (a := -2147483648) (b := y) (by omega)
    omega
  · have := Int.ediv_lt_of_lt_mul hp (a := y) (b := 2147483648) (by omega)
    omega
theorem c32_ushr (x s : Int) : ((c32 x).toUInt32 >>> ((c32 s).toUInt32 &&& Int32.toUInt32 31)).toInt32 = c32 (ushI x s) := by
  have hk : (((c32 s).toUInt32 &&& Int32.toUInt32 31).toBitVec % 32).toNat = (s % 32).toNat := by
    have h := sh31 s
    have e : ((c32 s).toUInt32 &&& Int32.toUInt32 31).toBitVec = (c32 s &&& 31).toBitVec := rfl
    rw [e, BitVec.toNat_umod, h]
    show (s % 32).toNat % 32 = _
    omega
  have h := pk_ushr (c32 x) (c32 s) (s % 32).toNat hk
  apply Int32.toBitVec_inj.mp
  apply BitVec.eq_of_toNat_eq
  rw [h]
  show (tB x).toNat / _ = (tB (ushI x s)).toNat
  rw [tB_nat, tB_nat]
  unfold ushI
  have h1 : 0 ≤ x % 4294967296 ∧ x % 4294967296 < 4294967296 := ⟨Int.emod_nonneg _ (by omega), Int.emod_lt_of_pos _ (by omega)⟩
  generalize x % 4294967296 = y at h1
  have hp : (0:Int) < ((2 ^ (s % 32).toNat : Nat) : Int) := by
    have := Nat.two_pow_pos (s % 32).toNat
    omega
  rw [show ((2 : Int) ^ (s % 32).toNat) = ((2 ^ (s % 32).toNat : Nat) : Int) by rw [Int.natCast_pow]; rfl]
  generalize (2 ^ (s % 32).toNat : Nat) = d at hp
  have a1 : 0 ≤ y / (d : Int) := Int.ediv_nonneg h1.1 (by omega)
  have a2 : y / (d : Int) < 4294967296 := Int.ediv_lt_of_lt_mul hp (by omega)
  rw [Int.emod_eq_of_lt a1 a2]
  apply Int.ofNat.inj
  show ((y.toNat / d : Nat) : Int) = ((y / (d : Int)).toNat : Int)
  rw [Int.toNat_of_nonneg a1, Int.natCast_ediv, Int.toNat_of_nonneg h1.1]
theorem c32_div (x y : Int) (h : ¬ wI y = 0) : c32 x / c32 y = c32 (dvI x y) := by
  apply Int32.toInt_inj.mp
  rw [Int32.toInt_div, c32_toInt, c32_toInt, c32_toInt]
  unfold dvI
  show Int.bmod _ 4294967296 = _
  rw [Int.bmod_def]
  unfold wI
  split <;> omega
theorem c32_rem (x y : Int) (h : ¬ wI y = 0) : c32 x - c32 x / c32 y * c32 y = c32 (rmI x y) := by
  rw [c32_div x y h, c32_mul, c32_sub]
  apply c32_congr
  unfold rmI dvI
  have h1 := Int.mul_tdiv_add_tmod (wI x) (wI y)
  have hx : (wI x) % 4294967296 = x % 4294967296 := by unfold wI; omega
  have hy : (wI y) % 4294967296 = y % 4294967296 := by unfold wI; omega
  generalize (wI x).tdiv (wI y) = d at h1 ⊢
  generalize (wI x).tmod (wI y) = r at h1 ⊢
  have e : (d * y) % 4294967296 = (wI y * d) % 4294967296 := by
    rw [Int.mul_emod, ← hy, ← Int.mul_emod, Int.mul_comm]
  omega
theorem c32_i2c (x : Int) : ((c32 x).toUInt32 % 65536).toInt32 = c32 (x % 65536) := by
  rw [pk_char]
  apply Int32.toInt_inj.mp
  rw [nI_toInt (by omega), c32_toInt, wI_id (by omega) (by omega)]
  show (((tB x).toNat % 65536 : Nat) : Int) = _
  rw [tB_nat]
  omega
theorem c64_i2l (x : Int) : (c32 x).toInt64 = c64 (BitVec.ofInt 64 (wI x)) := by
  apply Int64.toInt_inj.mp
  rw [Int32.toInt_toInt64, c32_toInt]
  show _ = (BitVec.ofInt 64 (wI x)).toInt
  rw [BitVec.toInt_ofInt]
  show _ = Int.bmod _ 18446744073709551616
  rw [Int.bmod_def]
  unfold wI
  split <;> omega
theorem c64_l2i (x : BitVec 64) : (c64 x).toInt32 = c32 x.toInt := by
  apply Int32.toInt_inj.mp
  rw [Int64.toInt_toInt32, c32_toInt]
  show Int.bmod x.toInt 4294967296 = _
  rw [Int.bmod_def]
  unfold wI
  split <;> omega
theorem c64_add (x y : BitVec 64) : c64 x + c64 y = c64 (x + y) := rfl
theorem c64_sub (x y : BitVec 64) : c64 x - c64 y = c64 (x - y) := rfl
theorem c64_mul (x y : BitVec 64) : c64 x * c64 y = c64 (x * y) := rfl
theorem c64_neg (x : BitVec 64) : - c64 x = c64 (- x) := rfl
theorem c64_and (x y : BitVec 64) : c64 x &&& c64 y = c64 (x &&& y) := rfl
theorem c64_or (x y : BitVec 64) : c64 x ||| c64 y = c64 (x ||| y) := rfl
theorem c64_xor (x y : BitVec 64) : c64 x ^^^ c64 y = c64 (x ^^^ y) := rfl
theorem sh63 (s : Int) : ((c32 s).toInt64 &&& 63).toBitVec.toNat = (s % 64).toNat := by
  rw [c64_i2l]
  show (BitVec.ofInt 64 (wI s) &&& 63#64).toNat = _
  rw [BitVec.toNat_and, BitVec.toNat_ofInt]
  show (wI s % 18446744073709551616).toNat &&& (2 ^ 6 - 1) = _
  rw [Nat.and_two_pow_sub_one_eq_mod]
  unfold wI
  omega
theorem c64_shl (x : BitVec 64) (s : Int) : c64 x <<< ((c32 s).toInt64 &&& 63) = c64 (x <<< (s % 64).toNat) := by
  have h := sh63 s
  generalize ((c32 s).toInt64 &&& 63) = b at h
  apply Int64.toBitVec_inj.mp
  show x <<< (b.toBitVec.smod 64) = x <<< (s % 64).toNat
  have hb : b.toBitVec.toNat < 64 := by omega
  have : b.toBitVec.smod 64#64 = b.toBitVec := by
    apply BitVec.eq_of_toInt_eq
    rw [BitVec.toInt_smod]
    have e1 : b.toBitVec.toInt = b.toBitVec.toNat := by rw [BitVec.toInt_eq_toNat_cond]; omega
    rw [e1]
    show Int.fmod (b.toBitVec.toNat : Int) 64 = _
    rw [Int.fmod_eq_emod_of_nonneg _ (by omega)]
    omega
  rw [show b.toBitVec.smod 64 = b.toBitVec from this, BitVec.shiftLeft_eq', h]
theorem c64_ushr (x : BitVec 64) (s : Int) : ((c64 x).toUInt64 >>> ((c32 s).toInt64.toUInt64 &&& Int64.toUInt64 63)).toInt64 = c64 (x >>> (s % 64).toNat) := by
  have h := sh63 s
  have e : ((c32 s).toInt64.toUInt64 &&& Int64.toUInt64 63).toBitVec = ((c32 s).toInt64 &&& 63).toBitVec := rfl
  generalize ((c32 s).toInt64.toUInt64 &&& Int64.toUInt64 63) = b at e ⊢
  rw [← e] at h
  apply Int64.toBitVec_inj.mp
  show x >>> (b.toBitVec % 64) = x >>> (s % 64).toNat
  rw [BitVec.ushiftRight_eq', BitVec.toNat_umod, h]
  show x >>> ((s % 64).toNat % 64) = _
  congr 1
  omega
theorem lg_cmp_c64 (x y : BitVec 64) : lg_cmp (c64 x) (c64 y) = c32 (cmL x y) := by
  unfold lg_cmp cmL
  have e1 : (c64 x > c64 y) ↔ y.slt x = true := by
    rw [gt_iff_lt, Int64.lt_iff_toInt_lt, BitVec.slt_iff_toInt_lt]; rfl
  have e2 : (c64 x = c64 y) ↔ x = y := ⟨fun h => Int64.toBitVec_inj.mpr h, fun h => by rw [h]⟩
  simp only [e1, e2]
  split
  · rfl
  · split <;> rfl
