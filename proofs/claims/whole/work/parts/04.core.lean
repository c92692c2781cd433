/-! the words of the tables that every method carries; the ones that only the start's state tells -/
def TBL : List Cond := lw_tbl.filter goodWord
theorem TBL_good {w : Cond} (h : w ∈ TBL) : goodWord w = true := (List.mem_filter.mp h).2
theorem TBL_in {w : Cond} (i : Nat) (h : lw_tbl[i]? = some w) (hg : goodWord w = true) : w ∈ TBL := List.mem_filter.mpr ⟨List.mem_of_getElem? h, hg⟩
def xword : Cond → Bool
  | .castable .. | .declares _ | .methodLinkNest .. | .arrayOver (.object _) | .arrayOver (.array _) => true
  | _ => false
def XW : List Cond := lw_tbl.filter xword
theorem XW_in {w : Cond} (i : Nat) (h : lw_tbl[i]? = some w) (hg : xword w = true) : w ∈ XW := List.mem_filter.mpr ⟨List.mem_of_getElem? h, hg⟩
/-! numbers -/
def wI (x : Int) : Int := (x + 2147483648) % 4294967296 - 2147483648
def c32 (x : Int) : Int32 := Int32.ofInt x
def c64 (x : BitVec 64) : Int64 := Int64.ofBitVec x
theorem c32_toInt (x : Int) : (c32 x).toInt = wI x := by
  unfold c32 wI
  rw [Int32.toInt_ofInt]
  show Int.bmod x 4294967296 = _
  rw [Int.bmod_def]
  have : x % 4294967296 = (x % 4294967296) := rfl
  split <;> omega
theorem wI_id {x : Int} (h : -2147483648 ≤ x) (h2 : x < 2147483648) : wI x = x := by unfold wI; omega
theorem c32_w (x : Int) : c32 (wI x) = c32 x := by
  apply Int32.toInt_inj.mp
  rw [c32_toInt, c32_toInt]
  unfold wI
  omega
theorem c32_of_toInt (x : Int32) : c32 x.toInt = x := Int32.ofInt_toInt x
theorem c32_congr {x y : Int} (h : x % 4294967296 = y % 4294967296) : c32 x = c32 y := by
  apply Int32.toInt_inj.mp
  rw [c32_toInt, c32_toInt]
  unfold wI
  omega
theorem c32_add (x y : Int) : c32 x + c32 y = c32 (x + y) := (Int32.ofInt_add x y).symm
theorem c32_sub (x y : Int) : c32 x - c32 y = c32 (x - y) := (Int32.ofInt_sub x y).symm
theorem c32_mul (x y : Int) : c32 x * c32 y = c32 (x * y) := (Int32.ofInt_mul x y).symm
theorem c32_neg (x : Int) : - c32 x = c32 (-x) := (Int32.ofInt_neg x).symm
theorem c32_lt {x y : Int} : c32 x < c32 y ↔ wI x < wI y := by rw [Int32.lt_iff_toInt_lt, c32_toInt, c32_toInt]
theorem c32_le {x y : Int} : c32 x ≤ c32 y ↔ wI x ≤ wI y := by rw [Int32.le_iff_toInt_le, c32_toInt, c32_toInt]
theorem c32_eq {x y : Int} : c32 x = c32 y ↔ wI x = wI y := by rw [← Int32.toInt_inj, c32_toInt, c32_toInt]
theorem c32_0 : c32 0 = 0 := by decide
theorem c32_clamp {x : Int} (h : 0 ≤ x) (h2 : x < 2147483648) : (c32 x).toNatClampNeg = x.toNat := by
  show (c32 x).toInt.toNat = _
  rw [c32_toInt, wI_id (by omega) h2]
theorem c32_in {x : Int} {n : Nat} (h : 0 ≤ x) (h2 : x < n) (hn : n < 2147483648) : vp_in (c32 x) n := by
  rw [vp_in_iff, c32_toInt, wI_id (by omega) (by omega)]
  exact ⟨h, h2⟩
theorem c32_bv (x : Int) : (c32 x).toBitVec = BitVec.ofInt 32 x := rfl
def tB (x : Int) : BitVec 32 := BitVec.ofInt 32 x
theorem c32_tB {x : Int32} : x = c32 x.toBitVec.toInt := by
  rw [show x.toBitVec.toInt = x.toInt from rfl, c32_of_toInt]
def bAnd (x y : Int) : Int := (tB x &&& tB y).toInt
def bOr (x y : Int) : Int := (tB x ||| tB y).toInt
def bXor (x y : Int) : Int := (tB x ^^^ tB y).toInt
theorem c32_and (x y : Int) : c32 x &&& c32 y = c32 (bAnd x y) := c32_tB
theorem c32_or (x y : Int) : c32 x ||| c32 y = c32 (bOr x y) := c32_tB
theorem c32_xor (x y : Int) : c32 x ^^^ c32 y = c32 (bXor x y) := c32_tB
