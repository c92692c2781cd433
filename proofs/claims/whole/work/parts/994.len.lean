/-! no more steps than places -/

def lnSt (r : Rs) : Int := (r.2.2.2.1.length : Nat)
theorem ln_sum (L : Int → Int) (z : Int) (a r : Rs) : lnSt (fSum L z a r) = lnSt a + lnSt r + 1 := by
  show (((a.2.2.2.1 ++ (r.2.2.2.1 ++ [if isS L z a.2.1 43 then (-6 : Int) else -7])).length : Nat) : Int) = _
  unfold lnSt
  rw [List.length_append, List.length_append, List.length_singleton]
  omega
theorem ln_test (L : Int → Int) (z : Int) (a r : Rs) : lnSt (fTest L z a r) = lnSt a + lnSt r + 1 := by
  show (((a.2.2.2.1 ++ (r.2.2.2.1 ++ [if isS L z a.2.1 60 then (-4 : Int) else -5])).length : Nat) : Int) = _
  unfold lnSt
  rw [List.length_append, List.length_append, List.length_singleton]
  omega
theorem ln_whole (L : Int → Int) (z : Int) (a r : Rs) : lnSt (fWhole L z a r) = lnSt a + lnSt r + 1 := by
  show (((a.2.2.2.1 ++ (r.2.2.2.1 ++ [if isW L z a.2.1 1111 then (-2 : Int) else -3])).length : Nat) : Int) = _
  unfold lnSt
  rw [List.length_append, List.length_append, List.length_singleton]
  omega
