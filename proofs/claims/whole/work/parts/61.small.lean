theorem isb_eq (v : Int32) : fX6_isByte v = fX7_below v 256 := by
  unfold fX6_isByte fX7_below
  have h : ((255:Int32) < v) ↔ ((256:Int32) ≤ v) := by
    rw [Int32.lt_iff_toInt_lt, Int32.le_iff_toInt_le]
    have h1 : (255:Int32).toInt = 255 := by decide
    have h2 : (256:Int32).toInt = 256 := by decide
    omega
  simp only [h]
theorem isa_eq (v : Int32) : fX6_isAddress v = fX7_below v 8192 := rfl
theorem vz {n : Nat} (h : 0 < n) (hn : n < 2 ^ 31) : vp_in (0:Int32) n := vp_in_nI (n := 0) h hn
