/-! SPECS, 20: write, knit, .. -/
theorem i32_nI (x : Int32) (h : 0 ≤ x) : x = nI x.toNatClampNeg := by
  have h1 : (0 : Int) ≤ x.toInt := Int32.le_iff_toInt_le.mp h
  apply Int32.toInt_inj.mp
  have h2 := Int32.toInt_lt x
  have h3 : (nI x.toNatClampNeg).toInt = (x.toNatClampNeg : Int) := Int32.toInt_ofNat_of_lt (by show x.toInt.toNat < 2 ^ 31; omega)
  rw [h3]
  show x.toInt = ((x.toInt.toNat : Nat) : Int)
  omega
