/-! FEET NEEDED, by the class -/
theorem iN_mul {a b : Nat} (h : a * b < 2147483648) (ha : a < 2147483648) (hb : b < 2147483648) : iN a * iN b = iN (a * b) := by
  have e : (a : Int) * (b : Int) = ((a * b : Nat) : Int) := (Int.natCast_mul a b).symm
  rw [ti_eq, ti_mul (by rw [iN_int ha, iN_int hb, e]; omega) (by rw [iN_int ha, iN_int hb, e]; omega), iN_int ha, iN_int hb, iN_int h, e]
theorem iN_div {a b : Nat} (ha : a < 2147483648) (hb : b < 2147483648) (h0 : 0 < b) : iN a / iN b = iN (a / b) := by
  have hd : a / b ≤ a := Nat.div_le_self a b
  have hz : iN b ≠ 0 := fun q => by
    have := congrArg Int32.toInt q
    rw [iN_int hb, l32_0] at this
    omega
  have hm : iN b ≠ -1 := iN_ne1 hb
  rw [ti_eq, Int32.toInt_div_of_ne_right _ _ hm, iN_int ha, iN_int hb, iN_int (by omega), Int.tdiv_eq_ediv_of_nonneg (by omega)]
  first | rfl | exact (Int.natCast_ediv a b).symm
theorem iN_sub {a b : Nat} (ha : a < 2147483648) (hb : b ≤ a) : iN a - iN b = iN (a - b) := by
  rw [ti_eq, ti_sub (by rw [iN_int ha, iN_int (by omega)]; omega) (by rw [iN_int ha, iN_int (by omega)]; omega), iN_int ha, iN_int (by omega), iN_int (by omega)]
  omega
theorem ned_val {e h n : Nat} {W : Int32} (heh : e ≤ h) (h140 : h ≤ 140) (n1 : 1 ≤ n) (n9 : n ≤ 99) (w1 : 1 ≤ W.toInt) (w9 : W.toInt ≤ 99) : iN e + ((iN h - iN e) * W + iN n - 1) / iN n = iN (e + ((h - e) * W.toInt.toNat + n - 1) / n) := by
  have eW : W = iN W.toInt.toNat := by rw [ti_eq, iN_int (by omega), Int.toNat_of_nonneg (by omega)]
  have hb : (h - e) * W.toInt.toNat ≤ 140 * 99 := Nat.mul_le_mul (by omega) (by omega)
  have e2 : (iN h - iN e) * W = iN ((h - e) * W.toInt.toNat) := by
    rw [iN_sub (by omega) heh]
    conv => lhs; rw [eW]
    exact iN_mul (by omega) (by omega) (by omega)
  have e3 : iN ((h - e) * W.toInt.toNat + n) - 1 = iN ((h - e) * W.toInt.toNat + n - 1) := iN_sub (b := 1) (by omega) (by omega)
  rw [e2, iN_add, e3, iN_div (by omega) (by omega) (by omega), iN_add]
