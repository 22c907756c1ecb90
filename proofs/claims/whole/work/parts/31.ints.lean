/-! WHOLE NUMBERS of 32 and 64 bits as numbers, where nothing wraps -/
theorem bm32 {n : Int} (h1 : -2147483648 ≤ n) (h2 : n < 2147483648) : n.bmod (2 ^ 32) = n := Int.bmod_eq_of_le (by omega) (by omega)
theorem bm64 {n : Int} (h1 : -9223372036854775808 ≤ n) (h2 : n < 9223372036854775808) : n.bmod (2 ^ 64) = n := Int.bmod_eq_of_le (by omega) (by omega)
theorem ti_add {x y : Int32} (h1 : -2147483648 ≤ x.toInt + y.toInt) (h2 : x.toInt + y.toInt < 2147483648) : (x + y).toInt = x.toInt + y.toInt := by rw [Int32.toInt_add, bm32 h1 h2]
theorem ti_sub {x y : Int32} (h1 : -2147483648 ≤ x.toInt - y.toInt) (h2 : x.toInt - y.toInt < 2147483648) : (x - y).toInt = x.toInt - y.toInt := by rw [Int32.toInt_sub, bm32 h1 h2]
theorem ti_mul {x y : Int32} (h1 : -2147483648 ≤ x.toInt * y.toInt) (h2 : x.toInt * y.toInt < 2147483648) : (x * y).toInt = x.toInt * y.toInt := by rw [Int32.toInt_mul, bm32 h1 h2]
theorem tl_sub {x y : Int64} (h1 : -9223372036854775808 ≤ x.toInt - y.toInt) (h2 : x.toInt - y.toInt < 9223372036854775808) : (x - y).toInt = x.toInt - y.toInt := by rw [Int64.toInt_sub, bm64 h1 h2]
theorem tl_mul {x y : Int64} (h1 : -9223372036854775808 ≤ x.toInt * y.toInt) (h2 : x.toInt * y.toInt < 9223372036854775808) : (x * y).toInt = x.toInt * y.toInt := by rw [Int64.toInt_mul, bm64 h1 h2]
theorem ti_lt {x y : Int32} : x < y ↔ x.toInt < y.toInt := Int32.lt_iff_toInt_lt
theorem ti_eq {x y : Int32} : x = y ↔ x.toInt = y.toInt := Int32.toInt_inj.symm
theorem mul_b {a b A B : Int} (ha : 0 ≤ a) (hb : 0 ≤ b) (hA : a ≤ A) (hB : b ≤ B) : 0 ≤ a * b ∧ a * b ≤ A * B := ⟨Int.mul_nonneg ha hb, Int.mul_le_mul hA hB hb (by omega)⟩
theorem ti_rng (x : Int32) : -2147483648 ≤ x.toInt ∧ x.toInt < 2147483648 := ⟨Int32.le_toInt x, Int32.toInt_lt x⟩
theorem less0_eq {p t f : Int32} (ht : 0 ≤ t.toInt) (ht9 : t.toInt ≤ 999) (hf : 0 ≤ f.toInt) (hf9 : f.toInt ≤ 100000) (hp : 0 ≤ p.toInt) : less0 p t f = if 0 < p - t * f then p - t * f else 0 := by
  have hm := mul_b ht hf ht9 hf9
  have hpr := ti_rng p
  have e1 : (t * f).toInt = t.toInt * f.toInt := ti_mul (by omega) (by omega)
  have e2 : (p - t * f).toInt = p.toInt - t.toInt * f.toInt := by rw [ti_sub (by omega) (by omega), e1]
  have e3 : (t.toInt64 * f.toInt64).toInt = t.toInt * f.toInt := by
    rw [tl_mul (by rw [Int32.toInt_toInt64, Int32.toInt_toInt64]; omega) (by rw [Int32.toInt_toInt64, Int32.toInt_toInt64]; omega), Int32.toInt_toInt64, Int32.toInt_toInt64]
  have e4 : (p.toInt64 - t.toInt64 * f.toInt64).toInt = p.toInt - t.toInt * f.toInt := by
    rw [tl_sub (by rw [e3, Int32.toInt_toInt64]; omega) (by rw [e3, Int32.toInt_toInt64]; omega), e3, Int32.toInt_toInt64]
  unfold less0
  by_cases h : lg_cmp (p.toInt64 - t.toInt64 * f.toInt64) 0 < 0
  · rw [if_pos h]
    have := lgc_lt.mp h
    rw [e4, l64_0] at this
    rw [if_neg (by rw [ti_lt, e2, l32_0]; omega)]
  · rw [if_neg h]
    have h' : ¬ (p.toInt64 - t.toInt64 * f.toInt64).toInt < (0 : Int64).toInt := fun q => h (lgc_lt.mpr q)
    rw [e4, l64_0] at h'
    have e5 : (p.toInt64 - t.toInt64 * f.toInt64).toInt32 = p - t * f := by
      rw [ti_eq, Int64.toInt_toInt32, e4, e2, bm32 (by omega) (by omega)]
    rw [e5]
    by_cases hz : 0 < p - t * f
    · rw [if_pos hz]
    · rw [if_neg hz, ti_eq]
      rw [ti_lt, e2, l32_0] at hz
      rw [e2, l32_0]
      omega
theorem max0 {d : Int32} : (if 0 < d then d else 0) = if d < 0 then 0 else d := by
  by_cases h1 : 0 < d
  · rw [if_pos h1, if_neg (by rw [ti_lt] at h1 ⊢; omega)]
  · rw [if_neg h1]
    by_cases h2 : d < 0
    · rw [if_pos h2]
    · rw [if_neg h2, ti_eq]
      rw [ti_lt] at h1 h2
      omega
theorem min_sw {x y : Int32} : (if y < x then y else x) = if x < y then x else y := by
  by_cases h1 : y < x
  · rw [if_pos h1, if_neg (by rw [ti_lt] at h1 ⊢; omega)]
  · rw [if_neg h1]
    by_cases h2 : x < y
    · rw [if_pos h2]
    · rw [if_neg h2, ti_eq]
      rw [ti_lt] at h1 h2
      omega
theorem max_sw {x y : Int32} : (if x < y then y else x) = if x < y then y else x := rfl
