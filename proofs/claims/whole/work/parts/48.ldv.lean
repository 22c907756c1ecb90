/-! LOADS AS NUMBERS -/
theorem ldv {x w r : Int32} (hx : -1000 ≤ x.toInt) (hx9 : x.toInt ≤ 1000) (hw : 0 ≤ w.toInt) (hw9 : w.toInt ≤ 99) (hr : 0 ≤ r.toInt) (hr9 : r.toInt ≤ 99) : (ldB x w 0 r).toInt = (if x.toInt < 0 then 0 else x.toInt) * w.toInt * r.toInt := by
  have g : ∀ y : Int32, 0 ≤ y.toInt → y.toInt ≤ 1000 → (y * w * r).toInt = y.toInt * w.toInt * r.toInt := by
    intro y h0 h9
    have m1 := mul_b h0 hw h9 hw9
    have e1 : (y * w).toInt = y.toInt * w.toInt := ti_mul (by omega) (by omega)
    have m2 := mul_b m1.1 hr m1.2 hr9
    rw [ti_mul (by rw [e1]; omega) (by rw [e1]; omega), e1]
  unfold ldB
  rw [i32_add0]
  by_cases h : x < 0
  · rw [if_pos h, if_pos (by rw [ti_lt, l32_0] at h; exact h), g 0 (by rw [l32_0]; omega) (by rw [l32_0]; omega), l32_0]
  · have h' : ¬ x.toInt < 0 := by rw [ti_lt, l32_0] at h; exact h
    rw [if_neg h, if_neg h', g x (by omega) hx9]
