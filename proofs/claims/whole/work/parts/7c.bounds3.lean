/-! THE WORDS ARE WITHIN BOUNDS -/
section WNG
variable {n : Nat} {S : aS}
theorem plate_n0 (h : Wn n S) {k : Nat} (hk : k < riN S) : 0 ≤ (plateS S k (S 3 k)).toInt := by
  obtain ⟨w0, w1, w2, w3, w4, w5, w6, w7, w8⟩ := h
  have a := (w1.2.2 k hk).2.1
  have m := plate_mono w1 hk (t := 0) (u := S 3 k) (by rw [l32_0]; omega) (by rw [l32_0]; omega) (by omega)
  have z : 0 ≤ (plateS S k 0).toInt := by
    unfold plateS
    refine less0_b ?_ w1.1.1 w1.1.2 w1.2.1.1 w1.2.1.2
    simp only [Int32.zero_mul]
    split
    · decide
    · decide
  omega
theorem bears_b (h : Wn n S) {k : Nat} (hk : k < riN S) : 0 ≤ (bearsS S k).toInt ∧ (bearsS S k).toInt ≤ 9999999 := by
  have p := plate_n0 h hk
  have q := (h.2.1.2.2 k hk).2.2.2.2.1
  unfold bearsS
  split
  · rename_i z
    rw [ti_lt] at z
    omega
  · omega
theorem load_bd (h : Wn n S) {k : Nat} (hk : k < riN S) : 0 ≤ (loadS S k).toInt ∧ (loadS S k).toInt ≤ 10000000 := by
  have hd := Wn_dep h
  obtain ⟨w0, w1, w2, w3, w4, w5, w6, w7, w8⟩ := h
  have lb := low_b w0 w1 k (by omega)
  have h7 := w0.1.2
  have g := w4 (by omega)
  have e : (dep S - low S k).toInt = (dep S).toInt - (low S k).toInt := ti_sub (by omega) (by omega)
  exact ldB_b (by omega) (by omega) (by omega) w2.1.1 w2.1.2 (by omega) (by omega)
theorem Wn_Wb (h : Wn n S) : Wb S := by
  intro k hk j hj
  have hd := Wn_dep h
  have b7 := bears_b h hk
  have b6 := load_bd h hk
  obtain ⟨w0, w1, w2, w3, w4, w5, w6, w7, w8⟩ := h
  have h7 := w0.1.2
  have h30 := w0.2.2
  have b8 := stl_b (f := S 10) (h := S 11) (edge := low S k) (air := S 0 10) w8.2.1 w8.2.2.2.2.2.1 (laN S) 0 (by omega)
  have b8' : -1000 ≤ (steelS S k).toInt ∧ (steelS S k).toInt ≤ 1000 := b8
  have c2 := w8.2.2.2.2.1 k hk
  have c3 := (w1.2.2 k hk).2.1
  have c11 := w1.2.1
  have c9 := w2.1
  have c0 := w8.1
  have c10 := w8.2.1
  have c8 : (S 0 8).toInt = laN S := by rw [w0.2.1, iN_int (by omega)]
  have ck : (iN k).toInt = k := iN_int (by omega)
  have : j = 0 ∨ j = 1 ∨ j = 2 ∨ j = 3 ∨ j = 4 ∨ j = 5 ∨ j = 6 ∨ j = 7 ∨ j = 8 ∨ j = 9 ∨ j = 10 ∨ j = 11 ∨ j = 12 := by omega
  rcases this with q | q | q | q | q | q | q | q | q | q | q | q | q <;> subst q
  · show -10000000 ≤ (S 0 0).toInt ∧ (S 0 0).toInt ≤ 10000000; omega
  · show -10000000 ≤ (dep S).toInt ∧ (dep S).toInt ≤ 10000000; omega
  · show -10000000 ≤ (S 0 9).toInt ∧ (S 0 9).toInt ≤ 10000000; omega
  · show -10000000 ≤ (S 0 10).toInt ∧ (S 0 10).toInt ≤ 10000000; omega
  · show -10000000 ≤ (S 0 11).toInt ∧ (S 0 11).toInt ≤ 10000000; omega
  · show -10000000 ≤ (S 0 8).toInt ∧ (S 0 8).toInt ≤ 10000000; omega
  · show -10000000 ≤ (loadS S k).toInt ∧ (loadS S k).toInt ≤ 10000000; omega
  · show -10000000 ≤ (bearsS S k).toInt ∧ (bearsS S k).toInt ≤ 10000000; omega
  · show -10000000 ≤ (steelS S k).toInt ∧ (steelS S k).toInt ≤ 10000000; omega
  · show -10000000 ≤ (S 2 k).toInt ∧ (S 2 k).toInt ≤ 10000000; omega
  · show -10000000 ≤ (S 3 k).toInt ∧ (S 3 k).toInt ≤ 10000000; omega
  · show -10000000 ≤ (iN k).toInt ∧ (iN k).toInt ≤ 10000000; omega
  · show -10000000 ≤ (bI (!decide (S 0 12 = -1))).toInt ∧ (bI (!decide (S 0 12 = -1))).toInt ≤ 10000000
    cases (!decide (S 0 12 = -1)) <;> decide
end WNG
