/-! A THICKER PLATE BEARS NO LESS; halving finds what the search upward finds -/
theorem less0_v {p t f : Int32} (ht : 0 ≤ t.toInt) (ht9 : t.toInt ≤ 999) (hf : 0 ≤ f.toInt) (hf9 : f.toInt ≤ 100000) (hp : 0 ≤ p.toInt) : (less0 p t f).toInt = if 0 < p.toInt - t.toInt * f.toInt then p.toInt - t.toInt * f.toInt else 0 := by
  have hm := mul_b ht hf ht9 hf9
  have hpr := ti_rng p
  have e1 : (t * f).toInt = t.toInt * f.toInt := ti_mul (by omega) (by omega)
  have e2 : (p - t * f).toInt = p.toInt - t.toInt * f.toInt := by rw [ti_sub (by omega) (by omega), e1]
  rw [less0_eq ht ht9 hf hf9 hp]
  by_cases h : 0 < p - t * f
  · rw [if_pos h, e2, if_pos (by rw [ti_lt, e2, l32_0] at h; exact h)]
  · rw [if_neg h, l32_0, if_neg (by rw [ti_lt, e2, l32_0] at h; exact h)]
theorem plate_mono {S : aS} (h1 : Wf1 S) {k : Nat} (hr : k < riN S) {t u : Int32} (ht : 0 ≤ t.toInt) (htu : t.toInt ≤ u.toInt) (hu9 : u.toInt ≤ 99999) : (plateS S k t).toInt ≤ (plateS S k u).toInt := by
  obtain ⟨hti, hfi, hrs⟩ := h1
  obtain ⟨-, -, hst, hho, -⟩ := hrs k hr
  have pt := pl_val ht (by omega) hst.1 hst.2 hho.1 hho.2
  have pu := pl_val (show 0 ≤ u.toInt by omega) hu9 hst.1 hst.2 hho.1 hho.2
  have m1 : t.toInt * (S 4 k).toInt ≤ u.toInt * (S 4 k).toInt := Int.mul_le_mul_of_nonneg_right htu (by omega)
  have m2 : t.toInt * (S 4 k).toInt * (10 - (S 6 k).toInt) ≤ u.toInt * (S 4 k).toInt * (10 - (S 6 k).toInt) := Int.mul_le_mul_of_nonneg_right m1 (by omega)
  have g : ∀ p q : Int32, 0 ≤ p.toInt → p.toInt ≤ q.toInt → (less0 p (S 0 4) (S 0 11)).toInt ≤ (less0 q (S 0 4) (S 0 11)).toInt := by
    intro p q hp hq
    rw [less0_v hti.1 hti.2 hfi.1 hfi.2 hp, less0_v hti.1 hti.2 hfi.1 hfi.2 (by omega)]
    split <;> split <;> omega
  unfold plateS
  by_cases h : steelS S k < S 5 k
  · rw [if_pos h, if_pos h]
    exact g _ _ (by rw [div2 (by omega)]; omega) (by rw [div2 (by omega), div2 (by omega)]; omega)
  · rw [if_neg h, if_neg h]
    exact g _ _ (by omega) (by omega)
theorem morC_mono {S : aS} (h1 : Wf1 S) {k : Nat} (hr : k < riN S) {a b : Nat} (hab : a ≤ b) (hb : b ≤ 999) (h : morC S k b = true) : morC S k a = true := by
  unfold morC at h ⊢
  rw [decide_eq_true_eq, ti_lt] at h ⊢
  have := plate_mono h1 hr (t := iN a) (u := iN b) (by rw [iN_int (by omega)]; omega) (by rw [iN_int (by omega), iN_int (by omega)]; omega) (by rw [iN_int (by omega)]; omega)
  omega
