/-! FEET NEEDED -/
def Wf4 (S : aS) : Prop := 0 < riN S → (1 ≤ (S 0 2).toInt ∧ (S 0 2).toInt ≤ 99) ∧ 1 ≤ (S 0 3).toInt ∧ (S 0 3).toInt ≤ 99
theorem ned_iff {S : aS} (hw : Wf0 S) (h1 : Wf1 S) (h4 : Wf4 S) {k f : Nat} (hk : k < riN S) (hf : f ≤ 140) {w : Int32} (w1 : 1 ≤ w.toInt) (w9 : w.toInt ≤ 99) : nedC S k w f = true ↔ (if (f : Int) - (low S k).toInt < 0 then 0 else (f : Int) - (low S k).toInt) * w.toInt < ((low S (riN S)).toInt - (low S k).toInt) * (S 0 3).toInt := by
  have h7 := hw.1.2
  obtain ⟨hR, hW⟩ := h4 (by omega)
  have p := low_b hw h1 k (by omega)
  have q := low_b hw h1 (riN S) (Nat.le_refl _)
  have u := low_up hw h1 (k := k) (riN S - k) (by omega)
  rw [show k + (riN S - k) = riN S by omega] at u
  have ef : (iN f).toInt = f := iN_int (by omega)
  have e1 : (iN f - low S k).toInt = (f : Int) - (low S k).toInt := by rw [ti_sub (by omega) (by omega), ef]
  have e2 : (low S (riN S) - low S k).toInt = (low S (riN S)).toInt - (low S k).toInt := ti_sub (by omega) (by omega)
  unfold nedC fullS
  rw [decide_eq_true_eq, ti_lt, ldv (by omega) (by omega) (by omega) (by omega) (by omega) (by omega), ldv (by omega) (by omega) (by omega) (by omega) (by omega) (by omega), e1, e2, if_neg (show ¬ (low S (riN S)).toInt - (low S k).toInt < 0 by omega)]
  exact Int.mul_lt_mul_right (by omega)
theorem ned_seek {S : aS} (hw : Wf0 S) (h1 : Wf1 S) (h4 : Wf4 S) {k h : Nat} (hk : k < riN S) (hh : low S (riN S) = iN h) (h140 : h ≤ 140) {w : Int32} {e n F : Nat} (he : low S k = iN e) (he9 : e ≤ 140) (hn : w = iN n) (n1 : 1 ≤ n) (n9 : n ≤ 99) (hF : F = (h - e) * (S 0 3).toInt.toNat) (hF0 : 0 < F) : seekF (nedC S k w) (h + 1) 0 = if e + (F + n - 1) / n ≤ h then e + (F + n - 1) / n else h + 1 := by
  have h7 := hw.1.2
  obtain ⟨hR, hW⟩ := h4 (by omega)
  have u := low_up hw h1 (k := k) (riN S - k) (by omega)
  rw [show k + (riN S - k) = riN S by omega, hh, he, iN_int (by omega), iN_int (by omega)] at u
  refine seek_ceil _ (by omega) hF0 ?_
  intro f hf
  rw [ned_iff hw h1 h4 hk (by omega) (by rw [hn, iN_int (by omega)]; omega) (by rw [hn, iN_int (by omega)]; omega), hh, he, hn, iN_int (by omega), iN_int (by omega), iN_int (by omega), hF, ← Int.ofNat_lt, Int.natCast_mul, Int.natCast_mul, Int.toNat_of_nonneg (by omega)]
  have a : (if (f : Int) - (e : Int) < 0 then 0 else (f : Int) - e) = ((f - e : Nat) : Int) := by split <;> omega
  have b : (h : Int) - (e : Int) = ((h - e : Nat) : Int) := by omega
  rw [a, b]
