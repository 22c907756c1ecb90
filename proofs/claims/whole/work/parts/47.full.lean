/-! EDGES GROW; the full load of a ring, by the class -/
theorem low_b {S : aS} (hw : Wf0 S) (h1 : Wf1 S) : ∀ k : Nat, k ≤ riN S → (k : Int) ≤ (low S k).toInt ∧ (low S k).toInt ≤ 20 * k := by
  intro k
  induction k with
  | zero =>
    intro _
    have e : low S 0 = 0 := rfl
    rw [e, l32_0]
    omega
  | succ k ih =>
    intro hk
    have h7 := hw.1.2
    have p := ih (by omega)
    have f := (h1.2.2 k (by omega)).1
    have e : low S (k + 1) = low S k + S 1 k := rfl
    rw [e, ti_add (by omega) (by omega)]
    omega
theorem low_s {S : aS} (hw : Wf0 S) (h1 : Wf1 S) {k : Nat} (hk : k < riN S) : (low S (k + 1)).toInt = (low S k).toInt + (S 1 k).toInt := by
  have h7 := hw.1.2
  have p := low_b hw h1 k (by omega)
  have f := (h1.2.2 k hk).1
  have e : low S (k + 1) = low S k + S 1 k := rfl
  rw [e, ti_add (by omega) (by omega)]
theorem low_up {S : aS} (hw : Wf0 S) (h1 : Wf1 S) {k : Nat} : ∀ d : Nat, k + d ≤ riN S → (low S k).toInt + d ≤ (low S (k + d)).toInt := by
  intro d
  induction d with
  | zero => intro _; show _ ≤ (low S k).toInt; omega
  | succ d ih =>
    intro h
    have p := ih (by omega)
    have s := low_s hw h1 (k := k + d) (by omega)
    have f := (h1.2.2 (k + d) (by omega)).1
    rw [show k + (d + 1) = k + d + 1 by omega, s]
    omega
section CF
variable {I : aI} {G : aL} {Z : aZ} {S : aS}
theorem t_full (hZ : Shp Z) (hw : Wf0 S) (h1 : Wf1 S) {k : Nat} (hk : k < 7) (hr : k < riN S) : call 62 [.ref 34, .ref (38 + k)] (embB 33 I S, G, Z) = some (some (.int (fullS S k)), (embB 33 I S, G, Z)) := by
  have h7 := hw.1.2
  have p := low_b hw h1 k (by omega)
  have q := low_b hw h1 (riN S) (Nat.le_refl _)
  have u := low_up hw h1 (k := k) (riN S - k) (by omega)
  rw [show k + (riN S - k) = riN S by omega] at u
  refine Eq.trans e62 (Eq.trans (b62_0 hZ.k34 (hZ.kring hk)) ?_)
  simp only [mI_t, mL_t, ct3, ct4, ct5, ct6, ct7, ct8, ct9, ct10, ct11, ct13, ct15, ct16, ct17, ct18, ct12, ct14, cs5, cs6, cs7, cs8, cw3, ca46, ca47, ca48, ca52, ca53, ca54, ca55, ca56, hZ.k33, hZ.r33_0, hZ.r33_1, hZ.r33_2, hZ.r33_3, hZ.r33_4, hZ.k34, hZ.r34_0, hZ.r34_1, hZ.r34_2, cr_0 hk hr]
  unfold fullS ldB
  rw [if_neg (by rw [ti_lt, ti_sub (by omega) (by omega), l32_0]; omega), i32_add0]
end CF
