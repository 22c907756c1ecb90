/-! THE CLASS'S HALVING -/
section CL
variable {I : aI} {G : aL} {Z : aZ} {S : aS}
theorem t_halv (hZ : Shp Z) (hw : Wf0 S) (h1 : Wf1 S) {k : Nat} (hk : k < 7) (hr : k < riN S) {lo m : Nat} (hm : ∀ t, lo ≤ t → t ≤ 999 → (morC S k t = true ↔ t < m)) : ∀ d i a b v, i + d = 10 → lo ≤ a → a ≤ m → m ≤ b → b ≤ 999 → b - a < 2 ^ d → run 3 75 42 [.ref 34, .ref (38 + k), .int (fullS S k), .int (iN a), .int (iN b), .int (iN i), v] [] (embB 33 I S, G, Z) = some (some (.int (iN m - S 3 k)), (embB 33 I S, G, Z)) := by
  have e10 : (10 : Int32) = iN 10 := rfl
  have fin : ∀ (i : Int32) (b : Int32) v, run 3 75 92 [.ref 34, .ref (38 + k), .int (fullS S k), .int (iN m), .int b, .int i, v] [] (embB 33 I S, G, Z) = some (some (.int (iN m - S 3 k)), (embB 33 I S, G, Z)) := by
    intro i b v
    refine Eq.trans (b75_92 (hZ.kring hk)) ?_
    rw [mI_t, cr_f hk (by decide) (by decide)]
  intro d
  induction d with
  | zero =>
    intro i a b v hi hlo ha hb h9 hd
    have : a = m := by omega
    subst this
    refine Eq.trans b75_42 ?_
    rw [e10, show i = 10 by omega]
    exact Eq.trans (if_pos (iN_nlt (by omega))) (fin _ _ _)
  | succ d ih =>
    intro i a b v hi hlo ha hb h9 hd
    refine Eq.trans b75_42 ?_
    rw [e10]
    refine Eq.trans (if_neg (fun q => q ((iN_lt (by omega) (by omega)).mpr (by omega)))) (Eq.trans b75_49 ?_)
    by_cases hab : a < b
    · refine Eq.trans (if_neg (fun q => q ((iN_lt (by omega) (by omega)).mpr hab))) (Eq.trans (b75_55 hZ.k34) ?_)
      have em : (iN a + iN b) / 2 = iN ((a + b) / 2) := by
        rw [iN_add]
        exact iN_div (b := 2) (by omega) (by decide) (by decide)
      have hp : 2 ^ (d + 1) = 2 * 2 ^ d := by rw [Nat.pow_succ]; omega
      rw [em, t_plate hZ hw h1 hk hr (by rw [iN_int (by omega)]; omega) (by rw [iN_int (by omega)]; omega)]
      refine Eq.trans b75_71 ?_
      have hmm := hm ((a + b) / 2) (by omega) (by omega)
      unfold morC at hmm
      rw [decide_eq_true_eq] at hmm
      by_cases hq : plateS S k (iN ((a + b) / 2)) < fullS S k
      · have := hmm.mp hq
        refine Eq.trans (if_neg (fun q => q hq)) (Eq.trans b75_74 (Eq.trans b75_86 ?_))
        rw [iN_succ, iN_succ]
        exact ih (i + 1) ((a + b) / 2 + 1) b _ (by omega) (by omega) (by omega) hb h9 (by omega)
      · have : ¬ (a + b) / 2 < m := fun q => hq (hmm.mpr q)
        refine Eq.trans (if_pos hq) (Eq.trans b75_82 (Eq.trans b75_86 ?_))
        rw [iN_succ]
        exact ih (i + 1) a ((a + b) / 2) _ (by omega) hlo ha (by omega) (by omega) (by omega)
    · have : a = m := by omega
      subst this
      exact Eq.trans (if_pos (fun q => hab ((iN_lt (by omega) (by omega)).mp q))) (fin _ _ _)
end CL
