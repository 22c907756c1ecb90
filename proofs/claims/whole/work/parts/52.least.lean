/-! THE CLASS'S HALVING -/
section CL
variable {I : aI} {G : aL} {Z : aZ} {S : aS}
theorem t_halv (hZ : Shp Z) (hw : Wf0 S) (h1 : Wf1 S) {k : Nat} (hk : k < 7) (hr : k < riN S) {lo m : Nat} (hm : ∀ t, lo ≤ t → t ≤ 999 → (morC S k t = true ↔ t < m)) : ∀ d i a b v, i + d = 10 → lo ≤ a → a ≤ m → m ≤ b → b ≤ 999 → b - a < 2 ^ d → run 3 75 42 [.ref 34, .ref (38 + k), .int (fullS S k), .int (iN a), .int (iN b), .int (iN i), v] [] (embB 33 I S, G, Z) = some (some (.int (iN m - S 3 k)), (embB 33 I S, G, Z)) := by
  have e10 : (10 : Int32) = iN 10 := rfl
  have fin : ∀ (i : Int32) (b : Int32) v, run 3 75 92 [.ref 34, .ref (38 + k), .int (fullS S k), .int (iN m), .int b, .int i, v] [] (embB 33 I S, G, Z) = some (some (.int (iN m - S 3 k)), (embB 33 I S, G, Z)) := by
    intro i b v
    refine Eq.trans (b75_92 (hZ.kring hk)) ?_
    rw [mI_t, cr_f hk (by decide) (by decide)]
  intro d
  induction d with
  | zero =>
    intro i a b v hi hlo ha hb h9 hd
    have : a = m := by omega
    subst this
    refine Eq.trans b75_42 ?_
    rw [e10, show i = 10 by omega]
    exact Eq.trans (if_pos (iN_nlt (by omega))) (fin _ _ _)
  | succ d ih =>
    intro i a b v hi hlo ha hb h9 hd
    refine Eq.trans b75_42 ?_
    rw [e10]
    refine Eq.trans (if_neg (fun q => q ((iN_lt (by omega) (by omega)).mpr (by omega)))) (Eq.trans b75_49 ?_)
    by_cases hab : a < b
    · refine Eq.trans (if_neg (fun q => q ((iN_lt (by omega) (by omega)).mpr hab))) (Eq.trans (b75_55 hZ.k34) ?_)
      have em : (iN a + iN b) / 2 = iN ((a + b) / 2) := by
        rw [iN_add]
        exact iN_div (b := 2) (by omega) (by decide) (by decide)
      have hp : 2 ^ (d + 1) = 2 * 2 ^ d := by rw [Nat.pow_succ]; omega
      rw [em, t_plate hZ hw h1 hk hr (by rw [iN_int (by omega)]; omega) (by rw [iN_int (by omega)]; omega)]
      refine Eq.trans b75_71 ?_
      have hmm := hm ((a + b) / 2) (by omega) (by omega)
      unfold morC at hmm
      rw [decide_eq_true_eq] at hmm
      by_cases hq : plateS S k (iN ((a + b) / 2)) < fullS S k
      · have := hmm.mp hq
        refine Eq.trans (if_neg (fun q => q hq)) (Eq.trans b75_74 (Eq.trans b75_86 ?_))
        rw [iN_succ, iN_succ]
        exact ih (i + 1) ((a + b) / 2 + 1) b _ (by omega) (by omega) (by omega) hb h9 (by omega)
      · have : ¬ (a + b) / 2 < m := fun q => hq (hmm.mpr q)
        refine Eq.trans (if_pos hq) (Eq.trans b75_82 (Eq.trans b75_86 ?_))
        rw [iN_succ]
        exact ih (i + 1) a ((a + b) / 2) _ (by omega) hlo ha (by omega) (by omega) (by omega)
    · have : a = m := by omega
      subst this
      exact Eq.trans (if_pos (fun q => hab ((iN_lt (by omega) (by omega)).mp q))) (fin _ _ _)
end CL
theorem seekF_spec (c : Nat → Bool) : ∀ d f, (∀ g, f ≤ g → g < seekF c d f → c g = true) ∧ (seekF c d f < f + d → c (seekF c d f) = false) := by
  intro d
  induction d with
  | zero =>
    intro f
    rw [seekF]
    exact ⟨fun g a b => by omega, fun h => by omega⟩
  | succ d ih =>
    intro f
    rw [seekF]
    by_cases h : c f = true
    · rw [if_pos h]
      obtain ⟨p, q⟩ := ih (f + 1)
      refine ⟨fun g a b => ?_, fun z => q (by omega)⟩
      by_cases e : f = g
      · subst e; exact h
      · exact p g (by omega) b
    · rw [if_neg h]
      exact ⟨fun g a b => by omega, fun _ => Bool.eq_false_iff.mpr h⟩
section CL2
variable {I : aI} {G : aL} {Z : aZ} {S : aS}
theorem t_least (hZ : Shp Z) (hw : Wf0 S) (h1 : Wf1 S) {k : Nat} (hk : k < 7) (hr : k < riN S) : call 75 [.ref 34, .ref (38 + k)] (embB 33 I S, G, Z) = some (some (.int (if moreK S k = -1 then -2 else moreK S k)), (embB 33 I S, G, Z)) := by
  have hb3 := (h1.2.2 k hr).2.1
  have et : S 3 k = iN (S 3 k).toInt.toNat := by rw [ti_eq, iN_int (by omega), Int.toNat_of_nonneg (by omega)]
  have ec : (S 3 k).toNatClampNeg = (S 3 k).toInt.toNat := rfl
  have sl := seekF_le (morC S k) (1000 - (S 3 k).toInt.toNat) (S 3 k).toInt.toNat
  have sp := seekF_spec (morC S k) (1000 - (S 3 k).toInt.toNat) (S 3 k).toInt.toNat
  refine Eq.trans e75 (Eq.trans (b75_0 hZ.k34) ?_)
  rw [t_full hZ hw h1 hk hr]
  refine Eq.trans (b75_5 (hZ.kring hk)) ?_
  rw [mI_t, cr_f hk (by decide) (by decide)]
  unfold moreK
  rw [ec]
  generalize seekF (morC S k) (1000 - (S 3 k).toInt.toNat) (S 3 k).toInt.toNat = m at sl sp ⊢
  by_cases hv : S 7 k < fullS S k
  · refine Eq.trans (if_pos hv) (Eq.trans b75_26 ?_)
    have e : (if 999 < m then (-1 : Int32) else if S 7 k < fullS S k then -1 else iN m - S 3 k) = -1 := by
      rw [if_pos hv]
      split <;> rfl
    rw [e, if_pos rfl]
  · refine Eq.trans (if_neg hv) (Eq.trans (b75_14 hZ.k34) ?_)
    rw [t_plate hZ hw h1 hk hr (by decide) (by decide)]
    refine Eq.trans b75_23 ?_
    have e9 : (999 : Int32) = iN 999 := rfl
    rw [e9, if_neg hv]
    by_cases hp : plateS S k (iN 999) < fullS S k
    · have hc : morC S k 999 = true := decide_eq_true hp
      have hm : 999 < m := by
        rcases Nat.lt_or_ge 999 m with q | q
        · exact q
        · have f := sp.2 (by omega)
          rw [morC_mono h1 hr q (Nat.le_refl _) hc] at f
          exact absurd f (by decide)
      rw [if_pos hm, if_pos rfl]
      exact Eq.trans (if_neg (fun q => q hp)) b75_26
    · have hc : ¬ morC S k 999 = true := fun q => hp (of_decide_eq_true q)
      have hm : ¬ 999 < m := fun q => hc (sp.1 999 (by omega) q)
      have hn : ¬ iN m - S 3 k = -1 := by
        rw [et, iN_sub (by omega) (by omega)]
        exact iN_ne1 (by omega)
      rw [if_neg hm, if_neg hn]
      refine Eq.trans (if_pos hp) (Eq.trans (b75_29 (hZ.kring hk)) ?_)
      rw [mI_t, cr_f hk (by decide) (by decide), e9]
      have key := t_halv (I := I) (G := G) hZ hw h1 hk hr (lo := (S 3 k).toInt.toNat) (m := m) (fun t a b => ⟨fun q => by
        rcases Nat.lt_or_ge t m with z | z
        · exact z
        · have f := sp.2 (by omega)
          rw [morC_mono h1 hr z b q] at f
          exact absurd f (by decide), fun q => sp.1 t a q⟩) 10 0 (S 3 k).toInt.toNat 999 xU (by omega) (Nat.le_refl _) sl.1 (by omega) (Nat.le_refl _) (by omega)
      rw [← et] at key
      exact key
end CL2
