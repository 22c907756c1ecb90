/-! THE FACE'S ring AND pour -/
section FR
variable {I : aI} {G : aL} {Z : aZ} {S : aS} {M : aM} {x1 x2 x3 x4 x5 x6 x7 x8 x9 x10 : Int32}
theorem fr_a : run 3 100 0 [.ref 32, .int x1, .int x2, .int x3, .int x4, .int x5, .int x6, .int x7, .int x8, xU, xU, xU, xU] [] M = run 3 100 37 [.ref 32, .int x1, .int x2, .int x3, .int x4, .int x5, .int x6, .int x7, .int x8, xU, xU, xU, xU] [.int (bI (inB x1 1 20 && (inB x2 1 999 && (inB x3 1 999))))] M := by
  refine Eq.trans b100_0 ?_
  rw [c_within, l32_1, l32_20]
  refine Eq.trans b100_7 ?_
  cases inB x1 1 20 with
  | false => exact Eq.trans (if_pos (by decide)) b100_36
  | true =>
    refine Eq.trans (if_neg (by decide)) (Eq.trans b100_10 ?_)
    rw [c_within, l32_1, l32_999]
    refine Eq.trans b100_18 ?_
    cases inB x2 1 999 with
    | false => exact Eq.trans (if_pos (by decide)) b100_36
    | true =>
      refine Eq.trans (if_neg (by decide)) (Eq.trans b100_21 ?_)
      rw [c_within, l32_1, l32_999]
      refine Eq.trans b100_29 ?_
      cases inB x3 1 999 with
      | false => exact Eq.trans (if_pos (by decide)) b100_36
      | true => exact Eq.trans (if_neg (by decide)) b100_32
theorem fr_b : run 3 100 37 [.ref 32, .int x1, .int x2, .int x3, .int x4, .int x5, .int x6, .int x7, .int x8, xU, xU, xU, xU] [.int x9] M = run 3 100 79 [.ref 32, .int x1, .int x2, .int x3, .int x4, .int x5, .int x6, .int x7, .int x8, .int x9, xU, xU, xU] [.int (bI (inB x4 1 999 && (inB x5 (-50) 99 && (inB x6 0 9))))] M := by
  refine Eq.trans b100_37 ?_
  rw [c_within, l32_1, l32_999]
  refine Eq.trans b100_48 ?_
  cases inB x4 1 999 with
  | false => exact Eq.trans (if_pos (by decide)) b100_78
  | true =>
    refine Eq.trans (if_neg (by decide)) (Eq.trans b100_51 ?_)
    rw [c_within, l32_m50, l32_99]
    refine Eq.trans b100_60 ?_
    cases inB x5 (-50) 99 with
    | false => exact Eq.trans (if_pos (by decide)) b100_78
    | true =>
      refine Eq.trans (if_neg (by decide)) (Eq.trans b100_63 ?_)
      rw [c_within, l32_0, l32_9]
      refine Eq.trans b100_71 ?_
      cases inB x6 0 9 with
      | false => exact Eq.trans (if_pos (by decide)) b100_78
      | true => exact Eq.trans (if_neg (by decide)) b100_74
theorem fr_c : run 3 100 79 [.ref 32, .int x1, .int x2, .int x3, .int x4, .int x5, .int x6, .int x7, .int x8, .int x9, xU, xU, xU] [.int x10] M = run 3 100 108 [.ref 32, .int x1, .int x2, .int x3, .int x4, .int x5, .int x6, .int x7, .int x8, .int x9, .int x10, xU, xU] [.int (bI (inB x7 1 9999999 && (inB x8 1 99)))] M := by
  refine Eq.trans b100_79 ?_
  rw [c_within, l32_1, l32_9999999]
  refine Eq.trans b100_89 ?_
  cases inB x7 1 9999999 with
  | false => exact Eq.trans (if_pos (by decide)) b100_107
  | true =>
    refine Eq.trans (if_neg (by decide)) (Eq.trans b100_92 ?_)
    rw [c_within, l32_1, l32_99]
    refine Eq.trans b100_100 ?_
    cases inB x8 1 99 with
    | false => exact Eq.trans (if_pos (by decide)) b100_107
    | true => exact Eq.trans (if_neg (by decide)) b100_103
theorem t_next (hZ : Shp Z) (hw : Wf0 S) : call 51 [.ref 34] (embB 33 I S, G, Z) = some (some (.ref (if ¬ S 0 1 = 0 ∧ S 0 12 = -1 ∧ ¬ S 0 7 = 7 then 38 + riN S else 0)), (embB 33 I S, G, Z)) := by
  have hr := hw.1.2
  refine Eq.trans e51 (Eq.trans (b51_0 hZ.k34) ?_)
  simp only [mI_t, mL_t, ct3, ct4, ct5, ct6, ct7, ct8, ct9, ct10, ct11, ct13, ct15, ct16, ct17, ct18, ct12, ct14, cs5, cs6, cs7, cs8, cw3, ca46, ca47, ca48, ca52, ca53, ca54, ca55, ca56, hZ.k33, hZ.r33_0, hZ.r33_1, hZ.r33_2, hZ.r33_3, hZ.r33_4, hZ.k34, hZ.r34_0, hZ.r34_1, hZ.r34_2]
  by_cases h1 : S 0 1 = 0
  · rw [if_neg (fun q : ¬ S 0 1 = 0 ∧ S 0 12 = -1 ∧ ¬ S 0 7 = 7 => q.1 h1)]
    exact Eq.trans (if_pos h1) (Eq.trans b51_35 b51_36)
  · refine Eq.trans (if_neg h1) (Eq.trans (b51_7 hZ.k34) ?_)
    rw [t_hasBurst hZ]
    refine Eq.trans b51_11 ?_
    by_cases hn : S 0 12 = -1
    · rw [decide_eq_true hn]
      refine Eq.trans (if_neg (by decide)) (Eq.trans (b51_14 hZ.k34) ?_)
      simp only [mI_t, mL_t, ct3, ct4, ct5, ct6, ct7, ct8, ct9, ct10, ct11, ct13, ct15, ct16, ct17, ct18, ct12, ct14, cs5, cs6, cs7, cs8, cw3, ca46, ca47, ca48, ca52, ca53, ca54, ca55, ca56, hZ.k33, hZ.r33_0, hZ.r33_1, hZ.r33_2, hZ.r33_3, hZ.r33_4, hZ.k34, hZ.r34_0, hZ.r34_1, hZ.r34_2]
      by_cases h7 : S 0 7 = 7
      · rw [if_neg (fun q : ¬ S 0 1 = 0 ∧ S 0 12 = -1 ∧ ¬ S 0 7 = 7 => q.2.2 h7)]
        exact Eq.trans (if_pos (by rw [h7]; decide)) (Eq.trans b51_35 b51_36)
      · have hl : riN S < 7 := by
          rcases Nat.lt_or_ge (riN S) 7 with q | q
          · exact q
          · exact absurd (by rw [hw.1.1, show riN S = 7 by omega]; rfl) h7
        have hb : ib (S 0 7) 7 := by rw [hw.1.1]; exact ib_iN (by omega) hl
        have hlt : S 0 7 < 7 := by
          rw [hw.1.1]
          exact (iN_lt (b := 7) (by omega) (by decide)).mpr hl
        rw [if_pos (show ¬ S 0 1 = 0 ∧ S 0 12 = -1 ∧ ¬ S 0 7 = 7 from ⟨h1, hn, h7⟩)]
        refine Eq.trans (if_neg (fun q => q hlt)) (Eq.trans (b51_23 hZ.k34 hZ.kr34_0 (hZ.ir34_0 hb)) (Eq.trans b51_36 ?_))
        have ec : (mI (embB 33 I S, G, Z) 34 11).toNatClampNeg = riN S := rfl
        rw [ec, hZ.ring hl]
    · rw [decide_eq_false hn, if_neg (fun q : ¬ S 0 1 = 0 ∧ S 0 12 = -1 ∧ ¬ S 0 7 = 7 => hn q.2.1)]
      exact Eq.trans (if_pos (by decide)) (Eq.trans b51_35 b51_36)
/-- a ring raised -/
theorem t_raise (hZ : Shp Z) {T : aS} {r : Nat} (h7 : T 0 7 = iN r) (hr : r < 7) : call 52 [.ref 34, .ref (38 + r)] (embB 33 I T, G, Z) = some (some (.int (iN r)), (embB 33 I (up2 (up2 T 9 r (loadS T r)) 0 7 (T 0 7 + 1)), G, Z)) := by
  have eU : riN T = r := by unfold riN; rw [h7, iN_clamp (by omega)]
  have n34 : (34 : Nat) ≠ 38 + r := by omega
  refine Eq.trans e52 (Eq.trans (b52_0 hZ.k34 (hZ.kring hr)) ?_)
  simp only [mI_t, mL_t, ct3, ct4, ct5, ct6, ct7, ct8, ct9, ct10, ct11, ct13, ct15, ct16, ct17, ct18, ct12, ct14, cs5, cs6, cs7, cs8, cw3, ca46, ca47, ca48, ca52, ca53, ca54, ca55, ca56, hZ.k33, hZ.r33_0, hZ.r33_1, hZ.r33_2, hZ.r33_3, hZ.r33_4, hZ.k34, hZ.r34_0, hZ.r34_1, hZ.r34_2, wI_t]
  rw [eU]
  have eld : call 61 [.ref 34, .ref (38 + r)] (up2 (embB 33 I T) (38 + r) 0 (low T r), G, Z) = some (some (.int (loadS T r)), (up2 (embB 33 I T) (38 + r) 0 (low T r), G, Z)) := by
    refine Eq.trans e61 (Eq.trans (b61_0 hZ.k34 (hZ.kring hr)) ?_)
    simp only [mI_t, up2_s, up2_a n34, ct14, ct7, ct15, ct6]
    unfold loadS ldB
    rw [max0]
  rw [eld]
  refine Eq.trans (b52_14 (hZ.kring hr) hZ.k34 (hZ.kring hr)) (Eq.trans (b52_40 hZ.k34) ?_)
  have sw : up2 (up2 (embB 33 I T) (38 + r) 0 (low T r)) (38 + r) 9 (loadS T r) = up2 (embB 33 I (up2 T 9 r (loadS T r))) (38 + r) 0 (low (up2 T 9 r (loadS T r)) r) := by
    rw [← wst hr (by decide) (by decide)]
    funext a k
    by_cases ha : a = 38 + r
    · subst ha
      by_cases h9 : k = 9
      · subst h9; rw [up2_s, up2_k (by decide), up2_s]
      · rw [up2_k h9]
        by_cases h0 : k = 0
        · subst h0; rw [up2_s, up2_s]; rfl
        · rw [up2_k h0, up2_k h0, up2_k h9]
    · rw [up2_a ha, up2_a ha, up2_a ha, up2_a ha]
  simp only [mI_t, wI_t]
  rw [sw]
  have e11 : embB 33 I (up2 T 9 r (loadS T r)) 34 11 = T 0 7 := rfl
  have e12 : embB 33 I (up2 T 9 r (loadS T r)) 34 12 = low (up2 T 9 r (loadS T r)) r := by
    show low (up2 T 9 r (loadS T r)) (riN T) = _
    rw [eU]
  have e1 : embB 33 I (up2 T 9 r (loadS T r)) (38 + r) 1 = up2 T 9 r (loadS T r) 1 r := cr_f hr (by decide) (by decide)
  simp only [up2_s, up2_k (show (11 : Nat) ≠ 12 by decide), up2_a n34, up2_k (show (1 : Nat) ≠ 0 by decide), e11, e12, e1]
  have key := rise (I := I) (U := up2 T 9 r (loadS T r)) (show up2 T 9 r (loadS T r) 0 7 = iN r from h7) hr
  have e07 : up2 T 9 r (loadS T r) 0 7 = T 0 7 := rfl
  rw [e07] at key
  rw [key, h7, iN_succ, iN_pred]
end FR
