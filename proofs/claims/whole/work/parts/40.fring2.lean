/-! THE FACE'S ring AND pour, whole -/
section FR2
variable {I : aI} {G : aL} {Z : aZ} {S : aS} {x1 x2 x3 x4 x5 x6 x7 x8 : Int32}
def ring8 (S : aS) (x1 x2 x3 x4 x5 x6 x7 x8 : Int32) : aS := up2 (up2 (up2 (up2 (up2 (up2 (up2 (up2 S 1 (riN S) x1) 2 (riN S) x2) 3 (riN S) x3) 4 (riN S) x4) 5 (riN S) x5) 6 (riN S) x6) 7 (riN S) x7) 8 (riN S) x8
theorem ringOK_iff : ringOK S x1 x2 x3 x4 x5 x6 x7 x8 = true ↔ (¬ S 0 1 = 0 ∧ S 0 12 = -1 ∧ ¬ S 0 7 = 7) ∧ (inB x1 1 20 && (inB x2 1 999 && inB x3 1 999)) = true ∧ (inB x4 1 999 && (inB x5 (-50) 99 && inB x6 0 9)) = true ∧ (inB x7 1 9999999 && inB x8 1 99) = true := by
  unfold ringOK
  simp only [Bool.and_eq_true, Bool.not_eq_true', decide_eq_true_eq, decide_eq_false_iff_not, and_assoc]
theorem ringS_eq : ringS S x1 x2 x3 x4 x5 x6 x7 x8 = up2 (up2 (ring8 S x1 x2 x3 x4 x5 x6 x7 x8) 9 (riN S) (loadS (ring8 S x1 x2 x3 x4 x5 x6 x7 x8) (riN S))) 0 7 (S 0 7 + 1) := by
  have e : loadS (ring0 S x1 x2 x3 x4 x5 x6 x7 x8) (riN S) = loadS (ring8 S x1 x2 x3 x4 x5 x6 x7 x8) (riN S) := rfl
  unfold ringS
  rw [e]
  unfold ring0
  funext a k
  by_cases h0 : a = 0
  · subst h0
    rw [up2_a (by decide)]
    by_cases h7 : k = 7
    · subst h7; rw [up2_s, up2_s]
    · rw [up2_k h7, up2_k h7, up2_a (by decide), up2_a (by decide)]
      rfl
  · rw [up2_a (a := 0) h0]
    by_cases h9 : a = 9
    · subst h9
      by_cases hk : k = riN S
      · subst hk; rw [up2_s, up2_s]
      · rw [up2_k hk, up2_k hk, up2_a (by decide), up2_k hk]
        rfl
    · rw [up2_a h9, up2_a h9, up2_a h0, up2_a h9]
      rfl
theorem f_ring_in (hZ : Shp Z) (hl : riN S < 7) (h7 : S 0 7 = iN (riN S)) {x9 x10 x11 : Int32} : run 3 100 146 [.ref 32, .int x1, .int x2, .int x3, .int x4, .int x5, .int x6, .int x7, .int x8, .int x9, .int x10, .int x11, .ref (38 + riN S)] [] (embB 33 I S, G, Z) = some (some (.int (S 0 7)), (embB 33 I (ringS S x1 x2 x3 x4 x5 x6 x7 x8), G, Z)) := by
  refine Eq.trans (b100_146 (hZ.kring hl)) ?_
  have e1 : call 30 [.ref (38 + riN S), .int x1, .int x2, .int x3] (embB 33 I S, G, Z) = some (none, (embB 33 I (up2 (up2 (up2 S 1 (riN S) x1) 2 (riN S) x2) 3 (riN S) x3), G, Z)) := by
    refine Eq.trans e30 (Eq.trans (b30_0 (hZ.kring hl)) (Eq.trans b30_15 ?_))
    rw [wI_t, wI_t, wI_t, wfeet hl, wst hl (by decide) (by decide), wst hl (by decide) (by decide)]
  rw [e1]
  refine Eq.trans (b100_154 (hZ.kring hl)) ?_
  have e2 : call 31 [.ref (38 + riN S), .int x4, .int x5, .int x6] (embB 33 I (up2 (up2 (up2 S 1 (riN S) x1) 2 (riN S) x2) 3 (riN S) x3), G, Z) = some (none, (embB 33 I (up2 (up2 (up2 (up2 (up2 (up2 S 1 (riN S) x1) 2 (riN S) x2) 3 (riN S) x3) 4 (riN S) x4) 5 (riN S) x5) 6 (riN S) x6), G, Z)) := by
    refine Eq.trans e31 (Eq.trans (b31_0 (hZ.kring hl)) (Eq.trans b31_15 ?_))
    rw [wI_t, wI_t, wI_t, wst hl (by decide) (by decide), wst hl (by decide) (by decide), wst hl (by decide) (by decide)]
  rw [e2]
  refine Eq.trans (b100_165 (hZ.kring hl)) ?_
  have e3 : call 32 [.ref (38 + riN S), .int x7, .int x8] (embB 33 I (up2 (up2 (up2 (up2 (up2 (up2 S 1 (riN S) x1) 2 (riN S) x2) 3 (riN S) x3) 4 (riN S) x4) 5 (riN S) x5) 6 (riN S) x6), G, Z) = some (none, (embB 33 I (ring8 S x1 x2 x3 x4 x5 x6 x7 x8), G, Z)) := by
    refine Eq.trans e32 (Eq.trans (b32_0 (hZ.kring hl)) ?_)
    rw [wI_t, wI_t, wst hl (by decide) (by decide), wst hl (by decide) (by decide)]
    rfl
  rw [e3]
  refine Eq.trans (b100_174 hZ.k32 hZ.kr32_0 (by rw [hZ.r32_0, hZ.r33_0]; exact hZ.k34)) ?_
  rw [hZ.r32_0, hZ.r33_0, t_raise hZ (T := ring8 S x1 x2 x3 x4 x5 x6 x7 x8) (show ring8 S x1 x2 x3 x4 x5 x6 x7 x8 0 7 = iN (riN S) from h7) hl]
  refine Eq.trans b100_186 ?_
  rw [ringS_eq, ← h7]
  rfl
theorem f_ring (hZ : Shp Z) (hw : Wf0 S) : call 100 [.ref 32, .int x1, .int x2, .int x3, .int x4, .int x5, .int x6, .int x7, .int x8] (embB 33 I S, G, Z) = if ringOK S x1 x2 x3 x4 x5 x6 x7 x8 = true then some (some (.int (S 0 7)), (embB 33 I (ringS S x1 x2 x3 x4 x5 x6 x7 x8), G, Z)) else some (some (.int (-1)), (embB 33 I S, G, Z)) := by
  refine Eq.trans e100 (Eq.trans fr_a (Eq.trans fr_b (Eq.trans fr_c (Eq.trans b100_108 ?_))))
  by_cases hA : (inB x1 1 20 && (inB x2 1 999 && inB x3 1 999)) = true
  · rw [hA]
    refine Eq.trans (if_neg (by decide)) (Eq.trans b100_115 ?_)
    by_cases hB : (inB x4 1 999 && (inB x5 (-50) 99 && inB x6 0 9)) = true
    · rw [hB]
      refine Eq.trans (if_neg (by decide)) (Eq.trans b100_120 ?_)
      by_cases hC : (inB x7 1 9999999 && inB x8 1 99) = true
      · rw [hC]
        refine Eq.trans (if_pos (by decide)) (Eq.trans (b100_127 hZ.k32 hZ.kr32_0 (by rw [hZ.r32_0, hZ.r33_0]; exact hZ.k34)) ?_)
        rw [hZ.r32_0, hZ.r33_0, t_next hZ hw]
        refine Eq.trans b100_137 ?_
        by_cases hP : ¬ S 0 1 = 0 ∧ S 0 12 = -1 ∧ ¬ S 0 7 = 7
        · have hr := hw.1.2
          have hl : riN S < 7 := by
            rcases Nat.lt_or_ge (riN S) 7 with q | q
            · exact q
            · exact absurd (by rw [hw.1.1, show riN S = 7 by omega]; rfl) hP.2.2
          refine Eq.trans ?_ (if_pos (ringOK_iff.mpr ⟨hP, hA, hB, hC⟩)).symm
          simp only [if_pos hP]
          refine Eq.trans (if_neg (by omega)) ?_
          exact f_ring_in hZ hl hw.1.1
        · refine Eq.trans ?_ (if_neg (fun q => hP (ringOK_iff.mp q).1)).symm
          simp only [if_neg hP]
          exact Eq.trans (if_pos trivial) b100_144
      · refine Eq.trans ?_ (if_neg (fun q => hC (ringOK_iff.mp q).2.2.2)).symm
        rw [Bool.eq_false_iff.mpr hC]
        exact Eq.trans (if_neg (by decide)) b100_125
    · refine Eq.trans ?_ (if_neg (fun q => hB (ringOK_iff.mp q).2.2.1)).symm
      rw [Bool.eq_false_iff.mpr hB]
      exact Eq.trans (if_pos (by decide)) b100_125
  · refine Eq.trans ?_ (if_neg (fun q => hA (ringOK_iff.mp q).2.1)).symm
    rw [Bool.eq_false_iff.mpr hA]
    exact Eq.trans (if_pos (by decide)) b100_125
theorem pourOK_iff {x h : Int32} : pourOK S x h = true ↔ ¬ S 0 1 = 0 ∧ (S 0 12 = -1 ∧ ¬ S 0 8 = 30 ∧ ¬ low S (riN S) < dep S + x) ∧ inB x 1 99 = true ∧ inB h (-50) 199 = true := by
  unfold pourOK
  simp only [Bool.and_eq_true, Bool.not_eq_true', decide_eq_true_eq, decide_eq_false_iff_not]
  constructor
  · rintro ⟨a, b, c, d, e, f⟩; exact ⟨a, ⟨b, c, f⟩, d, e⟩
  · rintro ⟨a, ⟨b, c, f⟩, d, e⟩; exact ⟨a, b, c, d, e, f⟩
theorem f_pour (hZ : Shp Z) (hw : Wf0 S) (h1 : Wf1 S) (h2 : Wf2 S) (hf : (S 0 11).toInt < 100000) {x h : Int32} : call 101 [.ref 32, .int x, .int h] (embB 33 I S, G, Z) = if pourOK S x h = true then some (some (.int (dep (pour0 S x h))), (embB 33 I (settle (pour0 S x h)), G, Z)) else some (some (.int (-1)), (embB 33 I S, G, Z)) := by
  refine Eq.trans e101 (Eq.trans b101_0 ?_)
  rw [c_within, l32_1, l32_99]
  refine Eq.trans b101_7 ?_
  by_cases ha : inB x 1 99 = true
  · rw [ha]
    refine Eq.trans (if_neg (by decide)) (Eq.trans b101_10 ?_)
    rw [c_within, l32_m50, l32_199]
    refine Eq.trans b101_19 ?_
    by_cases hb : inB h (-50) 199 = true
    · rw [hb]
      refine Eq.trans (if_pos (by decide)) (Eq.trans (b101_24 hZ.k32 hZ.kr32_0 (by rw [hZ.r32_0, hZ.r33_0]; exact hZ.k34)) ?_)
      rw [hZ.r32_0, hZ.r33_0, t_pour hZ hw h1 hf]
      by_cases hP : S 0 12 = -1 ∧ ¬ S 0 8 = 30 ∧ ¬ low S (riN S) < dep S + x
      · have ht : ¬ S 0 1 = 0 := by
          intro q
          obtain ⟨h7, h8, -, -, -⟩ := h2.2.2 q
          have r0 : riN S = 0 := by unfold riN; rw [h7]; rfl
          have l0 : laN S = 0 := by unfold laN; rw [h8]; rfl
          refine hP.2.2 ?_
          unfold dep
          rw [r0, l0]
          show (0 : Int32) < 0 + x
          have := inB_iff.mp ha
          rw [ti_lt, ti_add (by rw [l32_0]; omega) (by rw [l32_0]; omega), l32_0]
          omega
        rw [if_pos hP]
        refine Eq.trans ?_ (if_pos (pourOK_iff.mpr ⟨ht, hP, ha, hb⟩)).symm
        exact b101_36
      · rw [if_neg hP]
        refine Eq.trans ?_ (if_neg (fun q => hP (pourOK_iff.mp q).2.1)).symm
        exact b101_36
    · refine Eq.trans ?_ (if_neg (fun q => hb (pourOK_iff.mp q).2.2.2)).symm
      rw [Bool.eq_false_iff.mpr hb]
      exact Eq.trans (if_neg (by decide)) b101_22
  · refine Eq.trans ?_ (if_neg (fun q => ha (pourOK_iff.mp q).2.2.1)).symm
    rw [Bool.eq_false_iff.mpr ha]
    exact Eq.trans (if_pos (by decide)) b101_22
end FR2
