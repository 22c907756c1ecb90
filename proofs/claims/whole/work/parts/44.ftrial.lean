/-! THE FACE'S trial -/
theorem i32_or0 {x : Int32} : x ||| 0 = x := Int32.or_zero
section FT
variable {I : aI} {G : aL} {Z : aZ} {S : aS}
theorem t_trial (hZ : Shp Z) (hw : Wf0 S) (hf1 : Wf1 S) {f w : Int32} : call 71 [.ref 34, .int f, .int w] (embB 33 I S, G, Z) = some (some (.int (if S 0 7 = 0 then -1 else triF S f w (riN S))), (embB 33 I S, G, Z)) := by
  have h7 := hw.1.2
  refine Eq.trans e71 (Eq.trans (b71_0 hZ.k34) ?_)
  simp only [mI_t, mL_t, ct3, ct4, ct5, ct6, ct7, ct8, ct9, ct10, ct11, ct13, ct15, ct16, ct17, ct18, ct12, ct14, cs5, cs6, cs7, cs8, cw3, ca46, ca47, ca48, ca52, ca53, ca54, ca55, ca56, hZ.k33, hZ.r33_0, hZ.r33_1, hZ.r33_2, hZ.r33_3, hZ.r33_4, hZ.k34, hZ.r34_0, hZ.r34_1, hZ.r34_2]
  by_cases h0 : S 0 7 = 0
  · refine Eq.trans (if_neg (fun q => q h0)) ?_
    rw [if_pos h0]
    exact b71_7
  · refine Eq.trans (if_pos h0) ?_
    rw [if_neg h0]
    refine Eq.trans b71_9 ?_
    have key : ∀ d i v, i + d = riN S → run 4 71 14 [.ref 34, .int f, .int w, .int (triF S f w i), .int (iN i), v] [] (embB 33 I S, G, Z) = some (some (.int (triF S f w (riN S))), (embB 33 I S, G, Z)) := by
      intro d
      induction d with
      | zero =>
        intro i v hi
        refine Eq.trans (b71_14 hZ.k34) ?_
        simp only [mI_t, mL_t, ct3, ct4, ct5, ct6, ct7, ct8, ct9, ct10, ct11, ct13, ct15, ct16, ct17, ct18, ct12, ct14, cs5, cs6, cs7, cs8, cw3, ca46, ca47, ca48, ca52, ca53, ca54, ca55, ca56, hZ.k33, hZ.r33_0, hZ.r33_1, hZ.r33_2, hZ.r33_3, hZ.r33_4, hZ.k34, hZ.r34_0, hZ.r34_1, hZ.r34_2]
        rw [hw.1.1, show i = riN S by omega]
        exact Eq.trans (if_pos (iN_nlt (by omega))) b71_77
      | succ d ih =>
        intro i v hi
        have hlt : iN i < iN (riN S) := (iN_lt (by omega) (by omega)).mpr (by omega)
        have hb : ib (iN i) 7 := ib_iN (by omega) (by omega)
        have hc : (iN i).toNatClampNeg = i := iN_clamp (by omega)
        have i7 : i < 7 := by omega
        have ir : i < riN S := by omega
        refine Eq.trans (b71_14 hZ.k34) ?_
        simp only [mI_t, mL_t, ct3, ct4, ct5, ct6, ct7, ct8, ct9, ct10, ct11, ct13, ct15, ct16, ct17, ct18, ct12, ct14, cs5, cs6, cs7, cs8, cw3, ca46, ca47, ca48, ca52, ca53, ca54, ca55, ca56, hZ.k33, hZ.r33_0, hZ.r33_1, hZ.r33_2, hZ.r33_3, hZ.r33_4, hZ.k34, hZ.r34_0, hZ.r34_1, hZ.r34_2]
        rw [hw.1.1]
        refine Eq.trans (if_neg (fun q => q hlt)) (Eq.trans (b71_23 hZ.k34 hZ.kr34_0 (hZ.ir34_0 hb) (by rw [hc, hZ.ring i7]; exact hZ.kring i7)) ?_)
        rw [hc, hZ.ring i7, t_bears hZ hw hf1 i7 ir]
        refine Eq.trans b71_61 ?_
        simp only [mI_t, mL_t, ct3, ct4, ct5, ct6, ct7, ct8, ct9, ct10, ct11, ct13, ct15, ct16, ct17, ct18, ct12, ct14, cs5, cs6, cs7, cs8, cw3, ca46, ca47, ca48, ca52, ca53, ca54, ca55, ca56, hZ.k33, hZ.r33_0, hZ.r33_1, hZ.r33_2, hZ.r33_3, hZ.r33_4, hZ.k34, hZ.r34_0, hZ.r34_1, hZ.r34_2, cr_0 i7 ir]
        rw [max0]
        have el : (if f - low S i < 0 then 0 else f - low S i) * w * S 0 2 = ldB (f - low S i) w 0 (S 0 2) := by
          unfold ldB
          rw [i32_add0]
        rw [el]
        have nx := ih (i + 1) (.int (ldB (f - low S i) w 0 (S 0 2))) (by omega)
        rw [triF] at nx
        by_cases h : bearsS S i < ldB (f - low S i) w 0 (S 0 2)
        · rw [if_pos h] at nx
          refine Eq.trans (if_neg (fun q => q h)) (Eq.trans b71_64 (Eq.trans b71_71 ?_))
          rw [iN_succ]
          exact nx
        · rw [if_neg h, i32_or0] at nx
          refine Eq.trans (if_pos h) (Eq.trans b71_71 ?_)
          rw [iN_succ]
          exact nx
    exact key (riN S) 0 xU (by omega)
theorem f_trial (hZ : Shp Z) (hw : Wf0 S) (hf1 : Wf1 S) {f w : Int32} : call 120 [.ref 32, .int f, .int w] (embB 33 I S, G, Z) = some (some (.int (if trialOK S f w = true then triF S f w (riN S) else -1)), (embB 33 I S, G, Z)) := by
  have hq : (mK (embB 33 I S, G, Z) (mR (embB 33 I S, G, Z) (mR (embB 33 I S, G, Z) 32 0) 0) = 6) := by rw [hZ.r32_0, hZ.r33_0]; exact hZ.k34
  have ok : trialOK S f w = true ↔ ¬ S 0 7 = 0 ∧ inB f 0 (low S (riN S)).toInt = true ∧ inB w 1 99 = true := by
    unfold trialOK
    simp only [Bool.and_eq_true, Bool.not_eq_true', decide_eq_false_iff_not]
  have hi : inB f 0 (low S (riN S)).toInt = true ↔ ¬ f < 0 ∧ ¬ low S (riN S) < f := by
    rw [inB_iff, ti_lt, ti_lt, l32_0]
    omega
  refine Eq.trans e120 (Eq.trans b120_0 ?_)
  by_cases h0 : f < 0
  · rw [if_neg (show ¬ trialOK S f w = true from fun q => (hi.mp (ok.mp q).2.1).1 h0)]
    exact Eq.trans (if_pos h0) b120_28
  · refine Eq.trans (if_neg h0) (Eq.trans (b120_4 hZ.k32 hZ.kr32_0 hq) ?_)
    rw [hZ.r32_0, hZ.r33_0, mI_t, ct12]
    by_cases h1 : low S (riN S) < f
    · rw [if_neg (show ¬ trialOK S f w = true from fun q => (hi.mp (ok.mp q).2.1).2 h1)]
      exact Eq.trans (if_pos h1) b120_28
    · refine Eq.trans (if_neg h1) (Eq.trans b120_18 ?_)
      rw [c_within, l32_1, l32_99]
      refine Eq.trans b120_25 ?_
      by_cases h2 : inB w 1 99 = true
      · rw [h2]
        refine Eq.trans (if_pos (by decide)) (Eq.trans (b120_30 hZ.k32 hZ.kr32_0 hq) ?_)
        rw [hZ.r32_0, hZ.r33_0, t_trial hZ hw hf1]
        refine Eq.trans b120_42 ?_
        by_cases h3 : S 0 7 = 0
        · rw [if_pos h3, if_neg (fun q => (ok.mp q).1 h3)]
        · rw [if_neg h3, if_pos (ok.mpr ⟨h3, hi.mpr ⟨h0, h1⟩, h2⟩)]
      · rw [if_neg (show ¬ trialOK S f w = true from fun q => h2 (ok.mp q).2.2), Bool.eq_false_iff.mpr h2]
        exact Eq.trans (if_neg (by decide)) b120_28
end FT
