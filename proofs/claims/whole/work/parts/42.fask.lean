/-! THE FACE'S layer AND told -/
/-- a burst's load is the load still -/
def Wf3 (S : aS) : Prop := ¬ S 0 12 = -1 → S 0 14 = loadS S (S 0 12).toNatClampNeg
theorem inB_cnt {x k : Int32} {n : Nat} (h : x = iN n) (hn : n ≤ 100000) : inB k 0 (x - 1).toInt = true ↔ ¬ k < 0 ∧ k < x := by
  rw [inB_iff, cnt_pred h hn, ti_lt, ti_lt, h, iN_int (by omega), l32_0]
  omega
section FA
variable {I : aI} {G : aL} {Z : aZ} {S : aS}
theorem t_hasRing (hZ : Shp Z) (hw : Wf0 S) {k : Int32} : call 48 [.ref 34, .int k] (embB 33 I S, G, Z) = some (some (.int (bI (isRg S k))), (embB 33 I S, G, Z)) := by
  have h7 := hw.1.2
  have hi := inB_cnt (k := k) hw.1.1 (by omega)
  refine Eq.trans e48 (Eq.trans b48_0 ?_)
  unfold isRg
  by_cases h0 : k < 0
  · rw [Bool.eq_false_iff.mpr (fun q => (hi.mp q).1 h0)]
    exact Eq.trans (if_pos h0) (Eq.trans b48_16 (b48_17 rfl))
  · refine Eq.trans (if_neg h0) (Eq.trans (b48_4 hZ.k34) ?_)
    simp only [mI_t, mL_t, ct3, ct4, ct5, ct6, ct7, ct8, ct9, ct10, ct11, ct13, ct15, ct16, ct17, ct18, ct12, ct14, cs5, cs6, cs7, cs8, cw3, ca46, ca47, ca48, ca52, ca53, ca54, ca55, ca56, hZ.k33, hZ.r33_0, hZ.r33_1, hZ.r33_2, hZ.r33_3, hZ.r33_4, hZ.k34, hZ.r34_0, hZ.r34_1, hZ.r34_2]
    by_cases h1 : k < S 0 7
    · rw [hi.mpr ⟨h0, h1⟩]
      exact Eq.trans (if_neg (fun q => q h1)) (Eq.trans b48_12 (b48_17 rfl))
    · rw [Bool.eq_false_iff.mpr (fun q => h1 (hi.mp q).2)]
      exact Eq.trans (if_pos h1) (Eq.trans b48_16 (b48_17 rfl))
theorem t_layer (hZ : Shp Z) (hw : Wf0 S) {k w : Int32} : call 67 [.ref 34, .int k, .int w] (embB 33 I S, G, Z) = some (some (.int (if layOK S k w = true then (if w = 0 then S 10 k.toNatClampNeg else S 11 k.toNatClampNeg) else -1000)), (embB 33 I S, G, Z)) := by
  have h30 := hw.2.2
  have hi := inB_cnt (k := k) hw.2.1 (by omega)
  have hq : layOK S k w = true ↔ inB k 0 (S 0 8 - 1).toInt = true ∧ inB w 0 1 = true := by unfold layOK; rw [Bool.and_eq_true]
  have hv : inB w 0 1 = true ↔ ¬ w < 0 ∧ ¬ 1 < w := by rw [inB_iff, ti_lt, ti_lt, l32_0, l32_1]; omega
  refine Eq.trans e67 (Eq.trans b67_0 ?_)
  by_cases h0 : k < 0
  · rw [if_neg (show ¬ layOK S k w = true from fun q => (hi.mp (hq.mp q).1).1 h0)]
    exact Eq.trans (if_pos h0) b67_21
  · refine Eq.trans (if_neg h0) (Eq.trans (b67_4 hZ.k34) ?_)
    simp only [mI_t, mL_t, ct3, ct4, ct5, ct6, ct7, ct8, ct9, ct10, ct11, ct13, ct15, ct16, ct17, ct18, ct12, ct14, cs5, cs6, cs7, cs8, cw3, ca46, ca47, ca48, ca52, ca53, ca54, ca55, ca56, hZ.k33, hZ.r33_0, hZ.r33_1, hZ.r33_2, hZ.r33_3, hZ.r33_4, hZ.k34, hZ.r34_0, hZ.r34_1, hZ.r34_2]
    by_cases h1 : k < S 0 8
    · obtain ⟨j, hj, rfl⟩ := cnt_ex hw.2.1 (by omega) (hi.mpr ⟨h0, h1⟩)
      have hb : ib (iN j) 30 := ib_iN (by omega) (by omega)
      refine Eq.trans (if_neg (fun q => q h1)) (Eq.trans b67_12 ?_)
      by_cases h2 : w < 0
      · rw [if_neg (show ¬ layOK S (iN j) w = true from fun q => (hv.mp (hq.mp q).2).1 h2)]
        exact Eq.trans (if_pos h2) b67_21
      · refine Eq.trans (if_neg h2) (Eq.trans b67_16 ?_)
        by_cases h3 : 1 < w
        · rw [if_neg (show ¬ layOK S (iN j) w = true from fun q => (hv.mp (hq.mp q).2).2 h3)]
          exact Eq.trans (if_neg (fun q => q h3)) b67_21
        · rw [if_pos (hq.mpr ⟨hi.mpr ⟨h0, h1⟩, hv.mpr ⟨h2, h3⟩⟩), iN_clamp (show j < 2147483648 by omega)]
          refine Eq.trans (if_pos h3) (Eq.trans b67_25 ?_)
          by_cases h4 : w = 0
          · rw [if_pos h4]
            refine Eq.trans (if_neg (fun q => q h4)) (Eq.trans (b67_29 hZ.k34 hZ.kr34_1 (hZ.ir34_1 hb)) (Eq.trans b67_44 ?_))
            simp only [mI_t, mL_t, ct3, ct4, ct5, ct6, ct7, ct8, ct9, ct10, ct11, ct13, ct15, ct16, ct17, ct18, ct12, ct14, cs5, cs6, cs7, cs8, cw3, ca46, ca47, ca48, ca52, ca53, ca54, ca55, ca56, hZ.k33, hZ.r33_0, hZ.r33_1, hZ.r33_2, hZ.r33_3, hZ.r33_4, hZ.k34, hZ.r34_0, hZ.r34_1, hZ.r34_2, iN_clamp (show j < 2147483648 by omega), cl36 hj]
          · rw [if_neg h4]
            refine Eq.trans (if_pos h4) (Eq.trans (b67_38 hZ.k34 hZ.kr34_2 (hZ.ir34_2 hb)) (Eq.trans b67_44 ?_))
            simp only [mI_t, mL_t, ct3, ct4, ct5, ct6, ct7, ct8, ct9, ct10, ct11, ct13, ct15, ct16, ct17, ct18, ct12, ct14, cs5, cs6, cs7, cs8, cw3, ca46, ca47, ca48, ca52, ca53, ca54, ca55, ca56, hZ.k33, hZ.r33_0, hZ.r33_1, hZ.r33_2, hZ.r33_3, hZ.r33_4, hZ.k34, hZ.r34_0, hZ.r34_1, hZ.r34_2, iN_clamp (show j < 2147483648 by omega), cl37 hj]
    · rw [if_neg (show ¬ layOK S k w = true from fun q => h1 (hi.mp (hq.mp q).1).2)]
      exact Eq.trans (if_pos h1) b67_21
theorem f_layer (hZ : Shp Z) (hw : Wf0 S) {k w : Int32} : call 106 [.ref 32, .int k, .int w] (embB 33 I S, G, Z) = some (some (.int (if layOK S k w = true then (if w = 0 then S 10 k.toNatClampNeg else S 11 k.toNatClampNeg) else -1000)), (embB 33 I S, G, Z)) := by
  refine Eq.trans e106 (Eq.trans (b106_0 hZ.k32 hZ.kr32_0 (by rw [hZ.r32_0, hZ.r33_0]; exact hZ.k34)) ?_)
  rw [hZ.r32_0, hZ.r33_0, t_layer hZ hw]
  exact b106_12
theorem t_told (hZ : Shp Z) (hw : Wf0 S) (hf1 : Wf1 S) (hf3 : Wf3 S) {k w : Int32} : call 68 [.ref 34, .int k, .int w] (embB 33 I S, G, Z) = some (some (.int (if isRg S k = true then toldS S k w else -1000)), (embB 33 I S, G, Z)) := by
  refine Eq.trans e68 (Eq.trans (b68_0 hZ.k34) ?_)
  rw [t_hasRing hZ hw]
  refine Eq.trans b68_5 ?_
  by_cases h : isRg S k = true
  · rw [if_pos h, h]
    refine Eq.trans (if_pos (by decide)) ?_
    obtain ⟨j, hj, hj7, rfl⟩ := isRg_ex hw h
    have hb : ib (iN j) 7 := ib_iN (by omega) hj7
    have hc : (iN j).toNatClampNeg = j := iN_clamp (by omega)
    have hb3 := (hf1.2.2 j hj).2.1
    unfold toldS
    rw [hc]
    by_cases h0 : w = 0
    · rw [if_pos h0]
      refine Eq.trans (b68_12_c0 hZ.k34 hZ.kr34_0 (hZ.ir34_0 hb) h0) (Eq.trans (b68_60 hZ.k34) ?_)
      rw [hc, hZ.ring hj7, t_load hZ hj7 hj]
      exact b68_65
    · rw [if_neg h0]
      by_cases h1 : w = 1
      · rw [if_pos h1]
        refine Eq.trans (b68_12_c1 hZ.k34 hZ.kr34_0 (hZ.ir34_0 hb) h1) (Eq.trans (b68_66 hZ.k34) ?_)
        rw [hc, hZ.ring hj7, t_bears hZ hw hf1 hj7 hj]
        exact b68_71
      · rw [if_neg h1]
        by_cases h2 : w = 2
        · rw [if_pos h2]
          refine Eq.trans (b68_12_c2 hZ.k34 hZ.kr34_0 (hZ.ir34_0 hb) h2) (Eq.trans (b68_72 hZ.k34) ?_)
          rw [hc, hZ.ring hj7, t_steel hZ hw hj7 hj]
          exact b68_77
        · rw [if_neg h2]
          by_cases h3 : w = 3
          · rw [if_pos h3]
            refine Eq.trans (b68_12_c3 hZ.k34 hZ.kr34_0 (hZ.ir34_0 hb) h3) ?_
            rw [hc, hZ.ring hj7]
            refine Eq.trans (b68_78 (hZ.kring hj7) hZ.k34) ?_
            rw [mI_t, cr_f hj7 (by decide) (by decide), t_plate hZ hw hf1 hj7 hj (by omega) (by omega)]
            exact b68_87
          · rw [if_neg h3]
            by_cases h4 : w = 4
            · rw [if_pos h4]
              refine Eq.trans (b68_12_c4 hZ.k34 hZ.kr34_0 (hZ.ir34_0 hb) h4) ?_
              rw [hc, hZ.ring hj7]
              refine Eq.trans (b68_88 (hZ.kring hj7)) ?_
              rw [mI_t, cr_f hj7 (by decide) (by decide)]
            · rw [if_neg h4]
              by_cases h5 : w = 5
              · rw [if_pos h5]
                refine Eq.trans (b68_12_c5 hZ.k34 hZ.kr34_0 (hZ.ir34_0 hb) h5) ?_
                rw [hc, hZ.ring hj7]
                refine Eq.trans (b68_93 hZ.k34) ?_
                simp only [mI_t, mL_t, ct3, ct4, ct5, ct6, ct7, ct8, ct9, ct10, ct11, ct13, ct15, ct16, ct17, ct18, ct12, ct14, cs5, cs6, cs7, cs8, cw3, ca46, ca47, ca48, ca52, ca53, ca54, ca55, ca56, hZ.k33, hZ.r33_0, hZ.r33_1, hZ.r33_2, hZ.r33_3, hZ.r33_4, hZ.k34, hZ.r34_0, hZ.r34_1, hZ.r34_2]
                by_cases hB : S 0 12 = iN j
                · rw [if_pos hB]
                  refine Eq.trans (if_neg (fun q => q hB.symm)) (Eq.trans (b68_101 hZ.k34) ?_)
                  have hl : S 0 14 = loadS S j := by
                    have := hf3 (by rw [hB]; exact iN_ne1 (by omega))
                    rw [hB, hc] at this
                    exact this
                  rw [t_load hZ hj7 hj, hl]
                  exact Eq.trans b68_106 b68_110
                · rw [if_neg hB]
                  exact Eq.trans (if_pos (fun q => hB q.symm)) (Eq.trans b68_109 b68_110)
              · rw [if_neg h5]
                have n0 := sw_ne (n := 0) (by decide) h0
                have n1 := sw_ne (n := 1) (by decide) h1
                have n2 := sw_ne (n := 2) (by decide) h2
                have n3 := sw_ne (n := 3) (by decide) h3
                have n4 := sw_ne (n := 4) (by decide) h4
                have n5 := sw_ne (n := 5) (by decide) h5
                exact Eq.trans (b68_12_d hZ.k34 hZ.kr34_0 (hZ.ir34_0 hb) (by omega)) b68_111
  · rw [if_neg h, Bool.eq_false_iff.mpr h]
    exact Eq.trans (if_neg (by decide)) b68_8
theorem f_told (hZ : Shp Z) (hw : Wf0 S) (hf1 : Wf1 S) (hf3 : Wf3 S) {k w : Int32} : call 107 [.ref 32, .int k, .int w] (embB 33 I S, G, Z) = some (some (.int (if isRg S k = true then toldS S k w else -1000)), (embB 33 I S, G, Z)) := by
  refine Eq.trans e107 (Eq.trans (b107_0 hZ.k32 hZ.kr32_0 (by rw [hZ.r32_0, hZ.r33_0]; exact hZ.k34)) ?_)
  rw [hZ.r32_0, hZ.r33_0, t_told hZ hw hf1 hf3]
  exact b107_12
end FA
