/-! THE CLASS'S TANK over S: what its small methods tell is what the reference's tell -/
def Wf1 (S : aS) : Prop := (0 ≤ (S 0 4).toInt ∧ (S 0 4).toInt ≤ 999) ∧ (0 ≤ (S 0 11).toInt ∧ (S 0 11).toInt ≤ 100000) ∧ ∀ k, k < riN S → (1 ≤ (S 1 k).toInt ∧ (S 1 k).toInt ≤ 20) ∧ (1 ≤ (S 3 k).toInt ∧ (S 3 k).toInt ≤ 999) ∧ (1 ≤ (S 4 k).toInt ∧ (S 4 k).toInt ≤ 999) ∧ (0 ≤ (S 6 k).toInt ∧ (S 6 k).toInt ≤ 9) ∧ (1 ≤ (S 7 k).toInt ∧ (S 7 k).toInt ≤ 9999999) ∧ 1 ≤ (S 8 k).toInt ∧ (S 8 k).toInt ≤ 99
section CT
variable {I : aI} {G : aL} {Z : aZ} {S : aS}
theorem t_hasBurst (hZ : Shp Z) : call 50 [.ref 34] (embB 33 I S, G, Z) = some (some (.int (bI (!decide (S 0 12 = -1)))), (embB 33 I S, G, Z)) := by
  refine Eq.trans e50 (Eq.trans (b50_0 hZ.k34) ?_)
  simp only [mI_t, mL_t, ct3, ct4, ct5, ct6, ct7, ct8, ct9, ct10, ct11, ct13, ct15, ct16, ct17, ct18, ct12, ct14, cs5, cs6, cs7, cs8, cw3, ca46, ca47, ca48, ca52, ca53, ca54, ca55, ca56, hZ.k33, hZ.r33_0, hZ.r33_1, hZ.r33_2, hZ.r33_3, hZ.r33_4, hZ.k34, hZ.r34_0, hZ.r34_1, hZ.r34_2]
  by_cases h : S 0 12 = -1
  · refine Eq.trans (if_pos h) ?_
    rw [decide_eq_true h]
    exact Eq.trans b50_12 (b50_13 rfl)
  · refine Eq.trans (if_neg h) ?_
    rw [decide_eq_false h]
    exact Eq.trans b50_8 (b50_13 rfl)
theorem t_load (hZ : Shp Z) {k : Nat} (hk : k < 7) (hr : k < riN S) : call 61 [.ref 34, .ref (38 + k)] (embB 33 I S, G, Z) = some (some (.int (loadS S k)), (embB 33 I S, G, Z)) := by
  refine Eq.trans e61 (Eq.trans (b61_0 hZ.k34 (hZ.kring hk)) ?_)
  simp only [mI_t, mL_t, ct3, ct4, ct5, ct6, ct7, ct8, ct9, ct10, ct11, ct13, ct15, ct16, ct17, ct18, ct12, ct14, cs5, cs6, cs7, cs8, cw3, ca46, ca47, ca48, ca52, ca53, ca54, ca55, ca56, hZ.k33, hZ.r33_0, hZ.r33_1, hZ.r33_2, hZ.r33_3, hZ.r33_4, hZ.k34, hZ.r34_0, hZ.r34_1, hZ.r34_2, cr_0 hk hr]
  unfold loadS ldB
  rw [max0]
theorem t_steel (hZ : Shp Z) (hw : Wf0 S) {k : Nat} (hk : k < 7) (hr : k < riN S) : call 63 [.ref 34, .ref (38 + k)] (embB 33 I S, G, Z) = some (some (.int (steelS S k)), (embB 33 I S, G, Z)) := by
  refine Eq.trans e63 (Eq.trans b63_0 ?_)
  have hn := hw.2.2
  have key : ∀ d i, i + d = laN S → run 1 63 4 [.ref 34, .ref (38 + k), .int (sumI (S 10) i), .int (iN i)] [] (embB 33 I S, G, Z) = some (some (.int (stl (S 10) (S 11) (low S k) (S 0 10) d i)), (embB 33 I S, G, Z)) := by
    intro d
    induction d with
    | zero =>
      intro i hi
      refine Eq.trans (b63_4 hZ.k34) ?_
      simp only [mI_t, mL_t, ct3, ct4, ct5, ct6, ct7, ct8, ct9, ct10, ct11, ct13, ct15, ct16, ct17, ct18, ct12, ct14, cs5, cs6, cs7, cs8, cw3, ca46, ca47, ca48, ca52, ca53, ca54, ca55, ca56, hZ.k33, hZ.r33_0, hZ.r33_1, hZ.r33_2, hZ.r33_3, hZ.r33_4, hZ.k34, hZ.r34_0, hZ.r34_1, hZ.r34_2]
      rw [hw.2.1, show i = laN S by omega]
      exact Eq.trans (if_pos (iN_nlt (by omega))) (b63_49 hZ.k34)
    | succ d ih =>
      intro i hi
      have hlt : iN i < iN (laN S) := (iN_lt (by omega) (by omega)).mpr (by omega)
      have hb : ib (iN i) 30 := ib_iN (by omega) (by omega)
      refine Eq.trans (b63_4 hZ.k34) ?_
      simp only [mI_t, mL_t, ct3, ct4, ct5, ct6, ct7, ct8, ct9, ct10, ct11, ct13, ct15, ct16, ct17, ct18, ct12, ct14, cs5, cs6, cs7, cs8, cw3, ca46, ca47, ca48, ca52, ca53, ca54, ca55, ca56, hZ.k33, hZ.r33_0, hZ.r33_1, hZ.r33_2, hZ.r33_3, hZ.r33_4, hZ.k34, hZ.r34_0, hZ.r34_1, hZ.r34_2]
      rw [hw.2.1]
      refine Eq.trans (if_neg (fun h => h hlt)) (Eq.trans (b63_12 hZ.k34 hZ.kr34_1 (hZ.ir34_1 hb) (hZ.kring hk)) ?_)
      simp only [mI_t, mL_t, ct3, ct4, ct5, ct6, ct7, ct8, ct9, ct10, ct11, ct13, ct15, ct16, ct17, ct18, ct12, ct14, cs5, cs6, cs7, cs8, cw3, ca46, ca47, ca48, ca52, ca53, ca54, ca55, ca56, hZ.k33, hZ.r33_0, hZ.r33_1, hZ.r33_2, hZ.r33_3, hZ.r33_4, hZ.k34, hZ.r34_0, hZ.r34_1, hZ.r34_2, cr_0 hk hr, iN_clamp (show i < 2147483648 by omega), cl36 (show i < laN S by omega)]
      rw [stl, sumI]
      by_cases h : low S k < sumI (S 10) i + S 10 i
      · rw [if_pos h]
        refine Eq.trans (if_neg (fun q => q h)) (Eq.trans (b63_29 hZ.k34 hZ.kr34_2 (hZ.ir34_2 hb)) ?_)
        simp only [mI_t, mL_t, ct3, ct4, ct5, ct6, ct7, ct8, ct9, ct10, ct11, ct13, ct15, ct16, ct17, ct18, ct12, ct14, cs5, cs6, cs7, cs8, cw3, ca46, ca47, ca48, ca52, ca53, ca54, ca55, ca56, hZ.k33, hZ.r33_0, hZ.r33_1, hZ.r33_2, hZ.r33_3, hZ.r33_4, hZ.k34, hZ.r34_0, hZ.r34_1, hZ.r34_2, iN_clamp (show i < 2147483648 by omega), cl37 (show i < laN S by omega)]
      · rw [if_neg h]
        refine Eq.trans (if_pos h) (Eq.trans b63_43 ?_)
        rw [iN_succ]
        exact ih (i + 1) (by omega)
  exact key (laN S) 0 (by omega)
theorem div10 {x : Int32} (h : 0 ≤ x.toInt) : (x / 10).toInt = x.toInt / 10 := by
  rw [Int32.toInt_div_of_ne_right _ _ (by decide), l32_10, Int.tdiv_eq_ediv_of_nonneg h]
theorem div2 {x : Int32} (h : 0 ≤ x.toInt) : (x / 2).toInt = x.toInt / 2 := by
  rw [Int32.toInt_div_of_ne_right _ _ (by decide), l32_2, Int.tdiv_eq_ediv_of_nonneg h]
theorem pl_val {t s u : Int32} (ht : 0 ≤ t.toInt) (ht9 : t.toInt ≤ 99999) (hs : 1 ≤ s.toInt) (hs9 : s.toInt ≤ 999) (hu : 0 ≤ u.toInt) (hu9 : u.toInt ≤ 9) : (t * s * (10 - u) / 10).toInt = t.toInt * s.toInt * (10 - u.toInt) / 10 ∧ 0 ≤ t.toInt * s.toInt * (10 - u.toInt) := by
  have m1 := mul_b ht (show 0 ≤ s.toInt by omega) ht9 hs9
  have e1 : (t * s).toInt = t.toInt * s.toInt := ti_mul (by omega) (by omega)
  have e2 : (10 - u).toInt = 10 - u.toInt := by rw [ti_sub (by rw [l32_10]; omega) (by rw [l32_10]; omega), l32_10]
  have m2 := mul_b m1.1 (show 0 ≤ 10 - u.toInt by omega) m1.2 (show 10 - u.toInt ≤ 10 by omega)
  have e3 : (t * s * (10 - u)).toInt = t.toInt * s.toInt * (10 - u.toInt) := by rw [ti_mul (by rw [e1, e2]; omega) (by rw [e1, e2]; omega), e1, e2]
  exact ⟨by rw [div10 (by omega), e3], m2.1⟩
theorem t_plate (hZ : Shp Z) (hw : Wf0 S) (h1 : Wf1 S) {k : Nat} (hk : k < 7) (hr : k < riN S) {t : Int32} (ht : 0 ≤ t.toInt) (ht9 : t.toInt ≤ 99999) : call 64 [.ref 34, .ref (38 + k), .int t] (embB 33 I S, G, Z) = some (some (.int (plateS S k t)), (embB 33 I S, G, Z)) := by
  refine Eq.trans e64 (Eq.trans (b64_0 (hZ.kring hk) hZ.k34) ?_)
  rw [t_steel hZ hw hk hr]
  refine Eq.trans (b64_23 (hZ.kring hk)) ?_
  obtain ⟨hti, hfi, hrs⟩ := h1
  obtain ⟨-, -, hst, hho, -⟩ := hrs k hr
  have pv := pl_val ht ht9 hst.1 hst.2 hho.1 hho.2
  unfold plateS
  simp only [mI_t, mL_t, ct3, ct4, ct5, ct6, ct7, ct8, ct9, ct10, ct11, ct13, ct15, ct16, ct17, ct18, ct12, ct14, cs5, cs6, cs7, cs8, cw3, ca46, ca47, ca48, ca52, ca53, ca54, ca55, ca56, hZ.k33, hZ.r33_0, hZ.r33_1, hZ.r33_2, hZ.r33_3, hZ.r33_4, hZ.k34, hZ.r34_0, hZ.r34_1, hZ.r34_2, cr_f hk (show 0 < 4 by decide) (by decide), cr_f hk (show 0 < 5 by decide) (by decide), cr_f hk (show 0 < 6 by decide) (by decide), b64_30]
  by_cases h : steelS S k < S 5 k
  · rw [if_pos h]
    refine Eq.trans (if_neg (fun q => q h)) (Eq.trans (b64_34 hZ.k34) ?_)
    simp only [mI_t, mL_t, ct3, ct4, ct5, ct6, ct7, ct8, ct9, ct10, ct11, ct13, ct15, ct16, ct17, ct18, ct12, ct14, cs5, cs6, cs7, cs8, cw3, ca46, ca47, ca48, ca52, ca53, ca54, ca55, ca56, hZ.k33, hZ.r33_0, hZ.r33_1, hZ.r33_2, hZ.r33_3, hZ.r33_4, hZ.k34, hZ.r34_0, hZ.r34_1, hZ.r34_2]
    rw [less0_eq hti.1 hti.2 hfi.1 hfi.2 (by rw [div2 (by omega)]; omega)]
  · rw [if_neg h]
    refine Eq.trans (if_pos h) (Eq.trans (b64_34 hZ.k34) ?_)
    simp only [mI_t, mL_t, ct3, ct4, ct5, ct6, ct7, ct8, ct9, ct10, ct11, ct13, ct15, ct16, ct17, ct18, ct12, ct14, cs5, cs6, cs7, cs8, cw3, ca46, ca47, ca48, ca52, ca53, ca54, ca55, ca56, hZ.k33, hZ.r33_0, hZ.r33_1, hZ.r33_2, hZ.r33_3, hZ.r33_4, hZ.k34, hZ.r34_0, hZ.r34_1, hZ.r34_2]
    rw [less0_eq hti.1 hti.2 hfi.1 hfi.2 (by omega)]
theorem t_bears (hZ : Shp Z) (hw : Wf0 S) (h1 : Wf1 S) {k : Nat} (hk : k < 7) (hr : k < riN S) : call 65 [.ref 34, .ref (38 + k)] (embB 33 I S, G, Z) = some (some (.int (bearsS S k)), (embB 33 I S, G, Z)) := by
  have hb3 := (h1.2.2 k hr).2.1
  refine Eq.trans e65 (Eq.trans (b65_0 (hZ.kring hk) hZ.k34) ?_)
  simp only [mI_t, mL_t, ct3, ct4, ct5, ct6, ct7, ct8, ct9, ct10, ct11, ct13, ct15, ct16, ct17, ct18, ct12, ct14, cs5, cs6, cs7, cs8, cw3, ca46, ca47, ca48, ca52, ca53, ca54, ca55, ca56, hZ.k33, hZ.r33_0, hZ.r33_1, hZ.r33_2, hZ.r33_3, hZ.r33_4, hZ.k34, hZ.r34_0, hZ.r34_1, hZ.r34_2, cr_f hk (show 0 < 3 by decide) (by decide)]
  rw [t_plate hZ hw h1 hk hr (by omega) (by omega)]
  refine Eq.trans (b65_9 (hZ.kring hk)) ?_
  simp only [mI_t, mL_t, ct3, ct4, ct5, ct6, ct7, ct8, ct9, ct10, ct11, ct13, ct15, ct16, ct17, ct18, ct12, ct14, cs5, cs6, cs7, cs8, cw3, ca46, ca47, ca48, ca52, ca53, ca54, ca55, ca56, hZ.k33, hZ.r33_0, hZ.r33_1, hZ.r33_2, hZ.r33_3, hZ.r33_4, hZ.k34, hZ.r34_0, hZ.r34_1, hZ.r34_2, cr_f hk (show 0 < 7 by decide) (by decide)]
  unfold bearsS
  rw [min_sw]
theorem t_seek (hZ : Shp Z) (hw : Wf0 S) (h1 : Wf1 S) : call 60 [.ref 34] (embB 33 I S, G, Z) = some (none, (embB 33 I (stdS S), G, Z)) := by
  have hr7 := hw.1.2
  refine Eq.trans e60 (Eq.trans b60_0 ?_)
  have brk : ∀ (S' : aS) (x : Int32), ¬ S' 0 12 = -1 → run 4 60 2 [.ref 34, .int x] [] (embB 33 I S', G, Z) = some (none, (embB 33 I S', G, Z)) := by
    intro S' x hx
    refine Eq.trans (b60_2 hZ.k34) ?_
    split
    · exact b60_59
    · refine Eq.trans (b60_10 hZ.k34) ?_
      rw [t_hasBurst hZ, decide_eq_false hx]
      refine Eq.trans b60_14 ?_
      exact Eq.trans (if_pos (by decide)) b60_59
  have key : ∀ d k, k + d = riN S → S 0 12 = -1 → run 4 60 2 [.ref 34, .int (iN k)] [] (embB 33 I S, G, Z) = some (none, (embB 33 I (stdF d k S), G, Z)) := by
    intro d
    induction d with
    | zero =>
      intro k hk hn
      refine Eq.trans (b60_2 hZ.k34) ?_
      simp only [mI_t, mL_t, ct3, ct4, ct5, ct6, ct7, ct8, ct9, ct10, ct11, ct13, ct15, ct16, ct17, ct18, ct12, ct14, cs5, cs6, cs7, cs8, cw3, ca46, ca47, ca48, ca52, ca53, ca54, ca55, ca56, hZ.k33, hZ.r33_0, hZ.r33_1, hZ.r33_2, hZ.r33_3, hZ.r33_4, hZ.k34, hZ.r34_0, hZ.r34_1, hZ.r34_2]
      rw [hw.1.1, show k = riN S by omega]
      exact Eq.trans (if_pos (iN_nlt (by omega))) b60_59
    | succ d ih =>
      intro k hk hn
      have hlt : iN k < iN (riN S) := (iN_lt (by omega) (by omega)).mpr (by omega)
      have hb : ib (iN k) 7 := ib_iN (by omega) (by omega)
      have hc : (iN k).toNatClampNeg = k := iN_clamp (by omega)
      refine Eq.trans (b60_2 hZ.k34) ?_
      simp only [mI_t, mL_t, ct3, ct4, ct5, ct6, ct7, ct8, ct9, ct10, ct11, ct13, ct15, ct16, ct17, ct18, ct12, ct14, cs5, cs6, cs7, cs8, cw3, ca46, ca47, ca48, ca52, ca53, ca54, ca55, ca56, hZ.k33, hZ.r33_0, hZ.r33_1, hZ.r33_2, hZ.r33_3, hZ.r33_4, hZ.k34, hZ.r34_0, hZ.r34_1, hZ.r34_2]
      rw [hw.1.1]
      refine Eq.trans (if_neg (fun h => h hlt)) (Eq.trans (b60_10 hZ.k34) ?_)
      rw [t_hasBurst hZ, decide_eq_true hn]
      refine Eq.trans b60_14 ?_
      refine Eq.trans (if_neg (by decide)) (Eq.trans (b60_17 hZ.k34 hZ.kr34_0 (hZ.ir34_0 hb)) ?_)
      rw [hc, hZ.ring (show k < 7 by omega), t_load hZ (by omega) (by omega)]
      refine Eq.trans (b60_27 hZ.k34 hZ.kr34_0 (hZ.ir34_0 hb)) ?_
      rw [hc, hZ.ring (show k < 7 by omega), t_bears hZ hw h1 (by omega) (by omega)]
      refine Eq.trans b60_37 ?_
      rw [stdF]
      by_cases h : bearsS S k < loadS S k
      · rw [if_pos h]
        refine Eq.trans (if_neg (fun q => q h)) (Eq.trans (b60_40 hZ.k34) (Eq.trans b60_53 ?_))
        simp only [mI_t, mL_t, wI_t, wL_t, ct3, ct4, ct5, ct6, ct7, ct8, ct9, ct10, ct11, ct13, ct15, ct16, ct17, ct18, ct12, ct14, cs5, cs6, cs7, cs8, cw3, ca46, ca47, ca48, ca52, ca53, ca54, ca55, ca56, wh3, wh4, wh5, wh6, wh7, wh8, wh9, wh10, wh15, wh16, wh17, wh18, wa46, wa47, wa48, wa52, wa53, wa54, wa55, wa56, hZ.k33, hZ.r33_0, hZ.r33_1, hZ.r33_2, hZ.r33_3, hZ.r33_4, hZ.k34, hZ.r34_0, hZ.r34_1, hZ.r34_2]
        refine Eq.trans (brk _ _ (show ¬ iN k = -1 from iN_ne1 (by omega))) ?_
        rw [ghost]
        rfl
      · rw [if_neg h]
        refine Eq.trans (if_pos h) (Eq.trans b60_53 ?_)
        rw [iN_succ]
        exact ih (k + 1) (by omega) hn
  unfold stdS
  by_cases hn : S 0 12 = -1
  · rw [if_pos hn]
    exact key (riN S) 0 (by omega) hn
  · rw [if_neg hn]
    exact brk S _ hn
end CT
