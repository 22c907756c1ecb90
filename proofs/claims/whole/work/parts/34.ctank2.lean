/-! THE CLASS'S TANK over S: bearing, layers, air, hours -/
theorem wf1_std {S : aS} (h : Wf1 S) : Wf1 (stdS S) := by
  unfold Wf1 riN at h ⊢
  rw [stdS_s (j := 4) (by decide) (by decide) (by decide), stdS_s (j := 11) (by decide) (by decide) (by decide), stdS_s (j := 7) (by decide) (by decide) (by decide), stdS_c (c := 1) (by decide), stdS_c (c := 3) (by decide), stdS_c (c := 4) (by decide), stdS_c (c := 6) (by decide), stdS_c (c := 7) (by decide), stdS_c (c := 8) (by decide)]
  exact h
theorem wf1_settle {S : aS} (h : Wf1 S) : Wf1 (settle S) := by
  unfold Wf1 riN at h ⊢
  rw [settle_s (j := 4) (by decide) (by decide) (by decide), settle_s (j := 11) (by decide) (by decide) (by decide), settle_s (j := 7) (by decide) (by decide) (by decide), settle_c (c := 1) (by decide) (by decide), settle_c (c := 3) (by decide) (by decide), settle_c (c := 4) (by decide) (by decide), settle_c (c := 6) (by decide) (by decide), settle_c (c := 7) (by decide) (by decide), settle_c (c := 8) (by decide) (by decide)]
  exact h
section CT2
variable {I : aI} {G : aL} {Z : aZ} {S : aS}
theorem t_stood (hZ : Shp Z) (hw : Wf0 S) : run 5 59 14 [.ref 34, .int 0] [] (embB 33 I S, G, Z) = some (none, (embB 33 I (sdF (riN S) S), G, Z)) := by
  have hr := hw.1.2
  have key : ∀ d k, k + d = riN S → run 5 59 14 [.ref 34, .int (iN k)] [] (embB 33 I (sdF k S), G, Z) = some (none, (embB 33 I (sdF (riN S) S), G, Z)) := by
    intro d
    induction d with
    | zero =>
      intro k hk
      refine Eq.trans (b59_14 hZ.k34) ?_
      simp only [mI_t, mL_t, ct3, ct4, ct5, ct6, ct7, ct8, ct9, ct10, ct11, ct13, ct15, ct16, ct17, ct18, ct12, ct14, cs5, cs6, cs7, cs8, cw3, ca46, ca47, ca48, ca52, ca53, ca54, ca55, ca56, hZ.k33, hZ.r33_0, hZ.r33_1, hZ.r33_2, hZ.r33_3, hZ.r33_4, hZ.k34, hZ.r34_0, hZ.r34_1, hZ.r34_2]
      rw [sdF_0 k 0 (by decide), hw.1.1, show k = riN S by omega]
      exact Eq.trans (if_pos (iN_nlt (by omega))) b59_59
    | succ d ih =>
      intro k hk
      have hlt : iN k < iN (riN S) := (iN_lt (by omega) (by omega)).mpr (by omega)
      have hb : ib (iN k) 7 := ib_iN (by omega) (by omega)
      have hc : (iN k).toNatClampNeg = k := iN_clamp (by omega)
      have hk7 : k < 7 := by omega
      have hrk : k < riN (sdF k S) := by unfold riN at hk ⊢; rw [sdF_0 k 0 (by decide)]; omega
      refine Eq.trans (b59_14 hZ.k34) ?_
      simp only [mI_t, mL_t, ct3, ct4, ct5, ct6, ct7, ct8, ct9, ct10, ct11, ct13, ct15, ct16, ct17, ct18, ct12, ct14, cs5, cs6, cs7, cs8, cw3, ca46, ca47, ca48, ca52, ca53, ca54, ca55, ca56, hZ.k33, hZ.r33_0, hZ.r33_1, hZ.r33_2, hZ.r33_3, hZ.r33_4, hZ.k34, hZ.r34_0, hZ.r34_1, hZ.r34_2]
      rw [sdF_0 k 0 (by decide), hw.1.1]
      refine Eq.trans (if_neg (fun h => h hlt)) (Eq.trans (b59_22 hZ.k34 hZ.kr34_0 (hZ.ir34_0 hb) (by rw [hc, hZ.ring hk7]; exact hZ.kring hk7)) ?_)
      rw [hc, hZ.ring hk7, t_load hZ hk7 hrk, sdF_load, mI_t, cr_f hk7 (by decide) (by decide)]
      refine Eq.trans (b59_47 (hZ.kring hk7)) ?_
      rw [wI_t, wst hk7 (by decide) (by decide), iN_succ]
      exact ih (k + 1) (by omega)
  exact key (riN S) 0 (by omega)
theorem t_bear (hZ : Shp Z) (hw : Wf0 S) (h1 : Wf1 S) : call 59 [.ref 34] (embB 33 I S, G, Z) = some (none, (embB 33 I (settle S), G, Z)) := by
  refine Eq.trans e59 (Eq.trans (b59_0 hZ.k34) ?_)
  rw [t_seek hZ hw h1]
  refine Eq.trans (b59_4 hZ.k34) ?_
  rw [t_hasBurst hZ]
  refine Eq.trans b59_8 ?_
  unfold settle
  by_cases h : stdS S 0 12 = -1
  · rw [if_pos h, decide_eq_true h]
    refine Eq.trans (if_pos (by decide)) (Eq.trans b59_12 ?_)
    exact t_stood hZ (stdS_wf hw)
  · rw [if_neg h, decide_eq_false h]
    exact Eq.trans (if_neg (by decide)) b59_11
theorem t_air (hZ : Shp Z) (hw : Wf0 S) (h1 : Wf1 S) {h : Int32} : call 55 [.ref 34, .int h] (embB 33 I S, G, Z) = some (some (.int (S 0 10)), (embB 33 I (airS S h), G, Z)) := by
  have hw1 : Wf0 (up2 S 0 10 h) := hw
  have h11 : Wf1 (up2 S 0 10 h) := h1
  refine Eq.trans e55 (Eq.trans (b55_0 hZ.k34) ?_)
  simp only [mI_t, mL_t, wI_t, wL_t, ct3, ct4, ct5, ct6, ct7, ct8, ct9, ct10, ct11, ct13, ct15, ct16, ct17, ct18, ct12, ct14, cs5, cs6, cs7, cs8, cw3, ca46, ca47, ca48, ca52, ca53, ca54, ca55, ca56, wh3, wh4, wh5, wh6, wh7, wh8, wh9, wh10, wh15, wh16, wh17, wh18, wa46, wa47, wa48, wa52, wa53, wa54, wa55, wa56, hZ.k33, hZ.r33_0, hZ.r33_1, hZ.r33_2, hZ.r33_3, hZ.r33_4, hZ.k34, hZ.r34_0, hZ.r34_1, hZ.r34_2]
  rw [t_hasBurst hZ]
  refine Eq.trans b55_14 ?_
  unfold airS
  by_cases hn : S 0 12 = -1
  · have hn' : up2 S 0 10 h 0 12 = -1 := hn
    rw [decide_eq_true hn']
    refine Eq.trans (if_neg (by decide)) (Eq.trans (b55_17 hZ.k34) ?_)
    rw [t_seek hZ hw1 h11]
    exact b55_21
  · have hn' : ¬ up2 S 0 10 h 0 12 = -1 := hn
    rw [decide_eq_false hn']
    refine Eq.trans (if_pos (by decide)) (Eq.trans b55_21 ?_)
    unfold stdS
    rw [if_neg hn']
theorem t_mixF (hZ : Shp Z) (hw : Wf0 S) {v : Value} : ∃ x v', run 1 57 2 [.ref 34, .int 0, v] [] (embB 33 I S, G, Z) = run 1 57 59 [.ref 34, .int x, v'] [] (embB 33 I (mixS (laN S - 1) S), G, Z) := by
  have h30 := hw.2.2
  have lam : ∀ i, laN (mixS i S) = laN S := fun i => by unfold laN; rw [mixS_c i 0 (by decide)]
  have key : ∀ d i v, i + d = laN S - 1 → ∃ x v', run 1 57 2 [.ref 34, .int (iN i), v] [] (embB 33 I (mixS i S), G, Z) = run 1 57 59 [.ref 34, .int x, v'] [] (embB 33 I (mixS (laN S - 1) S), G, Z) := by
    intro d
    induction d with
    | zero =>
      intro i v hi
      refine ⟨iN (laN S - 1), v, Eq.trans (b57_2 hZ.k34) ?_⟩
      simp only [mI_t, mL_t, ct3, ct4, ct5, ct6, ct7, ct8, ct9, ct10, ct11, ct13, ct15, ct16, ct17, ct18, ct12, ct14, cs5, cs6, cs7, cs8, cw3, ca46, ca47, ca48, ca52, ca53, ca54, ca55, ca56, hZ.k33, hZ.r33_0, hZ.r33_1, hZ.r33_2, hZ.r33_3, hZ.r33_4, hZ.k34, hZ.r34_0, hZ.r34_1, hZ.r34_2]
      rw [mixS_c i 0 (by decide), hw.2.1, iN_succ, if_pos (fun q => by have := (iN_lt (by omega) (by omega)).mp q; omega), show i = laN S - 1 by omega]
    | succ d ih =>
      intro i v hi
      have hlt : iN (i + 1) < iN (laN S) := (iN_lt (by omega) (by omega)).mpr (by omega)
      have hb : ib (iN (i + 1)) 30 := ib_iN (by omega) (by omega)
      have hb0 : ib (iN i) 30 := ib_iN (by omega) (by omega)
      obtain ⟨x, v', nx⟩ := ih (i + 1) (.int ((mixS i S 11 (i + 1) - mixS i S 11 i) / 8)) (by omega)
      refine ⟨x, v', Eq.trans (b57_2 hZ.k34) ?_⟩
      simp only [mI_t, mL_t, ct3, ct4, ct5, ct6, ct7, ct8, ct9, ct10, ct11, ct13, ct15, ct16, ct17, ct18, ct12, ct14, cs5, cs6, cs7, cs8, cw3, ca46, ca47, ca48, ca52, ca53, ca54, ca55, ca56, hZ.k33, hZ.r33_0, hZ.r33_1, hZ.r33_2, hZ.r33_3, hZ.r33_4, hZ.k34, hZ.r34_0, hZ.r34_1, hZ.r34_2]
      rw [mixS_c i 0 (by decide), hw.2.1, iN_succ]
      refine Eq.trans (if_neg (fun q => q hlt)) (Eq.trans (b57_12 hZ.k34 hZ.kr34_2 (hZ.ir34_2 (by rw [iN_succ]; exact hb)) (hZ.ir34_2 hb0)) ?_)
      have l0 : i < laN (mixS i S) := by rw [lam]; omega
      have l1 : i + 1 < laN (mixS i S) := by rw [lam]; omega
      simp only [mI_t, mL_t, ct3, ct4, ct5, ct6, ct7, ct8, ct9, ct10, ct11, ct13, ct15, ct16, ct17, ct18, ct12, ct14, cs5, cs6, cs7, cs8, cw3, ca46, ca47, ca48, ca52, ca53, ca54, ca55, ca56, hZ.k33, hZ.r33_0, hZ.r33_1, hZ.r33_2, hZ.r33_3, hZ.r33_4, hZ.k34, hZ.r34_0, hZ.r34_1, hZ.r34_2, wI_t, iN_succ, iN_clamp (show i < 2147483648 by omega), iN_clamp (show i + 1 < 2147483648 by omega), cl37 l0, cl37 l1, up2_k (show i ≠ i + 1 by omega)]
      rw [wht l1, wht (show i < laN (up2 (mixS i S) 11 (i + 1) _) from l0)]
      rw [mixS] at nx
      exact nx
  exact key (laN S - 1) 0 v (by omega)
theorem t_mix (hZ : Shp Z) (hw : Wf0 S) : call 57 [.ref 34] (embB 33 I S, G, Z) = some (none, (embB 33 I (warmS S), G, Z)) := by
  have h30 := hw.2.2
  have lam : laN (mixS (laN S - 1) S) = laN S := by unfold laN; rw [mixS_c _ 0 (by decide)]
  have s8 : mixS (laN S - 1) S 0 8 = iN (laN S) := by rw [mixS_c _ 0 (by decide)]; exact hw.2.1
  refine Eq.trans e57 (Eq.trans b57_0 ?_)
  obtain ⟨x, v', e⟩ := t_mixF (I := I) (G := G) hZ hw (v := xU)
  refine Eq.trans e (Eq.trans (b57_59 hZ.k34) ?_)
  simp only [mI_t, mL_t, ct3, ct4, ct5, ct6, ct7, ct8, ct9, ct10, ct11, ct13, ct15, ct16, ct17, ct18, ct12, ct14, cs5, cs6, cs7, cs8, cw3, ca46, ca47, ca48, ca52, ca53, ca54, ca55, ca56, hZ.k33, hZ.r33_0, hZ.r33_1, hZ.r33_2, hZ.r33_3, hZ.r33_4, hZ.k34, hZ.r34_0, hZ.r34_1, hZ.r34_2]
  unfold warmS topS
  by_cases h : 0 < mixS (laN S - 1) S 0 8
  · rw [if_pos h]
    have hn : 0 < laN S := by
      rcases Nat.eq_zero_or_pos (laN S) with q | q
      · rw [s8, q] at h; exact absurd h (by decide)
      · exact q
    have hp : mixS (laN S - 1) S 0 8 - 1 = iN (laN S - 1) := by
      rw [s8, show laN S = (laN S - 1) + 1 by omega, iN_pred, Nat.add_sub_cancel]
    have hb : ib (mixS (laN S - 1) S 0 8 - 1) 30 := by rw [hp]; exact ib_iN (by omega) (by omega)
    refine Eq.trans (if_neg (fun q => q h)) (Eq.trans (b57_66 hZ.k34 hZ.kr34_2 (hZ.ir34_2 hb)) (Eq.trans b57_96 ?_))
    have l0 : laN S - 1 < laN (mixS (laN S - 1) S) := by rw [lam]; omega
    simp only [mI_t, mL_t, ct3, ct4, ct5, ct6, ct7, ct8, ct9, ct10, ct11, ct13, ct15, ct16, ct17, ct18, ct12, ct14, cs5, cs6, cs7, cs8, cw3, ca46, ca47, ca48, ca52, ca53, ca54, ca55, ca56, hZ.k33, hZ.r33_0, hZ.r33_1, hZ.r33_2, hZ.r33_3, hZ.r33_4, hZ.k34, hZ.r34_0, hZ.r34_1, hZ.r34_2, wI_t]
    rw [hp, iN_clamp (by omega), cl37 l0, wht l0, lam]
  · rw [if_neg h]
    exact Eq.trans (if_pos h) b57_96
end CT2
