/-! THE FACE'S more, thicker AND count -/
theorem msF_bad {f co : Nat → Int32} : ∀ d k s j, k ≤ j → j < k + d → f j = -1 → msF f co d k s = -2 := by
  intro d
  induction d with
  | zero => intro k s j h1 h2; omega
  | succ d ih =>
    intro k s j h1 h2 hj
    rw [msF]
    by_cases h : f k = -1
    · rw [if_pos h]
    · rw [if_neg h]
      refine ih (k + 1) _ j ?_ (by omega) hj
      rcases Nat.lt_or_ge k j with q | q
      · exact q
      · exact absurd (show f k = -1 by rw [show k = j by omega]; exact hj) h
theorem more_n2 {S : aS} (h1 : Wf1 S) {k : Nat} (hr : k < riN S) : ¬ moreK S k = -2 := by
  have hb3 := (h1.2.2 k hr).2.1
  have et : S 3 k = iN (S 3 k).toInt.toNat := by rw [ti_eq, iN_int (by omega), Int.toNat_of_nonneg (by omega)]
  have ec : (S 3 k).toNatClampNeg = (S 3 k).toInt.toNat := rfl
  have sl := seekF_le (morC S k) (1000 - (S 3 k).toInt.toNat) (S 3 k).toInt.toNat
  unfold moreK
  rw [ec]
  split
  · decide
  · split
    · decide
    · intro q
      have q := congrArg Int32.toInt q
      rw [et, iN_int (k := (S 3 k).toInt.toNat) (by omega), Int.toNat_natCast, iN_sub (by omega) sl.1, iN_int (by omega)] at q
      have : (-2 : Int32).toInt = -2 := by decide
      rw [this] at q
      omega
section CM
variable {I : aI} {G : aL} {Z : aZ} {S : aS}
theorem t_coins (hZ : Shp Z) (hw : Wf0 S) (h1 : Wf1 S) : call 73 [.ref 34] (embB 33 I S, G, Z) = some (some (.int (moreS S)), (embB 33 I S, G, Z)) := by
  have h7 := hw.1.2
  refine Eq.trans e73 (Eq.trans (b73_0 hZ.k34) ?_)
  simp only [mI_t, mL_t, ct3, ct4, ct5, ct6, ct7, ct8, ct9, ct10, ct11, ct13, ct15, ct16, ct17, ct18, ct12, ct14, cs5, cs6, cs7, cs8, cw3, ca46, ca47, ca48, ca52, ca53, ca54, ca55, ca56, hZ.k33, hZ.r33_0, hZ.r33_1, hZ.r33_2, hZ.r33_3, hZ.r33_4, hZ.k34, hZ.r34_0, hZ.r34_1, hZ.r34_2]
  unfold moreS
  by_cases h0 : S 0 7 = 0
  · rw [if_pos h0]
    exact Eq.trans (if_neg (fun q => q h0)) b73_7
  · rw [if_neg h0]
    refine Eq.trans (if_pos h0) (Eq.trans b73_9 ?_)
    have key : ∀ d k s v, k + d = riN S → run 4 73 13 [.ref 34, .int s, .int (iN k), v] [] (embB 33 I S, G, Z) = some (some (.int (msF (moreK S) (S 8) d k s)), (embB 33 I S, G, Z)) := by
      intro d
      induction d with
      | zero =>
        intro k s v hk
        refine Eq.trans (b73_13 hZ.k34) ?_
        simp only [mI_t, mL_t, ct3, ct4, ct5, ct6, ct7, ct8, ct9, ct10, ct11, ct13, ct15, ct16, ct17, ct18, ct12, ct14, cs5, cs6, cs7, cs8, cw3, ca46, ca47, ca48, ca52, ca53, ca54, ca55, ca56, hZ.k33, hZ.r33_0, hZ.r33_1, hZ.r33_2, hZ.r33_3, hZ.r33_4, hZ.k34, hZ.r34_0, hZ.r34_1, hZ.r34_2]
        rw [hw.1.1, show k = riN S by omega]
        exact Eq.trans (if_pos (iN_nlt (by omega))) b73_61
      | succ d ih =>
        intro k s v hk
        have hlt : iN k < iN (riN S) := (iN_lt (by omega) (by omega)).mpr (by omega)
        have hb : ib (iN k) 7 := ib_iN (by omega) (by omega)
        have hc : (iN k).toNatClampNeg = k := iN_clamp (by omega)
        have k7 : k < 7 := by omega
        refine Eq.trans (b73_13 hZ.k34) ?_
        simp only [mI_t, mL_t, ct3, ct4, ct5, ct6, ct7, ct8, ct9, ct10, ct11, ct13, ct15, ct16, ct17, ct18, ct12, ct14, cs5, cs6, cs7, cs8, cw3, ca46, ca47, ca48, ca52, ca53, ca54, ca55, ca56, hZ.k33, hZ.r33_0, hZ.r33_1, hZ.r33_2, hZ.r33_3, hZ.r33_4, hZ.k34, hZ.r34_0, hZ.r34_1, hZ.r34_2]
        rw [hw.1.1]
        refine Eq.trans (if_neg (fun q => q hlt)) (Eq.trans (b73_21 hZ.k34 hZ.kr34_0 (hZ.ir34_0 hb)) ?_)
        rw [hc, hZ.ring k7, t_least hZ hw h1 k7 (by omega)]
        refine Eq.trans b73_31 ?_
        rw [msF]
        by_cases hm : moreK S k = -1
        · rw [if_pos hm, if_pos hm]
          exact Eq.trans (if_neg (fun q => q rfl)) b73_38
        · rw [if_neg hm, if_neg hm]
          refine Eq.trans (if_pos (more_n2 h1 (by omega))) (Eq.trans (b73_41 hZ.k34 hZ.kr34_0 (hZ.ir34_0 hb) (by rw [hc, hZ.ring k7]; exact hZ.kring k7)) ?_)
          rw [hc, hZ.ring k7, mI_t, cr_f k7 (by decide) (by decide), iN_succ, Int32.mul_comm]
          exact ih (k + 1) _ _ (by omega)
    exact key (riN S) 0 0 xU (by omega)
theorem t_thick (hZ : Shp Z) (hw : Wf0 S) (h1 : Wf1 S) {k : Int32} : call 74 [.ref 34, .int k] (embB 33 I S, G, Z) = some (some (.int (if isRg S k = true then (if moreS S = -2 then -2 else moreK S k.toNatClampNeg) else -1)), (embB 33 I S, G, Z)) := by
  have h7 := hw.1.2
  refine Eq.trans e74 (Eq.trans (b74_0 hZ.k34) ?_)
  rw [t_hasRing hZ hw]
  refine Eq.trans b74_5 ?_
  by_cases h : isRg S k = true
  · obtain ⟨j, hj, hj7, rfl⟩ := isRg_ex hw h
    have hc : (iN j).toNatClampNeg = j := iN_clamp (by omega)
    have hb : ib (iN j) 7 := ib_iN (by omega) hj7
    rw [if_pos h, h]
    refine Eq.trans (if_pos (by decide)) (Eq.trans (b74_10 hZ.k34) ?_)
    rw [t_coins hZ hw h1]
    refine Eq.trans b74_14 ?_
    by_cases hm : moreS S = -2
    · rw [if_pos hm]
      exact Eq.trans (if_neg (fun q => q hm)) (Eq.trans b74_19 b74_34)
    · rw [if_neg hm]
      refine Eq.trans (if_pos hm) (Eq.trans (b74_24 hZ.k34 hZ.kr34_0 (hZ.ir34_0 hb)) ?_)
      rw [hc, hZ.ring hj7, t_least hZ hw h1 hj7 hj]
      have hne : ¬ moreK S j = -1 := by
        intro q
        refine hm ?_
        unfold moreS
        rw [if_neg (show ¬ S 0 7 = 0 from fun z => by rw [hw.1.1, ← show iN 0 = 0 from rfl, iN_inj (by omega) (by omega)] at z; omega)]
        exact msF_bad (riN S) 0 0 j (by omega) (by omega) q
      rw [if_neg hne]
      exact b74_34
  · rw [if_neg h, Bool.eq_false_iff.mpr h]
    exact Eq.trans (if_neg (by decide)) b74_8
theorem f_more (hZ : Shp Z) (hw : Wf0 S) (h1 : Wf1 S) : call 122 [.ref 32] (embB 33 I S, G, Z) = some (some (.int (moreS S)), (embB 33 I S, G, Z)) := by
  refine Eq.trans e122 (Eq.trans (b122_0 hZ.k32 hZ.kr32_0 (by rw [hZ.r32_0, hZ.r33_0]; exact hZ.k34)) ?_)
  rw [hZ.r32_0, hZ.r33_0, t_coins hZ hw h1]
  exact b122_10
theorem f_thicker (hZ : Shp Z) (hw : Wf0 S) (h1 : Wf1 S) {k : Int32} : call 123 [.ref 32, .int k] (embB 33 I S, G, Z) = some (some (.int (if isRg S k = true then (if moreS S = -2 then -2 else moreK S k.toNatClampNeg) else -1)), (embB 33 I S, G, Z)) := by
  refine Eq.trans e123 (Eq.trans (b123_0 hZ.k32 hZ.kr32_0 (by rw [hZ.r32_0, hZ.r33_0]; exact hZ.k34)) ?_)
  rw [hZ.r32_0, hZ.r33_0, t_thick hZ hw h1]
  exact b123_11
/-- what both answer to count: stories, rules, bytes of the tape are told by the texts' side -/
def cntS (S : aS) (st ru tp w : Int32) : Int32 := if w = 9 then st else if w = 10 then ru else if w = 11 then S 0 19 else if w = 12 then tp else numS S w
theorem f_count (hZ : Shp Z) {w : Int32} : call 105 [.ref 32, .int w] (embB 33 I S, G, Z) = some (some (.int (cntS S (I 32 8) (I 32 9) (I 58 4) w)), (embB 33 I S, G, Z)) := by
  have e32 : ∀ k, embB 33 I S 32 k = I 32 k := fun k => by rw [embB_out (Or.inl (by decide))]
  have e58 : ∀ k, embB 33 I S 58 k = I 58 k := fun k => by rw [embB_out (Or.inr (by decide))]
  refine Eq.trans e105 ?_
  unfold cntS
  by_cases h9 : w = 9
  · rw [if_pos h9]
    refine Eq.trans (b105_0_c9 h9) (Eq.trans (b105_32 hZ.k32) ?_)
    rw [mI_t, e32]
  rw [if_neg h9]
  by_cases h10 : w = 10
  · rw [if_pos h10]
    refine Eq.trans (b105_0_c10 h10) (Eq.trans (b105_37 hZ.k32) ?_)
    rw [mI_t, e32]
  rw [if_neg h10]
  by_cases h11 : w = 11
  · rw [if_pos h11]
    refine Eq.trans (b105_0_c11 h11) (Eq.trans (b105_42 hZ.k32 hZ.kr32_0 (by rw [hZ.r32_0, hZ.r33_2]; exact hZ.k51)) ?_)
    rw [hZ.r32_0, hZ.r33_2, mI_t, cw3]
  rw [if_neg h11]
  by_cases h12 : w = 12
  · rw [if_pos h12]
    refine Eq.trans (b105_0_c12 h12) (Eq.trans (b105_53 hZ.k32 hZ.kr32_2) ?_)
    rw [hZ.r32_2, mI_t, e58]
  rw [if_neg h12]
  have q9 := sw_ne (n := 9) (by omega) h9
  have q10 := sw_ne (n := 10) (by omega) h10
  have q11 := sw_ne (n := 11) (by omega) h11
  have q12 := sw_ne (n := 12) (by omega) h12
  refine Eq.trans (b105_0_d (by omega)) (Eq.trans (b105_61 hZ.k32 hZ.kr32_0 (by rw [hZ.r32_0, hZ.r33_0]; exact hZ.k34)) ?_)
  rw [hZ.r32_0, hZ.r33_0, t_number hZ]
  exact b105_72
theorem s_count2 (hZ : Shp Z) (hw : Wf0 S) {w : Int32} : call 159 [.ref 72, .int w] (emb I S, G, Z) = some (some (.int (cntS S (I 85 0) (I 85 1) (I 72 27) w)), (emb I S, G, Z)) := by
  by_cases h : inB w 9 12 = false
  · have hn : ¬ (9 ≤ w.toInt ∧ w.toInt ≤ 12) := fun q => by rw [inB_iff.mpr q] at h; exact absurd h (by decide)
    rw [s_count hZ hw h]
    have hv : ∀ n : Int, 9 ≤ n → n ≤ 12 → ¬ w.toInt = n := fun n a b q => hn (by omega)
    have h9 : ¬ w = 9 := fun q => hv 9 (by decide) (by decide) (by rw [q]; decide)
    have h10 : ¬ w = 10 := fun q => hv 10 (by decide) (by decide) (by rw [q]; decide)
    have h11 : ¬ w = 11 := fun q => hv 11 (by decide) (by decide) (by rw [q]; decide)
    have h12 : ¬ w = 12 := fun q => hv 12 (by decide) (by decide) (by rw [q]; decide)
    unfold cntS
    rw [if_neg h9, if_neg h10, if_neg h11, if_neg h12]
  · have hi := inB_iff.mp (by simpa using h : inB w 9 12 = true)
    have cs : w = 9 ∨ w = 10 ∨ w = 11 ∨ w = 12 := by
      have e9 : (9 : Int32).toInt = 9 := by decide
      have e10 : (10 : Int32).toInt = 10 := by decide
      have e11 : (11 : Int32).toInt = 11 := by decide
      have e12 : (12 : Int32).toInt = 12 := by decide
      rw [ti_eq, ti_eq, ti_eq, ti_eq, e9, e10, e11, e12]
      omega
    refine Eq.trans e159 ?_
    rcases cs with rfl | rfl | rfl | rfl
    · refine Eq.trans (b159_0_c9 rfl) (Eq.trans (b159_113 hZ.k72 hZ.kr72_36 (hZ.ir72_36 (by decide))) ?_)
      simp only [mI_t, mL_t, es2, es1, es3, es4, es5, es6, es7, es8, es9, es10, es11, es12, es13, es14, es15, es51, es52, es53, es54, es61, es0, es16, es17, es18, es19, es20, es21, es22, es23, es24, es25, es26, es27, es28, es29, es30, es31, es32, es33, es34, es35, es36, es37, es38, es39, es40, es41, es42, es43, es44, es45, es46, es47, es48, es49, es50, es55, es56, es57, es58, es59, es60, es62, es63, es64, es65, es66, es67, es68, es69, ea73, ea74, ea75, ea76, ea77, ea78, ea79, ea80, ea81, ea82, ea83, ea84, ea85, ea86, ea87, ea88, ea89, ea90, ea91, ea92, ea93, ea94, ea95, ea96, ea97, ea98, ea99, ea100, ea101, ea102, ea103, ea104, ea105, ea106, ea107, ea108, ea109, ea110, ea111, hZ.k72, hZ.r72_16, hZ.r72_17, hZ.r72_18, hZ.r72_19, hZ.r72_20, hZ.r72_21, hZ.r72_22, hZ.r72_23, hZ.r72_24, hZ.r72_25, hZ.r72_26, hZ.r72_35, hZ.r72_36, hZ.r72_37, hZ.r72_38, hZ.r72_39, hZ.r72_40, hZ.r72_41, hZ.r72_42, hZ.r72_43, hZ.r72_44, hZ.r72_45, hZ.r72_46, hZ.r72_47, hZ.r72_48, hZ.r72_49, hZ.r72_50, hZ.r72_55, hZ.r72_56, hZ.r72_57, hZ.r72_58, hZ.r72_59, hZ.r72_60, hZ.r72_62, hZ.r72_63, hZ.r72_64, hZ.r72_65, hZ.r72_66, hZ.r72_67]
      rfl
    · refine Eq.trans (b159_0_c10 rfl) (Eq.trans (b159_120 hZ.k72 hZ.kr72_36 (hZ.ir72_36 (by decide))) ?_)
      simp only [mI_t, mL_t, es2, es1, es3, es4, es5, es6, es7, es8, es9, es10, es11, es12, es13, es14, es15, es51, es52, es53, es54, es61, es0, es16, es17, es18, es19, es20, es21, es22, es23, es24, es25, es26, es27, es28, es29, es30, es31, es32, es33, es34, es35, es36, es37, es38, es39, es40, es41, es42, es43, es44, es45, es46, es47, es48, es49, es50, es55, es56, es57, es58, es59, es60, es62, es63, es64, es65, es66, es67, es68, es69, ea73, ea74, ea75, ea76, ea77, ea78, ea79, ea80, ea81, ea82, ea83, ea84, ea85, ea86, ea87, ea88, ea89, ea90, ea91, ea92, ea93, ea94, ea95, ea96, ea97, ea98, ea99, ea100, ea101, ea102, ea103, ea104, ea105, ea106, ea107, ea108, ea109, ea110, ea111, hZ.k72, hZ.r72_16, hZ.r72_17, hZ.r72_18, hZ.r72_19, hZ.r72_20, hZ.r72_21, hZ.r72_22, hZ.r72_23, hZ.r72_24, hZ.r72_25, hZ.r72_26, hZ.r72_35, hZ.r72_36, hZ.r72_37, hZ.r72_38, hZ.r72_39, hZ.r72_40, hZ.r72_41, hZ.r72_42, hZ.r72_43, hZ.r72_44, hZ.r72_45, hZ.r72_46, hZ.r72_47, hZ.r72_48, hZ.r72_49, hZ.r72_50, hZ.r72_55, hZ.r72_56, hZ.r72_57, hZ.r72_58, hZ.r72_59, hZ.r72_60, hZ.r72_62, hZ.r72_63, hZ.r72_64, hZ.r72_65, hZ.r72_66, hZ.r72_67]
      rfl
    · refine Eq.trans (b159_0_c11 rfl) (Eq.trans (b159_127 hZ.k72) ?_)
      simp only [mI_t, mL_t, es2, es1, es3, es4, es5, es6, es7, es8, es9, es10, es11, es12, es13, es14, es15, es51, es52, es53, es54, es61, es0, es16, es17, es18, es19, es20, es21, es22, es23, es24, es25, es26, es27, es28, es29, es30, es31, es32, es33, es34, es35, es36, es37, es38, es39, es40, es41, es42, es43, es44, es45, es46, es47, es48, es49, es50, es55, es56, es57, es58, es59, es60, es62, es63, es64, es65, es66, es67, es68, es69, ea73, ea74, ea75, ea76, ea77, ea78, ea79, ea80, ea81, ea82, ea83, ea84, ea85, ea86, ea87, ea88, ea89, ea90, ea91, ea92, ea93, ea94, ea95, ea96, ea97, ea98, ea99, ea100, ea101, ea102, ea103, ea104, ea105, ea106, ea107, ea108, ea109, ea110, ea111, hZ.k72, hZ.r72_16, hZ.r72_17, hZ.r72_18, hZ.r72_19, hZ.r72_20, hZ.r72_21, hZ.r72_22, hZ.r72_23, hZ.r72_24, hZ.r72_25, hZ.r72_26, hZ.r72_35, hZ.r72_36, hZ.r72_37, hZ.r72_38, hZ.r72_39, hZ.r72_40, hZ.r72_41, hZ.r72_42, hZ.r72_43, hZ.r72_44, hZ.r72_45, hZ.r72_46, hZ.r72_47, hZ.r72_48, hZ.r72_49, hZ.r72_50, hZ.r72_55, hZ.r72_56, hZ.r72_57, hZ.r72_58, hZ.r72_59, hZ.r72_60, hZ.r72_62, hZ.r72_63, hZ.r72_64, hZ.r72_65, hZ.r72_66, hZ.r72_67]
      rfl
    · refine Eq.trans (b159_0_c12 rfl) (Eq.trans (b159_132 hZ.k72) ?_)
      simp only [mI_t, mL_t, es2, es1, es3, es4, es5, es6, es7, es8, es9, es10, es11, es12, es13, es14, es15, es51, es52, es53, es54, es61, es0, es16, es17, es18, es19, es20, es21, es22, es23, es24, es25, es26, es27, es28, es29, es30, es31, es32, es33, es34, es35, es36, es37, es38, es39, es40, es41, es42, es43, es44, es45, es46, es47, es48, es49, es50, es55, es56, es57, es58, es59, es60, es62, es63, es64, es65, es66, es67, es68, es69, ea73, ea74, ea75, ea76, ea77, ea78, ea79, ea80, ea81, ea82, ea83, ea84, ea85, ea86, ea87, ea88, ea89, ea90, ea91, ea92, ea93, ea94, ea95, ea96, ea97, ea98, ea99, ea100, ea101, ea102, ea103, ea104, ea105, ea106, ea107, ea108, ea109, ea110, ea111, hZ.k72, hZ.r72_16, hZ.r72_17, hZ.r72_18, hZ.r72_19, hZ.r72_20, hZ.r72_21, hZ.r72_22, hZ.r72_23, hZ.r72_24, hZ.r72_25, hZ.r72_26, hZ.r72_35, hZ.r72_36, hZ.r72_37, hZ.r72_38, hZ.r72_39, hZ.r72_40, hZ.r72_41, hZ.r72_42, hZ.r72_43, hZ.r72_44, hZ.r72_45, hZ.r72_46, hZ.r72_47, hZ.r72_48, hZ.r72_49, hZ.r72_50, hZ.r72_55, hZ.r72_56, hZ.r72_57, hZ.r72_58, hZ.r72_59, hZ.r72_60, hZ.r72_62, hZ.r72_63, hZ.r72_64, hZ.r72_65, hZ.r72_66, hZ.r72_67]
      rfl
end CM
