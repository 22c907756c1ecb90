/-! THE REFERENCE'S TANK: what is asked -/
theorem rt_1 : rtI (some .boolean) 1 = true := id rfl
theorem rt_0 : rtI (some .boolean) 0 = true := id rfl
section MA
variable {I : aI} {G : aL} {Z : aZ} {S : aS}
def isRg (S : aS) (k : Int32) : Bool := inB k 0 (S 0 7 - 1).toInt
theorem cnt_pred {x : Int32} {n : Nat} (h : x = iN n) (hn : n ≤ 100000) : (x - 1).toInt = (n : Int) - 1 := by
  subst h
  cases n with
  | zero => rfl
  | succ n =>
    rw [iN_pred, iN_int (by omega)]
    omega
theorem cnt_ex {x k : Int32} {n : Nat} (h : x = iN n) (hn : n ≤ 100000) (hk : inB k 0 (x - 1).toInt = true) : ∃ j, j < n ∧ k = iN j := by
  have hi := inB_iff.mp hk
  rw [cnt_pred h hn] at hi
  obtain ⟨j, hj, rfl⟩ := iN_of (x := k) (by rw [Int32.lt_iff_toInt_lt]; have : (0 : Int32).toInt = 0 := rfl; omega)
  rw [iN_int hj] at hi
  exact ⟨j, by omega, rfl⟩
theorem isRg_ex (hw : Wf0 S) {k : Int32} (h : isRg S k = true) : ∃ j, j < riN S ∧ j < 7 ∧ k = iN j := by
  have h7 := hw.1.2
  obtain ⟨j, h1, h2⟩ := cnt_ex hw.1.1 (by omega) h
  exact ⟨j, h1, by omega, h2⟩
theorem s_isRing (hZ : Shp Z) {k : Int32} : call 143 [.ref 72, .int k] (emb I S, G, Z) = some (some (.int (bI (isRg S k))), (emb I S, G, Z)) := by
  simp only [e143, b143_0, b143_13, m_in, bsome, tol1, rt_b, mI_t, mL_t, es2, es1, es3, es4, es5, es6, es7, es8, es9, es10, es11, es12, es13, es14, es15, es51, es52, es53, es54, es61, es0, es16, es17, es18, es19, es20, es21, es22, es23, es24, es25, es26, es27, es28, es29, es30, es31, es32, es33, es34, es35, es36, es37, es38, es39, es40, es41, es42, es43, es44, es45, es46, es47, es48, es49, es50, es55, es56, es57, es58, es59, es60, es62, es63, es64, es65, es66, es67, es68, es69, ea73, ea74, ea75, ea76, ea77, ea78, ea79, ea80, ea81, ea82, ea83, ea84, ea85, ea86, ea87, ea88, ea89, ea90, ea91, ea92, ea93, ea94, ea95, ea96, ea97, ea98, ea99, ea100, ea101, ea102, ea103, ea104, ea105, ea106, ea107, ea108, ea109, ea110, ea111, hZ.k72, hZ.r72_16, hZ.r72_17, hZ.r72_18, hZ.r72_19, hZ.r72_20, hZ.r72_21, hZ.r72_22, hZ.r72_23, hZ.r72_24, hZ.r72_25, hZ.r72_26, hZ.r72_35, hZ.r72_36, hZ.r72_37, hZ.r72_38, hZ.r72_39, hZ.r72_40, hZ.r72_41, hZ.r72_42, hZ.r72_43, hZ.r72_44, hZ.r72_45, hZ.r72_46, hZ.r72_47, hZ.r72_48, hZ.r72_49, hZ.r72_50, hZ.r72_55, hZ.r72_56, hZ.r72_57, hZ.r72_58, hZ.r72_59, hZ.r72_60, hZ.r72_62, hZ.r72_63, hZ.r72_64, hZ.r72_65, hZ.r72_66, hZ.r72_67, l64_0, l64_1, l64_2, l64_3, l64_4, l64_5, l64_7, l64_9, l64_10, l64_11, l64_15, l64_20, l64_60, l64_99, l64_140, l64_143, l64_199, l64_200, l64_255, l64_500, l64_999, l64_9999, l64_99999, l64_9999999, l64_m50, l64_m1, Int32.toInt_toInt64]
  rfl
def layOK (S : aS) (k w : Int32) : Bool := inB k 0 (S 0 8 - 1).toInt && inB w 0 1
theorem s_layer (hZ : Shp Z) (hw : Wf0 S) {k w : Int32} : call 160 [.ref 72, .int k, .int w] (emb I S, G, Z) = some (some (.int (if layOK S k w = true then (if w = 0 then S 10 k.toNatClampNeg else S 11 k.toNatClampNeg) else -1000)), (emb I S, G, Z)) := by
  unfold layOK
  simp only [and_if]
  simp only [e160, b160_0, b160_13, b160_16, b160_23, b160_26, b160_32, b160_51, m_in, bsome, tol1, bI_0, bI_n, nif, mI_t, mL_t, es2, es1, es3, es4, es5, es6, es7, es8, es9, es10, es11, es12, es13, es14, es15, es51, es52, es53, es54, es61, es0, es16, es17, es18, es19, es20, es21, es22, es23, es24, es25, es26, es27, es28, es29, es30, es31, es32, es33, es34, es35, es36, es37, es38, es39, es40, es41, es42, es43, es44, es45, es46, es47, es48, es49, es50, es55, es56, es57, es58, es59, es60, es62, es63, es64, es65, es66, es67, es68, es69, ea73, ea74, ea75, ea76, ea77, ea78, ea79, ea80, ea81, ea82, ea83, ea84, ea85, ea86, ea87, ea88, ea89, ea90, ea91, ea92, ea93, ea94, ea95, ea96, ea97, ea98, ea99, ea100, ea101, ea102, ea103, ea104, ea105, ea106, ea107, ea108, ea109, ea110, ea111, hZ.k72, hZ.r72_16, hZ.r72_17, hZ.r72_18, hZ.r72_19, hZ.r72_20, hZ.r72_21, hZ.r72_22, hZ.r72_23, hZ.r72_24, hZ.r72_25, hZ.r72_26, hZ.r72_35, hZ.r72_36, hZ.r72_37, hZ.r72_38, hZ.r72_39, hZ.r72_40, hZ.r72_41, hZ.r72_42, hZ.r72_43, hZ.r72_44, hZ.r72_45, hZ.r72_46, hZ.r72_47, hZ.r72_48, hZ.r72_49, hZ.r72_50, hZ.r72_55, hZ.r72_56, hZ.r72_57, hZ.r72_58, hZ.r72_59, hZ.r72_60, hZ.r72_62, hZ.r72_63, hZ.r72_64, hZ.r72_65, hZ.r72_66, hZ.r72_67, l64_0, l64_1, l64_2, l64_3, l64_4, l64_5, l64_7, l64_9, l64_10, l64_11, l64_15, l64_20, l64_60, l64_99, l64_140, l64_143, l64_199, l64_200, l64_255, l64_500, l64_999, l64_9999, l64_99999, l64_9999999, l64_m50, l64_m1, Int32.toInt_toInt64]
  by_cases h : inB k 0 (S 0 8 - 1).toInt = true
  · have h30 := hw.2.2
    obtain ⟨j, hj, rfl⟩ := cnt_ex hw.2.1 (by omega) h
    have hb : ib (iN j) 30 := ib_iN (by omega) (by omega)
    rw [if_pos h, if_pos h]
    by_cases h2 : inB w 0 1 = true
    · rw [if_pos h2, if_pos h2]
      by_cases h3 : w = 0
      · rw [if_pos h3, if_pos h3]
        refine Eq.trans (b160_36 hZ.k72 hZ.kr72_25 (hZ.ir72_25 hb)) (Eq.trans b160_51 ?_)
        simp only [mI_t, mL_t, es2, es1, es3, es4, es5, es6, es7, es8, es9, es10, es11, es12, es13, es14, es15, es51, es52, es53, es54, es61, es0, es16, es17, es18, es19, es20, es21, es22, es23, es24, es25, es26, es27, es28, es29, es30, es31, es32, es33, es34, es35, es36, es37, es38, es39, es40, es41, es42, es43, es44, es45, es46, es47, es48, es49, es50, es55, es56, es57, es58, es59, es60, es62, es63, es64, es65, es66, es67, es68, es69, ea73, ea74, ea75, ea76, ea77, ea78, ea79, ea80, ea81, ea82, ea83, ea84, ea85, ea86, ea87, ea88, ea89, ea90, ea91, ea92, ea93, ea94, ea95, ea96, ea97, ea98, ea99, ea100, ea101, ea102, ea103, ea104, ea105, ea106, ea107, ea108, ea109, ea110, ea111, hZ.k72, hZ.r72_16, hZ.r72_17, hZ.r72_18, hZ.r72_19, hZ.r72_20, hZ.r72_21, hZ.r72_22, hZ.r72_23, hZ.r72_24, hZ.r72_25, hZ.r72_26, hZ.r72_35, hZ.r72_36, hZ.r72_37, hZ.r72_38, hZ.r72_39, hZ.r72_40, hZ.r72_41, hZ.r72_42, hZ.r72_43, hZ.r72_44, hZ.r72_45, hZ.r72_46, hZ.r72_47, hZ.r72_48, hZ.r72_49, hZ.r72_50, hZ.r72_55, hZ.r72_56, hZ.r72_57, hZ.r72_58, hZ.r72_59, hZ.r72_60, hZ.r72_62, hZ.r72_63, hZ.r72_64, hZ.r72_65, hZ.r72_66, hZ.r72_67]
      · rw [if_neg h3, if_neg h3]
        refine Eq.trans (b160_45 hZ.k72 hZ.kr72_26 (hZ.ir72_26 hb)) (Eq.trans b160_51 ?_)
        simp only [mI_t, mL_t, es2, es1, es3, es4, es5, es6, es7, es8, es9, es10, es11, es12, es13, es14, es15, es51, es52, es53, es54, es61, es0, es16, es17, es18, es19, es20, es21, es22, es23, es24, es25, es26, es27, es28, es29, es30, es31, es32, es33, es34, es35, es36, es37, es38, es39, es40, es41, es42, es43, es44, es45, es46, es47, es48, es49, es50, es55, es56, es57, es58, es59, es60, es62, es63, es64, es65, es66, es67, es68, es69, ea73, ea74, ea75, ea76, ea77, ea78, ea79, ea80, ea81, ea82, ea83, ea84, ea85, ea86, ea87, ea88, ea89, ea90, ea91, ea92, ea93, ea94, ea95, ea96, ea97, ea98, ea99, ea100, ea101, ea102, ea103, ea104, ea105, ea106, ea107, ea108, ea109, ea110, ea111, hZ.k72, hZ.r72_16, hZ.r72_17, hZ.r72_18, hZ.r72_19, hZ.r72_20, hZ.r72_21, hZ.r72_22, hZ.r72_23, hZ.r72_24, hZ.r72_25, hZ.r72_26, hZ.r72_35, hZ.r72_36, hZ.r72_37, hZ.r72_38, hZ.r72_39, hZ.r72_40, hZ.r72_41, hZ.r72_42, hZ.r72_43, hZ.r72_44, hZ.r72_45, hZ.r72_46, hZ.r72_47, hZ.r72_48, hZ.r72_49, hZ.r72_50, hZ.r72_55, hZ.r72_56, hZ.r72_57, hZ.r72_58, hZ.r72_59, hZ.r72_60, hZ.r72_62, hZ.r72_63, hZ.r72_64, hZ.r72_65, hZ.r72_66, hZ.r72_67]
    · rw [if_neg h2, if_neg h2]
  · rw [if_neg h, if_neg h]
theorem sw_ne {x : Int32} {n : Nat} (hn : n < 100000) (h : ¬ x = iN n) : x.toInt ≠ n := by
  intro e
  apply h
  apply Int32.toInt_inj.mp
  rw [iN_int (by omega)]
  exact e
def toldS (S : aS) (k : Int32) (w : Int32) : Int32 := if w = 0 then loadS S k.toNatClampNeg else if w = 1 then bearsS S k.toNatClampNeg else if w = 2 then steelS S k.toNatClampNeg else if w = 3 then plateS S k.toNatClampNeg (S 3 k.toNatClampNeg) else if w = 4 then S 9 k.toNatClampNeg else if w = 5 then (if S 0 12 = k then S 0 14 else -1) else -1000
theorem s_told (hZ : Shp Z) (hw : Wf0 S) {k w : Int32} : call 161 [.ref 72, .int k, .int w] (emb I S, G, Z) = some (some (.int (if isRg S k = true then toldS S k w else -1000)), (emb I S, G, Z)) := by
  refine Eq.trans e161 (Eq.trans (b161_0 hZ.k72) ?_)
  rw [s_isRing hZ]
  refine Eq.trans b161_5 ?_
  rw [bI_n]
  by_cases h : isRg S k = true
  · rw [if_pos h, if_pos h]
    obtain ⟨j, hj, hj7, rfl⟩ := isRg_ex hw h
    have hb : ib (iN j) 7 := ib_iN (by omega) hj7
    unfold toldS
    rw [iN_clamp (by omega)]
    by_cases h0 : w = 0
    · rw [if_pos h0]
      refine Eq.trans (b161_12_c0 h0) (Eq.trans (b161_52 hZ.k72) ?_)
      rw [s_loadOf hZ hw (by omega)]
      exact b161_57
    · rw [if_neg h0]
      by_cases h1 : w = 1
      · rw [if_pos h1]
        refine Eq.trans (b161_12_c1 h1) (Eq.trans (b161_58 hZ.k72) ?_)
        rw [s_bearsOf hZ hw hj7]
        exact b161_63
      · rw [if_neg h1]
        by_cases h2 : w = 2
        · rw [if_pos h2]
          refine Eq.trans (b161_12_c2 h2) (Eq.trans (b161_64 hZ.k72) ?_)
          rw [s_steelOf hZ hw (by omega)]
          exact b161_69
        · rw [if_neg h2]
          by_cases h3 : w = 3
          · rw [if_pos h3]
            refine Eq.trans (b161_12_c3 h3) (Eq.trans (b161_70 hZ.k72 hZ.kr72_18 (hZ.ir72_18 hb)) ?_)
            simp only [mI_t, mL_t, es2, es1, es3, es4, es5, es6, es7, es8, es9, es10, es11, es12, es13, es14, es15, es51, es52, es53, es54, es61, es0, es16, es17, es18, es19, es20, es21, es22, es23, es24, es25, es26, es27, es28, es29, es30, es31, es32, es33, es34, es35, es36, es37, es38, es39, es40, es41, es42, es43, es44, es45, es46, es47, es48, es49, es50, es55, es56, es57, es58, es59, es60, es62, es63, es64, es65, es66, es67, es68, es69, ea73, ea74, ea75, ea76, ea77, ea78, ea79, ea80, ea81, ea82, ea83, ea84, ea85, ea86, ea87, ea88, ea89, ea90, ea91, ea92, ea93, ea94, ea95, ea96, ea97, ea98, ea99, ea100, ea101, ea102, ea103, ea104, ea105, ea106, ea107, ea108, ea109, ea110, ea111, hZ.k72, hZ.r72_16, hZ.r72_17, hZ.r72_18, hZ.r72_19, hZ.r72_20, hZ.r72_21, hZ.r72_22, hZ.r72_23, hZ.r72_24, hZ.r72_25, hZ.r72_26, hZ.r72_35, hZ.r72_36, hZ.r72_37, hZ.r72_38, hZ.r72_39, hZ.r72_40, hZ.r72_41, hZ.r72_42, hZ.r72_43, hZ.r72_44, hZ.r72_45, hZ.r72_46, hZ.r72_47, hZ.r72_48, hZ.r72_49, hZ.r72_50, hZ.r72_55, hZ.r72_56, hZ.r72_57, hZ.r72_58, hZ.r72_59, hZ.r72_60, hZ.r72_62, hZ.r72_63, hZ.r72_64, hZ.r72_65, hZ.r72_66, hZ.r72_67, iN_clamp (show j < 2147483648 by omega)]
            rw [s_plateBy hZ hw hj7]
            exact b161_81
          · rw [if_neg h3]
            by_cases h4 : w = 4
            · rw [if_pos h4]
              refine Eq.trans (b161_12_c4 h4) (Eq.trans (b161_82 hZ.k72 hZ.kr72_24 (hZ.ir72_24 hb)) ?_)
              simp only [mI_t, mL_t, es2, es1, es3, es4, es5, es6, es7, es8, es9, es10, es11, es12, es13, es14, es15, es51, es52, es53, es54, es61, es0, es16, es17, es18, es19, es20, es21, es22, es23, es24, es25, es26, es27, es28, es29, es30, es31, es32, es33, es34, es35, es36, es37, es38, es39, es40, es41, es42, es43, es44, es45, es46, es47, es48, es49, es50, es55, es56, es57, es58, es59, es60, es62, es63, es64, es65, es66, es67, es68, es69, ea73, ea74, ea75, ea76, ea77, ea78, ea79, ea80, ea81, ea82, ea83, ea84, ea85, ea86, ea87, ea88, ea89, ea90, ea91, ea92, ea93, ea94, ea95, ea96, ea97, ea98, ea99, ea100, ea101, ea102, ea103, ea104, ea105, ea106, ea107, ea108, ea109, ea110, ea111, hZ.k72, hZ.r72_16, hZ.r72_17, hZ.r72_18, hZ.r72_19, hZ.r72_20, hZ.r72_21, hZ.r72_22, hZ.r72_23, hZ.r72_24, hZ.r72_25, hZ.r72_26, hZ.r72_35, hZ.r72_36, hZ.r72_37, hZ.r72_38, hZ.r72_39, hZ.r72_40, hZ.r72_41, hZ.r72_42, hZ.r72_43, hZ.r72_44, hZ.r72_45, hZ.r72_46, hZ.r72_47, hZ.r72_48, hZ.r72_49, hZ.r72_50, hZ.r72_55, hZ.r72_56, hZ.r72_57, hZ.r72_58, hZ.r72_59, hZ.r72_60, hZ.r72_62, hZ.r72_63, hZ.r72_64, hZ.r72_65, hZ.r72_66, hZ.r72_67, iN_clamp (show j < 2147483648 by omega)]
            · rw [if_neg h4]
              by_cases h5 : w = 5
              · rw [if_pos h5]
                refine Eq.trans (b161_12_c5 h5) (Eq.trans (b161_89 hZ.k72) ?_)
                simp only [mI_t, mL_t, es2, es1, es3, es4, es5, es6, es7, es8, es9, es10, es11, es12, es13, es14, es15, es51, es52, es53, es54, es61, es0, es16, es17, es18, es19, es20, es21, es22, es23, es24, es25, es26, es27, es28, es29, es30, es31, es32, es33, es34, es35, es36, es37, es38, es39, es40, es41, es42, es43, es44, es45, es46, es47, es48, es49, es50, es55, es56, es57, es58, es59, es60, es62, es63, es64, es65, es66, es67, es68, es69, ea73, ea74, ea75, ea76, ea77, ea78, ea79, ea80, ea81, ea82, ea83, ea84, ea85, ea86, ea87, ea88, ea89, ea90, ea91, ea92, ea93, ea94, ea95, ea96, ea97, ea98, ea99, ea100, ea101, ea102, ea103, ea104, ea105, ea106, ea107, ea108, ea109, ea110, ea111, hZ.k72, hZ.r72_16, hZ.r72_17, hZ.r72_18, hZ.r72_19, hZ.r72_20, hZ.r72_21, hZ.r72_22, hZ.r72_23, hZ.r72_24, hZ.r72_25, hZ.r72_26, hZ.r72_35, hZ.r72_36, hZ.r72_37, hZ.r72_38, hZ.r72_39, hZ.r72_40, hZ.r72_41, hZ.r72_42, hZ.r72_43, hZ.r72_44, hZ.r72_45, hZ.r72_46, hZ.r72_47, hZ.r72_48, hZ.r72_49, hZ.r72_50, hZ.r72_55, hZ.r72_56, hZ.r72_57, hZ.r72_58, hZ.r72_59, hZ.r72_60, hZ.r72_62, hZ.r72_63, hZ.r72_64, hZ.r72_65, hZ.r72_66, hZ.r72_67]
                by_cases hB : S 0 12 = iN j
                · rw [if_pos hB]
                  refine Eq.trans (if_neg (fun q => q hB)) (Eq.trans (b161_97 hZ.k72) (Eq.trans b161_105 ?_))
                  simp only [mI_t, mL_t, es2, es1, es3, es4, es5, es6, es7, es8, es9, es10, es11, es12, es13, es14, es15, es51, es52, es53, es54, es61, es0, es16, es17, es18, es19, es20, es21, es22, es23, es24, es25, es26, es27, es28, es29, es30, es31, es32, es33, es34, es35, es36, es37, es38, es39, es40, es41, es42, es43, es44, es45, es46, es47, es48, es49, es50, es55, es56, es57, es58, es59, es60, es62, es63, es64, es65, es66, es67, es68, es69, ea73, ea74, ea75, ea76, ea77, ea78, ea79, ea80, ea81, ea82, ea83, ea84, ea85, ea86, ea87, ea88, ea89, ea90, ea91, ea92, ea93, ea94, ea95, ea96, ea97, ea98, ea99, ea100, ea101, ea102, ea103, ea104, ea105, ea106, ea107, ea108, ea109, ea110, ea111, hZ.k72, hZ.r72_16, hZ.r72_17, hZ.r72_18, hZ.r72_19, hZ.r72_20, hZ.r72_21, hZ.r72_22, hZ.r72_23, hZ.r72_24, hZ.r72_25, hZ.r72_26, hZ.r72_35, hZ.r72_36, hZ.r72_37, hZ.r72_38, hZ.r72_39, hZ.r72_40, hZ.r72_41, hZ.r72_42, hZ.r72_43, hZ.r72_44, hZ.r72_45, hZ.r72_46, hZ.r72_47, hZ.r72_48, hZ.r72_49, hZ.r72_50, hZ.r72_55, hZ.r72_56, hZ.r72_57, hZ.r72_58, hZ.r72_59, hZ.r72_60, hZ.r72_62, hZ.r72_63, hZ.r72_64, hZ.r72_65, hZ.r72_66, hZ.r72_67]
                · rw [if_neg hB]
                  exact Eq.trans (if_pos hB) (Eq.trans b161_104 b161_105)
              · rw [if_neg h5]
                have q0 := sw_ne (n := 0) (by omega) h0
                have q1 := sw_ne (n := 1) (by omega) h1
                have q2 := sw_ne (n := 2) (by omega) h2
                have q3 := sw_ne (n := 3) (by omega) h3
                have q4 := sw_ne (n := 4) (by omega) h4
                have q5 := sw_ne (n := 5) (by omega) h5
                exact Eq.trans (b161_12_d (by omega)) b161_106
  · rw [if_neg h, if_neg h]
    exact b161_8
theorem s_span (hZ : Shp Z) (hw : Wf0 S) {k w : Int32} : call 208 [.ref 72, .int k, .int w] (emb I S, G, Z) = some (some (.int (if isRg S k = true then (if inB w 0 1 = true then (if w = 0 then S 9 k.toNatClampNeg else if S 0 12 = k then S 0 14 else -1) else -1000) else -1000)), (emb I S, G, Z)) := by
  simp only [e208, b208_0, b208_5, b208_8, b208_15, b208_18, b208_24, b208_37, b208_45, b208_52, b208_53, s_isRing hZ, m_in, bsome, tol1, bI_0, bI_n, nif, mI_t, mL_t, es2, es1, es3, es4, es5, es6, es7, es8, es9, es10, es11, es12, es13, es14, es15, es51, es52, es53, es54, es61, es0, es16, es17, es18, es19, es20, es21, es22, es23, es24, es25, es26, es27, es28, es29, es30, es31, es32, es33, es34, es35, es36, es37, es38, es39, es40, es41, es42, es43, es44, es45, es46, es47, es48, es49, es50, es55, es56, es57, es58, es59, es60, es62, es63, es64, es65, es66, es67, es68, es69, ea73, ea74, ea75, ea76, ea77, ea78, ea79, ea80, ea81, ea82, ea83, ea84, ea85, ea86, ea87, ea88, ea89, ea90, ea91, ea92, ea93, ea94, ea95, ea96, ea97, ea98, ea99, ea100, ea101, ea102, ea103, ea104, ea105, ea106, ea107, ea108, ea109, ea110, ea111, hZ.k72, hZ.r72_16, hZ.r72_17, hZ.r72_18, hZ.r72_19, hZ.r72_20, hZ.r72_21, hZ.r72_22, hZ.r72_23, hZ.r72_24, hZ.r72_25, hZ.r72_26, hZ.r72_35, hZ.r72_36, hZ.r72_37, hZ.r72_38, hZ.r72_39, hZ.r72_40, hZ.r72_41, hZ.r72_42, hZ.r72_43, hZ.r72_44, hZ.r72_45, hZ.r72_46, hZ.r72_47, hZ.r72_48, hZ.r72_49, hZ.r72_50, hZ.r72_55, hZ.r72_56, hZ.r72_57, hZ.r72_58, hZ.r72_59, hZ.r72_60, hZ.r72_62, hZ.r72_63, hZ.r72_64, hZ.r72_65, hZ.r72_66, hZ.r72_67, l64_0, l64_1, l64_2, l64_3, l64_4, l64_5, l64_7, l64_9, l64_10, l64_11, l64_15, l64_20, l64_60, l64_99, l64_140, l64_143, l64_199, l64_200, l64_255, l64_500, l64_999, l64_9999, l64_99999, l64_9999999, l64_m50, l64_m1, Int32.toInt_toInt64]
  by_cases h : isRg S k = true
  · rw [if_pos h, if_pos h]
    obtain ⟨j, hj, hj7, rfl⟩ := isRg_ex hw h
    have hb : ib (iN j) 7 := ib_iN (by omega) hj7
    by_cases h2 : inB w 0 1 = true
    · rw [if_pos h2, if_pos h2]
      by_cases h3 : w = 0
      · rw [if_pos h3, if_pos h3]
        refine Eq.trans (b208_28 hZ.k72 hZ.kr72_24 (hZ.ir72_24 hb)) (Eq.trans b208_53 ?_)
        simp only [mI_t, mL_t, es2, es1, es3, es4, es5, es6, es7, es8, es9, es10, es11, es12, es13, es14, es15, es51, es52, es53, es54, es61, es0, es16, es17, es18, es19, es20, es21, es22, es23, es24, es25, es26, es27, es28, es29, es30, es31, es32, es33, es34, es35, es36, es37, es38, es39, es40, es41, es42, es43, es44, es45, es46, es47, es48, es49, es50, es55, es56, es57, es58, es59, es60, es62, es63, es64, es65, es66, es67, es68, es69, ea73, ea74, ea75, ea76, ea77, ea78, ea79, ea80, ea81, ea82, ea83, ea84, ea85, ea86, ea87, ea88, ea89, ea90, ea91, ea92, ea93, ea94, ea95, ea96, ea97, ea98, ea99, ea100, ea101, ea102, ea103, ea104, ea105, ea106, ea107, ea108, ea109, ea110, ea111, hZ.k72, hZ.r72_16, hZ.r72_17, hZ.r72_18, hZ.r72_19, hZ.r72_20, hZ.r72_21, hZ.r72_22, hZ.r72_23, hZ.r72_24, hZ.r72_25, hZ.r72_26, hZ.r72_35, hZ.r72_36, hZ.r72_37, hZ.r72_38, hZ.r72_39, hZ.r72_40, hZ.r72_41, hZ.r72_42, hZ.r72_43, hZ.r72_44, hZ.r72_45, hZ.r72_46, hZ.r72_47, hZ.r72_48, hZ.r72_49, hZ.r72_50, hZ.r72_55, hZ.r72_56, hZ.r72_57, hZ.r72_58, hZ.r72_59, hZ.r72_60, hZ.r72_62, hZ.r72_63, hZ.r72_64, hZ.r72_65, hZ.r72_66, hZ.r72_67]
      · rw [if_neg h3, if_neg h3]
        by_cases h4 : S 0 12 = iN j
        · rw [if_pos h4, if_pos h4]
        · rw [if_neg h4, if_neg h4]
    · rw [if_neg h2, if_neg h2]
  · rw [if_neg h, if_neg h]
def fullS (S : aS) (k : Nat) : Int32 := ldB (low S (riN S) - low S k) (S 0 3) 0 (S 0 2)
theorem s_fullLoad (hZ : Shp Z) (hw : Wf0 S) {k : Nat} (hk : k ≤ 7) : call 210 [.ref 72, .int (iN k)] (emb I S, G, Z) = some (some (.int (fullS S k)), (emb I S, G, Z)) := by
  refine Eq.trans e210 (Eq.trans (b210_0 hZ.k72) ?_)
  simp only [mI_t, mL_t, es2, es1, es3, es4, es5, es6, es7, es8, es9, es10, es11, es12, es13, es14, es15, es51, es52, es53, es54, es61, es0, es16, es17, es18, es19, es20, es21, es22, es23, es24, es25, es26, es27, es28, es29, es30, es31, es32, es33, es34, es35, es36, es37, es38, es39, es40, es41, es42, es43, es44, es45, es46, es47, es48, es49, es50, es55, es56, es57, es58, es59, es60, es62, es63, es64, es65, es66, es67, es68, es69, ea73, ea74, ea75, ea76, ea77, ea78, ea79, ea80, ea81, ea82, ea83, ea84, ea85, ea86, ea87, ea88, ea89, ea90, ea91, ea92, ea93, ea94, ea95, ea96, ea97, ea98, ea99, ea100, ea101, ea102, ea103, ea104, ea105, ea106, ea107, ea108, ea109, ea110, ea111, hZ.k72, hZ.r72_16, hZ.r72_17, hZ.r72_18, hZ.r72_19, hZ.r72_20, hZ.r72_21, hZ.r72_22, hZ.r72_23, hZ.r72_24, hZ.r72_25, hZ.r72_26, hZ.r72_35, hZ.r72_36, hZ.r72_37, hZ.r72_38, hZ.r72_39, hZ.r72_40, hZ.r72_41, hZ.r72_42, hZ.r72_43, hZ.r72_44, hZ.r72_45, hZ.r72_46, hZ.r72_47, hZ.r72_48, hZ.r72_49, hZ.r72_50, hZ.r72_55, hZ.r72_56, hZ.r72_57, hZ.r72_58, hZ.r72_59, hZ.r72_60, hZ.r72_62, hZ.r72_63, hZ.r72_64, hZ.r72_65, hZ.r72_66, hZ.r72_67]
  rw [hw.1.1, s_lower hZ hw.1.2]
  refine Eq.trans (b210_10 hZ.k72 hZ.k72) ?_
  rw [s_loadBy hZ hk]
  exact b210_18
/-- which of two is nearer to bursting, as the reference asks -/
def nearM (l x m y : Int32) : Bool := if x = 0 ∨ y = 0 then decide (x = 0) && (decide (0 < y) || decide (m < l)) else decide (0 < lg_cmp (l.toInt64 * y.toInt64) (m.toInt64 * x.toInt64))
theorem s_isNearer (hZ : Shp Z) (hw : Wf0 S) {i j : Nat} (hi : i < 7) (hj : j < 7) : call 162 [.ref 72, .int (iN i), .int (iN j)] (emb I S, G, Z) = some (some (.int (bI (nearM (loadS S i) (bearsS S i) (loadS S j) (bearsS S j)))), (emb I S, G, Z)) := by
  have l1 := s_loadOf (I := I) (G := G) hZ hw (show i ≤ 7 by omega)
  have l2 := s_loadOf (I := I) (G := G) hZ hw (show j ≤ 7 by omega)
  simp only [e162, b162_0, b162_5, b162_11, b162_17, b162_22, b162_26, b162_31, b162_36, b162_41, b162_44, b162_48, b162_49, b162_50, b162_55, b162_65, b162_73, b162_77, b162_78, s_bearsOf hZ hw hi, s_bearsOf hZ hw hj, l1, l2, bsome, tol1, hZ.k72, rt_1, rt_0]
  unfold nearM
  generalize bearsS S i = x
  generalize bearsS S j = y
  generalize loadS S i = l
  generalize loadS S j = m
  by_cases h1 : x = 0
  · by_cases h2 : 0 < y
    · simp [h1, h2, bI, rtI]
    · by_cases h3 : m < l
      · simp [h1, h2, h3, bI, rtI]
      · simp [h1, h2, h3, bI, rtI]
  · by_cases h2 : y = 0
    · simp [h1, h2, bI, rtI]
    · by_cases h3 : 0 < lg_cmp (l.toInt64 * y.toInt64) (m.toInt64 * x.toInt64)
      · simp [h1, h2, h3, bI, rtI]
      · simp [h1, h2, h3, bI, rtI]
/-- the nearest of the rings below k, behind the best so far -/
def nearF (nr : Nat → Nat → Bool) : Nat → Int32
  | 0 => -1
  | k + 1 => if nearF nr k = -1 then iN k else if nr k (nearF nr k).toNatClampNeg = true then iN k else nearF nr k
theorem nearF_ex (nr : Nat → Nat → Bool) : ∀ k, nearF nr k = -1 ∨ ∃ j, j < k ∧ nearF nr k = iN j := by
  intro k
  induction k with
  | zero => exact Or.inl rfl
  | succ k ih =>
    rw [nearF]
    split
    · exact Or.inr ⟨k, by omega, rfl⟩
    · split
      · exact Or.inr ⟨k, by omega, rfl⟩
      · rcases ih with h | ⟨j, h1, h2⟩
        · exact Or.inl h
        · exact Or.inr ⟨j, by omega, h2⟩
def nrS (S : aS) (i j : Nat) : Bool := nearM (loadS S i) (bearsS S i) (loadS S j) (bearsS S j)
theorem s_nearest (hZ : Shp Z) (hw : Wf0 S) : call 163 [.ref 72] (emb I S, G, Z) = some (some (.int (nearF (nrS S) (riN S))), (emb I S, G, Z)) := by
  have h7 := hw.1.2
  refine Eq.trans e163 (Eq.trans b163_0 ?_)
  have key := loop_up (fun i => run 6 163 4 [.ref 72, .int (nearF (nrS S) i), .int (iN i)] [] (emb I S, G, Z)) (riN S) (fun i hi => by
    have hlt : iN i < iN (riN S) := (iN_lt (by omega) (by omega)).mpr hi
    refine Eq.trans (b163_4 hZ.k72) ?_
    simp only [mI_t, mL_t, es2, es1, es3, es4, es5, es6, es7, es8, es9, es10, es11, es12, es13, es14, es15, es51, es52, es53, es54, es61, es0, es16, es17, es18, es19, es20, es21, es22, es23, es24, es25, es26, es27, es28, es29, es30, es31, es32, es33, es34, es35, es36, es37, es38, es39, es40, es41, es42, es43, es44, es45, es46, es47, es48, es49, es50, es55, es56, es57, es58, es59, es60, es62, es63, es64, es65, es66, es67, es68, es69, ea73, ea74, ea75, ea76, ea77, ea78, ea79, ea80, ea81, ea82, ea83, ea84, ea85, ea86, ea87, ea88, ea89, ea90, ea91, ea92, ea93, ea94, ea95, ea96, ea97, ea98, ea99, ea100, ea101, ea102, ea103, ea104, ea105, ea106, ea107, ea108, ea109, ea110, ea111, hZ.k72, hZ.r72_16, hZ.r72_17, hZ.r72_18, hZ.r72_19, hZ.r72_20, hZ.r72_21, hZ.r72_22, hZ.r72_23, hZ.r72_24, hZ.r72_25, hZ.r72_26, hZ.r72_35, hZ.r72_36, hZ.r72_37, hZ.r72_38, hZ.r72_39, hZ.r72_40, hZ.r72_41, hZ.r72_42, hZ.r72_43, hZ.r72_44, hZ.r72_45, hZ.r72_46, hZ.r72_47, hZ.r72_48, hZ.r72_49, hZ.r72_50, hZ.r72_55, hZ.r72_56, hZ.r72_57, hZ.r72_58, hZ.r72_59, hZ.r72_60, hZ.r72_62, hZ.r72_63, hZ.r72_64, hZ.r72_65, hZ.r72_66, hZ.r72_67]
    rw [hw.1.1]
    refine Eq.trans (if_neg (fun q => q hlt)) (Eq.trans b163_12 ?_)
    show _ = run 6 163 4 [.ref 72, .int (nearF (nrS S) (i + 1)), .int (iN (i + 1))] [] (emb I S, G, Z)
    rw [nearF]
    by_cases h1 : nearF (nrS S) i = -1
    · rw [if_pos h1, if_pos h1, b163_26, b163_31, iN_succ]
    · rw [if_neg h1, if_neg h1]
      obtain ⟨j, hj1, hj2⟩ := (nearF_ex (nrS S) i).resolve_left h1
      refine Eq.trans (b163_17 hZ.k72) ?_
      rw [hj2, s_isNearer hZ hw (by omega) (by omega), iN_clamp (by omega)]
      refine Eq.trans b163_23 ?_
      rw [bI_0]
      show (if nrS S i j = true then _ else _) = _
      by_cases h2 : nrS S i j = true
      · rw [if_pos h2, if_pos h2, b163_26, b163_31, iN_succ]
      · rw [if_neg h2, if_neg h2, b163_30, b163_31, iN_succ]) 0 (by omega)
  refine Eq.trans key (Eq.trans (b163_4 hZ.k72) ?_)
  simp only [mI_t, mL_t, es2, es1, es3, es4, es5, es6, es7, es8, es9, es10, es11, es12, es13, es14, es15, es51, es52, es53, es54, es61, es0, es16, es17, es18, es19, es20, es21, es22, es23, es24, es25, es26, es27, es28, es29, es30, es31, es32, es33, es34, es35, es36, es37, es38, es39, es40, es41, es42, es43, es44, es45, es46, es47, es48, es49, es50, es55, es56, es57, es58, es59, es60, es62, es63, es64, es65, es66, es67, es68, es69, ea73, ea74, ea75, ea76, ea77, ea78, ea79, ea80, ea81, ea82, ea83, ea84, ea85, ea86, ea87, ea88, ea89, ea90, ea91, ea92, ea93, ea94, ea95, ea96, ea97, ea98, ea99, ea100, ea101, ea102, ea103, ea104, ea105, ea106, ea107, ea108, ea109, ea110, ea111, hZ.k72, hZ.r72_16, hZ.r72_17, hZ.r72_18, hZ.r72_19, hZ.r72_20, hZ.r72_21, hZ.r72_22, hZ.r72_23, hZ.r72_24, hZ.r72_25, hZ.r72_26, hZ.r72_35, hZ.r72_36, hZ.r72_37, hZ.r72_38, hZ.r72_39, hZ.r72_40, hZ.r72_41, hZ.r72_42, hZ.r72_43, hZ.r72_44, hZ.r72_45, hZ.r72_46, hZ.r72_47, hZ.r72_48, hZ.r72_49, hZ.r72_50, hZ.r72_55, hZ.r72_56, hZ.r72_57, hZ.r72_58, hZ.r72_59, hZ.r72_60, hZ.r72_62, hZ.r72_63, hZ.r72_64, hZ.r72_65, hZ.r72_66, hZ.r72_67]
  rw [hw.1.1]
  exact Eq.trans (if_pos (iN_nlt (by omega))) b163_38
end MA
