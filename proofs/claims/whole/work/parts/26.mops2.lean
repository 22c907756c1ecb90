/-! THE REFERENCE'S TANK: pour, air, hours -/
theorem stdF_c {S : aS} : ∀ (d k c : Nat), c ≠ 0 → stdF d k S c = S c := by
  intro d
  induction d with
  | zero => intro k c _; rfl
  | succ d ih =>
    intro k c hc
    rw [stdF]
    split
    · funext i
      rw [up2_a hc, up2_a hc, up2_a hc]
    · exact ih (k + 1) c hc
theorem stdF_s {S : aS} : ∀ (d k j : Nat), j ≠ 12 → j ≠ 13 → j ≠ 14 → stdF d k S 0 j = S 0 j := by
  intro d
  induction d with
  | zero => intro k j _ _ _; rfl
  | succ d ih =>
    intro k j h1 h2 h3
    rw [stdF]
    split
    · rw [up2_k h3, up2_k h2, up2_k h1]
    · exact ih (k + 1) j h1 h2 h3
theorem stdS_c {S : aS} {c : Nat} (h : c ≠ 0) : stdS S c = S c := by
  unfold stdS
  split
  · exact stdF_c _ _ c h
  · rfl
theorem stdS_s {S : aS} {j : Nat} (h1 : j ≠ 12) (h2 : j ≠ 13) (h3 : j ≠ 14) : stdS S 0 j = S 0 j := by
  unfold stdS
  split
  · exact stdF_s _ _ j h1 h2 h3
  · rfl
def settle (S : aS) : aS := if stdS S 0 12 = -1 then sdF (riN (stdS S)) (stdS S) else stdS S
theorem settle_c {S : aS} {c : Nat} (h : c ≠ 0) (h9 : c ≠ 9) : settle S c = S c := by
  unfold settle
  split
  · rw [sdF_0 _ c h9, stdS_c h]
  · exact stdS_c h
theorem settle_s {S : aS} {j : Nat} (h1 : j ≠ 12) (h2 : j ≠ 13) (h3 : j ≠ 14) : settle S 0 j = S 0 j := by
  unfold settle
  split
  · rw [sdF_0 _ 0 (by decide), stdS_s h1 h2 h3]
  · exact stdS_s h1 h2 h3
theorem stdS_wf {S : aS} (h : Wf0 S) : Wf0 (stdS S) := by
  unfold Wf0 riN laN at h ⊢
  rw [stdS_s (j := 7) (by decide) (by decide) (by decide), stdS_s (j := 8) (by decide) (by decide) (by decide)]
  exact h
theorem settle_wf {S : aS} (h : Wf0 S) : Wf0 (settle S) := by
  unfold Wf0 riN laN at h ⊢
  rw [settle_s (j := 7) (by decide) (by decide) (by decide), settle_s (j := 8) (by decide) (by decide) (by decide)]
  exact h
theorem settle_dep {S : aS} : dep (settle S) = dep S := by
  unfold dep laN
  rw [settle_s (j := 8) (by decide) (by decide) (by decide), settle_c (c := 10) (by decide) (by decide)]
section MO2
variable {I : aI} {G : aL} {Z : aZ} {S : aS}
def pourOK (S : aS) (x h : Int32) : Bool := !decide (S 0 1 = 0) && (decide (S 0 12 = -1) && (!decide (S 0 8 = 30) && (inB x 1 99 && (inB h (-50) 199 && !decide (low S (riN S) < dep S + x)))))
def pour0 (S : aS) (x h : Int32) : aS := up2 (up2 (up2 (up2 S 10 (laN S) x) 11 (laN S) h) 0 8 (S 0 8 + 1)) 0 11 (S 0 11 + 1)
theorem pour0_wf {x h : Int32} (hw : Wf0 S) (h30 : laN S < 30) : Wf0 (pour0 S x h) := by
  have e : laN (pour0 S x h) = laN S + 1 := by
    show (S 0 8 + 1).toNatClampNeg = _
    rw [hw.2.1, iN_succ, iN_clamp (by omega)]
  refine ⟨hw.1, ?_, by omega⟩
  rw [e]
  show S 0 8 + 1 = _
  rw [hw.2.1, iN_succ]
theorem s_pour (hZ : Shp Z) (hw : Wf0 S) {x h : Int32} : call 154 [.ref 72, .int x, .int h] (emb I S, G, Z) = if pourOK S x h = true then some (some (.int (dep (pour0 S x h))), (emb I (settle (pour0 S x h)), G, Z)) else some (some (.int (-1)), (emb I S, G, Z)) := by
  unfold pourOK
  simp only [and_if, dec_if, ndec_if]
  have h0 := hw.1.1
  have hr := hw.1.2
  simp only [e154, b154_0, b154_7, b154_15, b154_24, b154_33, b154_36, b154_47, b154_50, b154_54, b154_64, b154_67, m_in, s_depth hZ hw, bsome, tol1, bI_0, bI_n, nif, mI_t, mL_t, es2, es1, es3, es4, es5, es6, es7, es8, es9, es10, es11, es12, es13, es14, es15, es51, es52, es53, es54, es61, es0, es16, es17, es18, es19, es20, es21, es22, es23, es24, es25, es26, es27, es28, es29, es30, es31, es32, es33, es34, es35, es36, es37, es38, es39, es40, es41, es42, es43, es44, es45, es46, es47, es48, es49, es50, es55, es56, es57, es58, es59, es60, es62, es63, es64, es65, es66, es67, es68, es69, ea73, ea74, ea75, ea76, ea77, ea78, ea79, ea80, ea81, ea82, ea83, ea84, ea85, ea86, ea87, ea88, ea89, ea90, ea91, ea92, ea93, ea94, ea95, ea96, ea97, ea98, ea99, ea100, ea101, ea102, ea103, ea104, ea105, ea106, ea107, ea108, ea109, ea110, ea111, hZ.k72, hZ.r72_16, hZ.r72_17, hZ.r72_18, hZ.r72_19, hZ.r72_20, hZ.r72_21, hZ.r72_22, hZ.r72_23, hZ.r72_24, hZ.r72_25, hZ.r72_26, hZ.r72_35, hZ.r72_36, hZ.r72_37, hZ.r72_38, hZ.r72_39, hZ.r72_40, hZ.r72_41, hZ.r72_42, hZ.r72_43, hZ.r72_44, hZ.r72_45, hZ.r72_46, hZ.r72_47, hZ.r72_48, hZ.r72_49, hZ.r72_50, hZ.r72_55, hZ.r72_56, hZ.r72_57, hZ.r72_58, hZ.r72_59, hZ.r72_60, hZ.r72_62, hZ.r72_63, hZ.r72_64, hZ.r72_65, hZ.r72_66, hZ.r72_67, l64_0, l64_1, l64_2, l64_3, l64_4, l64_5, l64_7, l64_9, l64_10, l64_11, l64_15, l64_20, l64_60, l64_99, l64_140, l64_143, l64_199, l64_200, l64_255, l64_500, l64_999, l64_9999, l64_99999, l64_9999999, l64_m50, l64_m1, Int32.toInt_toInt64]
  rw [h0]
  simp only [s_lower hZ hr, b154_64, b154_67, bsome, tol1, nif]
  by_cases h30 : S 0 8 = 30
  · simp only [h30, if_true]
  · have hl : laN S < 30 := by
      have h1 := hw.2.2
      rcases Nat.lt_or_ge (laN S) 30 with q | q
      · exact q
      · exact absurd (by rw [hw.2.1, show laN S = 30 by omega]; rfl) h30
    have hb : ib (S 0 8) 30 := by rw [hw.2.1]; exact ib_iN (by omega) hl
    have hw1 := pour0_wf (x := x) (h := h) hw hl
    have hmain : run 6 154 69 [.ref 72, .int x, .int h] [] (emb I S, G, Z) = some (some (.int (dep (pour0 S x h))), (emb I (settle (pour0 S x h)), G, Z)) := by
      refine Eq.trans (b154_69 hZ.k72 hZ.kr72_25 (hZ.ir72_25 (by simp only [mI_t, mL_t, wI_t, wL_t, es2, es1, es3, es4, es5, es6, es7, es8, es9, es10, es11, es12, es13, es14, es15, es51, es52, es53, es54, es61, es0, es16, es17, es18, es19, es20, es21, es22, es23, es24, es25, es26, es27, es28, es29, es30, es31, es32, es33, es34, es35, es36, es37, es38, es39, es40, es41, es42, es43, es44, es45, es46, es47, es48, es49, es50, es55, es56, es57, es58, es59, es60, es62, es63, es64, es65, es66, es67, es68, es69, ea73, ea74, ea75, ea76, ea77, ea78, ea79, ea80, ea81, ea82, ea83, ea84, ea85, ea86, ea87, ea88, ea89, ea90, ea91, ea92, ea93, ea94, ea95, ea96, ea97, ea98, ea99, ea100, ea101, ea102, ea103, ea104, ea105, ea106, ea107, ea108, ea109, ea110, ea111, ew2, ew1, ew3, ew4, ew5, ew6, ew7, ew8, ew9, ew10, ew11, ew12, ew13, ew14, ew15, ew51, ew52, ew53, ew54, ew61, ew0, ew16, ew17, ew18, ew19, ew20, ew21, ew22, ew23, ew24, ew25, ew26, ew27, ew28, ew29, ew30, ew31, ew32, ew33, ew34, ew35, ew36, ew37, ew38, ew39, ew40, ew41, ew42, ew43, ew44, ew45, ew46, ew47, ew48, ew49, ew50, ew55, ew56, ew57, ew58, ew59, ew60, ew62, ew63, ew64, ew65, ew66, ew67, ew68, ew69, eb73, eb74, eb75, eb76, eb77, eb78, eb79, eb80, eb81, eb82, eb83, eb84, eb85, eb86, eb87, eb88, eb89, eb90, eb91, eb92, eb93, eb94, eb95, eb96, eb97, eb98, eb99, eb100, eb101, eb102, eb103, eb104, eb105, eb106, eb107, eb108, eb109, eb110, eb111, hZ.k72, hZ.r72_16, hZ.r72_17, hZ.r72_18, hZ.r72_19, hZ.r72_20, hZ.r72_21, hZ.r72_22, hZ.r72_23, hZ.r72_24, hZ.r72_25, hZ.r72_26, hZ.r72_35, hZ.r72_36, hZ.r72_37, hZ.r72_38, hZ.r72_39, hZ.r72_40, hZ.r72_41, hZ.r72_42, hZ.r72_43, hZ.r72_44, hZ.r72_45, hZ.r72_46, hZ.r72_47, hZ.r72_48, hZ.r72_49, hZ.r72_50, hZ.r72_55, hZ.r72_56, hZ.r72_57, hZ.r72_58, hZ.r72_59, hZ.r72_60, hZ.r72_62, hZ.r72_63, hZ.r72_64, hZ.r72_65, hZ.r72_66, hZ.r72_67]; exact hb)) hZ.kr72_26 (hZ.ir72_26 (by simp only [mI_t, mL_t, wI_t, wL_t, es2, es1, es3, es4, es5, es6, es7, es8, es9, es10, es11, es12, es13, es14, es15, es51, es52, es53, es54, es61, es0, es16, es17, es18, es19, es20, es21, es22, es23, es24, es25, es26, es27, es28, es29, es30, es31, es32, es33, es34, es35, es36, es37, es38, es39, es40, es41, es42, es43, es44, es45, es46, es47, es48, es49, es50, es55, es56, es57, es58, es59, es60, es62, es63, es64, es65, es66, es67, es68, es69, ea73, ea74, ea75, ea76, ea77, ea78, ea79, ea80, ea81, ea82, ea83, ea84, ea85, ea86, ea87, ea88, ea89, ea90, ea91, ea92, ea93, ea94, ea95, ea96, ea97, ea98, ea99, ea100, ea101, ea102, ea103, ea104, ea105, ea106, ea107, ea108, ea109, ea110, ea111, ew2, ew1, ew3, ew4, ew5, ew6, ew7, ew8, ew9, ew10, ew11, ew12, ew13, ew14, ew15, ew51, ew52, ew53, ew54, ew61, ew0, ew16, ew17, ew18, ew19, ew20, ew21, ew22, ew23, ew24, ew25, ew26, ew27, ew28, ew29, ew30, ew31, ew32, ew33, ew34, ew35, ew36, ew37, ew38, ew39, ew40, ew41, ew42, ew43, ew44, ew45, ew46, ew47, ew48, ew49, ew50, ew55, ew56, ew57, ew58, ew59, ew60, ew62, ew63, ew64, ew65, ew66, ew67, ew68, ew69, eb73, eb74, eb75, eb76, eb77, eb78, eb79, eb80, eb81, eb82, eb83, eb84, eb85, eb86, eb87, eb88, eb89, eb90, eb91, eb92, eb93, eb94, eb95, eb96, eb97, eb98, eb99, eb100, eb101, eb102, eb103, eb104, eb105, eb106, eb107, eb108, eb109, eb110, eb111, hZ.k72, hZ.r72_16, hZ.r72_17, hZ.r72_18, hZ.r72_19, hZ.r72_20, hZ.r72_21, hZ.r72_22, hZ.r72_23, hZ.r72_24, hZ.r72_25, hZ.r72_26, hZ.r72_35, hZ.r72_36, hZ.r72_37, hZ.r72_38, hZ.r72_39, hZ.r72_40, hZ.r72_41, hZ.r72_42, hZ.r72_43, hZ.r72_44, hZ.r72_45, hZ.r72_46, hZ.r72_47, hZ.r72_48, hZ.r72_49, hZ.r72_50, hZ.r72_55, hZ.r72_56, hZ.r72_57, hZ.r72_58, hZ.r72_59, hZ.r72_60, hZ.r72_62, hZ.r72_63, hZ.r72_64, hZ.r72_65, hZ.r72_66, hZ.r72_67]; exact hb))) ?_
      simp only [mI_t, mL_t, wI_t, wL_t, es2, es1, es3, es4, es5, es6, es7, es8, es9, es10, es11, es12, es13, es14, es15, es51, es52, es53, es54, es61, es0, es16, es17, es18, es19, es20, es21, es22, es23, es24, es25, es26, es27, es28, es29, es30, es31, es32, es33, es34, es35, es36, es37, es38, es39, es40, es41, es42, es43, es44, es45, es46, es47, es48, es49, es50, es55, es56, es57, es58, es59, es60, es62, es63, es64, es65, es66, es67, es68, es69, ea73, ea74, ea75, ea76, ea77, ea78, ea79, ea80, ea81, ea82, ea83, ea84, ea85, ea86, ea87, ea88, ea89, ea90, ea91, ea92, ea93, ea94, ea95, ea96, ea97, ea98, ea99, ea100, ea101, ea102, ea103, ea104, ea105, ea106, ea107, ea108, ea109, ea110, ea111, ew2, ew1, ew3, ew4, ew5, ew6, ew7, ew8, ew9, ew10, ew11, ew12, ew13, ew14, ew15, ew51, ew52, ew53, ew54, ew61, ew0, ew16, ew17, ew18, ew19, ew20, ew21, ew22, ew23, ew24, ew25, ew26, ew27, ew28, ew29, ew30, ew31, ew32, ew33, ew34, ew35, ew36, ew37, ew38, ew39, ew40, ew41, ew42, ew43, ew44, ew45, ew46, ew47, ew48, ew49, ew50, ew55, ew56, ew57, ew58, ew59, ew60, ew62, ew63, ew64, ew65, ew66, ew67, ew68, ew69, eb73, eb74, eb75, eb76, eb77, eb78, eb79, eb80, eb81, eb82, eb83, eb84, eb85, eb86, eb87, eb88, eb89, eb90, eb91, eb92, eb93, eb94, eb95, eb96, eb97, eb98, eb99, eb100, eb101, eb102, eb103, eb104, eb105, eb106, eb107, eb108, eb109, eb110, eb111, hZ.k72, hZ.r72_16, hZ.r72_17, hZ.r72_18, hZ.r72_19, hZ.r72_20, hZ.r72_21, hZ.r72_22, hZ.r72_23, hZ.r72_24, hZ.r72_25, hZ.r72_26, hZ.r72_35, hZ.r72_36, hZ.r72_37, hZ.r72_38, hZ.r72_39, hZ.r72_40, hZ.r72_41, hZ.r72_42, hZ.r72_43, hZ.r72_44, hZ.r72_45, hZ.r72_46, hZ.r72_47, hZ.r72_48, hZ.r72_49, hZ.r72_50, hZ.r72_55, hZ.r72_56, hZ.r72_57, hZ.r72_58, hZ.r72_59, hZ.r72_60, hZ.r72_62, hZ.r72_63, hZ.r72_64, hZ.r72_65, hZ.r72_66, hZ.r72_67]
      refine Eq.trans (b154_99 hZ.k72) ?_
      simp only [mI_t, mL_t, wI_t, wL_t, es2, es1, es3, es4, es5, es6, es7, es8, es9, es10, es11, es12, es13, es14, es15, es51, es52, es53, es54, es61, es0, es16, es17, es18, es19, es20, es21, es22, es23, es24, es25, es26, es27, es28, es29, es30, es31, es32, es33, es34, es35, es36, es37, es38, es39, es40, es41, es42, es43, es44, es45, es46, es47, es48, es49, es50, es55, es56, es57, es58, es59, es60, es62, es63, es64, es65, es66, es67, es68, es69, ea73, ea74, ea75, ea76, ea77, ea78, ea79, ea80, ea81, ea82, ea83, ea84, ea85, ea86, ea87, ea88, ea89, ea90, ea91, ea92, ea93, ea94, ea95, ea96, ea97, ea98, ea99, ea100, ea101, ea102, ea103, ea104, ea105, ea106, ea107, ea108, ea109, ea110, ea111, ew2, ew1, ew3, ew4, ew5, ew6, ew7, ew8, ew9, ew10, ew11, ew12, ew13, ew14, ew15, ew51, ew52, ew53, ew54, ew61, ew0, ew16, ew17, ew18, ew19, ew20, ew21, ew22, ew23, ew24, ew25, ew26, ew27, ew28, ew29, ew30, ew31, ew32, ew33, ew34, ew35, ew36, ew37, ew38, ew39, ew40, ew41, ew42, ew43, ew44, ew45, ew46, ew47, ew48, ew49, ew50, ew55, ew56, ew57, ew58, ew59, ew60, ew62, ew63, ew64, ew65, ew66, ew67, ew68, ew69, eb73, eb74, eb75, eb76, eb77, eb78, eb79, eb80, eb81, eb82, eb83, eb84, eb85, eb86, eb87, eb88, eb89, eb90, eb91, eb92, eb93, eb94, eb95, eb96, eb97, eb98, eb99, eb100, eb101, eb102, eb103, eb104, eb105, eb106, eb107, eb108, eb109, eb110, eb111, hZ.k72, hZ.r72_16, hZ.r72_17, hZ.r72_18, hZ.r72_19, hZ.r72_20, hZ.r72_21, hZ.r72_22, hZ.r72_23, hZ.r72_24, hZ.r72_25, hZ.r72_26, hZ.r72_35, hZ.r72_36, hZ.r72_37, hZ.r72_38, hZ.r72_39, hZ.r72_40, hZ.r72_41, hZ.r72_42, hZ.r72_43, hZ.r72_44, hZ.r72_45, hZ.r72_46, hZ.r72_47, hZ.r72_48, hZ.r72_49, hZ.r72_50, hZ.r72_55, hZ.r72_56, hZ.r72_57, hZ.r72_58, hZ.r72_59, hZ.r72_60, hZ.r72_62, hZ.r72_63, hZ.r72_64, hZ.r72_65, hZ.r72_66, hZ.r72_67]
      show (call 151 [.ref 72] (emb I (pour0 S x h), G, Z)).bind _ = _
      rw [s_stands hZ hw1]
      refine Eq.trans b154_113 ?_
      rw [bI_0]
      unfold settle
      by_cases hs : stdS (pour0 S x h) 0 12 = -1
      · rw [if_pos hs, if_pos (decide_eq_true hs)]
        refine Eq.trans (b154_116 hZ.k72) ?_
        rw [s_stood hZ (stdS_wf hw1)]
        refine Eq.trans (b154_120 hZ.k72) ?_
        have hw2 := settle_wf hw1
        have hd := settle_dep (S := pour0 S x h)
        unfold settle at hw2 hd
        rw [if_pos hs] at hw2 hd
        rw [s_depth hZ hw2, hd]
        exact b154_124
      · rw [if_neg hs, if_neg (by simpa using hs)]
        refine Eq.trans (b154_120 hZ.k72) ?_
        have hw2 := settle_wf hw1
        have hd := settle_dep (S := pour0 S x h)
        unfold settle at hw2 hd
        rw [if_neg hs] at hw2 hd
        rw [s_depth hZ hw2, hd]
        exact b154_124
    simp only [hmain]
def airS (S : aS) (h : Int32) : aS := stdS (up2 S 0 10 h)
theorem s_air (hZ : Shp Z) (hw : Wf0 S) {h : Int32} : call 156 [.ref 72, .int h] (emb I S, G, Z) = if inB h (-50) 99 = true then some (some (.int (S 0 10)), (emb I (airS S h), G, Z)) else some (some (.int (-1000)), (emb I S, G, Z)) := by
  have hw1 : Wf0 (up2 S 0 10 h) := hw
  simp only [e156, b156_0, b156_11, b156_14, b156_18, b156_32, m_in, bsome, tol1, bI_0, bI_n, mI_t, mL_t, wI_t, wL_t, es2, es1, es3, es4, es5, es6, es7, es8, es9, es10, es11, es12, es13, es14, es15, es51, es52, es53, es54, es61, es0, es16, es17, es18, es19, es20, es21, es22, es23, es24, es25, es26, es27, es28, es29, es30, es31, es32, es33, es34, es35, es36, es37, es38, es39, es40, es41, es42, es43, es44, es45, es46, es47, es48, es49, es50, es55, es56, es57, es58, es59, es60, es62, es63, es64, es65, es66, es67, es68, es69, ea73, ea74, ea75, ea76, ea77, ea78, ea79, ea80, ea81, ea82, ea83, ea84, ea85, ea86, ea87, ea88, ea89, ea90, ea91, ea92, ea93, ea94, ea95, ea96, ea97, ea98, ea99, ea100, ea101, ea102, ea103, ea104, ea105, ea106, ea107, ea108, ea109, ea110, ea111, ew2, ew1, ew3, ew4, ew5, ew6, ew7, ew8, ew9, ew10, ew11, ew12, ew13, ew14, ew15, ew51, ew52, ew53, ew54, ew61, ew0, ew16, ew17, ew18, ew19, ew20, ew21, ew22, ew23, ew24, ew25, ew26, ew27, ew28, ew29, ew30, ew31, ew32, ew33, ew34, ew35, ew36, ew37, ew38, ew39, ew40, ew41, ew42, ew43, ew44, ew45, ew46, ew47, ew48, ew49, ew50, ew55, ew56, ew57, ew58, ew59, ew60, ew62, ew63, ew64, ew65, ew66, ew67, ew68, ew69, eb73, eb74, eb75, eb76, eb77, eb78, eb79, eb80, eb81, eb82, eb83, eb84, eb85, eb86, eb87, eb88, eb89, eb90, eb91, eb92, eb93, eb94, eb95, eb96, eb97, eb98, eb99, eb100, eb101, eb102, eb103, eb104, eb105, eb106, eb107, eb108, eb109, eb110, eb111, hZ.k72, hZ.r72_16, hZ.r72_17, hZ.r72_18, hZ.r72_19, hZ.r72_20, hZ.r72_21, hZ.r72_22, hZ.r72_23, hZ.r72_24, hZ.r72_25, hZ.r72_26, hZ.r72_35, hZ.r72_36, hZ.r72_37, hZ.r72_38, hZ.r72_39, hZ.r72_40, hZ.r72_41, hZ.r72_42, hZ.r72_43, hZ.r72_44, hZ.r72_45, hZ.r72_46, hZ.r72_47, hZ.r72_48, hZ.r72_49, hZ.r72_50, hZ.r72_55, hZ.r72_56, hZ.r72_57, hZ.r72_58, hZ.r72_59, hZ.r72_60, hZ.r72_62, hZ.r72_63, hZ.r72_64, hZ.r72_65, hZ.r72_66, hZ.r72_67, l64_0, l64_1, l64_2, l64_3, l64_4, l64_5, l64_7, l64_9, l64_10, l64_11, l64_15, l64_20, l64_60, l64_99, l64_140, l64_143, l64_199, l64_200, l64_255, l64_500, l64_999, l64_9999, l64_99999, l64_9999999, l64_m50, l64_m1, Int32.toInt_toInt64, s_stands hZ hw1]
  rfl
/-- the heats mixed, of the i lowest pairs -/
def mixS : Nat → aS → aS
  | 0, S => S
  | i + 1, S => up2 (up2 (mixS i S) 11 (i + 1) (mixS i S 11 (i + 1) - (mixS i S 11 (i + 1) - mixS i S 11 i) / 8)) 11 i (mixS i S 11 i + (mixS i S 11 (i + 1) - mixS i S 11 i) / 8)
theorem mixS_c {S : aS} : ∀ (i c : Nat), c ≠ 11 → mixS i S c = S c := by
  intro i
  induction i with
  | zero => intro c _; rfl
  | succ i ih =>
    intro c hc
    rw [mixS]
    funext k
    rw [up2_a hc, up2_a hc, ih c hc]
def topS (S : aS) : aS := if 0 < S 0 8 then up2 S 11 (laN S - 1) (S 11 (laN S - 1) + (S 0 10 - S 11 (laN S - 1)) / 16) else S
/-- the gas grown, by the i lowest pairs -/
def gasF (S : aS) : Nat → Int32
  | 0 => S 0 9
  | i + 1 => gasF S i + (if S 11 (i + 1) - S 11 i < S 0 6 then 0 else 2)
def ventS (g v : Int32) : Int32 := if g < v then 0 else if 9999 < g - v then 9999 else g - v
def warmS (S : aS) : aS := topS (mixS (laN S - 1) S)
def workS (S : aS) : aS := up2 (warmS S) 0 9 (ventS (gasF (warmS S) (laN S - 1)) (S 0 5))
def hourS (S : aS) : aS := if S 0 1 = 0 then up2 S 0 0 (S 0 0 + 1) else if S 0 12 = -1 then settle (workS (up2 S 0 0 (S 0 0 + 1))) else up2 S 0 0 (S 0 0 + 1)
end MO2
