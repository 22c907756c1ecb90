/-! THE REFERENCE'S HOURS -/
theorem up2_id {α : Type} {f : Nat → Nat → α} {a k : Nat} : up2 f a k (f a k) = f := by
  funext b j
  unfold up2
  by_cases h : b = a
  · subst h
    rw [if_pos rfl]
    by_cases h2 : j = k
    · subst h2; rw [if_pos rfl]
    · rw [if_neg h2]
  · rw [if_neg h]
theorem up2_2 {α : Type} {f : Nat → Nat → α} {a k : Nat} {v w : α} : up2 (up2 f a k v) a k w = up2 f a k w := by
  funext b j
  unfold up2
  by_cases h : b = a
  · subst h
    rw [if_pos rfl, if_pos rfl]
    by_cases h2 : j = k
    · subst h2; rw [if_pos rfl, if_pos rfl, if_pos rfl]
    · rw [if_neg h2, if_neg h2, if_pos rfl, if_neg h2]
  · rw [if_neg h, if_neg h, if_neg h]
section MH
variable {I : aI} {G : aL} {Z : aZ} {S : aS}
theorem h_end (hZ : Shp Z) {T : aS} (hw : Wf0 T) {x y : Int32} {v : Value} : run 6 157 221 [.ref 72, .int x, v] [.int y, .ref 72] (emb I T, G, Z) = some (none, (emb I (settle (up2 T 0 9 y)), G, Z)) := by
  have hw1 : Wf0 (up2 T 0 9 y) := hw
  refine Eq.trans (b157_221 hZ.k72 hZ.k72) ?_
  simp only [mI_t, mL_t, wI_t, wL_t, es2, es1, es3, es4, es5, es6, es7, es8, es9, es10, es11, es12, es13, es14, es15, es51, es52, es53, es54, es61, es0, es16, es17, es18, es19, es20, es21, es22, es23, es24, es25, es26, es27, es28, es29, es30, es31, es32, es33, es34, es35, es36, es37, es38, es39, es40, es41, es42, es43, es44, es45, es46, es47, es48, es49, es50, es55, es56, es57, es58, es59, es60, es62, es63, es64, es65, es66, es67, es68, es69, ea73, ea74, ea75, ea76, ea77, ea78, ea79, ea80, ea81, ea82, ea83, ea84, ea85, ea86, ea87, ea88, ea89, ea90, ea91, ea92, ea93, ea94, ea95, ea96, ea97, ea98, ea99, ea100, ea101, ea102, ea103, ea104, ea105, ea106, ea107, ea108, ea109, ea110, ea111, ew2, ew1, ew3, ew4, ew5, ew6, ew7, ew8, ew9, ew10, ew11, ew12, ew13, ew14, ew15, ew51, ew52, ew53, ew54, ew61, ew0, ew16, ew17, ew18, ew19, ew20, ew21, ew22, ew23, ew24, ew25, ew26, ew27, ew28, ew29, ew30, ew31, ew32, ew33, ew34, ew35, ew36, ew37, ew38, ew39, ew40, ew41, ew42, ew43, ew44, ew45, ew46, ew47, ew48, ew49, ew50, ew55, ew56, ew57, ew58, ew59, ew60, ew62, ew63, ew64, ew65, ew66, ew67, ew68, ew69, eb73, eb74, eb75, eb76, eb77, eb78, eb79, eb80, eb81, eb82, eb83, eb84, eb85, eb86, eb87, eb88, eb89, eb90, eb91, eb92, eb93, eb94, eb95, eb96, eb97, eb98, eb99, eb100, eb101, eb102, eb103, eb104, eb105, eb106, eb107, eb108, eb109, eb110, eb111, hZ.k72, hZ.r72_16, hZ.r72_17, hZ.r72_18, hZ.r72_19, hZ.r72_20, hZ.r72_21, hZ.r72_22, hZ.r72_23, hZ.r72_24, hZ.r72_25, hZ.r72_26, hZ.r72_35, hZ.r72_36, hZ.r72_37, hZ.r72_38, hZ.r72_39, hZ.r72_40, hZ.r72_41, hZ.r72_42, hZ.r72_43, hZ.r72_44, hZ.r72_45, hZ.r72_46, hZ.r72_47, hZ.r72_48, hZ.r72_49, hZ.r72_50, hZ.r72_55, hZ.r72_56, hZ.r72_57, hZ.r72_58, hZ.r72_59, hZ.r72_60, hZ.r72_62, hZ.r72_63, hZ.r72_64, hZ.r72_65, hZ.r72_66, hZ.r72_67]
  rw [s_stands hZ hw1]
  refine Eq.trans b157_228 ?_
  rw [bI_0]
  unfold settle
  by_cases hs : stdS (up2 T 0 9 y) 0 12 = -1
  · rw [if_pos hs, if_pos (decide_eq_true hs)]
    refine Eq.trans (b157_231 hZ.k72) ?_
    rw [s_stood hZ (stdS_wf hw1)]
    exact b157_235
  · rw [if_neg hs, if_neg (by simpa using hs)]
    exact b157_235
theorem h_vent (hZ : Shp Z) {T : aS} (hw : Wf0 T) {x : Int32} {v : Value} : run 6 157 175 [.ref 72, .int x, v] [] (emb I T, G, Z) = some (none, (emb I (settle (up2 T 0 9 (ventS (T 0 9) (T 0 5)))), G, Z)) := by
  refine Eq.trans (b157_175 hZ.k72) ?_
  unfold ventS
  simp only [mI_t, mL_t, es2, es1, es3, es4, es5, es6, es7, es8, es9, es10, es11, es12, es13, es14, es15, es51, es52, es53, es54, es61, es0, es16, es17, es18, es19, es20, es21, es22, es23, es24, es25, es26, es27, es28, es29, es30, es31, es32, es33, es34, es35, es36, es37, es38, es39, es40, es41, es42, es43, es44, es45, es46, es47, es48, es49, es50, es55, es56, es57, es58, es59, es60, es62, es63, es64, es65, es66, es67, es68, es69, ea73, ea74, ea75, ea76, ea77, ea78, ea79, ea80, ea81, ea82, ea83, ea84, ea85, ea86, ea87, ea88, ea89, ea90, ea91, ea92, ea93, ea94, ea95, ea96, ea97, ea98, ea99, ea100, ea101, ea102, ea103, ea104, ea105, ea106, ea107, ea108, ea109, ea110, ea111, hZ.k72, hZ.r72_16, hZ.r72_17, hZ.r72_18, hZ.r72_19, hZ.r72_20, hZ.r72_21, hZ.r72_22, hZ.r72_23, hZ.r72_24, hZ.r72_25, hZ.r72_26, hZ.r72_35, hZ.r72_36, hZ.r72_37, hZ.r72_38, hZ.r72_39, hZ.r72_40, hZ.r72_41, hZ.r72_42, hZ.r72_43, hZ.r72_44, hZ.r72_45, hZ.r72_46, hZ.r72_47, hZ.r72_48, hZ.r72_49, hZ.r72_50, hZ.r72_55, hZ.r72_56, hZ.r72_57, hZ.r72_58, hZ.r72_59, hZ.r72_60, hZ.r72_62, hZ.r72_63, hZ.r72_64, hZ.r72_65, hZ.r72_66, hZ.r72_67]
  by_cases h1 : T 0 9 < T 0 5
  · rw [if_pos h1]
    exact Eq.trans (if_neg (fun q => q h1)) (Eq.trans b157_187 (h_end hZ hw))
  · rw [if_neg h1]
    refine Eq.trans (if_pos h1) (Eq.trans (b157_191 hZ.k72) ?_)
    simp only [mI_t, mL_t, es2, es1, es3, es4, es5, es6, es7, es8, es9, es10, es11, es12, es13, es14, es15, es51, es52, es53, es54, es61, es0, es16, es17, es18, es19, es20, es21, es22, es23, es24, es25, es26, es27, es28, es29, es30, es31, es32, es33, es34, es35, es36, es37, es38, es39, es40, es41, es42, es43, es44, es45, es46, es47, es48, es49, es50, es55, es56, es57, es58, es59, es60, es62, es63, es64, es65, es66, es67, es68, es69, ea73, ea74, ea75, ea76, ea77, ea78, ea79, ea80, ea81, ea82, ea83, ea84, ea85, ea86, ea87, ea88, ea89, ea90, ea91, ea92, ea93, ea94, ea95, ea96, ea97, ea98, ea99, ea100, ea101, ea102, ea103, ea104, ea105, ea106, ea107, ea108, ea109, ea110, ea111, hZ.k72, hZ.r72_16, hZ.r72_17, hZ.r72_18, hZ.r72_19, hZ.r72_20, hZ.r72_21, hZ.r72_22, hZ.r72_23, hZ.r72_24, hZ.r72_25, hZ.r72_26, hZ.r72_35, hZ.r72_36, hZ.r72_37, hZ.r72_38, hZ.r72_39, hZ.r72_40, hZ.r72_41, hZ.r72_42, hZ.r72_43, hZ.r72_44, hZ.r72_45, hZ.r72_46, hZ.r72_47, hZ.r72_48, hZ.r72_49, hZ.r72_50, hZ.r72_55, hZ.r72_56, hZ.r72_57, hZ.r72_58, hZ.r72_59, hZ.r72_60, hZ.r72_62, hZ.r72_63, hZ.r72_64, hZ.r72_65, hZ.r72_66, hZ.r72_67]
    by_cases h2 : 9999 < T 0 9 - T 0 5
    · rw [if_pos h2]
      exact Eq.trans (if_neg (fun q => q h2)) (Eq.trans b157_206 (h_end hZ hw))
    · rw [if_neg h2]
      refine Eq.trans (if_pos h2) (Eq.trans (b157_212 hZ.k72) ?_)
      simp only [mI_t, mL_t, es2, es1, es3, es4, es5, es6, es7, es8, es9, es10, es11, es12, es13, es14, es15, es51, es52, es53, es54, es61, es0, es16, es17, es18, es19, es20, es21, es22, es23, es24, es25, es26, es27, es28, es29, es30, es31, es32, es33, es34, es35, es36, es37, es38, es39, es40, es41, es42, es43, es44, es45, es46, es47, es48, es49, es50, es55, es56, es57, es58, es59, es60, es62, es63, es64, es65, es66, es67, es68, es69, ea73, ea74, ea75, ea76, ea77, ea78, ea79, ea80, ea81, ea82, ea83, ea84, ea85, ea86, ea87, ea88, ea89, ea90, ea91, ea92, ea93, ea94, ea95, ea96, ea97, ea98, ea99, ea100, ea101, ea102, ea103, ea104, ea105, ea106, ea107, ea108, ea109, ea110, ea111, hZ.k72, hZ.r72_16, hZ.r72_17, hZ.r72_18, hZ.r72_19, hZ.r72_20, hZ.r72_21, hZ.r72_22, hZ.r72_23, hZ.r72_24, hZ.r72_25, hZ.r72_26, hZ.r72_35, hZ.r72_36, hZ.r72_37, hZ.r72_38, hZ.r72_39, hZ.r72_40, hZ.r72_41, hZ.r72_42, hZ.r72_43, hZ.r72_44, hZ.r72_45, hZ.r72_46, hZ.r72_47, hZ.r72_48, hZ.r72_49, hZ.r72_50, hZ.r72_55, hZ.r72_56, hZ.r72_57, hZ.r72_58, hZ.r72_59, hZ.r72_60, hZ.r72_62, hZ.r72_63, hZ.r72_64, hZ.r72_65, hZ.r72_66, hZ.r72_67]
      exact h_end hZ hw
theorem h_gas (hZ : Shp Z) {T : aS} (hw : Wf0 T) : ∀ (d j : Nat) (v : Value), j + d = laN T - 1 → run 6 157 125 [.ref 72, .int (iN (j + 1)), v] [] (emb I (up2 T 0 9 (gasF T j)), G, Z) = some (none, (emb I (settle (up2 T 0 9 (ventS (gasF T (laN T - 1)) (T 0 5)))), G, Z)) := by
  intro d
  have h8 := hw.2.1
  have h30 := hw.2.2
  induction d with
  | zero =>
    intro j v hj
    refine Eq.trans (b157_125 hZ.k72) ?_
    simp only [mI_t, mL_t, es2, es1, es3, es4, es5, es6, es7, es8, es9, es10, es11, es12, es13, es14, es15, es51, es52, es53, es54, es61, es0, es16, es17, es18, es19, es20, es21, es22, es23, es24, es25, es26, es27, es28, es29, es30, es31, es32, es33, es34, es35, es36, es37, es38, es39, es40, es41, es42, es43, es44, es45, es46, es47, es48, es49, es50, es55, es56, es57, es58, es59, es60, es62, es63, es64, es65, es66, es67, es68, es69, ea73, ea74, ea75, ea76, ea77, ea78, ea79, ea80, ea81, ea82, ea83, ea84, ea85, ea86, ea87, ea88, ea89, ea90, ea91, ea92, ea93, ea94, ea95, ea96, ea97, ea98, ea99, ea100, ea101, ea102, ea103, ea104, ea105, ea106, ea107, ea108, ea109, ea110, ea111, hZ.k72, hZ.r72_16, hZ.r72_17, hZ.r72_18, hZ.r72_19, hZ.r72_20, hZ.r72_21, hZ.r72_22, hZ.r72_23, hZ.r72_24, hZ.r72_25, hZ.r72_26, hZ.r72_35, hZ.r72_36, hZ.r72_37, hZ.r72_38, hZ.r72_39, hZ.r72_40, hZ.r72_41, hZ.r72_42, hZ.r72_43, hZ.r72_44, hZ.r72_45, hZ.r72_46, hZ.r72_47, hZ.r72_48, hZ.r72_49, hZ.r72_50, hZ.r72_55, hZ.r72_56, hZ.r72_57, hZ.r72_58, hZ.r72_59, hZ.r72_60, hZ.r72_62, hZ.r72_63, hZ.r72_64, hZ.r72_65, hZ.r72_66, hZ.r72_67]
    have e8 : up2 T 0 9 (gasF T j) 0 8 = iN (laN T) := h8
    rw [e8]
    refine Eq.trans (if_pos (fun q => by have := (iN_lt (by omega) (by omega)).mp q; omega)) ?_
    have hw1 : Wf0 (up2 T 0 9 (gasF T j)) := hw
    refine Eq.trans (h_vent hZ hw1) ?_
    rw [up2_2, show j = laN T - 1 by omega]
    rfl
  | succ d ih =>
    intro j v hj
    have hlt : iN (j + 1) < iN (laN T) := (iN_lt (by omega) (by omega)).mpr (by omega)
    have hb : ib (iN (j + 1)) 30 := ib_iN (by omega) (by omega)
    have hb0 : ib (iN j) 30 := ib_iN (by omega) (by omega)
    refine Eq.trans (b157_125 hZ.k72) ?_
    simp only [mI_t, mL_t, es2, es1, es3, es4, es5, es6, es7, es8, es9, es10, es11, es12, es13, es14, es15, es51, es52, es53, es54, es61, es0, es16, es17, es18, es19, es20, es21, es22, es23, es24, es25, es26, es27, es28, es29, es30, es31, es32, es33, es34, es35, es36, es37, es38, es39, es40, es41, es42, es43, es44, es45, es46, es47, es48, es49, es50, es55, es56, es57, es58, es59, es60, es62, es63, es64, es65, es66, es67, es68, es69, ea73, ea74, ea75, ea76, ea77, ea78, ea79, ea80, ea81, ea82, ea83, ea84, ea85, ea86, ea87, ea88, ea89, ea90, ea91, ea92, ea93, ea94, ea95, ea96, ea97, ea98, ea99, ea100, ea101, ea102, ea103, ea104, ea105, ea106, ea107, ea108, ea109, ea110, ea111, hZ.k72, hZ.r72_16, hZ.r72_17, hZ.r72_18, hZ.r72_19, hZ.r72_20, hZ.r72_21, hZ.r72_22, hZ.r72_23, hZ.r72_24, hZ.r72_25, hZ.r72_26, hZ.r72_35, hZ.r72_36, hZ.r72_37, hZ.r72_38, hZ.r72_39, hZ.r72_40, hZ.r72_41, hZ.r72_42, hZ.r72_43, hZ.r72_44, hZ.r72_45, hZ.r72_46, hZ.r72_47, hZ.r72_48, hZ.r72_49, hZ.r72_50, hZ.r72_55, hZ.r72_56, hZ.r72_57, hZ.r72_58, hZ.r72_59, hZ.r72_60, hZ.r72_62, hZ.r72_63, hZ.r72_64, hZ.r72_65, hZ.r72_66, hZ.r72_67]
    have e8 : up2 T 0 9 (gasF T j) 0 8 = iN (laN T) := h8
    rw [e8]
    refine Eq.trans (if_neg (fun q => q hlt)) (Eq.trans (b157_133 hZ.k72 hZ.kr72_26 (hZ.ir72_26 hb) (hZ.ir72_26 (by rw [iN_pred]; exact hb0))) ?_)
    simp only [mI_t, mL_t, es2, es1, es3, es4, es5, es6, es7, es8, es9, es10, es11, es12, es13, es14, es15, es51, es52, es53, es54, es61, es0, es16, es17, es18, es19, es20, es21, es22, es23, es24, es25, es26, es27, es28, es29, es30, es31, es32, es33, es34, es35, es36, es37, es38, es39, es40, es41, es42, es43, es44, es45, es46, es47, es48, es49, es50, es55, es56, es57, es58, es59, es60, es62, es63, es64, es65, es66, es67, es68, es69, ea73, ea74, ea75, ea76, ea77, ea78, ea79, ea80, ea81, ea82, ea83, ea84, ea85, ea86, ea87, ea88, ea89, ea90, ea91, ea92, ea93, ea94, ea95, ea96, ea97, ea98, ea99, ea100, ea101, ea102, ea103, ea104, ea105, ea106, ea107, ea108, ea109, ea110, ea111, hZ.k72, hZ.r72_16, hZ.r72_17, hZ.r72_18, hZ.r72_19, hZ.r72_20, hZ.r72_21, hZ.r72_22, hZ.r72_23, hZ.r72_24, hZ.r72_25, hZ.r72_26, hZ.r72_35, hZ.r72_36, hZ.r72_37, hZ.r72_38, hZ.r72_39, hZ.r72_40, hZ.r72_41, hZ.r72_42, hZ.r72_43, hZ.r72_44, hZ.r72_45, hZ.r72_46, hZ.r72_47, hZ.r72_48, hZ.r72_49, hZ.r72_50, hZ.r72_55, hZ.r72_56, hZ.r72_57, hZ.r72_58, hZ.r72_59, hZ.r72_60, hZ.r72_62, hZ.r72_63, hZ.r72_64, hZ.r72_65, hZ.r72_66, hZ.r72_67, iN_pred, iN_clamp (show j < 2147483648 by omega), iN_clamp (show j + 1 < 2147483648 by omega)]
    have nx := ih (j + 1) v (by omega)
    by_cases h : T 11 (j + 1) - T 11 j < T 0 6
    · refine Eq.trans (if_pos h) (Eq.trans b157_164 (Eq.trans (b157_165 hZ.k72) ?_))
      simp only [mI_t, mL_t, wI_t, wL_t, es2, es1, es3, es4, es5, es6, es7, es8, es9, es10, es11, es12, es13, es14, es15, es51, es52, es53, es54, es61, es0, es16, es17, es18, es19, es20, es21, es22, es23, es24, es25, es26, es27, es28, es29, es30, es31, es32, es33, es34, es35, es36, es37, es38, es39, es40, es41, es42, es43, es44, es45, es46, es47, es48, es49, es50, es55, es56, es57, es58, es59, es60, es62, es63, es64, es65, es66, es67, es68, es69, ea73, ea74, ea75, ea76, ea77, ea78, ea79, ea80, ea81, ea82, ea83, ea84, ea85, ea86, ea87, ea88, ea89, ea90, ea91, ea92, ea93, ea94, ea95, ea96, ea97, ea98, ea99, ea100, ea101, ea102, ea103, ea104, ea105, ea106, ea107, ea108, ea109, ea110, ea111, ew2, ew1, ew3, ew4, ew5, ew6, ew7, ew8, ew9, ew10, ew11, ew12, ew13, ew14, ew15, ew51, ew52, ew53, ew54, ew61, ew0, ew16, ew17, ew18, ew19, ew20, ew21, ew22, ew23, ew24, ew25, ew26, ew27, ew28, ew29, ew30, ew31, ew32, ew33, ew34, ew35, ew36, ew37, ew38, ew39, ew40, ew41, ew42, ew43, ew44, ew45, ew46, ew47, ew48, ew49, ew50, ew55, ew56, ew57, ew58, ew59, ew60, ew62, ew63, ew64, ew65, ew66, ew67, ew68, ew69, eb73, eb74, eb75, eb76, eb77, eb78, eb79, eb80, eb81, eb82, eb83, eb84, eb85, eb86, eb87, eb88, eb89, eb90, eb91, eb92, eb93, eb94, eb95, eb96, eb97, eb98, eb99, eb100, eb101, eb102, eb103, eb104, eb105, eb106, eb107, eb108, eb109, eb110, eb111, hZ.k72, hZ.r72_16, hZ.r72_17, hZ.r72_18, hZ.r72_19, hZ.r72_20, hZ.r72_21, hZ.r72_22, hZ.r72_23, hZ.r72_24, hZ.r72_25, hZ.r72_26, hZ.r72_35, hZ.r72_36, hZ.r72_37, hZ.r72_38, hZ.r72_39, hZ.r72_40, hZ.r72_41, hZ.r72_42, hZ.r72_43, hZ.r72_44, hZ.r72_45, hZ.r72_46, hZ.r72_47, hZ.r72_48, hZ.r72_49, hZ.r72_50, hZ.r72_55, hZ.r72_56, hZ.r72_57, hZ.r72_58, hZ.r72_59, hZ.r72_60, hZ.r72_62, hZ.r72_63, hZ.r72_64, hZ.r72_65, hZ.r72_66, hZ.r72_67, iN_succ]
      rw [up2_2]
      rw [gasF, if_pos h] at nx
      exact nx
    · refine Eq.trans (if_neg h) (Eq.trans b157_160 (Eq.trans (b157_165 hZ.k72) ?_))
      simp only [mI_t, mL_t, wI_t, wL_t, es2, es1, es3, es4, es5, es6, es7, es8, es9, es10, es11, es12, es13, es14, es15, es51, es52, es53, es54, es61, es0, es16, es17, es18, es19, es20, es21, es22, es23, es24, es25, es26, es27, es28, es29, es30, es31, es32, es33, es34, es35, es36, es37, es38, es39, es40, es41, es42, es43, es44, es45, es46, es47, es48, es49, es50, es55, es56, es57, es58, es59, es60, es62, es63, es64, es65, es66, es67, es68, es69, ea73, ea74, ea75, ea76, ea77, ea78, ea79, ea80, ea81, ea82, ea83, ea84, ea85, ea86, ea87, ea88, ea89, ea90, ea91, ea92, ea93, ea94, ea95, ea96, ea97, ea98, ea99, ea100, ea101, ea102, ea103, ea104, ea105, ea106, ea107, ea108, ea109, ea110, ea111, ew2, ew1, ew3, ew4, ew5, ew6, ew7, ew8, ew9, ew10, ew11, ew12, ew13, ew14, ew15, ew51, ew52, ew53, ew54, ew61, ew0, ew16, ew17, ew18, ew19, ew20, ew21, ew22, ew23, ew24, ew25, ew26, ew27, ew28, ew29, ew30, ew31, ew32, ew33, ew34, ew35, ew36, ew37, ew38, ew39, ew40, ew41, ew42, ew43, ew44, ew45, ew46, ew47, ew48, ew49, ew50, ew55, ew56, ew57, ew58, ew59, ew60, ew62, ew63, ew64, ew65, ew66, ew67, ew68, ew69, eb73, eb74, eb75, eb76, eb77, eb78, eb79, eb80, eb81, eb82, eb83, eb84, eb85, eb86, eb87, eb88, eb89, eb90, eb91, eb92, eb93, eb94, eb95, eb96, eb97, eb98, eb99, eb100, eb101, eb102, eb103, eb104, eb105, eb106, eb107, eb108, eb109, eb110, eb111, hZ.k72, hZ.r72_16, hZ.r72_17, hZ.r72_18, hZ.r72_19, hZ.r72_20, hZ.r72_21, hZ.r72_22, hZ.r72_23, hZ.r72_24, hZ.r72_25, hZ.r72_26, hZ.r72_35, hZ.r72_36, hZ.r72_37, hZ.r72_38, hZ.r72_39, hZ.r72_40, hZ.r72_41, hZ.r72_42, hZ.r72_43, hZ.r72_44, hZ.r72_45, hZ.r72_46, hZ.r72_47, hZ.r72_48, hZ.r72_49, hZ.r72_50, hZ.r72_55, hZ.r72_56, hZ.r72_57, hZ.r72_58, hZ.r72_59, hZ.r72_60, hZ.r72_62, hZ.r72_63, hZ.r72_64, hZ.r72_65, hZ.r72_66, hZ.r72_67, iN_succ]
      rw [up2_2]
      rw [gasF, if_neg h] at nx
      exact nx
theorem h_top (hZ : Shp Z) {T : aS} (hw : Wf0 T) {x : Int32} {v : Value} : run 6 157 83 [.ref 72, .int x, v] [] (emb I T, G, Z) = some (none, (emb I (settle (up2 (topS T) 0 9 (ventS (gasF (topS T) (laN T - 1)) (T 0 5)))), G, Z)) := by
  have h8 := hw.2.1
  have h30 := hw.2.2
  have go : ∀ (U : aS) (x : Int32) (v : Value), Wf0 U → laN U = laN T → U 0 5 = T 0 5 → run 6 157 123 [.ref 72, .int x, v] [] (emb I U, G, Z) = some (none, (emb I (settle (up2 U 0 9 (ventS (gasF U (laN T - 1)) (T 0 5)))), G, Z)) := by
    intro U x v hU e1 e2
    refine Eq.trans b157_123 ?_
    have nx := h_gas (I := I) (G := G) hZ hU (laN U - 1) 0 v (by omega)
    rw [gasF, up2_id, e1, e2] at nx
    exact nx
  refine Eq.trans (b157_83 hZ.k72) ?_
  simp only [mI_t, mL_t, es2, es1, es3, es4, es5, es6, es7, es8, es9, es10, es11, es12, es13, es14, es15, es51, es52, es53, es54, es61, es0, es16, es17, es18, es19, es20, es21, es22, es23, es24, es25, es26, es27, es28, es29, es30, es31, es32, es33, es34, es35, es36, es37, es38, es39, es40, es41, es42, es43, es44, es45, es46, es47, es48, es49, es50, es55, es56, es57, es58, es59, es60, es62, es63, es64, es65, es66, es67, es68, es69, ea73, ea74, ea75, ea76, ea77, ea78, ea79, ea80, ea81, ea82, ea83, ea84, ea85, ea86, ea87, ea88, ea89, ea90, ea91, ea92, ea93, ea94, ea95, ea96, ea97, ea98, ea99, ea100, ea101, ea102, ea103, ea104, ea105, ea106, ea107, ea108, ea109, ea110, ea111, hZ.k72, hZ.r72_16, hZ.r72_17, hZ.r72_18, hZ.r72_19, hZ.r72_20, hZ.r72_21, hZ.r72_22, hZ.r72_23, hZ.r72_24, hZ.r72_25, hZ.r72_26, hZ.r72_35, hZ.r72_36, hZ.r72_37, hZ.r72_38, hZ.r72_39, hZ.r72_40, hZ.r72_41, hZ.r72_42, hZ.r72_43, hZ.r72_44, hZ.r72_45, hZ.r72_46, hZ.r72_47, hZ.r72_48, hZ.r72_49, hZ.r72_50, hZ.r72_55, hZ.r72_56, hZ.r72_57, hZ.r72_58, hZ.r72_59, hZ.r72_60, hZ.r72_62, hZ.r72_63, hZ.r72_64, hZ.r72_65, hZ.r72_66, hZ.r72_67]
  unfold topS
  by_cases h : 0 < T 0 8
  · rw [if_pos h]
    have hn : 0 < laN T := by
      rcases Nat.eq_zero_or_pos (laN T) with q | q
      · rw [h8, q] at h; exact absurd h (by decide)
      · exact q
    have hp : T 0 8 - 1 = iN (laN T - 1) := by
      rw [h8, show laN T = (laN T - 1) + 1 by omega, iN_pred, Nat.add_sub_cancel]
    have hb : ib (T 0 8 - 1) 30 := by rw [hp]; exact ib_iN (by omega) (by omega)
    refine Eq.trans (if_neg (fun q => q h)) (Eq.trans (b157_90 hZ.k72 hZ.kr72_26 (hZ.ir72_26 hb)) ?_)
    simp only [mI_t, mL_t, wI_t, wL_t, es2, es1, es3, es4, es5, es6, es7, es8, es9, es10, es11, es12, es13, es14, es15, es51, es52, es53, es54, es61, es0, es16, es17, es18, es19, es20, es21, es22, es23, es24, es25, es26, es27, es28, es29, es30, es31, es32, es33, es34, es35, es36, es37, es38, es39, es40, es41, es42, es43, es44, es45, es46, es47, es48, es49, es50, es55, es56, es57, es58, es59, es60, es62, es63, es64, es65, es66, es67, es68, es69, ea73, ea74, ea75, ea76, ea77, ea78, ea79, ea80, ea81, ea82, ea83, ea84, ea85, ea86, ea87, ea88, ea89, ea90, ea91, ea92, ea93, ea94, ea95, ea96, ea97, ea98, ea99, ea100, ea101, ea102, ea103, ea104, ea105, ea106, ea107, ea108, ea109, ea110, ea111, ew2, ew1, ew3, ew4, ew5, ew6, ew7, ew8, ew9, ew10, ew11, ew12, ew13, ew14, ew15, ew51, ew52, ew53, ew54, ew61, ew0, ew16, ew17, ew18, ew19, ew20, ew21, ew22, ew23, ew24, ew25, ew26, ew27, ew28, ew29, ew30, ew31, ew32, ew33, ew34, ew35, ew36, ew37, ew38, ew39, ew40, ew41, ew42, ew43, ew44, ew45, ew46, ew47, ew48, ew49, ew50, ew55, ew56, ew57, ew58, ew59, ew60, ew62, ew63, ew64, ew65, ew66, ew67, ew68, ew69, eb73, eb74, eb75, eb76, eb77, eb78, eb79, eb80, eb81, eb82, eb83, eb84, eb85, eb86, eb87, eb88, eb89, eb90, eb91, eb92, eb93, eb94, eb95, eb96, eb97, eb98, eb99, eb100, eb101, eb102, eb103, eb104, eb105, eb106, eb107, eb108, eb109, eb110, eb111, hZ.k72, hZ.r72_16, hZ.r72_17, hZ.r72_18, hZ.r72_19, hZ.r72_20, hZ.r72_21, hZ.r72_22, hZ.r72_23, hZ.r72_24, hZ.r72_25, hZ.r72_26, hZ.r72_35, hZ.r72_36, hZ.r72_37, hZ.r72_38, hZ.r72_39, hZ.r72_40, hZ.r72_41, hZ.r72_42, hZ.r72_43, hZ.r72_44, hZ.r72_45, hZ.r72_46, hZ.r72_47, hZ.r72_48, hZ.r72_49, hZ.r72_50, hZ.r72_55, hZ.r72_56, hZ.r72_57, hZ.r72_58, hZ.r72_59, hZ.r72_60, hZ.r72_62, hZ.r72_63, hZ.r72_64, hZ.r72_65, hZ.r72_66, hZ.r72_67]
    rw [hp, iN_clamp (by omega)]
    exact go _ _ _ hw rfl rfl
  · rw [if_neg h]
    exact Eq.trans (if_pos h) (go T x v hw rfl rfl)
theorem mixS_wf {T : aS} {i : Nat} (h : Wf0 T) : Wf0 (mixS i T) := by
  unfold Wf0 riN laN at h ⊢
  rw [mixS_c i 0 (by decide)]
  exact h
theorem h_mix (hZ : Shp Z) {T : aS} (hw : Wf0 T) : ∀ (d j : Nat) (v : Value), j + d = laN T - 1 → run 6 157 28 [.ref 72, .int (iN (j + 1)), v] [] (emb I (mixS j T), G, Z) = some (none, (emb I (settle (workS T)), G, Z)) := by
  intro d
  have h8 := hw.2.1
  have h30 := hw.2.2
  have e0 : ∀ i k, mixS i T 0 k = T 0 k := fun i k => by rw [mixS_c i 0 (by decide)]
  induction d with
  | zero =>
    intro j v hj
    refine Eq.trans (b157_28 hZ.k72) ?_
    simp only [mI_t, mL_t, es2, es1, es3, es4, es5, es6, es7, es8, es9, es10, es11, es12, es13, es14, es15, es51, es52, es53, es54, es61, es0, es16, es17, es18, es19, es20, es21, es22, es23, es24, es25, es26, es27, es28, es29, es30, es31, es32, es33, es34, es35, es36, es37, es38, es39, es40, es41, es42, es43, es44, es45, es46, es47, es48, es49, es50, es55, es56, es57, es58, es59, es60, es62, es63, es64, es65, es66, es67, es68, es69, ea73, ea74, ea75, ea76, ea77, ea78, ea79, ea80, ea81, ea82, ea83, ea84, ea85, ea86, ea87, ea88, ea89, ea90, ea91, ea92, ea93, ea94, ea95, ea96, ea97, ea98, ea99, ea100, ea101, ea102, ea103, ea104, ea105, ea106, ea107, ea108, ea109, ea110, ea111, hZ.k72, hZ.r72_16, hZ.r72_17, hZ.r72_18, hZ.r72_19, hZ.r72_20, hZ.r72_21, hZ.r72_22, hZ.r72_23, hZ.r72_24, hZ.r72_25, hZ.r72_26, hZ.r72_35, hZ.r72_36, hZ.r72_37, hZ.r72_38, hZ.r72_39, hZ.r72_40, hZ.r72_41, hZ.r72_42, hZ.r72_43, hZ.r72_44, hZ.r72_45, hZ.r72_46, hZ.r72_47, hZ.r72_48, hZ.r72_49, hZ.r72_50, hZ.r72_55, hZ.r72_56, hZ.r72_57, hZ.r72_58, hZ.r72_59, hZ.r72_60, hZ.r72_62, hZ.r72_63, hZ.r72_64, hZ.r72_65, hZ.r72_66, hZ.r72_67]
    rw [e0, h8]
    refine Eq.trans (if_pos (fun q => by have := (iN_lt (by omega) (by omega)).mp q; omega)) ?_
    refine Eq.trans (h_top hZ (mixS_wf hw)) ?_
    have e1 : laN (mixS j T) = laN T := by unfold laN; rw [e0]
    rw [e0, e1, show j = laN T - 1 by omega]
    rfl
  | succ d ih =>
    intro j v hj
    have hlt : iN (j + 1) < iN (laN T) := (iN_lt (by omega) (by omega)).mpr (by omega)
    have hb : ib (iN (j + 1)) 30 := ib_iN (by omega) (by omega)
    have hb0 : ib (iN j) 30 := ib_iN (by omega) (by omega)
    refine Eq.trans (b157_28 hZ.k72) ?_
    simp only [mI_t, mL_t, es2, es1, es3, es4, es5, es6, es7, es8, es9, es10, es11, es12, es13, es14, es15, es51, es52, es53, es54, es61, es0, es16, es17, es18, es19, es20, es21, es22, es23, es24, es25, es26, es27, es28, es29, es30, es31, es32, es33, es34, es35, es36, es37, es38, es39, es40, es41, es42, es43, es44, es45, es46, es47, es48, es49, es50, es55, es56, es57, es58, es59, es60, es62, es63, es64, es65, es66, es67, es68, es69, ea73, ea74, ea75, ea76, ea77, ea78, ea79, ea80, ea81, ea82, ea83, ea84, ea85, ea86, ea87, ea88, ea89, ea90, ea91, ea92, ea93, ea94, ea95, ea96, ea97, ea98, ea99, ea100, ea101, ea102, ea103, ea104, ea105, ea106, ea107, ea108, ea109, ea110, ea111, hZ.k72, hZ.r72_16, hZ.r72_17, hZ.r72_18, hZ.r72_19, hZ.r72_20, hZ.r72_21, hZ.r72_22, hZ.r72_23, hZ.r72_24, hZ.r72_25, hZ.r72_26, hZ.r72_35, hZ.r72_36, hZ.r72_37, hZ.r72_38, hZ.r72_39, hZ.r72_40, hZ.r72_41, hZ.r72_42, hZ.r72_43, hZ.r72_44, hZ.r72_45, hZ.r72_46, hZ.r72_47, hZ.r72_48, hZ.r72_49, hZ.r72_50, hZ.r72_55, hZ.r72_56, hZ.r72_57, hZ.r72_58, hZ.r72_59, hZ.r72_60, hZ.r72_62, hZ.r72_63, hZ.r72_64, hZ.r72_65, hZ.r72_66, hZ.r72_67]
    rw [e0, h8]
    refine Eq.trans (if_neg (fun q => q hlt)) (Eq.trans (b157_36 hZ.k72 hZ.kr72_26 (hZ.ir72_26 hb) (hZ.ir72_26 (by rw [iN_pred]; exact hb0))) ?_)
    simp only [mI_t, mL_t, wI_t, wL_t, es2, es1, es3, es4, es5, es6, es7, es8, es9, es10, es11, es12, es13, es14, es15, es51, es52, es53, es54, es61, es0, es16, es17, es18, es19, es20, es21, es22, es23, es24, es25, es26, es27, es28, es29, es30, es31, es32, es33, es34, es35, es36, es37, es38, es39, es40, es41, es42, es43, es44, es45, es46, es47, es48, es49, es50, es55, es56, es57, es58, es59, es60, es62, es63, es64, es65, es66, es67, es68, es69, ea73, ea74, ea75, ea76, ea77, ea78, ea79, ea80, ea81, ea82, ea83, ea84, ea85, ea86, ea87, ea88, ea89, ea90, ea91, ea92, ea93, ea94, ea95, ea96, ea97, ea98, ea99, ea100, ea101, ea102, ea103, ea104, ea105, ea106, ea107, ea108, ea109, ea110, ea111, ew2, ew1, ew3, ew4, ew5, ew6, ew7, ew8, ew9, ew10, ew11, ew12, ew13, ew14, ew15, ew51, ew52, ew53, ew54, ew61, ew0, ew16, ew17, ew18, ew19, ew20, ew21, ew22, ew23, ew24, ew25, ew26, ew27, ew28, ew29, ew30, ew31, ew32, ew33, ew34, ew35, ew36, ew37, ew38, ew39, ew40, ew41, ew42, ew43, ew44, ew45, ew46, ew47, ew48, ew49, ew50, ew55, ew56, ew57, ew58, ew59, ew60, ew62, ew63, ew64, ew65, ew66, ew67, ew68, ew69, eb73, eb74, eb75, eb76, eb77, eb78, eb79, eb80, eb81, eb82, eb83, eb84, eb85, eb86, eb87, eb88, eb89, eb90, eb91, eb92, eb93, eb94, eb95, eb96, eb97, eb98, eb99, eb100, eb101, eb102, eb103, eb104, eb105, eb106, eb107, eb108, eb109, eb110, eb111, hZ.k72, hZ.r72_16, hZ.r72_17, hZ.r72_18, hZ.r72_19, hZ.r72_20, hZ.r72_21, hZ.r72_22, hZ.r72_23, hZ.r72_24, hZ.r72_25, hZ.r72_26, hZ.r72_35, hZ.r72_36, hZ.r72_37, hZ.r72_38, hZ.r72_39, hZ.r72_40, hZ.r72_41, hZ.r72_42, hZ.r72_43, hZ.r72_44, hZ.r72_45, hZ.r72_46, hZ.r72_47, hZ.r72_48, hZ.r72_49, hZ.r72_50, hZ.r72_55, hZ.r72_56, hZ.r72_57, hZ.r72_58, hZ.r72_59, hZ.r72_60, hZ.r72_62, hZ.r72_63, hZ.r72_64, hZ.r72_65, hZ.r72_66, hZ.r72_67, iN_pred, iN_succ, iN_clamp (show j < 2147483648 by omega), iN_clamp (show j + 1 < 2147483648 by omega)]
    have nx := ih (j + 1) (.int ((mixS j T 11 (j + 1) - mixS j T 11 j) / 8)) (by omega)
    rw [mixS] at nx
    rw [up2_k (show j ≠ j + 1 by omega)]
    exact nx
theorem s_hour (hZ : Shp Z) (hw : Wf0 S) : call 157 [.ref 72] (emb I S, G, Z) = some (none, (emb I (hourS S), G, Z)) := by
  refine Eq.trans e157 (Eq.trans (b157_0 hZ.k72) ?_)
  simp only [mI_t, mL_t, wI_t, wL_t, es2, es1, es3, es4, es5, es6, es7, es8, es9, es10, es11, es12, es13, es14, es15, es51, es52, es53, es54, es61, es0, es16, es17, es18, es19, es20, es21, es22, es23, es24, es25, es26, es27, es28, es29, es30, es31, es32, es33, es34, es35, es36, es37, es38, es39, es40, es41, es42, es43, es44, es45, es46, es47, es48, es49, es50, es55, es56, es57, es58, es59, es60, es62, es63, es64, es65, es66, es67, es68, es69, ea73, ea74, ea75, ea76, ea77, ea78, ea79, ea80, ea81, ea82, ea83, ea84, ea85, ea86, ea87, ea88, ea89, ea90, ea91, ea92, ea93, ea94, ea95, ea96, ea97, ea98, ea99, ea100, ea101, ea102, ea103, ea104, ea105, ea106, ea107, ea108, ea109, ea110, ea111, ew2, ew1, ew3, ew4, ew5, ew6, ew7, ew8, ew9, ew10, ew11, ew12, ew13, ew14, ew15, ew51, ew52, ew53, ew54, ew61, ew0, ew16, ew17, ew18, ew19, ew20, ew21, ew22, ew23, ew24, ew25, ew26, ew27, ew28, ew29, ew30, ew31, ew32, ew33, ew34, ew35, ew36, ew37, ew38, ew39, ew40, ew41, ew42, ew43, ew44, ew45, ew46, ew47, ew48, ew49, ew50, ew55, ew56, ew57, ew58, ew59, ew60, ew62, ew63, ew64, ew65, ew66, ew67, ew68, ew69, eb73, eb74, eb75, eb76, eb77, eb78, eb79, eb80, eb81, eb82, eb83, eb84, eb85, eb86, eb87, eb88, eb89, eb90, eb91, eb92, eb93, eb94, eb95, eb96, eb97, eb98, eb99, eb100, eb101, eb102, eb103, eb104, eb105, eb106, eb107, eb108, eb109, eb110, eb111, hZ.k72, hZ.r72_16, hZ.r72_17, hZ.r72_18, hZ.r72_19, hZ.r72_20, hZ.r72_21, hZ.r72_22, hZ.r72_23, hZ.r72_24, hZ.r72_25, hZ.r72_26, hZ.r72_35, hZ.r72_36, hZ.r72_37, hZ.r72_38, hZ.r72_39, hZ.r72_40, hZ.r72_41, hZ.r72_42, hZ.r72_43, hZ.r72_44, hZ.r72_45, hZ.r72_46, hZ.r72_47, hZ.r72_48, hZ.r72_49, hZ.r72_50, hZ.r72_55, hZ.r72_56, hZ.r72_57, hZ.r72_58, hZ.r72_59, hZ.r72_60, hZ.r72_62, hZ.r72_63, hZ.r72_64, hZ.r72_65, hZ.r72_66, hZ.r72_67]
  unfold hourS
  have hw1 : Wf0 (up2 S 0 0 (S 0 0 + 1)) := hw
  by_cases h1 : S 0 1 = 0
  · rw [if_pos h1]
    exact Eq.trans (if_pos h1) b157_25
  · rw [if_neg h1]
    refine Eq.trans (if_neg h1) (Eq.trans (b157_17 hZ.k72) ?_)
    simp only [mI_t, mL_t, es2, es1, es3, es4, es5, es6, es7, es8, es9, es10, es11, es12, es13, es14, es15, es51, es52, es53, es54, es61, es0, es16, es17, es18, es19, es20, es21, es22, es23, es24, es25, es26, es27, es28, es29, es30, es31, es32, es33, es34, es35, es36, es37, es38, es39, es40, es41, es42, es43, es44, es45, es46, es47, es48, es49, es50, es55, es56, es57, es58, es59, es60, es62, es63, es64, es65, es66, es67, es68, es69, ea73, ea74, ea75, ea76, ea77, ea78, ea79, ea80, ea81, ea82, ea83, ea84, ea85, ea86, ea87, ea88, ea89, ea90, ea91, ea92, ea93, ea94, ea95, ea96, ea97, ea98, ea99, ea100, ea101, ea102, ea103, ea104, ea105, ea106, ea107, ea108, ea109, ea110, ea111, hZ.k72, hZ.r72_16, hZ.r72_17, hZ.r72_18, hZ.r72_19, hZ.r72_20, hZ.r72_21, hZ.r72_22, hZ.r72_23, hZ.r72_24, hZ.r72_25, hZ.r72_26, hZ.r72_35, hZ.r72_36, hZ.r72_37, hZ.r72_38, hZ.r72_39, hZ.r72_40, hZ.r72_41, hZ.r72_42, hZ.r72_43, hZ.r72_44, hZ.r72_45, hZ.r72_46, hZ.r72_47, hZ.r72_48, hZ.r72_49, hZ.r72_50, hZ.r72_55, hZ.r72_56, hZ.r72_57, hZ.r72_58, hZ.r72_59, hZ.r72_60, hZ.r72_62, hZ.r72_63, hZ.r72_64, hZ.r72_65, hZ.r72_66, hZ.r72_67]
    by_cases h2 : S 0 12 = -1
    · rw [if_pos h2]
      refine Eq.trans (if_pos h2) (Eq.trans b157_26 ?_)
      exact h_mix hZ hw1 (laN (up2 S 0 0 (S 0 0 + 1)) - 1) 0 xU (by omega)
    · rw [if_neg h2]
      exact Eq.trans (if_neg h2) b157_25
def hoursS : Nat → aS → aS
  | 0, S => S
  | n + 1, S => hourS (hoursS n S)
theorem topS_s {T : aS} {j : Nat} : topS T 0 j = T 0 j := by
  unfold topS
  split
  · exact up2_a (by decide)
  · rfl
theorem workS_s {T : aS} {j : Nat} (h : j ≠ 9) : workS T 0 j = T 0 j := by
  unfold workS warmS
  rw [up2_k h, topS_s, mixS_c _ 0 (by decide)]
theorem hourS_s {T : aS} {j : Nat} (h0 : j ≠ 0) (h9 : j ≠ 9) (h1 : j ≠ 12) (h2 : j ≠ 13) (h3 : j ≠ 14) : hourS T 0 j = T 0 j := by
  unfold hourS
  split
  · exact up2_k h0
  · split
    · rw [settle_s h1 h2 h3, workS_s h9]
      exact up2_k h0
    · exact up2_k h0
theorem hourS_wf {T : aS} (h : Wf0 T) : Wf0 (hourS T) := by
  unfold Wf0 riN laN at h ⊢
  rw [hourS_s (j := 7) (by decide) (by decide) (by decide) (by decide) (by decide), hourS_s (j := 8) (by decide) (by decide) (by decide) (by decide) (by decide)]
  exact h
theorem hoursS_wf {T : aS} (h : Wf0 T) : ∀ n, Wf0 (hoursS n T) := by
  intro n
  induction n with
  | zero => exact h
  | succ n ih => exact hourS_wf ih
theorem s_hours (hZ : Shp Z) (hw : Wf0 S) {n : Int32} : call 158 [.ref 72, .int n] (emb I S, G, Z) = if (inB n 0 500 && !decide (99999 < S 0 0 + n)) = true then some (some (.int (hoursS n.toNatClampNeg S 0 0)), (emb I (hoursS n.toNatClampNeg S), G, Z)) else some (some (.int (-1)), (emb I S, G, Z)) := by
  simp only [and_if, ndec_if]
  simp only [e158, b158_0, b158_9, b158_12, b158_23, m_in, bsome, tol1, bI_0, bI_n, nif, mI_t, mL_t, es2, es1, es3, es4, es5, es6, es7, es8, es9, es10, es11, es12, es13, es14, es15, es51, es52, es53, es54, es61, es0, es16, es17, es18, es19, es20, es21, es22, es23, es24, es25, es26, es27, es28, es29, es30, es31, es32, es33, es34, es35, es36, es37, es38, es39, es40, es41, es42, es43, es44, es45, es46, es47, es48, es49, es50, es55, es56, es57, es58, es59, es60, es62, es63, es64, es65, es66, es67, es68, es69, ea73, ea74, ea75, ea76, ea77, ea78, ea79, ea80, ea81, ea82, ea83, ea84, ea85, ea86, ea87, ea88, ea89, ea90, ea91, ea92, ea93, ea94, ea95, ea96, ea97, ea98, ea99, ea100, ea101, ea102, ea103, ea104, ea105, ea106, ea107, ea108, ea109, ea110, ea111, hZ.k72, hZ.r72_16, hZ.r72_17, hZ.r72_18, hZ.r72_19, hZ.r72_20, hZ.r72_21, hZ.r72_22, hZ.r72_23, hZ.r72_24, hZ.r72_25, hZ.r72_26, hZ.r72_35, hZ.r72_36, hZ.r72_37, hZ.r72_38, hZ.r72_39, hZ.r72_40, hZ.r72_41, hZ.r72_42, hZ.r72_43, hZ.r72_44, hZ.r72_45, hZ.r72_46, hZ.r72_47, hZ.r72_48, hZ.r72_49, hZ.r72_50, hZ.r72_55, hZ.r72_56, hZ.r72_57, hZ.r72_58, hZ.r72_59, hZ.r72_60, hZ.r72_62, hZ.r72_63, hZ.r72_64, hZ.r72_65, hZ.r72_66, hZ.r72_67, l64_0, l64_1, l64_2, l64_3, l64_4, l64_5, l64_7, l64_9, l64_10, l64_11, l64_15, l64_20, l64_60, l64_99, l64_140, l64_143, l64_199, l64_200, l64_255, l64_500, l64_999, l64_9999, l64_99999, l64_9999999, l64_m50, l64_m1, Int32.toInt_toInt64]
  by_cases h : inB n 0 500 = true
  · have hi := inB_iff.mp h
    obtain ⟨k, hk, rfl⟩ := iN_of (x := n) (by rw [Int32.lt_iff_toInt_lt]; have : (0 : Int32).toInt = 0 := rfl; omega)
    have hk5 : k ≤ 500 := by rw [iN_int hk] at hi; omega
    have key := loop_up (fun i => run 7 158 27 [.ref 72, .int (iN k), .int (iN i)] [] (emb I (hoursS i S), G, Z)) k (fun i hi' => by
      have hlt : iN i < iN k := (iN_lt (by omega) (by omega)).mpr hi'
      refine Eq.trans b158_27 (Eq.trans (if_neg (fun q => q hlt)) (Eq.trans (b158_32 hZ.k72) ?_))
      rw [s_hour hZ (hoursS_wf hw i)]
      refine Eq.trans b158_36 ?_
      rw [iN_succ]
      rfl) 0 (by omega)
    have hmain : run 7 158 25 [.ref 72, .int (iN k), xU] [] (emb I S, G, Z) = some (some (.int (hoursS k S 0 0)), (emb I (hoursS k S), G, Z)) := by
      refine Eq.trans b158_25 (Eq.trans key ?_)
      refine Eq.trans b158_27 (Eq.trans (if_pos (iN_nlt (by omega))) (Eq.trans (b158_42 hZ.k72) ?_))
      simp only [mI_t, mL_t, es2, es1, es3, es4, es5, es6, es7, es8, es9, es10, es11, es12, es13, es14, es15, es51, es52, es53, es54, es61, es0, es16, es17, es18, es19, es20, es21, es22, es23, es24, es25, es26, es27, es28, es29, es30, es31, es32, es33, es34, es35, es36, es37, es38, es39, es40, es41, es42, es43, es44, es45, es46, es47, es48, es49, es50, es55, es56, es57, es58, es59, es60, es62, es63, es64, es65, es66, es67, es68, es69, ea73, ea74, ea75, ea76, ea77, ea78, ea79, ea80, ea81, ea82, ea83, ea84, ea85, ea86, ea87, ea88, ea89, ea90, ea91, ea92, ea93, ea94, ea95, ea96, ea97, ea98, ea99, ea100, ea101, ea102, ea103, ea104, ea105, ea106, ea107, ea108, ea109, ea110, ea111, hZ.k72, hZ.r72_16, hZ.r72_17, hZ.r72_18, hZ.r72_19, hZ.r72_20, hZ.r72_21, hZ.r72_22, hZ.r72_23, hZ.r72_24, hZ.r72_25, hZ.r72_26, hZ.r72_35, hZ.r72_36, hZ.r72_37, hZ.r72_38, hZ.r72_39, hZ.r72_40, hZ.r72_41, hZ.r72_42, hZ.r72_43, hZ.r72_44, hZ.r72_45, hZ.r72_46, hZ.r72_47, hZ.r72_48, hZ.r72_49, hZ.r72_50, hZ.r72_55, hZ.r72_56, hZ.r72_57, hZ.r72_58, hZ.r72_59, hZ.r72_60, hZ.r72_62, hZ.r72_63, hZ.r72_64, hZ.r72_65, hZ.r72_66, hZ.r72_67]
    rw [hmain, iN_clamp hk]
  · rw [if_neg h, if_neg h]
end MH
