/-! THE REFERENCE'S TANK: trial, needed, more, thicker, look -/
section MB
variable {I : aI} {G : aL} {Z : aZ} {S : aS}
def trialOK (S : aS) (f w : Int32) : Bool := !decide (S 0 7 = 0) && (inB f 0 (low S (riN S)).toInt && inB w 1 99)
def triF (S : aS) (f w : Int32) : Nat → Int32
  | 0 => 0
  | k + 1 => triF S f w k ||| (if bearsS S k < ldB (f - low S k) w 0 (S 0 2) then 1 <<< (iN k &&& 31) else 0)
theorem s_trial (hZ : Shp Z) (hw : Wf0 S) {f w : Int32} : call 209 [.ref 72, .int f, .int w] (emb I S, G, Z) = some (some (.int (if trialOK S f w = true then triF S f w (riN S) else -1)), (emb I S, G, Z)) := by
  have h7 := hw.1.2
  have hlow : call 144 [.ref 72, .int (S 0 7)] (emb I S, G, Z) = some (some (.int (low S (riN S))), (emb I S, G, Z)) := by
    rw [hw.1.1]
    exact s_lower hZ h7
  unfold trialOK
  simp only [and_if, ndec_if]
  simp only [e209, b209_0, b209_7, b209_18, b209_22, b209_25, b209_34, b209_37, hlow, m_in, bsome, tol1, bI_0, bI_n, nif, mI_t, mL_t, es2, es1, es3, es4, es5, es6, es7, es8, es9, es10, es11, es12, es13, es14, es15, es51, es52, es53, es54, es61, es0, es16, es17, es18, es19, es20, es21, es22, es23, es24, es25, es26, es27, es28, es29, es30, es31, es32, es33, es34, es35, es36, es37, es38, es39, es40, es41, es42, es43, es44, es45, es46, es47, es48, es49, es50, es55, es56, es57, es58, es59, es60, es62, es63, es64, es65, es66, es67, es68, es69, ea73, ea74, ea75, ea76, ea77, ea78, ea79, ea80, ea81, ea82, ea83, ea84, ea85, ea86, ea87, ea88, ea89, ea90, ea91, ea92, ea93, ea94, ea95, ea96, ea97, ea98, ea99, ea100, ea101, ea102, ea103, ea104, ea105, ea106, ea107, ea108, ea109, ea110, ea111, hZ.k72, hZ.r72_16, hZ.r72_17, hZ.r72_18, hZ.r72_19, hZ.r72_20, hZ.r72_21, hZ.r72_22, hZ.r72_23, hZ.r72_24, hZ.r72_25, hZ.r72_26, hZ.r72_35, hZ.r72_36, hZ.r72_37, hZ.r72_38, hZ.r72_39, hZ.r72_40, hZ.r72_41, hZ.r72_42, hZ.r72_43, hZ.r72_44, hZ.r72_45, hZ.r72_46, hZ.r72_47, hZ.r72_48, hZ.r72_49, hZ.r72_50, hZ.r72_55, hZ.r72_56, hZ.r72_57, hZ.r72_58, hZ.r72_59, hZ.r72_60, hZ.r72_62, hZ.r72_63, hZ.r72_64, hZ.r72_65, hZ.r72_66, hZ.r72_67, l64_0, l64_1, l64_2, l64_3, l64_4, l64_5, l64_7, l64_9, l64_10, l64_11, l64_15, l64_20, l64_60, l64_99, l64_140, l64_143, l64_199, l64_200, l64_255, l64_500, l64_999, l64_9999, l64_99999, l64_9999999, l64_m50, l64_m1, Int32.toInt_toInt64]
  have key := loop_up (fun i => run 5 209 44 [.ref 72, .int f, .int w, .int (triF S f w i), .int (iN i)] [] (emb I S, G, Z)) (riN S) (fun i hi => by
    have hlt : iN i < iN (riN S) := (iN_lt (by omega) (by omega)).mpr hi
    refine Eq.trans (b209_44 hZ.k72) ?_
    simp only [mI_t, mL_t, es2, es1, es3, es4, es5, es6, es7, es8, es9, es10, es11, es12, es13, es14, es15, es51, es52, es53, es54, es61, es0, es16, es17, es18, es19, es20, es21, es22, es23, es24, es25, es26, es27, es28, es29, es30, es31, es32, es33, es34, es35, es36, es37, es38, es39, es40, es41, es42, es43, es44, es45, es46, es47, es48, es49, es50, es55, es56, es57, es58, es59, es60, es62, es63, es64, es65, es66, es67, es68, es69, ea73, ea74, ea75, ea76, ea77, ea78, ea79, ea80, ea81, ea82, ea83, ea84, ea85, ea86, ea87, ea88, ea89, ea90, ea91, ea92, ea93, ea94, ea95, ea96, ea97, ea98, ea99, ea100, ea101, ea102, ea103, ea104, ea105, ea106, ea107, ea108, ea109, ea110, ea111, hZ.k72, hZ.r72_16, hZ.r72_17, hZ.r72_18, hZ.r72_19, hZ.r72_20, hZ.r72_21, hZ.r72_22, hZ.r72_23, hZ.r72_24, hZ.r72_25, hZ.r72_26, hZ.r72_35, hZ.r72_36, hZ.r72_37, hZ.r72_38, hZ.r72_39, hZ.r72_40, hZ.r72_41, hZ.r72_42, hZ.r72_43, hZ.r72_44, hZ.r72_45, hZ.r72_46, hZ.r72_47, hZ.r72_48, hZ.r72_49, hZ.r72_50, hZ.r72_55, hZ.r72_56, hZ.r72_57, hZ.r72_58, hZ.r72_59, hZ.r72_60, hZ.r72_62, hZ.r72_63, hZ.r72_64, hZ.r72_65, hZ.r72_66, hZ.r72_67]
    rw [hw.1.1]
    refine Eq.trans (if_neg (fun q => q hlt)) (Eq.trans (b209_53 hZ.k72) ?_)
    rw [s_loadBy hZ (by omega)]
    refine Eq.trans (b209_63 hZ.k72) ?_
    rw [s_bearsOf hZ hw (by omega)]
    refine Eq.trans b209_69 ?_
    show _ = run 5 209 44 [.ref 72, .int f, .int w, .int (triF S f w (i + 1)), .int (iN (i + 1))] [] (emb I S, G, Z)
    rw [triF]
    by_cases h : bearsS S i < ldB (f - low S i) w 0 (S 0 2)
    · rw [if_pos h]
      refine Eq.trans (if_neg (fun q => q h)) ?_
      rw [b209_72, b209_80, iN_succ]
    · rw [if_neg h]
      refine Eq.trans (if_pos h) ?_
      rw [b209_79, b209_80, iN_succ]) 0 (by omega)
  have hmain : run 5 209 39 [.ref 72, .int f, .int w, xU, xU] [] (emb I S, G, Z) = some (some (.int (triF S f w (riN S))), (emb I S, G, Z)) := by
    refine Eq.trans b209_39 (Eq.trans key (Eq.trans (b209_44 hZ.k72) ?_))
    simp only [mI_t, mL_t, es2, es1, es3, es4, es5, es6, es7, es8, es9, es10, es11, es12, es13, es14, es15, es51, es52, es53, es54, es61, es0, es16, es17, es18, es19, es20, es21, es22, es23, es24, es25, es26, es27, es28, es29, es30, es31, es32, es33, es34, es35, es36, es37, es38, es39, es40, es41, es42, es43, es44, es45, es46, es47, es48, es49, es50, es55, es56, es57, es58, es59, es60, es62, es63, es64, es65, es66, es67, es68, es69, ea73, ea74, ea75, ea76, ea77, ea78, ea79, ea80, ea81, ea82, ea83, ea84, ea85, ea86, ea87, ea88, ea89, ea90, ea91, ea92, ea93, ea94, ea95, ea96, ea97, ea98, ea99, ea100, ea101, ea102, ea103, ea104, ea105, ea106, ea107, ea108, ea109, ea110, ea111, hZ.k72, hZ.r72_16, hZ.r72_17, hZ.r72_18, hZ.r72_19, hZ.r72_20, hZ.r72_21, hZ.r72_22, hZ.r72_23, hZ.r72_24, hZ.r72_25, hZ.r72_26, hZ.r72_35, hZ.r72_36, hZ.r72_37, hZ.r72_38, hZ.r72_39, hZ.r72_40, hZ.r72_41, hZ.r72_42, hZ.r72_43, hZ.r72_44, hZ.r72_45, hZ.r72_46, hZ.r72_47, hZ.r72_48, hZ.r72_49, hZ.r72_50, hZ.r72_55, hZ.r72_56, hZ.r72_57, hZ.r72_58, hZ.r72_59, hZ.r72_60, hZ.r72_62, hZ.r72_63, hZ.r72_64, hZ.r72_65, hZ.r72_66, hZ.r72_67]
    rw [hw.1.1]
    exact Eq.trans (if_pos (iN_nlt (by omega))) b209_88
  simp only [hmain]
  by_cases h0 : S 0 7 = 0
  · rw [if_pos h0, if_pos h0]
  · rw [if_neg h0, if_neg h0]
    by_cases h1 : inB f 0 (low S (riN S)).toInt = true
    · rw [if_pos h1, if_pos h1]
      by_cases h2 : inB w 1 99 = true
      · rw [if_pos h2, if_pos h2]
      · rw [if_neg h2, if_neg h2]
    · rw [if_neg h1, if_neg h1]
/-- the fewest from f on at which c fails, d tries -/
def seekF (c : Nat → Bool) : Nat → Nat → Nat
  | 0, f => f
  | d + 1, f => if c f = true then seekF c d (f + 1) else f
theorem seekF_le (c : Nat → Bool) : ∀ d f, f ≤ seekF c d f ∧ seekF c d f ≤ f + d := by
  intro d
  induction d with
  | zero => intro f; exact ⟨Nat.le_refl _, Nat.le_refl _⟩
  | succ d ih =>
    intro f
    rw [seekF]
    split
    · have := ih (f + 1)
      omega
    · omega
def nedC (S : aS) (k : Nat) (w : Int32) (f : Nat) : Bool := decide (ldB (iN f - low S k) w 0 (S 0 2) < fullS S k)
theorem s_needed (hZ : Shp Z) (hw : Wf0 S) {k w : Int32} {h : Nat} (hh : low S (riN S) = iN h) (h140 : h ≤ 1000) : call 211 [.ref 72, .int k, .int w] (emb I S, G, Z) = some (some (.int (if (isRg S k && inB w 1 99) = true then (if h < seekF (nedC S k.toNatClampNeg w) (h + 1) 0 then -2 else iN (seekF (nedC S k.toNatClampNeg w) (h + 1) 0)) else -1)), (emb I S, G, Z)) := by
  have h7 := hw.1.2
  have hlow : call 144 [.ref 72, .int (S 0 7)] (emb I S, G, Z) = some (some (.int (iN h)), (emb I S, G, Z)) := by
    rw [hw.1.1, ← hh]
    exact s_lower hZ h7
  simp only [and_if]
  simp only [e211, b211_0, b211_5, b211_8, b211_17, b211_20, s_isRing hZ, m_in, bsome, tol1, bI_0, bI_n, nif, mI_t, mL_t, es2, es1, es3, es4, es5, es6, es7, es8, es9, es10, es11, es12, es13, es14, es15, es51, es52, es53, es54, es61, es0, es16, es17, es18, es19, es20, es21, es22, es23, es24, es25, es26, es27, es28, es29, es30, es31, es32, es33, es34, es35, es36, es37, es38, es39, es40, es41, es42, es43, es44, es45, es46, es47, es48, es49, es50, es55, es56, es57, es58, es59, es60, es62, es63, es64, es65, es66, es67, es68, es69, ea73, ea74, ea75, ea76, ea77, ea78, ea79, ea80, ea81, ea82, ea83, ea84, ea85, ea86, ea87, ea88, ea89, ea90, ea91, ea92, ea93, ea94, ea95, ea96, ea97, ea98, ea99, ea100, ea101, ea102, ea103, ea104, ea105, ea106, ea107, ea108, ea109, ea110, ea111, hZ.k72, hZ.r72_16, hZ.r72_17, hZ.r72_18, hZ.r72_19, hZ.r72_20, hZ.r72_21, hZ.r72_22, hZ.r72_23, hZ.r72_24, hZ.r72_25, hZ.r72_26, hZ.r72_35, hZ.r72_36, hZ.r72_37, hZ.r72_38, hZ.r72_39, hZ.r72_40, hZ.r72_41, hZ.r72_42, hZ.r72_43, hZ.r72_44, hZ.r72_45, hZ.r72_46, hZ.r72_47, hZ.r72_48, hZ.r72_49, hZ.r72_50, hZ.r72_55, hZ.r72_56, hZ.r72_57, hZ.r72_58, hZ.r72_59, hZ.r72_60, hZ.r72_62, hZ.r72_63, hZ.r72_64, hZ.r72_65, hZ.r72_66, hZ.r72_67, l64_0, l64_1, l64_2, l64_3, l64_4, l64_5, l64_7, l64_9, l64_10, l64_11, l64_15, l64_20, l64_60, l64_99, l64_140, l64_143, l64_199, l64_200, l64_255, l64_500, l64_999, l64_9999, l64_99999, l64_9999999, l64_m50, l64_m1, Int32.toInt_toInt64]
  by_cases h1 : isRg S k = true
  · obtain ⟨j, hj, hj7, rfl⟩ := isRg_ex hw h1
    rw [if_pos h1, if_pos h1, iN_clamp (by omega)]
    have fin : ∀ f, f ≤ h + 1 → run 4 211 58 [.ref 72, .int (iN j), .int w, .int (iN f)] [] (emb I S, G, Z) = some (some (.int (if h < f then -2 else iN f)), (emb I S, G, Z)) := by
      intro f hf
      refine Eq.trans (b211_58 hZ.k72) ?_
      simp only [mI_t, mL_t, es2, es1, es3, es4, es5, es6, es7, es8, es9, es10, es11, es12, es13, es14, es15, es51, es52, es53, es54, es61, es0, es16, es17, es18, es19, es20, es21, es22, es23, es24, es25, es26, es27, es28, es29, es30, es31, es32, es33, es34, es35, es36, es37, es38, es39, es40, es41, es42, es43, es44, es45, es46, es47, es48, es49, es50, es55, es56, es57, es58, es59, es60, es62, es63, es64, es65, es66, es67, es68, es69, ea73, ea74, ea75, ea76, ea77, ea78, ea79, ea80, ea81, ea82, ea83, ea84, ea85, ea86, ea87, ea88, ea89, ea90, ea91, ea92, ea93, ea94, ea95, ea96, ea97, ea98, ea99, ea100, ea101, ea102, ea103, ea104, ea105, ea106, ea107, ea108, ea109, ea110, ea111, hZ.k72, hZ.r72_16, hZ.r72_17, hZ.r72_18, hZ.r72_19, hZ.r72_20, hZ.r72_21, hZ.r72_22, hZ.r72_23, hZ.r72_24, hZ.r72_25, hZ.r72_26, hZ.r72_35, hZ.r72_36, hZ.r72_37, hZ.r72_38, hZ.r72_39, hZ.r72_40, hZ.r72_41, hZ.r72_42, hZ.r72_43, hZ.r72_44, hZ.r72_45, hZ.r72_46, hZ.r72_47, hZ.r72_48, hZ.r72_49, hZ.r72_50, hZ.r72_55, hZ.r72_56, hZ.r72_57, hZ.r72_58, hZ.r72_59, hZ.r72_60, hZ.r72_62, hZ.r72_63, hZ.r72_64, hZ.r72_65, hZ.r72_66, hZ.r72_67]
      rw [hlow]
      refine Eq.trans b211_67 ?_
      by_cases hc : h < f
      · rw [if_pos hc]
        exact Eq.trans (if_neg (fun q => q ((iN_lt (by omega) (by omega)).mpr hc))) (Eq.trans b211_70 b211_76)
      · rw [if_neg hc]
        exact Eq.trans (if_pos (fun q => hc ((iN_lt (by omega) (by omega)).mp q))) (Eq.trans b211_75 b211_76)
    have key : ∀ d f, f + d = h + 1 → run 4 211 24 [.ref 72, .int (iN j), .int w, .int (iN f)] [] (emb I S, G, Z) = some (some (.int (if h < seekF (nedC S j w) d f then -2 else iN (seekF (nedC S j w) d f))), (emb I S, G, Z)) := by
      intro d
      induction d with
      | zero =>
        intro f hf
        refine Eq.trans (b211_24 hZ.k72) ?_
        simp only [mI_t, mL_t, es2, es1, es3, es4, es5, es6, es7, es8, es9, es10, es11, es12, es13, es14, es15, es51, es52, es53, es54, es61, es0, es16, es17, es18, es19, es20, es21, es22, es23, es24, es25, es26, es27, es28, es29, es30, es31, es32, es33, es34, es35, es36, es37, es38, es39, es40, es41, es42, es43, es44, es45, es46, es47, es48, es49, es50, es55, es56, es57, es58, es59, es60, es62, es63, es64, es65, es66, es67, es68, es69, ea73, ea74, ea75, ea76, ea77, ea78, ea79, ea80, ea81, ea82, ea83, ea84, ea85, ea86, ea87, ea88, ea89, ea90, ea91, ea92, ea93, ea94, ea95, ea96, ea97, ea98, ea99, ea100, ea101, ea102, ea103, ea104, ea105, ea106, ea107, ea108, ea109, ea110, ea111, hZ.k72, hZ.r72_16, hZ.r72_17, hZ.r72_18, hZ.r72_19, hZ.r72_20, hZ.r72_21, hZ.r72_22, hZ.r72_23, hZ.r72_24, hZ.r72_25, hZ.r72_26, hZ.r72_35, hZ.r72_36, hZ.r72_37, hZ.r72_38, hZ.r72_39, hZ.r72_40, hZ.r72_41, hZ.r72_42, hZ.r72_43, hZ.r72_44, hZ.r72_45, hZ.r72_46, hZ.r72_47, hZ.r72_48, hZ.r72_49, hZ.r72_50, hZ.r72_55, hZ.r72_56, hZ.r72_57, hZ.r72_58, hZ.r72_59, hZ.r72_60, hZ.r72_62, hZ.r72_63, hZ.r72_64, hZ.r72_65, hZ.r72_66, hZ.r72_67]
        rw [hlow]
        refine Eq.trans b211_33 (Eq.trans (if_pos ((iN_lt (by omega) (by omega)).mpr (by omega))) ?_)
        exact fin f (by omega)
      | succ d ih =>
        intro f hf
        refine Eq.trans (b211_24 hZ.k72) ?_
        simp only [mI_t, mL_t, es2, es1, es3, es4, es5, es6, es7, es8, es9, es10, es11, es12, es13, es14, es15, es51, es52, es53, es54, es61, es0, es16, es17, es18, es19, es20, es21, es22, es23, es24, es25, es26, es27, es28, es29, es30, es31, es32, es33, es34, es35, es36, es37, es38, es39, es40, es41, es42, es43, es44, es45, es46, es47, es48, es49, es50, es55, es56, es57, es58, es59, es60, es62, es63, es64, es65, es66, es67, es68, es69, ea73, ea74, ea75, ea76, ea77, ea78, ea79, ea80, ea81, ea82, ea83, ea84, ea85, ea86, ea87, ea88, ea89, ea90, ea91, ea92, ea93, ea94, ea95, ea96, ea97, ea98, ea99, ea100, ea101, ea102, ea103, ea104, ea105, ea106, ea107, ea108, ea109, ea110, ea111, hZ.k72, hZ.r72_16, hZ.r72_17, hZ.r72_18, hZ.r72_19, hZ.r72_20, hZ.r72_21, hZ.r72_22, hZ.r72_23, hZ.r72_24, hZ.r72_25, hZ.r72_26, hZ.r72_35, hZ.r72_36, hZ.r72_37, hZ.r72_38, hZ.r72_39, hZ.r72_40, hZ.r72_41, hZ.r72_42, hZ.r72_43, hZ.r72_44, hZ.r72_45, hZ.r72_46, hZ.r72_47, hZ.r72_48, hZ.r72_49, hZ.r72_50, hZ.r72_55, hZ.r72_56, hZ.r72_57, hZ.r72_58, hZ.r72_59, hZ.r72_60, hZ.r72_62, hZ.r72_63, hZ.r72_64, hZ.r72_65, hZ.r72_66, hZ.r72_67]
        rw [hlow]
        refine Eq.trans b211_33 (Eq.trans (if_neg (fun q => by have := (iN_lt (by omega) (by omega)).mp q; omega)) (Eq.trans (b211_36 hZ.k72) ?_))
        rw [s_loadBy hZ (by omega)]
        refine Eq.trans (b211_44 hZ.k72) ?_
        rw [s_fullLoad hZ hw (by omega)]
        refine Eq.trans b211_49 ?_
        rw [seekF]
        by_cases hc : ldB (iN f - low S j) w 0 (S 0 2) < fullS S j
        · rw [if_pos (show nedC S j w f = true from decide_eq_true hc)]
          refine Eq.trans (if_neg (fun q => q hc)) (Eq.trans b211_52 ?_)
          rw [iN_succ]
          exact ih (f + 1) (by omega)
        · rw [if_neg (show ¬ nedC S j w f = true from by unfold nedC; simpa using hc)]
          exact Eq.trans (if_pos hc) (fin f (by omega))
    have hmain : run 4 211 22 [.ref 72, .int (iN j), .int w, xU] [] (emb I S, G, Z) = _ := Eq.trans b211_22 (key (h + 1) 0 (by omega))
    rw [hmain]
    by_cases h2 : inB w 1 99 = true
    · rw [if_pos h2, if_pos h2]
    · rw [if_neg h2, if_neg h2]
  · rw [if_neg h1, if_neg h1]
def morC (S : aS) (k : Nat) (t : Nat) : Bool := decide (plateS S k (iN t) < fullS S k)
def moreK (S : aS) (k : Nat) : Int32 := if 999 < seekF (morC S k) (1000 - (S 3 k).toNatClampNeg) (S 3 k).toNatClampNeg then -1 else if S 7 k < fullS S k then -1 else iN (seekF (morC S k) (1000 - (S 3 k).toNatClampNeg) (S 3 k).toNatClampNeg) - S 3 k
theorem s_moreOf (hZ : Shp Z) (hw : Wf0 S) {k t : Nat} (hk : k < 7) (ht : S 3 k = iN t) (h999 : t ≤ 999) : call 212 [.ref 72, .int (iN k)] (emb I S, G, Z) = some (some (.int (moreK S k)), (emb I S, G, Z)) := by
  have hb : ib (iN k) 7 := ib_iN (by omega) hk
  have e999 : (999 : Int32) = iN 999 := rfl
  have fin : ∀ f, f ≤ 1000 → run 4 212 34 [.ref 72, .int (iN k), .int (iN f)] [] (emb I S, G, Z) = some (some (.int (if 999 < f then -1 else if S 7 k < fullS S k then -1 else iN f - S 3 k)), (emb I S, G, Z)) := by
    intro f hf
    refine Eq.trans b212_34 ?_
    by_cases h1 : 999 < f
    · rw [if_pos h1]
      exact Eq.trans (if_pos (by rw [e999]; exact (iN_lt (by omega) (by omega)).mpr h1)) (Eq.trans b212_55 b212_67)
    · rw [if_neg h1]
      refine Eq.trans (if_neg (fun q => by rw [e999] at q; exact h1 ((iN_lt (by omega) (by omega)).mp q))) (Eq.trans (b212_41 hZ.k72 hZ.kr72_22 (hZ.ir72_22 hb)) ?_)
      rw [s_fullLoad hZ hw (by omega)]
      refine Eq.trans b212_52 ?_
      simp only [mI_t, mL_t, es2, es1, es3, es4, es5, es6, es7, es8, es9, es10, es11, es12, es13, es14, es15, es51, es52, es53, es54, es61, es0, es16, es17, es18, es19, es20, es21, es22, es23, es24, es25, es26, es27, es28, es29, es30, es31, es32, es33, es34, es35, es36, es37, es38, es39, es40, es41, es42, es43, es44, es45, es46, es47, es48, es49, es50, es55, es56, es57, es58, es59, es60, es62, es63, es64, es65, es66, es67, es68, es69, ea73, ea74, ea75, ea76, ea77, ea78, ea79, ea80, ea81, ea82, ea83, ea84, ea85, ea86, ea87, ea88, ea89, ea90, ea91, ea92, ea93, ea94, ea95, ea96, ea97, ea98, ea99, ea100, ea101, ea102, ea103, ea104, ea105, ea106, ea107, ea108, ea109, ea110, ea111, hZ.k72, hZ.r72_16, hZ.r72_17, hZ.r72_18, hZ.r72_19, hZ.r72_20, hZ.r72_21, hZ.r72_22, hZ.r72_23, hZ.r72_24, hZ.r72_25, hZ.r72_26, hZ.r72_35, hZ.r72_36, hZ.r72_37, hZ.r72_38, hZ.r72_39, hZ.r72_40, hZ.r72_41, hZ.r72_42, hZ.r72_43, hZ.r72_44, hZ.r72_45, hZ.r72_46, hZ.r72_47, hZ.r72_48, hZ.r72_49, hZ.r72_50, hZ.r72_55, hZ.r72_56, hZ.r72_57, hZ.r72_58, hZ.r72_59, hZ.r72_60, hZ.r72_62, hZ.r72_63, hZ.r72_64, hZ.r72_65, hZ.r72_66, hZ.r72_67, iN_clamp (show k < 2147483648 by omega)]
      by_cases h2 : S 7 k < fullS S k
      · rw [if_pos h2]
        exact Eq.trans (if_neg (fun q => q h2)) (Eq.trans b212_55 b212_67)
      · rw [if_neg h2]
        refine Eq.trans (if_pos h2) (Eq.trans (b212_59 hZ.k72 hZ.kr72_18 (hZ.ir72_18 hb)) (Eq.trans b212_67 ?_))
        simp only [mI_t, mL_t, es2, es1, es3, es4, es5, es6, es7, es8, es9, es10, es11, es12, es13, es14, es15, es51, es52, es53, es54, es61, es0, es16, es17, es18, es19, es20, es21, es22, es23, es24, es25, es26, es27, es28, es29, es30, es31, es32, es33, es34, es35, es36, es37, es38, es39, es40, es41, es42, es43, es44, es45, es46, es47, es48, es49, es50, es55, es56, es57, es58, es59, es60, es62, es63, es64, es65, es66, es67, es68, es69, ea73, ea74, ea75, ea76, ea77, ea78, ea79, ea80, ea81, ea82, ea83, ea84, ea85, ea86, ea87, ea88, ea89, ea90, ea91, ea92, ea93, ea94, ea95, ea96, ea97, ea98, ea99, ea100, ea101, ea102, ea103, ea104, ea105, ea106, ea107, ea108, ea109, ea110, ea111, hZ.k72, hZ.r72_16, hZ.r72_17, hZ.r72_18, hZ.r72_19, hZ.r72_20, hZ.r72_21, hZ.r72_22, hZ.r72_23, hZ.r72_24, hZ.r72_25, hZ.r72_26, hZ.r72_35, hZ.r72_36, hZ.r72_37, hZ.r72_38, hZ.r72_39, hZ.r72_40, hZ.r72_41, hZ.r72_42, hZ.r72_43, hZ.r72_44, hZ.r72_45, hZ.r72_46, hZ.r72_47, hZ.r72_48, hZ.r72_49, hZ.r72_50, hZ.r72_55, hZ.r72_56, hZ.r72_57, hZ.r72_58, hZ.r72_59, hZ.r72_60, hZ.r72_62, hZ.r72_63, hZ.r72_64, hZ.r72_65, hZ.r72_66, hZ.r72_67, iN_clamp (show k < 2147483648 by omega)]
  have key : ∀ d f, f + d = 1000 → run 4 212 7 [.ref 72, .int (iN k), .int (iN f)] [] (emb I S, G, Z) = some (some (.int (if 999 < seekF (morC S k) d f then -1 else if S 7 k < fullS S k then -1 else iN (seekF (morC S k) d f) - S 3 k)), (emb I S, G, Z)) := by
    intro d
    induction d with
    | zero =>
      intro f hf
      refine Eq.trans b212_7 (Eq.trans (if_pos (by rw [e999]; exact (iN_lt (by omega) (by omega)).mpr (by omega))) ?_)
      exact fin f (by omega)
    | succ d ih =>
      intro f hf
      refine Eq.trans b212_7 (Eq.trans (if_neg (fun q => by rw [e999] at q; have := (iN_lt (by omega) (by omega)).mp q; omega)) (Eq.trans (b212_14 hZ.k72) ?_))
      rw [s_plateBy hZ hw hk]
      refine Eq.trans (b212_20 hZ.k72) ?_
      rw [s_fullLoad hZ hw (by omega)]
      refine Eq.trans b212_25 ?_
      rw [seekF]
      by_cases hc : plateS S k (iN f) < fullS S k
      · rw [if_pos (show morC S k f = true from decide_eq_true hc)]
        refine Eq.trans (if_neg (fun q => q hc)) (Eq.trans b212_28 ?_)
        rw [iN_succ]
        exact ih (f + 1) (by omega)
      · rw [if_neg (show ¬ morC S k f = true from by unfold morC; simpa using hc)]
        exact Eq.trans (if_pos hc) (fin f (by omega))
  refine Eq.trans e212 (Eq.trans (b212_0 hZ.k72 hZ.kr72_18 (hZ.ir72_18 hb)) ?_)
  simp only [mI_t, mL_t, es2, es1, es3, es4, es5, es6, es7, es8, es9, es10, es11, es12, es13, es14, es15, es51, es52, es53, es54, es61, es0, es16, es17, es18, es19, es20, es21, es22, es23, es24, es25, es26, es27, es28, es29, es30, es31, es32, es33, es34, es35, es36, es37, es38, es39, es40, es41, es42, es43, es44, es45, es46, es47, es48, es49, es50, es55, es56, es57, es58, es59, es60, es62, es63, es64, es65, es66, es67, es68, es69, ea73, ea74, ea75, ea76, ea77, ea78, ea79, ea80, ea81, ea82, ea83, ea84, ea85, ea86, ea87, ea88, ea89, ea90, ea91, ea92, ea93, ea94, ea95, ea96, ea97, ea98, ea99, ea100, ea101, ea102, ea103, ea104, ea105, ea106, ea107, ea108, ea109, ea110, ea111, hZ.k72, hZ.r72_16, hZ.r72_17, hZ.r72_18, hZ.r72_19, hZ.r72_20, hZ.r72_21, hZ.r72_22, hZ.r72_23, hZ.r72_24, hZ.r72_25, hZ.r72_26, hZ.r72_35, hZ.r72_36, hZ.r72_37, hZ.r72_38, hZ.r72_39, hZ.r72_40, hZ.r72_41, hZ.r72_42, hZ.r72_43, hZ.r72_44, hZ.r72_45, hZ.r72_46, hZ.r72_47, hZ.r72_48, hZ.r72_49, hZ.r72_50, hZ.r72_55, hZ.r72_56, hZ.r72_57, hZ.r72_58, hZ.r72_59, hZ.r72_60, hZ.r72_62, hZ.r72_63, hZ.r72_64, hZ.r72_65, hZ.r72_66, hZ.r72_67, iN_clamp (show k < 2147483648 by omega)]
  unfold moreK
  rw [ht, iN_clamp (by omega)]
  have := key (1000 - t) t (by omega)
  rw [ht] at this
  exact this
/-- coins of d rings from k on, behind s -/
def msF (f co : Nat → Int32) : Nat → Nat → Int32 → Int32
  | 0, _, s => s
  | d + 1, k, s => if f k = -1 then -2 else msF f co d (k + 1) (s + co k * f k)
def moreS (S : aS) : Int32 := if S 0 7 = 0 then -1 else msF (moreK S) (S 8) (riN S) 0 0
def Bu (S : aS) : Prop := ∀ k, k < riN S → ∃ t, t ≤ 999 ∧ S 3 k = iN t
theorem s_more (hZ : Shp Z) (hw : Wf0 S) (hB : Bu S) : call 213 [.ref 72] (emb I S, G, Z) = some (some (.int (moreS S)), (emb I S, G, Z)) := by
  have h7 := hw.1.2
  refine Eq.trans e213 (Eq.trans (b213_0 hZ.k72) ?_)
  simp only [mI_t, mL_t, es2, es1, es3, es4, es5, es6, es7, es8, es9, es10, es11, es12, es13, es14, es15, es51, es52, es53, es54, es61, es0, es16, es17, es18, es19, es20, es21, es22, es23, es24, es25, es26, es27, es28, es29, es30, es31, es32, es33, es34, es35, es36, es37, es38, es39, es40, es41, es42, es43, es44, es45, es46, es47, es48, es49, es50, es55, es56, es57, es58, es59, es60, es62, es63, es64, es65, es66, es67, es68, es69, ea73, ea74, ea75, ea76, ea77, ea78, ea79, ea80, ea81, ea82, ea83, ea84, ea85, ea86, ea87, ea88, ea89, ea90, ea91, ea92, ea93, ea94, ea95, ea96, ea97, ea98, ea99, ea100, ea101, ea102, ea103, ea104, ea105, ea106, ea107, ea108, ea109, ea110, ea111, hZ.k72, hZ.r72_16, hZ.r72_17, hZ.r72_18, hZ.r72_19, hZ.r72_20, hZ.r72_21, hZ.r72_22, hZ.r72_23, hZ.r72_24, hZ.r72_25, hZ.r72_26, hZ.r72_35, hZ.r72_36, hZ.r72_37, hZ.r72_38, hZ.r72_39, hZ.r72_40, hZ.r72_41, hZ.r72_42, hZ.r72_43, hZ.r72_44, hZ.r72_45, hZ.r72_46, hZ.r72_47, hZ.r72_48, hZ.r72_49, hZ.r72_50, hZ.r72_55, hZ.r72_56, hZ.r72_57, hZ.r72_58, hZ.r72_59, hZ.r72_60, hZ.r72_62, hZ.r72_63, hZ.r72_64, hZ.r72_65, hZ.r72_66, hZ.r72_67]
  unfold moreS
  by_cases h0 : S 0 7 = 0
  · rw [if_pos h0]
    exact Eq.trans (if_neg (fun q => q h0)) b213_7
  · rw [if_neg h0]
    refine Eq.trans (if_pos h0) (Eq.trans b213_9 ?_)
    have key : ∀ d k s v, k + d = riN S → run 5 213 13 [.ref 72, .int s, .int (iN k), v] [] (emb I S, G, Z) = some (some (.int (msF (moreK S) (S 8) d k s)), (emb I S, G, Z)) := by
      intro d
      induction d with
      | zero =>
        intro k s v hk
        refine Eq.trans (b213_13 hZ.k72) ?_
        simp only [mI_t, mL_t, es2, es1, es3, es4, es5, es6, es7, es8, es9, es10, es11, es12, es13, es14, es15, es51, es52, es53, es54, es61, es0, es16, es17, es18, es19, es20, es21, es22, es23, es24, es25, es26, es27, es28, es29, es30, es31, es32, es33, es34, es35, es36, es37, es38, es39, es40, es41, es42, es43, es44, es45, es46, es47, es48, es49, es50, es55, es56, es57, es58, es59, es60, es62, es63, es64, es65, es66, es67, es68, es69, ea73, ea74, ea75, ea76, ea77, ea78, ea79, ea80, ea81, ea82, ea83, ea84, ea85, ea86, ea87, ea88, ea89, ea90, ea91, ea92, ea93, ea94, ea95, ea96, ea97, ea98, ea99, ea100, ea101, ea102, ea103, ea104, ea105, ea106, ea107, ea108, ea109, ea110, ea111, hZ.k72, hZ.r72_16, hZ.r72_17, hZ.r72_18, hZ.r72_19, hZ.r72_20, hZ.r72_21, hZ.r72_22, hZ.r72_23, hZ.r72_24, hZ.r72_25, hZ.r72_26, hZ.r72_35, hZ.r72_36, hZ.r72_37, hZ.r72_38, hZ.r72_39, hZ.r72_40, hZ.r72_41, hZ.r72_42, hZ.r72_43, hZ.r72_44, hZ.r72_45, hZ.r72_46, hZ.r72_47, hZ.r72_48, hZ.r72_49, hZ.r72_50, hZ.r72_55, hZ.r72_56, hZ.r72_57, hZ.r72_58, hZ.r72_59, hZ.r72_60, hZ.r72_62, hZ.r72_63, hZ.r72_64, hZ.r72_65, hZ.r72_66, hZ.r72_67]
        rw [hw.1.1, show k = riN S by omega]
        exact Eq.trans (if_pos (iN_nlt (by omega))) b213_52
      | succ d ih =>
        intro k s v hk
        have hlt : iN k < iN (riN S) := (iN_lt (by omega) (by omega)).mpr (by omega)
        have hb : ib (iN k) 7 := ib_iN (by omega) (by omega)
        obtain ⟨t, ht, hbt⟩ := hB k (by omega)
        refine Eq.trans (b213_13 hZ.k72) ?_
        simp only [mI_t, mL_t, es2, es1, es3, es4, es5, es6, es7, es8, es9, es10, es11, es12, es13, es14, es15, es51, es52, es53, es54, es61, es0, es16, es17, es18, es19, es20, es21, es22, es23, es24, es25, es26, es27, es28, es29, es30, es31, es32, es33, es34, es35, es36, es37, es38, es39, es40, es41, es42, es43, es44, es45, es46, es47, es48, es49, es50, es55, es56, es57, es58, es59, es60, es62, es63, es64, es65, es66, es67, es68, es69, ea73, ea74, ea75, ea76, ea77, ea78, ea79, ea80, ea81, ea82, ea83, ea84, ea85, ea86, ea87, ea88, ea89, ea90, ea91, ea92, ea93, ea94, ea95, ea96, ea97, ea98, ea99, ea100, ea101, ea102, ea103, ea104, ea105, ea106, ea107, ea108, ea109, ea110, ea111, hZ.k72, hZ.r72_16, hZ.r72_17, hZ.r72_18, hZ.r72_19, hZ.r72_20, hZ.r72_21, hZ.r72_22, hZ.r72_23, hZ.r72_24, hZ.r72_25, hZ.r72_26, hZ.r72_35, hZ.r72_36, hZ.r72_37, hZ.r72_38, hZ.r72_39, hZ.r72_40, hZ.r72_41, hZ.r72_42, hZ.r72_43, hZ.r72_44, hZ.r72_45, hZ.r72_46, hZ.r72_47, hZ.r72_48, hZ.r72_49, hZ.r72_50, hZ.r72_55, hZ.r72_56, hZ.r72_57, hZ.r72_58, hZ.r72_59, hZ.r72_60, hZ.r72_62, hZ.r72_63, hZ.r72_64, hZ.r72_65, hZ.r72_66, hZ.r72_67]
        rw [hw.1.1]
        refine Eq.trans (if_neg (fun q => q hlt)) (Eq.trans (b213_21 hZ.k72) ?_)
        rw [s_moreOf hZ hw (by omega) hbt ht]
        refine Eq.trans b213_26 ?_
        rw [msF]
        by_cases hm : moreK S k = -1
        · rw [if_pos hm]
          exact Eq.trans (if_neg (fun q => q hm)) b213_32
        · rw [if_neg hm]
          refine Eq.trans (if_pos hm) (Eq.trans (b213_35 hZ.k72 hZ.kr72_23 (hZ.ir72_23 hb)) ?_)
          simp only [mI_t, mL_t, es2, es1, es3, es4, es5, es6, es7, es8, es9, es10, es11, es12, es13, es14, es15, es51, es52, es53, es54, es61, es0, es16, es17, es18, es19, es20, es21, es22, es23, es24, es25, es26, es27, es28, es29, es30, es31, es32, es33, es34, es35, es36, es37, es38, es39, es40, es41, es42, es43, es44, es45, es46, es47, es48, es49, es50, es55, es56, es57, es58, es59, es60, es62, es63, es64, es65, es66, es67, es68, es69, ea73, ea74, ea75, ea76, ea77, ea78, ea79, ea80, ea81, ea82, ea83, ea84, ea85, ea86, ea87, ea88, ea89, ea90, ea91, ea92, ea93, ea94, ea95, ea96, ea97, ea98, ea99, ea100, ea101, ea102, ea103, ea104, ea105, ea106, ea107, ea108, ea109, ea110, ea111, hZ.k72, hZ.r72_16, hZ.r72_17, hZ.r72_18, hZ.r72_19, hZ.r72_20, hZ.r72_21, hZ.r72_22, hZ.r72_23, hZ.r72_24, hZ.r72_25, hZ.r72_26, hZ.r72_35, hZ.r72_36, hZ.r72_37, hZ.r72_38, hZ.r72_39, hZ.r72_40, hZ.r72_41, hZ.r72_42, hZ.r72_43, hZ.r72_44, hZ.r72_45, hZ.r72_46, hZ.r72_47, hZ.r72_48, hZ.r72_49, hZ.r72_50, hZ.r72_55, hZ.r72_56, hZ.r72_57, hZ.r72_58, hZ.r72_59, hZ.r72_60, hZ.r72_62, hZ.r72_63, hZ.r72_64, hZ.r72_65, hZ.r72_66, hZ.r72_67, iN_clamp (show k < 2147483648 by omega), iN_succ]
          exact ih (k + 1) _ _ (by omega)
    exact key (riN S) 0 0 xU (by omega)
theorem s_thicker (hZ : Shp Z) (hw : Wf0 S) (hB : Bu S) {k : Int32} : call 214 [.ref 72, .int k] (emb I S, G, Z) = some (some (.int (if isRg S k = true then (if moreS S = -2 then -2 else moreK S k.toNatClampNeg) else -1)), (emb I S, G, Z)) := by
  simp only [e214, b214_0, b214_5, b214_8, b214_10, b214_14, b214_19, b214_29, s_isRing hZ, s_more hZ hw hB, bsome, tol1, bI_0, bI_n, nif, mI_t, mL_t, es2, es1, es3, es4, es5, es6, es7, es8, es9, es10, es11, es12, es13, es14, es15, es51, es52, es53, es54, es61, es0, es16, es17, es18, es19, es20, es21, es22, es23, es24, es25, es26, es27, es28, es29, es30, es31, es32, es33, es34, es35, es36, es37, es38, es39, es40, es41, es42, es43, es44, es45, es46, es47, es48, es49, es50, es55, es56, es57, es58, es59, es60, es62, es63, es64, es65, es66, es67, es68, es69, ea73, ea74, ea75, ea76, ea77, ea78, ea79, ea80, ea81, ea82, ea83, ea84, ea85, ea86, ea87, ea88, ea89, ea90, ea91, ea92, ea93, ea94, ea95, ea96, ea97, ea98, ea99, ea100, ea101, ea102, ea103, ea104, ea105, ea106, ea107, ea108, ea109, ea110, ea111, hZ.k72, hZ.r72_16, hZ.r72_17, hZ.r72_18, hZ.r72_19, hZ.r72_20, hZ.r72_21, hZ.r72_22, hZ.r72_23, hZ.r72_24, hZ.r72_25, hZ.r72_26, hZ.r72_35, hZ.r72_36, hZ.r72_37, hZ.r72_38, hZ.r72_39, hZ.r72_40, hZ.r72_41, hZ.r72_42, hZ.r72_43, hZ.r72_44, hZ.r72_45, hZ.r72_46, hZ.r72_47, hZ.r72_48, hZ.r72_49, hZ.r72_50, hZ.r72_55, hZ.r72_56, hZ.r72_57, hZ.r72_58, hZ.r72_59, hZ.r72_60, hZ.r72_62, hZ.r72_63, hZ.r72_64, hZ.r72_65, hZ.r72_66, hZ.r72_67]
  by_cases h : isRg S k = true
  · obtain ⟨j, hj, hj7, rfl⟩ := isRg_ex hw h
    obtain ⟨t, ht, hbt⟩ := hB j hj
    rw [if_pos h, if_pos h]
    by_cases h2 : moreS S = -2
    · rw [if_pos h2, if_pos h2]
    · rw [if_neg h2, if_neg h2]
      refine Eq.trans (b214_24 hZ.k72) ?_
      rw [s_moreOf hZ hw hj7 hbt ht, iN_clamp (by omega)]
      exact b214_29
  · rw [if_neg h, if_neg h]
end MB
