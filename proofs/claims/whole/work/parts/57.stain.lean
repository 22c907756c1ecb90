/-! THE STREETS: stains and the wave's beginning -/
def stn1 (T : aS) (k : Nat) : aS := if 0 < T 15 k then up2 (up2 T 16 k (if T 16 k < T 14 k + T 15 k then T 14 k + T 15 k else T 16 k)) 17 k (if T 17 k = -1 then T 0 18 else T 17 k) else T
def stF : Nat → aS → aS
  | 0, S => S
  | k + 1, S => stn1 (stF k S) k
theorem stn1_c {T : aS} {k c : Nat} (h1 : c ≠ 16) (h2 : c ≠ 17) : stn1 T k c = T c := by
  unfold stn1
  split
  · funext i; rw [up2_a h2, up2_a h1]
  · rfl
theorem stF_c {S : aS} {c : Nat} (h1 : c ≠ 16) (h2 : c ≠ 17) : ∀ k, stF k S c = S c := by
  intro k
  induction k with
  | zero => rfl
  | succ k ih => rw [stF, stn1_c h1 h2, ih]
def waveS (S : aS) (p : Nat) (much e s : Int32) : aS := fun c k => if c = 0 then (if k = 15 then 1 else if k = 16 then e else if k = 17 then s else if k = 18 then 0 else S 0 k) else if c = 15 ∧ k < 144 then (if k = p then much else 0) else if c = 16 ∧ k < 144 then 0 else if c = 17 ∧ k < 144 then -1 else S c k
def waveOK (x y m e s : Int32) : Bool := isPl x y && (inB m 0 99999 && (inB e 0 99 && inB s 0 999))
/-- rows of the first k places, as a wave's beginning leaves them -/
def wvF (S : aS) (p : Nat) (much : Int32) (n : Nat) : aS := fun c k => if c = 15 ∧ k < n then (if k = p then much else 0) else if c = 16 ∧ k < n then 0 else if c = 17 ∧ k < n then -1 else S c k
theorem wvF_s {S : aS} {p : Nat} {much : Int32} {n : Nat} : up2 (up2 (up2 (wvF S p much n) 15 n (if n = p then much else 0)) 16 n 0) 17 n (-1) = wvF S p much (n + 1) := by
  funext c k
  simp only [up2_e, wvF]
  grind
theorem wvF_0 {S : aS} {p : Nat} {much : Int32} : wvF S p much 0 = S := by
  funext c k
  unfold wvF
  rw [if_neg (by omega), if_neg (by omega), if_neg (by omega)]
theorem wvF_c {S : aS} {p : Nat} {much : Int32} {n c : Nat} (h1 : c ≠ 15) (h2 : c ≠ 16) (h3 : c ≠ 17) : wvF S p much n c = S c := by
  funext k
  unfold wvF
  rw [if_neg (fun q => h1 q.1), if_neg (fun q => h2 q.1), if_neg (fun q => h3 q.1)]
theorem wv_cls {S : aS} {p : Nat} {much e s : Int32} : up2 (up2 (up2 (up2 (wvF S p much 144) 0 15 1) 0 18 0) 0 16 e) 0 17 s = waveS S p much e s := by
  funext c k
  unfold waveS
  by_cases h0 : c = 0
  · subst h0
    rw [if_pos rfl]
    by_cases h15 : k = 15
    · subst h15; rfl
    by_cases h16 : k = 16
    · subst h16; rfl
    by_cases h17 : k = 17
    · subst h17; rfl
    by_cases h18 : k = 18
    · subst h18; rfl
    rw [up2_k h17, up2_k h16, up2_k h18, up2_k h15, if_neg h15, if_neg h16, if_neg h17, if_neg h18, wvF_c (by decide) (by decide) (by decide)]
  · rw [if_neg h0, up2_a h0, up2_a h0, up2_a h0, up2_a h0]
    rfl
theorem wv_ref {S : aS} {p : Nat} (hp : p < 144) {much e s : Int32} : up2 (wvF (up2 (up2 (up2 (up2 S 0 15 1) 0 16 e) 0 17 s) 0 18 0) 144 0 144) 15 p much = waveS S p much e s := by
  funext c k
  simp only [up2_e, wvF, waveS]
  grind
section ST
variable {I : aI} {G : aL} {Z : aZ} {S : aS}
theorem s_stains (hZ : Shp Z) : call 220 [.ref 72] (emb I S, G, Z) = some (none, (emb I (stF 144 S), G, Z)) := by
  have e144 : (144 : Int32) = iN 144 := rfl
  refine Eq.trans e220 (Eq.trans b220_0 ?_)
  have key : ∀ d k v, k + d = 144 → run 1 220 2 [.ref 72, .int (iN k), v] [] (emb I (stF k S), G, Z) = some (none, (emb I (stF 144 S), G, Z)) := by
    intro d
    induction d with
    | zero =>
      intro k v hk
      refine Eq.trans b220_2 ?_
      rw [e144, show k = 144 by omega]
      exact Eq.trans (if_pos (iN_nlt (by omega))) b220_93
    | succ d ih =>
      intro k v hk
      have hlt : iN k < iN 144 := (iN_lt (by omega) (by omega)).mpr (by omega)
      have hb : ib (iN k) 144 := ib_iN (by omega) (by omega)
      have hc : (iN k).toNatClampNeg = k := iN_clamp (by omega)
      have nx := fun v => ih (k + 1) v (by omega)
      rw [stF] at nx
      unfold stn1 at nx
      refine Eq.trans b220_2 ?_
      rw [e144]
      refine Eq.trans (if_neg (fun q => q hlt)) (Eq.trans (b220_9 hZ.k72 hZ.kr72_56 (hZ.ir72_56 hb)) ?_)
      simp only [mI_t, mL_t, es2, es1, es3, es4, es5, es6, es7, es8, es9, es10, es11, es12, es13, es14, es15, es51, es52, es53, es54, es61, es0, es16, es17, es18, es19, es20, es21, es22, es23, es24, es25, es26, es27, es28, es29, es30, es31, es32, es33, es34, es35, es36, es37, es38, es39, es40, es41, es42, es43, es44, es45, es46, es47, es48, es49, es50, es55, es56, es57, es58, es59, es60, es62, es63, es64, es65, es66, es67, es68, es69, ea73, ea74, ea75, ea76, ea77, ea78, ea79, ea80, ea81, ea82, ea83, ea84, ea85, ea86, ea87, ea88, ea89, ea90, ea91, ea92, ea93, ea94, ea95, ea96, ea97, ea98, ea99, ea100, ea101, ea102, ea103, ea104, ea105, ea106, ea107, ea108, ea109, ea110, ea111, hZ.k72, hZ.r72_16, hZ.r72_17, hZ.r72_18, hZ.r72_19, hZ.r72_20, hZ.r72_21, hZ.r72_22, hZ.r72_23, hZ.r72_24, hZ.r72_25, hZ.r72_26, hZ.r72_35, hZ.r72_36, hZ.r72_37, hZ.r72_38, hZ.r72_39, hZ.r72_40, hZ.r72_41, hZ.r72_42, hZ.r72_43, hZ.r72_44, hZ.r72_45, hZ.r72_46, hZ.r72_47, hZ.r72_48, hZ.r72_49, hZ.r72_50, hZ.r72_55, hZ.r72_56, hZ.r72_57, hZ.r72_58, hZ.r72_59, hZ.r72_60, hZ.r72_62, hZ.r72_63, hZ.r72_64, hZ.r72_65, hZ.r72_66, hZ.r72_67, hc]
      by_cases h1 : 0 < stF k S 15 k
      · rw [if_pos h1] at nx
        refine Eq.trans (if_neg (fun q => q h1)) (Eq.trans (b220_18 hZ.k72 hZ.kr72_55 (hZ.ir72_55 hb) hZ.kr72_56 (hZ.ir72_56 hb) hZ.kr72_57 (hZ.ir72_57 hb)) ?_)
        simp only [mI_t, mL_t, es2, es1, es3, es4, es5, es6, es7, es8, es9, es10, es11, es12, es13, es14, es15, es51, es52, es53, es54, es61, es0, es16, es17, es18, es19, es20, es21, es22, es23, es24, es25, es26, es27, es28, es29, es30, es31, es32, es33, es34, es35, es36, es37, es38, es39, es40, es41, es42, es43, es44, es45, es46, es47, es48, es49, es50, es55, es56, es57, es58, es59, es60, es62, es63, es64, es65, es66, es67, es68, es69, ea73, ea74, ea75, ea76, ea77, ea78, ea79, ea80, ea81, ea82, ea83, ea84, ea85, ea86, ea87, ea88, ea89, ea90, ea91, ea92, ea93, ea94, ea95, ea96, ea97, ea98, ea99, ea100, ea101, ea102, ea103, ea104, ea105, ea106, ea107, ea108, ea109, ea110, ea111, hZ.k72, hZ.r72_16, hZ.r72_17, hZ.r72_18, hZ.r72_19, hZ.r72_20, hZ.r72_21, hZ.r72_22, hZ.r72_23, hZ.r72_24, hZ.r72_25, hZ.r72_26, hZ.r72_35, hZ.r72_36, hZ.r72_37, hZ.r72_38, hZ.r72_39, hZ.r72_40, hZ.r72_41, hZ.r72_42, hZ.r72_43, hZ.r72_44, hZ.r72_45, hZ.r72_46, hZ.r72_47, hZ.r72_48, hZ.r72_49, hZ.r72_50, hZ.r72_55, hZ.r72_56, hZ.r72_57, hZ.r72_58, hZ.r72_59, hZ.r72_60, hZ.r72_62, hZ.r72_63, hZ.r72_64, hZ.r72_65, hZ.r72_66, hZ.r72_67, hc]
        have go : ∀ (x : Int32) (T : aS) (w : Int32), T 17 k = stF k S 17 k → T 0 18 = stF k S 0 18 → up2 T 16 k w = up2 (stF k S) 16 k w → run 1 220 57 [.ref 72, .int (iN k), .int x] [.int w, .int (iN k), .ref 102] (emb I T, G, Z) = run 1 220 2 [.ref 72, .int (iN (k + 1)), .int x] [] (emb I (up2 (up2 (stF k S) 16 k w) 17 k (if stF k S 17 k = -1 then stF k S 0 18 else stF k S 17 k)), G, Z) := by
          intro x T w q1 q2 q3
          refine Eq.trans (b220_57 hZ.k102 (hZ.i102 hb) hZ.k72 hZ.kr72_58 (hZ.ir72_58 hb)) ?_
          simp only [mI_t, mL_t, wI_t, wL_t, es2, es1, es3, es4, es5, es6, es7, es8, es9, es10, es11, es12, es13, es14, es15, es51, es52, es53, es54, es61, es0, es16, es17, es18, es19, es20, es21, es22, es23, es24, es25, es26, es27, es28, es29, es30, es31, es32, es33, es34, es35, es36, es37, es38, es39, es40, es41, es42, es43, es44, es45, es46, es47, es48, es49, es50, es55, es56, es57, es58, es59, es60, es62, es63, es64, es65, es66, es67, es68, es69, ea73, ea74, ea75, ea76, ea77, ea78, ea79, ea80, ea81, ea82, ea83, ea84, ea85, ea86, ea87, ea88, ea89, ea90, ea91, ea92, ea93, ea94, ea95, ea96, ea97, ea98, ea99, ea100, ea101, ea102, ea103, ea104, ea105, ea106, ea107, ea108, ea109, ea110, ea111, ew2, ew1, ew3, ew4, ew5, ew6, ew7, ew8, ew9, ew10, ew11, ew12, ew13, ew14, ew15, ew51, ew52, ew53, ew54, ew61, ew0, ew16, ew17, ew18, ew19, ew20, ew21, ew22, ew23, ew24, ew25, ew26, ew27, ew28, ew29, ew30, ew31, ew32, ew33, ew34, ew35, ew36, ew37, ew38, ew39, ew40, ew41, ew42, ew43, ew44, ew45, ew46, ew47, ew48, ew49, ew50, ew55, ew56, ew57, ew58, ew59, ew60, ew62, ew63, ew64, ew65, ew66, ew67, ew68, ew69, eb73, eb74, eb75, eb76, eb77, eb78, eb79, eb80, eb81, eb82, eb83, eb84, eb85, eb86, eb87, eb88, eb89, eb90, eb91, eb92, eb93, eb94, eb95, eb96, eb97, eb98, eb99, eb100, eb101, eb102, eb103, eb104, eb105, eb106, eb107, eb108, eb109, eb110, eb111, hZ.k72, hZ.r72_16, hZ.r72_17, hZ.r72_18, hZ.r72_19, hZ.r72_20, hZ.r72_21, hZ.r72_22, hZ.r72_23, hZ.r72_24, hZ.r72_25, hZ.r72_26, hZ.r72_35, hZ.r72_36, hZ.r72_37, hZ.r72_38, hZ.r72_39, hZ.r72_40, hZ.r72_41, hZ.r72_42, hZ.r72_43, hZ.r72_44, hZ.r72_45, hZ.r72_46, hZ.r72_47, hZ.r72_48, hZ.r72_49, hZ.r72_50, hZ.r72_55, hZ.r72_56, hZ.r72_57, hZ.r72_58, hZ.r72_59, hZ.r72_60, hZ.r72_62, hZ.r72_63, hZ.r72_64, hZ.r72_65, hZ.r72_66, hZ.r72_67, hc]
          rw [q3, up2_a (show (17 : Nat) ≠ 16 by decide)]
          by_cases h2 : stF k S 17 k = -1
          · rw [if_pos h2]
            refine Eq.trans (if_neg (fun q => q h2)) (Eq.trans (b220_73 hZ.k72) ?_)
            simp only [mI_t, mL_t, es2, es1, es3, es4, es5, es6, es7, es8, es9, es10, es11, es12, es13, es14, es15, es51, es52, es53, es54, es61, es0, es16, es17, es18, es19, es20, es21, es22, es23, es24, es25, es26, es27, es28, es29, es30, es31, es32, es33, es34, es35, es36, es37, es38, es39, es40, es41, es42, es43, es44, es45, es46, es47, es48, es49, es50, es55, es56, es57, es58, es59, es60, es62, es63, es64, es65, es66, es67, es68, es69, ea73, ea74, ea75, ea76, ea77, ea78, ea79, ea80, ea81, ea82, ea83, ea84, ea85, ea86, ea87, ea88, ea89, ea90, ea91, ea92, ea93, ea94, ea95, ea96, ea97, ea98, ea99, ea100, ea101, ea102, ea103, ea104, ea105, ea106, ea107, ea108, ea109, ea110, ea111, hZ.k72, hZ.r72_16, hZ.r72_17, hZ.r72_18, hZ.r72_19, hZ.r72_20, hZ.r72_21, hZ.r72_22, hZ.r72_23, hZ.r72_24, hZ.r72_25, hZ.r72_26, hZ.r72_35, hZ.r72_36, hZ.r72_37, hZ.r72_38, hZ.r72_39, hZ.r72_40, hZ.r72_41, hZ.r72_42, hZ.r72_43, hZ.r72_44, hZ.r72_45, hZ.r72_46, hZ.r72_47, hZ.r72_48, hZ.r72_49, hZ.r72_50, hZ.r72_55, hZ.r72_56, hZ.r72_57, hZ.r72_58, hZ.r72_59, hZ.r72_60, hZ.r72_62, hZ.r72_63, hZ.r72_64, hZ.r72_65, hZ.r72_66, hZ.r72_67]
            refine Eq.trans (b220_86 hZ.k103 (hZ.i103 hb)) (Eq.trans b220_87 ?_)
            simp only [mI_t, mL_t, wI_t, wL_t, es2, es1, es3, es4, es5, es6, es7, es8, es9, es10, es11, es12, es13, es14, es15, es51, es52, es53, es54, es61, es0, es16, es17, es18, es19, es20, es21, es22, es23, es24, es25, es26, es27, es28, es29, es30, es31, es32, es33, es34, es35, es36, es37, es38, es39, es40, es41, es42, es43, es44, es45, es46, es47, es48, es49, es50, es55, es56, es57, es58, es59, es60, es62, es63, es64, es65, es66, es67, es68, es69, ea73, ea74, ea75, ea76, ea77, ea78, ea79, ea80, ea81, ea82, ea83, ea84, ea85, ea86, ea87, ea88, ea89, ea90, ea91, ea92, ea93, ea94, ea95, ea96, ea97, ea98, ea99, ea100, ea101, ea102, ea103, ea104, ea105, ea106, ea107, ea108, ea109, ea110, ea111, ew2, ew1, ew3, ew4, ew5, ew6, ew7, ew8, ew9, ew10, ew11, ew12, ew13, ew14, ew15, ew51, ew52, ew53, ew54, ew61, ew0, ew16, ew17, ew18, ew19, ew20, ew21, ew22, ew23, ew24, ew25, ew26, ew27, ew28, ew29, ew30, ew31, ew32, ew33, ew34, ew35, ew36, ew37, ew38, ew39, ew40, ew41, ew42, ew43, ew44, ew45, ew46, ew47, ew48, ew49, ew50, ew55, ew56, ew57, ew58, ew59, ew60, ew62, ew63, ew64, ew65, ew66, ew67, ew68, ew69, eb73, eb74, eb75, eb76, eb77, eb78, eb79, eb80, eb81, eb82, eb83, eb84, eb85, eb86, eb87, eb88, eb89, eb90, eb91, eb92, eb93, eb94, eb95, eb96, eb97, eb98, eb99, eb100, eb101, eb102, eb103, eb104, eb105, eb106, eb107, eb108, eb109, eb110, eb111, hZ.k72, hZ.r72_16, hZ.r72_17, hZ.r72_18, hZ.r72_19, hZ.r72_20, hZ.r72_21, hZ.r72_22, hZ.r72_23, hZ.r72_24, hZ.r72_25, hZ.r72_26, hZ.r72_35, hZ.r72_36, hZ.r72_37, hZ.r72_38, hZ.r72_39, hZ.r72_40, hZ.r72_41, hZ.r72_42, hZ.r72_43, hZ.r72_44, hZ.r72_45, hZ.r72_46, hZ.r72_47, hZ.r72_48, hZ.r72_49, hZ.r72_50, hZ.r72_55, hZ.r72_56, hZ.r72_57, hZ.r72_58, hZ.r72_59, hZ.r72_60, hZ.r72_62, hZ.r72_63, hZ.r72_64, hZ.r72_65, hZ.r72_66, hZ.r72_67, hc, iN_succ]
            rw [up2_a (show (0 : Nat) ≠ 16 by decide)]
          · rw [if_neg h2]
            refine Eq.trans (if_pos h2) (Eq.trans (b220_80 hZ.k72 hZ.kr72_58 (hZ.ir72_58 hb)) ?_)
            simp only [mI_t, mL_t, es2, es1, es3, es4, es5, es6, es7, es8, es9, es10, es11, es12, es13, es14, es15, es51, es52, es53, es54, es61, es0, es16, es17, es18, es19, es20, es21, es22, es23, es24, es25, es26, es27, es28, es29, es30, es31, es32, es33, es34, es35, es36, es37, es38, es39, es40, es41, es42, es43, es44, es45, es46, es47, es48, es49, es50, es55, es56, es57, es58, es59, es60, es62, es63, es64, es65, es66, es67, es68, es69, ea73, ea74, ea75, ea76, ea77, ea78, ea79, ea80, ea81, ea82, ea83, ea84, ea85, ea86, ea87, ea88, ea89, ea90, ea91, ea92, ea93, ea94, ea95, ea96, ea97, ea98, ea99, ea100, ea101, ea102, ea103, ea104, ea105, ea106, ea107, ea108, ea109, ea110, ea111, hZ.k72, hZ.r72_16, hZ.r72_17, hZ.r72_18, hZ.r72_19, hZ.r72_20, hZ.r72_21, hZ.r72_22, hZ.r72_23, hZ.r72_24, hZ.r72_25, hZ.r72_26, hZ.r72_35, hZ.r72_36, hZ.r72_37, hZ.r72_38, hZ.r72_39, hZ.r72_40, hZ.r72_41, hZ.r72_42, hZ.r72_43, hZ.r72_44, hZ.r72_45, hZ.r72_46, hZ.r72_47, hZ.r72_48, hZ.r72_49, hZ.r72_50, hZ.r72_55, hZ.r72_56, hZ.r72_57, hZ.r72_58, hZ.r72_59, hZ.r72_60, hZ.r72_62, hZ.r72_63, hZ.r72_64, hZ.r72_65, hZ.r72_66, hZ.r72_67, hc]
            refine Eq.trans (b220_86 hZ.k103 (hZ.i103 hb)) (Eq.trans b220_87 ?_)
            simp only [mI_t, mL_t, wI_t, wL_t, es2, es1, es3, es4, es5, es6, es7, es8, es9, es10, es11, es12, es13, es14, es15, es51, es52, es53, es54, es61, es0, es16, es17, es18, es19, es20, es21, es22, es23, es24, es25, es26, es27, es28, es29, es30, es31, es32, es33, es34, es35, es36, es37, es38, es39, es40, es41, es42, es43, es44, es45, es46, es47, es48, es49, es50, es55, es56, es57, es58, es59, es60, es62, es63, es64, es65, es66, es67, es68, es69, ea73, ea74, ea75, ea76, ea77, ea78, ea79, ea80, ea81, ea82, ea83, ea84, ea85, ea86, ea87, ea88, ea89, ea90, ea91, ea92, ea93, ea94, ea95, ea96, ea97, ea98, ea99, ea100, ea101, ea102, ea103, ea104, ea105, ea106, ea107, ea108, ea109, ea110, ea111, ew2, ew1, ew3, ew4, ew5, ew6, ew7, ew8, ew9, ew10, ew11, ew12, ew13, ew14, ew15, ew51, ew52, ew53, ew54, ew61, ew0, ew16, ew17, ew18, ew19, ew20, ew21, ew22, ew23, ew24, ew25, ew26, ew27, ew28, ew29, ew30, ew31, ew32, ew33, ew34, ew35, ew36, ew37, ew38, ew39, ew40, ew41, ew42, ew43, ew44, ew45, ew46, ew47, ew48, ew49, ew50, ew55, ew56, ew57, ew58, ew59, ew60, ew62, ew63, ew64, ew65, ew66, ew67, ew68, ew69, eb73, eb74, eb75, eb76, eb77, eb78, eb79, eb80, eb81, eb82, eb83, eb84, eb85, eb86, eb87, eb88, eb89, eb90, eb91, eb92, eb93, eb94, eb95, eb96, eb97, eb98, eb99, eb100, eb101, eb102, eb103, eb104, eb105, eb106, eb107, eb108, eb109, eb110, eb111, hZ.k72, hZ.r72_16, hZ.r72_17, hZ.r72_18, hZ.r72_19, hZ.r72_20, hZ.r72_21, hZ.r72_22, hZ.r72_23, hZ.r72_24, hZ.r72_25, hZ.r72_26, hZ.r72_35, hZ.r72_36, hZ.r72_37, hZ.r72_38, hZ.r72_39, hZ.r72_40, hZ.r72_41, hZ.r72_42, hZ.r72_43, hZ.r72_44, hZ.r72_45, hZ.r72_46, hZ.r72_47, hZ.r72_48, hZ.r72_49, hZ.r72_50, hZ.r72_55, hZ.r72_56, hZ.r72_57, hZ.r72_58, hZ.r72_59, hZ.r72_60, hZ.r72_62, hZ.r72_63, hZ.r72_64, hZ.r72_65, hZ.r72_66, hZ.r72_67, hc, iN_succ]
            rw [up2_a (show (17 : Nat) ≠ 16 by decide)]
        by_cases h3 : stF k S 16 k < stF k S 14 k + stF k S 15 k
        · rw [if_pos h3] at nx
          refine Eq.trans (if_neg (fun q => q h3)) (Eq.trans b220_47 (Eq.trans (go _ _ _ rfl rfl rfl) (nx _)))
        · rw [if_neg h3] at nx
          refine Eq.trans (if_pos h3) (Eq.trans (b220_51 hZ.k72 hZ.kr72_57 (hZ.ir72_57 hb)) ?_)
          simp only [mI_t, mL_t, es2, es1, es3, es4, es5, es6, es7, es8, es9, es10, es11, es12, es13, es14, es15, es51, es52, es53, es54, es61, es0, es16, es17, es18, es19, es20, es21, es22, es23, es24, es25, es26, es27, es28, es29, es30, es31, es32, es33, es34, es35, es36, es37, es38, es39, es40, es41, es42, es43, es44, es45, es46, es47, es48, es49, es50, es55, es56, es57, es58, es59, es60, es62, es63, es64, es65, es66, es67, es68, es69, ea73, ea74, ea75, ea76, ea77, ea78, ea79, ea80, ea81, ea82, ea83, ea84, ea85, ea86, ea87, ea88, ea89, ea90, ea91, ea92, ea93, ea94, ea95, ea96, ea97, ea98, ea99, ea100, ea101, ea102, ea103, ea104, ea105, ea106, ea107, ea108, ea109, ea110, ea111, hZ.k72, hZ.r72_16, hZ.r72_17, hZ.r72_18, hZ.r72_19, hZ.r72_20, hZ.r72_21, hZ.r72_22, hZ.r72_23, hZ.r72_24, hZ.r72_25, hZ.r72_26, hZ.r72_35, hZ.r72_36, hZ.r72_37, hZ.r72_38, hZ.r72_39, hZ.r72_40, hZ.r72_41, hZ.r72_42, hZ.r72_43, hZ.r72_44, hZ.r72_45, hZ.r72_46, hZ.r72_47, hZ.r72_48, hZ.r72_49, hZ.r72_50, hZ.r72_55, hZ.r72_56, hZ.r72_57, hZ.r72_58, hZ.r72_59, hZ.r72_60, hZ.r72_62, hZ.r72_63, hZ.r72_64, hZ.r72_65, hZ.r72_66, hZ.r72_67, hc]
          exact Eq.trans (go _ _ _ rfl rfl rfl) (nx _)
      · rw [if_neg h1] at nx
        refine Eq.trans (if_pos h1) (Eq.trans b220_87 ?_)
        rw [iN_succ]
        exact nx _
  exact key 144 0 xU (by omega)
theorem t_stains (hZ : Shp Z) (h15 : ¬ S 0 15 = 0) : call 43 [.ref 45] (embB 33 I S, G, Z) = some (none, (embB 33 I (stF 144 S), G, Z)) := by
  have e144 : (144 : Int32) = iN 144 := rfl
  refine Eq.trans e43 (Eq.trans b43_0 ?_)
  have key := loop_up (fun i => run 1 43 2 [.ref 45, .int (iN i)] [] (embB 33 I (stF i S), G, Z)) 144 (fun k hk => by
    have hlt : iN k < iN 144 := (iN_lt (by omega) (by omega)).mpr hk
    have hb : ib (iN k) 144 := ib_iN (by omega) hk
    have hc : (iN k).toNatClampNeg = k := iN_clamp (by omega)
    have w15 : ¬ stF k S 0 15 = 0 := by rw [stF_c (by decide) (by decide)]; exact h15
    refine Eq.trans b43_2 ?_
    rw [e144]
    refine Eq.trans (if_neg (fun q => q hlt)) (Eq.trans (b43_9 hZ.k45 hZ.kr45_1 (hZ.ir45_1 hb)) ?_)
    rw [hZ.r45_1, hc]
    simp only [mI_t, mL_t, ct3, ct4, ct5, ct6, ct7, ct8, ct9, ct10, ct11, ct13, ct15, ct16, ct17, ct18, ct12, ct14, cs5, cs6, cs7, cs8, cw3, ca46, ca47, ca48, ca52, ca53, ca54, ca55, ca56, hZ.k33, hZ.r33_0, hZ.r33_1, hZ.r33_2, hZ.r33_3, hZ.r33_4, hZ.k34, hZ.r34_0, hZ.r34_1, hZ.r34_2]
    show _ = run 1 43 2 [.ref 45, .int (iN (k + 1))] [] (embB 33 I (stF (k + 1) S), G, Z)
    rw [stF]
    unfold stn1
    by_cases h1 : 0 < stF k S 15 k
    · rw [if_pos h1]
      refine Eq.trans (if_neg (fun q => q h1)) (Eq.trans (b43_18 hZ.k45 hZ.kr45_2 (hZ.ir45_2 hb) hZ.kr45_0 (hZ.ir45_0 hb) hZ.kr45_1 (hZ.ir45_1 hb) hZ.kr45_3 (hZ.ir45_3 hb)) ?_)
      rw [hZ.r45_0, hZ.r45_1, hZ.r45_2, hZ.r45_3, hc]
      simp only [mI_t, mL_t, wI_t, wL_t, ct3, ct4, ct5, ct6, ct7, ct8, ct9, ct10, ct11, ct13, ct15, ct16, ct17, ct18, ct12, ct14, cs5, cs6, cs7, cs8, cw3, ca46, ca47, ca48, ca52, ca53, ca54, ca55, ca56, wh3, wh4, wh5, wh6, wh7, wh8, wh9, wh10, wh15, wh16, wh17, wh18, wa46, wa47, wa48, wa52, wa53, wa54, wa55, wa56, hZ.k33, hZ.r33_0, hZ.r33_1, hZ.r33_2, hZ.r33_3, hZ.r33_4, hZ.k34, hZ.r34_0, hZ.r34_1, hZ.r34_2, ccame]
      have e17 : ∀ w : Int32, (if up2 (stF k S) 16 k w 0 15 = 0 ∧ k < 144 then (-1 : Int32) else up2 (stF k S) 16 k w 17 k) = stF k S 17 k := fun w => by
        rw [up2_a (show (0 : Nat) ≠ 16 by decide), if_neg (fun q => w15 q.1), up2_a (show (17 : Nat) ≠ 16 by decide)]
      rw [e17]
      by_cases h2 : stF k S 17 k = -1
      · rw [if_pos h2]
        refine Eq.trans (if_neg (fun q => q h2)) (Eq.trans (b43_56 hZ.k45 hZ.kr45_3 (hZ.ir45_3 hb)) (Eq.trans b43_66 ?_))
        rw [hZ.r45_3, hc, iN_succ]
        simp only [mI_t, mL_t, wI_t, wL_t, ct3, ct4, ct5, ct6, ct7, ct8, ct9, ct10, ct11, ct13, ct15, ct16, ct17, ct18, ct12, ct14, cs5, cs6, cs7, cs8, cw3, ca46, ca47, ca48, ca52, ca53, ca54, ca55, ca56, wh3, wh4, wh5, wh6, wh7, wh8, wh9, wh10, wh15, wh16, wh17, wh18, wa46, wa47, wa48, wa52, wa53, wa54, wa55, wa56, hZ.k33, hZ.r33_0, hZ.r33_1, hZ.r33_2, hZ.r33_3, hZ.r33_4, hZ.k34, hZ.r34_0, hZ.r34_1, hZ.r34_2]
        rw [wcame (by rw [up2_a (by decide)]; exact w15), up2_a (show (0 : Nat) ≠ 16 by decide)]
      · rw [if_neg h2]
        refine Eq.trans (if_pos h2) (Eq.trans b43_66 ?_)
        rw [iN_succ]
        have e : ∀ w : Int32, up2 (up2 (stF k S) 16 k w) 17 k (stF k S 17 k) = up2 (stF k S) 16 k w := fun w => by
          have : stF k S 17 k = up2 (stF k S) 16 k w 17 k := (up2_a (by decide)).symm
          rw [this, up2_id]
        rw [e]
    · rw [if_neg h1]
      refine Eq.trans (if_pos h1) (Eq.trans b43_66 ?_)
      rw [iN_succ]) 0 (by omega)
  refine Eq.trans key (Eq.trans b43_2 ?_)
  exact Eq.trans (if_pos (iN_nlt (n := 144) (by omega))) b43_72
theorem s_wave (hZ : Shp Z) {x y m e s : Int32} : call 221 [.ref 72, .int x, .int y, .int m, .int e, .int s] (emb I S, G, Z) = if waveOK x y m e s = true then some (some (.int 1), (emb I (stF 144 (waveS S (plc x y) m e s)), G, Z)) else some (some (.int 0), (emb I S, G, Z)) := by
  have e144 : (144 : Int32) = iN 144 := rfl
  unfold waveOK
  simp only [and_if]
  simp only [e221, b221_0, b221_5, b221_8, b221_17, b221_20, b221_30, b221_33, b221_43, b221_46, m_in, m_isPlace, bsome, tol1, bI_0, bI_n, mI_t, mL_t, es2, es1, es3, es4, es5, es6, es7, es8, es9, es10, es11, es12, es13, es14, es15, es51, es52, es53, es54, es61, es0, es16, es17, es18, es19, es20, es21, es22, es23, es24, es25, es26, es27, es28, es29, es30, es31, es32, es33, es34, es35, es36, es37, es38, es39, es40, es41, es42, es43, es44, es45, es46, es47, es48, es49, es50, es55, es56, es57, es58, es59, es60, es62, es63, es64, es65, es66, es67, es68, es69, ea73, ea74, ea75, ea76, ea77, ea78, ea79, ea80, ea81, ea82, ea83, ea84, ea85, ea86, ea87, ea88, ea89, ea90, ea91, ea92, ea93, ea94, ea95, ea96, ea97, ea98, ea99, ea100, ea101, ea102, ea103, ea104, ea105, ea106, ea107, ea108, ea109, ea110, ea111, hZ.k72, hZ.r72_16, hZ.r72_17, hZ.r72_18, hZ.r72_19, hZ.r72_20, hZ.r72_21, hZ.r72_22, hZ.r72_23, hZ.r72_24, hZ.r72_25, hZ.r72_26, hZ.r72_35, hZ.r72_36, hZ.r72_37, hZ.r72_38, hZ.r72_39, hZ.r72_40, hZ.r72_41, hZ.r72_42, hZ.r72_43, hZ.r72_44, hZ.r72_45, hZ.r72_46, hZ.r72_47, hZ.r72_48, hZ.r72_49, hZ.r72_50, hZ.r72_55, hZ.r72_56, hZ.r72_57, hZ.r72_58, hZ.r72_59, hZ.r72_60, hZ.r72_62, hZ.r72_63, hZ.r72_64, hZ.r72_65, hZ.r72_66, hZ.r72_67, l64_0, l64_1, l64_2, l64_3, l64_4, l64_5, l64_7, l64_9, l64_10, l64_11, l64_15, l64_20, l64_60, l64_99, l64_140, l64_143, l64_199, l64_200, l64_255, l64_500, l64_999, l64_9999, l64_99999, l64_9999999, l64_m50, l64_m1, Int32.toInt_toInt64]
  by_cases h1 : isPl x y = true
  · rw [if_pos h1, if_pos h1]
    obtain ⟨p1, p2, p3⟩ := pl_ib h1
    have hp : plc x y < 144 := by
      have := inB_iff.mp p3
      unfold plc
      rw [Int32.toNatClampNeg]
      omega
    have hmain : run 3 221 48 [.ref 72, .int x, .int y, .int m, .int e, .int s, xU] [] (emb I S, G, Z) = some (some (.int 1), (emb I (stF 144 (waveS S (plc x y) m e s)), G, Z)) := by
      refine Eq.trans (b221_48 hZ.k72) ?_
      simp only [mI_t, mL_t, wI_t, wL_t, es2, es1, es3, es4, es5, es6, es7, es8, es9, es10, es11, es12, es13, es14, es15, es51, es52, es53, es54, es61, es0, es16, es17, es18, es19, es20, es21, es22, es23, es24, es25, es26, es27, es28, es29, es30, es31, es32, es33, es34, es35, es36, es37, es38, es39, es40, es41, es42, es43, es44, es45, es46, es47, es48, es49, es50, es55, es56, es57, es58, es59, es60, es62, es63, es64, es65, es66, es67, es68, es69, ea73, ea74, ea75, ea76, ea77, ea78, ea79, ea80, ea81, ea82, ea83, ea84, ea85, ea86, ea87, ea88, ea89, ea90, ea91, ea92, ea93, ea94, ea95, ea96, ea97, ea98, ea99, ea100, ea101, ea102, ea103, ea104, ea105, ea106, ea107, ea108, ea109, ea110, ea111, ew2, ew1, ew3, ew4, ew5, ew6, ew7, ew8, ew9, ew10, ew11, ew12, ew13, ew14, ew15, ew51, ew52, ew53, ew54, ew61, ew0, ew16, ew17, ew18, ew19, ew20, ew21, ew22, ew23, ew24, ew25, ew26, ew27, ew28, ew29, ew30, ew31, ew32, ew33, ew34, ew35, ew36, ew37, ew38, ew39, ew40, ew41, ew42, ew43, ew44, ew45, ew46, ew47, ew48, ew49, ew50, ew55, ew56, ew57, ew58, ew59, ew60, ew62, ew63, ew64, ew65, ew66, ew67, ew68, ew69, eb73, eb74, eb75, eb76, eb77, eb78, eb79, eb80, eb81, eb82, eb83, eb84, eb85, eb86, eb87, eb88, eb89, eb90, eb91, eb92, eb93, eb94, eb95, eb96, eb97, eb98, eb99, eb100, eb101, eb102, eb103, eb104, eb105, eb106, eb107, eb108, eb109, eb110, eb111, hZ.k72, hZ.r72_16, hZ.r72_17, hZ.r72_18, hZ.r72_19, hZ.r72_20, hZ.r72_21, hZ.r72_22, hZ.r72_23, hZ.r72_24, hZ.r72_25, hZ.r72_26, hZ.r72_35, hZ.r72_36, hZ.r72_37, hZ.r72_38, hZ.r72_39, hZ.r72_40, hZ.r72_41, hZ.r72_42, hZ.r72_43, hZ.r72_44, hZ.r72_45, hZ.r72_46, hZ.r72_47, hZ.r72_48, hZ.r72_49, hZ.r72_50, hZ.r72_55, hZ.r72_56, hZ.r72_57, hZ.r72_58, hZ.r72_59, hZ.r72_60, hZ.r72_62, hZ.r72_63, hZ.r72_64, hZ.r72_65, hZ.r72_66, hZ.r72_67]
      refine Eq.trans (b221_65 hZ.k72) ?_
      simp only [mI_t, mL_t, wI_t, wL_t, es2, es1, es3, es4, es5, es6, es7, es8, es9, es10, es11, es12, es13, es14, es15, es51, es52, es53, es54, es61, es0, es16, es17, es18, es19, es20, es21, es22, es23, es24, es25, es26, es27, es28, es29, es30, es31, es32, es33, es34, es35, es36, es37, es38, es39, es40, es41, es42, es43, es44, es45, es46, es47, es48, es49, es50, es55, es56, es57, es58, es59, es60, es62, es63, es64, es65, es66, es67, es68, es69, ea73, ea74, ea75, ea76, ea77, ea78, ea79, ea80, ea81, ea82, ea83, ea84, ea85, ea86, ea87, ea88, ea89, ea90, ea91, ea92, ea93, ea94, ea95, ea96, ea97, ea98, ea99, ea100, ea101, ea102, ea103, ea104, ea105, ea106, ea107, ea108, ea109, ea110, ea111, ew2, ew1, ew3, ew4, ew5, ew6, ew7, ew8, ew9, ew10, ew11, ew12, ew13, ew14, ew15, ew51, ew52, ew53, ew54, ew61, ew0, ew16, ew17, ew18, ew19, ew20, ew21, ew22, ew23, ew24, ew25, ew26, ew27, ew28, ew29, ew30, ew31, ew32, ew33, ew34, ew35, ew36, ew37, ew38, ew39, ew40, ew41, ew42, ew43, ew44, ew45, ew46, ew47, ew48, ew49, ew50, ew55, ew56, ew57, ew58, ew59, ew60, ew62, ew63, ew64, ew65, ew66, ew67, ew68, ew69, eb73, eb74, eb75, eb76, eb77, eb78, eb79, eb80, eb81, eb82, eb83, eb84, eb85, eb86, eb87, eb88, eb89, eb90, eb91, eb92, eb93, eb94, eb95, eb96, eb97, eb98, eb99, eb100, eb101, eb102, eb103, eb104, eb105, eb106, eb107, eb108, eb109, eb110, eb111, hZ.k72, hZ.r72_16, hZ.r72_17, hZ.r72_18, hZ.r72_19, hZ.r72_20, hZ.r72_21, hZ.r72_22, hZ.r72_23, hZ.r72_24, hZ.r72_25, hZ.r72_26, hZ.r72_35, hZ.r72_36, hZ.r72_37, hZ.r72_38, hZ.r72_39, hZ.r72_40, hZ.r72_41, hZ.r72_42, hZ.r72_43, hZ.r72_44, hZ.r72_45, hZ.r72_46, hZ.r72_47, hZ.r72_48, hZ.r72_49, hZ.r72_50, hZ.r72_55, hZ.r72_56, hZ.r72_57, hZ.r72_58, hZ.r72_59, hZ.r72_60, hZ.r72_62, hZ.r72_63, hZ.r72_64, hZ.r72_65, hZ.r72_66, hZ.r72_67]
      have key := loop_up (fun i => run 3 221 73 [.ref 72, .int x, .int y, .int m, .int e, .int s, .int (iN i)] [] (emb I (wvF (up2 (up2 (up2 (up2 S 0 15 1) 0 16 e) 0 17 s) 0 18 0) 144 0 i), G, Z)) 144 (fun k hk => by
        have hlt : iN k < iN 144 := (iN_lt (by omega) (by omega)).mpr hk
        have hb : ib (iN k) 144 := ib_iN (by omega) hk
        have hc : (iN k).toNatClampNeg = k := iN_clamp (by omega)
        refine Eq.trans b221_73 ?_
        rw [e144]
        refine Eq.trans (if_neg (fun q => q hlt)) (Eq.trans (b221_81 hZ.k72 hZ.kr72_56 (hZ.ir72_56 hb) hZ.kr72_57 (hZ.ir72_57 hb) hZ.kr72_58 (hZ.ir72_58 hb)) (Eq.trans b221_105 ?_))
        simp only [mI_t, mL_t, wI_t, wL_t, es2, es1, es3, es4, es5, es6, es7, es8, es9, es10, es11, es12, es13, es14, es15, es51, es52, es53, es54, es61, es0, es16, es17, es18, es19, es20, es21, es22, es23, es24, es25, es26, es27, es28, es29, es30, es31, es32, es33, es34, es35, es36, es37, es38, es39, es40, es41, es42, es43, es44, es45, es46, es47, es48, es49, es50, es55, es56, es57, es58, es59, es60, es62, es63, es64, es65, es66, es67, es68, es69, ea73, ea74, ea75, ea76, ea77, ea78, ea79, ea80, ea81, ea82, ea83, ea84, ea85, ea86, ea87, ea88, ea89, ea90, ea91, ea92, ea93, ea94, ea95, ea96, ea97, ea98, ea99, ea100, ea101, ea102, ea103, ea104, ea105, ea106, ea107, ea108, ea109, ea110, ea111, ew2, ew1, ew3, ew4, ew5, ew6, ew7, ew8, ew9, ew10, ew11, ew12, ew13, ew14, ew15, ew51, ew52, ew53, ew54, ew61, ew0, ew16, ew17, ew18, ew19, ew20, ew21, ew22, ew23, ew24, ew25, ew26, ew27, ew28, ew29, ew30, ew31, ew32, ew33, ew34, ew35, ew36, ew37, ew38, ew39, ew40, ew41, ew42, ew43, ew44, ew45, ew46, ew47, ew48, ew49, ew50, ew55, ew56, ew57, ew58, ew59, ew60, ew62, ew63, ew64, ew65, ew66, ew67, ew68, ew69, eb73, eb74, eb75, eb76, eb77, eb78, eb79, eb80, eb81, eb82, eb83, eb84, eb85, eb86, eb87, eb88, eb89, eb90, eb91, eb92, eb93, eb94, eb95, eb96, eb97, eb98, eb99, eb100, eb101, eb102, eb103, eb104, eb105, eb106, eb107, eb108, eb109, eb110, eb111, hZ.k72, hZ.r72_16, hZ.r72_17, hZ.r72_18, hZ.r72_19, hZ.r72_20, hZ.r72_21, hZ.r72_22, hZ.r72_23, hZ.r72_24, hZ.r72_25, hZ.r72_26, hZ.r72_35, hZ.r72_36, hZ.r72_37, hZ.r72_38, hZ.r72_39, hZ.r72_40, hZ.r72_41, hZ.r72_42, hZ.r72_43, hZ.r72_44, hZ.r72_45, hZ.r72_46, hZ.r72_47, hZ.r72_48, hZ.r72_49, hZ.r72_50, hZ.r72_55, hZ.r72_56, hZ.r72_57, hZ.r72_58, hZ.r72_59, hZ.r72_60, hZ.r72_62, hZ.r72_63, hZ.r72_64, hZ.r72_65, hZ.r72_66, hZ.r72_67, hc, iN_succ]
        have w := wvF_s (S := up2 (up2 (up2 (up2 S 0 15 1) 0 16 e) 0 17 s) 0 18 0) (p := 144) (much := 0) (n := k)
        rw [if_neg (by omega)] at w
        rw [w]) 0 (by omega)
      rw [wvF_0] at key
      refine Eq.trans key (Eq.trans b221_73 ?_)
      refine Eq.trans (if_pos (iN_nlt (n := 144) (by omega))) (Eq.trans (b221_111 hZ.k72 hZ.kr72_56 (hZ.ir72_56 p1)) ?_)
      simp only [mI_t, mL_t, wI_t, wL_t, es2, es1, es3, es4, es5, es6, es7, es8, es9, es10, es11, es12, es13, es14, es15, es51, es52, es53, es54, es61, es0, es16, es17, es18, es19, es20, es21, es22, es23, es24, es25, es26, es27, es28, es29, es30, es31, es32, es33, es34, es35, es36, es37, es38, es39, es40, es41, es42, es43, es44, es45, es46, es47, es48, es49, es50, es55, es56, es57, es58, es59, es60, es62, es63, es64, es65, es66, es67, es68, es69, ea73, ea74, ea75, ea76, ea77, ea78, ea79, ea80, ea81, ea82, ea83, ea84, ea85, ea86, ea87, ea88, ea89, ea90, ea91, ea92, ea93, ea94, ea95, ea96, ea97, ea98, ea99, ea100, ea101, ea102, ea103, ea104, ea105, ea106, ea107, ea108, ea109, ea110, ea111, ew2, ew1, ew3, ew4, ew5, ew6, ew7, ew8, ew9, ew10, ew11, ew12, ew13, ew14, ew15, ew51, ew52, ew53, ew54, ew61, ew0, ew16, ew17, ew18, ew19, ew20, ew21, ew22, ew23, ew24, ew25, ew26, ew27, ew28, ew29, ew30, ew31, ew32, ew33, ew34, ew35, ew36, ew37, ew38, ew39, ew40, ew41, ew42, ew43, ew44, ew45, ew46, ew47, ew48, ew49, ew50, ew55, ew56, ew57, ew58, ew59, ew60, ew62, ew63, ew64, ew65, ew66, ew67, ew68, ew69, eb73, eb74, eb75, eb76, eb77, eb78, eb79, eb80, eb81, eb82, eb83, eb84, eb85, eb86, eb87, eb88, eb89, eb90, eb91, eb92, eb93, eb94, eb95, eb96, eb97, eb98, eb99, eb100, eb101, eb102, eb103, eb104, eb105, eb106, eb107, eb108, eb109, eb110, eb111, hZ.k72, hZ.r72_16, hZ.r72_17, hZ.r72_18, hZ.r72_19, hZ.r72_20, hZ.r72_21, hZ.r72_22, hZ.r72_23, hZ.r72_24, hZ.r72_25, hZ.r72_26, hZ.r72_35, hZ.r72_36, hZ.r72_37, hZ.r72_38, hZ.r72_39, hZ.r72_40, hZ.r72_41, hZ.r72_42, hZ.r72_43, hZ.r72_44, hZ.r72_45, hZ.r72_46, hZ.r72_47, hZ.r72_48, hZ.r72_49, hZ.r72_50, hZ.r72_55, hZ.r72_56, hZ.r72_57, hZ.r72_58, hZ.r72_59, hZ.r72_60, hZ.r72_62, hZ.r72_63, hZ.r72_64, hZ.r72_65, hZ.r72_66, hZ.r72_67]
      rw [show (12 * y + x).toNatClampNeg = plc x y from rfl, wv_ref hp, s_stains hZ]
      exact b221_127
    rw [hmain]
  · rw [if_neg h1, if_neg h1]
theorem f_wave (hZ : Shp Z) {x y m e s : Int32} : call 127 [.ref 32, .int x, .int y, .int m, .int e, .int s] (embB 33 I S, G, Z) = if waveOK x y m e s = true then some (some (.int 1), (embB 33 I (stF 144 (waveS S (plc x y) m e s)), G, Z)) else some (some (.int 0), (embB 33 I S, G, Z)) := by
  have e144 : (144 : Int32) = iN 144 := rfl
  have hpos : ∀ p : Nat, p < 144 → call 39 [.ref 45, .int (iN p), .int m, .int e, .int s] (embB 33 I S, G, Z) = some (none, (embB 33 I (stF 144 (waveS S p m e s)), G, Z)) := by
    intro p hp
    refine Eq.trans e39 (Eq.trans b39_0 ?_)
    have key := loop_up (fun i => run 2 39 3 [.ref 45, .int (iN p), .int m, .int e, .int s, .int (iN i)] [] (embB 33 I (wvF S p m i), G, Z)) 144 (fun k hk => by
      have hlt : iN k < iN 144 := (iN_lt (by omega) (by omega)).mpr hk
      have hb : ib (iN k) 144 := ib_iN (by omega) hk
      have hc : (iN k).toNatClampNeg = k := iN_clamp (by omega)
      refine Eq.trans b39_3 ?_
      rw [e144]
      refine Eq.trans (if_neg (fun q => q hlt)) (Eq.trans (b39_11 hZ.k45) ?_)
      rw [hZ.r45_1]
      have go : ∀ w : Int32, run 2 39 28 [.ref 45, .int (iN p), .int m, .int e, .int s, .int (iN k)] [.int w, .int (iN k), .ref 47] (embB 33 I (wvF S p m k), G, Z) = run 2 39 3 [.ref 45, .int (iN p), .int m, .int e, .int s, .int (iN (k + 1))] [] (embB 33 I (up2 (up2 (up2 (wvF S p m k) 15 k w) 16 k 0) 17 k (-1)), G, Z) := by
        intro w
        refine Eq.trans (b39_28 hZ.k47 (hZ.i47 hb) hZ.k45 hZ.kr45_2 (hZ.ir45_2 hb) hZ.kr45_3 (hZ.ir45_3 hb)) (Eq.trans b39_45 ?_)
        rw [hZ.r45_2, hZ.r45_3, hc, iN_succ]
        simp only [mI_t, mL_t, wI_t, wL_t, ct3, ct4, ct5, ct6, ct7, ct8, ct9, ct10, ct11, ct13, ct15, ct16, ct17, ct18, ct12, ct14, cs5, cs6, cs7, cs8, cw3, ca46, ca47, ca48, ca52, ca53, ca54, ca55, ca56, wh3, wh4, wh5, wh6, wh7, wh8, wh9, wh10, wh15, wh16, wh17, wh18, wa46, wa47, wa48, wa52, wa53, wa54, wa55, wa56, hZ.k33, hZ.r33_0, hZ.r33_1, hZ.r33_2, hZ.r33_3, hZ.r33_4, hZ.k34, hZ.r34_0, hZ.r34_1, hZ.r34_2]
        rw [wcameN hk]
      have w := wvF_s (S := S) (p := p) (much := m) (n := k)
      by_cases hkp : k = p
      · rw [if_pos hkp] at w
        refine Eq.trans (if_neg (fun q => q (by rw [hkp]))) (Eq.trans b39_23 (Eq.trans (go m) ?_))
        rw [w]
      · rw [if_neg hkp] at w
        refine Eq.trans (if_pos (fun q => hkp ((iN_inj (by omega) (by omega)).mp q))) (Eq.trans b39_27 (Eq.trans (go 0) ?_))
        rw [w]) 0 (by omega)
    rw [wvF_0] at key
    refine Eq.trans key (Eq.trans b39_3 ?_)
    refine Eq.trans (if_pos (iN_nlt (n := 144) (by omega))) (Eq.trans (b39_51 hZ.k45) ?_)
    simp only [wI_t]
    rw [ws5 (by decide) (fun _ k hk => by unfold wvF; rw [if_neg (by omega), if_neg (by omega), if_pos ⟨rfl, hk⟩]), ws6, ws7]
    refine Eq.trans (b39_66 hZ.k45) ?_
    simp only [wI_t]
    rw [ws8, wv_cls, t_stains hZ (show ¬ (1 : Int32) = 0 by decide)]
    exact b39_76
  have hq : (mK (embB 33 I S, G, Z) (mR (embB 33 I S, G, Z) (mR (embB 33 I S, G, Z) 32 0) 1) = 5) := by rw [hZ.r32_0, hZ.r33_1]; exact hZ.k45
  have ht : run 3 127 0 [.ref 32, .int x, .int y, .int m, .int e, .int s, xU] [] (embB 33 I S, G, Z) = run 3 127 28 [.ref 32, .int x, .int y, .int m, .int e, .int s, xU] [.int (bI (inB e 0 99 && inB s 0 999))] (embB 33 I S, G, Z) := by
    refine Eq.trans b127_0 ?_
    rw [c_within, l32_0, l32_99]
    refine Eq.trans b127_8 ?_
    cases inB e 0 99 with
    | false => exact Eq.trans (if_pos (by decide)) b127_27
    | true =>
      refine Eq.trans (if_neg (by decide)) (Eq.trans b127_11 ?_)
      rw [c_within, l32_0, l32_999]
      refine Eq.trans b127_20 ?_
      cases inB s 0 999 with
      | false => exact Eq.trans (if_pos (by decide)) b127_27
      | true => exact Eq.trans (if_neg (by decide)) b127_23
  refine Eq.trans e127 (Eq.trans ht (Eq.trans b127_28 ?_))
  rw [c_isPlace]
  refine Eq.trans b127_35 ?_
  rw [bI_0]
  unfold waveOK
  rw [and_if]
  by_cases h1 : isPl x y = true
  · rw [if_pos h1, if_pos h1]
    obtain ⟨p1, p2, p3⟩ := pl_ib h1
    have hp : plc x y < 144 := by
      have := inB_iff.mp p3
      unfold plc
      rw [Int32.toNatClampNeg]
      omega
    have ep : y * 12 + x = iN (plc x y) := by
      have := inB_iff.mp p3
      rw [p2, ti_eq, iN_int (by omega)]
      unfold plc
      rw [Int32.toNatClampNeg]
      omega
    refine Eq.trans b127_38 ?_
    rw [c_within, l32_0, l32_99999]
    refine Eq.trans b127_45 ?_
    rw [bI_0, and_if]
    by_cases h2 : inB m 0 99999 = true
    · rw [if_pos h2, if_pos h2]
      refine Eq.trans b127_48 ?_
      rw [bI_n]
      by_cases h3 : (inB e 0 99 && inB s 0 999) = true
      · rw [if_pos h3, if_pos h3]
        refine Eq.trans (b127_55 hZ.k32 hZ.kr32_0 hq) ?_
        rw [hZ.r32_0, hZ.r33_1, ep, hpos _ hp]
        exact b127_76
      · rw [if_neg h3, if_neg h3]
        exact b127_53
    · rw [if_neg h2, if_neg h2]
      exact b127_53
  · rw [if_neg h1, if_neg h1]
    exact b127_53
end ST
