/-! WHAT THE STATE TELLS: loads, steel, plates; the reference's small methods say it -/
def riN (S : aS) : Nat := (S 0 7).toNatClampNeg
def laN (S : aS) : Nat := (S 0 8).toNatClampNeg
def low (S : aS) (k : Nat) : Int32 := sumI (S 1) k
def dep (S : aS) : Int32 := sumI (S 10) (laN S)
def loadS (S : aS) (k : Nat) : Int32 := ldB (dep S - low S k) (S 0 3) (S 0 9) (S 0 2)
def steelS (S : aS) (k : Nat) : Int32 := stl (S 10) (S 11) (low S k) (S 0 10) (laN S) 0
def less0 (v t f : Int32) : Int32 := if lg_cmp (v.toInt64 - t.toInt64 * f.toInt64) 0 < 0 then 0 else (v.toInt64 - t.toInt64 * f.toInt64).toInt32
def plateS (S : aS) (k : Nat) (thick : Int32) : Int32 := less0 (if steelS S k < S 5 k then (thick * S 4 k * (10 - S 6 k) / 10) / 2 else thick * S 4 k * (10 - S 6 k) / 10) (S 0 4) (S 0 11)
def bearsS (S : aS) (k : Nat) : Int32 := if plateS S k (S 3 k) < S 7 k then plateS S k (S 3 k) else S 7 k
/-- counts within their rows -/
def Wf0 (S : aS) : Prop := (S 0 7 = iN (riN S) ∧ riN S ≤ 7) ∧ S 0 8 = iN (laN S) ∧ laN S ≤ 30
section MS
variable {I : aI} {G : aL} {Z : aZ} {S : aS}
theorem s_lower (hZ : Shp Z) {k : Nat} (hk : k ≤ 7) : call 144 [.ref 72, .int (iN k)] (emb I S, G, Z) = some (some (.int (low S k)), (emb I S, G, Z)) := m_lower hZ hk
theorem s_depth (hZ : Shp Z) (hw : Wf0 S) : call 145 [.ref 72] (emb I S, G, Z) = some (some (.int (dep S)), (emb I S, G, Z)) := m_depth hZ hw.2.1 hw.2.2
theorem s_loadBy (hZ : Shp Z) {k : Nat} (hk : k ≤ 7) {x w q : Int32} : call 146 [.ref 72, .int (iN k), .int x, .int w, .int q] (emb I S, G, Z) = some (some (.int (ldB (x - low S k) w q (S 0 2))), (emb I S, G, Z)) := m_loadBy hZ hk
theorem s_loadOf (hZ : Shp Z) (hw : Wf0 S) {k : Nat} (hk : k ≤ 7) : call 147 [.ref 72, .int (iN k)] (emb I S, G, Z) = some (some (.int (loadS S k)), (emb I S, G, Z)) := m_loadOf hZ hk hw.2.1 hw.2.2
theorem s_steelOf (hZ : Shp Z) (hw : Wf0 S) {k : Nat} (hk : k ≤ 7) : call 148 [.ref 72, .int (iN k)] (emb I S, G, Z) = some (some (.int (steelS S k)), (emb I S, G, Z)) := m_steelOf hZ hk hw.2.1 hw.2.2
theorem pl_fin {z : Int64} {M : aM} : (if ¬ lg_cmp z 0 < 0 then some (some (Value.int z.toInt32), M) else some (some (Value.int 0), M)) = some (some (.int (if lg_cmp z 0 < 0 then 0 else z.toInt32)), M) := by
  by_cases h : lg_cmp z 0 < 0
  · rw [if_neg (fun q => q h), if_pos h]
  · rw [if_pos h, if_neg h]
theorem s_plateBy (hZ : Shp Z) (hw : Wf0 S) {k : Nat} (hk : k < 7) {t : Int32} : call 149 [.ref 72, .int (iN k), .int t] (emb I S, G, Z) = some (some (.int (plateS S k t)), (emb I S, G, Z)) := by
  have hb : ib (iN k) 7 := ib_iN (by omega) hk
  refine Eq.trans e149 (Eq.trans (b149_0 hZ.k72 hZ.kr72_19 (hZ.ir72_19 hb) hZ.kr72_21 (hZ.ir72_21 hb)) ?_)
  rw [s_steelOf hZ hw (by omega)]
  refine Eq.trans (b149_27 hZ.k72 hZ.kr72_20 (hZ.ir72_20 hb)) ?_
  unfold plateS less0
  simp only [b149_36, b149_42, mI_t, mL_t, es2, es1, es3, es4, es5, es6, es7, es8, es9, es10, es11, es12, es13, es14, es15, es51, es52, es53, es54, es61, es0, es16, es17, es18, es19, es20, es21, es22, es23, es24, es25, es26, es27, es28, es29, es30, es31, es32, es33, es34, es35, es36, es37, es38, es39, es40, es41, es42, es43, es44, es45, es46, es47, es48, es49, es50, es55, es56, es57, es58, es59, es60, es62, es63, es64, es65, es66, es67, es68, es69, ea73, ea74, ea75, ea76, ea77, ea78, ea79, ea80, ea81, ea82, ea83, ea84, ea85, ea86, ea87, ea88, ea89, ea90, ea91, ea92, ea93, ea94, ea95, ea96, ea97, ea98, ea99, ea100, ea101, ea102, ea103, ea104, ea105, ea106, ea107, ea108, ea109, ea110, ea111, hZ.k72, hZ.r72_16, hZ.r72_17, hZ.r72_18, hZ.r72_19, hZ.r72_20, hZ.r72_21, hZ.r72_22, hZ.r72_23, hZ.r72_24, hZ.r72_25, hZ.r72_26, hZ.r72_35, hZ.r72_36, hZ.r72_37, hZ.r72_38, hZ.r72_39, hZ.r72_40, hZ.r72_41, hZ.r72_42, hZ.r72_43, hZ.r72_44, hZ.r72_45, hZ.r72_46, hZ.r72_47, hZ.r72_48, hZ.r72_49, hZ.r72_50, hZ.r72_55, hZ.r72_56, hZ.r72_57, hZ.r72_58, hZ.r72_59, hZ.r72_60, hZ.r72_62, hZ.r72_63, hZ.r72_64, hZ.r72_65, hZ.r72_66, hZ.r72_67, iN_clamp (show k < 2147483648 by omega)]
  by_cases h1 : steelS S k < S 5 k
  · rw [if_neg (fun q => q h1), if_pos h1]
    refine Eq.trans (b149_43 hZ.k72) ?_
    simp only [mI_t, mL_t, es2, es1, es3, es4, es5, es6, es7, es8, es9, es10, es11, es12, es13, es14, es15, es51, es52, es53, es54, es61, es0, es16, es17, es18, es19, es20, es21, es22, es23, es24, es25, es26, es27, es28, es29, es30, es31, es32, es33, es34, es35, es36, es37, es38, es39, es40, es41, es42, es43, es44, es45, es46, es47, es48, es49, es50, es55, es56, es57, es58, es59, es60, es62, es63, es64, es65, es66, es67, es68, es69, ea73, ea74, ea75, ea76, ea77, ea78, ea79, ea80, ea81, ea82, ea83, ea84, ea85, ea86, ea87, ea88, ea89, ea90, ea91, ea92, ea93, ea94, ea95, ea96, ea97, ea98, ea99, ea100, ea101, ea102, ea103, ea104, ea105, ea106, ea107, ea108, ea109, ea110, ea111, hZ.k72, hZ.r72_16, hZ.r72_17, hZ.r72_18, hZ.r72_19, hZ.r72_20, hZ.r72_21, hZ.r72_22, hZ.r72_23, hZ.r72_24, hZ.r72_25, hZ.r72_26, hZ.r72_35, hZ.r72_36, hZ.r72_37, hZ.r72_38, hZ.r72_39, hZ.r72_40, hZ.r72_41, hZ.r72_42, hZ.r72_43, hZ.r72_44, hZ.r72_45, hZ.r72_46, hZ.r72_47, hZ.r72_48, hZ.r72_49, hZ.r72_50, hZ.r72_55, hZ.r72_56, hZ.r72_57, hZ.r72_58, hZ.r72_59, hZ.r72_60, hZ.r72_62, hZ.r72_63, hZ.r72_64, hZ.r72_65, hZ.r72_66, hZ.r72_67, b149_67, b149_71, b149_74]
    exact pl_fin
  · rw [if_pos h1, if_neg h1]
    refine Eq.trans (b149_43 hZ.k72) ?_
    simp only [mI_t, mL_t, es2, es1, es3, es4, es5, es6, es7, es8, es9, es10, es11, es12, es13, es14, es15, es51, es52, es53, es54, es61, es0, es16, es17, es18, es19, es20, es21, es22, es23, es24, es25, es26, es27, es28, es29, es30, es31, es32, es33, es34, es35, es36, es37, es38, es39, es40, es41, es42, es43, es44, es45, es46, es47, es48, es49, es50, es55, es56, es57, es58, es59, es60, es62, es63, es64, es65, es66, es67, es68, es69, ea73, ea74, ea75, ea76, ea77, ea78, ea79, ea80, ea81, ea82, ea83, ea84, ea85, ea86, ea87, ea88, ea89, ea90, ea91, ea92, ea93, ea94, ea95, ea96, ea97, ea98, ea99, ea100, ea101, ea102, ea103, ea104, ea105, ea106, ea107, ea108, ea109, ea110, ea111, hZ.k72, hZ.r72_16, hZ.r72_17, hZ.r72_18, hZ.r72_19, hZ.r72_20, hZ.r72_21, hZ.r72_22, hZ.r72_23, hZ.r72_24, hZ.r72_25, hZ.r72_26, hZ.r72_35, hZ.r72_36, hZ.r72_37, hZ.r72_38, hZ.r72_39, hZ.r72_40, hZ.r72_41, hZ.r72_42, hZ.r72_43, hZ.r72_44, hZ.r72_45, hZ.r72_46, hZ.r72_47, hZ.r72_48, hZ.r72_49, hZ.r72_50, hZ.r72_55, hZ.r72_56, hZ.r72_57, hZ.r72_58, hZ.r72_59, hZ.r72_60, hZ.r72_62, hZ.r72_63, hZ.r72_64, hZ.r72_65, hZ.r72_66, hZ.r72_67, b149_67, b149_71, b149_74]
    exact pl_fin
theorem s_bearsOf (hZ : Shp Z) (hw : Wf0 S) {k : Nat} (hk : k < 7) : call 150 [.ref 72, .int (iN k)] (emb I S, G, Z) = some (some (.int (bearsS S k)), (emb I S, G, Z)) := by
  have hb : ib (iN k) 7 := ib_iN (by omega) hk
  refine Eq.trans e150 (Eq.trans (b150_0 hZ.k72 hZ.kr72_18 (hZ.ir72_18 hb)) ?_)
  rw [s_plateBy hZ hw hk]
  refine Eq.trans (b150_11 hZ.k72 hZ.kr72_22 (hZ.ir72_22 hb)) ?_
  unfold bearsS
  simp only [mI_t, mL_t, es2, es1, es3, es4, es5, es6, es7, es8, es9, es10, es11, es12, es13, es14, es15, es51, es52, es53, es54, es61, es0, es16, es17, es18, es19, es20, es21, es22, es23, es24, es25, es26, es27, es28, es29, es30, es31, es32, es33, es34, es35, es36, es37, es38, es39, es40, es41, es42, es43, es44, es45, es46, es47, es48, es49, es50, es55, es56, es57, es58, es59, es60, es62, es63, es64, es65, es66, es67, es68, es69, ea73, ea74, ea75, ea76, ea77, ea78, ea79, ea80, ea81, ea82, ea83, ea84, ea85, ea86, ea87, ea88, ea89, ea90, ea91, ea92, ea93, ea94, ea95, ea96, ea97, ea98, ea99, ea100, ea101, ea102, ea103, ea104, ea105, ea106, ea107, ea108, ea109, ea110, ea111, hZ.k72, hZ.r72_16, hZ.r72_17, hZ.r72_18, hZ.r72_19, hZ.r72_20, hZ.r72_21, hZ.r72_22, hZ.r72_23, hZ.r72_24, hZ.r72_25, hZ.r72_26, hZ.r72_35, hZ.r72_36, hZ.r72_37, hZ.r72_38, hZ.r72_39, hZ.r72_40, hZ.r72_41, hZ.r72_42, hZ.r72_43, hZ.r72_44, hZ.r72_45, hZ.r72_46, hZ.r72_47, hZ.r72_48, hZ.r72_49, hZ.r72_50, hZ.r72_55, hZ.r72_56, hZ.r72_57, hZ.r72_58, hZ.r72_59, hZ.r72_60, hZ.r72_62, hZ.r72_63, hZ.r72_64, hZ.r72_65, hZ.r72_66, hZ.r72_67, iN_clamp (show k < 2147483648 by omega)]
  by_cases h : plateS S k (S 3 k) < S 7 k
  · rw [if_neg (fun q => q h), if_pos h]
    exact Eq.trans b150_22 b150_32
  · rw [if_pos h, if_neg h]
    refine Eq.trans (b150_26 hZ.k72 hZ.kr72_22 (hZ.ir72_22 hb)) (Eq.trans b150_32 ?_)
    simp only [mI_t, mL_t, es2, es1, es3, es4, es5, es6, es7, es8, es9, es10, es11, es12, es13, es14, es15, es51, es52, es53, es54, es61, es0, es16, es17, es18, es19, es20, es21, es22, es23, es24, es25, es26, es27, es28, es29, es30, es31, es32, es33, es34, es35, es36, es37, es38, es39, es40, es41, es42, es43, es44, es45, es46, es47, es48, es49, es50, es55, es56, es57, es58, es59, es60, es62, es63, es64, es65, es66, es67, es68, es69, ea73, ea74, ea75, ea76, ea77, ea78, ea79, ea80, ea81, ea82, ea83, ea84, ea85, ea86, ea87, ea88, ea89, ea90, ea91, ea92, ea93, ea94, ea95, ea96, ea97, ea98, ea99, ea100, ea101, ea102, ea103, ea104, ea105, ea106, ea107, ea108, ea109, ea110, ea111, hZ.k72, hZ.r72_16, hZ.r72_17, hZ.r72_18, hZ.r72_19, hZ.r72_20, hZ.r72_21, hZ.r72_22, hZ.r72_23, hZ.r72_24, hZ.r72_25, hZ.r72_26, hZ.r72_35, hZ.r72_36, hZ.r72_37, hZ.r72_38, hZ.r72_39, hZ.r72_40, hZ.r72_41, hZ.r72_42, hZ.r72_43, hZ.r72_44, hZ.r72_45, hZ.r72_46, hZ.r72_47, hZ.r72_48, hZ.r72_49, hZ.r72_50, hZ.r72_55, hZ.r72_56, hZ.r72_57, hZ.r72_58, hZ.r72_59, hZ.r72_60, hZ.r72_62, hZ.r72_63, hZ.r72_64, hZ.r72_65, hZ.r72_66, hZ.r72_67, iN_clamp (show k < 2147483648 by omega)]
/-- the first ring of d rings from k on that bears its load no more -/
def stdF : Nat → Nat → aS → aS
  | 0, _, S => S
  | d + 1, k, S => if bearsS S k < loadS S k then up2 (up2 (up2 S 0 12 (iN k)) 0 13 (S 0 0)) 0 14 (loadS S k) else stdF d (k + 1) S
def stdS (S : aS) : aS := if S 0 12 = -1 then stdF (riN S) 0 S else S
theorem load_b {S : aS} {k : Nat} {x y : Int32} : loadS (up2 (up2 S 0 12 x) 0 13 y) k = loadS S k := rfl
theorem wf_b {S : aS} {x y : Int32} (h : Wf0 S) : Wf0 (up2 (up2 S 0 12 x) 0 13 y) := h
theorem iN_ne1 {k : Nat} (h : k < 2147483648) : ¬ iN k = -1 := by
  intro q
  have := congrArg Int32.toInt q
  rw [iN_int h, l32_m1] at this
  omega
theorem s_stands (hZ : Shp Z) (hw : Wf0 S) : call 151 [.ref 72] (emb I S, G, Z) = some (some (.int (bI (decide (stdS S 0 12 = -1)))), (emb I (stdS S), G, Z)) := by
  refine Eq.trans e151 (Eq.trans b151_0 ?_)
  have fin : ∀ (x : Int32) (S' : aS), run 5 151 59 [.ref 72, .int x] [] (emb I S', G, Z) = some (some (.int (bI (decide (S' 0 12 = -1)))), (emb I S', G, Z)) := by
    intro x S'
    refine Eq.trans (b151_59 hZ.k72) ?_
    simp only [mI_t, mL_t, es2, es1, es3, es4, es5, es6, es7, es8, es9, es10, es11, es12, es13, es14, es15, es51, es52, es53, es54, es61, es0, es16, es17, es18, es19, es20, es21, es22, es23, es24, es25, es26, es27, es28, es29, es30, es31, es32, es33, es34, es35, es36, es37, es38, es39, es40, es41, es42, es43, es44, es45, es46, es47, es48, es49, es50, es55, es56, es57, es58, es59, es60, es62, es63, es64, es65, es66, es67, es68, es69, ea73, ea74, ea75, ea76, ea77, ea78, ea79, ea80, ea81, ea82, ea83, ea84, ea85, ea86, ea87, ea88, ea89, ea90, ea91, ea92, ea93, ea94, ea95, ea96, ea97, ea98, ea99, ea100, ea101, ea102, ea103, ea104, ea105, ea106, ea107, ea108, ea109, ea110, ea111, hZ.k72, hZ.r72_16, hZ.r72_17, hZ.r72_18, hZ.r72_19, hZ.r72_20, hZ.r72_21, hZ.r72_22, hZ.r72_23, hZ.r72_24, hZ.r72_25, hZ.r72_26, hZ.r72_35, hZ.r72_36, hZ.r72_37, hZ.r72_38, hZ.r72_39, hZ.r72_40, hZ.r72_41, hZ.r72_42, hZ.r72_43, hZ.r72_44, hZ.r72_45, hZ.r72_46, hZ.r72_47, hZ.r72_48, hZ.r72_49, hZ.r72_50, hZ.r72_55, hZ.r72_56, hZ.r72_57, hZ.r72_58, hZ.r72_59, hZ.r72_60, hZ.r72_62, hZ.r72_63, hZ.r72_64, hZ.r72_65, hZ.r72_66, hZ.r72_67]
    by_cases h : S' 0 12 = -1
    · rw [if_neg (fun q => q h), decide_eq_true h]
      exact Eq.trans b151_67 (b151_72 rfl)
    · rw [if_pos h, decide_eq_false h]
      exact Eq.trans b151_71 (b151_72 rfl)
  have key : ∀ d k, k + d = riN S → S 0 12 = -1 → run 5 151 2 [.ref 72, .int (iN k)] [] (emb I S, G, Z) = some (some (.int (bI (decide (stdF d k S 0 12 = -1)))), (emb I (stdF d k S), G, Z)) := by
    intro d
    induction d with
    | zero =>
      intro k hk hn
      refine Eq.trans (b151_2 hZ.k72) ?_
      simp only [mI_t, mL_t, es2, es1, es3, es4, es5, es6, es7, es8, es9, es10, es11, es12, es13, es14, es15, es51, es52, es53, es54, es61, es0, es16, es17, es18, es19, es20, es21, es22, es23, es24, es25, es26, es27, es28, es29, es30, es31, es32, es33, es34, es35, es36, es37, es38, es39, es40, es41, es42, es43, es44, es45, es46, es47, es48, es49, es50, es55, es56, es57, es58, es59, es60, es62, es63, es64, es65, es66, es67, es68, es69, ea73, ea74, ea75, ea76, ea77, ea78, ea79, ea80, ea81, ea82, ea83, ea84, ea85, ea86, ea87, ea88, ea89, ea90, ea91, ea92, ea93, ea94, ea95, ea96, ea97, ea98, ea99, ea100, ea101, ea102, ea103, ea104, ea105, ea106, ea107, ea108, ea109, ea110, ea111, hZ.k72, hZ.r72_16, hZ.r72_17, hZ.r72_18, hZ.r72_19, hZ.r72_20, hZ.r72_21, hZ.r72_22, hZ.r72_23, hZ.r72_24, hZ.r72_25, hZ.r72_26, hZ.r72_35, hZ.r72_36, hZ.r72_37, hZ.r72_38, hZ.r72_39, hZ.r72_40, hZ.r72_41, hZ.r72_42, hZ.r72_43, hZ.r72_44, hZ.r72_45, hZ.r72_46, hZ.r72_47, hZ.r72_48, hZ.r72_49, hZ.r72_50, hZ.r72_55, hZ.r72_56, hZ.r72_57, hZ.r72_58, hZ.r72_59, hZ.r72_60, hZ.r72_62, hZ.r72_63, hZ.r72_64, hZ.r72_65, hZ.r72_66, hZ.r72_67]
      rw [hw.1.1, show k = riN S by omega]
      refine Eq.trans (if_pos (iN_nlt (by have := hw.1.2; omega))) ?_
      exact fin _ _
    | succ d ih =>
      intro k hk hn
      have hr := hw.1.2
      have hlt : iN k < iN (riN S) := (iN_lt (by omega) (by omega)).mpr (by omega)
      refine Eq.trans (b151_2 hZ.k72) ?_
      simp only [mI_t, mL_t, es2, es1, es3, es4, es5, es6, es7, es8, es9, es10, es11, es12, es13, es14, es15, es51, es52, es53, es54, es61, es0, es16, es17, es18, es19, es20, es21, es22, es23, es24, es25, es26, es27, es28, es29, es30, es31, es32, es33, es34, es35, es36, es37, es38, es39, es40, es41, es42, es43, es44, es45, es46, es47, es48, es49, es50, es55, es56, es57, es58, es59, es60, es62, es63, es64, es65, es66, es67, es68, es69, ea73, ea74, ea75, ea76, ea77, ea78, ea79, ea80, ea81, ea82, ea83, ea84, ea85, ea86, ea87, ea88, ea89, ea90, ea91, ea92, ea93, ea94, ea95, ea96, ea97, ea98, ea99, ea100, ea101, ea102, ea103, ea104, ea105, ea106, ea107, ea108, ea109, ea110, ea111, hZ.k72, hZ.r72_16, hZ.r72_17, hZ.r72_18, hZ.r72_19, hZ.r72_20, hZ.r72_21, hZ.r72_22, hZ.r72_23, hZ.r72_24, hZ.r72_25, hZ.r72_26, hZ.r72_35, hZ.r72_36, hZ.r72_37, hZ.r72_38, hZ.r72_39, hZ.r72_40, hZ.r72_41, hZ.r72_42, hZ.r72_43, hZ.r72_44, hZ.r72_45, hZ.r72_46, hZ.r72_47, hZ.r72_48, hZ.r72_49, hZ.r72_50, hZ.r72_55, hZ.r72_56, hZ.r72_57, hZ.r72_58, hZ.r72_59, hZ.r72_60, hZ.r72_62, hZ.r72_63, hZ.r72_64, hZ.r72_65, hZ.r72_66, hZ.r72_67]
      rw [hw.1.1]
      refine Eq.trans (if_neg (fun h => h hlt)) (Eq.trans (b151_10 hZ.k72) ?_)
      simp only [mI_t, mL_t, es2, es1, es3, es4, es5, es6, es7, es8, es9, es10, es11, es12, es13, es14, es15, es51, es52, es53, es54, es61, es0, es16, es17, es18, es19, es20, es21, es22, es23, es24, es25, es26, es27, es28, es29, es30, es31, es32, es33, es34, es35, es36, es37, es38, es39, es40, es41, es42, es43, es44, es45, es46, es47, es48, es49, es50, es55, es56, es57, es58, es59, es60, es62, es63, es64, es65, es66, es67, es68, es69, ea73, ea74, ea75, ea76, ea77, ea78, ea79, ea80, ea81, ea82, ea83, ea84, ea85, ea86, ea87, ea88, ea89, ea90, ea91, ea92, ea93, ea94, ea95, ea96, ea97, ea98, ea99, ea100, ea101, ea102, ea103, ea104, ea105, ea106, ea107, ea108, ea109, ea110, ea111, hZ.k72, hZ.r72_16, hZ.r72_17, hZ.r72_18, hZ.r72_19, hZ.r72_20, hZ.r72_21, hZ.r72_22, hZ.r72_23, hZ.r72_24, hZ.r72_25, hZ.r72_26, hZ.r72_35, hZ.r72_36, hZ.r72_37, hZ.r72_38, hZ.r72_39, hZ.r72_40, hZ.r72_41, hZ.r72_42, hZ.r72_43, hZ.r72_44, hZ.r72_45, hZ.r72_46, hZ.r72_47, hZ.r72_48, hZ.r72_49, hZ.r72_50, hZ.r72_55, hZ.r72_56, hZ.r72_57, hZ.r72_58, hZ.r72_59, hZ.r72_60, hZ.r72_62, hZ.r72_63, hZ.r72_64, hZ.r72_65, hZ.r72_66, hZ.r72_67]
      refine Eq.trans (if_neg (fun h => h hn)) (Eq.trans (b151_18 hZ.k72) ?_)
      rw [s_loadOf hZ hw (by omega)]
      refine Eq.trans (b151_23 hZ.k72) ?_
      rw [s_bearsOf hZ hw (by omega)]
      refine Eq.trans b151_28 ?_
      rw [stdF]
      by_cases h : bearsS S k < loadS S k
      · rw [if_pos h]
        refine Eq.trans (if_neg (fun q => q h)) (Eq.trans (b151_31 hZ.k72) ?_)
        simp only [mI_t, mL_t, wI_t, wL_t, es2, es1, es3, es4, es5, es6, es7, es8, es9, es10, es11, es12, es13, es14, es15, es51, es52, es53, es54, es61, es0, es16, es17, es18, es19, es20, es21, es22, es23, es24, es25, es26, es27, es28, es29, es30, es31, es32, es33, es34, es35, es36, es37, es38, es39, es40, es41, es42, es43, es44, es45, es46, es47, es48, es49, es50, es55, es56, es57, es58, es59, es60, es62, es63, es64, es65, es66, es67, es68, es69, ea73, ea74, ea75, ea76, ea77, ea78, ea79, ea80, ea81, ea82, ea83, ea84, ea85, ea86, ea87, ea88, ea89, ea90, ea91, ea92, ea93, ea94, ea95, ea96, ea97, ea98, ea99, ea100, ea101, ea102, ea103, ea104, ea105, ea106, ea107, ea108, ea109, ea110, ea111, ew2, ew1, ew3, ew4, ew5, ew6, ew7, ew8, ew9, ew10, ew11, ew12, ew13, ew14, ew15, ew51, ew52, ew53, ew54, ew61, ew0, ew16, ew17, ew18, ew19, ew20, ew21, ew22, ew23, ew24, ew25, ew26, ew27, ew28, ew29, ew30, ew31, ew32, ew33, ew34, ew35, ew36, ew37, ew38, ew39, ew40, ew41, ew42, ew43, ew44, ew45, ew46, ew47, ew48, ew49, ew50, ew55, ew56, ew57, ew58, ew59, ew60, ew62, ew63, ew64, ew65, ew66, ew67, ew68, ew69, eb73, eb74, eb75, eb76, eb77, eb78, eb79, eb80, eb81, eb82, eb83, eb84, eb85, eb86, eb87, eb88, eb89, eb90, eb91, eb92, eb93, eb94, eb95, eb96, eb97, eb98, eb99, eb100, eb101, eb102, eb103, eb104, eb105, eb106, eb107, eb108, eb109, eb110, eb111, hZ.k72, hZ.r72_16, hZ.r72_17, hZ.r72_18, hZ.r72_19, hZ.r72_20, hZ.r72_21, hZ.r72_22, hZ.r72_23, hZ.r72_24, hZ.r72_25, hZ.r72_26, hZ.r72_35, hZ.r72_36, hZ.r72_37, hZ.r72_38, hZ.r72_39, hZ.r72_40, hZ.r72_41, hZ.r72_42, hZ.r72_43, hZ.r72_44, hZ.r72_45, hZ.r72_46, hZ.r72_47, hZ.r72_48, hZ.r72_49, hZ.r72_50, hZ.r72_55, hZ.r72_56, hZ.r72_57, hZ.r72_58, hZ.r72_59, hZ.r72_60, hZ.r72_62, hZ.r72_63, hZ.r72_64, hZ.r72_65, hZ.r72_66, hZ.r72_67]
        rw [show up2 S 0 12 (iN k) 0 0 = S 0 0 from rfl, s_loadOf hZ (wf_b hw) (by omega), load_b]
        refine Eq.trans (b151_50 hZ.k72) ?_
        simp only [mI_t, mL_t, wI_t, wL_t, es2, es1, es3, es4, es5, es6, es7, es8, es9, es10, es11, es12, es13, es14, es15, es51, es52, es53, es54, es61, es0, es16, es17, es18, es19, es20, es21, es22, es23, es24, es25, es26, es27, es28, es29, es30, es31, es32, es33, es34, es35, es36, es37, es38, es39, es40, es41, es42, es43, es44, es45, es46, es47, es48, es49, es50, es55, es56, es57, es58, es59, es60, es62, es63, es64, es65, es66, es67, es68, es69, ea73, ea74, ea75, ea76, ea77, ea78, ea79, ea80, ea81, ea82, ea83, ea84, ea85, ea86, ea87, ea88, ea89, ea90, ea91, ea92, ea93, ea94, ea95, ea96, ea97, ea98, ea99, ea100, ea101, ea102, ea103, ea104, ea105, ea106, ea107, ea108, ea109, ea110, ea111, ew2, ew1, ew3, ew4, ew5, ew6, ew7, ew8, ew9, ew10, ew11, ew12, ew13, ew14, ew15, ew51, ew52, ew53, ew54, ew61, ew0, ew16, ew17, ew18, ew19, ew20, ew21, ew22, ew23, ew24, ew25, ew26, ew27, ew28, ew29, ew30, ew31, ew32, ew33, ew34, ew35, ew36, ew37, ew38, ew39, ew40, ew41, ew42, ew43, ew44, ew45, ew46, ew47, ew48, ew49, ew50, ew55, ew56, ew57, ew58, ew59, ew60, ew62, ew63, ew64, ew65, ew66, ew67, ew68, ew69, eb73, eb74, eb75, eb76, eb77, eb78, eb79, eb80, eb81, eb82, eb83, eb84, eb85, eb86, eb87, eb88, eb89, eb90, eb91, eb92, eb93, eb94, eb95, eb96, eb97, eb98, eb99, eb100, eb101, eb102, eb103, eb104, eb105, eb106, eb107, eb108, eb109, eb110, eb111, hZ.k72, hZ.r72_16, hZ.r72_17, hZ.r72_18, hZ.r72_19, hZ.r72_20, hZ.r72_21, hZ.r72_22, hZ.r72_23, hZ.r72_24, hZ.r72_25, hZ.r72_26, hZ.r72_35, hZ.r72_36, hZ.r72_37, hZ.r72_38, hZ.r72_39, hZ.r72_40, hZ.r72_41, hZ.r72_42, hZ.r72_43, hZ.r72_44, hZ.r72_45, hZ.r72_46, hZ.r72_47, hZ.r72_48, hZ.r72_49, hZ.r72_50, hZ.r72_55, hZ.r72_56, hZ.r72_57, hZ.r72_58, hZ.r72_59, hZ.r72_60, hZ.r72_62, hZ.r72_63, hZ.r72_64, hZ.r72_65, hZ.r72_66, hZ.r72_67]
        refine Eq.trans b151_53 (Eq.trans (b151_2 hZ.k72) ?_)
        simp only [mI_t, mL_t, es2, es1, es3, es4, es5, es6, es7, es8, es9, es10, es11, es12, es13, es14, es15, es51, es52, es53, es54, es61, es0, es16, es17, es18, es19, es20, es21, es22, es23, es24, es25, es26, es27, es28, es29, es30, es31, es32, es33, es34, es35, es36, es37, es38, es39, es40, es41, es42, es43, es44, es45, es46, es47, es48, es49, es50, es55, es56, es57, es58, es59, es60, es62, es63, es64, es65, es66, es67, es68, es69, ea73, ea74, ea75, ea76, ea77, ea78, ea79, ea80, ea81, ea82, ea83, ea84, ea85, ea86, ea87, ea88, ea89, ea90, ea91, ea92, ea93, ea94, ea95, ea96, ea97, ea98, ea99, ea100, ea101, ea102, ea103, ea104, ea105, ea106, ea107, ea108, ea109, ea110, ea111, hZ.k72, hZ.r72_16, hZ.r72_17, hZ.r72_18, hZ.r72_19, hZ.r72_20, hZ.r72_21, hZ.r72_22, hZ.r72_23, hZ.r72_24, hZ.r72_25, hZ.r72_26, hZ.r72_35, hZ.r72_36, hZ.r72_37, hZ.r72_38, hZ.r72_39, hZ.r72_40, hZ.r72_41, hZ.r72_42, hZ.r72_43, hZ.r72_44, hZ.r72_45, hZ.r72_46, hZ.r72_47, hZ.r72_48, hZ.r72_49, hZ.r72_50, hZ.r72_55, hZ.r72_56, hZ.r72_57, hZ.r72_58, hZ.r72_59, hZ.r72_60, hZ.r72_62, hZ.r72_63, hZ.r72_64, hZ.r72_65, hZ.r72_66, hZ.r72_67]
        have h12 : up2 (up2 (up2 S 0 12 (iN k)) 0 13 (S 0 0)) 0 14 (loadS S k) 0 12 = iN k := rfl
        have h7 : up2 (up2 (up2 S 0 12 (iN k)) 0 13 (S 0 0)) 0 14 (loadS S k) 0 7 = S 0 7 := rfl
        split
        · exact fin _ _
        · refine Eq.trans (b151_10 hZ.k72) ?_
          simp only [mI_t, mL_t, es2, es1, es3, es4, es5, es6, es7, es8, es9, es10, es11, es12, es13, es14, es15, es51, es52, es53, es54, es61, es0, es16, es17, es18, es19, es20, es21, es22, es23, es24, es25, es26, es27, es28, es29, es30, es31, es32, es33, es34, es35, es36, es37, es38, es39, es40, es41, es42, es43, es44, es45, es46, es47, es48, es49, es50, es55, es56, es57, es58, es59, es60, es62, es63, es64, es65, es66, es67, es68, es69, ea73, ea74, ea75, ea76, ea77, ea78, ea79, ea80, ea81, ea82, ea83, ea84, ea85, ea86, ea87, ea88, ea89, ea90, ea91, ea92, ea93, ea94, ea95, ea96, ea97, ea98, ea99, ea100, ea101, ea102, ea103, ea104, ea105, ea106, ea107, ea108, ea109, ea110, ea111, hZ.k72, hZ.r72_16, hZ.r72_17, hZ.r72_18, hZ.r72_19, hZ.r72_20, hZ.r72_21, hZ.r72_22, hZ.r72_23, hZ.r72_24, hZ.r72_25, hZ.r72_26, hZ.r72_35, hZ.r72_36, hZ.r72_37, hZ.r72_38, hZ.r72_39, hZ.r72_40, hZ.r72_41, hZ.r72_42, hZ.r72_43, hZ.r72_44, hZ.r72_45, hZ.r72_46, hZ.r72_47, hZ.r72_48, hZ.r72_49, hZ.r72_50, hZ.r72_55, hZ.r72_56, hZ.r72_57, hZ.r72_58, hZ.r72_59, hZ.r72_60, hZ.r72_62, hZ.r72_63, hZ.r72_64, hZ.r72_65, hZ.r72_66, hZ.r72_67]
          rw [if_pos (by rw [h12]; exact iN_ne1 (by omega))]
          exact fin _ _
      · rw [if_neg h]
        refine Eq.trans (if_pos h) (Eq.trans b151_53 ?_)
        rw [iN_succ]
        exact ih (k + 1) (by omega) hn
  unfold stdS
  by_cases hn : S 0 12 = -1
  · rw [if_pos hn]
    exact key (riN S) 0 (by omega) hn
  · rw [if_neg hn]
    refine Eq.trans (b151_2 hZ.k72) ?_
    simp only [mI_t, mL_t, es2, es1, es3, es4, es5, es6, es7, es8, es9, es10, es11, es12, es13, es14, es15, es51, es52, es53, es54, es61, es0, es16, es17, es18, es19, es20, es21, es22, es23, es24, es25, es26, es27, es28, es29, es30, es31, es32, es33, es34, es35, es36, es37, es38, es39, es40, es41, es42, es43, es44, es45, es46, es47, es48, es49, es50, es55, es56, es57, es58, es59, es60, es62, es63, es64, es65, es66, es67, es68, es69, ea73, ea74, ea75, ea76, ea77, ea78, ea79, ea80, ea81, ea82, ea83, ea84, ea85, ea86, ea87, ea88, ea89, ea90, ea91, ea92, ea93, ea94, ea95, ea96, ea97, ea98, ea99, ea100, ea101, ea102, ea103, ea104, ea105, ea106, ea107, ea108, ea109, ea110, ea111, hZ.k72, hZ.r72_16, hZ.r72_17, hZ.r72_18, hZ.r72_19, hZ.r72_20, hZ.r72_21, hZ.r72_22, hZ.r72_23, hZ.r72_24, hZ.r72_25, hZ.r72_26, hZ.r72_35, hZ.r72_36, hZ.r72_37, hZ.r72_38, hZ.r72_39, hZ.r72_40, hZ.r72_41, hZ.r72_42, hZ.r72_43, hZ.r72_44, hZ.r72_45, hZ.r72_46, hZ.r72_47, hZ.r72_48, hZ.r72_49, hZ.r72_50, hZ.r72_55, hZ.r72_56, hZ.r72_57, hZ.r72_58, hZ.r72_59, hZ.r72_60, hZ.r72_62, hZ.r72_63, hZ.r72_64, hZ.r72_65, hZ.r72_66, hZ.r72_67]
    split
    · exact fin _ _
    · refine Eq.trans (b151_10 hZ.k72) ?_
      simp only [mI_t, mL_t, es2, es1, es3, es4, es5, es6, es7, es8, es9, es10, es11, es12, es13, es14, es15, es51, es52, es53, es54, es61, es0, es16, es17, es18, es19, es20, es21, es22, es23, es24, es25, es26, es27, es28, es29, es30, es31, es32, es33, es34, es35, es36, es37, es38, es39, es40, es41, es42, es43, es44, es45, es46, es47, es48, es49, es50, es55, es56, es57, es58, es59, es60, es62, es63, es64, es65, es66, es67, es68, es69, ea73, ea74, ea75, ea76, ea77, ea78, ea79, ea80, ea81, ea82, ea83, ea84, ea85, ea86, ea87, ea88, ea89, ea90, ea91, ea92, ea93, ea94, ea95, ea96, ea97, ea98, ea99, ea100, ea101, ea102, ea103, ea104, ea105, ea106, ea107, ea108, ea109, ea110, ea111, hZ.k72, hZ.r72_16, hZ.r72_17, hZ.r72_18, hZ.r72_19, hZ.r72_20, hZ.r72_21, hZ.r72_22, hZ.r72_23, hZ.r72_24, hZ.r72_25, hZ.r72_26, hZ.r72_35, hZ.r72_36, hZ.r72_37, hZ.r72_38, hZ.r72_39, hZ.r72_40, hZ.r72_41, hZ.r72_42, hZ.r72_43, hZ.r72_44, hZ.r72_45, hZ.r72_46, hZ.r72_47, hZ.r72_48, hZ.r72_49, hZ.r72_50, hZ.r72_55, hZ.r72_56, hZ.r72_57, hZ.r72_58, hZ.r72_59, hZ.r72_60, hZ.r72_62, hZ.r72_63, hZ.r72_64, hZ.r72_65, hZ.r72_66, hZ.r72_67]
      rw [if_pos hn]
      exact fin _ _
/-- the greatest loads, of the rings below k -/
def sdF : Nat → aS → aS
  | 0, S => S
  | k + 1, S => up2 (sdF k S) 9 k (if sdF k S 9 k < loadS S k then loadS S k else sdF k S 9 k)
theorem sdF_0 {S : aS} : ∀ (k c : Nat), c ≠ 9 → sdF k S c = S c := by
  intro k
  induction k with
  | zero => intro c _; rfl
  | succ k ih =>
    intro c hc
    rw [sdF]
    funext i
    rw [up2_a hc, ih c hc]
theorem sdF_load {S : aS} {k j : Nat} : loadS (sdF k S) j = loadS S j := by
  unfold loadS dep low laN
  rw [sdF_0 k 0 (by decide), sdF_0 k 1 (by decide), sdF_0 k 10 (by decide)]
theorem sdF_wf {S : aS} {k : Nat} (h : Wf0 S) : Wf0 (sdF k S) := by
  unfold Wf0 riN laN at h ⊢
  rw [sdF_0 k 0 (by decide)]
  exact h
theorem s_stood (hZ : Shp Z) (hw : Wf0 S) : call 152 [.ref 72] (emb I S, G, Z) = some (none, (emb I (sdF (riN S) S), G, Z)) := by
  refine Eq.trans e152 (Eq.trans b152_0 ?_)
  have hr := hw.1.2
  have key : ∀ d k v, k + d = riN S → run 4 152 2 [.ref 72, .int (iN k), v] [] (emb I (sdF k S), G, Z) = some (none, (emb I (sdF (riN S) S), G, Z)) := by
    intro d
    induction d with
    | zero =>
      intro k v hk
      refine Eq.trans (b152_2 hZ.k72) ?_
      simp only [mI_t, mL_t, es2, es1, es3, es4, es5, es6, es7, es8, es9, es10, es11, es12, es13, es14, es15, es51, es52, es53, es54, es61, es0, es16, es17, es18, es19, es20, es21, es22, es23, es24, es25, es26, es27, es28, es29, es30, es31, es32, es33, es34, es35, es36, es37, es38, es39, es40, es41, es42, es43, es44, es45, es46, es47, es48, es49, es50, es55, es56, es57, es58, es59, es60, es62, es63, es64, es65, es66, es67, es68, es69, ea73, ea74, ea75, ea76, ea77, ea78, ea79, ea80, ea81, ea82, ea83, ea84, ea85, ea86, ea87, ea88, ea89, ea90, ea91, ea92, ea93, ea94, ea95, ea96, ea97, ea98, ea99, ea100, ea101, ea102, ea103, ea104, ea105, ea106, ea107, ea108, ea109, ea110, ea111, hZ.k72, hZ.r72_16, hZ.r72_17, hZ.r72_18, hZ.r72_19, hZ.r72_20, hZ.r72_21, hZ.r72_22, hZ.r72_23, hZ.r72_24, hZ.r72_25, hZ.r72_26, hZ.r72_35, hZ.r72_36, hZ.r72_37, hZ.r72_38, hZ.r72_39, hZ.r72_40, hZ.r72_41, hZ.r72_42, hZ.r72_43, hZ.r72_44, hZ.r72_45, hZ.r72_46, hZ.r72_47, hZ.r72_48, hZ.r72_49, hZ.r72_50, hZ.r72_55, hZ.r72_56, hZ.r72_57, hZ.r72_58, hZ.r72_59, hZ.r72_60, hZ.r72_62, hZ.r72_63, hZ.r72_64, hZ.r72_65, hZ.r72_66, hZ.r72_67]
      rw [sdF_0 k 0 (by decide), hw.1.1, show k = riN S by omega]
      exact Eq.trans (if_pos (iN_nlt (by omega))) b152_48
    | succ d ih =>
      intro k v hk
      have hlt : iN k < iN (riN S) := (iN_lt (by omega) (by omega)).mpr (by omega)
      have hb : ib (iN k) 7 := ib_iN (by omega) (by omega)
      refine Eq.trans (b152_2 hZ.k72) ?_
      simp only [mI_t, mL_t, es2, es1, es3, es4, es5, es6, es7, es8, es9, es10, es11, es12, es13, es14, es15, es51, es52, es53, es54, es61, es0, es16, es17, es18, es19, es20, es21, es22, es23, es24, es25, es26, es27, es28, es29, es30, es31, es32, es33, es34, es35, es36, es37, es38, es39, es40, es41, es42, es43, es44, es45, es46, es47, es48, es49, es50, es55, es56, es57, es58, es59, es60, es62, es63, es64, es65, es66, es67, es68, es69, ea73, ea74, ea75, ea76, ea77, ea78, ea79, ea80, ea81, ea82, ea83, ea84, ea85, ea86, ea87, ea88, ea89, ea90, ea91, ea92, ea93, ea94, ea95, ea96, ea97, ea98, ea99, ea100, ea101, ea102, ea103, ea104, ea105, ea106, ea107, ea108, ea109, ea110, ea111, hZ.k72, hZ.r72_16, hZ.r72_17, hZ.r72_18, hZ.r72_19, hZ.r72_20, hZ.r72_21, hZ.r72_22, hZ.r72_23, hZ.r72_24, hZ.r72_25, hZ.r72_26, hZ.r72_35, hZ.r72_36, hZ.r72_37, hZ.r72_38, hZ.r72_39, hZ.r72_40, hZ.r72_41, hZ.r72_42, hZ.r72_43, hZ.r72_44, hZ.r72_45, hZ.r72_46, hZ.r72_47, hZ.r72_48, hZ.r72_49, hZ.r72_50, hZ.r72_55, hZ.r72_56, hZ.r72_57, hZ.r72_58, hZ.r72_59, hZ.r72_60, hZ.r72_62, hZ.r72_63, hZ.r72_64, hZ.r72_65, hZ.r72_66, hZ.r72_67]
      rw [sdF_0 k 0 (by decide), hw.1.1]
      refine Eq.trans (if_neg (fun h => h hlt)) (Eq.trans (b152_10 hZ.k72) ?_)
      rw [s_loadOf hZ (sdF_wf hw) (by omega), sdF_load]
      refine Eq.trans (b152_15 hZ.k72 hZ.kr72_24 (hZ.ir72_24 hb)) ?_
      simp only [mI_t, mL_t, es2, es1, es3, es4, es5, es6, es7, es8, es9, es10, es11, es12, es13, es14, es15, es51, es52, es53, es54, es61, es0, es16, es17, es18, es19, es20, es21, es22, es23, es24, es25, es26, es27, es28, es29, es30, es31, es32, es33, es34, es35, es36, es37, es38, es39, es40, es41, es42, es43, es44, es45, es46, es47, es48, es49, es50, es55, es56, es57, es58, es59, es60, es62, es63, es64, es65, es66, es67, es68, es69, ea73, ea74, ea75, ea76, ea77, ea78, ea79, ea80, ea81, ea82, ea83, ea84, ea85, ea86, ea87, ea88, ea89, ea90, ea91, ea92, ea93, ea94, ea95, ea96, ea97, ea98, ea99, ea100, ea101, ea102, ea103, ea104, ea105, ea106, ea107, ea108, ea109, ea110, ea111, hZ.k72, hZ.r72_16, hZ.r72_17, hZ.r72_18, hZ.r72_19, hZ.r72_20, hZ.r72_21, hZ.r72_22, hZ.r72_23, hZ.r72_24, hZ.r72_25, hZ.r72_26, hZ.r72_35, hZ.r72_36, hZ.r72_37, hZ.r72_38, hZ.r72_39, hZ.r72_40, hZ.r72_41, hZ.r72_42, hZ.r72_43, hZ.r72_44, hZ.r72_45, hZ.r72_46, hZ.r72_47, hZ.r72_48, hZ.r72_49, hZ.r72_50, hZ.r72_55, hZ.r72_56, hZ.r72_57, hZ.r72_58, hZ.r72_59, hZ.r72_60, hZ.r72_62, hZ.r72_63, hZ.r72_64, hZ.r72_65, hZ.r72_66, hZ.r72_67, iN_clamp (show k < 2147483648 by omega)]
      have nx := ih (k + 1) (.int (loadS S k)) (by omega)
      rw [sdF] at nx
      by_cases h : sdF k S 9 k < loadS S k
      · refine Eq.trans (if_neg (fun q => q h)) (Eq.trans b152_31 (Eq.trans (b152_41 hZ.k81 (hZ.i81 hb)) ?_))
        simp only [mI_t, mL_t, wI_t, wL_t, es2, es1, es3, es4, es5, es6, es7, es8, es9, es10, es11, es12, es13, es14, es15, es51, es52, es53, es54, es61, es0, es16, es17, es18, es19, es20, es21, es22, es23, es24, es25, es26, es27, es28, es29, es30, es31, es32, es33, es34, es35, es36, es37, es38, es39, es40, es41, es42, es43, es44, es45, es46, es47, es48, es49, es50, es55, es56, es57, es58, es59, es60, es62, es63, es64, es65, es66, es67, es68, es69, ea73, ea74, ea75, ea76, ea77, ea78, ea79, ea80, ea81, ea82, ea83, ea84, ea85, ea86, ea87, ea88, ea89, ea90, ea91, ea92, ea93, ea94, ea95, ea96, ea97, ea98, ea99, ea100, ea101, ea102, ea103, ea104, ea105, ea106, ea107, ea108, ea109, ea110, ea111, ew2, ew1, ew3, ew4, ew5, ew6, ew7, ew8, ew9, ew10, ew11, ew12, ew13, ew14, ew15, ew51, ew52, ew53, ew54, ew61, ew0, ew16, ew17, ew18, ew19, ew20, ew21, ew22, ew23, ew24, ew25, ew26, ew27, ew28, ew29, ew30, ew31, ew32, ew33, ew34, ew35, ew36, ew37, ew38, ew39, ew40, ew41, ew42, ew43, ew44, ew45, ew46, ew47, ew48, ew49, ew50, ew55, ew56, ew57, ew58, ew59, ew60, ew62, ew63, ew64, ew65, ew66, ew67, ew68, ew69, eb73, eb74, eb75, eb76, eb77, eb78, eb79, eb80, eb81, eb82, eb83, eb84, eb85, eb86, eb87, eb88, eb89, eb90, eb91, eb92, eb93, eb94, eb95, eb96, eb97, eb98, eb99, eb100, eb101, eb102, eb103, eb104, eb105, eb106, eb107, eb108, eb109, eb110, eb111, hZ.k72, hZ.r72_16, hZ.r72_17, hZ.r72_18, hZ.r72_19, hZ.r72_20, hZ.r72_21, hZ.r72_22, hZ.r72_23, hZ.r72_24, hZ.r72_25, hZ.r72_26, hZ.r72_35, hZ.r72_36, hZ.r72_37, hZ.r72_38, hZ.r72_39, hZ.r72_40, hZ.r72_41, hZ.r72_42, hZ.r72_43, hZ.r72_44, hZ.r72_45, hZ.r72_46, hZ.r72_47, hZ.r72_48, hZ.r72_49, hZ.r72_50, hZ.r72_55, hZ.r72_56, hZ.r72_57, hZ.r72_58, hZ.r72_59, hZ.r72_60, hZ.r72_62, hZ.r72_63, hZ.r72_64, hZ.r72_65, hZ.r72_66, hZ.r72_67, iN_clamp (show k < 2147483648 by omega), iN_succ]
        rw [if_pos h] at nx
        exact nx
      · refine Eq.trans (if_pos h) (Eq.trans (b152_35 hZ.k72 hZ.kr72_24 (hZ.ir72_24 hb)) ?_)
        simp only [mI_t, mL_t, es2, es1, es3, es4, es5, es6, es7, es8, es9, es10, es11, es12, es13, es14, es15, es51, es52, es53, es54, es61, es0, es16, es17, es18, es19, es20, es21, es22, es23, es24, es25, es26, es27, es28, es29, es30, es31, es32, es33, es34, es35, es36, es37, es38, es39, es40, es41, es42, es43, es44, es45, es46, es47, es48, es49, es50, es55, es56, es57, es58, es59, es60, es62, es63, es64, es65, es66, es67, es68, es69, ea73, ea74, ea75, ea76, ea77, ea78, ea79, ea80, ea81, ea82, ea83, ea84, ea85, ea86, ea87, ea88, ea89, ea90, ea91, ea92, ea93, ea94, ea95, ea96, ea97, ea98, ea99, ea100, ea101, ea102, ea103, ea104, ea105, ea106, ea107, ea108, ea109, ea110, ea111, hZ.k72, hZ.r72_16, hZ.r72_17, hZ.r72_18, hZ.r72_19, hZ.r72_20, hZ.r72_21, hZ.r72_22, hZ.r72_23, hZ.r72_24, hZ.r72_25, hZ.r72_26, hZ.r72_35, hZ.r72_36, hZ.r72_37, hZ.r72_38, hZ.r72_39, hZ.r72_40, hZ.r72_41, hZ.r72_42, hZ.r72_43, hZ.r72_44, hZ.r72_45, hZ.r72_46, hZ.r72_47, hZ.r72_48, hZ.r72_49, hZ.r72_50, hZ.r72_55, hZ.r72_56, hZ.r72_57, hZ.r72_58, hZ.r72_59, hZ.r72_60, hZ.r72_62, hZ.r72_63, hZ.r72_64, hZ.r72_65, hZ.r72_66, hZ.r72_67]
        refine Eq.trans (b152_41 hZ.k81 (hZ.i81 hb)) ?_
        simp only [mI_t, mL_t, wI_t, wL_t, es2, es1, es3, es4, es5, es6, es7, es8, es9, es10, es11, es12, es13, es14, es15, es51, es52, es53, es54, es61, es0, es16, es17, es18, es19, es20, es21, es22, es23, es24, es25, es26, es27, es28, es29, es30, es31, es32, es33, es34, es35, es36, es37, es38, es39, es40, es41, es42, es43, es44, es45, es46, es47, es48, es49, es50, es55, es56, es57, es58, es59, es60, es62, es63, es64, es65, es66, es67, es68, es69, ea73, ea74, ea75, ea76, ea77, ea78, ea79, ea80, ea81, ea82, ea83, ea84, ea85, ea86, ea87, ea88, ea89, ea90, ea91, ea92, ea93, ea94, ea95, ea96, ea97, ea98, ea99, ea100, ea101, ea102, ea103, ea104, ea105, ea106, ea107, ea108, ea109, ea110, ea111, ew2, ew1, ew3, ew4, ew5, ew6, ew7, ew8, ew9, ew10, ew11, ew12, ew13, ew14, ew15, ew51, ew52, ew53, ew54, ew61, ew0, ew16, ew17, ew18, ew19, ew20, ew21, ew22, ew23, ew24, ew25, ew26, ew27, ew28, ew29, ew30, ew31, ew32, ew33, ew34, ew35, ew36, ew37, ew38, ew39, ew40, ew41, ew42, ew43, ew44, ew45, ew46, ew47, ew48, ew49, ew50, ew55, ew56, ew57, ew58, ew59, ew60, ew62, ew63, ew64, ew65, ew66, ew67, ew68, ew69, eb73, eb74, eb75, eb76, eb77, eb78, eb79, eb80, eb81, eb82, eb83, eb84, eb85, eb86, eb87, eb88, eb89, eb90, eb91, eb92, eb93, eb94, eb95, eb96, eb97, eb98, eb99, eb100, eb101, eb102, eb103, eb104, eb105, eb106, eb107, eb108, eb109, eb110, eb111, hZ.k72, hZ.r72_16, hZ.r72_17, hZ.r72_18, hZ.r72_19, hZ.r72_20, hZ.r72_21, hZ.r72_22, hZ.r72_23, hZ.r72_24, hZ.r72_25, hZ.r72_26, hZ.r72_35, hZ.r72_36, hZ.r72_37, hZ.r72_38, hZ.r72_39, hZ.r72_40, hZ.r72_41, hZ.r72_42, hZ.r72_43, hZ.r72_44, hZ.r72_45, hZ.r72_46, hZ.r72_47, hZ.r72_48, hZ.r72_49, hZ.r72_50, hZ.r72_55, hZ.r72_56, hZ.r72_57, hZ.r72_58, hZ.r72_59, hZ.r72_60, hZ.r72_62, hZ.r72_63, hZ.r72_64, hZ.r72_65, hZ.r72_66, hZ.r72_67, iN_clamp (show k < 2147483648 by omega), iN_succ]
        rw [if_neg h] at nx
        exact nx
  exact key (riN S) 0 xU (by omega)
end MS
