/-! THE REFERENCE'S TANK: what its small methods answer -/
def sumI (f : Nat → Int32) : Nat → Int32
  | 0 => 0
  | n + 1 => sumI f n + f n
section MTANK
variable {I : aI} {G : aL} {Z : aZ}
theorem m_lower (hZ : Shp Z) {k : Nat} (hk : k ≤ 7) : call 144 [.ref 72, .int (iN k)] (I, G, Z) = some (some (.int (sumI (I 73) k)), (I, G, Z)) := by
  rw [e144, b144_0]
  have key := loop_up (fun i => run 1 144 4 [.ref 72, .int (iN k), .int (sumI (I 73) i), .int (iN i)] [] (I, G, Z)) k (fun i hi => by
    have hlt : iN i < iN k := (iN_lt (by omega) (by omega)).mpr hi
    have hb : ib (iN i) 7 := ib_iN (by omega) (by omega)
    refine Eq.trans b144_4 (Eq.trans (if_neg (fun h => h hlt)) (Eq.trans (b144_9 hZ.k72 hZ.kr72_16 (hZ.ir72_16 hb)) ?_))
    simp only [mI_t, mL_t, wI_t, wL_t, hZ.k72, hZ.r72_16, hZ.r72_17, hZ.r72_18, hZ.r72_19, hZ.r72_20, hZ.r72_21, hZ.r72_22, hZ.r72_23, hZ.r72_24, hZ.r72_25, hZ.r72_26, hZ.r72_35, hZ.r72_36, hZ.r72_37, hZ.r72_38, hZ.r72_39, hZ.r72_40, hZ.r72_41, hZ.r72_42, hZ.r72_43, hZ.r72_44, hZ.r72_45, hZ.r72_46, hZ.r72_47, hZ.r72_48, hZ.r72_49, hZ.r72_50, hZ.r72_55, hZ.r72_56, hZ.r72_57, hZ.r72_58, hZ.r72_59, hZ.r72_60, hZ.r72_62, hZ.r72_63, hZ.r72_64, hZ.r72_65, hZ.r72_66, hZ.r72_67, iN_succ, iN_clamp (show i < 2147483648 by omega), sumI]) 0 (by omega)
  exact Eq.trans key (Eq.trans b144_4 (Eq.trans (if_pos (iN_nlt (by omega))) b144_24))
theorem m_depth (hZ : Shp Z) {n : Nat} (hl : I 72 9 = iN n) (hn : n ≤ 30) : call 145 [.ref 72] (I, G, Z) = some (some (.int (sumI (I 82) n)), (I, G, Z)) := by
  rw [e145, b145_0]
  have key := loop_up (fun i => run 1 145 4 [.ref 72, .int (sumI (I 82) i), .int (iN i)] [] (I, G, Z)) n (fun i hi => by
    have hlt : iN i < iN n := (iN_lt (by omega) (by omega)).mpr hi
    have hb : ib (iN i) 30 := ib_iN (by omega) (by omega)
    refine Eq.trans (b145_4 hZ.k72) ?_
    rw [mI_t, hl]
    refine Eq.trans (if_neg (fun h => h hlt)) (Eq.trans (b145_12 hZ.k72 hZ.kr72_25 (hZ.ir72_25 hb)) ?_)
    simp only [mI_t, mL_t, wI_t, wL_t, hZ.k72, hZ.r72_16, hZ.r72_17, hZ.r72_18, hZ.r72_19, hZ.r72_20, hZ.r72_21, hZ.r72_22, hZ.r72_23, hZ.r72_24, hZ.r72_25, hZ.r72_26, hZ.r72_35, hZ.r72_36, hZ.r72_37, hZ.r72_38, hZ.r72_39, hZ.r72_40, hZ.r72_41, hZ.r72_42, hZ.r72_43, hZ.r72_44, hZ.r72_45, hZ.r72_46, hZ.r72_47, hZ.r72_48, hZ.r72_49, hZ.r72_50, hZ.r72_55, hZ.r72_56, hZ.r72_57, hZ.r72_58, hZ.r72_59, hZ.r72_60, hZ.r72_62, hZ.r72_63, hZ.r72_64, hZ.r72_65, hZ.r72_66, hZ.r72_67, iN_succ, iN_clamp (show i < 2147483648 by omega), sumI]) 0 (by omega)
  refine Eq.trans key (Eq.trans (b145_4 hZ.k72) ?_)
  rw [mI_t, hl]
  exact Eq.trans (if_pos (iN_nlt (by omega))) b145_27
/-- a load: feet above an edge, times a weight, and a push, times the radius -/
def ldB (over w push rad : Int32) : Int32 := ((if over < 0 then 0 else over) * w + push) * rad
theorem m_loadBy (hZ : Shp Z) {k : Nat} (hk : k ≤ 7) {x w q : Int32} : call 146 [.ref 72, .int (iN k), .int x, .int w, .int q] (I, G, Z) = some (some (.int (ldB (x - sumI (I 73) k) w q (I 72 3))), (I, G, Z)) := by
  refine Eq.trans e146 (Eq.trans (b146_0 hZ.k72) ?_)
  rw [m_lower hZ hk]
  refine Eq.trans b146_6 ?_
  unfold ldB
  by_cases h : x - sumI (I 73) k < 0
  · rw [if_neg (fun q => q h), if_pos h]
    exact Eq.trans b146_14 (b146_20 hZ.k72)
  · rw [if_pos h, if_neg h]
    exact Eq.trans b146_18 (b146_20 hZ.k72)
theorem m_loadOf (hZ : Shp Z) {k n : Nat} (hk : k ≤ 7) (hl : I 72 9 = iN n) (hn : n ≤ 30) : call 147 [.ref 72, .int (iN k)] (I, G, Z) = some (some (.int (ldB (sumI (I 82) n - sumI (I 73) k) (I 72 4) (I 72 10) (I 72 3))), (I, G, Z)) := by
  refine Eq.trans e147 (Eq.trans (b147_0 hZ.k72) ?_)
  rw [m_depth hZ hl hn]
  refine Eq.trans (b147_6 hZ.k72 hZ.k72) ?_
  rw [m_loadBy hZ hk]
  exact b147_17
/-- the heat of the layer in which the foot above an edge is, with the air; the air alone -/
def stl (f h : Nat → Int32) (edge air : Int32) : Nat → Nat → Int32
  | 0, _ => air
  | d + 1, i => if edge < sumI f (i + 1) then (h i + air) / 2 else stl f h edge air d (i + 1)
theorem m_steelOf (hZ : Shp Z) {k n : Nat} (hk : k ≤ 7) (hl : I 72 9 = iN n) (hn : n ≤ 30) : call 148 [.ref 72, .int (iN k)] (I, G, Z) = some (some (.int (stl (I 82) (I 83) (sumI (I 73) k) (I 72 11) n 0)), (I, G, Z)) := by
  refine Eq.trans e148 (Eq.trans (b148_0 hZ.k72) ?_)
  rw [m_lower hZ hk]
  refine Eq.trans b148_5 ?_
  have key : ∀ d i, i + d = n → run 2 148 11 [.ref 72, .int (iN k), .int (sumI (I 73) k), .int (sumI (I 82) i), .int (iN i)] [] (I, G, Z) = some (some (.int (stl (I 82) (I 83) (sumI (I 73) k) (I 72 11) d i)), (I, G, Z)) := by
    intro d
    induction d with
    | zero =>
      intro i hi
      refine Eq.trans (b148_11 hZ.k72) ?_
      rw [mI_t, hl, show i = n by omega]
      exact Eq.trans (if_pos (iN_nlt (by omega))) (b148_56 hZ.k72)
    | succ d ih =>
      intro i hi
      have hlt : iN i < iN n := (iN_lt (by omega) (by omega)).mpr (by omega)
      have hb : ib (iN i) 30 := ib_iN (by omega) (by omega)
      refine Eq.trans (b148_11 hZ.k72) ?_
      rw [mI_t, hl]
      refine Eq.trans (if_neg (fun h => h hlt)) (Eq.trans (b148_20 hZ.k72 hZ.kr72_25 (hZ.ir72_25 hb)) ?_)
      simp only [mI_t, mL_t, wI_t, wL_t, hZ.k72, hZ.r72_16, hZ.r72_17, hZ.r72_18, hZ.r72_19, hZ.r72_20, hZ.r72_21, hZ.r72_22, hZ.r72_23, hZ.r72_24, hZ.r72_25, hZ.r72_26, hZ.r72_35, hZ.r72_36, hZ.r72_37, hZ.r72_38, hZ.r72_39, hZ.r72_40, hZ.r72_41, hZ.r72_42, hZ.r72_43, hZ.r72_44, hZ.r72_45, hZ.r72_46, hZ.r72_47, hZ.r72_48, hZ.r72_49, hZ.r72_50, hZ.r72_55, hZ.r72_56, hZ.r72_57, hZ.r72_58, hZ.r72_59, hZ.r72_60, hZ.r72_62, hZ.r72_63, hZ.r72_64, hZ.r72_65, hZ.r72_66, hZ.r72_67, iN_clamp (show i < 2147483648 by omega)]
      rw [stl, sumI]
      by_cases h : sumI (I 73) k < sumI (I 82) i + I 82 i
      · rw [if_pos h]
        refine Eq.trans (if_neg (fun q => q h)) (Eq.trans (b148_35 hZ.k72 hZ.kr72_26 (hZ.ir72_26 hb)) ?_)
        simp only [mI_t, mL_t, wI_t, wL_t, hZ.k72, hZ.r72_16, hZ.r72_17, hZ.r72_18, hZ.r72_19, hZ.r72_20, hZ.r72_21, hZ.r72_22, hZ.r72_23, hZ.r72_24, hZ.r72_25, hZ.r72_26, hZ.r72_35, hZ.r72_36, hZ.r72_37, hZ.r72_38, hZ.r72_39, hZ.r72_40, hZ.r72_41, hZ.r72_42, hZ.r72_43, hZ.r72_44, hZ.r72_45, hZ.r72_46, hZ.r72_47, hZ.r72_48, hZ.r72_49, hZ.r72_50, hZ.r72_55, hZ.r72_56, hZ.r72_57, hZ.r72_58, hZ.r72_59, hZ.r72_60, hZ.r72_62, hZ.r72_63, hZ.r72_64, hZ.r72_65, hZ.r72_66, hZ.r72_67, iN_clamp (show i < 2147483648 by omega)]
      · rw [if_neg h]
        refine Eq.trans (if_pos h) (Eq.trans b148_50 ?_)
        rw [iN_succ]
        exact ih (i + 1) (by omega)
  exact key n 0 (by omega)
end MTANK
