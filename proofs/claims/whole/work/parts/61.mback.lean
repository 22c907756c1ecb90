/-! THE REFERENCE'S mark AND back -/
theorem tn0 : (0 : Int32).toNatClampNeg = 0 := rfl
theorem tn1 : (1 : Int32).toNatClampNeg = 1 := rfl
theorem tn2 : (2 : Int32).toNatClampNeg = 2 := rfl
theorem tn3 : (3 : Int32).toNatClampNeg = 3 := rfl
theorem tn4 : (4 : Int32).toNatClampNeg = 4 := rfl
theorem tn5 : (5 : Int32).toNatClampNeg = 5 := rfl
theorem tn6 : (6 : Int32).toNatClampNeg = 6 := rfl
theorem tn7 : (7 : Int32).toNatClampNeg = 7 := rfl
theorem tn8 : (8 : Int32).toNatClampNeg = 8 := rfl
theorem tn9 : (9 : Int32).toNatClampNeg = 9 := rfl
theorem tn10 : (10 : Int32).toNatClampNeg = 10 := rfl
theorem tn11 : (11 : Int32).toNatClampNeg = 11 := rfl
theorem tn12 : (12 : Int32).toNatClampNeg = 12 := rfl
theorem tn13 : (13 : Int32).toNatClampNeg = 13 := rfl
theorem tn14 : (14 : Int32).toNatClampNeg = 14 := rfl
theorem tn15 : (15 : Int32).toNatClampNeg = 15 := rfl
theorem tn16 : (16 : Int32).toNatClampNeg = 16 := rfl
theorem tn17 : (17 : Int32).toNatClampNeg = 17 := rfl
theorem tn18 : (18 : Int32).toNatClampNeg = 18 := rfl
theorem tn19 : (19 : Int32).toNatClampNeg = 19 := rfl
def sclI (I : aI) (S : aS) : aI := up2 (up2 (up2 (up2 (up2 (up2 (up2 (up2 (up2 (up2 (up2 (up2 (up2 (up2 (up2 (up2 (up2 (up2 (up2 (up2 I 110 0 (S 0 0)) 110 1 (S 0 1)) 110 2 (S 0 2)) 110 3 (S 0 3)) 110 4 (S 0 4)) 110 5 (S 0 5)) 110 6 (S 0 6)) 110 7 (S 0 7)) 110 8 (S 0 8)) 110 9 (S 0 9)) 110 10 (S 0 10)) 110 11 (S 0 11)) 110 12 (S 0 12)) 110 13 (S 0 13)) 110 14 (S 0 14)) 110 15 (S 0 15)) 110 16 (S 0 16)) 110 17 (S 0 17)) 110 18 (S 0 18)) 110 19 (S 0 19)
def bkX (Y : aI) (T : aS) : aI := up2 (up2 (up2 (up2 (up2 (up2 (up2 (up2 (up2 (up2 (up2 (up2 (up2 (up2 (up2 (up2 (up2 (up2 (up2 (up2 Y 72 2 (T 0 0)) 72 1 (T 0 1)) 72 3 (T 0 2)) 72 4 (T 0 3)) 72 5 (T 0 4)) 72 6 (T 0 5)) 72 7 (T 0 6)) 72 8 (T 0 7)) 72 9 (T 0 8)) 72 10 (T 0 9)) 72 11 (T 0 10)) 72 12 (T 0 11)) 72 13 (T 0 12)) 72 14 (T 0 13)) 72 15 (T 0 14)) 72 51 (T 0 15)) 72 52 (T 0 16)) 72 53 (T 0 17)) 72 54 (T 0 18)) 72 61 (T 0 19)
theorem scl_v {I : aI} {S : aS} {i : Nat} (h : i < 20) : sclI I S 110 i = S 0 i := by
  match i, h with
  | 0, _ => rfl
  | 1, _ => rfl
  | 2, _ => rfl
  | 3, _ => rfl
  | 4, _ => rfl
  | 5, _ => rfl
  | 6, _ => rfl
  | 7, _ => rfl
  | 8, _ => rfl
  | 9, _ => rfl
  | 10, _ => rfl
  | 11, _ => rfl
  | 12, _ => rfl
  | 13, _ => rfl
  | 14, _ => rfl
  | 15, _ => rfl
  | 16, _ => rfl
  | 17, _ => rfl
  | 18, _ => rfl
  | 19, _ => rfl
  | m + 20, h => exact absurd h (by omega)
theorem scl_o {I : aI} {S : aS} {a : Nat} (h : a ≠ 110) : sclI I S a = I a := by
  funext i
  unfold sclI
  simp only [up2_a h]
theorem bkX_o {Y : aI} {T : aS} {a : Nat} (h : a ≠ 72) : bkX Y T a = Y a := by
  funext i
  unfold bkX
  simp only [up2_a h]
theorem bkX_v {Y : aI} {T : aS} {k j : Nat} (h : msc k = some j) : bkX Y T 72 k = T 0 j ∧ j < 20 := by
  unfold msc at h
  split at h <;> cases h <;> exact ⟨rfl, by decide⟩
theorem bkX_n {Y : aI} {T : aS} {k : Nat} (h : msc k = none) : bkX Y T 72 k = Y 72 k := by
  have hn : ∀ f j, msc f = some j → k ≠ f := fun f j q z => by rw [z, q] at h; cases h
  unfold bkX
  rw [up2_k (hn 61 19 rfl), up2_k (hn 54 18 rfl), up2_k (hn 53 17 rfl), up2_k (hn 52 16 rfl), up2_k (hn 51 15 rfl), up2_k (hn 15 14 rfl), up2_k (hn 14 13 rfl), up2_k (hn 13 12 rfl), up2_k (hn 12 11 rfl), up2_k (hn 11 10 rfl), up2_k (hn 10 9 rfl), up2_k (hn 9 8 rfl), up2_k (hn 8 7 rfl), up2_k (hn 7 6 rfl), up2_k (hn 6 5 rfl), up2_k (hn 5 4 rfl), up2_k (hn 4 3 rfl), up2_k (hn 3 2 rfl), up2_k (hn 1 1 rfl), up2_k (hn 2 0 rfl)]
def Wf7 (S : aS) : Prop := (S 0 1 = 0 ∨ S 0 1 = 1) ∧ (S 0 15 = 0 ∨ S 0 15 = 1)
section MMK
variable {I : aI} {G : aL} {Z : aZ} {S : aS}
theorem s_mark_bad {k : Int32} (h : inB k 0 3 = false) : call 230 [.ref 72, .int k] (emb I S, G, Z) = some (some (.int (-1)), (emb I S, G, Z)) := by
  refine Eq.trans e230 (Eq.trans b230_0 ?_)
  rw [m_in, l64_0, l64_3, h]
  exact Eq.trans b230_9 (Eq.trans (if_neg (by decide)) b230_12)
theorem s_mark (hZ : Shp Z) (h7 : Wf7 S) {n : Nat} (hn : n < 4) : ∃ X : aI, call 230 [.ref 72, .int (iN n)] (emb I S, G, Z) = some (some (.int (S 0 0)), (X, G, Z)) ∧ emb X S = X ∧ (∀ a, a ≠ 72 → a ≠ 109 → a ≠ 110 → a ≠ 111 → X a = emb I S a) ∧ (∀ j, j ≠ 68 → j ≠ 69 → X 72 j = emb I S 72 j) ∧ (∀ j, j < 1660 * n ∨ 1660 * n + 1660 ≤ j → X 109 j = I 109 j) ∧ X 111 n = 1 ∧ (∀ j, j ≠ n → X 111 j = I 111 j) ∧ MkM X n S := by
  have hb4 : ib (iN n) 4 := ib_iN (by omega) hn
  have hc : (iN n).toNatClampNeg = n := iN_clamp (by omega)
  have e3 : inB (iN n) 0 3 = true := inB_iff.mpr (by rw [iN_int (by omega)]; omega)
  have hrun : call 230 [.ref 72, .int (iN n)] (emb I S, G, Z) = (call 229 [.ref 72, .int (iN n)] (emb (up2 (up2 (sclI I S) 111 n 1) 72 69 0) S, G, Z)).bind (fun r => run 3 230 261 [.ref 72, .int (iN n)] (r.1.toList ++ []) r.2) := by
    refine Eq.trans e230 (Eq.trans b230_0 ?_)
    rw [m_in, l64_0, l64_3, e3]
    refine Eq.trans b230_9 (Eq.trans (if_pos (by decide)) (Eq.trans (b230_14 hZ.k72 hZ.kr72_66 (hZ.ir72_66 (by decide))) ?_))
    simp only [mI_t, mL_t, wI_t, wL_t, es2, es1, es3, es4, es5, es6, es7, es8, es9, es10, es11, es12, es13, es14, es15, es51, es52, es53, es54, es61, es0, es16, es17, es18, es19, es20, es21, es22, es23, es24, es25, es26, es27, es28, es29, es30, es31, es32, es33, es34, es35, es36, es37, es38, es39, es40, es41, es42, es43, es44, es45, es46, es47, es48, es49, es50, es55, es56, es57, es58, es59, es60, es62, es63, es64, es65, es66, es67, es68, es69, ea73, ea74, ea75, ea76, ea77, ea78, ea79, ea80, ea81, ea82, ea83, ea84, ea85, ea86, ea87, ea88, ea89, ea90, ea91, ea92, ea93, ea94, ea95, ea96, ea97, ea98, ea99, ea100, ea101, ea102, ea103, ea104, ea105, ea106, ea107, ea108, ea109, ea110, ea111, ew2, ew1, ew3, ew4, ew5, ew6, ew7, ew8, ew9, ew10, ew11, ew12, ew13, ew14, ew15, ew51, ew52, ew53, ew54, ew61, ew0, ew16, ew17, ew18, ew19, ew20, ew21, ew22, ew23, ew24, ew25, ew26, ew27, ew28, ew29, ew30, ew31, ew32, ew33, ew34, ew35, ew36, ew37, ew38, ew39, ew40, ew41, ew42, ew43, ew44, ew45, ew46, ew47, ew48, ew49, ew50, ew55, ew56, ew57, ew58, ew59, ew60, ew62, ew63, ew64, ew65, ew66, ew67, ew68, ew69, eb73, eb74, eb75, eb76, eb77, eb78, eb79, eb80, eb81, eb82, eb83, eb84, eb85, eb86, eb87, eb88, eb89, eb90, eb91, eb92, eb93, eb94, eb95, eb96, eb97, eb98, eb99, eb100, eb101, eb102, eb103, eb104, eb105, eb106, eb107, eb108, eb109, eb110, eb111, hZ.k72, hZ.r72_16, hZ.r72_17, hZ.r72_18, hZ.r72_19, hZ.r72_20, hZ.r72_21, hZ.r72_22, hZ.r72_23, hZ.r72_24, hZ.r72_25, hZ.r72_26, hZ.r72_35, hZ.r72_36, hZ.r72_37, hZ.r72_38, hZ.r72_39, hZ.r72_40, hZ.r72_41, hZ.r72_42, hZ.r72_43, hZ.r72_44, hZ.r72_45, hZ.r72_46, hZ.r72_47, hZ.r72_48, hZ.r72_49, hZ.r72_50, hZ.r72_55, hZ.r72_56, hZ.r72_57, hZ.r72_58, hZ.r72_59, hZ.r72_60, hZ.r72_62, hZ.r72_63, hZ.r72_64, hZ.r72_65, hZ.r72_66, hZ.r72_67, tn0, tn1, tn2, tn3, tn4, tn5, tn6, tn7, tn8, tn9, tn10, tn11, tn12, tn13, tn14, tn15, tn16, tn17, tn18, tn19]
    have s1 : (if S 0 1 = 0 then run 3 230 40 [.ref 72, .int (iN n)] [.int 1, .ref 110] (emb (up2 I 110 0 (S 0 0)) S, G, Z) else run 3 230 36 [.ref 72, .int (iN n)] [.int 1, .ref 110] (emb (up2 I 110 0 (S 0 0)) S, G, Z)) = run 3 230 41 [.ref 72, .int (iN n)] [.int (S 0 1), .int 1, .ref 110] (emb (up2 I 110 0 (S 0 0)) S, G, Z) := by
      rcases h7.1 with h | h
      · rw [h]
        exact Eq.trans (if_pos rfl) b230_40
      · rw [h]
        exact Eq.trans (if_neg (by decide)) b230_36
    refine Eq.trans s1 (Eq.trans (b230_41 hZ.k110 (hZ.i110 (by decide)) hZ.k72 hZ.kr72_66 (hZ.ir72_66 (by decide)) (hZ.ir72_66 (by decide))) ?_)
    simp only [mI_t, mL_t, wI_t, wL_t, es2, es1, es3, es4, es5, es6, es7, es8, es9, es10, es11, es12, es13, es14, es15, es51, es52, es53, es54, es61, es0, es16, es17, es18, es19, es20, es21, es22, es23, es24, es25, es26, es27, es28, es29, es30, es31, es32, es33, es34, es35, es36, es37, es38, es39, es40, es41, es42, es43, es44, es45, es46, es47, es48, es49, es50, es55, es56, es57, es58, es59, es60, es62, es63, es64, es65, es66, es67, es68, es69, ea73, ea74, ea75, ea76, ea77, ea78, ea79, ea80, ea81, ea82, ea83, ea84, ea85, ea86, ea87, ea88, ea89, ea90, ea91, ea92, ea93, ea94, ea95, ea96, ea97, ea98, ea99, ea100, ea101, ea102, ea103, ea104, ea105, ea106, ea107, ea108, ea109, ea110, ea111, ew2, ew1, ew3, ew4, ew5, ew6, ew7, ew8, ew9, ew10, ew11, ew12, ew13, ew14, ew15, ew51, ew52, ew53, ew54, ew61, ew0, ew16, ew17, ew18, ew19, ew20, ew21, ew22, ew23, ew24, ew25, ew26, ew27, ew28, ew29, ew30, ew31, ew32, ew33, ew34, ew35, ew36, ew37, ew38, ew39, ew40, ew41, ew42, ew43, ew44, ew45, ew46, ew47, ew48, ew49, ew50, ew55, ew56, ew57, ew58, ew59, ew60, ew62, ew63, ew64, ew65, ew66, ew67, ew68, ew69, eb73, eb74, eb75, eb76, eb77, eb78, eb79, eb80, eb81, eb82, eb83, eb84, eb85, eb86, eb87, eb88, eb89, eb90, eb91, eb92, eb93, eb94, eb95, eb96, eb97, eb98, eb99, eb100, eb101, eb102, eb103, eb104, eb105, eb106, eb107, eb108, eb109, eb110, eb111, hZ.k72, hZ.r72_16, hZ.r72_17, hZ.r72_18, hZ.r72_19, hZ.r72_20, hZ.r72_21, hZ.r72_22, hZ.r72_23, hZ.r72_24, hZ.r72_25, hZ.r72_26, hZ.r72_35, hZ.r72_36, hZ.r72_37, hZ.r72_38, hZ.r72_39, hZ.r72_40, hZ.r72_41, hZ.r72_42, hZ.r72_43, hZ.r72_44, hZ.r72_45, hZ.r72_46, hZ.r72_47, hZ.r72_48, hZ.r72_49, hZ.r72_50, hZ.r72_55, hZ.r72_56, hZ.r72_57, hZ.r72_58, hZ.r72_59, hZ.r72_60, hZ.r72_62, hZ.r72_63, hZ.r72_64, hZ.r72_65, hZ.r72_66, hZ.r72_67, tn0, tn1, tn2, tn3, tn4, tn5, tn6, tn7, tn8, tn9, tn10, tn11, tn12, tn13, tn14, tn15, tn16, tn17, tn18, tn19]
    refine Eq.trans (b230_62 hZ.k72 hZ.kr72_66 (hZ.ir72_66 (by decide)) (hZ.ir72_66 (by decide)) (hZ.ir72_66 (by decide))) ?_
    simp only [mI_t, mL_t, wI_t, wL_t, es2, es1, es3, es4, es5, es6, es7, es8, es9, es10, es11, es12, es13, es14, es15, es51, es52, es53, es54, es61, es0, es16, es17, es18, es19, es20, es21, es22, es23, es24, es25, es26, es27, es28, es29, es30, es31, es32, es33, es34, es35, es36, es37, es38, es39, es40, es41, es42, es43, es44, es45, es46, es47, es48, es49, es50, es55, es56, es57, es58, es59, es60, es62, es63, es64, es65, es66, es67, es68, es69, ea73, ea74, ea75, ea76, ea77, ea78, ea79, ea80, ea81, ea82, ea83, ea84, ea85, ea86, ea87, ea88, ea89, ea90, ea91, ea92, ea93, ea94, ea95, ea96, ea97, ea98, ea99, ea100, ea101, ea102, ea103, ea104, ea105, ea106, ea107, ea108, ea109, ea110, ea111, ew2, ew1, ew3, ew4, ew5, ew6, ew7, ew8, ew9, ew10, ew11, ew12, ew13, ew14, ew15, ew51, ew52, ew53, ew54, ew61, ew0, ew16, ew17, ew18, ew19, ew20, ew21, ew22, ew23, ew24, ew25, ew26, ew27, ew28, ew29, ew30, ew31, ew32, ew33, ew34, ew35, ew36, ew37, ew38, ew39, ew40, ew41, ew42, ew43, ew44, ew45, ew46, ew47, ew48, ew49, ew50, ew55, ew56, ew57, ew58, ew59, ew60, ew62, ew63, ew64, ew65, ew66, ew67, ew68, ew69, eb73, eb74, eb75, eb76, eb77, eb78, eb79, eb80, eb81, eb82, eb83, eb84, eb85, eb86, eb87, eb88, eb89, eb90, eb91, eb92, eb93, eb94, eb95, eb96, eb97, eb98, eb99, eb100, eb101, eb102, eb103, eb104, eb105, eb106, eb107, eb108, eb109, eb110, eb111, hZ.k72, hZ.r72_16, hZ.r72_17, hZ.r72_18, hZ.r72_19, hZ.r72_20, hZ.r72_21, hZ.r72_22, hZ.r72_23, hZ.r72_24, hZ.r72_25, hZ.r72_26, hZ.r72_35, hZ.r72_36, hZ.r72_37, hZ.r72_38, hZ.r72_39, hZ.r72_40, hZ.r72_41, hZ.r72_42, hZ.r72_43, hZ.r72_44, hZ.r72_45, hZ.r72_46, hZ.r72_47, hZ.r72_48, hZ.r72_49, hZ.r72_50, hZ.r72_55, hZ.r72_56, hZ.r72_57, hZ.r72_58, hZ.r72_59, hZ.r72_60, hZ.r72_62, hZ.r72_63, hZ.r72_64, hZ.r72_65, hZ.r72_66, hZ.r72_67, tn0, tn1, tn2, tn3, tn4, tn5, tn6, tn7, tn8, tn9, tn10, tn11, tn12, tn13, tn14, tn15, tn16, tn17, tn18, tn19]
    refine Eq.trans (b230_93 hZ.k72 hZ.kr72_66 (hZ.ir72_66 (by decide)) (hZ.ir72_66 (by decide)) (hZ.ir72_66 (by decide))) ?_
    simp only [mI_t, mL_t, wI_t, wL_t, es2, es1, es3, es4, es5, es6, es7, es8, es9, es10, es11, es12, es13, es14, es15, es51, es52, es53, es54, es61, es0, es16, es17, es18, es19, es20, es21, es22, es23, es24, es25, es26, es27, es28, es29, es30, es31, es32, es33, es34, es35, es36, es37, es38, es39, es40, es41, es42, es43, es44, es45, es46, es47, es48, es49, es50, es55, es56, es57, es58, es59, es60, es62, es63, es64, es65, es66, es67, es68, es69, ea73, ea74, ea75, ea76, ea77, ea78, ea79, ea80, ea81, ea82, ea83, ea84, ea85, ea86, ea87, ea88, ea89, ea90, ea91, ea92, ea93, ea94, ea95, ea96, ea97, ea98, ea99, ea100, ea101, ea102, ea103, ea104, ea105, ea106, ea107, ea108, ea109, ea110, ea111, ew2, ew1, ew3, ew4, ew5, ew6, ew7, ew8, ew9, ew10, ew11, ew12, ew13, ew14, ew15, ew51, ew52, ew53, ew54, ew61, ew0, ew16, ew17, ew18, ew19, ew20, ew21, ew22, ew23, ew24, ew25, ew26, ew27, ew28, ew29, ew30, ew31, ew32, ew33, ew34, ew35, ew36, ew37, ew38, ew39, ew40, ew41, ew42, ew43, ew44, ew45, ew46, ew47, ew48, ew49, ew50, ew55, ew56, ew57, ew58, ew59, ew60, ew62, ew63, ew64, ew65, ew66, ew67, ew68, ew69, eb73, eb74, eb75, eb76, eb77, eb78, eb79, eb80, eb81, eb82, eb83, eb84, eb85, eb86, eb87, eb88, eb89, eb90, eb91, eb92, eb93, eb94, eb95, eb96, eb97, eb98, eb99, eb100, eb101, eb102, eb103, eb104, eb105, eb106, eb107, eb108, eb109, eb110, eb111, hZ.k72, hZ.r72_16, hZ.r72_17, hZ.r72_18, hZ.r72_19, hZ.r72_20, hZ.r72_21, hZ.r72_22, hZ.r72_23, hZ.r72_24, hZ.r72_25, hZ.r72_26, hZ.r72_35, hZ.r72_36, hZ.r72_37, hZ.r72_38, hZ.r72_39, hZ.r72_40, hZ.r72_41, hZ.r72_42, hZ.r72_43, hZ.r72_44, hZ.r72_45, hZ.r72_46, hZ.r72_47, hZ.r72_48, hZ.r72_49, hZ.r72_50, hZ.r72_55, hZ.r72_56, hZ.r72_57, hZ.r72_58, hZ.r72_59, hZ.r72_60, hZ.r72_62, hZ.r72_63, hZ.r72_64, hZ.r72_65, hZ.r72_66, hZ.r72_67, tn0, tn1, tn2, tn3, tn4, tn5, tn6, tn7, tn8, tn9, tn10, tn11, tn12, tn13, tn14, tn15, tn16, tn17, tn18, tn19]
    refine Eq.trans (b230_126 hZ.k72 hZ.kr72_66 (hZ.ir72_66 (by decide)) (hZ.ir72_66 (by decide)) (hZ.ir72_66 (by decide))) ?_
    simp only [mI_t, mL_t, wI_t, wL_t, es2, es1, es3, es4, es5, es6, es7, es8, es9, es10, es11, es12, es13, es14, es15, es51, es52, es53, es54, es61, es0, es16, es17, es18, es19, es20, es21, es22, es23, es24, es25, es26, es27, es28, es29, es30, es31, es32, es33, es34, es35, es36, es37, es38, es39, es40, es41, es42, es43, es44, es45, es46, es47, es48, es49, es50, es55, es56, es57, es58, es59, es60, es62, es63, es64, es65, es66, es67, es68, es69, ea73, ea74, ea75, ea76, ea77, ea78, ea79, ea80, ea81, ea82, ea83, ea84, ea85, ea86, ea87, ea88, ea89, ea90, ea91, ea92, ea93, ea94, ea95, ea96, ea97, ea98, ea99, ea100, ea101, ea102, ea103, ea104, ea105, ea106, ea107, ea108, ea109, ea110, ea111, ew2, ew1, ew3, ew4, ew5, ew6, ew7, ew8, ew9, ew10, ew11, ew12, ew13, ew14, ew15, ew51, ew52, ew53, ew54, ew61, ew0, ew16, ew17, ew18, ew19, ew20, ew21, ew22, ew23, ew24, ew25, ew26, ew27, ew28, ew29, ew30, ew31, ew32, ew33, ew34, ew35, ew36, ew37, ew38, ew39, ew40, ew41, ew42, ew43, ew44, ew45, ew46, ew47, ew48, ew49, ew50, ew55, ew56, ew57, ew58, ew59, ew60, ew62, ew63, ew64, ew65, ew66, ew67, ew68, ew69, eb73, eb74, eb75, eb76, eb77, eb78, eb79, eb80, eb81, eb82, eb83, eb84, eb85, eb86, eb87, eb88, eb89, eb90, eb91, eb92, eb93, eb94, eb95, eb96, eb97, eb98, eb99, eb100, eb101, eb102, eb103, eb104, eb105, eb106, eb107, eb108, eb109, eb110, eb111, hZ.k72, hZ.r72_16, hZ.r72_17, hZ.r72_18, hZ.r72_19, hZ.r72_20, hZ.r72_21, hZ.r72_22, hZ.r72_23, hZ.r72_24, hZ.r72_25, hZ.r72_26, hZ.r72_35, hZ.r72_36, hZ.r72_37, hZ.r72_38, hZ.r72_39, hZ.r72_40, hZ.r72_41, hZ.r72_42, hZ.r72_43, hZ.r72_44, hZ.r72_45, hZ.r72_46, hZ.r72_47, hZ.r72_48, hZ.r72_49, hZ.r72_50, hZ.r72_55, hZ.r72_56, hZ.r72_57, hZ.r72_58, hZ.r72_59, hZ.r72_60, hZ.r72_62, hZ.r72_63, hZ.r72_64, hZ.r72_65, hZ.r72_66, hZ.r72_67, tn0, tn1, tn2, tn3, tn4, tn5, tn6, tn7, tn8, tn9, tn10, tn11, tn12, tn13, tn14, tn15, tn16, tn17, tn18, tn19]
    refine Eq.trans (b230_159 hZ.k72 hZ.kr72_66 (hZ.ir72_66 (by decide)) (hZ.ir72_66 (by decide))) ?_
    simp only [mI_t, mL_t, wI_t, wL_t, es2, es1, es3, es4, es5, es6, es7, es8, es9, es10, es11, es12, es13, es14, es15, es51, es52, es53, es54, es61, es0, es16, es17, es18, es19, es20, es21, es22, es23, es24, es25, es26, es27, es28, es29, es30, es31, es32, es33, es34, es35, es36, es37, es38, es39, es40, es41, es42, es43, es44, es45, es46, es47, es48, es49, es50, es55, es56, es57, es58, es59, es60, es62, es63, es64, es65, es66, es67, es68, es69, ea73, ea74, ea75, ea76, ea77, ea78, ea79, ea80, ea81, ea82, ea83, ea84, ea85, ea86, ea87, ea88, ea89, ea90, ea91, ea92, ea93, ea94, ea95, ea96, ea97, ea98, ea99, ea100, ea101, ea102, ea103, ea104, ea105, ea106, ea107, ea108, ea109, ea110, ea111, ew2, ew1, ew3, ew4, ew5, ew6, ew7, ew8, ew9, ew10, ew11, ew12, ew13, ew14, ew15, ew51, ew52, ew53, ew54, ew61, ew0, ew16, ew17, ew18, ew19, ew20, ew21, ew22, ew23, ew24, ew25, ew26, ew27, ew28, ew29, ew30, ew31, ew32, ew33, ew34, ew35, ew36, ew37, ew38, ew39, ew40, ew41, ew42, ew43, ew44, ew45, ew46, ew47, ew48, ew49, ew50, ew55, ew56, ew57, ew58, ew59, ew60, ew62, ew63, ew64, ew65, ew66, ew67, ew68, ew69, eb73, eb74, eb75, eb76, eb77, eb78, eb79, eb80, eb81, eb82, eb83, eb84, eb85, eb86, eb87, eb88, eb89, eb90, eb91, eb92, eb93, eb94, eb95, eb96, eb97, eb98, eb99, eb100, eb101, eb102, eb103, eb104, eb105, eb106, eb107, eb108, eb109, eb110, eb111, hZ.k72, hZ.r72_16, hZ.r72_17, hZ.r72_18, hZ.r72_19, hZ.r72_20, hZ.r72_21, hZ.r72_22, hZ.r72_23, hZ.r72_24, hZ.r72_25, hZ.r72_26, hZ.r72_35, hZ.r72_36, hZ.r72_37, hZ.r72_38, hZ.r72_39, hZ.r72_40, hZ.r72_41, hZ.r72_42, hZ.r72_43, hZ.r72_44, hZ.r72_45, hZ.r72_46, hZ.r72_47, hZ.r72_48, hZ.r72_49, hZ.r72_50, hZ.r72_55, hZ.r72_56, hZ.r72_57, hZ.r72_58, hZ.r72_59, hZ.r72_60, hZ.r72_62, hZ.r72_63, hZ.r72_64, hZ.r72_65, hZ.r72_66, hZ.r72_67, tn0, tn1, tn2, tn3, tn4, tn5, tn6, tn7, tn8, tn9, tn10, tn11, tn12, tn13, tn14, tn15, tn16, tn17, tn18, tn19]
    have s2 : ∀ K : aI, (if S 0 15 = 0 then run 3 230 198 [.ref 72, .int (iN n)] [.int 15, .ref 110] (emb K S, G, Z) else run 3 230 194 [.ref 72, .int (iN n)] [.int 15, .ref 110] (emb K S, G, Z)) = run 3 230 199 [.ref 72, .int (iN n)] [.int (S 0 15), .int 15, .ref 110] (emb K S, G, Z) := by
      intro K
      rcases h7.2 with h | h
      · rw [h]
        exact Eq.trans (if_pos rfl) b230_198
      · rw [h]
        exact Eq.trans (if_neg (by decide)) b230_194
    refine Eq.trans (s2 _) (Eq.trans (b230_199 hZ.k110 (hZ.i110 (by decide)) hZ.k72 hZ.kr72_66 (hZ.ir72_66 (by decide)) (hZ.ir72_66 (by decide))) ?_)
    simp only [mI_t, mL_t, wI_t, wL_t, es2, es1, es3, es4, es5, es6, es7, es8, es9, es10, es11, es12, es13, es14, es15, es51, es52, es53, es54, es61, es0, es16, es17, es18, es19, es20, es21, es22, es23, es24, es25, es26, es27, es28, es29, es30, es31, es32, es33, es34, es35, es36, es37, es38, es39, es40, es41, es42, es43, es44, es45, es46, es47, es48, es49, es50, es55, es56, es57, es58, es59, es60, es62, es63, es64, es65, es66, es67, es68, es69, ea73, ea74, ea75, ea76, ea77, ea78, ea79, ea80, ea81, ea82, ea83, ea84, ea85, ea86, ea87, ea88, ea89, ea90, ea91, ea92, ea93, ea94, ea95, ea96, ea97, ea98, ea99, ea100, ea101, ea102, ea103, ea104, ea105, ea106, ea107, ea108, ea109, ea110, ea111, ew2, ew1, ew3, ew4, ew5, ew6, ew7, ew8, ew9, ew10, ew11, ew12, ew13, ew14, ew15, ew51, ew52, ew53, ew54, ew61, ew0, ew16, ew17, ew18, ew19, ew20, ew21, ew22, ew23, ew24, ew25, ew26, ew27, ew28, ew29, ew30, ew31, ew32, ew33, ew34, ew35, ew36, ew37, ew38, ew39, ew40, ew41, ew42, ew43, ew44, ew45, ew46, ew47, ew48, ew49, ew50, ew55, ew56, ew57, ew58, ew59, ew60, ew62, ew63, ew64, ew65, ew66, ew67, ew68, ew69, eb73, eb74, eb75, eb76, eb77, eb78, eb79, eb80, eb81, eb82, eb83, eb84, eb85, eb86, eb87, eb88, eb89, eb90, eb91, eb92, eb93, eb94, eb95, eb96, eb97, eb98, eb99, eb100, eb101, eb102, eb103, eb104, eb105, eb106, eb107, eb108, eb109, eb110, eb111, hZ.k72, hZ.r72_16, hZ.r72_17, hZ.r72_18, hZ.r72_19, hZ.r72_20, hZ.r72_21, hZ.r72_22, hZ.r72_23, hZ.r72_24, hZ.r72_25, hZ.r72_26, hZ.r72_35, hZ.r72_36, hZ.r72_37, hZ.r72_38, hZ.r72_39, hZ.r72_40, hZ.r72_41, hZ.r72_42, hZ.r72_43, hZ.r72_44, hZ.r72_45, hZ.r72_46, hZ.r72_47, hZ.r72_48, hZ.r72_49, hZ.r72_50, hZ.r72_55, hZ.r72_56, hZ.r72_57, hZ.r72_58, hZ.r72_59, hZ.r72_60, hZ.r72_62, hZ.r72_63, hZ.r72_64, hZ.r72_65, hZ.r72_66, hZ.r72_67, tn0, tn1, tn2, tn3, tn4, tn5, tn6, tn7, tn8, tn9, tn10, tn11, tn12, tn13, tn14, tn15, tn16, tn17, tn18, tn19]
    refine Eq.trans (b230_222 hZ.k72 hZ.kr72_66 (hZ.ir72_66 (by decide)) (hZ.ir72_66 (by decide)) hZ.kr72_67 (hZ.ir72_67 hb4)) ?_
    simp only [mI_t, mL_t, wI_t, wL_t, es2, es1, es3, es4, es5, es6, es7, es8, es9, es10, es11, es12, es13, es14, es15, es51, es52, es53, es54, es61, es0, es16, es17, es18, es19, es20, es21, es22, es23, es24, es25, es26, es27, es28, es29, es30, es31, es32, es33, es34, es35, es36, es37, es38, es39, es40, es41, es42, es43, es44, es45, es46, es47, es48, es49, es50, es55, es56, es57, es58, es59, es60, es62, es63, es64, es65, es66, es67, es68, es69, ea73, ea74, ea75, ea76, ea77, ea78, ea79, ea80, ea81, ea82, ea83, ea84, ea85, ea86, ea87, ea88, ea89, ea90, ea91, ea92, ea93, ea94, ea95, ea96, ea97, ea98, ea99, ea100, ea101, ea102, ea103, ea104, ea105, ea106, ea107, ea108, ea109, ea110, ea111, ew2, ew1, ew3, ew4, ew5, ew6, ew7, ew8, ew9, ew10, ew11, ew12, ew13, ew14, ew15, ew51, ew52, ew53, ew54, ew61, ew0, ew16, ew17, ew18, ew19, ew20, ew21, ew22, ew23, ew24, ew25, ew26, ew27, ew28, ew29, ew30, ew31, ew32, ew33, ew34, ew35, ew36, ew37, ew38, ew39, ew40, ew41, ew42, ew43, ew44, ew45, ew46, ew47, ew48, ew49, ew50, ew55, ew56, ew57, ew58, ew59, ew60, ew62, ew63, ew64, ew65, ew66, ew67, ew68, ew69, eb73, eb74, eb75, eb76, eb77, eb78, eb79, eb80, eb81, eb82, eb83, eb84, eb85, eb86, eb87, eb88, eb89, eb90, eb91, eb92, eb93, eb94, eb95, eb96, eb97, eb98, eb99, eb100, eb101, eb102, eb103, eb104, eb105, eb106, eb107, eb108, eb109, eb110, eb111, hZ.k72, hZ.r72_16, hZ.r72_17, hZ.r72_18, hZ.r72_19, hZ.r72_20, hZ.r72_21, hZ.r72_22, hZ.r72_23, hZ.r72_24, hZ.r72_25, hZ.r72_26, hZ.r72_35, hZ.r72_36, hZ.r72_37, hZ.r72_38, hZ.r72_39, hZ.r72_40, hZ.r72_41, hZ.r72_42, hZ.r72_43, hZ.r72_44, hZ.r72_45, hZ.r72_46, hZ.r72_47, hZ.r72_48, hZ.r72_49, hZ.r72_50, hZ.r72_55, hZ.r72_56, hZ.r72_57, hZ.r72_58, hZ.r72_59, hZ.r72_60, hZ.r72_62, hZ.r72_63, hZ.r72_64, hZ.r72_65, hZ.r72_66, hZ.r72_67, tn0, tn1, tn2, tn3, tn4, tn5, tn6, tn7, tn8, tn9, tn10, tn11, tn12, tn13, tn14, tn15, tn16, tn17, tn18, tn19, hc]
    refine Eq.trans (b230_251 hZ.k72) ?_
    simp only [mI_t, mL_t, wI_t, wL_t, es2, es1, es3, es4, es5, es6, es7, es8, es9, es10, es11, es12, es13, es14, es15, es51, es52, es53, es54, es61, es0, es16, es17, es18, es19, es20, es21, es22, es23, es24, es25, es26, es27, es28, es29, es30, es31, es32, es33, es34, es35, es36, es37, es38, es39, es40, es41, es42, es43, es44, es45, es46, es47, es48, es49, es50, es55, es56, es57, es58, es59, es60, es62, es63, es64, es65, es66, es67, es68, es69, ea73, ea74, ea75, ea76, ea77, ea78, ea79, ea80, ea81, ea82, ea83, ea84, ea85, ea86, ea87, ea88, ea89, ea90, ea91, ea92, ea93, ea94, ea95, ea96, ea97, ea98, ea99, ea100, ea101, ea102, ea103, ea104, ea105, ea106, ea107, ea108, ea109, ea110, ea111, ew2, ew1, ew3, ew4, ew5, ew6, ew7, ew8, ew9, ew10, ew11, ew12, ew13, ew14, ew15, ew51, ew52, ew53, ew54, ew61, ew0, ew16, ew17, ew18, ew19, ew20, ew21, ew22, ew23, ew24, ew25, ew26, ew27, ew28, ew29, ew30, ew31, ew32, ew33, ew34, ew35, ew36, ew37, ew38, ew39, ew40, ew41, ew42, ew43, ew44, ew45, ew46, ew47, ew48, ew49, ew50, ew55, ew56, ew57, ew58, ew59, ew60, ew62, ew63, ew64, ew65, ew66, ew67, ew68, ew69, eb73, eb74, eb75, eb76, eb77, eb78, eb79, eb80, eb81, eb82, eb83, eb84, eb85, eb86, eb87, eb88, eb89, eb90, eb91, eb92, eb93, eb94, eb95, eb96, eb97, eb98, eb99, eb100, eb101, eb102, eb103, eb104, eb105, eb106, eb107, eb108, eb109, eb110, eb111, hZ.k72, hZ.r72_16, hZ.r72_17, hZ.r72_18, hZ.r72_19, hZ.r72_20, hZ.r72_21, hZ.r72_22, hZ.r72_23, hZ.r72_24, hZ.r72_25, hZ.r72_26, hZ.r72_35, hZ.r72_36, hZ.r72_37, hZ.r72_38, hZ.r72_39, hZ.r72_40, hZ.r72_41, hZ.r72_42, hZ.r72_43, hZ.r72_44, hZ.r72_45, hZ.r72_46, hZ.r72_47, hZ.r72_48, hZ.r72_49, hZ.r72_50, hZ.r72_55, hZ.r72_56, hZ.r72_57, hZ.r72_58, hZ.r72_59, hZ.r72_60, hZ.r72_62, hZ.r72_63, hZ.r72_64, hZ.r72_65, hZ.r72_66, hZ.r72_67]
    rfl
  have e69 : emb (up2 (up2 (sclI I S) 111 n 1) 72 69 0) S 72 69 = 0 := by rw [es69, up2_s]
  have hX := m_carriesF (G := G) hZ hn e69
  generalize hXd : fF (up2 (emb (up2 (up2 (sclI I S) 111 n 1) 72 69 0) S) 72 68 (iN (1660 * n))) (1660 * n) crs = X at hX
  have xo : ∀ b j, ¬ (b = 72 ∧ j = 68) → ¬ (b = 109 ∧ 1660 * n ≤ j ∧ j < 1660 * n + 1660) → X b j = emb (up2 (up2 (sclI I S) 111 n 1) 72 69 0) S b j := by
    intro b j h1 h2
    rw [← hXd, fF_o _ _ _ _ _ h1 (by rw [crs_t]; omega)]
    rw [up2_e]
    by_cases hb : b = 72
    · rw [if_pos hb, if_neg (fun z => h1 ⟨hb, z⟩)]
    · rw [if_neg hb]
  have f72 : ∀ j, j ≠ 68 → j ≠ 69 → X 72 j = emb I S 72 j := by
    intro j h1 h2
    rw [xo 72 j (fun z => h1 z.2) (by omega)]
    unfold emb
    rw [if_pos rfl, if_pos rfl, up2_k h2, up2_a (by decide), scl_o (by decide)]
  have fo : ∀ a, a ≠ 72 → a ≠ 109 → a ≠ 110 → a ≠ 111 → X a = emb I S a := by
    intro a h1 h2 h3 h4
    funext j
    rw [xo a j (fun z => h1 z.1) (fun z => h2 z.1)]
    unfold emb
    rw [if_neg h1, if_neg h1, up2_a h1, up2_a h4, scl_o h3]
  refine ⟨X, ?_, ?_, fo, f72, ?_, ?_, ?_, ?_⟩
  · rw [hrun, hX]
    refine Eq.trans (b230_261 hZ.k72) ?_
    rw [mI_t, f72 2 (by decide) (by decide), es2]
  · refine emb_self (fun k j h => ?_) (fun a c h => ?_)
    · have hk : k ≠ 68 ∧ k ≠ 69 := ⟨(fun z => by rw [z] at h; cases h), (fun z => by rw [z] at h; cases h)⟩
      rw [f72 k hk.1 hk.2]
      unfold emb
      rw [if_pos rfl, h]
    · have hp := mar_pos h
      have n9 : a ≠ 109 := fun z => by rw [z] at h; cases h
      have n10 : a ≠ 110 := fun z => by rw [z] at h; cases h
      have n11 : a ≠ 111 := fun z => by rw [z] at h; cases h
      rw [fo a hp.2 n9 n10 n11]
      funext i
      unfold emb
      rw [if_neg hp.2, h]
  · intro j hj
    rw [xo 109 j (by omega) (by omega), ea109, up2_a (by decide), up2_a (by decide), scl_o (by decide)]
  · rw [xo 111 n (by omega) (by omega), ea111, up2_a (by decide), up2_s]
  · intro j hj
    rw [xo 111 j (by omega) (by omega), ea111, up2_a (by decide), up2_k hj, scl_o (by decide)]
  · intro c i hi
    have hl := lkc hi
    rw [Nat.add_assoc, ← hXd, fF_v _ _ _ _ _ _ crs_72 crs_109 hl]
    have hin := lk_in _ _ _ _ hl
    have m72 : mad c ≠ 72 := fun z => crs_72 (by rw [← z]; exact hin)
    rw [up2_a m72]
    by_cases c0 : c = 0
    · subst c0
      show emb (up2 (up2 (sclI I S) 111 n 1) 72 69 0) S 110 i = S 0 i
      rw [ea110, up2_a (by decide), up2_a (by decide)]
      exact scl_v hi
    · have hm := mad_mar c0 (by omega)
      unfold emb
      rw [if_neg m72, hm]
theorem s_back_bad (hZ : Shp Z) {k : Int32} (h : inB k 0 3 = false ∨ I 111 k.toNatClampNeg = 0) : call 231 [.ref 72, .int k] (emb I S, G, Z) = some (some (.int (-1)), (emb I S, G, Z)) := by
  refine Eq.trans e231 (Eq.trans b231_0 ?_)
  rw [m_in, l64_0, l64_3]
  refine Eq.trans b231_9 ?_
  rw [bI_0]
  by_cases h1 : inB k 0 3 = true
  · rw [if_pos h1]
    rcases h with h | h
    · rw [h] at h1; cases h1
    · refine Eq.trans (b231_12 hZ.k72 hZ.kr72_67 (hZ.ir72_67 (ib_in h1 (by decide)))) ?_
      simp only [mI_t, mL_t, es2, es1, es3, es4, es5, es6, es7, es8, es9, es10, es11, es12, es13, es14, es15, es51, es52, es53, es54, es61, es0, es16, es17, es18, es19, es20, es21, es22, es23, es24, es25, es26, es27, es28, es29, es30, es31, es32, es33, es34, es35, es36, es37, es38, es39, es40, es41, es42, es43, es44, es45, es46, es47, es48, es49, es50, es55, es56, es57, es58, es59, es60, es62, es63, es64, es65, es66, es67, es68, es69, ea73, ea74, ea75, ea76, ea77, ea78, ea79, ea80, ea81, ea82, ea83, ea84, ea85, ea86, ea87, ea88, ea89, ea90, ea91, ea92, ea93, ea94, ea95, ea96, ea97, ea98, ea99, ea100, ea101, ea102, ea103, ea104, ea105, ea106, ea107, ea108, ea109, ea110, ea111, hZ.k72, hZ.r72_16, hZ.r72_17, hZ.r72_18, hZ.r72_19, hZ.r72_20, hZ.r72_21, hZ.r72_22, hZ.r72_23, hZ.r72_24, hZ.r72_25, hZ.r72_26, hZ.r72_35, hZ.r72_36, hZ.r72_37, hZ.r72_38, hZ.r72_39, hZ.r72_40, hZ.r72_41, hZ.r72_42, hZ.r72_43, hZ.r72_44, hZ.r72_45, hZ.r72_46, hZ.r72_47, hZ.r72_48, hZ.r72_49, hZ.r72_50, hZ.r72_55, hZ.r72_56, hZ.r72_57, hZ.r72_58, hZ.r72_59, hZ.r72_60, hZ.r72_62, hZ.r72_63, hZ.r72_64, hZ.r72_65, hZ.r72_66, hZ.r72_67]
      exact Eq.trans (if_neg (fun q => q h)) b231_21
  · rw [if_neg h1]
    exact b231_21
theorem s_back (hZ : Shp Z) {T : aS} (h7 : Wf7 T) {n : Nat} (hn : n < 4) (h1 : ¬ I 111 n = 0) (hM : MkM I n T) : ∃ X : aI, call 231 [.ref 72, .int (iN n)] (emb I S, G, Z) = some (some (.int (T 0 0)), (X, G, Z)) ∧ emb X (mrg S T) = X ∧ (∀ a, a ≠ 72 → a ≠ 110 → mar a = none → X a = I a) ∧ (∀ j, j ≠ 68 → j ≠ 69 → msc j = none → X 72 j = I 72 j) := by
  have hb4 : ib (iN n) 4 := ib_iN (by omega) hn
  have hc : (iN n).toNatClampNeg = n := iN_clamp (by omega)
  have e3 : inB (iN n) 0 3 = true := inB_iff.mpr (by rw [iN_int (by omega)]; omega)
  have e69 : emb (up2 I 72 69 1) S 72 69 = 1 := by rw [es69, up2_s]
  have hY := m_carriesB (G := G) hZ hn e69
  generalize hYd : fB (up2 (emb (up2 I 72 69 1) S) 72 68 (iN (1660 * n))) (1660 * n) crs = Y at hY
  have yv : ∀ c i, i < mln c → Y (mad c) i = T c i := by
    intro c i hi
    rw [← hYd, fB_v _ _ _ _ _ _ crs_72 crs_109 crs_nd (lkc hi), up2_a (by decide), ea109, up2_a (by decide), ← hM c i hi, Nat.add_assoc]
  have y110 : ∀ j, j < 20 → Y 110 j = T 0 j := fun j hj => yv 0 j hj
  have yo : ∀ b j, ¬ (b = 72 ∧ j = 68) → (∀ m, (b, m) ∈ crs → m ≤ j) → Y b j = emb (up2 I 72 69 1) S b j := by
    intro b j q1 q2
    rw [← hYd, fB_o _ _ _ _ _ q1 q2, up2_e]
    by_cases hb : b = 72
    · rw [if_pos hb, if_neg (fun z => q1 ⟨hb, z⟩)]
    · rw [if_neg hb]
  have hrun : call 231 [.ref 72, .int (iN n)] (emb I S, G, Z) = some (some (.int (T 0 0)), (bkX Y T, G, Z)) := by
    refine Eq.trans e231 (Eq.trans b231_0 ?_)
    rw [m_in, l64_0, l64_3, e3]
    refine Eq.trans b231_9 (Eq.trans (if_neg (by decide)) (Eq.trans (b231_12 hZ.k72 hZ.kr72_67 (hZ.ir72_67 hb4)) ?_))
    simp only [mI_t, mL_t, es2, es1, es3, es4, es5, es6, es7, es8, es9, es10, es11, es12, es13, es14, es15, es51, es52, es53, es54, es61, es0, es16, es17, es18, es19, es20, es21, es22, es23, es24, es25, es26, es27, es28, es29, es30, es31, es32, es33, es34, es35, es36, es37, es38, es39, es40, es41, es42, es43, es44, es45, es46, es47, es48, es49, es50, es55, es56, es57, es58, es59, es60, es62, es63, es64, es65, es66, es67, es68, es69, ea73, ea74, ea75, ea76, ea77, ea78, ea79, ea80, ea81, ea82, ea83, ea84, ea85, ea86, ea87, ea88, ea89, ea90, ea91, ea92, ea93, ea94, ea95, ea96, ea97, ea98, ea99, ea100, ea101, ea102, ea103, ea104, ea105, ea106, ea107, ea108, ea109, ea110, ea111, hZ.k72, hZ.r72_16, hZ.r72_17, hZ.r72_18, hZ.r72_19, hZ.r72_20, hZ.r72_21, hZ.r72_22, hZ.r72_23, hZ.r72_24, hZ.r72_25, hZ.r72_26, hZ.r72_35, hZ.r72_36, hZ.r72_37, hZ.r72_38, hZ.r72_39, hZ.r72_40, hZ.r72_41, hZ.r72_42, hZ.r72_43, hZ.r72_44, hZ.r72_45, hZ.r72_46, hZ.r72_47, hZ.r72_48, hZ.r72_49, hZ.r72_50, hZ.r72_55, hZ.r72_56, hZ.r72_57, hZ.r72_58, hZ.r72_59, hZ.r72_60, hZ.r72_62, hZ.r72_63, hZ.r72_64, hZ.r72_65, hZ.r72_66, hZ.r72_67, hc]
    refine Eq.trans (if_pos h1) (Eq.trans (b231_23 hZ.k72) ?_)
    simp only [mI_t, mL_t, wI_t, wL_t, es2, es1, es3, es4, es5, es6, es7, es8, es9, es10, es11, es12, es13, es14, es15, es51, es52, es53, es54, es61, es0, es16, es17, es18, es19, es20, es21, es22, es23, es24, es25, es26, es27, es28, es29, es30, es31, es32, es33, es34, es35, es36, es37, es38, es39, es40, es41, es42, es43, es44, es45, es46, es47, es48, es49, es50, es55, es56, es57, es58, es59, es60, es62, es63, es64, es65, es66, es67, es68, es69, ea73, ea74, ea75, ea76, ea77, ea78, ea79, ea80, ea81, ea82, ea83, ea84, ea85, ea86, ea87, ea88, ea89, ea90, ea91, ea92, ea93, ea94, ea95, ea96, ea97, ea98, ea99, ea100, ea101, ea102, ea103, ea104, ea105, ea106, ea107, ea108, ea109, ea110, ea111, ew2, ew1, ew3, ew4, ew5, ew6, ew7, ew8, ew9, ew10, ew11, ew12, ew13, ew14, ew15, ew51, ew52, ew53, ew54, ew61, ew0, ew16, ew17, ew18, ew19, ew20, ew21, ew22, ew23, ew24, ew25, ew26, ew27, ew28, ew29, ew30, ew31, ew32, ew33, ew34, ew35, ew36, ew37, ew38, ew39, ew40, ew41, ew42, ew43, ew44, ew45, ew46, ew47, ew48, ew49, ew50, ew55, ew56, ew57, ew58, ew59, ew60, ew62, ew63, ew64, ew65, ew66, ew67, ew68, ew69, eb73, eb74, eb75, eb76, eb77, eb78, eb79, eb80, eb81, eb82, eb83, eb84, eb85, eb86, eb87, eb88, eb89, eb90, eb91, eb92, eb93, eb94, eb95, eb96, eb97, eb98, eb99, eb100, eb101, eb102, eb103, eb104, eb105, eb106, eb107, eb108, eb109, eb110, eb111, hZ.k72, hZ.r72_16, hZ.r72_17, hZ.r72_18, hZ.r72_19, hZ.r72_20, hZ.r72_21, hZ.r72_22, hZ.r72_23, hZ.r72_24, hZ.r72_25, hZ.r72_26, hZ.r72_35, hZ.r72_36, hZ.r72_37, hZ.r72_38, hZ.r72_39, hZ.r72_40, hZ.r72_41, hZ.r72_42, hZ.r72_43, hZ.r72_44, hZ.r72_45, hZ.r72_46, hZ.r72_47, hZ.r72_48, hZ.r72_49, hZ.r72_50, hZ.r72_55, hZ.r72_56, hZ.r72_57, hZ.r72_58, hZ.r72_59, hZ.r72_60, hZ.r72_62, hZ.r72_63, hZ.r72_64, hZ.r72_65, hZ.r72_66, hZ.r72_67]
    rw [hY]
    refine Eq.trans (b231_33 hZ.k72 hZ.kr72_66 (hZ.ir72_66 (by decide)) (hZ.ir72_66 (by decide))) ?_
    simp only [mI_t, wI_t, hZ.r72_66, tn0, tn1, tn2, tn3, tn4, tn5, tn6, tn7, tn8, tn9, tn10, tn11, tn12, tn13, tn14, tn15, tn16, tn17, tn18, tn19, up2_a (show (110 : Nat) ≠ 72 by decide), y110 0 (by decide), y110 1 (by decide), y110 2 (by decide), y110 3 (by decide), y110 4 (by decide), y110 5 (by decide), y110 6 (by decide), y110 7 (by decide), y110 8 (by decide), y110 9 (by decide), y110 10 (by decide), y110 11 (by decide), y110 12 (by decide), y110 13 (by decide), y110 14 (by decide), y110 15 (by decide), y110 16 (by decide), y110 17 (by decide), y110 18 (by decide), y110 19 (by decide)]
    have s1 : ∀ K : aI, (if ¬ T 0 1 = 1 then run 3 231 58 [.ref 72, .int (iN n)] [.ref 72] (K, G, Z) else run 3 231 54 [.ref 72, .int (iN n)] [.ref 72] (K, G, Z)) = run 3 231 59 [.ref 72, .int (iN n)] [.int (T 0 1), .ref 72] (K, G, Z) := by
      intro K
      rcases h7.1 with h | h
      · rw [h]
        exact Eq.trans (if_pos (by decide)) b231_58
      · rw [h]
        exact Eq.trans (if_neg (fun q => q rfl)) b231_54
    have b1 : bty 11 1 (T 0 1) = true := by
      rcases h7.1 with h | h
      · rw [h]; rfl
      · rw [h]; rfl
    have b2 : bty 11 51 (T 0 15) = true := by
      rcases h7.2 with h | h
      · rw [h]; rfl
      · rw [h]; rfl
    refine Eq.trans (s1 _) (Eq.trans (b231_59 hZ.k72 b1 hZ.k72 hZ.kr72_66 (hZ.ir72_66 (by decide)) (hZ.ir72_66 (by decide))) ?_)
    simp only [mI_t, wI_t, hZ.r72_66, tn0, tn1, tn2, tn3, tn4, tn5, tn6, tn7, tn8, tn9, tn10, tn11, tn12, tn13, tn14, tn15, tn16, tn17, tn18, tn19, up2_a (show (110 : Nat) ≠ 72 by decide), y110 0 (by decide), y110 1 (by decide), y110 2 (by decide), y110 3 (by decide), y110 4 (by decide), y110 5 (by decide), y110 6 (by decide), y110 7 (by decide), y110 8 (by decide), y110 9 (by decide), y110 10 (by decide), y110 11 (by decide), y110 12 (by decide), y110 13 (by decide), y110 14 (by decide), y110 15 (by decide), y110 16 (by decide), y110 17 (by decide), y110 18 (by decide), y110 19 (by decide)]
    refine Eq.trans (b231_82 hZ.k72 hZ.kr72_66 (hZ.ir72_66 (by decide)) (hZ.ir72_66 (by decide)) (hZ.ir72_66 (by decide))) ?_
    simp only [mI_t, wI_t, hZ.r72_66, tn0, tn1, tn2, tn3, tn4, tn5, tn6, tn7, tn8, tn9, tn10, tn11, tn12, tn13, tn14, tn15, tn16, tn17, tn18, tn19, up2_a (show (110 : Nat) ≠ 72 by decide), y110 0 (by decide), y110 1 (by decide), y110 2 (by decide), y110 3 (by decide), y110 4 (by decide), y110 5 (by decide), y110 6 (by decide), y110 7 (by decide), y110 8 (by decide), y110 9 (by decide), y110 10 (by decide), y110 11 (by decide), y110 12 (by decide), y110 13 (by decide), y110 14 (by decide), y110 15 (by decide), y110 16 (by decide), y110 17 (by decide), y110 18 (by decide), y110 19 (by decide)]
    refine Eq.trans (b231_113 hZ.k72 hZ.kr72_66 (hZ.ir72_66 (by decide)) (hZ.ir72_66 (by decide)) (hZ.ir72_66 (by decide))) ?_
    simp only [mI_t, wI_t, hZ.r72_66, tn0, tn1, tn2, tn3, tn4, tn5, tn6, tn7, tn8, tn9, tn10, tn11, tn12, tn13, tn14, tn15, tn16, tn17, tn18, tn19, up2_a (show (110 : Nat) ≠ 72 by decide), y110 0 (by decide), y110 1 (by decide), y110 2 (by decide), y110 3 (by decide), y110 4 (by decide), y110 5 (by decide), y110 6 (by decide), y110 7 (by decide), y110 8 (by decide), y110 9 (by decide), y110 10 (by decide), y110 11 (by decide), y110 12 (by decide), y110 13 (by decide), y110 14 (by decide), y110 15 (by decide), y110 16 (by decide), y110 17 (by decide), y110 18 (by decide), y110 19 (by decide)]
    refine Eq.trans (b231_146 hZ.k72 hZ.kr72_66 (hZ.ir72_66 (by decide)) (hZ.ir72_66 (by decide)) (hZ.ir72_66 (by decide))) ?_
    simp only [mI_t, wI_t, hZ.r72_66, tn0, tn1, tn2, tn3, tn4, tn5, tn6, tn7, tn8, tn9, tn10, tn11, tn12, tn13, tn14, tn15, tn16, tn17, tn18, tn19, up2_a (show (110 : Nat) ≠ 72 by decide), y110 0 (by decide), y110 1 (by decide), y110 2 (by decide), y110 3 (by decide), y110 4 (by decide), y110 5 (by decide), y110 6 (by decide), y110 7 (by decide), y110 8 (by decide), y110 9 (by decide), y110 10 (by decide), y110 11 (by decide), y110 12 (by decide), y110 13 (by decide), y110 14 (by decide), y110 15 (by decide), y110 16 (by decide), y110 17 (by decide), y110 18 (by decide), y110 19 (by decide)]
    refine Eq.trans (b231_179 hZ.k72 hZ.kr72_66 (hZ.ir72_66 (by decide)) (hZ.ir72_66 (by decide)) (hZ.ir72_66 (by decide))) ?_
    simp only [mI_t, wI_t, hZ.r72_66, tn0, tn1, tn2, tn3, tn4, tn5, tn6, tn7, tn8, tn9, tn10, tn11, tn12, tn13, tn14, tn15, tn16, tn17, tn18, tn19, up2_a (show (110 : Nat) ≠ 72 by decide), y110 0 (by decide), y110 1 (by decide), y110 2 (by decide), y110 3 (by decide), y110 4 (by decide), y110 5 (by decide), y110 6 (by decide), y110 7 (by decide), y110 8 (by decide), y110 9 (by decide), y110 10 (by decide), y110 11 (by decide), y110 12 (by decide), y110 13 (by decide), y110 14 (by decide), y110 15 (by decide), y110 16 (by decide), y110 17 (by decide), y110 18 (by decide), y110 19 (by decide)]
    have s2 : ∀ K : aI, (if ¬ T 0 15 = 1 then run 3 231 217 [.ref 72, .int (iN n)] [.ref 72] (K, G, Z) else run 3 231 213 [.ref 72, .int (iN n)] [.ref 72] (K, G, Z)) = run 3 231 218 [.ref 72, .int (iN n)] [.int (T 0 15), .ref 72] (K, G, Z) := by
      intro K
      rcases h7.2 with h | h
      · rw [h]
        exact Eq.trans (if_pos (by decide)) b231_217
      · rw [h]
        exact Eq.trans (if_neg (fun q => q rfl)) b231_213
    refine Eq.trans (s2 _) (Eq.trans (b231_218 hZ.k72 b2 hZ.k72 hZ.kr72_66 (hZ.ir72_66 (by decide)) (hZ.ir72_66 (by decide))) ?_)
    simp only [mI_t, wI_t, hZ.r72_66, tn0, tn1, tn2, tn3, tn4, tn5, tn6, tn7, tn8, tn9, tn10, tn11, tn12, tn13, tn14, tn15, tn16, tn17, tn18, tn19, up2_a (show (110 : Nat) ≠ 72 by decide), y110 0 (by decide), y110 1 (by decide), y110 2 (by decide), y110 3 (by decide), y110 4 (by decide), y110 5 (by decide), y110 6 (by decide), y110 7 (by decide), y110 8 (by decide), y110 9 (by decide), y110 10 (by decide), y110 11 (by decide), y110 12 (by decide), y110 13 (by decide), y110 14 (by decide), y110 15 (by decide), y110 16 (by decide), y110 17 (by decide), y110 18 (by decide), y110 19 (by decide)]
    refine Eq.trans (b231_243 hZ.k72 hZ.kr72_66 (hZ.ir72_66 (by decide)) (hZ.ir72_66 (by decide))) ?_
    simp only [mI_t, wI_t, hZ.r72_66, tn0, tn1, tn2, tn3, tn4, tn5, tn6, tn7, tn8, tn9, tn10, tn11, tn12, tn13, tn14, tn15, tn16, tn17, tn18, tn19, up2_a (show (110 : Nat) ≠ 72 by decide), y110 0 (by decide), y110 1 (by decide), y110 2 (by decide), y110 3 (by decide), y110 4 (by decide), y110 5 (by decide), y110 6 (by decide), y110 7 (by decide), y110 8 (by decide), y110 9 (by decide), y110 10 (by decide), y110 11 (by decide), y110 12 (by decide), y110 13 (by decide), y110 14 (by decide), y110 15 (by decide), y110 16 (by decide), y110 17 (by decide), y110 18 (by decide), y110 19 (by decide)]
    rfl
  refine ⟨bkX Y T, hrun, ?_, ?_, ?_⟩
  · refine emb_self (fun k j h => ?_) (fun a c h => ?_)
    · have := bkX_v (Y := Y) (T := T) h
      rw [this.1]
      unfold mrg
      rw [if_pos (show j < mln 0 from this.2)]
    · have hp := mar_pos h
      obtain ⟨ea, ec, -, hu⟩ := mar_mad h
      rw [bkX_o hp.2]
      funext i
      unfold mrg
      by_cases hi : i < mln c
      · rw [if_pos hi, ea]
        exact yv c i hi
      · rw [if_neg hi, yo a i (fun z => hp.2 z.1) (fun m hm => by have := hu (a, m) hm rfl; omega)]
        unfold emb
        rw [if_neg hp.2, h]
  · intro a q1 q2 q3
    rw [bkX_o q1]
    funext i
    have hnot : ∀ m, (a, m) ∈ crs → m ≤ i := by
      intro m hm
      exfalso
      have : ∀ e ∈ crs, e.1 = 110 ∨ (mar e.1).isSome = true := by decide
      rcases this (a, m) hm with z | z
      · exact q2 z
      · rw [show mar (a, m).1 = mar a from rfl, q3] at z; cases z
    rw [yo a i (fun z => q1 z.1) hnot]
    unfold emb
    rw [if_neg q1, q3, up2_a q1]
  · intro j q1 q2 q3
    rw [bkX_n q3, yo 72 j (fun z => q1 z.2) (fun m hm => absurd (List.mem_map_of_mem (f := Prod.fst) hm) crs_72)]
    unfold emb
    rw [if_pos rfl, q3, up2_k q2]
end MMK
