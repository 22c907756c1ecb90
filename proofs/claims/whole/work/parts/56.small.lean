/-! look, trace, ground, place, witness: both sides; more writes of the class's state -/
theorem ib_in {x : Int32} {n : Nat} {b : Int} (h : inB x 0 b = true) (hb : b < n) : ib x n := by
  have h := inB_iff.mp h
  rintro (q | q)
  · rw [ti_lt, l32_0] at q; omega
  · rw [Int32.toNatClampNeg] at q; omega
theorem csc_lt {k j : Nat} (h : csc k = some j) : j < 15 := by
  unfold csc at h
  split at h <;> cases h <;> decide
theorem cst_o {I : aI} {S : aS} {b k : Nat} (h5 : k ≠ 5) (h6 : k ≠ 6) (h7 : k ≠ 7) (h8 : k ≠ 8) : cst I S b k = I (b + 12) k := by
  unfold cst
  split <;> first | rfl | (exfalso; simp_all)
theorem cof_j {b a k j : Nat} {I : aI} {S : aS} {v : Int32} (hj : 15 ≤ j) (h12 : a ≠ 12) (h16 : a = 16 → j ≠ 15) (h18 : a = 18 → j ≠ 19) : cof I (up2 S 0 j v) b a k = cof I S b a k := by
  have e0 : ∀ i, i < 15 → up2 S 0 j v 0 i = S 0 i := fun i hi => up2_k (by omega)
  have ec : ∀ c, c ≠ 0 → up2 S 0 j v c = S c := fun c hc => funext fun i => up2_a hc
  have eR : riN (up2 S 0 j v) = riN S := by unfold riN; rw [e0 7 (by decide)]
  have eL : laN (up2 S 0 j v) = laN S := by unfold laN; rw [e0 8 (by decide)]
  have eLo : ∀ q, low (up2 S 0 j v) q = low S q := fun q => by unfold low; rw [ec 1 (by decide)]
  have eD : dep (up2 S 0 j v) = dep S := by unfold dep; rw [ec 10 (by decide), eL]
  unfold cof
  by_cases h1 : a = 1
  · rw [if_pos h1, if_pos h1]
    unfold ctk
    rw [eR, eLo, eD]
    cases hm : csc k with
    | none => rfl
    | some i => exact e0 i (csc_lt hm)
  rw [if_neg h1, if_neg h1, if_neg h12, if_neg h12, eR, eL, eLo, ec 10 (by decide), ec 11 (by decide), ec 17 (by decide)]
  have e5 : (if k = 0 then (if a - 5 < riN S then low S (a - 5) else I (b + a) k) else if k < 10 then up2 S 0 j v k (a - 5) else I (b + a) k) = (if k = 0 then (if a - 5 < riN S then low S (a - 5) else I (b + a) k) else if k < 10 then S k (a - 5) else I (b + a) k) := by
    by_cases h0 : k = 0
    · rw [if_pos h0, if_pos h0]
    · rw [if_neg h0, if_neg h0, ec k h0]
  rw [e5]
  by_cases q16 : a = 16
  · rw [up2_k (Ne.symm (h16 q16)), if_pos q16, if_pos q16]
  rw [if_neg q16, if_neg q16]
  by_cases q18 : a = 18
  · rw [if_pos q18, if_pos q18, up2_k (Ne.symm (h18 q18))]
  rw [if_neg q18, if_neg q18]
  cases hm : car a with
  | none => rfl
  | some c => simp only [ec c (car_no hm).1]
theorem cof_17 {b a k i : Nat} {I : aI} {S : aS} {v : Int32} (h16 : a ≠ 16) : cof I (up2 S 17 i v) b a k = cof I S b a k := by
  have ec : ∀ c, c ≠ 17 → up2 S 17 i v c = S c := fun c hc => funext fun i => up2_a hc
  have eR : riN (up2 S 17 i v) = riN S := rfl
  have eL : laN (up2 S 17 i v) = laN S := rfl
  have e5 : (if k = 0 then (if a - 5 < riN S then low S (a - 5) else I (b + a) k) else if k < 10 then up2 S 17 i v k (a - 5) else I (b + a) k) = (if k = 0 then (if a - 5 < riN S then low S (a - 5) else I (b + a) k) else if k < 10 then S k (a - 5) else I (b + a) k) := by
    by_cases h0 : k = 0
    · rw [if_pos h0, if_pos h0]
    · rw [if_neg h0, if_neg h0]
      by_cases h9 : k < 10
      · rw [if_pos h9, if_pos h9, ec k (by omega)]
      · rw [if_neg h9, if_neg h9]
  have eLo : ∀ q, low (up2 S 17 i v) q = low S q := fun q => rfl
  have et : ctk I (up2 S 17 i v) b k = ctk I S b k := by
    unfold ctk
    cases hm : csc k with
    | none => rfl
    | some j => rfl
  unfold cof
  rw [et, eR, eL, eLo, e5, if_neg h16, if_neg h16, ec 10 (by decide), ec 11 (by decide), ec 0 (by decide)]
  have e12 : cst I (up2 S 17 i v) b k = cst I S b k := by unfold cst; rw [ec 0 (by decide)]
  rw [e12]
  cases hm : car a with
  | none => rfl
  | some c => simp only [ec c (car_no hm).2.2.2.2.1]
theorem ww3 {I : aI} {S : aS} {v : Int32} : up2 (embB 33 I S) 51 3 v = embB 33 I (up2 S 0 19 v) := by
  refine embB_w (b := 33) (a := 18) (by decide) rfl ?_
  intro a' k' ha hne
  by_cases h12 : a' = 12
  · subst h12
    show cst I (up2 S 0 19 v) 33 k' = cst I S 33 k'
    unfold cst
    rfl
  by_cases h18 : a' = 18
  · subst h18
    show (if k' = 3 then v else I 51 k') = if k' = 3 then S 0 19 else I 51 k'
    rw [if_neg (fun q => hne ⟨rfl, q⟩), if_neg (fun q => hne ⟨rfl, q⟩)]
  · exact cof_j (by decide) h12 (fun _ => by decide) (fun q => absurd q h18)
theorem ws6 {I : aI} {S : aS} {v : Int32} : up2 (embB 33 I S) 45 6 v = embB 33 I (up2 S 0 18 v) := by
  refine embB_w (b := 33) (a := 12) (by decide) rfl ?_
  intro a' k' ha hne
  by_cases h12 : a' = 12
  · subst h12
    show cst I (up2 S 0 18 v) 33 k' = cst I S 33 k'
    by_cases h5 : k' = 5
    · subst h5; rfl
    by_cases h7 : k' = 7
    · subst h7; rfl
    by_cases h8 : k' = 8
    · subst h8; rfl
    have h6 : k' ≠ 6 := fun q => hne ⟨rfl, q⟩
    rw [cst_o h5 h6 h7 h8, cst_o h5 h6 h7 h8]
  · exact cof_j (by decide) h12 (fun _ => by decide) (fun _ => by decide)
theorem ws7 {I : aI} {S : aS} {v : Int32} : up2 (embB 33 I S) 45 7 v = embB 33 I (up2 S 0 16 v) := by
  refine embB_w (b := 33) (a := 12) (by decide) rfl ?_
  intro a' k' ha hne
  by_cases h12 : a' = 12
  · subst h12
    show cst I (up2 S 0 16 v) 33 k' = cst I S 33 k'
    by_cases h5 : k' = 5
    · subst h5; rfl
    by_cases h6 : k' = 6
    · subst h6; rfl
    by_cases h8 : k' = 8
    · subst h8; rfl
    have h7 : k' ≠ 7 := fun q => hne ⟨rfl, q⟩
    rw [cst_o h5 h6 h7 h8, cst_o h5 h6 h7 h8]
  · exact cof_j (by decide) h12 (fun _ => by decide) (fun _ => by decide)
theorem ws8 {I : aI} {S : aS} {v : Int32} : up2 (embB 33 I S) 45 8 v = embB 33 I (up2 S 0 17 v) := by
  refine embB_w (b := 33) (a := 12) (by decide) rfl ?_
  intro a' k' ha hne
  by_cases h12 : a' = 12
  · subst h12
    show cst I (up2 S 0 17 v) 33 k' = cst I S 33 k'
    by_cases h5 : k' = 5
    · subst h5; rfl
    by_cases h6 : k' = 6
    · subst h6; rfl
    by_cases h7 : k' = 7
    · subst h7; rfl
    have h8 : k' ≠ 8 := fun q => hne ⟨rfl, q⟩
    rw [cst_o h5 h6 h7 h8, cst_o h5 h6 h7 h8]
  · exact cof_j (by decide) h12 (fun _ => by decide) (fun _ => by decide)
theorem ws5 {I : aI} {S : aS} {v : Int32} (hv : ¬ v = 0) (h : S 0 15 = 0 → ∀ k, k < 144 → S 17 k = -1) : up2 (embB 33 I S) 45 5 v = embB 33 I (up2 S 0 15 v) := by
  refine embB_w (b := 33) (a := 12) (by decide) rfl ?_
  intro a' k' ha hne
  by_cases h12 : a' = 12
  · subst h12
    show cst I (up2 S 0 15 v) 33 k' = cst I S 33 k'
    by_cases h6 : k' = 6
    · subst h6; rfl
    by_cases h7 : k' = 7
    · subst h7; rfl
    by_cases h8 : k' = 8
    · subst h8; rfl
    have h5 : k' ≠ 5 := fun q => hne ⟨rfl, q⟩
    rw [cst_o h5 h6 h7 h8, cst_o h5 h6 h7 h8]
  by_cases h16 : a' = 16
  · subst h16
    show (if v = 0 ∧ k' < 144 then -1 else S 17 k') = if S 0 15 = 0 ∧ k' < 144 then -1 else S 17 k'
    rw [if_neg (fun q => hv q.1)]
    by_cases q : S 0 15 = 0 ∧ k' < 144
    · rw [if_pos q]; exact h q.1 k' q.2
    · rw [if_neg q]
  · exact cof_j (by decide) h12 (fun q => absurd q h16) (fun _ => by decide)
theorem wcame {I : aI} {S : aS} {k : Nat} {v : Int32} (h : ¬ S 0 15 = 0) : up2 (embB 33 I S) 49 k v = embB 33 I (up2 S 17 k v) := by
  refine embB_w (b := 33) (a := 16) (by decide) ?_ ?_
  · show (if S 0 15 = 0 ∧ k < 144 then -1 else up2 S 17 k v 17 k) = v
    rw [if_neg (fun q => h q.1), up2_s]
  intro a' k' ha hne
  by_cases h16 : a' = 16
  · subst h16
    show (if S 0 15 = 0 ∧ k' < 144 then -1 else up2 S 17 k v 17 k') = if S 0 15 = 0 ∧ k' < 144 then -1 else S 17 k'
    rw [up2_k (fun q => hne ⟨rfl, q⟩)]
  · exact cof_17 h16
theorem wcameN {I : aI} {S : aS} {k : Nat} (hk : k < 144) : up2 (embB 33 I S) 49 k (-1) = embB 33 I (up2 S 17 k (-1)) := by
  refine embB_w (b := 33) (a := 16) (by decide) ?_ ?_
  · show (if S 0 15 = 0 ∧ k < 144 then -1 else up2 S 17 k (-1) 17 k) = -1
    rw [up2_s]
    split <;> rfl
  intro a' k' ha hne
  by_cases h16 : a' = 16
  · subst h16
    show (if S 0 15 = 0 ∧ k' < 144 then -1 else up2 S 17 k (-1) 17 k') = if S 0 15 = 0 ∧ k' < 144 then -1 else S 17 k'
    rw [up2_k (fun q => hne ⟨rfl, q⟩)]
  · exact cof_17 h16
theorem ccame {I : aI} {S : aS} {k : Nat} : embB 33 I S 49 k = if S 0 15 = 0 ∧ k < 144 then -1 else S 17 k := rfl
theorem cchg {I : aI} {S : aS} : embB 33 I S 50 = I 50 := id rfl
theorem wchg {I : aI} {S : aS} {k : Nat} {v : Int32} : up2 (embB 33 I S) 50 k v = embB 33 (up2 I 50 k v) S := by
  funext a k'
  by_cases ha : a = 50
  · subst ha
    rw [cchg]
    by_cases hk : k' = k
    · subst hk; rw [up2_s, up2_s]
    · rw [up2_k hk, up2_k hk, cchg]
  · rw [up2_a ha]
    by_cases hin : 33 ≤ a ∧ a < 33 + 24
    · have e : a = 33 + (a - 33) := by omega
      rw [e, embB_at (by omega), embB_at (by omega)]
      exact (cof_I (funext fun q => up2_a (by omega))).symm
    · rw [embB_out (by omega), embB_out (by omega)]
      exact (up2_a ha).symm
def lookOK (S : aS) (m h : Int32) : Bool := inB m 0 9 && inB h 0 (S 0 0).toInt
def lookS (S : aS) (m h : Int32) : aS := up2 S 13 m.toNatClampNeg (if S 13 m.toNatClampNeg < h then h else S 13 m.toNatClampNeg)
def traceOK (t i : Int32) : Bool := inB t 0 15 && inB i (-1) 1
def isPl (x y : Int32) : Bool := inB x 0 11 && inB y 0 11
def plc (x y : Int32) : Nat := (12 * y + x).toNatClampNeg
theorem pl_ib {x y : Int32} (h : isPl x y = true) : ib (12 * y + x) 144 ∧ y * 12 + x = 12 * y + x ∧ inB (12 * y + x) 0 143 = true := by
  unfold isPl at h
  rw [Bool.and_eq_true, inB_iff, inB_iff] at h
  have e12 : (12 : Int32).toInt = 12 := by decide
  have m : (12 * y).toInt = 12 * y.toInt := by rw [ti_mul (by rw [e12]; omega) (by rw [e12]; omega), e12]
  have q : inB (12 * y + x) 0 143 = true := by
    rw [inB_iff, ti_add (by omega) (by omega), m]
    omega
  exact ⟨ib_in q (by decide), by rw [Int32.mul_comm], q⟩
def placeS (S : aS) (k : Nat) (w : Int32) : Int32 := if w = 0 then S 15 k else if w = 1 then S 14 k + S 15 k else if w = 2 then S 16 k else if S 0 15 = 0 then -1 else S 17 k
def Wf6 (S : aS) : Prop := S 0 19 = iN (S 0 19).toNatClampNeg ∧ (S 0 19).toNatClampNeg ≤ 300
def witOK (S : aS) (h a p : Int32) : Bool := !decide (S 0 19 = 300) && (inB h 0 (S 0 0).toInt && (inB a 0 4 && inB p 0 255))
def witS (S : aS) (h a p : Int32) : aS := up2 (up2 (up2 (up2 S 18 (S 0 19).toNatClampNeg h) 19 (S 0 19).toNatClampNeg a) 20 (S 0 19).toNatClampNeg p) 0 19 (S 0 19 + 1)
section SM
variable {I : aI} {G : aL} {Z : aZ} {S : aS}
theorem s_look (hZ : Shp Z) {m h : Int32} : call 215 [.ref 72, .int m, .int h] (emb I S, G, Z) = if lookOK S m h = true then some (some (.int 1), (emb I (lookS S m h), G, Z)) else some (some (.int 0), (emb I S, G, Z)) := by
  unfold lookOK
  simp only [and_if]
  simp only [e215, b215_0, b215_9, b215_12, b215_23, b215_26, m_in, bsome, tol1, bI_0, bI_n, mI_t, mL_t, es2, es1, es3, es4, es5, es6, es7, es8, es9, es10, es11, es12, es13, es14, es15, es51, es52, es53, es54, es61, es0, es16, es17, es18, es19, es20, es21, es22, es23, es24, es25, es26, es27, es28, es29, es30, es31, es32, es33, es34, es35, es36, es37, es38, es39, es40, es41, es42, es43, es44, es45, es46, es47, es48, es49, es50, es55, es56, es57, es58, es59, es60, es62, es63, es64, es65, es66, es67, es68, es69, ea73, ea74, ea75, ea76, ea77, ea78, ea79, ea80, ea81, ea82, ea83, ea84, ea85, ea86, ea87, ea88, ea89, ea90, ea91, ea92, ea93, ea94, ea95, ea96, ea97, ea98, ea99, ea100, ea101, ea102, ea103, ea104, ea105, ea106, ea107, ea108, ea109, ea110, ea111, hZ.k72, hZ.r72_16, hZ.r72_17, hZ.r72_18, hZ.r72_19, hZ.r72_20, hZ.r72_21, hZ.r72_22, hZ.r72_23, hZ.r72_24, hZ.r72_25, hZ.r72_26, hZ.r72_35, hZ.r72_36, hZ.r72_37, hZ.r72_38, hZ.r72_39, hZ.r72_40, hZ.r72_41, hZ.r72_42, hZ.r72_43, hZ.r72_44, hZ.r72_45, hZ.r72_46, hZ.r72_47, hZ.r72_48, hZ.r72_49, hZ.r72_50, hZ.r72_55, hZ.r72_56, hZ.r72_57, hZ.r72_58, hZ.r72_59, hZ.r72_60, hZ.r72_62, hZ.r72_63, hZ.r72_64, hZ.r72_65, hZ.r72_66, hZ.r72_67, l64_0, l64_1, l64_2, l64_3, l64_4, l64_5, l64_7, l64_9, l64_10, l64_11, l64_15, l64_20, l64_60, l64_99, l64_140, l64_143, l64_199, l64_200, l64_255, l64_500, l64_999, l64_9999, l64_99999, l64_9999999, l64_m50, l64_m1, Int32.toInt_toInt64]
  by_cases h1 : inB m 0 9 = true
  · rw [if_pos h1, if_pos h1]
    by_cases h2 : inB h 0 (S 0 0).toInt = true
    · rw [if_pos h2, if_pos h2]
      have hb : ib m 10 := ib_in h1 (by decide)
      refine Eq.trans (b215_28 hZ.k72 hZ.kr72_50 (hZ.ir72_50 hb)) ?_
      unfold lookS
      simp only [mI_t, mL_t, es2, es1, es3, es4, es5, es6, es7, es8, es9, es10, es11, es12, es13, es14, es15, es51, es52, es53, es54, es61, es0, es16, es17, es18, es19, es20, es21, es22, es23, es24, es25, es26, es27, es28, es29, es30, es31, es32, es33, es34, es35, es36, es37, es38, es39, es40, es41, es42, es43, es44, es45, es46, es47, es48, es49, es50, es55, es56, es57, es58, es59, es60, es62, es63, es64, es65, es66, es67, es68, es69, ea73, ea74, ea75, ea76, ea77, ea78, ea79, ea80, ea81, ea82, ea83, ea84, ea85, ea86, ea87, ea88, ea89, ea90, ea91, ea92, ea93, ea94, ea95, ea96, ea97, ea98, ea99, ea100, ea101, ea102, ea103, ea104, ea105, ea106, ea107, ea108, ea109, ea110, ea111, hZ.k72, hZ.r72_16, hZ.r72_17, hZ.r72_18, hZ.r72_19, hZ.r72_20, hZ.r72_21, hZ.r72_22, hZ.r72_23, hZ.r72_24, hZ.r72_25, hZ.r72_26, hZ.r72_35, hZ.r72_36, hZ.r72_37, hZ.r72_38, hZ.r72_39, hZ.r72_40, hZ.r72_41, hZ.r72_42, hZ.r72_43, hZ.r72_44, hZ.r72_45, hZ.r72_46, hZ.r72_47, hZ.r72_48, hZ.r72_49, hZ.r72_50, hZ.r72_55, hZ.r72_56, hZ.r72_57, hZ.r72_58, hZ.r72_59, hZ.r72_60, hZ.r72_62, hZ.r72_63, hZ.r72_64, hZ.r72_65, hZ.r72_66, hZ.r72_67]
      by_cases h3 : S 13 m.toNatClampNeg < h
      · rw [if_pos h3]
        refine Eq.trans (if_neg (fun q => q h3)) (Eq.trans b215_43 (Eq.trans (b215_53 hZ.k99 (hZ.i99 hb)) ?_))
        simp only [mI_t, mL_t, wI_t, wL_t, es2, es1, es3, es4, es5, es6, es7, es8, es9, es10, es11, es12, es13, es14, es15, es51, es52, es53, es54, es61, es0, es16, es17, es18, es19, es20, es21, es22, es23, es24, es25, es26, es27, es28, es29, es30, es31, es32, es33, es34, es35, es36, es37, es38, es39, es40, es41, es42, es43, es44, es45, es46, es47, es48, es49, es50, es55, es56, es57, es58, es59, es60, es62, es63, es64, es65, es66, es67, es68, es69, ea73, ea74, ea75, ea76, ea77, ea78, ea79, ea80, ea81, ea82, ea83, ea84, ea85, ea86, ea87, ea88, ea89, ea90, ea91, ea92, ea93, ea94, ea95, ea96, ea97, ea98, ea99, ea100, ea101, ea102, ea103, ea104, ea105, ea106, ea107, ea108, ea109, ea110, ea111, ew2, ew1, ew3, ew4, ew5, ew6, ew7, ew8, ew9, ew10, ew11, ew12, ew13, ew14, ew15, ew51, ew52, ew53, ew54, ew61, ew0, ew16, ew17, ew18, ew19, ew20, ew21, ew22, ew23, ew24, ew25, ew26, ew27, ew28, ew29, ew30, ew31, ew32, ew33, ew34, ew35, ew36, ew37, ew38, ew39, ew40, ew41, ew42, ew43, ew44, ew45, ew46, ew47, ew48, ew49, ew50, ew55, ew56, ew57, ew58, ew59, ew60, ew62, ew63, ew64, ew65, ew66, ew67, ew68, ew69, eb73, eb74, eb75, eb76, eb77, eb78, eb79, eb80, eb81, eb82, eb83, eb84, eb85, eb86, eb87, eb88, eb89, eb90, eb91, eb92, eb93, eb94, eb95, eb96, eb97, eb98, eb99, eb100, eb101, eb102, eb103, eb104, eb105, eb106, eb107, eb108, eb109, eb110, eb111, hZ.k72, hZ.r72_16, hZ.r72_17, hZ.r72_18, hZ.r72_19, hZ.r72_20, hZ.r72_21, hZ.r72_22, hZ.r72_23, hZ.r72_24, hZ.r72_25, hZ.r72_26, hZ.r72_35, hZ.r72_36, hZ.r72_37, hZ.r72_38, hZ.r72_39, hZ.r72_40, hZ.r72_41, hZ.r72_42, hZ.r72_43, hZ.r72_44, hZ.r72_45, hZ.r72_46, hZ.r72_47, hZ.r72_48, hZ.r72_49, hZ.r72_50, hZ.r72_55, hZ.r72_56, hZ.r72_57, hZ.r72_58, hZ.r72_59, hZ.r72_60, hZ.r72_62, hZ.r72_63, hZ.r72_64, hZ.r72_65, hZ.r72_66, hZ.r72_67]
      · rw [if_neg h3]
        refine Eq.trans (if_pos h3) (Eq.trans (b215_47 hZ.k72 hZ.kr72_50 (hZ.ir72_50 hb)) (Eq.trans (b215_53 hZ.k99 (hZ.i99 hb)) ?_))
        simp only [mI_t, mL_t, wI_t, wL_t, es2, es1, es3, es4, es5, es6, es7, es8, es9, es10, es11, es12, es13, es14, es15, es51, es52, es53, es54, es61, es0, es16, es17, es18, es19, es20, es21, es22, es23, es24, es25, es26, es27, es28, es29, es30, es31, es32, es33, es34, es35, es36, es37, es38, es39, es40, es41, es42, es43, es44, es45, es46, es47, es48, es49, es50, es55, es56, es57, es58, es59, es60, es62, es63, es64, es65, es66, es67, es68, es69, ea73, ea74, ea75, ea76, ea77, ea78, ea79, ea80, ea81, ea82, ea83, ea84, ea85, ea86, ea87, ea88, ea89, ea90, ea91, ea92, ea93, ea94, ea95, ea96, ea97, ea98, ea99, ea100, ea101, ea102, ea103, ea104, ea105, ea106, ea107, ea108, ea109, ea110, ea111, ew2, ew1, ew3, ew4, ew5, ew6, ew7, ew8, ew9, ew10, ew11, ew12, ew13, ew14, ew15, ew51, ew52, ew53, ew54, ew61, ew0, ew16, ew17, ew18, ew19, ew20, ew21, ew22, ew23, ew24, ew25, ew26, ew27, ew28, ew29, ew30, ew31, ew32, ew33, ew34, ew35, ew36, ew37, ew38, ew39, ew40, ew41, ew42, ew43, ew44, ew45, ew46, ew47, ew48, ew49, ew50, ew55, ew56, ew57, ew58, ew59, ew60, ew62, ew63, ew64, ew65, ew66, ew67, ew68, ew69, eb73, eb74, eb75, eb76, eb77, eb78, eb79, eb80, eb81, eb82, eb83, eb84, eb85, eb86, eb87, eb88, eb89, eb90, eb91, eb92, eb93, eb94, eb95, eb96, eb97, eb98, eb99, eb100, eb101, eb102, eb103, eb104, eb105, eb106, eb107, eb108, eb109, eb110, eb111, hZ.k72, hZ.r72_16, hZ.r72_17, hZ.r72_18, hZ.r72_19, hZ.r72_20, hZ.r72_21, hZ.r72_22, hZ.r72_23, hZ.r72_24, hZ.r72_25, hZ.r72_26, hZ.r72_35, hZ.r72_36, hZ.r72_37, hZ.r72_38, hZ.r72_39, hZ.r72_40, hZ.r72_41, hZ.r72_42, hZ.r72_43, hZ.r72_44, hZ.r72_45, hZ.r72_46, hZ.r72_47, hZ.r72_48, hZ.r72_49, hZ.r72_50, hZ.r72_55, hZ.r72_56, hZ.r72_57, hZ.r72_58, hZ.r72_59, hZ.r72_60, hZ.r72_62, hZ.r72_63, hZ.r72_64, hZ.r72_65, hZ.r72_66, hZ.r72_67]
    · rw [if_neg h2, if_neg h2]
  · rw [if_neg h1, if_neg h1]
theorem t_hasBeen (hZ : Shp Z) {h : Int32} : call 49 [.ref 34, .int h] (embB 33 I S, G, Z) = some (some (.int (bI (inB h 0 (S 0 0).toInt))), (embB 33 I S, G, Z)) := by
  refine Eq.trans e49 (Eq.trans b49_0 ?_)
  by_cases h0 : h < 0
  · have : inB h 0 (S 0 0).toInt = false := Bool.eq_false_iff.mpr (fun q => by have := inB_iff.mp q; rw [ti_lt, l32_0] at h0; omega)
    rw [this]
    exact Eq.trans (if_pos h0) (Eq.trans b49_16 (b49_17 rfl))
  · refine Eq.trans (if_neg h0) (Eq.trans (b49_4 hZ.k34) ?_)
    simp only [mI_t, mL_t, ct3, ct4, ct5, ct6, ct7, ct8, ct9, ct10, ct11, ct13, ct15, ct16, ct17, ct18, ct12, ct14, cs5, cs6, cs7, cs8, cw3, ca46, ca47, ca48, ca52, ca53, ca54, ca55, ca56, hZ.k33, hZ.r33_0, hZ.r33_1, hZ.r33_2, hZ.r33_3, hZ.r33_4, hZ.k34, hZ.r34_0, hZ.r34_1, hZ.r34_2]
    by_cases h1 : S 0 0 < h
    · have : inB h 0 (S 0 0).toInt = false := Bool.eq_false_iff.mpr (fun q => by have := inB_iff.mp q; rw [ti_lt] at h1; omega)
      rw [this]
      exact Eq.trans (if_pos h1) (Eq.trans b49_16 (b49_17 rfl))
    · have : inB h 0 (S 0 0).toInt = true := inB_iff.mpr (by rw [ti_lt, l32_0] at h0; rw [ti_lt] at h1; omega)
      rw [this]
      exact Eq.trans (if_neg h1) (Eq.trans b49_12 (b49_17 rfl))
theorem f_look (hZ : Shp Z) {m h : Int32} : call 124 [.ref 32, .int m, .int h] (embB 33 I S, G, Z) = if lookOK S m h = true then some (some (.int 1), (embB 33 I (lookS S m h), G, Z)) else some (some (.int 0), (embB 33 I S, G, Z)) := by
  have hq : (mK (embB 33 I S, G, Z) (mR (embB 33 I S, G, Z) (mR (embB 33 I S, G, Z) 32 0) 0) = 6) := by rw [hZ.r32_0, hZ.r33_0]; exact hZ.k34
  refine Eq.trans e124 (Eq.trans b124_0 ?_)
  rw [c_within, l32_0, l32_9]
  refine Eq.trans b124_7 ?_
  rw [bI_0]
  unfold lookOK
  rw [and_if]
  by_cases h1 : inB m 0 9 = true
  · rw [if_pos h1, if_pos h1]
    refine Eq.trans (b124_10 hZ.k32 hZ.kr32_0 hq) ?_
    rw [hZ.r32_0, hZ.r33_0, t_hasBeen hZ]
    refine Eq.trans b124_21 ?_
    rw [bI_n]
    by_cases h2 : inB h 0 (S 0 0).toInt = true
    · rw [if_pos h2, if_pos h2]
      have hb : ib m 10 := ib_in h1 (by decide)
      refine Eq.trans (b124_26 hZ.k32 hZ.kr32_0 (by rw [hZ.r32_0, hZ.r33_4]; exact hZ.k56) (by rw [hZ.r32_0, hZ.r33_4]; exact hZ.i56 hb)) ?_
      rw [hZ.r32_0, hZ.r33_4]
      simp only [mI_t, mL_t, wI_t, wL_t, ct3, ct4, ct5, ct6, ct7, ct8, ct9, ct10, ct11, ct13, ct15, ct16, ct17, ct18, ct12, ct14, cs5, cs6, cs7, cs8, cw3, ca46, ca47, ca48, ca52, ca53, ca54, ca55, ca56, wh3, wh4, wh5, wh6, wh7, wh8, wh9, wh10, wh15, wh16, wh17, wh18, wa46, wa47, wa48, wa52, wa53, wa54, wa55, wa56, hZ.k33, hZ.r33_0, hZ.r33_1, hZ.r33_2, hZ.r33_3, hZ.r33_4, hZ.k34, hZ.r34_0, hZ.r34_1, hZ.r34_2]
      rfl
    · rw [if_neg h2, if_neg h2]
      exact b124_24
  · rw [if_neg h1, if_neg h1]
    exact b124_24
theorem s_trace (hZ : Shp Z) {t i : Int32} : call 201 [.ref 72, .int t, .int i] (emb I S, G, Z) = if traceOK t i = true then some (some (.int (S 12 t.toNatClampNeg)), (emb I (up2 S 12 t.toNatClampNeg i), G, Z)) else some (some (.int (-2)), (emb I S, G, Z)) := by
  unfold traceOK
  simp only [and_if]
  simp only [e201, b201_0, b201_9, b201_12, b201_21, b201_24, m_in, bsome, tol1, bI_0, bI_n, mI_t, mL_t, es2, es1, es3, es4, es5, es6, es7, es8, es9, es10, es11, es12, es13, es14, es15, es51, es52, es53, es54, es61, es0, es16, es17, es18, es19, es20, es21, es22, es23, es24, es25, es26, es27, es28, es29, es30, es31, es32, es33, es34, es35, es36, es37, es38, es39, es40, es41, es42, es43, es44, es45, es46, es47, es48, es49, es50, es55, es56, es57, es58, es59, es60, es62, es63, es64, es65, es66, es67, es68, es69, ea73, ea74, ea75, ea76, ea77, ea78, ea79, ea80, ea81, ea82, ea83, ea84, ea85, ea86, ea87, ea88, ea89, ea90, ea91, ea92, ea93, ea94, ea95, ea96, ea97, ea98, ea99, ea100, ea101, ea102, ea103, ea104, ea105, ea106, ea107, ea108, ea109, ea110, ea111, hZ.k72, hZ.r72_16, hZ.r72_17, hZ.r72_18, hZ.r72_19, hZ.r72_20, hZ.r72_21, hZ.r72_22, hZ.r72_23, hZ.r72_24, hZ.r72_25, hZ.r72_26, hZ.r72_35, hZ.r72_36, hZ.r72_37, hZ.r72_38, hZ.r72_39, hZ.r72_40, hZ.r72_41, hZ.r72_42, hZ.r72_43, hZ.r72_44, hZ.r72_45, hZ.r72_46, hZ.r72_47, hZ.r72_48, hZ.r72_49, hZ.r72_50, hZ.r72_55, hZ.r72_56, hZ.r72_57, hZ.r72_58, hZ.r72_59, hZ.r72_60, hZ.r72_62, hZ.r72_63, hZ.r72_64, hZ.r72_65, hZ.r72_66, hZ.r72_67, l64_0, l64_1, l64_2, l64_3, l64_4, l64_5, l64_7, l64_9, l64_10, l64_11, l64_15, l64_20, l64_60, l64_99, l64_140, l64_143, l64_199, l64_200, l64_255, l64_500, l64_999, l64_9999, l64_99999, l64_9999999, l64_m50, l64_m1, Int32.toInt_toInt64]
  by_cases h1 : inB t 0 15 = true
  · rw [if_pos h1, if_pos h1]
    by_cases h2 : inB i (-1) 1 = true
    · rw [if_pos h2, if_pos h2]
      have hb : ib t 16 := ib_in h1 (by decide)
      refine Eq.trans (b201_27 hZ.k72 hZ.kr72_48 (hZ.ir72_48 hb)) ?_
      simp only [mI_t, mL_t, wI_t, wL_t, es2, es1, es3, es4, es5, es6, es7, es8, es9, es10, es11, es12, es13, es14, es15, es51, es52, es53, es54, es61, es0, es16, es17, es18, es19, es20, es21, es22, es23, es24, es25, es26, es27, es28, es29, es30, es31, es32, es33, es34, es35, es36, es37, es38, es39, es40, es41, es42, es43, es44, es45, es46, es47, es48, es49, es50, es55, es56, es57, es58, es59, es60, es62, es63, es64, es65, es66, es67, es68, es69, ea73, ea74, ea75, ea76, ea77, ea78, ea79, ea80, ea81, ea82, ea83, ea84, ea85, ea86, ea87, ea88, ea89, ea90, ea91, ea92, ea93, ea94, ea95, ea96, ea97, ea98, ea99, ea100, ea101, ea102, ea103, ea104, ea105, ea106, ea107, ea108, ea109, ea110, ea111, ew2, ew1, ew3, ew4, ew5, ew6, ew7, ew8, ew9, ew10, ew11, ew12, ew13, ew14, ew15, ew51, ew52, ew53, ew54, ew61, ew0, ew16, ew17, ew18, ew19, ew20, ew21, ew22, ew23, ew24, ew25, ew26, ew27, ew28, ew29, ew30, ew31, ew32, ew33, ew34, ew35, ew36, ew37, ew38, ew39, ew40, ew41, ew42, ew43, ew44, ew45, ew46, ew47, ew48, ew49, ew50, ew55, ew56, ew57, ew58, ew59, ew60, ew62, ew63, ew64, ew65, ew66, ew67, ew68, ew69, eb73, eb74, eb75, eb76, eb77, eb78, eb79, eb80, eb81, eb82, eb83, eb84, eb85, eb86, eb87, eb88, eb89, eb90, eb91, eb92, eb93, eb94, eb95, eb96, eb97, eb98, eb99, eb100, eb101, eb102, eb103, eb104, eb105, eb106, eb107, eb108, eb109, eb110, eb111, hZ.k72, hZ.r72_16, hZ.r72_17, hZ.r72_18, hZ.r72_19, hZ.r72_20, hZ.r72_21, hZ.r72_22, hZ.r72_23, hZ.r72_24, hZ.r72_25, hZ.r72_26, hZ.r72_35, hZ.r72_36, hZ.r72_37, hZ.r72_38, hZ.r72_39, hZ.r72_40, hZ.r72_41, hZ.r72_42, hZ.r72_43, hZ.r72_44, hZ.r72_45, hZ.r72_46, hZ.r72_47, hZ.r72_48, hZ.r72_49, hZ.r72_50, hZ.r72_55, hZ.r72_56, hZ.r72_57, hZ.r72_58, hZ.r72_59, hZ.r72_60, hZ.r72_62, hZ.r72_63, hZ.r72_64, hZ.r72_65, hZ.r72_66, hZ.r72_67]
    · rw [if_neg h2, if_neg h2]
  · rw [if_neg h1, if_neg h1]
theorem f_trace (hZ : Shp Z) {t i : Int32} : call 114 [.ref 32, .int t, .int i] (embB 33 I S, G, Z) = if traceOK t i = true then some (some (.int (S 12 t.toNatClampNeg)), (embB 33 I (up2 S 12 t.toNatClampNeg i), G, Z)) else some (some (.int (-2)), (embB 33 I S, G, Z)) := by
  refine Eq.trans e114 (Eq.trans b114_0 ?_)
  rw [c_within, l32_0, l32_15]
  refine Eq.trans b114_7 ?_
  rw [bI_0]
  unfold traceOK
  rw [and_if]
  by_cases h1 : inB t 0 15 = true
  · rw [if_pos h1, if_pos h1]
    refine Eq.trans b114_10 ?_
    rw [c_within, l32_m1, l32_1]
    refine Eq.trans b114_16 ?_
    rw [bI_n]
    by_cases h2 : inB i (-1) 1 = true
    · rw [if_pos h2, if_pos h2]
      have hb : ib t 16 := ib_in h1 (by decide)
      refine Eq.trans (b114_22 hZ.k32 hZ.kr32_0 (by rw [hZ.r32_0, hZ.r33_3]; exact hZ.k55) (by rw [hZ.r32_0, hZ.r33_3]; exact hZ.i55 hb)) ?_
      rw [hZ.r32_0, hZ.r33_3]
      simp only [mI_t, mL_t, wI_t, wL_t, ct3, ct4, ct5, ct6, ct7, ct8, ct9, ct10, ct11, ct13, ct15, ct16, ct17, ct18, ct12, ct14, cs5, cs6, cs7, cs8, cw3, ca46, ca47, ca48, ca52, ca53, ca54, ca55, ca56, wh3, wh4, wh5, wh6, wh7, wh8, wh9, wh10, wh15, wh16, wh17, wh18, wa46, wa47, wa48, wa52, wa53, wa54, wa55, wa56, hZ.k33, hZ.r33_0, hZ.r33_1, hZ.r33_2, hZ.r33_3, hZ.r33_4, hZ.k34, hZ.r34_0, hZ.r34_1, hZ.r34_2]
    · rw [if_neg h2, if_neg h2]
      exact b114_19
  · rw [if_neg h1, if_neg h1]
    exact b114_19
theorem m_isPlace {x y : Int32} {M : aM} : call 218 [.int x, .int y] M = some (some (.int (bI (isPl x y))), M) := by
  unfold isPl
  refine Eq.trans e218 (Eq.trans b218_0 ?_)
  rw [m_in, l64_0, l64_11]
  refine Eq.trans b218_9 ?_
  cases inB x 0 11 with
  | false => exact Eq.trans (if_pos (by decide)) (Eq.trans b218_28 (b218_29 rfl))
  | true =>
    refine Eq.trans (if_neg (by decide)) (Eq.trans b218_12 ?_)
    rw [m_in, l64_0, l64_11]
    refine Eq.trans b218_21 ?_
    cases inB y 0 11 with
    | false => exact Eq.trans (if_pos (by decide)) (Eq.trans b218_28 (b218_29 rfl))
    | true => exact Eq.trans (if_neg (by decide)) (Eq.trans b218_24 (b218_29 rfl))
theorem c_isPlace {x y : Int32} {M : aM} : call 138 [.int x, .int y] M = some (some (.int (bI (isPl x y))), M) := by
  unfold isPl
  refine Eq.trans e138 (Eq.trans b138_0 ?_)
  rw [c_within, l32_0, l32_11]
  refine Eq.trans b138_7 ?_
  cases inB x 0 11 with
  | false => exact Eq.trans (if_pos (by decide)) (Eq.trans b138_24 (b138_25 rfl))
  | true =>
    refine Eq.trans (if_neg (by decide)) (Eq.trans b138_10 ?_)
    rw [c_within, l32_0, l32_11]
    refine Eq.trans b138_17 ?_
    cases inB y 0 11 with
    | false => exact Eq.trans (if_pos (by decide)) (Eq.trans b138_24 (b138_25 rfl))
    | true => exact Eq.trans (if_neg (by decide)) (Eq.trans b138_20 (b138_25 rfl))
theorem s_ground (hZ : Shp Z) {x y n : Int32} : call 219 [.ref 72, .int x, .int y, .int n] (emb I S, G, Z) = if (isPl x y && inB n 0 999) = true then some (some (.int (S 14 (plc x y))), (emb I (up2 S 14 (plc x y) n), G, Z)) else some (some (.int (-1)), (emb I S, G, Z)) := by
  simp only [and_if]
  simp only [e219, b219_0, b219_5, b219_8, b219_17, b219_20, m_in, m_isPlace, bsome, tol1, bI_0, bI_n, mI_t, mL_t, es2, es1, es3, es4, es5, es6, es7, es8, es9, es10, es11, es12, es13, es14, es15, es51, es52, es53, es54, es61, es0, es16, es17, es18, es19, es20, es21, es22, es23, es24, es25, es26, es27, es28, es29, es30, es31, es32, es33, es34, es35, es36, es37, es38, es39, es40, es41, es42, es43, es44, es45, es46, es47, es48, es49, es50, es55, es56, es57, es58, es59, es60, es62, es63, es64, es65, es66, es67, es68, es69, ea73, ea74, ea75, ea76, ea77, ea78, ea79, ea80, ea81, ea82, ea83, ea84, ea85, ea86, ea87, ea88, ea89, ea90, ea91, ea92, ea93, ea94, ea95, ea96, ea97, ea98, ea99, ea100, ea101, ea102, ea103, ea104, ea105, ea106, ea107, ea108, ea109, ea110, ea111, hZ.k72, hZ.r72_16, hZ.r72_17, hZ.r72_18, hZ.r72_19, hZ.r72_20, hZ.r72_21, hZ.r72_22, hZ.r72_23, hZ.r72_24, hZ.r72_25, hZ.r72_26, hZ.r72_35, hZ.r72_36, hZ.r72_37, hZ.r72_38, hZ.r72_39, hZ.r72_40, hZ.r72_41, hZ.r72_42, hZ.r72_43, hZ.r72_44, hZ.r72_45, hZ.r72_46, hZ.r72_47, hZ.r72_48, hZ.r72_49, hZ.r72_50, hZ.r72_55, hZ.r72_56, hZ.r72_57, hZ.r72_58, hZ.r72_59, hZ.r72_60, hZ.r72_62, hZ.r72_63, hZ.r72_64, hZ.r72_65, hZ.r72_66, hZ.r72_67, l64_0, l64_1, l64_2, l64_3, l64_4, l64_5, l64_7, l64_9, l64_10, l64_11, l64_15, l64_20, l64_60, l64_99, l64_140, l64_143, l64_199, l64_200, l64_255, l64_500, l64_999, l64_9999, l64_99999, l64_9999999, l64_m50, l64_m1, Int32.toInt_toInt64]
  by_cases h1 : isPl x y = true
  · rw [if_pos h1, if_pos h1]
    by_cases h2 : inB n 0 999 = true
    · rw [if_pos h2, if_pos h2]
      refine Eq.trans (b219_22 hZ.k72 hZ.kr72_55 (hZ.ir72_55 (pl_ib h1).1)) ?_
      simp only [mI_t, mL_t, wI_t, wL_t, es2, es1, es3, es4, es5, es6, es7, es8, es9, es10, es11, es12, es13, es14, es15, es51, es52, es53, es54, es61, es0, es16, es17, es18, es19, es20, es21, es22, es23, es24, es25, es26, es27, es28, es29, es30, es31, es32, es33, es34, es35, es36, es37, es38, es39, es40, es41, es42, es43, es44, es45, es46, es47, es48, es49, es50, es55, es56, es57, es58, es59, es60, es62, es63, es64, es65, es66, es67, es68, es69, ea73, ea74, ea75, ea76, ea77, ea78, ea79, ea80, ea81, ea82, ea83, ea84, ea85, ea86, ea87, ea88, ea89, ea90, ea91, ea92, ea93, ea94, ea95, ea96, ea97, ea98, ea99, ea100, ea101, ea102, ea103, ea104, ea105, ea106, ea107, ea108, ea109, ea110, ea111, ew2, ew1, ew3, ew4, ew5, ew6, ew7, ew8, ew9, ew10, ew11, ew12, ew13, ew14, ew15, ew51, ew52, ew53, ew54, ew61, ew0, ew16, ew17, ew18, ew19, ew20, ew21, ew22, ew23, ew24, ew25, ew26, ew27, ew28, ew29, ew30, ew31, ew32, ew33, ew34, ew35, ew36, ew37, ew38, ew39, ew40, ew41, ew42, ew43, ew44, ew45, ew46, ew47, ew48, ew49, ew50, ew55, ew56, ew57, ew58, ew59, ew60, ew62, ew63, ew64, ew65, ew66, ew67, ew68, ew69, eb73, eb74, eb75, eb76, eb77, eb78, eb79, eb80, eb81, eb82, eb83, eb84, eb85, eb86, eb87, eb88, eb89, eb90, eb91, eb92, eb93, eb94, eb95, eb96, eb97, eb98, eb99, eb100, eb101, eb102, eb103, eb104, eb105, eb106, eb107, eb108, eb109, eb110, eb111, hZ.k72, hZ.r72_16, hZ.r72_17, hZ.r72_18, hZ.r72_19, hZ.r72_20, hZ.r72_21, hZ.r72_22, hZ.r72_23, hZ.r72_24, hZ.r72_25, hZ.r72_26, hZ.r72_35, hZ.r72_36, hZ.r72_37, hZ.r72_38, hZ.r72_39, hZ.r72_40, hZ.r72_41, hZ.r72_42, hZ.r72_43, hZ.r72_44, hZ.r72_45, hZ.r72_46, hZ.r72_47, hZ.r72_48, hZ.r72_49, hZ.r72_50, hZ.r72_55, hZ.r72_56, hZ.r72_57, hZ.r72_58, hZ.r72_59, hZ.r72_60, hZ.r72_62, hZ.r72_63, hZ.r72_64, hZ.r72_65, hZ.r72_66, hZ.r72_67]
      rfl
    · rw [if_neg h2, if_neg h2]
  · rw [if_neg h1, if_neg h1]
theorem f_ground (hZ : Shp Z) {x y n : Int32} : call 126 [.ref 32, .int x, .int y, .int n] (embB 33 I S, G, Z) = if (isPl x y && inB n 0 999) = true then some (some (.int (S 14 (plc x y))), (embB 33 I (up2 S 14 (plc x y) n), G, Z)) else some (some (.int (-1)), (embB 33 I S, G, Z)) := by
  refine Eq.trans e126 (Eq.trans b126_0 ?_)
  rw [c_isPlace]
  refine Eq.trans b126_5 ?_
  rw [bI_0, and_if]
  by_cases h1 : isPl x y = true
  · rw [if_pos h1, if_pos h1]
    refine Eq.trans b126_8 ?_
    rw [c_within, l32_0, l32_999]
    refine Eq.trans b126_16 ?_
    rw [bI_n]
    by_cases h2 : inB n 0 999 = true
    · rw [if_pos h2, if_pos h2]
      obtain ⟨p1, p2, p3⟩ := pl_ib h1
      refine Eq.trans (b126_21 hZ.k32 hZ.kr32_0 (by rw [hZ.r32_0, hZ.r33_1]; exact hZ.k45)) ?_
      rw [hZ.r32_0, hZ.r33_1, p2, e38, b38_0, c_within, l32_0, l32_143, p3]
      have hg : run 2 38 8 [.ref 45, .int (12 * y + x), .int n, xU] [.int (bI true)] (embB 33 I S, G, Z) = some (some (.int (S 14 (plc x y))), (embB 33 I (up2 S 14 (plc x y) n), G, Z)) := by
        refine Eq.trans b38_8 (Eq.trans (if_pos (by decide)) (Eq.trans (b38_13 hZ.k45 hZ.kr45_0 (hZ.ir45_0 p1)) ?_))
        rw [hZ.r45_0]
        simp only [mI_t, mL_t, wI_t, wL_t, ct3, ct4, ct5, ct6, ct7, ct8, ct9, ct10, ct11, ct13, ct15, ct16, ct17, ct18, ct12, ct14, cs5, cs6, cs7, cs8, cw3, ca46, ca47, ca48, ca52, ca53, ca54, ca55, ca56, wh3, wh4, wh5, wh6, wh7, wh8, wh9, wh10, wh15, wh16, wh17, wh18, wa46, wa47, wa48, wa52, wa53, wa54, wa55, wa56, hZ.k33, hZ.r33_0, hZ.r33_1, hZ.r33_2, hZ.r33_3, hZ.r33_4, hZ.k34, hZ.r34_0, hZ.r34_1, hZ.r34_2]
        rfl
      rw [bsome, tol1, hg]
      exact b126_38
    · rw [if_neg h2, if_neg h2]
      exact b126_19
  · rw [if_neg h1, if_neg h1]
    exact b126_19
theorem s_place (hZ : Shp Z) {x y w : Int32} : call 225 [.ref 72, .int x, .int y, .int w] (emb I S, G, Z) = some (some (.int (if (isPl x y && inB w 0 3) = true then placeS S (plc x y) w else -1000)), (emb I S, G, Z)) := by
  simp only [and_if]
  simp only [e225, b225_0, b225_5, b225_8, b225_17, b225_20, m_in, m_isPlace, bsome, tol1, bI_0, bI_n, mI_t, mL_t, es2, es1, es3, es4, es5, es6, es7, es8, es9, es10, es11, es12, es13, es14, es15, es51, es52, es53, es54, es61, es0, es16, es17, es18, es19, es20, es21, es22, es23, es24, es25, es26, es27, es28, es29, es30, es31, es32, es33, es34, es35, es36, es37, es38, es39, es40, es41, es42, es43, es44, es45, es46, es47, es48, es49, es50, es55, es56, es57, es58, es59, es60, es62, es63, es64, es65, es66, es67, es68, es69, ea73, ea74, ea75, ea76, ea77, ea78, ea79, ea80, ea81, ea82, ea83, ea84, ea85, ea86, ea87, ea88, ea89, ea90, ea91, ea92, ea93, ea94, ea95, ea96, ea97, ea98, ea99, ea100, ea101, ea102, ea103, ea104, ea105, ea106, ea107, ea108, ea109, ea110, ea111, hZ.k72, hZ.r72_16, hZ.r72_17, hZ.r72_18, hZ.r72_19, hZ.r72_20, hZ.r72_21, hZ.r72_22, hZ.r72_23, hZ.r72_24, hZ.r72_25, hZ.r72_26, hZ.r72_35, hZ.r72_36, hZ.r72_37, hZ.r72_38, hZ.r72_39, hZ.r72_40, hZ.r72_41, hZ.r72_42, hZ.r72_43, hZ.r72_44, hZ.r72_45, hZ.r72_46, hZ.r72_47, hZ.r72_48, hZ.r72_49, hZ.r72_50, hZ.r72_55, hZ.r72_56, hZ.r72_57, hZ.r72_58, hZ.r72_59, hZ.r72_60, hZ.r72_62, hZ.r72_63, hZ.r72_64, hZ.r72_65, hZ.r72_66, hZ.r72_67, l64_0, l64_1, l64_2, l64_3, l64_4, l64_5, l64_7, l64_9, l64_10, l64_11, l64_15, l64_20, l64_60, l64_99, l64_140, l64_143, l64_199, l64_200, l64_255, l64_500, l64_999, l64_9999, l64_99999, l64_9999999, l64_m50, l64_m1, Int32.toInt_toInt64]
  by_cases h1 : isPl x y = true
  · rw [if_pos h1, if_pos h1]
    obtain ⟨p1, p2, p3⟩ := pl_ib h1
    by_cases h2 : inB w 0 3 = true
    · rw [if_pos h2, if_pos h2]
      unfold placeS
      by_cases h0 : w = 0
      · rw [if_pos h0]
        refine Eq.trans (b225_24_c0 h0) (Eq.trans (b225_60 hZ.k72 hZ.kr72_56 (hZ.ir72_56 p1)) ?_)
        simp only [mI_t, mL_t, es2, es1, es3, es4, es5, es6, es7, es8, es9, es10, es11, es12, es13, es14, es15, es51, es52, es53, es54, es61, es0, es16, es17, es18, es19, es20, es21, es22, es23, es24, es25, es26, es27, es28, es29, es30, es31, es32, es33, es34, es35, es36, es37, es38, es39, es40, es41, es42, es43, es44, es45, es46, es47, es48, es49, es50, es55, es56, es57, es58, es59, es60, es62, es63, es64, es65, es66, es67, es68, es69, ea73, ea74, ea75, ea76, ea77, ea78, ea79, ea80, ea81, ea82, ea83, ea84, ea85, ea86, ea87, ea88, ea89, ea90, ea91, ea92, ea93, ea94, ea95, ea96, ea97, ea98, ea99, ea100, ea101, ea102, ea103, ea104, ea105, ea106, ea107, ea108, ea109, ea110, ea111, hZ.k72, hZ.r72_16, hZ.r72_17, hZ.r72_18, hZ.r72_19, hZ.r72_20, hZ.r72_21, hZ.r72_22, hZ.r72_23, hZ.r72_24, hZ.r72_25, hZ.r72_26, hZ.r72_35, hZ.r72_36, hZ.r72_37, hZ.r72_38, hZ.r72_39, hZ.r72_40, hZ.r72_41, hZ.r72_42, hZ.r72_43, hZ.r72_44, hZ.r72_45, hZ.r72_46, hZ.r72_47, hZ.r72_48, hZ.r72_49, hZ.r72_50, hZ.r72_55, hZ.r72_56, hZ.r72_57, hZ.r72_58, hZ.r72_59, hZ.r72_60, hZ.r72_62, hZ.r72_63, hZ.r72_64, hZ.r72_65, hZ.r72_66, hZ.r72_67]
        rfl
      rw [if_neg h0]
      by_cases h3 : w = 1
      · rw [if_pos h3]
        refine Eq.trans (b225_24_c1 h3) (Eq.trans (b225_68 hZ.k72 hZ.kr72_55 (hZ.ir72_55 p1) hZ.kr72_56 (hZ.ir72_56 p1)) ?_)
        simp only [mI_t, mL_t, es2, es1, es3, es4, es5, es6, es7, es8, es9, es10, es11, es12, es13, es14, es15, es51, es52, es53, es54, es61, es0, es16, es17, es18, es19, es20, es21, es22, es23, es24, es25, es26, es27, es28, es29, es30, es31, es32, es33, es34, es35, es36, es37, es38, es39, es40, es41, es42, es43, es44, es45, es46, es47, es48, es49, es50, es55, es56, es57, es58, es59, es60, es62, es63, es64, es65, es66, es67, es68, es69, ea73, ea74, ea75, ea76, ea77, ea78, ea79, ea80, ea81, ea82, ea83, ea84, ea85, ea86, ea87, ea88, ea89, ea90, ea91, ea92, ea93, ea94, ea95, ea96, ea97, ea98, ea99, ea100, ea101, ea102, ea103, ea104, ea105, ea106, ea107, ea108, ea109, ea110, ea111, hZ.k72, hZ.r72_16, hZ.r72_17, hZ.r72_18, hZ.r72_19, hZ.r72_20, hZ.r72_21, hZ.r72_22, hZ.r72_23, hZ.r72_24, hZ.r72_25, hZ.r72_26, hZ.r72_35, hZ.r72_36, hZ.r72_37, hZ.r72_38, hZ.r72_39, hZ.r72_40, hZ.r72_41, hZ.r72_42, hZ.r72_43, hZ.r72_44, hZ.r72_45, hZ.r72_46, hZ.r72_47, hZ.r72_48, hZ.r72_49, hZ.r72_50, hZ.r72_55, hZ.r72_56, hZ.r72_57, hZ.r72_58, hZ.r72_59, hZ.r72_60, hZ.r72_62, hZ.r72_63, hZ.r72_64, hZ.r72_65, hZ.r72_66, hZ.r72_67]
        rfl
      rw [if_neg h3]
      by_cases h4 : w = 2
      · rw [if_pos h4]
        refine Eq.trans (b225_24_c2 h4) (Eq.trans (b225_84 hZ.k72 hZ.kr72_57 (hZ.ir72_57 p1)) ?_)
        simp only [mI_t, mL_t, es2, es1, es3, es4, es5, es6, es7, es8, es9, es10, es11, es12, es13, es14, es15, es51, es52, es53, es54, es61, es0, es16, es17, es18, es19, es20, es21, es22, es23, es24, es25, es26, es27, es28, es29, es30, es31, es32, es33, es34, es35, es36, es37, es38, es39, es40, es41, es42, es43, es44, es45, es46, es47, es48, es49, es50, es55, es56, es57, es58, es59, es60, es62, es63, es64, es65, es66, es67, es68, es69, ea73, ea74, ea75, ea76, ea77, ea78, ea79, ea80, ea81, ea82, ea83, ea84, ea85, ea86, ea87, ea88, ea89, ea90, ea91, ea92, ea93, ea94, ea95, ea96, ea97, ea98, ea99, ea100, ea101, ea102, ea103, ea104, ea105, ea106, ea107, ea108, ea109, ea110, ea111, hZ.k72, hZ.r72_16, hZ.r72_17, hZ.r72_18, hZ.r72_19, hZ.r72_20, hZ.r72_21, hZ.r72_22, hZ.r72_23, hZ.r72_24, hZ.r72_25, hZ.r72_26, hZ.r72_35, hZ.r72_36, hZ.r72_37, hZ.r72_38, hZ.r72_39, hZ.r72_40, hZ.r72_41, hZ.r72_42, hZ.r72_43, hZ.r72_44, hZ.r72_45, hZ.r72_46, hZ.r72_47, hZ.r72_48, hZ.r72_49, hZ.r72_50, hZ.r72_55, hZ.r72_56, hZ.r72_57, hZ.r72_58, hZ.r72_59, hZ.r72_60, hZ.r72_62, hZ.r72_63, hZ.r72_64, hZ.r72_65, hZ.r72_66, hZ.r72_67]
        rfl
      rw [if_neg h4]
      have q0 := sw_ne (n := 0) (by omega) h0
      have q1 := sw_ne (n := 1) (by omega) h3
      have q2 := sw_ne (n := 2) (by omega) h4
      refine Eq.trans (b225_24_d (by omega)) (Eq.trans (b225_92 hZ.k72) ?_)
      simp only [mI_t, mL_t, es2, es1, es3, es4, es5, es6, es7, es8, es9, es10, es11, es12, es13, es14, es15, es51, es52, es53, es54, es61, es0, es16, es17, es18, es19, es20, es21, es22, es23, es24, es25, es26, es27, es28, es29, es30, es31, es32, es33, es34, es35, es36, es37, es38, es39, es40, es41, es42, es43, es44, es45, es46, es47, es48, es49, es50, es55, es56, es57, es58, es59, es60, es62, es63, es64, es65, es66, es67, es68, es69, ea73, ea74, ea75, ea76, ea77, ea78, ea79, ea80, ea81, ea82, ea83, ea84, ea85, ea86, ea87, ea88, ea89, ea90, ea91, ea92, ea93, ea94, ea95, ea96, ea97, ea98, ea99, ea100, ea101, ea102, ea103, ea104, ea105, ea106, ea107, ea108, ea109, ea110, ea111, hZ.k72, hZ.r72_16, hZ.r72_17, hZ.r72_18, hZ.r72_19, hZ.r72_20, hZ.r72_21, hZ.r72_22, hZ.r72_23, hZ.r72_24, hZ.r72_25, hZ.r72_26, hZ.r72_35, hZ.r72_36, hZ.r72_37, hZ.r72_38, hZ.r72_39, hZ.r72_40, hZ.r72_41, hZ.r72_42, hZ.r72_43, hZ.r72_44, hZ.r72_45, hZ.r72_46, hZ.r72_47, hZ.r72_48, hZ.r72_49, hZ.r72_50, hZ.r72_55, hZ.r72_56, hZ.r72_57, hZ.r72_58, hZ.r72_59, hZ.r72_60, hZ.r72_62, hZ.r72_63, hZ.r72_64, hZ.r72_65, hZ.r72_66, hZ.r72_67]
      by_cases h5 : S 0 15 = 0
      · rw [if_pos h5, if_pos h5]
        exact Eq.trans b225_109 b225_110
      · rw [if_neg h5, if_neg h5]
        refine (Eq.trans (b225_99 hZ.k72 hZ.kr72_58 (hZ.ir72_58 p1)) (Eq.trans b225_110 ?_))
        simp only [mI_t, mL_t, es2, es1, es3, es4, es5, es6, es7, es8, es9, es10, es11, es12, es13, es14, es15, es51, es52, es53, es54, es61, es0, es16, es17, es18, es19, es20, es21, es22, es23, es24, es25, es26, es27, es28, es29, es30, es31, es32, es33, es34, es35, es36, es37, es38, es39, es40, es41, es42, es43, es44, es45, es46, es47, es48, es49, es50, es55, es56, es57, es58, es59, es60, es62, es63, es64, es65, es66, es67, es68, es69, ea73, ea74, ea75, ea76, ea77, ea78, ea79, ea80, ea81, ea82, ea83, ea84, ea85, ea86, ea87, ea88, ea89, ea90, ea91, ea92, ea93, ea94, ea95, ea96, ea97, ea98, ea99, ea100, ea101, ea102, ea103, ea104, ea105, ea106, ea107, ea108, ea109, ea110, ea111, hZ.k72, hZ.r72_16, hZ.r72_17, hZ.r72_18, hZ.r72_19, hZ.r72_20, hZ.r72_21, hZ.r72_22, hZ.r72_23, hZ.r72_24, hZ.r72_25, hZ.r72_26, hZ.r72_35, hZ.r72_36, hZ.r72_37, hZ.r72_38, hZ.r72_39, hZ.r72_40, hZ.r72_41, hZ.r72_42, hZ.r72_43, hZ.r72_44, hZ.r72_45, hZ.r72_46, hZ.r72_47, hZ.r72_48, hZ.r72_49, hZ.r72_50, hZ.r72_55, hZ.r72_56, hZ.r72_57, hZ.r72_58, hZ.r72_59, hZ.r72_60, hZ.r72_62, hZ.r72_63, hZ.r72_64, hZ.r72_65, hZ.r72_66, hZ.r72_67]
        rfl
    · rw [if_neg h2, if_neg h2]
  · rw [if_neg h1, if_neg h1]
theorem f_place (hZ : Shp Z) {x y w : Int32} : call 129 [.ref 32, .int x, .int y, .int w] (embB 33 I S, G, Z) = some (some (.int (if (isPl x y && inB w 0 3) = true then placeS S (plc x y) w else -1000)), (embB 33 I S, G, Z)) := by
  refine Eq.trans e129 (Eq.trans b129_0 ?_)
  rw [c_isPlace]
  refine Eq.trans b129_5 ?_
  rw [bI_n, and_if]
  by_cases h1 : isPl x y = true
  · rw [if_pos h1, if_pos h1]
    obtain ⟨p1, p2, p3⟩ := pl_ib h1
    refine Eq.trans (b129_12 hZ.k32 hZ.kr32_0 (by rw [hZ.r32_0, hZ.r33_1]; exact hZ.k45)) ?_
    rw [hZ.r32_0, hZ.r33_1, p2]
    have hg : call 44 [.ref 45, .int (12 * y + x), .int w] (embB 33 I S, G, Z) = some (some (.int (if inB w 0 3 = true then placeS S (plc x y) w else -1000)), (embB 33 I S, G, Z)) := by
      refine Eq.trans e44 (Eq.trans b44_0 ?_)
      rw [c_within, l32_0, l32_143, p3]
      refine Eq.trans b44_8 (Eq.trans (if_pos (by decide)) ?_)
      unfold placeS
      by_cases h0 : w = 0
      · rw [if_pos (by rw [h0]; decide), if_pos h0]
        refine Eq.trans (b44_15_c0 h0) (Eq.trans (b44_48 hZ.k45 hZ.kr45_1 (hZ.ir45_1 p1)) ?_)
        rw [hZ.r45_1]
        simp only [mI_t, mL_t, ct3, ct4, ct5, ct6, ct7, ct8, ct9, ct10, ct11, ct13, ct15, ct16, ct17, ct18, ct12, ct14, cs5, cs6, cs7, cs8, cw3, ca46, ca47, ca48, ca52, ca53, ca54, ca55, ca56, hZ.k33, hZ.r33_0, hZ.r33_1, hZ.r33_2, hZ.r33_3, hZ.r33_4, hZ.k34, hZ.r34_0, hZ.r34_1, hZ.r34_2]
        rfl
      by_cases h3 : w = 1
      · rw [if_pos (by rw [h3]; decide), if_neg h0, if_pos h3]
        refine Eq.trans (b44_15_c1 h3) (Eq.trans (b44_55 hZ.k45 hZ.kr45_0 (hZ.ir45_0 p1) hZ.kr45_1 (hZ.ir45_1 p1)) ?_)
        rw [hZ.r45_1, hZ.r45_0]
        simp only [mI_t, mL_t, ct3, ct4, ct5, ct6, ct7, ct8, ct9, ct10, ct11, ct13, ct15, ct16, ct17, ct18, ct12, ct14, cs5, cs6, cs7, cs8, cw3, ca46, ca47, ca48, ca52, ca53, ca54, ca55, ca56, hZ.k33, hZ.r33_0, hZ.r33_1, hZ.r33_2, hZ.r33_3, hZ.r33_4, hZ.k34, hZ.r34_0, hZ.r34_1, hZ.r34_2]
        rfl
      by_cases h4 : w = 2
      · rw [if_pos (by rw [h4]; decide), if_neg h0, if_neg h3, if_pos h4]
        refine Eq.trans (b44_15_c2 h4) (Eq.trans (b44_69 hZ.k45 hZ.kr45_2 (hZ.ir45_2 p1)) ?_)
        rw [hZ.r45_2]
        simp only [mI_t, mL_t, ct3, ct4, ct5, ct6, ct7, ct8, ct9, ct10, ct11, ct13, ct15, ct16, ct17, ct18, ct12, ct14, cs5, cs6, cs7, cs8, cw3, ca46, ca47, ca48, ca52, ca53, ca54, ca55, ca56, hZ.k33, hZ.r33_0, hZ.r33_1, hZ.r33_2, hZ.r33_3, hZ.r33_4, hZ.k34, hZ.r34_0, hZ.r34_1, hZ.r34_2]
        rfl
      by_cases h6 : w = 3
      · rw [if_pos (by rw [h6]; decide), if_neg h0, if_neg h3, if_neg h4]
        refine Eq.trans (b44_15_c3 h6) (Eq.trans (b44_76 hZ.k45 hZ.kr45_3 (hZ.ir45_3 p1)) ?_)
        rw [hZ.r45_3, mI_t, ccame]
        have hl : (12 * y + x).toNatClampNeg < 144 := by
          have := inB_iff.mp p3
          rw [Int32.toNatClampNeg]
          omega
        by_cases h5 : S 0 15 = 0
        · rw [if_pos ⟨h5, hl⟩, if_pos h5]
        · rw [if_neg (fun q => h5 q.1), if_neg h5]
          rfl
      have q0 := sw_ne (n := 0) (by omega) h0
      have q1 := sw_ne (n := 1) (by omega) h3
      have q2 := sw_ne (n := 2) (by omega) h4
      have q3 := sw_ne (n := 3) (by omega) h6
      rw [if_neg (show ¬ inB w 0 3 = true from fun q => by have := inB_iff.mp q; omega)]
      exact Eq.trans (b44_15_d (by omega)) b44_83
    rw [hg]
    exact b129_29
  · rw [if_neg h1, if_neg h1]
    exact b129_8
theorem wit_lt (h6 : Wf6 S) (h : ¬ S 0 19 = 300) : (S 0 19).toNatClampNeg < 300 := by
  rcases Nat.lt_or_ge (S 0 19).toNatClampNeg 300 with q | q
  · exact q
  · have := h6.2
    exact absurd (by rw [h6.1, show (S 0 19).toNatClampNeg = 300 by omega]; rfl) h
theorem s_witness (hZ : Shp Z) (h6 : Wf6 S) {h a p : Int32} : call 226 [.ref 72, .int h, .int a, .int p] (emb I S, G, Z) = if witOK S h a p = true then some (some (.int (S 0 19 + 1)), (emb I (witS S h a p), G, Z)) else some (some (.int (-1)), (emb I S, G, Z)) := by
  unfold witOK
  simp only [and_if, ndec_if]
  simp only [e226, b226_0, b226_10, b226_21, b226_24, b226_33, b226_36, b226_45, b226_48, m_in, bsome, tol1, bI_0, bI_n, nif, mI_t, mL_t, es2, es1, es3, es4, es5, es6, es7, es8, es9, es10, es11, es12, es13, es14, es15, es51, es52, es53, es54, es61, es0, es16, es17, es18, es19, es20, es21, es22, es23, es24, es25, es26, es27, es28, es29, es30, es31, es32, es33, es34, es35, es36, es37, es38, es39, es40, es41, es42, es43, es44, es45, es46, es47, es48, es49, es50, es55, es56, es57, es58, es59, es60, es62, es63, es64, es65, es66, es67, es68, es69, ea73, ea74, ea75, ea76, ea77, ea78, ea79, ea80, ea81, ea82, ea83, ea84, ea85, ea86, ea87, ea88, ea89, ea90, ea91, ea92, ea93, ea94, ea95, ea96, ea97, ea98, ea99, ea100, ea101, ea102, ea103, ea104, ea105, ea106, ea107, ea108, ea109, ea110, ea111, hZ.k72, hZ.r72_16, hZ.r72_17, hZ.r72_18, hZ.r72_19, hZ.r72_20, hZ.r72_21, hZ.r72_22, hZ.r72_23, hZ.r72_24, hZ.r72_25, hZ.r72_26, hZ.r72_35, hZ.r72_36, hZ.r72_37, hZ.r72_38, hZ.r72_39, hZ.r72_40, hZ.r72_41, hZ.r72_42, hZ.r72_43, hZ.r72_44, hZ.r72_45, hZ.r72_46, hZ.r72_47, hZ.r72_48, hZ.r72_49, hZ.r72_50, hZ.r72_55, hZ.r72_56, hZ.r72_57, hZ.r72_58, hZ.r72_59, hZ.r72_60, hZ.r72_62, hZ.r72_63, hZ.r72_64, hZ.r72_65, hZ.r72_66, hZ.r72_67, l64_0, l64_1, l64_2, l64_3, l64_4, l64_5, l64_7, l64_9, l64_10, l64_11, l64_15, l64_20, l64_60, l64_99, l64_140, l64_143, l64_199, l64_200, l64_255, l64_500, l64_999, l64_9999, l64_99999, l64_9999999, l64_m50, l64_m1, Int32.toInt_toInt64]
  by_cases h3 : S 0 19 = 300
  · rw [if_pos h3, if_pos h3]
  · rw [if_neg h3, if_neg h3]
    have hb : ib (S 0 19) 300 := by rw [h6.1]; exact ib_iN (by have := h6.2; omega) (wit_lt h6 h3)
    have hmain : run 2 226 50 [.ref 72, .int h, .int a, .int p] [] (emb I S, G, Z) = some (some (.int (S 0 19 + 1)), (emb I (witS S h a p), G, Z)) := by
      refine Eq.trans (b226_50 hZ.k72 hZ.kr72_62 (hZ.ir72_62 (by simp only [mI_t, mL_t, wI_t, wL_t, es2, es1, es3, es4, es5, es6, es7, es8, es9, es10, es11, es12, es13, es14, es15, es51, es52, es53, es54, es61, es0, es16, es17, es18, es19, es20, es21, es22, es23, es24, es25, es26, es27, es28, es29, es30, es31, es32, es33, es34, es35, es36, es37, es38, es39, es40, es41, es42, es43, es44, es45, es46, es47, es48, es49, es50, es55, es56, es57, es58, es59, es60, es62, es63, es64, es65, es66, es67, es68, es69, ea73, ea74, ea75, ea76, ea77, ea78, ea79, ea80, ea81, ea82, ea83, ea84, ea85, ea86, ea87, ea88, ea89, ea90, ea91, ea92, ea93, ea94, ea95, ea96, ea97, ea98, ea99, ea100, ea101, ea102, ea103, ea104, ea105, ea106, ea107, ea108, ea109, ea110, ea111, ew2, ew1, ew3, ew4, ew5, ew6, ew7, ew8, ew9, ew10, ew11, ew12, ew13, ew14, ew15, ew51, ew52, ew53, ew54, ew61, ew0, ew16, ew17, ew18, ew19, ew20, ew21, ew22, ew23, ew24, ew25, ew26, ew27, ew28, ew29, ew30, ew31, ew32, ew33, ew34, ew35, ew36, ew37, ew38, ew39, ew40, ew41, ew42, ew43, ew44, ew45, ew46, ew47, ew48, ew49, ew50, ew55, ew56, ew57, ew58, ew59, ew60, ew62, ew63, ew64, ew65, ew66, ew67, ew68, ew69, eb73, eb74, eb75, eb76, eb77, eb78, eb79, eb80, eb81, eb82, eb83, eb84, eb85, eb86, eb87, eb88, eb89, eb90, eb91, eb92, eb93, eb94, eb95, eb96, eb97, eb98, eb99, eb100, eb101, eb102, eb103, eb104, eb105, eb106, eb107, eb108, eb109, eb110, eb111, hZ.k72, hZ.r72_16, hZ.r72_17, hZ.r72_18, hZ.r72_19, hZ.r72_20, hZ.r72_21, hZ.r72_22, hZ.r72_23, hZ.r72_24, hZ.r72_25, hZ.r72_26, hZ.r72_35, hZ.r72_36, hZ.r72_37, hZ.r72_38, hZ.r72_39, hZ.r72_40, hZ.r72_41, hZ.r72_42, hZ.r72_43, hZ.r72_44, hZ.r72_45, hZ.r72_46, hZ.r72_47, hZ.r72_48, hZ.r72_49, hZ.r72_50, hZ.r72_55, hZ.r72_56, hZ.r72_57, hZ.r72_58, hZ.r72_59, hZ.r72_60, hZ.r72_62, hZ.r72_63, hZ.r72_64, hZ.r72_65, hZ.r72_66, hZ.r72_67]; exact hb)) hZ.kr72_63 (hZ.ir72_63 (by simp only [mI_t, mL_t, wI_t, wL_t, es2, es1, es3, es4, es5, es6, es7, es8, es9, es10, es11, es12, es13, es14, es15, es51, es52, es53, es54, es61, es0, es16, es17, es18, es19, es20, es21, es22, es23, es24, es25, es26, es27, es28, es29, es30, es31, es32, es33, es34, es35, es36, es37, es38, es39, es40, es41, es42, es43, es44, es45, es46, es47, es48, es49, es50, es55, es56, es57, es58, es59, es60, es62, es63, es64, es65, es66, es67, es68, es69, ea73, ea74, ea75, ea76, ea77, ea78, ea79, ea80, ea81, ea82, ea83, ea84, ea85, ea86, ea87, ea88, ea89, ea90, ea91, ea92, ea93, ea94, ea95, ea96, ea97, ea98, ea99, ea100, ea101, ea102, ea103, ea104, ea105, ea106, ea107, ea108, ea109, ea110, ea111, ew2, ew1, ew3, ew4, ew5, ew6, ew7, ew8, ew9, ew10, ew11, ew12, ew13, ew14, ew15, ew51, ew52, ew53, ew54, ew61, ew0, ew16, ew17, ew18, ew19, ew20, ew21, ew22, ew23, ew24, ew25, ew26, ew27, ew28, ew29, ew30, ew31, ew32, ew33, ew34, ew35, ew36, ew37, ew38, ew39, ew40, ew41, ew42, ew43, ew44, ew45, ew46, ew47, ew48, ew49, ew50, ew55, ew56, ew57, ew58, ew59, ew60, ew62, ew63, ew64, ew65, ew66, ew67, ew68, ew69, eb73, eb74, eb75, eb76, eb77, eb78, eb79, eb80, eb81, eb82, eb83, eb84, eb85, eb86, eb87, eb88, eb89, eb90, eb91, eb92, eb93, eb94, eb95, eb96, eb97, eb98, eb99, eb100, eb101, eb102, eb103, eb104, eb105, eb106, eb107, eb108, eb109, eb110, eb111, hZ.k72, hZ.r72_16, hZ.r72_17, hZ.r72_18, hZ.r72_19, hZ.r72_20, hZ.r72_21, hZ.r72_22, hZ.r72_23, hZ.r72_24, hZ.r72_25, hZ.r72_26, hZ.r72_35, hZ.r72_36, hZ.r72_37, hZ.r72_38, hZ.r72_39, hZ.r72_40, hZ.r72_41, hZ.r72_42, hZ.r72_43, hZ.r72_44, hZ.r72_45, hZ.r72_46, hZ.r72_47, hZ.r72_48, hZ.r72_49, hZ.r72_50, hZ.r72_55, hZ.r72_56, hZ.r72_57, hZ.r72_58, hZ.r72_59, hZ.r72_60, hZ.r72_62, hZ.r72_63, hZ.r72_64, hZ.r72_65, hZ.r72_66, hZ.r72_67]; exact hb)) hZ.kr72_64 (hZ.ir72_64 (by simp only [mI_t, mL_t, wI_t, wL_t, es2, es1, es3, es4, es5, es6, es7, es8, es9, es10, es11, es12, es13, es14, es15, es51, es52, es53, es54, es61, es0, es16, es17, es18, es19, es20, es21, es22, es23, es24, es25, es26, es27, es28, es29, es30, es31, es32, es33, es34, es35, es36, es37, es38, es39, es40, es41, es42, es43, es44, es45, es46, es47, es48, es49, es50, es55, es56, es57, es58, es59, es60, es62, es63, es64, es65, es66, es67, es68, es69, ea73, ea74, ea75, ea76, ea77, ea78, ea79, ea80, ea81, ea82, ea83, ea84, ea85, ea86, ea87, ea88, ea89, ea90, ea91, ea92, ea93, ea94, ea95, ea96, ea97, ea98, ea99, ea100, ea101, ea102, ea103, ea104, ea105, ea106, ea107, ea108, ea109, ea110, ea111, ew2, ew1, ew3, ew4, ew5, ew6, ew7, ew8, ew9, ew10, ew11, ew12, ew13, ew14, ew15, ew51, ew52, ew53, ew54, ew61, ew0, ew16, ew17, ew18, ew19, ew20, ew21, ew22, ew23, ew24, ew25, ew26, ew27, ew28, ew29, ew30, ew31, ew32, ew33, ew34, ew35, ew36, ew37, ew38, ew39, ew40, ew41, ew42, ew43, ew44, ew45, ew46, ew47, ew48, ew49, ew50, ew55, ew56, ew57, ew58, ew59, ew60, ew62, ew63, ew64, ew65, ew66, ew67, ew68, ew69, eb73, eb74, eb75, eb76, eb77, eb78, eb79, eb80, eb81, eb82, eb83, eb84, eb85, eb86, eb87, eb88, eb89, eb90, eb91, eb92, eb93, eb94, eb95, eb96, eb97, eb98, eb99, eb100, eb101, eb102, eb103, eb104, eb105, eb106, eb107, eb108, eb109, eb110, eb111, hZ.k72, hZ.r72_16, hZ.r72_17, hZ.r72_18, hZ.r72_19, hZ.r72_20, hZ.r72_21, hZ.r72_22, hZ.r72_23, hZ.r72_24, hZ.r72_25, hZ.r72_26, hZ.r72_35, hZ.r72_36, hZ.r72_37, hZ.r72_38, hZ.r72_39, hZ.r72_40, hZ.r72_41, hZ.r72_42, hZ.r72_43, hZ.r72_44, hZ.r72_45, hZ.r72_46, hZ.r72_47, hZ.r72_48, hZ.r72_49, hZ.r72_50, hZ.r72_55, hZ.r72_56, hZ.r72_57, hZ.r72_58, hZ.r72_59, hZ.r72_60, hZ.r72_62, hZ.r72_63, hZ.r72_64, hZ.r72_65, hZ.r72_66, hZ.r72_67]; exact hb))) ?_
      simp only [mI_t, mL_t, wI_t, wL_t, es2, es1, es3, es4, es5, es6, es7, es8, es9, es10, es11, es12, es13, es14, es15, es51, es52, es53, es54, es61, es0, es16, es17, es18, es19, es20, es21, es22, es23, es24, es25, es26, es27, es28, es29, es30, es31, es32, es33, es34, es35, es36, es37, es38, es39, es40, es41, es42, es43, es44, es45, es46, es47, es48, es49, es50, es55, es56, es57, es58, es59, es60, es62, es63, es64, es65, es66, es67, es68, es69, ea73, ea74, ea75, ea76, ea77, ea78, ea79, ea80, ea81, ea82, ea83, ea84, ea85, ea86, ea87, ea88, ea89, ea90, ea91, ea92, ea93, ea94, ea95, ea96, ea97, ea98, ea99, ea100, ea101, ea102, ea103, ea104, ea105, ea106, ea107, ea108, ea109, ea110, ea111, ew2, ew1, ew3, ew4, ew5, ew6, ew7, ew8, ew9, ew10, ew11, ew12, ew13, ew14, ew15, ew51, ew52, ew53, ew54, ew61, ew0, ew16, ew17, ew18, ew19, ew20, ew21, ew22, ew23, ew24, ew25, ew26, ew27, ew28, ew29, ew30, ew31, ew32, ew33, ew34, ew35, ew36, ew37, ew38, ew39, ew40, ew41, ew42, ew43, ew44, ew45, ew46, ew47, ew48, ew49, ew50, ew55, ew56, ew57, ew58, ew59, ew60, ew62, ew63, ew64, ew65, ew66, ew67, ew68, ew69, eb73, eb74, eb75, eb76, eb77, eb78, eb79, eb80, eb81, eb82, eb83, eb84, eb85, eb86, eb87, eb88, eb89, eb90, eb91, eb92, eb93, eb94, eb95, eb96, eb97, eb98, eb99, eb100, eb101, eb102, eb103, eb104, eb105, eb106, eb107, eb108, eb109, eb110, eb111, hZ.k72, hZ.r72_16, hZ.r72_17, hZ.r72_18, hZ.r72_19, hZ.r72_20, hZ.r72_21, hZ.r72_22, hZ.r72_23, hZ.r72_24, hZ.r72_25, hZ.r72_26, hZ.r72_35, hZ.r72_36, hZ.r72_37, hZ.r72_38, hZ.r72_39, hZ.r72_40, hZ.r72_41, hZ.r72_42, hZ.r72_43, hZ.r72_44, hZ.r72_45, hZ.r72_46, hZ.r72_47, hZ.r72_48, hZ.r72_49, hZ.r72_50, hZ.r72_55, hZ.r72_56, hZ.r72_57, hZ.r72_58, hZ.r72_59, hZ.r72_60, hZ.r72_62, hZ.r72_63, hZ.r72_64, hZ.r72_65, hZ.r72_66, hZ.r72_67]
      refine Eq.trans (b226_80 hZ.k72) ?_
      simp only [mI_t, mL_t, wI_t, wL_t, es2, es1, es3, es4, es5, es6, es7, es8, es9, es10, es11, es12, es13, es14, es15, es51, es52, es53, es54, es61, es0, es16, es17, es18, es19, es20, es21, es22, es23, es24, es25, es26, es27, es28, es29, es30, es31, es32, es33, es34, es35, es36, es37, es38, es39, es40, es41, es42, es43, es44, es45, es46, es47, es48, es49, es50, es55, es56, es57, es58, es59, es60, es62, es63, es64, es65, es66, es67, es68, es69, ea73, ea74, ea75, ea76, ea77, ea78, ea79, ea80, ea81, ea82, ea83, ea84, ea85, ea86, ea87, ea88, ea89, ea90, ea91, ea92, ea93, ea94, ea95, ea96, ea97, ea98, ea99, ea100, ea101, ea102, ea103, ea104, ea105, ea106, ea107, ea108, ea109, ea110, ea111, ew2, ew1, ew3, ew4, ew5, ew6, ew7, ew8, ew9, ew10, ew11, ew12, ew13, ew14, ew15, ew51, ew52, ew53, ew54, ew61, ew0, ew16, ew17, ew18, ew19, ew20, ew21, ew22, ew23, ew24, ew25, ew26, ew27, ew28, ew29, ew30, ew31, ew32, ew33, ew34, ew35, ew36, ew37, ew38, ew39, ew40, ew41, ew42, ew43, ew44, ew45, ew46, ew47, ew48, ew49, ew50, ew55, ew56, ew57, ew58, ew59, ew60, ew62, ew63, ew64, ew65, ew66, ew67, ew68, ew69, eb73, eb74, eb75, eb76, eb77, eb78, eb79, eb80, eb81, eb82, eb83, eb84, eb85, eb86, eb87, eb88, eb89, eb90, eb91, eb92, eb93, eb94, eb95, eb96, eb97, eb98, eb99, eb100, eb101, eb102, eb103, eb104, eb105, eb106, eb107, eb108, eb109, eb110, eb111, hZ.k72, hZ.r72_16, hZ.r72_17, hZ.r72_18, hZ.r72_19, hZ.r72_20, hZ.r72_21, hZ.r72_22, hZ.r72_23, hZ.r72_24, hZ.r72_25, hZ.r72_26, hZ.r72_35, hZ.r72_36, hZ.r72_37, hZ.r72_38, hZ.r72_39, hZ.r72_40, hZ.r72_41, hZ.r72_42, hZ.r72_43, hZ.r72_44, hZ.r72_45, hZ.r72_46, hZ.r72_47, hZ.r72_48, hZ.r72_49, hZ.r72_50, hZ.r72_55, hZ.r72_56, hZ.r72_57, hZ.r72_58, hZ.r72_59, hZ.r72_60, hZ.r72_62, hZ.r72_63, hZ.r72_64, hZ.r72_65, hZ.r72_66, hZ.r72_67]
      rfl
    rw [hmain]
theorem f_witness (hZ : Shp Z) (h6 : Wf6 S) {h a p : Int32} : call 130 [.ref 32, .int h, .int a, .int p] (embB 33 I S, G, Z) = if witOK S h a p = true then some (some (.int (S 0 19 + 1)), (embB 33 I (witS S h a p), G, Z)) else some (some (.int (-1)), (embB 33 I S, G, Z)) := by
  have hq : (mK (embB 33 I S, G, Z) (mR (embB 33 I S, G, Z) (mR (embB 33 I S, G, Z) 32 0) 0) = 6) := by rw [hZ.r32_0, hZ.r33_0]; exact hZ.k34
  have hask : call 95 [.ref 51, .int h, .int a, .int p] (embB 33 I S, G, Z) = if S 0 19 = 300 then some (some (.int (-1)), (embB 33 I S, G, Z)) else some (some (.int (S 0 19 + 1)), (embB 33 I (witS S h a p), G, Z)) := by
    refine Eq.trans e95 (Eq.trans (b95_0 hZ.k51) ?_)
    simp only [mI_t, mL_t, ct3, ct4, ct5, ct6, ct7, ct8, ct9, ct10, ct11, ct13, ct15, ct16, ct17, ct18, ct12, ct14, cs5, cs6, cs7, cs8, cw3, ca46, ca47, ca48, ca52, ca53, ca54, ca55, ca56, hZ.k33, hZ.r33_0, hZ.r33_1, hZ.r33_2, hZ.r33_3, hZ.r33_4, hZ.k34, hZ.r34_0, hZ.r34_1, hZ.r34_2]
    have e300 : (300 : Int32) = iN 300 := rfl
    by_cases h3 : S 0 19 = 300
    · rw [if_pos h3]
      exact Eq.trans (if_neg (by rw [h3]; decide)) b95_10
    · rw [if_neg h3]
      have hl := wit_lt h6 h3
      have hb : ib (S 0 19) 300 := by rw [h6.1]; exact ib_iN (by omega) hl
      have hlt : S 0 19 < 300 := by
        rw [h6.1, e300]
        exact (iN_lt (by omega) (by decide)).mpr hl
      refine Eq.trans (if_pos hlt) (Eq.trans (b95_12 hZ.k51 hZ.kr51_0 (hZ.ir51_0 (by simp only [mI_t, mL_t, wI_t, wL_t, ct3, ct4, ct5, ct6, ct7, ct8, ct9, ct10, ct11, ct13, ct15, ct16, ct17, ct18, ct12, ct14, cs5, cs6, cs7, cs8, cw3, ca46, ca47, ca48, ca52, ca53, ca54, ca55, ca56, wh3, wh4, wh5, wh6, wh7, wh8, wh9, wh10, wh15, wh16, wh17, wh18, wa46, wa47, wa48, wa52, wa53, wa54, wa55, wa56, hZ.k33, hZ.r33_0, hZ.r33_1, hZ.r33_2, hZ.r33_3, hZ.r33_4, hZ.k34, hZ.r34_0, hZ.r34_1, hZ.r34_2]; exact hb)) hZ.kr51_1 (hZ.ir51_1 (by rw [hZ.r51_0]; simp only [mI_t, mL_t, wI_t, wL_t, ct3, ct4, ct5, ct6, ct7, ct8, ct9, ct10, ct11, ct13, ct15, ct16, ct17, ct18, ct12, ct14, cs5, cs6, cs7, cs8, cw3, ca46, ca47, ca48, ca52, ca53, ca54, ca55, ca56, wh3, wh4, wh5, wh6, wh7, wh8, wh9, wh10, wh15, wh16, wh17, wh18, wa46, wa47, wa48, wa52, wa53, wa54, wa55, wa56, hZ.k33, hZ.r33_0, hZ.r33_1, hZ.r33_2, hZ.r33_3, hZ.r33_4, hZ.k34, hZ.r34_0, hZ.r34_1, hZ.r34_2]; exact hb)) hZ.kr51_2 (hZ.ir51_2 (by rw [hZ.r51_0, hZ.r51_1]; simp only [mI_t, mL_t, wI_t, wL_t, ct3, ct4, ct5, ct6, ct7, ct8, ct9, ct10, ct11, ct13, ct15, ct16, ct17, ct18, ct12, ct14, cs5, cs6, cs7, cs8, cw3, ca46, ca47, ca48, ca52, ca53, ca54, ca55, ca56, wh3, wh4, wh5, wh6, wh7, wh8, wh9, wh10, wh15, wh16, wh17, wh18, wa46, wa47, wa48, wa52, wa53, wa54, wa55, wa56, hZ.k33, hZ.r33_0, hZ.r33_1, hZ.r33_2, hZ.r33_3, hZ.r33_4, hZ.k34, hZ.r34_0, hZ.r34_1, hZ.r34_2]; exact hb))) ?_)
      rw [hZ.r51_0, hZ.r51_1, hZ.r51_2]
      simp only [mI_t, mL_t, wI_t, wL_t, ct3, ct4, ct5, ct6, ct7, ct8, ct9, ct10, ct11, ct13, ct15, ct16, ct17, ct18, ct12, ct14, cs5, cs6, cs7, cs8, cw3, ca46, ca47, ca48, ca52, ca53, ca54, ca55, ca56, wh3, wh4, wh5, wh6, wh7, wh8, wh9, wh10, wh15, wh16, wh17, wh18, wa46, wa47, wa48, wa52, wa53, wa54, wa55, wa56, hZ.k33, hZ.r33_0, hZ.r33_1, hZ.r33_2, hZ.r33_3, hZ.r33_4, hZ.k34, hZ.r34_0, hZ.r34_1, hZ.r34_2]
      refine Eq.trans (b95_42 hZ.k51) ?_
      simp only [mI_t, mL_t, wI_t, wL_t, ct3, ct4, ct5, ct6, ct7, ct8, ct9, ct10, ct11, ct13, ct15, ct16, ct17, ct18, ct12, ct14, cs5, cs6, cs7, cs8, cw3, ca46, ca47, ca48, ca52, ca53, ca54, ca55, ca56, wh3, wh4, wh5, wh6, wh7, wh8, wh9, wh10, wh15, wh16, wh17, wh18, wa46, wa47, wa48, wa52, wa53, wa54, wa55, wa56, hZ.k33, hZ.r33_0, hZ.r33_1, hZ.r33_2, hZ.r33_3, hZ.r33_4, hZ.k34, hZ.r34_0, hZ.r34_1, hZ.r34_2, ww3]
      rfl
  refine Eq.trans e130 (Eq.trans (b130_0 hZ.k32 hZ.kr32_0 hq) ?_)
  rw [hZ.r32_0, hZ.r33_0, t_hasBeen hZ]
  refine Eq.trans b130_11 ?_
  rw [bI_0]
  unfold witOK
  by_cases h1 : inB h 0 (S 0 0).toInt = true
  · rw [if_pos h1, h1]
    refine Eq.trans b130_14 ?_
    rw [c_within, l32_0, l32_4]
    refine Eq.trans b130_20 ?_
    rw [bI_0]
    by_cases h2 : inB a 0 4 = true
    · rw [if_pos h2, h2]
      refine Eq.trans b130_23 ?_
      rw [c_within, l32_0, l32_255]
      refine Eq.trans b130_31 ?_
      rw [bI_n]
      by_cases h3 : inB p 0 255 = true
      · rw [if_pos h3, h3]
        refine Eq.trans (b130_36 hZ.k32 hZ.kr32_0 (by rw [hZ.r32_0, hZ.r33_2]; exact hZ.k51)) ?_
        rw [hZ.r32_0, hZ.r33_2, hask]
        by_cases h4 : S 0 19 = 300
        · rw [if_pos h4, decide_eq_true h4]
          exact Eq.trans b130_49 (if_neg (by decide)).symm
        · rw [if_neg h4, decide_eq_false h4]
          exact Eq.trans b130_49 (if_pos rfl).symm
      · rw [if_neg h3, Bool.eq_false_iff.mpr h3, Bool.and_false, Bool.and_false, Bool.and_false]
        exact Eq.trans b130_34 (if_neg (by decide)).symm
    · rw [if_neg h2, Bool.eq_false_iff.mpr h2, Bool.false_and, Bool.and_false, Bool.and_false]
      exact Eq.trans b130_34 (if_neg (by decide)).symm
  · rw [if_neg h1, Bool.eq_false_iff.mpr h1, Bool.false_and, Bool.and_false]
    exact Eq.trans b130_34 (if_neg (by decide)).symm
end SM
