/-! DRAWING OFF: the reference's, and the class's -/
theorem sumI_c {f : Nat → Int32} : ∀ n : Nat, sumI f (n + 1) = f 0 + sumI (fun k => f (k + 1)) n := by
  intro n
  induction n with
  | zero => show 0 + f 0 = f 0 + 0; rw [Int32.add_comm]
  | succ n ih =>
    rw [sumI, ih, sumI, Int32.add_assoc]
/-- the i lowest layers, each as the one above it -/
def shF : Nat → aS → aS
  | 0, T => T
  | i + 1, T => up2 (up2 (shF i T) 10 i (shF i T 10 (i + 1))) 11 i (shF i T 11 (i + 1))
theorem shF_c {T : aS} {c : Nat} (h1 : c ≠ 10) (h2 : c ≠ 11) : ∀ i, shF i T c = T c := by
  intro i
  induction i with
  | zero => rfl
  | succ i ih =>
    funext k
    rw [shF, up2_a h2, up2_a h1, ih]
theorem shF_v {T : aS} : ∀ i k, shF i T 10 k = (if k < i then T 10 (k + 1) else T 10 k) ∧ shF i T 11 k = (if k < i then T 11 (k + 1) else T 11 k) := by
  intro i
  induction i with
  | zero => intro k; rw [if_neg (by omega), if_neg (by omega)]; exact ⟨rfl, rfl⟩
  | succ i ih =>
    intro k
    rw [shF]
    by_cases h : k = i
    · subst h
      rw [if_pos (by omega), if_pos (by omega), up2_a (by decide), up2_s, up2_s, (ih (k + 1)).1, (ih (k + 1)).2, if_neg (by omega), if_neg (by omega)]
      exact ⟨rfl, rfl⟩
    · rw [up2_a (by decide), up2_k h, up2_k h, up2_a (by decide), (ih k).1, (ih k).2]
      by_cases hk : k < i
      · rw [if_pos hk, if_pos hk, if_pos (by omega), if_pos (by omega)]
        exact ⟨rfl, rfl⟩
      · rw [if_neg hk, if_neg hk, if_neg (by omega), if_neg (by omega)]
        exact ⟨rfl, rfl⟩
def dropS (n : Nat) (T : aS) : aS := shF n (up2 (up2 T 10 0 0) 0 8 (iN n))
def drwF : Nat → Int32 → aS → aS
  | 0, _, T => T
  | n + 1, r, T => if 0 < r then (if r < T 10 0 then up2 T 10 0 (T 10 0 - r) else drwF n (r - T 10 0) (dropS n T)) else T
theorem drop_v {T : aS} {n k : Nat} (h : k < n) : dropS n T 10 k = T 10 (k + 1) ∧ dropS n T 11 k = T 11 (k + 1) := by
  unfold dropS
  rw [(shF_v n k).1, (shF_v n k).2, if_pos h, if_pos h]
  exact ⟨rfl, rfl⟩
theorem drop_c {T : aS} {n c : Nat} (h0 : c ≠ 0) (h1 : c ≠ 10) (h2 : c ≠ 11) : dropS n T c = T c := by
  unfold dropS
  rw [shF_c h1 h2]
  funext k
  rw [up2_a h0, up2_a h1]
theorem drop_s {T : aS} {n j : Nat} (h : j ≠ 8) : dropS n T 0 j = T 0 j := by
  unfold dropS
  rw [shF_c (by decide) (by decide), up2_k h, up2_a (by decide)]
theorem drop_8 {T : aS} {n : Nat} : dropS n T 0 8 = iN n := by
  unfold dropS
  rw [shF_c (by decide) (by decide), up2_s]
theorem drw_c {c : Nat} (h0 : c ≠ 0) (h1 : c ≠ 10) (h2 : c ≠ 11) : ∀ n r (T : aS), drwF n r T c = T c := by
  intro n
  induction n with
  | zero => intro r T; rfl
  | succ n ih =>
    intro r T
    rw [drwF]
    split
    · split
      · funext k; rw [up2_a h1]
      · rw [ih, drop_c h0 h1 h2]
    · rfl
theorem drw_s {j : Nat} (h : j ≠ 8) : ∀ n r (T : aS), drwF n r T 0 j = T 0 j := by
  intro n
  induction n with
  | zero => intro r T; rfl
  | succ n ih =>
    intro r T
    rw [drwF]
    split
    · split
      · rw [up2_a (by decide)]
      · rw [ih, drop_s h]
    · rfl
/-- n layers of 1 to 99 feet -/
def Lay (n : Nat) (T : aS) : Prop := T 0 8 = iN n ∧ ∀ i, i < n → 1 ≤ (T 10 i).toInt ∧ (T 10 i).toInt ≤ 99
theorem lay_drop {n : Nat} {T : aS} (h : Lay (n + 1) T) : Lay n (dropS n T) := by
  refine ⟨drop_8, fun i hi => ?_⟩
  rw [(drop_v hi).1]
  exact h.2 (i + 1) (by omega)
theorem lay_sum {n : Nat} {f : Nat → Int32} (hn : n ≤ 30) (h : ∀ i, i < n → 1 ≤ (f i).toInt ∧ (f i).toInt ≤ 99) : ∀ m : Nat, m ≤ n → (m : Int) ≤ (sumI f m).toInt ∧ (sumI f m).toInt ≤ 99 * m := by
  intro m
  induction m with
  | zero => intro _; show ((0 : Nat) : Int) ≤ (0 : Int32).toInt ∧ (0 : Int32).toInt ≤ _; rw [l32_0]; omega
  | succ m ih =>
    intro hm
    have a := ih (by omega)
    have b := h m (by omega)
    rw [sumI, ti_add (by omega) (by omega)]
    omega
theorem drop_sum {n : Nat} {T : aS} : sumI (dropS n T 10) n = sumI (fun k => T 10 (k + 1)) n := sumI_eq n (fun i hi => (drop_v hi).1)
theorem drop_r {n : Nat} {r : Int32} {T : aS} (hn : n < 30) (h : Lay (n + 1) T) (h0 : 0 ≤ r.toInt) (hr : r.toInt ≤ (sumI (T 10) (n + 1)).toInt) (hf : ¬ r < T 10 0) : 0 ≤ (r - T 10 0).toInt ∧ (r - T 10 0).toInt ≤ (sumI (dropS n T 10) n).toInt := by
  have a := h.2 0 (by omega)
  have b := lay_sum (f := fun k => T 10 (k + 1)) (n := n) (by omega) (fun i hi => h.2 (i + 1) (by omega)) n (Nat.le_refl _)
  have c := ti_rng r
  rw [sumI_c, ti_add (by omega) (by omega)] at hr
  rw [ti_lt] at hf
  rw [drop_sum, ti_sub (by omega) (by omega)]
  omega
theorem drw_ok : ∀ n, n ≤ 30 → ∀ r (T : aS), Lay n T → 0 ≤ r.toInt → r.toInt ≤ (sumI (T 10) n).toInt → ∃ m, m ≤ n ∧ Lay m (drwF n r T) ∧ sumI (drwF n r T 10) m = sumI (T 10) n - r := by
  intro n
  induction n with
  | zero =>
    intro _ r T h h0 hr
    refine ⟨0, Nat.le_refl _, h, ?_⟩
    have : r = 0 := by
      rw [show sumI (T 10) 0 = 0 from rfl, l32_0] at hr
      rw [ti_eq, l32_0]
      omega
    rw [this]
    show (0 : Int32) = 0 - 0
    decide
  | succ n ih =>
    intro hn r T h h0 hr
    rw [drwF]
    have a := h.2 0 (by omega)
    by_cases hp : 0 < r
    · rw [if_pos hp]
      by_cases hl : r < T 10 0
      · rw [if_pos hl]
        refine ⟨n + 1, Nat.le_refl _, ⟨h.1, fun i hi => ?_⟩, ?_⟩
        · by_cases e : i = 0
          · subst e
            rw [ti_lt, l32_0] at hp
            rw [ti_lt] at hl
            rw [up2_s, ti_sub (by omega) (by omega)]
            omega
          · rw [up2_k e]
            exact h.2 i hi
        · rw [sumI_c, sumI_c, up2_s]
          have e : (fun k => up2 T 10 0 (T 10 0 - r) 10 (k + 1)) = fun k => T 10 (k + 1) := funext fun k => up2_k (by omega)
          rw [e, Int32.sub_eq_add_neg, Int32.sub_eq_add_neg, Int32.add_assoc, Int32.add_comm (-r), ← Int32.add_assoc]
      · rw [if_neg hl]
        have d := drop_r (by omega) h h0 hr hl
        obtain ⟨m, hm, hL, hs⟩ := ih (by omega) _ _ (lay_drop h) d.1 d.2
        refine ⟨m, by omega, hL, ?_⟩
        rw [hs, drop_sum, sumI_c]
        generalize sumI (fun k => T 10 (k + 1)) n = s
        generalize T 10 0 = f
        rw [Int32.sub_eq_add_neg, Int32.sub_eq_add_neg, Int32.sub_eq_add_neg, Int32.neg_add, Int32.sub_eq_add_neg, Int32.neg_neg, Int32.add_comm (-r) f, ← Int32.add_assoc, Int32.add_comm s f]
    · rw [if_neg hp]
      refine ⟨n + 1, Nat.le_refl _, h, ?_⟩
      have : r = 0 := by
        rw [ti_lt, l32_0] at hp
        rw [ti_eq, l32_0]
        omega
      rw [this, Int32.sub_zero]
def drawOK (S : aS) (x : Int32) : Bool := !decide (S 0 1 = 0) && (decide (S 0 12 = -1) && inB x 1 (dep S).toInt)
def drawS (S : aS) (x : Int32) : aS := drwF (laN S) x S
def Wf5 (S : aS) : Prop := ∀ i, i < laN S → 1 ≤ (S 10 i).toInt ∧ (S 10 i).toInt ≤ 99
theorem lay_la {n : Nat} {T : aS} (h : T 0 8 = iN n) (hn : n ≤ 30) : laN T = n := by unfold laN; rw [h, iN_clamp (by omega)]
theorem draw_f {S : aS} {x : Int32} (hw : Wf0 S) (h5 : Wf5 S) (h : drawOK S x = true) : ∃ m, m ≤ laN S ∧ Lay m (drawS S x) ∧ laN (drawS S x) = m ∧ dep (drawS S x) = dep S - x := by
  unfold drawOK at h
  rw [Bool.and_eq_true, Bool.and_eq_true, inB_iff] at h
  obtain ⟨m, hm, hL, hs⟩ := drw_ok (laN S) hw.2.2 x S ⟨hw.2.1, h5⟩ (by omega) h.2.2.2
  have hl := lay_la hL.1 (by have := hw.2.2; omega)
  refine ⟨m, hm, hL, hl, ?_⟩
  unfold dep
  rw [show laN (drawS S x) = m from hl]
  exact hs
section DR
variable {I : aI} {G : aL} {Z : aZ} {S : aS}
theorem h_sh (hZ : Shp Z) {x1 x2 x3 : Int32} {n : Nat} (hn : n < 30) {T : aS} (h8 : T 0 8 = iN n) : run 2 155 94 [.ref 72, .int x1, .int x2, .int x3, .int 0] [] (emb I T, G, Z) = run 2 155 33 [.ref 72, .int x1, .int x2, .int x3, .int (iN n)] [] (emb I (shF n T), G, Z) := by
  have e8 : ∀ i, shF i T 0 8 = iN n := fun i => by rw [shF_c (by decide) (by decide)]; exact h8
  have key := loop_up (fun i => run 2 155 94 [.ref 72, .int x1, .int x2, .int x3, .int (iN i)] [] (emb I (shF i T), G, Z)) n (fun i hi => by
    have hlt : iN i < iN n := (iN_lt (by omega) (by omega)).mpr hi
    have hb : ib (iN i) 30 := ib_iN (by omega) (by omega)
    have hb1 : ib (iN i + 1) 30 := by rw [iN_succ]; exact ib_iN (by omega) (by omega)
    refine Eq.trans (b155_94 hZ.k72) ?_
    simp only [mI_t, mL_t, es2, es1, es3, es4, es5, es6, es7, es8, es9, es10, es11, es12, es13, es14, es15, es51, es52, es53, es54, es61, es0, es16, es17, es18, es19, es20, es21, es22, es23, es24, es25, es26, es27, es28, es29, es30, es31, es32, es33, es34, es35, es36, es37, es38, es39, es40, es41, es42, es43, es44, es45, es46, es47, es48, es49, es50, es55, es56, es57, es58, es59, es60, es62, es63, es64, es65, es66, es67, es68, es69, ea73, ea74, ea75, ea76, ea77, ea78, ea79, ea80, ea81, ea82, ea83, ea84, ea85, ea86, ea87, ea88, ea89, ea90, ea91, ea92, ea93, ea94, ea95, ea96, ea97, ea98, ea99, ea100, ea101, ea102, ea103, ea104, ea105, ea106, ea107, ea108, ea109, ea110, ea111, hZ.k72, hZ.r72_16, hZ.r72_17, hZ.r72_18, hZ.r72_19, hZ.r72_20, hZ.r72_21, hZ.r72_22, hZ.r72_23, hZ.r72_24, hZ.r72_25, hZ.r72_26, hZ.r72_35, hZ.r72_36, hZ.r72_37, hZ.r72_38, hZ.r72_39, hZ.r72_40, hZ.r72_41, hZ.r72_42, hZ.r72_43, hZ.r72_44, hZ.r72_45, hZ.r72_46, hZ.r72_47, hZ.r72_48, hZ.r72_49, hZ.r72_50, hZ.r72_55, hZ.r72_56, hZ.r72_57, hZ.r72_58, hZ.r72_59, hZ.r72_60, hZ.r72_62, hZ.r72_63, hZ.r72_64, hZ.r72_65, hZ.r72_66, hZ.r72_67]
    rw [e8]
    refine Eq.trans (if_neg (fun q => q hlt)) (Eq.trans (b155_103 hZ.k72 hZ.kr72_25 (hZ.ir72_25 hb1) (hZ.ir72_25 hb) hZ.kr72_26 (hZ.ir72_26 hb1) (hZ.ir72_26 hb)) ?_)
    simp only [mI_t, mL_t, wI_t, wL_t, es2, es1, es3, es4, es5, es6, es7, es8, es9, es10, es11, es12, es13, es14, es15, es51, es52, es53, es54, es61, es0, es16, es17, es18, es19, es20, es21, es22, es23, es24, es25, es26, es27, es28, es29, es30, es31, es32, es33, es34, es35, es36, es37, es38, es39, es40, es41, es42, es43, es44, es45, es46, es47, es48, es49, es50, es55, es56, es57, es58, es59, es60, es62, es63, es64, es65, es66, es67, es68, es69, ea73, ea74, ea75, ea76, ea77, ea78, ea79, ea80, ea81, ea82, ea83, ea84, ea85, ea86, ea87, ea88, ea89, ea90, ea91, ea92, ea93, ea94, ea95, ea96, ea97, ea98, ea99, ea100, ea101, ea102, ea103, ea104, ea105, ea106, ea107, ea108, ea109, ea110, ea111, ew2, ew1, ew3, ew4, ew5, ew6, ew7, ew8, ew9, ew10, ew11, ew12, ew13, ew14, ew15, ew51, ew52, ew53, ew54, ew61, ew0, ew16, ew17, ew18, ew19, ew20, ew21, ew22, ew23, ew24, ew25, ew26, ew27, ew28, ew29, ew30, ew31, ew32, ew33, ew34, ew35, ew36, ew37, ew38, ew39, ew40, ew41, ew42, ew43, ew44, ew45, ew46, ew47, ew48, ew49, ew50, ew55, ew56, ew57, ew58, ew59, ew60, ew62, ew63, ew64, ew65, ew66, ew67, ew68, ew69, eb73, eb74, eb75, eb76, eb77, eb78, eb79, eb80, eb81, eb82, eb83, eb84, eb85, eb86, eb87, eb88, eb89, eb90, eb91, eb92, eb93, eb94, eb95, eb96, eb97, eb98, eb99, eb100, eb101, eb102, eb103, eb104, eb105, eb106, eb107, eb108, eb109, eb110, eb111, hZ.k72, hZ.r72_16, hZ.r72_17, hZ.r72_18, hZ.r72_19, hZ.r72_20, hZ.r72_21, hZ.r72_22, hZ.r72_23, hZ.r72_24, hZ.r72_25, hZ.r72_26, hZ.r72_35, hZ.r72_36, hZ.r72_37, hZ.r72_38, hZ.r72_39, hZ.r72_40, hZ.r72_41, hZ.r72_42, hZ.r72_43, hZ.r72_44, hZ.r72_45, hZ.r72_46, hZ.r72_47, hZ.r72_48, hZ.r72_49, hZ.r72_50, hZ.r72_55, hZ.r72_56, hZ.r72_57, hZ.r72_58, hZ.r72_59, hZ.r72_60, hZ.r72_62, hZ.r72_63, hZ.r72_64, hZ.r72_65, hZ.r72_66, hZ.r72_67, iN_succ, iN_clamp (show i < 2147483648 by omega), iN_clamp (show i + 1 < 2147483648 by omega)]
    rw [show up2 (shF i T) 10 i (shF i T 10 (i + 1)) 11 (i + 1) = shF i T 11 (i + 1) from up2_a (by decide)]
    rfl) 0 (by omega)
  refine Eq.trans key (Eq.trans (b155_94 hZ.k72) ?_)
  simp only [mI_t, mL_t, es2, es1, es3, es4, es5, es6, es7, es8, es9, es10, es11, es12, es13, es14, es15, es51, es52, es53, es54, es61, es0, es16, es17, es18, es19, es20, es21, es22, es23, es24, es25, es26, es27, es28, es29, es30, es31, es32, es33, es34, es35, es36, es37, es38, es39, es40, es41, es42, es43, es44, es45, es46, es47, es48, es49, es50, es55, es56, es57, es58, es59, es60, es62, es63, es64, es65, es66, es67, es68, es69, ea73, ea74, ea75, ea76, ea77, ea78, ea79, ea80, ea81, ea82, ea83, ea84, ea85, ea86, ea87, ea88, ea89, ea90, ea91, ea92, ea93, ea94, ea95, ea96, ea97, ea98, ea99, ea100, ea101, ea102, ea103, ea104, ea105, ea106, ea107, ea108, ea109, ea110, ea111, hZ.k72, hZ.r72_16, hZ.r72_17, hZ.r72_18, hZ.r72_19, hZ.r72_20, hZ.r72_21, hZ.r72_22, hZ.r72_23, hZ.r72_24, hZ.r72_25, hZ.r72_26, hZ.r72_35, hZ.r72_36, hZ.r72_37, hZ.r72_38, hZ.r72_39, hZ.r72_40, hZ.r72_41, hZ.r72_42, hZ.r72_43, hZ.r72_44, hZ.r72_45, hZ.r72_46, hZ.r72_47, hZ.r72_48, hZ.r72_49, hZ.r72_50, hZ.r72_55, hZ.r72_56, hZ.r72_57, hZ.r72_58, hZ.r72_59, hZ.r72_60, hZ.r72_62, hZ.r72_63, hZ.r72_64, hZ.r72_65, hZ.r72_66, hZ.r72_67]
  rw [e8]
  exact Eq.trans (if_pos (iN_nlt (by omega))) b155_141
theorem h_drw (hZ : Shp Z) {x1 : Int32} : ∀ n, n ≤ 30 → ∀ (r : Int32) (T : aS) (v3 v4 : Value), Lay n T → 0 ≤ r.toInt → r.toInt ≤ (sumI (T 10) n).toInt → ∃ (r' : Int32) (v3' v4' : Value), run 2 155 33 [.ref 72, .int x1, .int r, v3, v4] [] (emb I T, G, Z) = run 2 155 144 [.ref 72, .int x1, .int r', v3', v4'] [] (emb I (drwF n r T), G, Z) := by
  intro n
  induction n with
  | zero =>
    intro _ r T v3 v4 h h0 hr
    refine ⟨r, v3, v4, ?_⟩
    refine Eq.trans b155_33 ?_
    rw [show sumI (T 10) 0 = 0 from rfl, l32_0] at hr
    exact if_pos (by rw [ti_lt, l32_0]; omega)
  | succ n ih =>
    intro hn r T v3 v4 h h0 hr
    have a := h.2 0 (by omega)
    rw [drwF]
    by_cases hp : 0 < r
    · rw [if_pos hp]
      have c0 : (0 : Int32).toNatClampNeg = 0 := rfl
      have hb : ib (0 : Int32) 30 := by decide
      have st : ∀ s : Int32, run 2 155 57 [.ref 72, .int x1, .int r, v3, v4] [.int s] (emb I T, G, Z) = if ¬ T 10 0 - s = 0 then run 2 155 141 [.ref 72, .int x1, .int (r - s), .int s, v4] [] (emb I (up2 T 10 0 (T 10 0 - s)), G, Z) else run 2 155 81 [.ref 72, .int x1, .int (r - s), .int s, v4] [] (emb I (up2 T 10 0 (T 10 0 - s)), G, Z) := by
        intro s
        refine Eq.trans (b155_57 hZ.k72 hZ.kr72_25 (hZ.ir72_25 hb)) ?_
        simp only [mI_t, mL_t, wI_t, wL_t, es2, es1, es3, es4, es5, es6, es7, es8, es9, es10, es11, es12, es13, es14, es15, es51, es52, es53, es54, es61, es0, es16, es17, es18, es19, es20, es21, es22, es23, es24, es25, es26, es27, es28, es29, es30, es31, es32, es33, es34, es35, es36, es37, es38, es39, es40, es41, es42, es43, es44, es45, es46, es47, es48, es49, es50, es55, es56, es57, es58, es59, es60, es62, es63, es64, es65, es66, es67, es68, es69, ea73, ea74, ea75, ea76, ea77, ea78, ea79, ea80, ea81, ea82, ea83, ea84, ea85, ea86, ea87, ea88, ea89, ea90, ea91, ea92, ea93, ea94, ea95, ea96, ea97, ea98, ea99, ea100, ea101, ea102, ea103, ea104, ea105, ea106, ea107, ea108, ea109, ea110, ea111, ew2, ew1, ew3, ew4, ew5, ew6, ew7, ew8, ew9, ew10, ew11, ew12, ew13, ew14, ew15, ew51, ew52, ew53, ew54, ew61, ew0, ew16, ew17, ew18, ew19, ew20, ew21, ew22, ew23, ew24, ew25, ew26, ew27, ew28, ew29, ew30, ew31, ew32, ew33, ew34, ew35, ew36, ew37, ew38, ew39, ew40, ew41, ew42, ew43, ew44, ew45, ew46, ew47, ew48, ew49, ew50, ew55, ew56, ew57, ew58, ew59, ew60, ew62, ew63, ew64, ew65, ew66, ew67, ew68, ew69, eb73, eb74, eb75, eb76, eb77, eb78, eb79, eb80, eb81, eb82, eb83, eb84, eb85, eb86, eb87, eb88, eb89, eb90, eb91, eb92, eb93, eb94, eb95, eb96, eb97, eb98, eb99, eb100, eb101, eb102, eb103, eb104, eb105, eb106, eb107, eb108, eb109, eb110, eb111, hZ.k72, hZ.r72_16, hZ.r72_17, hZ.r72_18, hZ.r72_19, hZ.r72_20, hZ.r72_21, hZ.r72_22, hZ.r72_23, hZ.r72_24, hZ.r72_25, hZ.r72_26, hZ.r72_35, hZ.r72_36, hZ.r72_37, hZ.r72_38, hZ.r72_39, hZ.r72_40, hZ.r72_41, hZ.r72_42, hZ.r72_43, hZ.r72_44, hZ.r72_45, hZ.r72_46, hZ.r72_47, hZ.r72_48, hZ.r72_49, hZ.r72_50, hZ.r72_55, hZ.r72_56, hZ.r72_57, hZ.r72_58, hZ.r72_59, hZ.r72_60, hZ.r72_62, hZ.r72_63, hZ.r72_64, hZ.r72_65, hZ.r72_66, hZ.r72_67, c0, up2_s]
      by_cases hl : r < T 10 0
      · rw [if_pos hl]
        refine ⟨0, .int r, v4, ?_⟩
        refine Eq.trans b155_33 (Eq.trans (if_neg (fun q => q hp)) (Eq.trans (b155_37 hZ.k72 hZ.kr72_25 (hZ.ir72_25 hb)) ?_))
        simp only [mI_t, mL_t, es2, es1, es3, es4, es5, es6, es7, es8, es9, es10, es11, es12, es13, es14, es15, es51, es52, es53, es54, es61, es0, es16, es17, es18, es19, es20, es21, es22, es23, es24, es25, es26, es27, es28, es29, es30, es31, es32, es33, es34, es35, es36, es37, es38, es39, es40, es41, es42, es43, es44, es45, es46, es47, es48, es49, es50, es55, es56, es57, es58, es59, es60, es62, es63, es64, es65, es66, es67, es68, es69, ea73, ea74, ea75, ea76, ea77, ea78, ea79, ea80, ea81, ea82, ea83, ea84, ea85, ea86, ea87, ea88, ea89, ea90, ea91, ea92, ea93, ea94, ea95, ea96, ea97, ea98, ea99, ea100, ea101, ea102, ea103, ea104, ea105, ea106, ea107, ea108, ea109, ea110, ea111, hZ.k72, hZ.r72_16, hZ.r72_17, hZ.r72_18, hZ.r72_19, hZ.r72_20, hZ.r72_21, hZ.r72_22, hZ.r72_23, hZ.r72_24, hZ.r72_25, hZ.r72_26, hZ.r72_35, hZ.r72_36, hZ.r72_37, hZ.r72_38, hZ.r72_39, hZ.r72_40, hZ.r72_41, hZ.r72_42, hZ.r72_43, hZ.r72_44, hZ.r72_45, hZ.r72_46, hZ.r72_47, hZ.r72_48, hZ.r72_49, hZ.r72_50, hZ.r72_55, hZ.r72_56, hZ.r72_57, hZ.r72_58, hZ.r72_59, hZ.r72_60, hZ.r72_62, hZ.r72_63, hZ.r72_64, hZ.r72_65, hZ.r72_66, hZ.r72_67, c0]
        have hl' := ti_lt.mp hl
        rw [ti_lt, l32_0] at hp
        refine Eq.trans (if_pos (by rw [ti_lt]; omega)) (Eq.trans b155_56 (Eq.trans (st r) ?_))
        have hz : ¬ T 10 0 - r = 0 := by rw [ti_eq, l32_0, ti_sub (by omega) (by omega)]; omega
        refine Eq.trans (if_pos hz) (Eq.trans b155_141 (Eq.trans b155_33 ?_))
        rw [Int32.sub_self]
        exact if_pos (by decide)
      · rw [if_neg hl]
        have d := drop_r (by omega) h h0 hr hl
        obtain ⟨r', v3', v4', hi⟩ := ih (by omega) (r - T 10 0) (dropS n T) (.int (T 10 0)) (.int (iN n)) (lay_drop h) d.1 d.2
        refine ⟨r', v3', v4', ?_⟩
        refine Eq.trans ?_ hi
        have go : run 2 155 57 [.ref 72, .int x1, .int r, v3, v4] [.int (T 10 0)] (emb I T, G, Z) = run 2 155 33 [.ref 72, .int x1, .int (r - T 10 0), .int (T 10 0), .int (iN n)] [] (emb I (dropS n T), G, Z) := by
          refine Eq.trans (st (T 10 0)) ?_
          rw [Int32.sub_self]
          refine Eq.trans (if_neg (fun q => q rfl)) (Eq.trans (b155_81 hZ.k72) ?_)
          simp only [mI_t, mL_t, wI_t, wL_t, es2, es1, es3, es4, es5, es6, es7, es8, es9, es10, es11, es12, es13, es14, es15, es51, es52, es53, es54, es61, es0, es16, es17, es18, es19, es20, es21, es22, es23, es24, es25, es26, es27, es28, es29, es30, es31, es32, es33, es34, es35, es36, es37, es38, es39, es40, es41, es42, es43, es44, es45, es46, es47, es48, es49, es50, es55, es56, es57, es58, es59, es60, es62, es63, es64, es65, es66, es67, es68, es69, ea73, ea74, ea75, ea76, ea77, ea78, ea79, ea80, ea81, ea82, ea83, ea84, ea85, ea86, ea87, ea88, ea89, ea90, ea91, ea92, ea93, ea94, ea95, ea96, ea97, ea98, ea99, ea100, ea101, ea102, ea103, ea104, ea105, ea106, ea107, ea108, ea109, ea110, ea111, ew2, ew1, ew3, ew4, ew5, ew6, ew7, ew8, ew9, ew10, ew11, ew12, ew13, ew14, ew15, ew51, ew52, ew53, ew54, ew61, ew0, ew16, ew17, ew18, ew19, ew20, ew21, ew22, ew23, ew24, ew25, ew26, ew27, ew28, ew29, ew30, ew31, ew32, ew33, ew34, ew35, ew36, ew37, ew38, ew39, ew40, ew41, ew42, ew43, ew44, ew45, ew46, ew47, ew48, ew49, ew50, ew55, ew56, ew57, ew58, ew59, ew60, ew62, ew63, ew64, ew65, ew66, ew67, ew68, ew69, eb73, eb74, eb75, eb76, eb77, eb78, eb79, eb80, eb81, eb82, eb83, eb84, eb85, eb86, eb87, eb88, eb89, eb90, eb91, eb92, eb93, eb94, eb95, eb96, eb97, eb98, eb99, eb100, eb101, eb102, eb103, eb104, eb105, eb106, eb107, eb108, eb109, eb110, eb111, hZ.k72, hZ.r72_16, hZ.r72_17, hZ.r72_18, hZ.r72_19, hZ.r72_20, hZ.r72_21, hZ.r72_22, hZ.r72_23, hZ.r72_24, hZ.r72_25, hZ.r72_26, hZ.r72_35, hZ.r72_36, hZ.r72_37, hZ.r72_38, hZ.r72_39, hZ.r72_40, hZ.r72_41, hZ.r72_42, hZ.r72_43, hZ.r72_44, hZ.r72_45, hZ.r72_46, hZ.r72_47, hZ.r72_48, hZ.r72_49, hZ.r72_50, hZ.r72_55, hZ.r72_56, hZ.r72_57, hZ.r72_58, hZ.r72_59, hZ.r72_60, hZ.r72_62, hZ.r72_63, hZ.r72_64, hZ.r72_65, hZ.r72_66, hZ.r72_67]
          have e8 : up2 T 10 0 0 0 8 - 1 = iN n := by
            rw [up2_a (by decide), h.1, iN_pred]
          rw [e8]
          exact h_sh hZ (by omega) (by rw [up2_s])
        refine Eq.trans b155_33 (Eq.trans (if_neg (fun q => q hp)) (Eq.trans (b155_37 hZ.k72 hZ.kr72_25 (hZ.ir72_25 hb)) ?_))
        simp only [mI_t, mL_t, es2, es1, es3, es4, es5, es6, es7, es8, es9, es10, es11, es12, es13, es14, es15, es51, es52, es53, es54, es61, es0, es16, es17, es18, es19, es20, es21, es22, es23, es24, es25, es26, es27, es28, es29, es30, es31, es32, es33, es34, es35, es36, es37, es38, es39, es40, es41, es42, es43, es44, es45, es46, es47, es48, es49, es50, es55, es56, es57, es58, es59, es60, es62, es63, es64, es65, es66, es67, es68, es69, ea73, ea74, ea75, ea76, ea77, ea78, ea79, ea80, ea81, ea82, ea83, ea84, ea85, ea86, ea87, ea88, ea89, ea90, ea91, ea92, ea93, ea94, ea95, ea96, ea97, ea98, ea99, ea100, ea101, ea102, ea103, ea104, ea105, ea106, ea107, ea108, ea109, ea110, ea111, hZ.k72, hZ.r72_16, hZ.r72_17, hZ.r72_18, hZ.r72_19, hZ.r72_20, hZ.r72_21, hZ.r72_22, hZ.r72_23, hZ.r72_24, hZ.r72_25, hZ.r72_26, hZ.r72_35, hZ.r72_36, hZ.r72_37, hZ.r72_38, hZ.r72_39, hZ.r72_40, hZ.r72_41, hZ.r72_42, hZ.r72_43, hZ.r72_44, hZ.r72_45, hZ.r72_46, hZ.r72_47, hZ.r72_48, hZ.r72_49, hZ.r72_50, hZ.r72_55, hZ.r72_56, hZ.r72_57, hZ.r72_58, hZ.r72_59, hZ.r72_60, hZ.r72_62, hZ.r72_63, hZ.r72_64, hZ.r72_65, hZ.r72_66, hZ.r72_67, c0]
        by_cases hlt : T 10 0 < r
        · refine Eq.trans (if_neg (fun q => q hlt)) (Eq.trans (b155_47 hZ.k72 hZ.kr72_25 (hZ.ir72_25 hb)) ?_)
          simp only [mI_t, mL_t, es2, es1, es3, es4, es5, es6, es7, es8, es9, es10, es11, es12, es13, es14, es15, es51, es52, es53, es54, es61, es0, es16, es17, es18, es19, es20, es21, es22, es23, es24, es25, es26, es27, es28, es29, es30, es31, es32, es33, es34, es35, es36, es37, es38, es39, es40, es41, es42, es43, es44, es45, es46, es47, es48, es49, es50, es55, es56, es57, es58, es59, es60, es62, es63, es64, es65, es66, es67, es68, es69, ea73, ea74, ea75, ea76, ea77, ea78, ea79, ea80, ea81, ea82, ea83, ea84, ea85, ea86, ea87, ea88, ea89, ea90, ea91, ea92, ea93, ea94, ea95, ea96, ea97, ea98, ea99, ea100, ea101, ea102, ea103, ea104, ea105, ea106, ea107, ea108, ea109, ea110, ea111, hZ.k72, hZ.r72_16, hZ.r72_17, hZ.r72_18, hZ.r72_19, hZ.r72_20, hZ.r72_21, hZ.r72_22, hZ.r72_23, hZ.r72_24, hZ.r72_25, hZ.r72_26, hZ.r72_35, hZ.r72_36, hZ.r72_37, hZ.r72_38, hZ.r72_39, hZ.r72_40, hZ.r72_41, hZ.r72_42, hZ.r72_43, hZ.r72_44, hZ.r72_45, hZ.r72_46, hZ.r72_47, hZ.r72_48, hZ.r72_49, hZ.r72_50, hZ.r72_55, hZ.r72_56, hZ.r72_57, hZ.r72_58, hZ.r72_59, hZ.r72_60, hZ.r72_62, hZ.r72_63, hZ.r72_64, hZ.r72_65, hZ.r72_66, hZ.r72_67, c0]
          exact go
        · refine Eq.trans (if_pos hlt) (Eq.trans b155_56 ?_)
          have e : r = T 10 0 := by
            rw [ti_lt] at hl hlt
            rw [ti_eq]
            omega
          rw [← e] at go ⊢
          exact go
    · rw [if_neg hp]
      refine ⟨r, v3, v4, ?_⟩
      exact Eq.trans b155_33 (if_pos hp)
theorem s_draw (hZ : Shp Z) (hw : Wf0 S) (h5 : Wf5 S) {x : Int32} : call 155 [.ref 72, .int x] (emb I S, G, Z) = if drawOK S x = true then some (some (.int (dep (drawS S x))), (emb I (drawS S x), G, Z)) else some (some (.int (-1)), (emb I S, G, Z)) := by
  by_cases hok : drawOK S x = true
  · rw [if_pos hok]
    obtain ⟨m, hm, hL, hla, hd⟩ := draw_f hw h5 hok
    have hok' := hok
    unfold drawOK at hok'
    rw [Bool.and_eq_true, Bool.and_eq_true, Bool.not_eq_true', decide_eq_false_iff_not, decide_eq_true_eq] at hok'
    obtain ⟨h1, h12, hx⟩ := hok'
    have hi := inB_iff.mp hx
    refine Eq.trans e155 (Eq.trans (b155_0 hZ.k72) ?_)
    simp only [mI_t, mL_t, es2, es1, es3, es4, es5, es6, es7, es8, es9, es10, es11, es12, es13, es14, es15, es51, es52, es53, es54, es61, es0, es16, es17, es18, es19, es20, es21, es22, es23, es24, es25, es26, es27, es28, es29, es30, es31, es32, es33, es34, es35, es36, es37, es38, es39, es40, es41, es42, es43, es44, es45, es46, es47, es48, es49, es50, es55, es56, es57, es58, es59, es60, es62, es63, es64, es65, es66, es67, es68, es69, ea73, ea74, ea75, ea76, ea77, ea78, ea79, ea80, ea81, ea82, ea83, ea84, ea85, ea86, ea87, ea88, ea89, ea90, ea91, ea92, ea93, ea94, ea95, ea96, ea97, ea98, ea99, ea100, ea101, ea102, ea103, ea104, ea105, ea106, ea107, ea108, ea109, ea110, ea111, hZ.k72, hZ.r72_16, hZ.r72_17, hZ.r72_18, hZ.r72_19, hZ.r72_20, hZ.r72_21, hZ.r72_22, hZ.r72_23, hZ.r72_24, hZ.r72_25, hZ.r72_26, hZ.r72_35, hZ.r72_36, hZ.r72_37, hZ.r72_38, hZ.r72_39, hZ.r72_40, hZ.r72_41, hZ.r72_42, hZ.r72_43, hZ.r72_44, hZ.r72_45, hZ.r72_46, hZ.r72_47, hZ.r72_48, hZ.r72_49, hZ.r72_50, hZ.r72_55, hZ.r72_56, hZ.r72_57, hZ.r72_58, hZ.r72_59, hZ.r72_60, hZ.r72_62, hZ.r72_63, hZ.r72_64, hZ.r72_65, hZ.r72_66, hZ.r72_67]
    refine Eq.trans (if_neg h1) (Eq.trans (b155_7 hZ.k72) ?_)
    simp only [mI_t, mL_t, es2, es1, es3, es4, es5, es6, es7, es8, es9, es10, es11, es12, es13, es14, es15, es51, es52, es53, es54, es61, es0, es16, es17, es18, es19, es20, es21, es22, es23, es24, es25, es26, es27, es28, es29, es30, es31, es32, es33, es34, es35, es36, es37, es38, es39, es40, es41, es42, es43, es44, es45, es46, es47, es48, es49, es50, es55, es56, es57, es58, es59, es60, es62, es63, es64, es65, es66, es67, es68, es69, ea73, ea74, ea75, ea76, ea77, ea78, ea79, ea80, ea81, ea82, ea83, ea84, ea85, ea86, ea87, ea88, ea89, ea90, ea91, ea92, ea93, ea94, ea95, ea96, ea97, ea98, ea99, ea100, ea101, ea102, ea103, ea104, ea105, ea106, ea107, ea108, ea109, ea110, ea111, hZ.k72, hZ.r72_16, hZ.r72_17, hZ.r72_18, hZ.r72_19, hZ.r72_20, hZ.r72_21, hZ.r72_22, hZ.r72_23, hZ.r72_24, hZ.r72_25, hZ.r72_26, hZ.r72_35, hZ.r72_36, hZ.r72_37, hZ.r72_38, hZ.r72_39, hZ.r72_40, hZ.r72_41, hZ.r72_42, hZ.r72_43, hZ.r72_44, hZ.r72_45, hZ.r72_46, hZ.r72_47, hZ.r72_48, hZ.r72_49, hZ.r72_50, hZ.r72_55, hZ.r72_56, hZ.r72_57, hZ.r72_58, hZ.r72_59, hZ.r72_60, hZ.r72_62, hZ.r72_63, hZ.r72_64, hZ.r72_65, hZ.r72_66, hZ.r72_67]
    refine Eq.trans (if_neg (fun q => q h12)) (Eq.trans (b155_15 hZ.k72) ?_)
    rw [s_depth hZ hw]
    refine Eq.trans b155_22 ?_
    rw [m_in, l64_1, Int32.toInt_toInt64, hx]
    refine Eq.trans b155_26 (Eq.trans (if_pos (by decide)) (Eq.trans b155_31 ?_))
    obtain ⟨r', v3', v4', hr⟩ := h_drw (I := I) (G := G) hZ (x1 := x) (laN S) hw.2.2 x S xU xU ⟨hw.2.1, h5⟩ (by omega) hi.2
    refine Eq.trans hr (Eq.trans (b155_144 hZ.k72) ?_)
    have hw' : Wf0 (drwF (laN S) x S) := by
      have q : laN (drwF (laN S) x S) = m := hla
      refine ⟨?_, ?_, ?_⟩
      · unfold riN
        rw [drw_s (by decide)]
        exact hw.1
      · rw [q]; exact hL.1
      · rw [q]; have := hw.2.2; omega
    rw [s_depth hZ hw']
    exact b155_148
  · rw [if_neg hok]
    refine Eq.trans e155 (Eq.trans (b155_0 hZ.k72) ?_)
    simp only [mI_t, mL_t, es2, es1, es3, es4, es5, es6, es7, es8, es9, es10, es11, es12, es13, es14, es15, es51, es52, es53, es54, es61, es0, es16, es17, es18, es19, es20, es21, es22, es23, es24, es25, es26, es27, es28, es29, es30, es31, es32, es33, es34, es35, es36, es37, es38, es39, es40, es41, es42, es43, es44, es45, es46, es47, es48, es49, es50, es55, es56, es57, es58, es59, es60, es62, es63, es64, es65, es66, es67, es68, es69, ea73, ea74, ea75, ea76, ea77, ea78, ea79, ea80, ea81, ea82, ea83, ea84, ea85, ea86, ea87, ea88, ea89, ea90, ea91, ea92, ea93, ea94, ea95, ea96, ea97, ea98, ea99, ea100, ea101, ea102, ea103, ea104, ea105, ea106, ea107, ea108, ea109, ea110, ea111, hZ.k72, hZ.r72_16, hZ.r72_17, hZ.r72_18, hZ.r72_19, hZ.r72_20, hZ.r72_21, hZ.r72_22, hZ.r72_23, hZ.r72_24, hZ.r72_25, hZ.r72_26, hZ.r72_35, hZ.r72_36, hZ.r72_37, hZ.r72_38, hZ.r72_39, hZ.r72_40, hZ.r72_41, hZ.r72_42, hZ.r72_43, hZ.r72_44, hZ.r72_45, hZ.r72_46, hZ.r72_47, hZ.r72_48, hZ.r72_49, hZ.r72_50, hZ.r72_55, hZ.r72_56, hZ.r72_57, hZ.r72_58, hZ.r72_59, hZ.r72_60, hZ.r72_62, hZ.r72_63, hZ.r72_64, hZ.r72_65, hZ.r72_66, hZ.r72_67]
    by_cases h1 : S 0 1 = 0
    · exact Eq.trans (if_pos h1) b155_29
    · refine Eq.trans (if_neg h1) (Eq.trans (b155_7 hZ.k72) ?_)
      simp only [mI_t, mL_t, es2, es1, es3, es4, es5, es6, es7, es8, es9, es10, es11, es12, es13, es14, es15, es51, es52, es53, es54, es61, es0, es16, es17, es18, es19, es20, es21, es22, es23, es24, es25, es26, es27, es28, es29, es30, es31, es32, es33, es34, es35, es36, es37, es38, es39, es40, es41, es42, es43, es44, es45, es46, es47, es48, es49, es50, es55, es56, es57, es58, es59, es60, es62, es63, es64, es65, es66, es67, es68, es69, ea73, ea74, ea75, ea76, ea77, ea78, ea79, ea80, ea81, ea82, ea83, ea84, ea85, ea86, ea87, ea88, ea89, ea90, ea91, ea92, ea93, ea94, ea95, ea96, ea97, ea98, ea99, ea100, ea101, ea102, ea103, ea104, ea105, ea106, ea107, ea108, ea109, ea110, ea111, hZ.k72, hZ.r72_16, hZ.r72_17, hZ.r72_18, hZ.r72_19, hZ.r72_20, hZ.r72_21, hZ.r72_22, hZ.r72_23, hZ.r72_24, hZ.r72_25, hZ.r72_26, hZ.r72_35, hZ.r72_36, hZ.r72_37, hZ.r72_38, hZ.r72_39, hZ.r72_40, hZ.r72_41, hZ.r72_42, hZ.r72_43, hZ.r72_44, hZ.r72_45, hZ.r72_46, hZ.r72_47, hZ.r72_48, hZ.r72_49, hZ.r72_50, hZ.r72_55, hZ.r72_56, hZ.r72_57, hZ.r72_58, hZ.r72_59, hZ.r72_60, hZ.r72_62, hZ.r72_63, hZ.r72_64, hZ.r72_65, hZ.r72_66, hZ.r72_67]
      by_cases h12 : S 0 12 = -1
      · refine Eq.trans (if_neg (fun q => q h12)) (Eq.trans (b155_15 hZ.k72) ?_)
        rw [s_depth hZ hw]
        refine Eq.trans b155_22 ?_
        have hx : inB x 1 (dep S).toInt = false := Bool.eq_false_iff.mpr (fun q => hok (by unfold drawOK; rw [q, decide_eq_false h1, decide_eq_true h12]; rfl))
        rw [m_in, l64_1, Int32.toInt_toInt64, hx]
        exact Eq.trans b155_26 (Eq.trans (if_neg (by decide)) b155_29)
      · exact Eq.trans (if_pos h12) b155_29
end DR
