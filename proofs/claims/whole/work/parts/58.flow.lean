/-! THE STREETS: a minute -/
def upR (I : aI) (a : Nat) (A : Nat → Int32) : aI := fun b => if b = a then A else I b
theorem upR_s {I : aI} {a : Nat} {A : Nat → Int32} : upR I a A a = A := if_pos rfl
theorem upR_o {I : aI} {a b : Nat} {A : Nat → Int32} (h : b ≠ a) : upR I a A b = I b := if_neg h
theorem upR_id {I : aI} {a : Nat} : upR I a (I a) = I := by
  funext b
  unfold upR
  split
  · rename_i h; rw [h]
  · rfl
theorem upR_w {I : aI} {a k : Nat} {A : Nat → Int32} {v : Int32} : up2 (upR I a A) a k v = upR I a (fun c => if c = k then v else A c) := by
  funext b c
  unfold up2 upR
  by_cases h : b = a
  · rw [if_pos h, if_pos h, if_pos h]
  · rw [if_neg h, if_neg h, if_neg h]
theorem upR_2 {I : aI} {a b k : Nat} {A B : Nat → Int32} {v : Int32} (h : b ≠ a) : up2 (upR (upR I a A) b B) a k v = upR (upR I a (fun c => if c = k then v else A c)) b B := by
  funext d c
  unfold up2 upR
  by_cases h1 : d = b
  · subst h1
    rw [if_neg h, if_pos rfl, if_pos rfl]
  · rw [if_neg h1, if_neg h1]
    by_cases h2 : d = a
    · rw [if_pos h2, if_pos h2, if_pos h2]
    · rw [if_neg h2, if_neg h2, if_neg h2]
/-- how much goes over, of a place to its neighbour -/
def gF (S : aS) (y : Int32) (f t : Nat) : Int32 := if 0 < S 14 f + S 15 f - (S 14 t + S 15 t) - y then (if (S 14 f + S 15 f - (S 14 t + S 15 t) - y) / 6 < S 15 f / 4 then (S 14 f + S 15 f - (S 14 t + S 15 t) - y) / 6 else S 15 f / 4) else 0
def trF (S : aS) (y : Int32) (A : Nat → Int32) (e : Nat × Nat) : Nat → Int32 := fun c => A c + ((if c = e.2 then gF S y e.1 e.2 else 0) - (if c = e.1 then gF S y e.1 e.2 else 0))
theorem trF_comm {S : aS} {y : Int32} {A : Nat → Int32} {e e' : Nat × Nat} : trF S y (trF S y A e) e' = trF S y (trF S y A e') e := by
  funext c
  unfold trF
  grind
theorem trF_pt {S : aS} {y : Int32} {c : Nat} : ∀ (l : List (Nat × Nat)) (A B : Nat → Int32), A c = B c → l.foldl (trF S y) A c = l.foldl (trF S y) B c := by
  intro l
  induction l with
  | nil => intro A B h; exact h
  | cons e l ih =>
    intro A B h
    rw [List.foldl_cons, List.foldl_cons]
    refine ih _ _ ?_
    unfold trF
    rw [h]
theorem trF_0 {S : aS} {y : Int32} {A : Nat → Int32} {f t : Nat} (h : ¬ 0 < S 14 f + S 15 f - (S 14 t + S 15 t) - y) : trF S y A (f, t) = A := by
  funext c
  unfold trF gF
  simp only [if_neg h]
  grind
theorem trF_w {S : aS} {y : Int32} {A : Nat → Int32} {f t : Nat} (hne : f ≠ t) : (fun c => if c = t then (if t = f then A f - gF S y f t else A t) + gF S y f t else if c = f then A f - gF S y f t else A c) = trF S y A (f, t) := by
  funext c
  unfold trF
  grind
def eC (n : Nat) : List (Nat × Nat) := (if 0 < n % 12 then [(n, n - 1)] else []) ++ ((if n % 12 < 11 then [(n, n + 1)] else []) ++ ((if n < 12 then [] else [(n, n - 12)]) ++ (if n < 132 then [(n, n + 12)] else [])))
def eM (n : Nat) : List (Nat × Nat) := (if 0 < n % 12 then [(n, n - 1), (n - 1, n)] else []) ++ (if n < 12 then [] else [(n, n - 12), (n - 12, n)])
theorem e_perm : List.Perm ((List.range 144).flatMap eC) ((List.range 144).flatMap eM) := by decide +kernel
def flC (S : aS) (y : Int32) (A : Nat → Int32) (n : Nat) : Nat → Int32 := ((List.range n).flatMap eC).foldl (trF S y) A
def flM (S : aS) (y : Int32) (A : Nat → Int32) (n : Nat) : Nat → Int32 := ((List.range n).flatMap eM).foldl (trF S y) A
theorem flC_s {S : aS} {y : Int32} {A : Nat → Int32} {n : Nat} : flC S y A (n + 1) = (eC n).foldl (trF S y) (flC S y A n) := by
  unfold flC
  rw [List.range_succ, List.flatMap_append, List.foldl_append]
  simp only [List.flatMap_cons, List.flatMap_nil, List.append_nil]
theorem flM_s {S : aS} {y : Int32} {A : Nat → Int32} {n : Nat} : flM S y A (n + 1) = (eM n).foldl (trF S y) (flM S y A n) := by
  unfold flM
  rw [List.range_succ, List.flatMap_append, List.foldl_append]
  simp only [List.flatMap_cons, List.flatMap_nil, List.append_nil]
theorem fl_eq {S : aS} {y : Int32} {A B : Nat → Int32} {c : Nat} (h : A c = B c) : flC S y A 144 c = flM S y B 144 c := by
  unfold flC flM
  rw [trF_pt _ A B h, List.Perm.foldl_eq' e_perm (fun _ _ _ _ z => trF_comm) B]
def adF (A : Nat → Int32) : Nat → aS → aS
  | 0, S => S
  | k + 1, S => up2 (adF A k S) 15 k (adF A k S 15 k + A k)
theorem adF_eq {A B : Nat → Int32} {S : aS} : ∀ n, (∀ k, k < n → A k = B k) → adF A n S = adF B n S := by
  intro n
  induction n with
  | zero => intro _; rfl
  | succ n ih =>
    intro h
    rw [adF, adF, ih (fun k hk => h k (by omega)), h n (by omega)]
theorem adF_c {A : Nat → Int32} {S : aS} {c : Nat} (h : c ≠ 15) : ∀ n, adF A n S c = S c := by
  intro n
  induction n with
  | zero => rfl
  | succ n ih => funext k; rw [adF, up2_a h, ih]
def holdS (S : aS) : Int32 := if S 0 18 < S 0 16 then 0 else S 0 17
def minS (S : aS) : aS := stF 144 (up2 (adF (flM S (holdS S) (fun _ => 0) 144) 144 S) 0 18 (S 0 18 + 1))
def minF : Nat → aS → aS
  | 0, S => S
  | n + 1, S => minF n (minS S)
theorem minS_15 {S : aS} : minS S 0 15 = S 0 15 := by
  unfold minS
  rw [stF_c (by decide) (by decide), up2_k (by decide), adF_c (by decide)]
section FL
variable {I : aI} {G : aL} {Z : aZ} {S : aS}
theorem s_flows (hZ : Shp Z) {L A : Nat → Int32} {f t : Nat} (hf : f < 144) (ht : t < 144) (hne : f ≠ t) (hL : ∀ k, k < 144 → L k = S 14 k + S 15 k) {y : Int32} : call 222 [.ref 72, .int (iN f), .int (iN t), .int y] (emb (upR (upR I 104 L) 105 A) S, G, Z) = some (none, (emb (upR (upR I 104 L) 105 (trF S y A (f, t))) S, G, Z)) := by
  have bf : ib (iN f) 144 := ib_iN (by omega) hf
  have bt : ib (iN t) 144 := ib_iN (by omega) ht
  have cf : (iN f).toNatClampNeg = f := iN_clamp (by omega)
  have ct : (iN t).toNatClampNeg = t := iN_clamp (by omega)
  have r4 : upR (upR I 104 L) 105 A 104 = L := by rw [upR_o (by decide), upR_s]
  refine Eq.trans e222 (Eq.trans (b222_0 hZ.k72 hZ.kr72_59 (hZ.ir72_59 bf) (hZ.ir72_59 bt) hZ.kr72_56 (hZ.ir72_56 bf)) ?_)
  simp only [mI_t, mL_t, es2, es1, es3, es4, es5, es6, es7, es8, es9, es10, es11, es12, es13, es14, es15, es51, es52, es53, es54, es61, es0, es16, es17, es18, es19, es20, es21, es22, es23, es24, es25, es26, es27, es28, es29, es30, es31, es32, es33, es34, es35, es36, es37, es38, es39, es40, es41, es42, es43, es44, es45, es46, es47, es48, es49, es50, es55, es56, es57, es58, es59, es60, es62, es63, es64, es65, es66, es67, es68, es69, ea73, ea74, ea75, ea76, ea77, ea78, ea79, ea80, ea81, ea82, ea83, ea84, ea85, ea86, ea87, ea88, ea89, ea90, ea91, ea92, ea93, ea94, ea95, ea96, ea97, ea98, ea99, ea100, ea101, ea102, ea103, ea104, ea105, ea106, ea107, ea108, ea109, ea110, ea111, hZ.k72, hZ.r72_16, hZ.r72_17, hZ.r72_18, hZ.r72_19, hZ.r72_20, hZ.r72_21, hZ.r72_22, hZ.r72_23, hZ.r72_24, hZ.r72_25, hZ.r72_26, hZ.r72_35, hZ.r72_36, hZ.r72_37, hZ.r72_38, hZ.r72_39, hZ.r72_40, hZ.r72_41, hZ.r72_42, hZ.r72_43, hZ.r72_44, hZ.r72_45, hZ.r72_46, hZ.r72_47, hZ.r72_48, hZ.r72_49, hZ.r72_50, hZ.r72_55, hZ.r72_56, hZ.r72_57, hZ.r72_58, hZ.r72_59, hZ.r72_60, hZ.r72_62, hZ.r72_63, hZ.r72_64, hZ.r72_65, hZ.r72_66, hZ.r72_67, cf, ct, r4, hL f hf, hL t ht]
  by_cases h1 : 0 < S 14 f + S 15 f - (S 14 t + S 15 t) - y
  · refine Eq.trans (if_neg (fun q => q h1)) (Eq.trans b222_32 ?_)
    have go : ∀ w : Int32, w = gF S y f t → run 1 222 52 [.ref 72, .int (iN f), .int (iN t), .int y, .int (S 14 f + S 15 f - (S 14 t + S 15 t) - y), .int (S 15 f / 4), xU] [.int w] (emb (upR (upR I 104 L) 105 A) S, G, Z) = some (none, (emb (upR (upR I 104 L) 105 (trF S y A (f, t))) S, G, Z)) := by
      intro w hw
      subst hw
      refine Eq.trans (b222_52 hZ.k72 hZ.kr72_60 (hZ.ir72_60 bf) (hZ.ir72_60 bt)) (Eq.trans b222_76 ?_)
      simp only [mI_t, mL_t, wI_t, wL_t, es2, es1, es3, es4, es5, es6, es7, es8, es9, es10, es11, es12, es13, es14, es15, es51, es52, es53, es54, es61, es0, es16, es17, es18, es19, es20, es21, es22, es23, es24, es25, es26, es27, es28, es29, es30, es31, es32, es33, es34, es35, es36, es37, es38, es39, es40, es41, es42, es43, es44, es45, es46, es47, es48, es49, es50, es55, es56, es57, es58, es59, es60, es62, es63, es64, es65, es66, es67, es68, es69, ea73, ea74, ea75, ea76, ea77, ea78, ea79, ea80, ea81, ea82, ea83, ea84, ea85, ea86, ea87, ea88, ea89, ea90, ea91, ea92, ea93, ea94, ea95, ea96, ea97, ea98, ea99, ea100, ea101, ea102, ea103, ea104, ea105, ea106, ea107, ea108, ea109, ea110, ea111, ew2, ew1, ew3, ew4, ew5, ew6, ew7, ew8, ew9, ew10, ew11, ew12, ew13, ew14, ew15, ew51, ew52, ew53, ew54, ew61, ew0, ew16, ew17, ew18, ew19, ew20, ew21, ew22, ew23, ew24, ew25, ew26, ew27, ew28, ew29, ew30, ew31, ew32, ew33, ew34, ew35, ew36, ew37, ew38, ew39, ew40, ew41, ew42, ew43, ew44, ew45, ew46, ew47, ew48, ew49, ew50, ew55, ew56, ew57, ew58, ew59, ew60, ew62, ew63, ew64, ew65, ew66, ew67, ew68, ew69, eb73, eb74, eb75, eb76, eb77, eb78, eb79, eb80, eb81, eb82, eb83, eb84, eb85, eb86, eb87, eb88, eb89, eb90, eb91, eb92, eb93, eb94, eb95, eb96, eb97, eb98, eb99, eb100, eb101, eb102, eb103, eb104, eb105, eb106, eb107, eb108, eb109, eb110, eb111, hZ.k72, hZ.r72_16, hZ.r72_17, hZ.r72_18, hZ.r72_19, hZ.r72_20, hZ.r72_21, hZ.r72_22, hZ.r72_23, hZ.r72_24, hZ.r72_25, hZ.r72_26, hZ.r72_35, hZ.r72_36, hZ.r72_37, hZ.r72_38, hZ.r72_39, hZ.r72_40, hZ.r72_41, hZ.r72_42, hZ.r72_43, hZ.r72_44, hZ.r72_45, hZ.r72_46, hZ.r72_47, hZ.r72_48, hZ.r72_49, hZ.r72_50, hZ.r72_55, hZ.r72_56, hZ.r72_57, hZ.r72_58, hZ.r72_59, hZ.r72_60, hZ.r72_62, hZ.r72_63, hZ.r72_64, hZ.r72_65, hZ.r72_66, hZ.r72_67, cf, ct, upR_w, upR_s]
      rw [trF_w hne]
    by_cases h2 : (S 14 f + S 15 f - (S 14 t + S 15 t) - y) / 6 < S 15 f / 4
    · refine Eq.trans (if_neg (fun q => q h2)) (Eq.trans b222_42 (go _ ?_))
      unfold gF
      rw [if_pos h1, if_pos h2]
    · refine Eq.trans (if_pos h2) (Eq.trans b222_50 (go _ ?_))
      unfold gF
      rw [if_pos h1, if_neg h2]
  · refine Eq.trans (if_pos h1) (Eq.trans b222_76 ?_)
    rw [trF_0 h1]
theorem t_goOver (hZ : Shp Z) {A : Nat → Int32} {f t : Nat} (hf : f < 144) (ht : t < 144) (hne : f ≠ t) {y : Int32} : call 42 [.ref 45, .int (iN f), .int (iN t), .int y] (embB 33 (upR I 50 A) S, G, Z) = some (none, (embB 33 (upR I 50 (trF S y A (f, t))) S, G, Z)) := by
  have bf : ib (iN f) 144 := ib_iN (by omega) hf
  have bt : ib (iN t) 144 := ib_iN (by omega) ht
  have cf : (iN f).toNatClampNeg = f := iN_clamp (by omega)
  have ct : (iN t).toNatClampNeg = t := iN_clamp (by omega)
  have ea : S 14 f + S 15 f - S 14 t - S 15 t - y = S 14 f + S 15 f - (S 14 t + S 15 t) - y := by rw [Int32.sub_sub (S 14 f + S 15 f)]
  refine Eq.trans e42 (Eq.trans (b42_0 hZ.k45 hZ.kr45_0 (hZ.ir45_0 bf) hZ.kr45_1 (hZ.ir45_1 bf) (hZ.ir45_0 bt) (hZ.ir45_1 bt)) ?_)
  rw [hZ.r45_0, hZ.r45_1, cf, ct]
  simp only [mI_t, mL_t, ct3, ct4, ct5, ct6, ct7, ct8, ct9, ct10, ct11, ct13, ct15, ct16, ct17, ct18, ct12, ct14, cs5, cs6, cs7, cs8, cw3, ca46, ca47, ca48, ca52, ca53, ca54, ca55, ca56, hZ.k33, hZ.r33_0, hZ.r33_1, hZ.r33_2, hZ.r33_3, hZ.r33_4, hZ.k34, hZ.r34_0, hZ.r34_1, hZ.r34_2, ea]
  by_cases h1 : 0 < S 14 f + S 15 f - (S 14 t + S 15 t) - y
  · refine Eq.trans (if_neg (fun q => q h1)) (Eq.trans (b42_36 hZ.k45 hZ.kr45_1 (hZ.ir45_1 bf) hZ.kr45_4 (hZ.ir45_4 bf) (hZ.ir45_4 bt)) (Eq.trans b42_76 ?_))
    rw [hZ.r45_1, hZ.r45_4, cf, ct]
    simp only [mI_t, mL_t, wI_t, wL_t, ct3, ct4, ct5, ct6, ct7, ct8, ct9, ct10, ct11, ct13, ct15, ct16, ct17, ct18, ct12, ct14, cs5, cs6, cs7, cs8, cw3, ca46, ca47, ca48, ca52, ca53, ca54, ca55, ca56, wh3, wh4, wh5, wh6, wh7, wh8, wh9, wh10, wh15, wh16, wh17, wh18, wa46, wa47, wa48, wa52, wa53, wa54, wa55, wa56, hZ.k33, hZ.r33_0, hZ.r33_1, hZ.r33_2, hZ.r33_3, hZ.r33_4, hZ.k34, hZ.r34_0, hZ.r34_1, hZ.r34_2, cchg, wchg, upR_w, upR_s]
    have eg : (if S 15 f / 4 < (S 14 f + S 15 f - (S 14 t + S 15 t) - y) / 6 then S 15 f / 4 else (S 14 f + S 15 f - (S 14 t + S 15 t) - y) / 6) = gF S y f t := by
      unfold gF
      rw [if_pos h1, min_sw]
    rw [eg, trF_w hne]
  · refine Eq.trans (if_pos h1) (Eq.trans b42_76 ?_)
    rw [trF_0 h1]
theorem mod12 {n : Nat} (h : n < 144) : iN n - iN n / 12 * 12 = iN (n % 12) := by
  have e12 : (12 : Int32) = iN 12 := rfl
  rw [e12, iN_div (by omega) (by decide) (by decide), iN_mul (by omega) (by omega) (by omega), iN_sub (by omega) (by omega)]
  congr 1
  omega
theorem iN_sub1 {a b : Nat} (ha : a < 2147483648) (hb : b ≤ a) {c : Int32} (h : c = iN b) : iN a - c = iN (a - b) := by rw [h, iN_sub ha hb]
theorem t_flow (hZ : Shp Z) {y : Int32} : ∃ A : Nat → Int32, (∀ k, k < 144 → A k = flM S y (fun _ => 0) 144 k) ∧ call 41 [.ref 45, .int y] (embB 33 I S, G, Z) = some (none, (embB 33 (upR I 50 A) (adF A 144 S), G, Z)) := by
  have e144 : (144 : Int32) = iN 144 := rfl
  have e12 : (12 : Int32) = iN 12 := rfl
  have e11 : (11 : Int32) = iN 11 := rfl
  have e132 : (132 : Int32) = iN 132 := rfl
  have e1 : (1 : Int32) = iN 1 := rfl
  have e0 : (0 : Int32) = iN 0 := rfl
  refine ⟨flC S y (fun k => if k < 144 then 0 else I 50 k) 144, fun k hk => fl_eq (by simp only [if_pos hk]), ?_⟩
  refine Eq.trans e41 (Eq.trans b41_0 ?_)
  have k1 := loop_up (fun i => run 2 41 2 [.ref 45, .int y, .int (iN i), xU] [] (embB 33 (upR I 50 (fun k => if k < i then 0 else I 50 k)) S, G, Z)) 144 (fun i hi => by
    have hlt : iN i < iN 144 := (iN_lt (by omega) (by omega)).mpr hi
    have hb : ib (iN i) 144 := ib_iN (by omega) hi
    have hc : (iN i).toNatClampNeg = i := iN_clamp (by omega)
    refine Eq.trans b41_2 ?_
    rw [e144]
    refine Eq.trans (if_neg (fun q => q hlt)) (Eq.trans (b41_9 hZ.k45 hZ.kr45_4 (hZ.ir45_4 hb)) ?_)
    rw [hZ.r45_4, hc, iN_succ]
    simp only [wI_t, wchg, upR_w]
    have ef : (fun c => if c = i then (0 : Int32) else if c < i then 0 else I 50 c) = fun k => if k < i + 1 then 0 else I 50 k := by
      funext c
      grind
    rw [ef]) 0 (by omega)
  have z0 : upR I 50 (fun k => if k < 0 then 0 else I 50 k) = I := by
    have : (fun k => if k < 0 then 0 else I 50 k) = I 50 := by
      funext k
      rw [if_neg (by omega)]
    rw [this, upR_id]
  rw [z0] at k1
  refine Eq.trans k1 (Eq.trans b41_2 (Eq.trans (if_pos (iN_nlt (n := 144) (by omega))) (Eq.trans b41_22 ?_)))
  generalize hA0 : (fun k => if k < 144 then 0 else I 50 k) = A0
  have k2 : ∀ d i v, i + d = 144 → run 2 41 24 [.ref 45, .int y, .int (iN i), v] [] (embB 33 (upR I 50 (flC S y A0 i)) S, G, Z) = some (none, (embB 33 (upR I 50 (flC S y A0 144)) (adF (flC S y A0 144) 144 S), G, Z)) := by
    intro d
    induction d with
    | zero =>
      intro i v hi
      rw [show i = 144 by omega]
      refine Eq.trans b41_24 (Eq.trans (if_pos (iN_nlt (n := 144) (by omega))) (Eq.trans b41_103 ?_))
      generalize flC S y A0 144 = A
      have k3 := loop_up (fun i => run 2 41 105 [.ref 45, .int y, .int (iN i), v] [] (embB 33 (upR I 50 A) (adF A i S), G, Z)) 144 (fun i hi => by
        have hlt : iN i < iN 144 := (iN_lt (by omega) (by omega)).mpr hi
        have hb : ib (iN i) 144 := ib_iN (by omega) hi
        have hc : (iN i).toNatClampNeg = i := iN_clamp (by omega)
        refine Eq.trans b41_105 ?_
        rw [e144]
        refine Eq.trans (if_neg (fun q => q hlt)) (Eq.trans (b41_112 hZ.k45 hZ.kr45_1 (hZ.ir45_1 hb) hZ.kr45_4 (hZ.ir45_4 hb)) ?_)
        rw [hZ.r45_4, hZ.r45_1, hc, iN_succ]
        simp only [mI_t, mL_t, wI_t, wL_t, ct3, ct4, ct5, ct6, ct7, ct8, ct9, ct10, ct11, ct13, ct15, ct16, ct17, ct18, ct12, ct14, cs5, cs6, cs7, cs8, cw3, ca46, ca47, ca48, ca52, ca53, ca54, ca55, ca56, wh3, wh4, wh5, wh6, wh7, wh8, wh9, wh10, wh15, wh16, wh17, wh18, wa46, wa47, wa48, wa52, wa53, wa54, wa55, wa56, hZ.k33, hZ.r33_0, hZ.r33_1, hZ.r33_2, hZ.r33_3, hZ.r33_4, hZ.k34, hZ.r34_0, hZ.r34_1, hZ.r34_2, cchg, upR_s]
        rfl) 0 (by omega)
      exact Eq.trans k3 (Eq.trans b41_105 (Eq.trans (if_pos (iN_nlt (n := 144) (by omega))) b41_133))
    | succ d ih =>
      intro i v hi
      have hlt : iN i < iN 144 := (iN_lt (by omega) (by omega)).mpr (by omega)
      refine Eq.trans b41_24 ?_
      rw [e144]
      refine Eq.trans (if_neg (fun q => q hlt)) (Eq.trans b41_31 ?_)
      rw [mod12 (by omega)]
      have nx := ih (i + 1) (.int (iN (i % 12))) (by omega)
      rw [flC_s] at nx
      unfold eC at nx
      rw [List.foldl_append, List.foldl_append, List.foldl_append] at nx
      refine Eq.trans ?_ nx
      generalize flC S y A0 i = A
      have p1 : (if ¬ 0 < iN (i % 12) then run 2 41 49 [.ref 45, .int y, .int (iN i), .int (iN (i % 12))] [] (embB 33 (upR I 50 A) S, G, Z) else run 2 41 40 [.ref 45, .int y, .int (iN i), .int (iN (i % 12))] [] (embB 33 (upR I 50 A) S, G, Z)) = run 2 41 49 [.ref 45, .int y, .int (iN i), .int (iN (i % 12))] [] (embB 33 (upR I 50 (List.foldl (trF S y) A (if 0 < i % 12 then [(i, i - 1)] else []))) S, G, Z) := by
        by_cases h : 0 < i % 12
        · rw [if_pos h]
          refine Eq.trans (if_neg (fun q => q (by rw [e0]; exact (iN_lt (by omega) (by omega)).mpr h))) (Eq.trans (b41_40 hZ.k45) ?_)
          rw [iN_sub1 (by omega) (by omega) e1, t_goOver hZ (by omega) (by omega) (by omega)]
          rfl
        · rw [if_neg h]
          exact if_pos (fun q => h ((iN_lt (a := 0) (by omega) (by omega)).mp q))
      refine Eq.trans p1 ?_
      generalize List.foldl (trF S y) A (if 0 < i % 12 then [(i, i - 1)] else []) = A1
      have p2 : run 2 41 49 [.ref 45, .int y, .int (iN i), .int (iN (i % 12))] [] (embB 33 (upR I 50 A1) S, G, Z) = run 2 41 64 [.ref 45, .int y, .int (iN i), .int (iN (i % 12))] [] (embB 33 (upR I 50 (List.foldl (trF S y) A1 (if i % 12 < 11 then [(i, i + 1)] else []))) S, G, Z) := by
        refine Eq.trans b41_49 ?_
        rw [e11]
        by_cases h : i % 12 < 11
        · rw [if_pos h]
          refine Eq.trans (if_neg (fun q => q ((iN_lt (by omega) (by omega)).mpr h))) (Eq.trans (b41_55 hZ.k45) ?_)
          rw [iN_succ, t_goOver hZ (by omega) (by omega) (by omega)]
          rfl
        · rw [if_neg h]
          exact if_pos (fun q => h ((iN_lt (by omega) (by omega)).mp q))
      refine Eq.trans p2 ?_
      generalize List.foldl (trF S y) A1 (if i % 12 < 11 then [(i, i + 1)] else []) = A2
      have p3 : run 2 41 64 [.ref 45, .int y, .int (iN i), .int (iN (i % 12))] [] (embB 33 (upR I 50 A2) S, G, Z) = run 2 41 80 [.ref 45, .int y, .int (iN i), .int (iN (i % 12))] [] (embB 33 (upR I 50 (List.foldl (trF S y) A2 (if i < 12 then [] else [(i, i - 12)]))) S, G, Z) := by
        refine Eq.trans b41_64 ?_
        by_cases h : i < 12
        · rw [if_pos h]
          exact if_pos ((iN_lt (b := 12) (by omega) (by omega)).mpr h)
        · rw [if_neg h]
          refine Eq.trans (if_neg (fun q => h ((iN_lt (b := 12) (by omega) (by omega)).mp q))) (Eq.trans (b41_70 hZ.k45) ?_)
          rw [iN_sub1 (by omega) (by omega) e12, t_goOver hZ (by omega) (by omega) (by omega)]
          rfl
      refine Eq.trans p3 ?_
      generalize List.foldl (trF S y) A2 (if i < 12 then [] else [(i, i - 12)]) = A3
      refine Eq.trans b41_80 ?_
      rw [e132]
      by_cases h : i < 132
      · rw [if_pos h]
        refine Eq.trans (if_neg (fun q => q ((iN_lt (by omega) (by omega)).mpr h))) (Eq.trans (b41_87 hZ.k45) ?_)
        rw [e12, iN_add, t_goOver hZ (by omega) (by omega) (by omega)]
        refine Eq.trans b41_97 ?_
        rw [iN_succ]
        rfl
      · rw [if_neg h]
        refine Eq.trans (if_pos (fun q => h ((iN_lt (by omega) (by omega)).mp q))) (Eq.trans b41_97 ?_)
        rw [iN_succ]
        rfl
  exact k2 144 0 xU (by omega)
theorem s_minute (hZ : Shp Z) : ∃ I', (∀ a, a ≠ 104 → a ≠ 105 → I' a = I a) ∧ call 223 [.ref 72] (emb I S, G, Z) = some (none, (emb I' (minS S), G, Z)) := by
  have e144 : (144 : Int32) = iN 144 := rfl
  have e12 : (12 : Int32) = iN 12 := rfl
  have e1 : (1 : Int32) = iN 1 := rfl
  have e0 : (0 : Int32) = iN 0 := rfl
  generalize hL0 : (fun k => if k < 144 then S 14 k + S 15 k else I 104 k) = L
  generalize hA0 : (fun k => if k < 144 then 0 else I 105 k) = A0
  have hL : ∀ k, k < 144 → L k = S 14 k + S 15 k := fun k hk => by rw [← hL0]; exact if_pos hk
  refine ⟨upR (upR I 104 L) 105 (flM S (holdS S) A0 144), fun a h1 h2 => by rw [upR_o h2, upR_o h1], ?_⟩
  have st : call 223 [.ref 72] (emb I S, G, Z) = run 2 223 22 [.ref 72, .int (holdS S), .int 0] [] (emb I S, G, Z) := by
    refine Eq.trans e223 (Eq.trans (b223_0 hZ.k72) ?_)
    unfold holdS
    simp only [mI_t, mL_t, es2, es1, es3, es4, es5, es6, es7, es8, es9, es10, es11, es12, es13, es14, es15, es51, es52, es53, es54, es61, es0, es16, es17, es18, es19, es20, es21, es22, es23, es24, es25, es26, es27, es28, es29, es30, es31, es32, es33, es34, es35, es36, es37, es38, es39, es40, es41, es42, es43, es44, es45, es46, es47, es48, es49, es50, es55, es56, es57, es58, es59, es60, es62, es63, es64, es65, es66, es67, es68, es69, ea73, ea74, ea75, ea76, ea77, ea78, ea79, ea80, ea81, ea82, ea83, ea84, ea85, ea86, ea87, ea88, ea89, ea90, ea91, ea92, ea93, ea94, ea95, ea96, ea97, ea98, ea99, ea100, ea101, ea102, ea103, ea104, ea105, ea106, ea107, ea108, ea109, ea110, ea111, hZ.k72, hZ.r72_16, hZ.r72_17, hZ.r72_18, hZ.r72_19, hZ.r72_20, hZ.r72_21, hZ.r72_22, hZ.r72_23, hZ.r72_24, hZ.r72_25, hZ.r72_26, hZ.r72_35, hZ.r72_36, hZ.r72_37, hZ.r72_38, hZ.r72_39, hZ.r72_40, hZ.r72_41, hZ.r72_42, hZ.r72_43, hZ.r72_44, hZ.r72_45, hZ.r72_46, hZ.r72_47, hZ.r72_48, hZ.r72_49, hZ.r72_50, hZ.r72_55, hZ.r72_56, hZ.r72_57, hZ.r72_58, hZ.r72_59, hZ.r72_60, hZ.r72_62, hZ.r72_63, hZ.r72_64, hZ.r72_65, hZ.r72_66, hZ.r72_67]
    by_cases h : S 0 18 < S 0 16
    · rw [if_pos h]
      exact Eq.trans (if_neg (fun q => q h)) (Eq.trans b223_11 b223_19)
    · rw [if_neg h]
      refine Eq.trans (if_pos h) (Eq.trans (b223_15 hZ.k72) (Eq.trans b223_19 ?_))
      simp only [mI_t, mL_t, es2, es1, es3, es4, es5, es6, es7, es8, es9, es10, es11, es12, es13, es14, es15, es51, es52, es53, es54, es61, es0, es16, es17, es18, es19, es20, es21, es22, es23, es24, es25, es26, es27, es28, es29, es30, es31, es32, es33, es34, es35, es36, es37, es38, es39, es40, es41, es42, es43, es44, es45, es46, es47, es48, es49, es50, es55, es56, es57, es58, es59, es60, es62, es63, es64, es65, es66, es67, es68, es69, ea73, ea74, ea75, ea76, ea77, ea78, ea79, ea80, ea81, ea82, ea83, ea84, ea85, ea86, ea87, ea88, ea89, ea90, ea91, ea92, ea93, ea94, ea95, ea96, ea97, ea98, ea99, ea100, ea101, ea102, ea103, ea104, ea105, ea106, ea107, ea108, ea109, ea110, ea111, hZ.k72, hZ.r72_16, hZ.r72_17, hZ.r72_18, hZ.r72_19, hZ.r72_20, hZ.r72_21, hZ.r72_22, hZ.r72_23, hZ.r72_24, hZ.r72_25, hZ.r72_26, hZ.r72_35, hZ.r72_36, hZ.r72_37, hZ.r72_38, hZ.r72_39, hZ.r72_40, hZ.r72_41, hZ.r72_42, hZ.r72_43, hZ.r72_44, hZ.r72_45, hZ.r72_46, hZ.r72_47, hZ.r72_48, hZ.r72_49, hZ.r72_50, hZ.r72_55, hZ.r72_56, hZ.r72_57, hZ.r72_58, hZ.r72_59, hZ.r72_60, hZ.r72_62, hZ.r72_63, hZ.r72_64, hZ.r72_65, hZ.r72_66, hZ.r72_67]
  refine Eq.trans st ?_
  generalize hy : holdS S = y
  have k1 := loop_up (fun i => run 2 223 22 [.ref 72, .int y, .int (iN i)] [] (emb (upR (upR I 104 (fun k => if k < i then S 14 k + S 15 k else I 104 k)) 105 (fun k => if k < i then 0 else I 105 k)) S, G, Z)) 144 (fun i hi => by
    have hlt : iN i < iN 144 := (iN_lt (by omega) (by omega)).mpr hi
    have hb : ib (iN i) 144 := ib_iN (by omega) hi
    have hc : (iN i).toNatClampNeg = i := iN_clamp (by omega)
    refine Eq.trans b223_22 ?_
    rw [e144]
    refine Eq.trans (if_neg (fun q => q hlt)) (Eq.trans (b223_29 hZ.k72 hZ.kr72_55 (hZ.ir72_55 hb) hZ.kr72_56 (hZ.ir72_56 hb) hZ.kr72_59 (hZ.ir72_59 hb) hZ.kr72_60 (hZ.ir72_60 hb)) ?_)
    simp only [mI_t, mL_t, wI_t, wL_t, es2, es1, es3, es4, es5, es6, es7, es8, es9, es10, es11, es12, es13, es14, es15, es51, es52, es53, es54, es61, es0, es16, es17, es18, es19, es20, es21, es22, es23, es24, es25, es26, es27, es28, es29, es30, es31, es32, es33, es34, es35, es36, es37, es38, es39, es40, es41, es42, es43, es44, es45, es46, es47, es48, es49, es50, es55, es56, es57, es58, es59, es60, es62, es63, es64, es65, es66, es67, es68, es69, ea73, ea74, ea75, ea76, ea77, ea78, ea79, ea80, ea81, ea82, ea83, ea84, ea85, ea86, ea87, ea88, ea89, ea90, ea91, ea92, ea93, ea94, ea95, ea96, ea97, ea98, ea99, ea100, ea101, ea102, ea103, ea104, ea105, ea106, ea107, ea108, ea109, ea110, ea111, ew2, ew1, ew3, ew4, ew5, ew6, ew7, ew8, ew9, ew10, ew11, ew12, ew13, ew14, ew15, ew51, ew52, ew53, ew54, ew61, ew0, ew16, ew17, ew18, ew19, ew20, ew21, ew22, ew23, ew24, ew25, ew26, ew27, ew28, ew29, ew30, ew31, ew32, ew33, ew34, ew35, ew36, ew37, ew38, ew39, ew40, ew41, ew42, ew43, ew44, ew45, ew46, ew47, ew48, ew49, ew50, ew55, ew56, ew57, ew58, ew59, ew60, ew62, ew63, ew64, ew65, ew66, ew67, ew68, ew69, eb73, eb74, eb75, eb76, eb77, eb78, eb79, eb80, eb81, eb82, eb83, eb84, eb85, eb86, eb87, eb88, eb89, eb90, eb91, eb92, eb93, eb94, eb95, eb96, eb97, eb98, eb99, eb100, eb101, eb102, eb103, eb104, eb105, eb106, eb107, eb108, eb109, eb110, eb111, hZ.k72, hZ.r72_16, hZ.r72_17, hZ.r72_18, hZ.r72_19, hZ.r72_20, hZ.r72_21, hZ.r72_22, hZ.r72_23, hZ.r72_24, hZ.r72_25, hZ.r72_26, hZ.r72_35, hZ.r72_36, hZ.r72_37, hZ.r72_38, hZ.r72_39, hZ.r72_40, hZ.r72_41, hZ.r72_42, hZ.r72_43, hZ.r72_44, hZ.r72_45, hZ.r72_46, hZ.r72_47, hZ.r72_48, hZ.r72_49, hZ.r72_50, hZ.r72_55, hZ.r72_56, hZ.r72_57, hZ.r72_58, hZ.r72_59, hZ.r72_60, hZ.r72_62, hZ.r72_63, hZ.r72_64, hZ.r72_65, hZ.r72_66, hZ.r72_67, hc, iN_succ]
    rw [upR_2 (show (105 : Nat) ≠ 104 by decide), upR_w]
    have ef : (fun c => if c = i then (0 : Int32) else if c < i then 0 else I 105 c) = fun k => if k < i + 1 then 0 else I 105 k := by
      funext c
      grind
    have eg : (fun c => if c = i then S 14 i + S 15 i else if c < i then S 14 c + S 15 c else I 104 c) = fun k => if k < i + 1 then S 14 k + S 15 k else I 104 k := by
      funext c
      grind
    rw [ef, eg]) 0 (by omega)
  have z0 : upR (upR I 104 (fun k => if k < 0 then S 14 k + S 15 k else I 104 k)) 105 (fun k => if k < 0 then 0 else I 105 k) = I := by
    have q1 : (fun k => if k < 0 then S 14 k + S 15 k else I 104 k) = I 104 := by
      funext k
      rw [if_neg (by omega)]
    have q2 : (fun k => if k < 0 then 0 else I 105 k) = I 105 := by
      funext k
      rw [if_neg (by omega)]
    rw [q1, q2, upR_id, upR_id]
  rw [z0, hL0, hA0] at k1
  refine Eq.trans k1 (Eq.trans b223_22 (Eq.trans (if_pos (iN_nlt (n := 144) (by omega))) (Eq.trans b223_61 ?_)))
  have hp : ∀ i, i < 144 → ∀ A, run 2 223 70 [.ref 72, .int y, .int (iN i)] [] (emb (upR (upR I 104 L) 105 A) S, G, Z) = run 2 223 63 [.ref 72, .int y, .int (iN (i + 1))] [] (emb (upR (upR I 104 L) 105 ((eM i).foldl (trF S y) A)) S, G, Z) := by
    intro i hi A
    unfold eM
    rw [List.foldl_append]
    refine Eq.trans b223_70 ?_
    rw [mod12 hi]
    have p1 : (if ¬ 0 < iN (i % 12) then run 2 223 95 [.ref 72, .int y, .int (iN i)] [] (emb (upR (upR I 104 L) 105 A) S, G, Z) else run 2 223 77 [.ref 72, .int y, .int (iN i)] [] (emb (upR (upR I 104 L) 105 A) S, G, Z)) = run 2 223 95 [.ref 72, .int y, .int (iN i)] [] (emb (upR (upR I 104 L) 105 (List.foldl (trF S y) A (if 0 < i % 12 then [(i, i - 1), (i - 1, i)] else []))) S, G, Z) := by
      by_cases h : 0 < i % 12
      · rw [if_pos h]
        refine Eq.trans (if_neg (fun q => q (by rw [e0]; exact (iN_lt (by omega) (by omega)).mpr h))) (Eq.trans (b223_77 hZ.k72) ?_)
        rw [iN_sub1 (by omega) (by omega) e1, s_flows hZ (by omega) (by omega) (by omega) hL]
        refine Eq.trans (b223_86 hZ.k72) ?_
        rw [iN_sub1 (by omega) (by omega) e1, s_flows hZ (by omega) (by omega) (by omega) hL]
        rfl
      · rw [if_neg h]
        exact if_pos (fun q => h ((iN_lt (a := 0) (by omega) (by omega)).mp q))
    refine Eq.trans p1 ?_
    generalize List.foldl (trF S y) A (if 0 < i % 12 then [(i, i - 1), (i - 1, i)] else []) = A1
    refine Eq.trans b223_95 ?_
    by_cases h : i < 12
    · rw [if_pos h]
      refine Eq.trans (if_pos ((iN_lt (b := 12) (by omega) (by omega)).mpr h)) (Eq.trans b223_121 ?_)
      rw [iN_succ]
      rfl
    · rw [if_neg h]
      refine Eq.trans (if_neg (fun q => h ((iN_lt (b := 12) (by omega) (by omega)).mp q))) (Eq.trans (b223_101 hZ.k72) ?_)
      rw [iN_sub1 (by omega) (by omega) e12, s_flows hZ (by omega) (by omega) (by omega) hL]
      refine Eq.trans (b223_111 hZ.k72) ?_
      rw [iN_sub1 (by omega) (by omega) e12, s_flows hZ (by omega) (by omega) (by omega) hL]
      refine Eq.trans b223_121 ?_
      rw [iN_succ]
      rfl
  have k2 := loop_up (fun i => run 2 223 63 [.ref 72, .int y, .int (iN i)] [] (emb (upR (upR I 104 L) 105 (flM S y A0 i)) S, G, Z)) 144 (fun i hi => by
    have hlt : iN i < iN 144 := (iN_lt (by omega) (by omega)).mpr hi
    refine Eq.trans b223_63 ?_
    rw [e144]
    refine Eq.trans (if_neg (fun q => q hlt)) (Eq.trans (hp i hi _) ?_)
    rw [← flM_s]) 0 (by omega)
  refine Eq.trans k2 (Eq.trans b223_63 (Eq.trans (if_pos (iN_nlt (n := 144) (by omega))) (Eq.trans b223_127 ?_)))
  have eA : adF (flM S y (fun _ => 0) 144) 144 S = adF (flM S y A0 144) 144 S := by
    refine adF_eq 144 (fun k hk => ?_)
    unfold flM
    exact trF_pt _ _ _ (by rw [← hA0]; exact (if_pos hk).symm)
  unfold minS
  rw [hy, eA]
  generalize flM S y A0 144 = A
  have k3 := loop_up (fun i => run 2 223 129 [.ref 72, .int y, .int (iN i)] [] (emb (upR (upR I 104 L) 105 A) (adF A i S), G, Z)) 144 (fun i hi => by
    have hlt : iN i < iN 144 := (iN_lt (by omega) (by omega)).mpr hi
    have hb : ib (iN i) 144 := ib_iN (by omega) hi
    have hc : (iN i).toNatClampNeg = i := iN_clamp (by omega)
    refine Eq.trans b223_129 ?_
    rw [e144]
    refine Eq.trans (if_neg (fun q => q hlt)) (Eq.trans (b223_136 hZ.k72 hZ.kr72_56 (hZ.ir72_56 hb) hZ.kr72_60 (hZ.ir72_60 hb)) ?_)
    simp only [mI_t, mL_t, wI_t, wL_t, es2, es1, es3, es4, es5, es6, es7, es8, es9, es10, es11, es12, es13, es14, es15, es51, es52, es53, es54, es61, es0, es16, es17, es18, es19, es20, es21, es22, es23, es24, es25, es26, es27, es28, es29, es30, es31, es32, es33, es34, es35, es36, es37, es38, es39, es40, es41, es42, es43, es44, es45, es46, es47, es48, es49, es50, es55, es56, es57, es58, es59, es60, es62, es63, es64, es65, es66, es67, es68, es69, ea73, ea74, ea75, ea76, ea77, ea78, ea79, ea80, ea81, ea82, ea83, ea84, ea85, ea86, ea87, ea88, ea89, ea90, ea91, ea92, ea93, ea94, ea95, ea96, ea97, ea98, ea99, ea100, ea101, ea102, ea103, ea104, ea105, ea106, ea107, ea108, ea109, ea110, ea111, ew2, ew1, ew3, ew4, ew5, ew6, ew7, ew8, ew9, ew10, ew11, ew12, ew13, ew14, ew15, ew51, ew52, ew53, ew54, ew61, ew0, ew16, ew17, ew18, ew19, ew20, ew21, ew22, ew23, ew24, ew25, ew26, ew27, ew28, ew29, ew30, ew31, ew32, ew33, ew34, ew35, ew36, ew37, ew38, ew39, ew40, ew41, ew42, ew43, ew44, ew45, ew46, ew47, ew48, ew49, ew50, ew55, ew56, ew57, ew58, ew59, ew60, ew62, ew63, ew64, ew65, ew66, ew67, ew68, ew69, eb73, eb74, eb75, eb76, eb77, eb78, eb79, eb80, eb81, eb82, eb83, eb84, eb85, eb86, eb87, eb88, eb89, eb90, eb91, eb92, eb93, eb94, eb95, eb96, eb97, eb98, eb99, eb100, eb101, eb102, eb103, eb104, eb105, eb106, eb107, eb108, eb109, eb110, eb111, hZ.k72, hZ.r72_16, hZ.r72_17, hZ.r72_18, hZ.r72_19, hZ.r72_20, hZ.r72_21, hZ.r72_22, hZ.r72_23, hZ.r72_24, hZ.r72_25, hZ.r72_26, hZ.r72_35, hZ.r72_36, hZ.r72_37, hZ.r72_38, hZ.r72_39, hZ.r72_40, hZ.r72_41, hZ.r72_42, hZ.r72_43, hZ.r72_44, hZ.r72_45, hZ.r72_46, hZ.r72_47, hZ.r72_48, hZ.r72_49, hZ.r72_50, hZ.r72_55, hZ.r72_56, hZ.r72_57, hZ.r72_58, hZ.r72_59, hZ.r72_60, hZ.r72_62, hZ.r72_63, hZ.r72_64, hZ.r72_65, hZ.r72_66, hZ.r72_67, hc, iN_succ, upR_s]
    rfl) 0 (by omega)
  refine Eq.trans k3 (Eq.trans b223_129 (Eq.trans (if_pos (iN_nlt (n := 144) (by omega))) (Eq.trans (b223_157 hZ.k72) ?_)))
  simp only [mI_t, mL_t, wI_t, wL_t, es2, es1, es3, es4, es5, es6, es7, es8, es9, es10, es11, es12, es13, es14, es15, es51, es52, es53, es54, es61, es0, es16, es17, es18, es19, es20, es21, es22, es23, es24, es25, es26, es27, es28, es29, es30, es31, es32, es33, es34, es35, es36, es37, es38, es39, es40, es41, es42, es43, es44, es45, es46, es47, es48, es49, es50, es55, es56, es57, es58, es59, es60, es62, es63, es64, es65, es66, es67, es68, es69, ea73, ea74, ea75, ea76, ea77, ea78, ea79, ea80, ea81, ea82, ea83, ea84, ea85, ea86, ea87, ea88, ea89, ea90, ea91, ea92, ea93, ea94, ea95, ea96, ea97, ea98, ea99, ea100, ea101, ea102, ea103, ea104, ea105, ea106, ea107, ea108, ea109, ea110, ea111, ew2, ew1, ew3, ew4, ew5, ew6, ew7, ew8, ew9, ew10, ew11, ew12, ew13, ew14, ew15, ew51, ew52, ew53, ew54, ew61, ew0, ew16, ew17, ew18, ew19, ew20, ew21, ew22, ew23, ew24, ew25, ew26, ew27, ew28, ew29, ew30, ew31, ew32, ew33, ew34, ew35, ew36, ew37, ew38, ew39, ew40, ew41, ew42, ew43, ew44, ew45, ew46, ew47, ew48, ew49, ew50, ew55, ew56, ew57, ew58, ew59, ew60, ew62, ew63, ew64, ew65, ew66, ew67, ew68, ew69, eb73, eb74, eb75, eb76, eb77, eb78, eb79, eb80, eb81, eb82, eb83, eb84, eb85, eb86, eb87, eb88, eb89, eb90, eb91, eb92, eb93, eb94, eb95, eb96, eb97, eb98, eb99, eb100, eb101, eb102, eb103, eb104, eb105, eb106, eb107, eb108, eb109, eb110, eb111, hZ.k72, hZ.r72_16, hZ.r72_17, hZ.r72_18, hZ.r72_19, hZ.r72_20, hZ.r72_21, hZ.r72_22, hZ.r72_23, hZ.r72_24, hZ.r72_25, hZ.r72_26, hZ.r72_35, hZ.r72_36, hZ.r72_37, hZ.r72_38, hZ.r72_39, hZ.r72_40, hZ.r72_41, hZ.r72_42, hZ.r72_43, hZ.r72_44, hZ.r72_45, hZ.r72_46, hZ.r72_47, hZ.r72_48, hZ.r72_49, hZ.r72_50, hZ.r72_55, hZ.r72_56, hZ.r72_57, hZ.r72_58, hZ.r72_59, hZ.r72_60, hZ.r72_62, hZ.r72_63, hZ.r72_64, hZ.r72_65, hZ.r72_66, hZ.r72_67]
  rw [s_stains hZ, adF_c (show (0 : Nat) ≠ 15 by decide)]
  exact b223_171
theorem minF_15 : ∀ (n : Nat) (T : aS), minF n T 0 15 = T 0 15 := by
  intro n
  induction n with
  | zero => intro T; rfl
  | succ n ih => intro T; rw [minF, ih, minS_15]
theorem s_minutes (hZ : Shp Z) {n : Int32} : ∃ I', (∀ a, a ≠ 104 → a ≠ 105 → I' a = I a) ∧ call 224 [.ref 72, .int n] (emb I S, G, Z) = if (!decide (S 0 15 = 0) && inB n 0 60) = true then some (some (.int (minF n.toNatClampNeg S 0 18)), (emb I' (minF n.toNatClampNeg S), G, Z)) else some (some (.int (-1)), (emb I S, G, Z)) := by
  by_cases h0 : S 0 15 = 0
  · refine ⟨I, fun _ _ _ => rfl, ?_⟩
    rw [decide_eq_true h0]
    refine Eq.trans e224 (Eq.trans (b224_0 hZ.k72) ?_)
    simp only [mI_t, mL_t, es2, es1, es3, es4, es5, es6, es7, es8, es9, es10, es11, es12, es13, es14, es15, es51, es52, es53, es54, es61, es0, es16, es17, es18, es19, es20, es21, es22, es23, es24, es25, es26, es27, es28, es29, es30, es31, es32, es33, es34, es35, es36, es37, es38, es39, es40, es41, es42, es43, es44, es45, es46, es47, es48, es49, es50, es55, es56, es57, es58, es59, es60, es62, es63, es64, es65, es66, es67, es68, es69, ea73, ea74, ea75, ea76, ea77, ea78, ea79, ea80, ea81, ea82, ea83, ea84, ea85, ea86, ea87, ea88, ea89, ea90, ea91, ea92, ea93, ea94, ea95, ea96, ea97, ea98, ea99, ea100, ea101, ea102, ea103, ea104, ea105, ea106, ea107, ea108, ea109, ea110, ea111, hZ.k72, hZ.r72_16, hZ.r72_17, hZ.r72_18, hZ.r72_19, hZ.r72_20, hZ.r72_21, hZ.r72_22, hZ.r72_23, hZ.r72_24, hZ.r72_25, hZ.r72_26, hZ.r72_35, hZ.r72_36, hZ.r72_37, hZ.r72_38, hZ.r72_39, hZ.r72_40, hZ.r72_41, hZ.r72_42, hZ.r72_43, hZ.r72_44, hZ.r72_45, hZ.r72_46, hZ.r72_47, hZ.r72_48, hZ.r72_49, hZ.r72_50, hZ.r72_55, hZ.r72_56, hZ.r72_57, hZ.r72_58, hZ.r72_59, hZ.r72_60, hZ.r72_62, hZ.r72_63, hZ.r72_64, hZ.r72_65, hZ.r72_66, hZ.r72_67]
    exact Eq.trans (if_pos h0) b224_19
  · by_cases h1 : inB n 0 60 = true
    · have hi := inB_iff.mp h1
      obtain ⟨m, hm, rfl⟩ := iN_of (x := n) (by rw [ti_lt, l32_0]; omega)
      rw [iN_int hm] at hi
      rw [iN_clamp hm]
      have key : ∀ d i (T : aS) (J : aI), i + d = m → ∃ J', (∀ a, a ≠ 104 → a ≠ 105 → J' a = J a) ∧ run 3 224 23 [.ref 72, .int (iN m), .int (iN i)] [] (emb J T, G, Z) = some (some (.int (minF d T 0 18)), (emb J' (minF d T), G, Z)) := by
        intro d
        induction d with
        | zero =>
          intro i T J hid
          refine ⟨J, fun _ _ _ => rfl, ?_⟩
          refine Eq.trans b224_23 ?_
          rw [show i = m by omega]
          refine Eq.trans (if_pos (iN_nlt hm)) (Eq.trans (b224_38 hZ.k72) ?_)
          simp only [mI_t, mL_t, es2, es1, es3, es4, es5, es6, es7, es8, es9, es10, es11, es12, es13, es14, es15, es51, es52, es53, es54, es61, es0, es16, es17, es18, es19, es20, es21, es22, es23, es24, es25, es26, es27, es28, es29, es30, es31, es32, es33, es34, es35, es36, es37, es38, es39, es40, es41, es42, es43, es44, es45, es46, es47, es48, es49, es50, es55, es56, es57, es58, es59, es60, es62, es63, es64, es65, es66, es67, es68, es69, ea73, ea74, ea75, ea76, ea77, ea78, ea79, ea80, ea81, ea82, ea83, ea84, ea85, ea86, ea87, ea88, ea89, ea90, ea91, ea92, ea93, ea94, ea95, ea96, ea97, ea98, ea99, ea100, ea101, ea102, ea103, ea104, ea105, ea106, ea107, ea108, ea109, ea110, ea111, hZ.k72, hZ.r72_16, hZ.r72_17, hZ.r72_18, hZ.r72_19, hZ.r72_20, hZ.r72_21, hZ.r72_22, hZ.r72_23, hZ.r72_24, hZ.r72_25, hZ.r72_26, hZ.r72_35, hZ.r72_36, hZ.r72_37, hZ.r72_38, hZ.r72_39, hZ.r72_40, hZ.r72_41, hZ.r72_42, hZ.r72_43, hZ.r72_44, hZ.r72_45, hZ.r72_46, hZ.r72_47, hZ.r72_48, hZ.r72_49, hZ.r72_50, hZ.r72_55, hZ.r72_56, hZ.r72_57, hZ.r72_58, hZ.r72_59, hZ.r72_60, hZ.r72_62, hZ.r72_63, hZ.r72_64, hZ.r72_65, hZ.r72_66, hZ.r72_67]
          rfl
        | succ d ih =>
          intro i T J hid
          obtain ⟨J1, q1, r1⟩ := s_minute (I := J) (G := G) (S := T) hZ
          obtain ⟨J2, q2, r2⟩ := ih (i + 1) (minS T) J1 (by omega)
          refine ⟨J2, fun a x y => by rw [q2 a x y, q1 a x y], ?_⟩
          refine Eq.trans b224_23 (Eq.trans (if_neg (fun q => q ((iN_lt (by omega) (by omega)).mpr (by omega)))) (Eq.trans (b224_28 hZ.k72) ?_))
          rw [r1]
          refine Eq.trans b224_32 ?_
          rw [iN_succ]
          exact r2
      obtain ⟨J', q, r⟩ := key m 0 S I (by omega)
      refine ⟨J', q, ?_⟩
      rw [decide_eq_false h0, h1]
      refine Eq.trans e224 (Eq.trans (b224_0 hZ.k72) ?_)
      simp only [mI_t, mL_t, es2, es1, es3, es4, es5, es6, es7, es8, es9, es10, es11, es12, es13, es14, es15, es51, es52, es53, es54, es61, es0, es16, es17, es18, es19, es20, es21, es22, es23, es24, es25, es26, es27, es28, es29, es30, es31, es32, es33, es34, es35, es36, es37, es38, es39, es40, es41, es42, es43, es44, es45, es46, es47, es48, es49, es50, es55, es56, es57, es58, es59, es60, es62, es63, es64, es65, es66, es67, es68, es69, ea73, ea74, ea75, ea76, ea77, ea78, ea79, ea80, ea81, ea82, ea83, ea84, ea85, ea86, ea87, ea88, ea89, ea90, ea91, ea92, ea93, ea94, ea95, ea96, ea97, ea98, ea99, ea100, ea101, ea102, ea103, ea104, ea105, ea106, ea107, ea108, ea109, ea110, ea111, hZ.k72, hZ.r72_16, hZ.r72_17, hZ.r72_18, hZ.r72_19, hZ.r72_20, hZ.r72_21, hZ.r72_22, hZ.r72_23, hZ.r72_24, hZ.r72_25, hZ.r72_26, hZ.r72_35, hZ.r72_36, hZ.r72_37, hZ.r72_38, hZ.r72_39, hZ.r72_40, hZ.r72_41, hZ.r72_42, hZ.r72_43, hZ.r72_44, hZ.r72_45, hZ.r72_46, hZ.r72_47, hZ.r72_48, hZ.r72_49, hZ.r72_50, hZ.r72_55, hZ.r72_56, hZ.r72_57, hZ.r72_58, hZ.r72_59, hZ.r72_60, hZ.r72_62, hZ.r72_63, hZ.r72_64, hZ.r72_65, hZ.r72_66, hZ.r72_67]
      refine Eq.trans (if_neg h0) (Eq.trans b224_7 ?_)
      rw [m_in, l64_0, l64_60, h1]
      exact Eq.trans b224_16 (Eq.trans (if_pos (by decide)) (Eq.trans b224_21 r))
    · refine ⟨I, fun _ _ _ => rfl, ?_⟩
      rw [Bool.eq_false_iff.mpr h1, Bool.and_false]
      refine Eq.trans e224 (Eq.trans (b224_0 hZ.k72) ?_)
      simp only [mI_t, mL_t, es2, es1, es3, es4, es5, es6, es7, es8, es9, es10, es11, es12, es13, es14, es15, es51, es52, es53, es54, es61, es0, es16, es17, es18, es19, es20, es21, es22, es23, es24, es25, es26, es27, es28, es29, es30, es31, es32, es33, es34, es35, es36, es37, es38, es39, es40, es41, es42, es43, es44, es45, es46, es47, es48, es49, es50, es55, es56, es57, es58, es59, es60, es62, es63, es64, es65, es66, es67, es68, es69, ea73, ea74, ea75, ea76, ea77, ea78, ea79, ea80, ea81, ea82, ea83, ea84, ea85, ea86, ea87, ea88, ea89, ea90, ea91, ea92, ea93, ea94, ea95, ea96, ea97, ea98, ea99, ea100, ea101, ea102, ea103, ea104, ea105, ea106, ea107, ea108, ea109, ea110, ea111, hZ.k72, hZ.r72_16, hZ.r72_17, hZ.r72_18, hZ.r72_19, hZ.r72_20, hZ.r72_21, hZ.r72_22, hZ.r72_23, hZ.r72_24, hZ.r72_25, hZ.r72_26, hZ.r72_35, hZ.r72_36, hZ.r72_37, hZ.r72_38, hZ.r72_39, hZ.r72_40, hZ.r72_41, hZ.r72_42, hZ.r72_43, hZ.r72_44, hZ.r72_45, hZ.r72_46, hZ.r72_47, hZ.r72_48, hZ.r72_49, hZ.r72_50, hZ.r72_55, hZ.r72_56, hZ.r72_57, hZ.r72_58, hZ.r72_59, hZ.r72_60, hZ.r72_62, hZ.r72_63, hZ.r72_64, hZ.r72_65, hZ.r72_66, hZ.r72_67]
      refine Eq.trans (if_neg h0) (Eq.trans b224_7 ?_)
      rw [m_in, l64_0, l64_60, Bool.eq_false_iff.mpr h1]
      exact Eq.trans b224_16 (Eq.trans (if_neg (by decide)) b224_19)
theorem f_minutes (hZ : Shp Z) {n : Int32} : ∃ I', Out I I' ∧ call 128 [.ref 32, .int n] (embB 33 I S, G, Z) = if (!decide (S 0 15 = 0) && inB n 0 60) = true then some (some (.int (minF n.toNatClampNeg S 0 18)), (embB 33 I' (minF n.toNatClampNeg S), G, Z)) else some (some (.int (-1)), (embB 33 I S, G, Z)) := by
  have hq : (mK (embB 33 I S, G, Z) (mR (embB 33 I S, G, Z) (mR (embB 33 I S, G, Z) 32 0) 1) = 5) := by rw [hZ.r32_0, hZ.r33_1]; exact hZ.k45
  by_cases h1 : inB n 0 60 = true
  · by_cases h0 : S 0 15 = 0
    · refine ⟨I, fun _ _ => rfl, ?_⟩
      rw [decide_eq_true h0]
      refine Eq.trans e128 (Eq.trans b128_0 ?_)
      rw [c_within, l32_0, l32_60, h1]
      refine Eq.trans b128_7 (Eq.trans (if_pos (by decide)) (Eq.trans (b128_12 hZ.k32 hZ.kr32_0 hq) ?_))
      rw [hZ.r32_0, hZ.r33_1, e40, b40_0 hZ.k45]
      simp only [mI_t, mL_t, ct3, ct4, ct5, ct6, ct7, ct8, ct9, ct10, ct11, ct13, ct15, ct16, ct17, ct18, ct12, ct14, cs5, cs6, cs7, cs8, cw3, ca46, ca47, ca48, ca52, ca53, ca54, ca55, ca56, hZ.k33, hZ.r33_0, hZ.r33_1, hZ.r33_2, hZ.r33_3, hZ.r33_4, hZ.k34, hZ.r34_0, hZ.r34_1, hZ.r34_2, if_neg (fun q : ¬ S 0 15 = 0 => q h0), b40_7, bsome, tol1]
      exact b128_23
    · have hi := inB_iff.mp h1
      obtain ⟨m, hm, rfl⟩ := iN_of (x := n) (by rw [ti_lt, l32_0]; omega)
      rw [iN_int hm] at hi
      rw [iN_clamp hm]
      have key : ∀ d i (T : aS) (J : aI), i + d = m → ¬ T 0 15 = 0 → ∃ J', Out J J' ∧ run 3 40 11 [.ref 45, .int (iN m), .int (iN i)] [] (embB 33 J T, G, Z) = some (some (.int (minF d T 0 18)), (embB 33 J' (minF d T), G, Z)) := by
        intro d
        induction d with
        | zero =>
          intro i T J hid hT
          refine ⟨J, fun _ _ => rfl, ?_⟩
          refine Eq.trans b40_11 ?_
          rw [show i = m by omega]
          refine Eq.trans (if_pos (iN_nlt hm)) (Eq.trans (b40_59 hZ.k45) ?_)
          simp only [mI_t, mL_t, ct3, ct4, ct5, ct6, ct7, ct8, ct9, ct10, ct11, ct13, ct15, ct16, ct17, ct18, ct12, ct14, cs5, cs6, cs7, cs8, cw3, ca46, ca47, ca48, ca52, ca53, ca54, ca55, ca56, hZ.k33, hZ.r33_0, hZ.r33_1, hZ.r33_2, hZ.r33_3, hZ.r33_4, hZ.k34, hZ.r34_0, hZ.r34_1, hZ.r34_2]
          rfl
        | succ d ih =>
          intro i T J hid hT
          obtain ⟨A, qA, rA⟩ := t_flow (I := J) (G := G) (S := T) hZ (y := holdS T)
          have eA : adF (flM T (holdS T) (fun _ => 0) 144) 144 T = adF A 144 T := adF_eq 144 (fun k hk => (qA k hk).symm)
          obtain ⟨J2, q2, r2⟩ := ih (i + 1) (minS T) (upR J 50 A) (by omega) (by rw [minS_15]; exact hT)
          refine ⟨J2, fun a ha => by rw [q2 a ha, upR_o (by omega)], ?_⟩
          refine Eq.trans b40_11 (Eq.trans (if_neg (fun q => q ((iN_lt (by omega) (by omega)).mpr (by omega)))) (Eq.trans (b40_16 hZ.k45) ?_))
          have st : (if ¬ mI (embB 33 J T, G, Z) 45 6 < mI (embB 33 J T, G, Z) 45 7 then run 3 40 32 [.ref 45, .int (iN m), .int (iN i)] [.ref 45] (embB 33 J T, G, Z) else run 3 40 28 [.ref 45, .int (iN m), .int (iN i)] [.ref 45] (embB 33 J T, G, Z)) = run 3 40 36 [.ref 45, .int (iN m), .int (iN i)] [.int (holdS T), .ref 45] (embB 33 J T, G, Z) := by
            simp only [mI_t, mL_t, ct3, ct4, ct5, ct6, ct7, ct8, ct9, ct10, ct11, ct13, ct15, ct16, ct17, ct18, ct12, ct14, cs5, cs6, cs7, cs8, cw3, ca46, ca47, ca48, ca52, ca53, ca54, ca55, ca56, hZ.k33, hZ.r33_0, hZ.r33_1, hZ.r33_2, hZ.r33_3, hZ.r33_4, hZ.k34, hZ.r34_0, hZ.r34_1, hZ.r34_2]
            unfold holdS
            by_cases h : T 0 18 < T 0 16
            · rw [if_pos h]
              exact Eq.trans (if_neg (fun q => q h)) b40_28
            · rw [if_neg h]
              refine Eq.trans (if_pos h) (Eq.trans (b40_32 hZ.k45) ?_)
              simp only [mI_t, mL_t, ct3, ct4, ct5, ct6, ct7, ct8, ct9, ct10, ct11, ct13, ct15, ct16, ct17, ct18, ct12, ct14, cs5, cs6, cs7, cs8, cw3, ca46, ca47, ca48, ca52, ca53, ca54, ca55, ca56, hZ.k33, hZ.r33_0, hZ.r33_1, hZ.r33_2, hZ.r33_3, hZ.r33_4, hZ.k34, hZ.r34_0, hZ.r34_1, hZ.r34_2]
          refine Eq.trans st (Eq.trans (b40_36 hZ.k45) ?_)
          rw [rA]
          refine Eq.trans (b40_39 hZ.k45) ?_
          simp only [mI_t, mL_t, ct3, ct4, ct5, ct6, ct7, ct8, ct9, ct10, ct11, ct13, ct15, ct16, ct17, ct18, ct12, ct14, cs5, cs6, cs7, cs8, cw3, ca46, ca47, ca48, ca52, ca53, ca54, ca55, ca56, hZ.k33, hZ.r33_0, hZ.r33_1, hZ.r33_2, hZ.r33_3, hZ.r33_4, hZ.k34, hZ.r34_0, hZ.r34_1, hZ.r34_2, wI_t, ws6]
          rw [t_stains hZ (by rw [up2_k (by decide), adF_c (by decide)]; exact hT)]
          refine Eq.trans b40_53 ?_
          rw [iN_succ, adF_c (show (0 : Nat) ≠ 15 by decide), ← eA]
          exact r2
      obtain ⟨J', q, r⟩ := key m 0 S I (by omega) h0
      refine ⟨J', q, ?_⟩
      rw [decide_eq_false h0, h1]
      refine Eq.trans e128 (Eq.trans b128_0 ?_)
      rw [c_within, l32_0, l32_60, h1]
      refine Eq.trans b128_7 (Eq.trans (if_pos (by decide)) (Eq.trans (b128_12 hZ.k32 hZ.kr32_0 hq) ?_))
      rw [hZ.r32_0, hZ.r33_1, e40, b40_0 hZ.k45]
      simp only [mI_t, mL_t, ct3, ct4, ct5, ct6, ct7, ct8, ct9, ct10, ct11, ct13, ct15, ct16, ct17, ct18, ct12, ct14, cs5, cs6, cs7, cs8, cw3, ca46, ca47, ca48, ca52, ca53, ca54, ca55, ca56, hZ.k33, hZ.r33_0, hZ.r33_1, hZ.r33_2, hZ.r33_3, hZ.r33_4, hZ.k34, hZ.r34_0, hZ.r34_1, hZ.r34_2, if_pos h0, b40_9]
      rw [show run 3 40 11 [.ref 45, .int (iN m), .int 0] [] (embB 33 I S, G, Z) = _ from r]
      exact b128_23
  · refine ⟨I, fun _ _ => rfl, ?_⟩
    rw [Bool.eq_false_iff.mpr h1, Bool.and_false]
    refine Eq.trans e128 (Eq.trans b128_0 ?_)
    rw [c_within, l32_0, l32_60, Bool.eq_false_iff.mpr h1]
    exact Eq.trans b128_7 (Eq.trans (if_neg (by decide)) b128_10)
end FL
