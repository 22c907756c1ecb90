/-! THE TAPE: feed and end, both sides -/
def bt (y : Int32) : Int32 := vp_nar .byte (y.toInt8.toInt32)
/-- a signed byte, out of one of 0 to 255 -/
def sb (u : Int32) : Int32 := u.toInt8.toInt32
def apC (J : aI) (n : Nat) : List Int32 → aI
  | [] => J
  | y :: l => apC (up2 (up2 J 59 n (y &&& 255)) 58 4 (iN (n + 1))) (n + 1) l
def apM (J : aI) (n : Nat) : List Int32 → aI
  | [] => J
  | y :: l => apM (up2 (up2 J 84 n (bt y)) 72 27 (iN (n + 1))) (n + 1) l
def b4 (x : Int32) : List Int32 := [x >>> (24 &&& 31), x >>> (16 &&& 31), x >>> (8 &&& 31), x >>> (0 &&& 31)]
def b20 (x1 x2 x3 x4 x5 : Int32) : List Int32 := b4 x1 ++ (b4 x2 ++ (b4 x3 ++ (b4 x4 ++ b4 x5)))
theorem apC_app : ∀ (l l' : List Int32) (J : aI) (n : Nat), apC J n (l ++ l') = apC (apC J n l) (n + l.length) l' := by
  intro l
  induction l with
  | nil => intro l' J n; rfl
  | cons y l ih =>
    intro l' J n
    rw [List.cons_append, apC, ih, List.length_cons, apC, show n + 1 + l.length = n + (l.length + 1) by omega]
theorem apM_app : ∀ (l l' : List Int32) (J : aI) (n : Nat), apM J n (l ++ l') = apM (apM J n l) (n + l.length) l' := by
  intro l
  induction l with
  | nil => intro l' J n; rfl
  | cons y l ih =>
    intro l' J n
    rw [List.cons_append, apM, ih, List.length_cons, apM, show n + 1 + l.length = n + (l.length + 1) by omega]
theorem apC_n : ∀ (l : List Int32) (J : aI) (n : Nat), J 58 4 = iN n → apC J n l 58 4 = iN (n + l.length) := by
  intro l
  induction l with
  | nil => intro J n h; exact h
  | cons y l ih =>
    intro J n h
    rw [apC, ih _ _ up2_s, List.length_cons, show n + 1 + l.length = n + (l.length + 1) by omega]
theorem apM_n : ∀ (l : List Int32) (J : aI) (n : Nat), J 72 27 = iN n → apM J n l 72 27 = iN (n + l.length) := by
  intro l
  induction l with
  | nil => intro J n h; exact h
  | cons y l ih =>
    intro J n h
    rw [apM, ih _ _ up2_s, List.length_cons, show n + 1 + l.length = n + (l.length + 1) by omega]
theorem apC_o : ∀ (l : List Int32) (J : aI) (n a k : Nat), ¬ (a = 58 ∧ k = 4) → ¬ (a = 59 ∧ n ≤ k) → apC J n l a k = J a k := by
  intro l
  induction l with
  | nil => intro J n a k _ _; rfl
  | cons y l ih =>
    intro J n a k h1 h2
    rw [apC, ih _ _ _ _ h1 (by omega), up2_e, up2_e]
    grind
theorem apM_o : ∀ (l : List Int32) (J : aI) (n a k : Nat), ¬ (a = 72 ∧ k = 27) → ¬ (a = 84 ∧ n ≤ k) → apM J n l a k = J a k := by
  intro l
  induction l with
  | nil => intro J n a k _ _; rfl
  | cons y l ih =>
    intro J n a k h1 h2
    rw [apM, ih _ _ _ _ h1 (by omega), up2_e, up2_e]
    grind
theorem apC_v : ∀ (l : List Int32) (J : aI) (n i : Nat), i < l.length → apC J n l 59 (n + i) = l.getD i 0 &&& 255 := by
  intro l
  induction l with
  | nil => intro J n i h; exact absurd h (Nat.not_lt_zero _)
  | cons y l ih =>
    intro J n i h
    rw [apC]
    cases i with
    | zero =>
      rw [apC_o _ _ _ _ _ (by omega) (by omega), up2_a (by decide), Nat.add_zero, up2_s]
      rfl
    | succ i =>
      rw [List.length_cons] at h
      rw [show n + (i + 1) = n + 1 + i by omega, ih _ _ _ (by omega)]
      rfl
theorem apM_v : ∀ (l : List Int32) (J : aI) (n i : Nat), i < l.length → apM J n l 84 (n + i) = bt (l.getD i 0) := by
  intro l
  induction l with
  | nil => intro J n i h; exact absurd h (Nat.not_lt_zero _)
  | cons y l ih =>
    intro J n i h
    rw [apM]
    cases i with
    | zero =>
      rw [apM_o _ _ _ _ _ (by omega) (by omega), up2_a (by decide), Nat.add_zero, up2_s]
      rfl
    | succ i =>
      rw [List.length_cons] at h
      rw [show n + (i + 1) = n + 1 + i by omega, ih _ _ _ (by omega)]
      rfl
theorem bt_sb {y : Int32} : bt y = sb (y &&& 255) := by
  have h1 : bt y = (y.toInt8.toInt32).toInt8.toInt32 := rfl
  rw [h1]
  unfold sb
  have e : (y &&& 255).toInt8 = (y.toInt8.toInt32).toInt8 := by
    apply Int8.toBitVec_inj.mp
    simp only [Int32.toBitVec_toInt8, Int32.toBitVec_and, Int8.toBitVec_toInt32]
    apply BitVec.eq_of_getLsbD_eq
    intro i hi
    simp only [BitVec.getLsbD_signExtend, BitVec.getLsbD_and]
    rcases (by omega : i = 0 ∨ i = 1 ∨ i = 2 ∨ i = 3 ∨ i = 4 ∨ i = 5 ∨ i = 6 ∨ i = 7) with rfl | rfl | rfl | rfl | rfl | rfl | rfl | rfl <;> simp
  rw [e]
theorem and255 {y : Int32} : inB (y &&& 255) 0 255 = true := by
  rw [inB_iff]
  have h : (y &&& 255).toBitVec = y.toBitVec &&& 255#32 := rfl
  have hn : (y &&& 255).toBitVec.toNat ≤ 255 := by
    rw [h, BitVec.toNat_and]
    exact Nat.and_le_right
  have e : (y &&& 255).toInt = (y &&& 255).toBitVec.toNat := by
    show (y &&& 255).toBitVec.toInt = _
    rw [BitVec.toInt_eq_toNat_cond, if_pos (by omega)]
  omega
/-- both tapes hold the same n bytes -/
def Tp (I : aI) (n : Nat) : Prop := n ≤ 400 ∧ I 58 4 = iN n ∧ I 72 27 = iN n ∧ ∀ i, i < n → inB (I 59 i) 0 255 = true ∧ I 84 i = sb (I 59 i)
section TPE
variable {I : aI} {G : aL} {Z : aZ}
theorem t_take (hZ : Shp Z) {x : Int32} {n : Nat} (hn : n + 4 ≤ 400) (h4 : I 58 4 = iN n) : call 79 [.ref 58, .int x] (I, G, Z) = some (none, (apC I n (b4 x), G, Z)) := by
  have st : ∀ (J : aI) (m : Nat) (s s' : Int32), m < 400 → J 58 4 = iN m → ¬ s < 0 → s + (-8) = s' → run 1 79 3 [.ref 58, .int x, .int s] [] (J, G, Z) = run 1 79 3 [.ref 58, .int x, .int s'] [] (up2 (up2 J 59 m ((x >>> (s &&& 31)) &&& 255)) 58 4 (iN (m + 1)), G, Z) := by
    intro J m s s' hm hJ hs hs'
    have hlt : iN m < 400 := (iN_lt (b := 400) (by omega) (by decide)).mpr hm
    have hc : (iN m).toNatClampNeg = m := iN_clamp (by omega)
    refine Eq.trans b79_3 (Eq.trans (if_neg hs) (Eq.trans (b79_7 hZ.k58) ?_))
    rw [mI_t, hJ]
    refine Eq.trans (if_neg (fun q => q hlt)) (Eq.trans (b79_17 hZ.k58 hZ.kr58_0 (hZ.ir58_0 (by rw [mI_t, hJ]; exact ib_iN (by omega) hm))) ?_)
    rw [hZ.r58_0]
    simp only [mI_t, wI_t, hJ, hc, up2_a (show (58 : Nat) ≠ 59 by decide), iN_succ, hs']
  refine Eq.trans e79 (Eq.trans b79_0 ?_)
  refine Eq.trans (st I n 24 16 (by omega) h4 (by decide) (by decide)) ?_
  refine Eq.trans (st _ (n + 1) 16 8 (by omega) up2_s (by decide) (by decide)) ?_
  refine Eq.trans (st _ (n + 1 + 1) 8 0 (by omega) up2_s (by decide) (by decide)) ?_
  refine Eq.trans (st _ (n + 1 + 1 + 1) 0 (-8) (by omega) up2_s (by decide) (by decide)) ?_
  exact Eq.trans b79_3 (Eq.trans (if_pos (by decide)) b79_49)
theorem s_put (hZ : Shp Z) {x : Int32} {n : Nat} (hn : n + 4 ≤ 400) (h4 : I 72 27 = iN n) : call 165 [.ref 72, .int x] (I, G, Z) = some (none, (apM I n (b4 x), G, Z)) := by
  have st : ∀ (J : aI) (m : Nat) (s s' : Int32), m < 400 → J 72 27 = iN m → ¬ s < 0 → s + (-8) = s' → run 1 165 3 [.ref 72, .int x, .int s] [] (J, G, Z) = run 1 165 3 [.ref 72, .int x, .int s'] [] (up2 (up2 J 84 m (bt (x >>> (s &&& 31)))) 72 27 (iN (m + 1)), G, Z) := by
    intro J m s s' hm hJ hs hs'
    have hc : (iN m).toNatClampNeg = m := iN_clamp (by omega)
    refine Eq.trans b165_3 (Eq.trans (if_neg hs) (Eq.trans (b165_7 hZ.k72 hZ.kr72_35 (hZ.ir72_35 (by rw [mI_t, hJ]; exact ib_iN (by omega) hm))) ?_))
    rw [hZ.r72_35]
    simp only [mI_t, wI_t, hJ, hc, up2_a (show (72 : Nat) ≠ 84 by decide), iN_succ, hs']
    rfl
  refine Eq.trans e165 (Eq.trans b165_0 ?_)
  refine Eq.trans (st I n 24 16 (by omega) h4 (by decide) (by decide)) ?_
  refine Eq.trans (st _ (n + 1) 16 8 (by omega) up2_s (by decide) (by decide)) ?_
  refine Eq.trans (st _ (n + 1 + 1) 8 0 (by omega) up2_s (by decide) (by decide)) ?_
  refine Eq.trans (st _ (n + 1 + 1 + 1) 0 (-8) (by omega) up2_s (by decide) (by decide)) ?_
  exact Eq.trans b165_3 (Eq.trans (if_pos (by decide)) b165_36)
theorem f_feed (hZ : Shp Z) {x1 x2 x3 x4 x5 : Int32} {n : Nat} (hn : n ≤ 400) (h4 : I 58 4 = iN n) : call 109 [.ref 32, .int x1, .int x2, .int x3, .int x4, .int x5] (I, G, Z) = if n + 20 ≤ 400 then some (some (.int (iN (n + 20))), (apC I n (b20 x1 x2 x3 x4 x5), G, Z)) else some (some (.int (-1)), (I, G, Z)) := by
  have hr : call 78 [.ref 58] (I, G, Z) = some (some (.int (bI (decide (n + 20 ≤ 400)))), (I, G, Z)) := by
    refine Eq.trans e78 (Eq.trans (b78_0 hZ.k58) ?_)
    rw [mI_t, h4, show (20 : Int32) = iN 20 from rfl, iN_add, show (400 : Int32) = iN 400 from rfl]
    by_cases h : n + 20 ≤ 400
    · rw [decide_eq_true h]
      exact Eq.trans (if_neg (fun q => by have := (iN_lt (by omega) (by omega)).mp q; omega)) (Eq.trans b78_13 (b78_18 rfl))
    · rw [decide_eq_false h]
      exact Eq.trans (if_pos ((iN_lt (by omega) (by omega)).mpr (by omega))) (Eq.trans b78_17 (b78_18 rfl))
  refine Eq.trans e109 (Eq.trans (b109_0 hZ.k32 hZ.kr32_2) ?_)
  rw [hZ.r32_2, hr]
  refine Eq.trans b109_7 ?_
  by_cases h : n + 20 ≤ 400
  · rw [if_pos h, decide_eq_true h]
    have q1 := apC_n (b4 x1) I n h4
    have q2 := apC_n (b4 x2) _ _ q1
    have q3 := apC_n (b4 x3) _ _ q2
    have q4 := apC_n (b4 x4) _ _ q3
    have q5 := apC_n (b4 x5) _ _ q4
    refine Eq.trans (if_pos (by decide)) (Eq.trans (b109_12 hZ.k32 hZ.kr32_2) ?_)
    rw [hZ.r32_2, t_take hZ (by omega) h4]
    refine Eq.trans (b109_20 hZ.k32 hZ.kr32_2) ?_
    rw [hZ.r32_2, t_take hZ (by show n + 4 + 4 ≤ 400; omega) q1]
    refine Eq.trans (b109_28 hZ.k32 hZ.kr32_2) ?_
    rw [hZ.r32_2, t_take hZ (by show n + 4 + 4 + 4 ≤ 400; omega) q2]
    refine Eq.trans (b109_36 hZ.k32 hZ.kr32_2) ?_
    rw [hZ.r32_2, t_take hZ (by show n + 4 + 4 + 4 + 4 ≤ 400; omega) q3]
    refine Eq.trans (b109_45 hZ.k32 hZ.kr32_2) ?_
    rw [hZ.r32_2, t_take hZ (by show n + 4 + 4 + 4 + 4 + 4 ≤ 400; omega) q4]
    refine Eq.trans (b109_54 hZ.k32 hZ.kr32_2) ?_
    rw [hZ.r32_2, mI_t, q5]
    unfold b20
    rw [apC_app, apC_app, apC_app, apC_app]
    rfl
  · rw [if_neg h, decide_eq_false h]
    exact Eq.trans (if_neg (by decide)) b109_10
theorem s_feed (hZ : Shp Z) {x1 x2 x3 x4 x5 : Int32} {n : Nat} (hn : n ≤ 400) (h4 : I 72 27 = iN n) : call 164 [.ref 72, .int x1, .int x2, .int x3, .int x4, .int x5] (I, G, Z) = if n + 20 ≤ 400 then some (some (.int (iN (n + 20))), (apM I n (b20 x1 x2 x3 x4 x5), G, Z)) else some (some (.int (-1)), (I, G, Z)) := by
  refine Eq.trans e164 (Eq.trans (b164_0 hZ.k72) ?_)
  rw [mI_t, h4, show (20 : Int32) = iN 20 from rfl, iN_add, show (400 : Int32) = iN 400 from rfl]
  by_cases h : n + 20 ≤ 400
  · rw [if_pos h]
    have q1 := apM_n (b4 x1) I n h4
    have q2 := apM_n (b4 x2) _ _ q1
    have q3 := apM_n (b4 x3) _ _ q2
    have q4 := apM_n (b4 x4) _ _ q3
    have q5 := apM_n (b4 x5) _ _ q4
    refine Eq.trans (if_pos (fun q => by have := (iN_lt (by omega) (by omega)).mp q; omega)) (Eq.trans (b164_15 hZ.k72) ?_)
    rw [s_put hZ (by omega) h4]
    refine Eq.trans (b164_20 hZ.k72) ?_
    rw [s_put hZ (by show n + 4 + 4 ≤ 400; omega) q1]
    refine Eq.trans (b164_25 hZ.k72) ?_
    rw [s_put hZ (by show n + 4 + 4 + 4 ≤ 400; omega) q2]
    refine Eq.trans (b164_30 hZ.k72) ?_
    rw [s_put hZ (by show n + 4 + 4 + 4 + 4 ≤ 400; omega) q3]
    refine Eq.trans (b164_36 hZ.k72) ?_
    rw [s_put hZ (by show n + 4 + 4 + 4 + 4 + 4 ≤ 400; omega) q4]
    refine Eq.trans (b164_42 hZ.k72) ?_
    rw [mI_t, q5]
    unfold b20
    rw [apM_app, apM_app, apM_app, apM_app]
    rfl
  · rw [if_neg h]
    exact Eq.trans (if_neg (fun q => q ((iN_lt (by omega) (by omega)).mpr (by omega)))) b164_13
def endOK (n : Nat) (x : Int32) : Bool := inB x 0 n
theorem endOK_iff {n : Nat} {x : Int32} (hn : n ≤ 400) : endOK n x = true ↔ ¬ x < 0 ∧ ¬ iN n < x := by
  unfold endOK
  rw [inB_iff, ti_lt, ti_lt, l32_0, iN_int (by omega)]
  omega
theorem f_end (hZ : Shp Z) {x : Int32} {n : Nat} (hn : n ≤ 400) (h4 : I 58 4 = iN n) : call 110 [.ref 32, .int x] (I, G, Z) = if endOK n x = true then some (some (.int x), (up2 I 58 4 x, G, Z)) else some (some (.int (-1)), (I, G, Z)) := by
  have hq := endOK_iff (x := x) hn
  refine Eq.trans e110 (Eq.trans (b110_0 hZ.k32 hZ.kr32_2) ?_)
  rw [hZ.r32_2]
  have hc : call 80 [.ref 58, .int x] (I, G, Z) = if endOK n x = true then some (some (.int 1), (up2 I 58 4 x, G, Z)) else some (some (.int 0), (I, G, Z)) := by
    refine Eq.trans e80 (Eq.trans b80_0 ?_)
    by_cases h0 : x < 0
    · rw [if_neg (show ¬ endOK n x = true from fun z => (hq.mp z).1 h0)]
      exact Eq.trans (if_pos h0) b80_12
    · refine Eq.trans (if_neg h0) (Eq.trans (b80_4 hZ.k58) ?_)
      rw [mI_t, h4]
      by_cases h1 : iN n < x
      · rw [if_neg (show ¬ endOK n x = true from fun z => (hq.mp z).2 h1)]
        exact Eq.trans (if_neg (fun z => z h1)) b80_12
      · rw [if_pos (hq.mpr ⟨h0, h1⟩)]
        exact Eq.trans (if_pos h1) (b80_14 hZ.k58)
  rw [hc]
  by_cases h : endOK n x = true
  · rw [if_pos h, if_pos h]
    exact Eq.trans b110_8 (Eq.trans (if_neg (by decide)) (Eq.trans b110_11 b110_16))
  · rw [if_neg h, if_neg h]
    exact Eq.trans b110_8 (Eq.trans (if_pos rfl) (Eq.trans b110_15 b110_16))
theorem s_end (hZ : Shp Z) {x : Int32} {n : Nat} (hn : n ≤ 400) (h4 : I 72 27 = iN n) : call 166 [.ref 72, .int x] (I, G, Z) = if endOK n x = true then some (some (.int x), (up2 I 72 27 x, G, Z)) else some (some (.int (-1)), (I, G, Z)) := by
  have hq := endOK_iff (x := x) hn
  refine Eq.trans e166 (Eq.trans b166_0 ?_)
  by_cases h0 : x < 0
  · rw [if_neg (show ¬ endOK n x = true from fun z => (hq.mp z).1 h0)]
    exact Eq.trans (if_pos h0) b166_12
  · refine Eq.trans (if_neg h0) (Eq.trans (b166_4 hZ.k72) ?_)
    rw [mI_t, h4]
    by_cases h1 : iN n < x
    · rw [if_neg (show ¬ endOK n x = true from fun z => (hq.mp z).2 h1)]
      exact Eq.trans (if_neg (fun z => z h1)) b166_12
    · rw [if_pos (hq.mpr ⟨h0, h1⟩)]
      exact Eq.trans (if_pos h1) (b166_14 hZ.k72)
end TPE
/-- both feed: the tapes stay alike -/
theorem tp_feed {I I' : aI} {n : Nat} {l : List Int32} (h : Tp I n) (hl : n + l.length ≤ 400) (c1 : I' 58 4 = iN (n + l.length)) (c2 : I' 72 27 = iN (n + l.length)) (c3 : ∀ i, I' 59 i = apC I n l 59 i) (c4 : ∀ i, I' 84 i = apM I n l 84 i) : Tp I' (n + l.length) := by
  refine ⟨hl, c1, c2, fun i hi => ?_⟩
  rw [c3, c4]
  by_cases h1 : i < n
  · rw [apC_o _ _ _ _ _ (by omega) (by omega), apM_o _ _ _ _ _ (by omega) (by omega)]
    exact h.2.2.2 i h1
  · rw [show i = n + (i - n) by omega, apC_v _ _ _ _ (by omega), apM_v _ _ _ _ (by omega), bt_sb]
    exact ⟨and255, rfl⟩
