/-! THE CLASS'S HOURS -/
/-- gas and vent within their bounds; no tank, no rings, layers, gas, vent -/
def Wf2 (S : aS) : Prop := (0 ≤ (S 0 9).toInt ∧ (S 0 9).toInt ≤ 9999) ∧ (0 ≤ (S 0 5).toInt ∧ (S 0 5).toInt ≤ 99) ∧ (S 0 1 = 0 → S 0 7 = 0 ∧ S 0 8 = 0 ∧ S 0 9 = 0 ∧ S 0 5 = 0 ∧ S 0 12 = -1)
theorem vent_eq {g v : Int32} (h0 : 0 ≤ g.toInt) (h1 : g.toInt ≤ 99999) (h2 : 0 ≤ v.toInt) (h3 : v.toInt ≤ 99) : (if (if 0 < g - v then g - v else 0) < 9999 then (if 0 < g - v then g - v else 0) else 9999) = ventS g v := by
  have e : (g - v).toInt = g.toInt - v.toInt := ti_sub (by omega) (by omega)
  unfold ventS
  by_cases a : g < v
  · rw [if_pos a]
    rw [ti_lt] at a
    have n : ¬ 0 < g - v := by rw [ti_lt, e, l32_0]; omega
    rw [if_neg n]
    rfl
  · rw [if_neg a]
    rw [ti_lt] at a
    by_cases b : 9999 < g - v
    · rw [if_pos b]
      rw [ti_lt, e, l32_9999] at b
      have n : 0 < g - v := by rw [ti_lt, e, l32_0]; omega
      rw [if_pos n, if_neg (by rw [ti_lt, e, l32_9999]; omega)]
    · rw [if_neg b]
      rw [ti_lt, e, l32_9999] at b
      by_cases n : 0 < g - v
      · rw [if_pos n]
        split
        · rfl
        · rename_i c
          rw [ti_lt, e, l32_9999] at c
          rw [ti_eq, e, l32_9999]
          omega
      · rw [if_neg n]
        rw [ti_lt, e, l32_0] at n
        rw [if_pos (by decide), ti_eq, e, l32_0]
        omega
theorem vent_b {g v : Int32} (h0 : 0 ≤ g.toInt) (h1 : g.toInt ≤ 99999) (h2 : 0 ≤ v.toInt) (h3 : v.toInt ≤ 99) : 0 ≤ (ventS g v).toInt ∧ (ventS g v).toInt ≤ 9999 := by
  have e : (g - v).toInt = g.toInt - v.toInt := ti_sub (by omega) (by omega)
  unfold ventS
  by_cases a : g < v
  · rw [if_pos a, l32_0]; omega
  · rw [if_neg a]
    rw [ti_lt] at a
    by_cases b : 9999 < g - v
    · rw [if_pos b, l32_9999]; omega
    · rw [if_neg b]
      rw [ti_lt, e, l32_9999] at b
      rw [e]; omega
theorem gasF_b {S : aS} (h : 0 ≤ (S 0 9).toInt ∧ (S 0 9).toInt ≤ 9999) : ∀ i : Nat, i ≤ 30 → (S 0 9).toInt ≤ (gasF S i).toInt ∧ (gasF S i).toInt ≤ (S 0 9).toInt + 2 * i := by
  intro i
  induction i with
  | zero => intro _; rw [gasF]; omega
  | succ i ih =>
    intro hi
    have p := ih (by omega)
    rw [gasF]
    split
    · rw [ti_add (by rw [l32_0]; omega) (by rw [l32_0]; omega), l32_0]; omega
    · rw [ti_add (by rw [l32_2]; omega) (by rw [l32_2]; omega), l32_2]; omega
theorem i32_add0 {x : Int32} : x + 0 = x := by
  rw [ti_eq, ti_add (by rw [l32_0]; have := ti_rng x; omega) (by rw [l32_0]; have := ti_rng x; omega), l32_0]; omega
section CH
variable {I : aI} {G : aL} {Z : aZ} {S : aS}
theorem t_work (hZ : Shp Z) (hw : Wf0 S) (h9 : 0 ≤ (S 0 9).toInt ∧ (S 0 9).toInt ≤ 9999) (h5 : 0 ≤ (S 0 5).toInt ∧ (S 0 5).toInt ≤ 99) : call 58 [.ref 34] (embB 33 I S, G, Z) = some (none, (embB 33 I (up2 S 0 9 (ventS (gasF S (laN S - 1)) (S 0 5))), G, Z)) := by
  have h30 := hw.2.2
  have h8 := hw.2.1
  refine Eq.trans e58 (Eq.trans b58_0 ?_)
  have key : ∀ d i, i + d = laN S - 1 → run 1 58 2 [.ref 34, .int (iN i)] [] (embB 33 I (up2 S 0 9 (gasF S i)), G, Z) = some (none, (embB 33 I (up2 S 0 9 (ventS (gasF S (laN S - 1)) (S 0 5))), G, Z)) := by
    intro d
    induction d with
    | zero =>
      intro i hi
      have gb := gasF_b h9 i (by omega)
      refine Eq.trans (b58_2 hZ.k34) ?_
      simp only [mI_t, mL_t, ct3, ct4, ct5, ct6, ct7, ct8, ct9, ct10, ct11, ct13, ct15, ct16, ct17, ct18, ct12, ct14, cs5, cs6, cs7, cs8, cw3, ca46, ca47, ca48, ca52, ca53, ca54, ca55, ca56, hZ.k33, hZ.r33_0, hZ.r33_1, hZ.r33_2, hZ.r33_3, hZ.r33_4, hZ.k34, hZ.r34_0, hZ.r34_1, hZ.r34_2]
      have e8 : up2 S 0 9 (gasF S i) 0 8 = iN (laN S) := h8
      rw [e8, iN_succ]
      refine Eq.trans (if_pos (fun q => by have := (iN_lt (by omega) (by omega)).mp q; omega)) (Eq.trans (b58_50 hZ.k34) ?_)
      simp only [mI_t, mL_t, wI_t, wL_t, ct3, ct4, ct5, ct6, ct7, ct8, ct9, ct10, ct11, ct13, ct15, ct16, ct17, ct18, ct12, ct14, cs5, cs6, cs7, cs8, cw3, ca46, ca47, ca48, ca52, ca53, ca54, ca55, ca56, wh3, wh4, wh5, wh6, wh7, wh8, wh9, wh10, wh15, wh16, wh17, wh18, wa46, wa47, wa48, wa52, wa53, wa54, wa55, wa56, hZ.k33, hZ.r33_0, hZ.r33_1, hZ.r33_2, hZ.r33_3, hZ.r33_4, hZ.k34, hZ.r34_0, hZ.r34_1, hZ.r34_2]
      have e9 : up2 S 0 9 (gasF S i) 0 9 = gasF S i := rfl
      have e5 : up2 S 0 9 (gasF S i) 0 5 = S 0 5 := rfl
      rw [e9, e5, vent_eq (by omega) (by omega) h5.1 h5.2, up2_2, show i = laN S - 1 by omega]
    | succ d ih =>
      intro i hi
      have hlt : iN (i + 1) < iN (laN S) := (iN_lt (by omega) (by omega)).mpr (by omega)
      have hb : ib (iN (i + 1)) 30 := ib_iN (by omega) (by omega)
      have hb0 : ib (iN i) 30 := ib_iN (by omega) (by omega)
      have nx := ih (i + 1) (by omega)
      refine Eq.trans (b58_2 hZ.k34) ?_
      simp only [mI_t, mL_t, ct3, ct4, ct5, ct6, ct7, ct8, ct9, ct10, ct11, ct13, ct15, ct16, ct17, ct18, ct12, ct14, cs5, cs6, cs7, cs8, cw3, ca46, ca47, ca48, ca52, ca53, ca54, ca55, ca56, hZ.k33, hZ.r33_0, hZ.r33_1, hZ.r33_2, hZ.r33_3, hZ.r33_4, hZ.k34, hZ.r34_0, hZ.r34_1, hZ.r34_2]
      have e8 : up2 S 0 9 (gasF S i) 0 8 = iN (laN S) := h8
      rw [e8, iN_succ]
      refine Eq.trans (if_neg (fun q => q hlt)) (Eq.trans (b58_12 hZ.k34 hZ.kr34_2 (hZ.ir34_2 (by rw [iN_succ]; exact hb)) (hZ.ir34_2 hb0)) ?_)
      have l0 : i < laN (up2 S 0 9 (gasF S i)) := show i < laN S by omega
      have l1 : i + 1 < laN (up2 S 0 9 (gasF S i)) := show i + 1 < laN S by omega
      simp only [mI_t, mL_t, ct3, ct4, ct5, ct6, ct7, ct8, ct9, ct10, ct11, ct13, ct15, ct16, ct17, ct18, ct12, ct14, cs5, cs6, cs7, cs8, cw3, ca46, ca47, ca48, ca52, ca53, ca54, ca55, ca56, hZ.k33, hZ.r33_0, hZ.r33_1, hZ.r33_2, hZ.r33_3, hZ.r33_4, hZ.k34, hZ.r34_0, hZ.r34_1, hZ.r34_2, iN_succ, iN_clamp (show i < 2147483648 by omega), iN_clamp (show i + 1 < 2147483648 by omega), cl37 l0, cl37 l1]
      rw [gasF] at nx
      by_cases h : S 11 (i + 1) - S 11 i < S 0 6
      · rw [if_pos h, i32_add0] at nx
        refine Eq.trans (if_pos h) (Eq.trans b58_44 ?_)
        rw [iN_succ]
        exact nx
      · rw [if_neg h] at nx
        refine Eq.trans (if_neg h) (Eq.trans (b58_34 hZ.k34) (Eq.trans b58_44 ?_))
        simp only [mI_t, mL_t, wI_t, wL_t, ct3, ct4, ct5, ct6, ct7, ct8, ct9, ct10, ct11, ct13, ct15, ct16, ct17, ct18, ct12, ct14, cs5, cs6, cs7, cs8, cw3, ca46, ca47, ca48, ca52, ca53, ca54, ca55, ca56, wh3, wh4, wh5, wh6, wh7, wh8, wh9, wh10, wh15, wh16, wh17, wh18, wa46, wa47, wa48, wa52, wa53, wa54, wa55, wa56, hZ.k33, hZ.r33_0, hZ.r33_1, hZ.r33_2, hZ.r33_3, hZ.r33_4, hZ.k34, hZ.r34_0, hZ.r34_1, hZ.r34_2, iN_succ]
        rw [up2_2]
        exact nx
  have k0 := key (laN S - 1) 0 (by omega)
  rw [gasF, up2_id] at k0
  exact k0
end CH
