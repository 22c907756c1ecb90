/-! FEET NEEDED, by the class -/
theorem iN_mul {a b : Nat} (h : a * b < 2147483648) (ha : a < 2147483648) (hb : b < 2147483648) : iN a * iN b = iN (a * b) := by
  have e : (a : Int) * (b : Int) = ((a * b : Nat) : Int) := (Int.natCast_mul a b).symm
  rw [ti_eq, ti_mul (by rw [iN_int ha, iN_int hb, e]; omega) (by rw [iN_int ha, iN_int hb, e]; omega), iN_int ha, iN_int hb, iN_int h, e]
theorem iN_div {a b : Nat} (ha : a < 2147483648) (hb : b < 2147483648) (h0 : 0 < b) : iN a / iN b = iN (a / b) := by
  have hd : a / b ≤ a := Nat.div_le_self a b
  have hz : iN b ≠ 0 := fun q => by
    have := congrArg Int32.toInt q
    rw [iN_int hb, l32_0] at this
    omega
  have hm : iN b ≠ -1 := iN_ne1 hb
  rw [ti_eq, Int32.toInt_div_of_ne_right _ _ hm, iN_int ha, iN_int hb, iN_int (by omega), Int.tdiv_eq_ediv_of_nonneg (by omega)]
  first | rfl | exact (Int.natCast_ediv a b).symm
theorem iN_sub {a b : Nat} (ha : a < 2147483648) (hb : b ≤ a) : iN a - iN b = iN (a - b) := by
  rw [ti_eq, ti_sub (by rw [iN_int ha, iN_int (by omega)]; omega) (by rw [iN_int ha, iN_int (by omega)]; omega), iN_int ha, iN_int (by omega), iN_int (by omega)]
  omega
theorem ned_val {e h n : Nat} {W : Int32} (heh : e ≤ h) (h140 : h ≤ 140) (n1 : 1 ≤ n) (n9 : n ≤ 99) (w1 : 1 ≤ W.toInt) (w9 : W.toInt ≤ 99) : iN e + ((iN h - iN e) * W + iN n - 1) / iN n = iN (e + ((h - e) * W.toInt.toNat + n - 1) / n) := by
  have eW : W = iN W.toInt.toNat := by rw [ti_eq, iN_int (by omega), Int.toNat_of_nonneg (by omega)]
  have hb : (h - e) * W.toInt.toNat ≤ 140 * 99 := Nat.mul_le_mul (by omega) (by omega)
  have e2 : (iN h - iN e) * W = iN ((h - e) * W.toInt.toNat) := by
    rw [iN_sub (by omega) heh]
    conv => lhs; rw [eW]
    exact iN_mul (by omega) (by omega) (by omega)
  have e3 : iN ((h - e) * W.toInt.toNat + n) - 1 = iN ((h - e) * W.toInt.toNat + n - 1) := iN_sub (b := 1) (by omega) (by omega)
  rw [e2, iN_add, e3, iN_div (by omega) (by omega) (by omega), iN_add]
section CNE
variable {I : aI} {G : aL} {Z : aZ} {S : aS}
theorem f_needed (hZ : Shp Z) (hw : Wf0 S) (h1 : Wf1 S) (h4 : Wf4 S) {k w : Int32} {h : Nat} (hh : low S (riN S) = iN h) (h140 : h ≤ 140) : call 121 [.ref 32, .int k, .int w] (embB 33 I S, G, Z) = some (some (.int (if (isRg S k && inB w 1 99) = true then (if h < seekF (nedC S k.toNatClampNeg w) (h + 1) 0 then -2 else iN (seekF (nedC S k.toNatClampNeg w) (h + 1) 0)) else -1)), (embB 33 I S, G, Z)) := by
  have h7 := hw.1.2
  have hq : (mK (embB 33 I S, G, Z) (mR (embB 33 I S, G, Z) (mR (embB 33 I S, G, Z) 32 0) 0) = 6) := by rw [hZ.r32_0, hZ.r33_0]; exact hZ.k34
  refine Eq.trans e121 (Eq.trans b121_0 ?_)
  rw [c_within, l32_1, l32_99]
  refine Eq.trans b121_7 ?_
  by_cases hb : inB w 1 99 = true
  · have hi := inB_iff.mp hb
    rw [hb, Bool.and_true]
    refine Eq.trans (if_pos (by decide)) (Eq.trans (b121_12 hZ.k32 hZ.kr32_0 hq) ?_)
    rw [hZ.r32_0, hZ.r33_0]
    have main : call 72 [.ref 34, .int k, .int w] (embB 33 I S, G, Z) = some (some (.int (if isRg S k = true then (if h < seekF (nedC S k.toNatClampNeg w) (h + 1) 0 then -2 else iN (seekF (nedC S k.toNatClampNeg w) (h + 1) 0)) else -1)), (embB 33 I S, G, Z)) := by
      refine Eq.trans e72 (Eq.trans (b72_0 hZ.k34) ?_)
      rw [t_hasRing hZ hw]
      refine Eq.trans b72_5 ?_
      by_cases hr : isRg S k = true
      · rw [hr, if_pos (rfl : true = true)]
        obtain ⟨j, hj, hj7, rfl⟩ := isRg_ex hw hr
        have hc : (iN j).toNatClampNeg = j := iN_clamp (by omega)
        have hbj : ib (iN j) 7 := ib_iN (by omega) hj7
        obtain ⟨hR, hW⟩ := h4 (by omega)
        have p := low_b hw h1 j (by omega)
        have u := low_up hw h1 (k := j) (riN S - j) (by omega)
        rw [show j + (riN S - j) = riN S by omega, hh, iN_int (by omega)] at u
        have ee : low S j = iN (low S j).toInt.toNat := by rw [ti_eq, iN_int (by omega), Int.toNat_of_nonneg (by omega)]
        have en : w = iN w.toInt.toNat := by rw [ti_eq, iN_int (by omega), Int.toNat_of_nonneg (by omega)]
        have hF0 : 0 < (h - (low S j).toInt.toNat) * (S 0 3).toInt.toNat := Nat.mul_pos (by omega) (by omega)
        rw [hc, ned_seek hw h1 h4 hj hh h140 ee (by omega) en (by omega) (by omega) rfl hF0]
        refine Eq.trans (if_neg (by decide)) (Eq.trans b72_8 ?_)
        refine Eq.trans (if_pos (by rw [ti_lt, l32_1]; omega)) ?_
        refine Eq.trans (b72_15 hZ.k34 hZ.kr34_0 (hZ.ir34_0 hbj) (by rw [hc, hZ.ring hj7]; exact hZ.kring hj7) (fun z => by rw [z, l32_0] at hi; omega)) ?_
        have ev := ned_val (e := (low S j).toInt.toNat) (h := h) (n := w.toInt.toNat) (W := S 0 3) (by omega) h140 (by omega) (by omega) hW.1 hW.2
        rw [← ee, ← en, ← hh] at ev
        rw [hc, hZ.ring hj7]
        simp only [mI_t, mL_t, ct3, ct4, ct5, ct6, ct7, ct8, ct9, ct10, ct11, ct13, ct15, ct16, ct17, ct18, ct12, ct14, cs5, cs6, cs7, cs8, cw3, ca46, ca47, ca48, ca52, ca53, ca54, ca55, ca56, hZ.k33, hZ.r33_0, hZ.r33_1, hZ.r33_2, hZ.r33_3, hZ.r33_4, hZ.k34, hZ.r34_0, hZ.r34_1, hZ.r34_2, cr_0 hj7 hj, ev]
        rw [hh]
        have hbd : ((h - (low S j).toInt.toNat) * (S 0 3).toInt.toNat + w.toInt.toNat - 1) / w.toInt.toNat ≤ 140 * 99 + 99 := Nat.le_trans (Nat.div_le_self _ _) (by have : (h - (low S j).toInt.toNat) * (S 0 3).toInt.toNat ≤ 140 * 99 := Nat.mul_le_mul (by omega) (by omega); omega)
        generalize ((h - (low S j).toInt.toNat) * (S 0 3).toInt.toNat + w.toInt.toNat - 1) / w.toInt.toNat = m at hbd ⊢
        by_cases hle : (low S j).toInt.toNat + m ≤ h
        · rw [if_pos hle, if_neg (show ¬ h < (low S j).toInt.toNat + m by omega)]
          refine Eq.trans (if_neg (fun z => by have := (iN_lt (by omega) (by omega)).mp z; omega)) ?_
          exact Eq.trans b72_59 b72_66
        · rw [if_neg hle, if_pos (show h < h + 1 by omega)]
          refine Eq.trans (if_pos ((iN_lt (by omega) (by omega)).mpr (by omega))) ?_
          exact Eq.trans b72_64 b72_66
      · rw [if_neg hr, Bool.eq_false_iff.mpr hr]
        exact Eq.trans (if_pos (by decide)) b72_13
    rw [main]
    exact b121_24
  · rw [Bool.eq_false_iff.mpr hb, Bool.and_false]
    exact Eq.trans (if_neg (by decide)) b121_10
end CNE
