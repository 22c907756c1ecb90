/-! lean: both sides -/
theorem iN_mod {a b : Nat} (ha : a < 2147483648) (hb : b < 2147483648) (h0 : 0 < b) : iN a - iN a / iN b * iN b = iN (a % b) := by
  have h1 := Nat.div_add_mod a b
  have h2 : a / b * b ≤ a := Nat.div_mul_le_self a b
  have h3 := Nat.div_le_self a b
  rw [iN_div ha hb h0, iN_mul (by omega) (by omega) hb, iN_sub ha h2]
  congr 1
  rw [Nat.mul_comm] at h1
  omega
def lnF (S : aS) (w p f t : Int32) : Nat → Int32 × Int32 × Int32 × Int32
  | 0 => (0, 0, 0, 0)
  | i + 1 => if inB (S 18 i) f.toInt t.toInt = true then (if (S 20 i >>> (p &&& 31)) &&& 1 = 1 then ((lnF S w p f t i).1 + 1, (lnF S w p f t i).2.1 + (if S 19 i = w then 1 else 0), (lnF S w p f t i).2.2.1, (lnF S w p f t i).2.2.2) else ((lnF S w p f t i).1, (lnF S w p f t i).2.1, (lnF S w p f t i).2.2.1 + 1, (lnF S w p f t i).2.2.2 + (if S 19 i = w then 1 else 0))) else lnF S w p f t i
theorem lnF_b {S : aS} {w p f t : Int32} : ∀ i, i ≤ 300 → ∃ h a o b : Nat, lnF S w p f t i = (iN h, iN a, iN o, iN b) ∧ a ≤ h ∧ b ≤ o ∧ h + o ≤ i := by
  intro i
  induction i with
  | zero => intro _; exact ⟨0, 0, 0, 0, rfl, by omega, by omega, by omega⟩
  | succ i ih =>
    intro hi
    obtain ⟨h, a, o, b, e, h1, h2, h3⟩ := ih (by omega)
    rw [lnF, e]
    split
    · split
      · split
        · exact ⟨h + 1, a + 1, o, b, by rw [← iN_succ, ← iN_succ], by omega, by omega, by omega⟩
        · exact ⟨h + 1, a, o, b, by rw [← iN_succ, i32_add0], by omega, by omega, by omega⟩
      · split
        · exact ⟨h, a, o + 1, b + 1, by rw [← iN_succ, ← iN_succ], by omega, by omega, by omega⟩
        · exact ⟨h, a, o + 1, b, by rw [← iN_succ, i32_add0], by omega, by omega, by omega⟩
    · exact ⟨h, a, o, b, rfl, h1, h2, by omega⟩
def leanOK (w p f t q : Int32) : Bool := inB w 0 4 && (inB p 0 7 && (inB f 0 99999 && (inB t f.toInt 99999 && inB q 0 1)))
def leanV (h a o b q : Int32) : Int32 := if h = 0 ∨ o = 0 then 0 else (if q = 0 then a * o - b * h else h * o) / iN (Nat.gcd (a * o - b * h).toInt.natAbs (h * o).toInt.natAbs)
def leanS (S : aS) (w p f t q : Int32) : Int32 := leanV (lnF S w p f t (S 0 19).toNatClampNeg).1 (lnF S w p f t (S 0 19).toNatClampNeg).2.1 (lnF S w p f t (S 0 19).toNatClampNeg).2.2.1 (lnF S w p f t (S 0 19).toNatClampNeg).2.2.2 q
/-- what is above and below the line, as numbers -/
theorem ln_num {h a o b : Nat} (h1 : a ≤ h) (h2 : b ≤ o) (h3 : h + o ≤ 300) : (iN h * iN o).toInt = (h * o : Nat) ∧ h * o ≤ 90000 ∧ (iN a * iN o - iN b * iN h).toInt = (a * o : Nat) - (b * h : Nat) ∧ a * o ≤ 90000 ∧ b * h ≤ 90000 := by
  have m1 : h * o ≤ 300 * 300 := Nat.mul_le_mul (by omega) (by omega)
  have m2 : a * o ≤ 300 * 300 := Nat.mul_le_mul (by omega) (by omega)
  have m3 : b * h ≤ 300 * 300 := Nat.mul_le_mul (by omega) (by omega)
  rw [iN_mul (by omega) (by omega) (by omega), iN_mul (by omega) (by omega) (by omega), iN_mul (by omega) (by omega) (by omega), iN_int (by omega), ti_sub (by rw [iN_int (by omega), iN_int (by omega)]; omega) (by rw [iN_int (by omega), iN_int (by omega)]; omega), iN_int (by omega), iN_int (by omega)]
  omega
theorem abs_m {x : Int32} (h : x.toInt.natAbs ≤ 90000) : (x < 0 → -x = iN x.toInt.natAbs) ∧ (¬ x < 0 → x = iN x.toInt.natAbs) := by
  constructor
  · intro q
    rw [ti_lt, l32_0] at q
    rw [ti_eq, iN_int (by omega), Int32.toInt_neg, bm32 (by omega) (by omega)]
    omega
  · intro q
    rw [ti_lt, l32_0] at q
    rw [ti_eq, iN_int (by omega)]
    omega
section LN
variable {I : aI} {G : aL} {Z : aZ} {S : aS}
theorem m_gcd {v1 v2 v3 v4 : Value} {x1 x2 x3 x4 x5 x6 x7 x8 x9 x10 x11 : Int32} {M : aM} : ∀ (x : Nat), x < 2147483648 → ∀ (y : Nat) (v : Value), y < 2147483648 → ∃ v', run 2 227 267 [.ref 72, .int x1, .int x2, .int x3, .int x4, .int x5, .int x6, .int x7, .int x8, .int x9, .int x10, .int x11, .int (iN x), .int (iN y), v] [] M = run 2 227 290 [.ref 72, .int x1, .int x2, .int x3, .int x4, .int x5, .int x6, .int x7, .int x8, .int x9, .int x10, .int x11, .int 0, .int (iN (Nat.gcd x y)), v'] [] M := by
  intro x
  induction x using Nat.strongRecOn with
  | _ x ih =>
    intro hx y v hy
    by_cases h0 : x = 0
    · subst h0
      refine ⟨v, ?_⟩
      rw [Nat.gcd_zero_left]
      exact Eq.trans b227_267 (if_pos rfl)
    · have hl : y % x < x := Nat.mod_lt _ (by omega)
      have n0 : ¬ iN x = 0 := fun q => h0 ((iN_inj (b := 0) hx (by omega)).mp q)
      obtain ⟨v', hv⟩ := ih (y % x) hl (by omega) x (.int (iN (y % x))) hx
      refine ⟨v', ?_⟩
      refine Eq.trans b227_267 (Eq.trans (if_neg n0) (Eq.trans (b227_272 n0) ?_))
      rw [iN_mod hy hx (by omega), Nat.gcd_rec x y]
      exact hv
theorem c_gcd {x0 x1 : Int32} {M : aM} : ∀ (d i a b : Nat) (v : Value), b < 2 ^ d → i + 2 * d + 1 ≤ 100 → a < 2147483648 → b < 2147483648 → run 1 97 7 [.int x0, .int x1, .int (iN a), .int (iN b), .int (iN i), v] [] M = some (some (.int (iN (Nat.gcd b a))), M) := by
  have e100 : (100 : Int32) = iN 100 := rfl
  have zero : ∀ (i a : Nat) (v : Value), i < 100 → run 1 97 7 [.int x0, .int x1, .int (iN a), .int (iN 0), .int (iN i), v] [] M = some (some (.int (iN a)), M) := by
    intro i a v hi
    refine Eq.trans b97_7 ?_
    rw [e100]
    exact Eq.trans (if_neg (fun q => q ((iN_lt (by omega) (by omega)).mpr hi))) (Eq.trans b97_14 (Eq.trans (if_pos rfl) b97_34))
  have step : ∀ (i a b : Nat) (v : Value), i < 100 → 0 < b → a < 2147483648 → b < 2147483648 → run 1 97 7 [.int x0, .int x1, .int (iN a), .int (iN b), .int (iN i), v] [] M = run 1 97 7 [.int x0, .int x1, .int (iN b), .int (iN (a % b)), .int (iN (i + 1)), .int (iN (a % b))] [] M := by
    intro i a b v hi hb ha hbb
    have n0 : ¬ iN b = 0 := fun q => by have := (iN_inj (b := 0) hbb (by omega)).mp q; omega
    refine Eq.trans b97_7 ?_
    rw [e100]
    refine Eq.trans (if_neg (fun q => q ((iN_lt (by omega) (by omega)).mpr hi))) (Eq.trans b97_14 (Eq.trans (if_neg n0) (Eq.trans (b97_18 n0) ?_)))
    rw [iN_mod ha hbb hb, iN_succ]
  intro d
  induction d with
  | zero =>
    intro i a b v hb hi ha hbb
    rw [show b = 0 by omega, Nat.gcd_zero_left]
    exact zero i a v (by omega)
  | succ d ih =>
    intro i a b v hb hi ha hbb
    by_cases b0 : b = 0
    · rw [b0, Nat.gcd_zero_left]
      exact zero i a v (by omega)
    · have l1 : a % b < b := Nat.mod_lt _ (by omega)
      refine Eq.trans (step i a b v (by omega) (by omega) ha hbb) ?_
      rw [Nat.gcd_rec b a]
      by_cases r0 : a % b = 0
      · rw [r0, Nat.gcd_zero_left]
        exact zero (i + 1) b _ (by omega)
      · have l2 : b % (a % b) < a % b := Nat.mod_lt _ (by omega)
        have l3 := Nat.div_add_mod b (a % b)
        have l4 : 1 ≤ b / (a % b) := (Nat.le_div_iff_mul_le (by omega)).mpr (by omega)
        have l5 : a % b ≤ (a % b) * (b / (a % b)) := Nat.le_mul_of_pos_right _ l4
        have hp : 2 ^ (d + 1) = 2 * 2 ^ d := by rw [Nat.pow_succ]; omega
        refine Eq.trans (step (i + 1) b (a % b) _ (by omega) (by omega) hbb (by omega)) ?_
        rw [Nat.gcd_rec (a % b) b]
        exact ih (i + 1 + 1) (a % b) (b % (a % b)) _ (by omega) (by omega) (by omega) (by omega)
theorem s_lean (hZ : Shp Z) (h6 : Wf6 S) {w p f t q : Int32} : call 227 [.ref 72, .int w, .int p, .int f, .int t, .int q] (emb I S, G, Z) = some (some (.int (if leanOK w p f t q = true then leanS S w p f t q else -1000)), (emb I S, G, Z)) := by
  have hn := h6.2
  have h19 := h6.1
  have hmain : run 2 227 65 [.ref 72, .int w, .int p, .int f, .int t, .int q, xU, xU, xU, xU, xU, xU, xU, xU, xU] [] (emb I S, G, Z) = some (some (.int (leanS S w p f t q)), (emb I S, G, Z)) := by
    refine Eq.trans b227_65 ?_
    have key : ∀ d i v11 v12, i + d = (S 0 19).toNatClampNeg → ∃ v11' v12', run 2 227 80 [.ref 72, .int w, .int p, .int f, .int t, .int q, .int (lnF S w p f t i).1, .int (lnF S w p f t i).2.2.1, .int (lnF S w p f t i).2.1, .int (lnF S w p f t i).2.2.2, .int (iN i), v11, v12, xU, xU] [] (emb I S, G, Z) = run 2 227 216 [.ref 72, .int w, .int p, .int f, .int t, .int q, .int (lnF S w p f t (i + d)).1, .int (lnF S w p f t (i + d)).2.2.1, .int (lnF S w p f t (i + d)).2.1, .int (lnF S w p f t (i + d)).2.2.2, .int (iN (i + d)), v11', v12', xU, xU] [] (emb I S, G, Z) := by
      intro d
      induction d with
      | zero =>
        intro i v11 v12 hi
        refine ⟨v11, v12, ?_⟩
        refine Eq.trans (b227_80 hZ.k72) ?_
        simp only [mI_t, mL_t, es2, es1, es3, es4, es5, es6, es7, es8, es9, es10, es11, es12, es13, es14, es15, es51, es52, es53, es54, es61, es0, es16, es17, es18, es19, es20, es21, es22, es23, es24, es25, es26, es27, es28, es29, es30, es31, es32, es33, es34, es35, es36, es37, es38, es39, es40, es41, es42, es43, es44, es45, es46, es47, es48, es49, es50, es55, es56, es57, es58, es59, es60, es62, es63, es64, es65, es66, es67, es68, es69, ea73, ea74, ea75, ea76, ea77, ea78, ea79, ea80, ea81, ea82, ea83, ea84, ea85, ea86, ea87, ea88, ea89, ea90, ea91, ea92, ea93, ea94, ea95, ea96, ea97, ea98, ea99, ea100, ea101, ea102, ea103, ea104, ea105, ea106, ea107, ea108, ea109, ea110, ea111, hZ.k72, hZ.r72_16, hZ.r72_17, hZ.r72_18, hZ.r72_19, hZ.r72_20, hZ.r72_21, hZ.r72_22, hZ.r72_23, hZ.r72_24, hZ.r72_25, hZ.r72_26, hZ.r72_35, hZ.r72_36, hZ.r72_37, hZ.r72_38, hZ.r72_39, hZ.r72_40, hZ.r72_41, hZ.r72_42, hZ.r72_43, hZ.r72_44, hZ.r72_45, hZ.r72_46, hZ.r72_47, hZ.r72_48, hZ.r72_49, hZ.r72_50, hZ.r72_55, hZ.r72_56, hZ.r72_57, hZ.r72_58, hZ.r72_59, hZ.r72_60, hZ.r72_62, hZ.r72_63, hZ.r72_64, hZ.r72_65, hZ.r72_66, hZ.r72_67]
        rw [h19, ← hi, Nat.add_zero]
        exact if_pos (iN_nlt (by omega))
      | succ d ih =>
        intro i v11 v12 hi
        have hlt : iN i < iN (S 0 19).toNatClampNeg := (iN_lt (by omega) (by omega)).mpr (by omega)
        have hb : ib (iN i) 300 := ib_iN (by omega) (by omega)
        have hc : (iN i).toNatClampNeg = i := iN_clamp (by omega)
        have st : ∃ u11 u12, run 2 227 80 [.ref 72, .int w, .int p, .int f, .int t, .int q, .int (lnF S w p f t i).1, .int (lnF S w p f t i).2.2.1, .int (lnF S w p f t i).2.1, .int (lnF S w p f t i).2.2.2, .int (iN i), v11, v12, xU, xU] [] (emb I S, G, Z) = run 2 227 80 [.ref 72, .int w, .int p, .int f, .int t, .int q, .int (lnF S w p f t (i + 1)).1, .int (lnF S w p f t (i + 1)).2.2.1, .int (lnF S w p f t (i + 1)).2.1, .int (lnF S w p f t (i + 1)).2.2.2, .int (iN (i + 1)), u11, u12, xU, xU] [] (emb I S, G, Z) := by
          have pre : run 2 227 80 [.ref 72, .int w, .int p, .int f, .int t, .int q, .int (lnF S w p f t i).1, .int (lnF S w p f t i).2.2.1, .int (lnF S w p f t i).2.1, .int (lnF S w p f t i).2.2.2, .int (iN i), v11, v12, xU, xU] [] (emb I S, G, Z) = run 2 227 105 [.ref 72, .int w, .int p, .int f, .int t, .int q, .int (lnF S w p f t i).1, .int (lnF S w p f t i).2.2.1, .int (lnF S w p f t i).2.1, .int (lnF S w p f t i).2.2.2, .int (iN i), v11, v12, xU, xU] [.int (bI (inB (S 18 i) f.toInt t.toInt))] (emb I S, G, Z) := by
            refine Eq.trans (b227_80 hZ.k72) ?_
            simp only [mI_t, mL_t, es2, es1, es3, es4, es5, es6, es7, es8, es9, es10, es11, es12, es13, es14, es15, es51, es52, es53, es54, es61, es0, es16, es17, es18, es19, es20, es21, es22, es23, es24, es25, es26, es27, es28, es29, es30, es31, es32, es33, es34, es35, es36, es37, es38, es39, es40, es41, es42, es43, es44, es45, es46, es47, es48, es49, es50, es55, es56, es57, es58, es59, es60, es62, es63, es64, es65, es66, es67, es68, es69, ea73, ea74, ea75, ea76, ea77, ea78, ea79, ea80, ea81, ea82, ea83, ea84, ea85, ea86, ea87, ea88, ea89, ea90, ea91, ea92, ea93, ea94, ea95, ea96, ea97, ea98, ea99, ea100, ea101, ea102, ea103, ea104, ea105, ea106, ea107, ea108, ea109, ea110, ea111, hZ.k72, hZ.r72_16, hZ.r72_17, hZ.r72_18, hZ.r72_19, hZ.r72_20, hZ.r72_21, hZ.r72_22, hZ.r72_23, hZ.r72_24, hZ.r72_25, hZ.r72_26, hZ.r72_35, hZ.r72_36, hZ.r72_37, hZ.r72_38, hZ.r72_39, hZ.r72_40, hZ.r72_41, hZ.r72_42, hZ.r72_43, hZ.r72_44, hZ.r72_45, hZ.r72_46, hZ.r72_47, hZ.r72_48, hZ.r72_49, hZ.r72_50, hZ.r72_55, hZ.r72_56, hZ.r72_57, hZ.r72_58, hZ.r72_59, hZ.r72_60, hZ.r72_62, hZ.r72_63, hZ.r72_64, hZ.r72_65, hZ.r72_66, hZ.r72_67]
            rw [h19]
            refine Eq.trans (if_neg (fun z => z hlt)) (Eq.trans (b227_89 hZ.k72 hZ.kr72_62 (hZ.ir72_62 hb)) ?_)
            rw [m_in, Int32.toInt_toInt64, Int32.toInt_toInt64]
            simp only [mI_t, mL_t, es2, es1, es3, es4, es5, es6, es7, es8, es9, es10, es11, es12, es13, es14, es15, es51, es52, es53, es54, es61, es0, es16, es17, es18, es19, es20, es21, es22, es23, es24, es25, es26, es27, es28, es29, es30, es31, es32, es33, es34, es35, es36, es37, es38, es39, es40, es41, es42, es43, es44, es45, es46, es47, es48, es49, es50, es55, es56, es57, es58, es59, es60, es62, es63, es64, es65, es66, es67, es68, es69, ea73, ea74, ea75, ea76, ea77, ea78, ea79, ea80, ea81, ea82, ea83, ea84, ea85, ea86, ea87, ea88, ea89, ea90, ea91, ea92, ea93, ea94, ea95, ea96, ea97, ea98, ea99, ea100, ea101, ea102, ea103, ea104, ea105, ea106, ea107, ea108, ea109, ea110, ea111, hZ.k72, hZ.r72_16, hZ.r72_17, hZ.r72_18, hZ.r72_19, hZ.r72_20, hZ.r72_21, hZ.r72_22, hZ.r72_23, hZ.r72_24, hZ.r72_25, hZ.r72_26, hZ.r72_35, hZ.r72_36, hZ.r72_37, hZ.r72_38, hZ.r72_39, hZ.r72_40, hZ.r72_41, hZ.r72_42, hZ.r72_43, hZ.r72_44, hZ.r72_45, hZ.r72_46, hZ.r72_47, hZ.r72_48, hZ.r72_49, hZ.r72_50, hZ.r72_55, hZ.r72_56, hZ.r72_57, hZ.r72_58, hZ.r72_59, hZ.r72_60, hZ.r72_62, hZ.r72_63, hZ.r72_64, hZ.r72_65, hZ.r72_66, hZ.r72_67, hc]
            rfl
          rw [lnF]
          by_cases c1 : inB (S 18 i) f.toInt t.toInt = true
          · rw [if_pos c1]
            have so : run 2 227 80 [.ref 72, .int w, .int p, .int f, .int t, .int q, .int (lnF S w p f t i).1, .int (lnF S w p f t i).2.2.1, .int (lnF S w p f t i).2.1, .int (lnF S w p f t i).2.2.2, .int (iN i), v11, v12, xU, xU] [] (emb I S, G, Z) = run 2 227 146 [.ref 72, .int w, .int p, .int f, .int t, .int q, .int (lnF S w p f t i).1, .int (lnF S w p f t i).2.2.1, .int (lnF S w p f t i).2.1, .int (lnF S w p f t i).2.2.2, .int (iN i), .int (if (S 20 i >>> (p &&& 31)) &&& 1 = 1 then 1 else 0), v12, xU, xU] [.int (if S 19 i = w then 1 else 0)] (emb I S, G, Z) := by
              refine Eq.trans pre (Eq.trans b227_105 ?_)
              rw [bI_0, if_pos c1]
              refine Eq.trans (b227_108 hZ.k72 hZ.kr72_64 (hZ.ir72_64 hb)) ?_
              simp only [mI_t, mL_t, es2, es1, es3, es4, es5, es6, es7, es8, es9, es10, es11, es12, es13, es14, es15, es51, es52, es53, es54, es61, es0, es16, es17, es18, es19, es20, es21, es22, es23, es24, es25, es26, es27, es28, es29, es30, es31, es32, es33, es34, es35, es36, es37, es38, es39, es40, es41, es42, es43, es44, es45, es46, es47, es48, es49, es50, es55, es56, es57, es58, es59, es60, es62, es63, es64, es65, es66, es67, es68, es69, ea73, ea74, ea75, ea76, ea77, ea78, ea79, ea80, ea81, ea82, ea83, ea84, ea85, ea86, ea87, ea88, ea89, ea90, ea91, ea92, ea93, ea94, ea95, ea96, ea97, ea98, ea99, ea100, ea101, ea102, ea103, ea104, ea105, ea106, ea107, ea108, ea109, ea110, ea111, hZ.k72, hZ.r72_16, hZ.r72_17, hZ.r72_18, hZ.r72_19, hZ.r72_20, hZ.r72_21, hZ.r72_22, hZ.r72_23, hZ.r72_24, hZ.r72_25, hZ.r72_26, hZ.r72_35, hZ.r72_36, hZ.r72_37, hZ.r72_38, hZ.r72_39, hZ.r72_40, hZ.r72_41, hZ.r72_42, hZ.r72_43, hZ.r72_44, hZ.r72_45, hZ.r72_46, hZ.r72_47, hZ.r72_48, hZ.r72_49, hZ.r72_50, hZ.r72_55, hZ.r72_56, hZ.r72_57, hZ.r72_58, hZ.r72_59, hZ.r72_60, hZ.r72_62, hZ.r72_63, hZ.r72_64, hZ.r72_65, hZ.r72_66, hZ.r72_67, hc]
              have fin : ∀ u : Int32, run 2 227 128 [.ref 72, .int w, .int p, .int f, .int t, .int q, .int (lnF S w p f t i).1, .int (lnF S w p f t i).2.2.1, .int (lnF S w p f t i).2.1, .int (lnF S w p f t i).2.2.2, .int (iN i), v11, v12, xU, xU] [.int u] (emb I S, G, Z) = run 2 227 146 [.ref 72, .int w, .int p, .int f, .int t, .int q, .int (lnF S w p f t i).1, .int (lnF S w p f t i).2.2.1, .int (lnF S w p f t i).2.1, .int (lnF S w p f t i).2.2.2, .int (iN i), .int u, v12, xU, xU] [.int (if S 19 i = w then 1 else 0)] (emb I S, G, Z) := by
                intro u
                refine Eq.trans (b227_128 hZ.k72 hZ.kr72_63 (hZ.ir72_63 hb)) ?_
                simp only [mI_t, mL_t, es2, es1, es3, es4, es5, es6, es7, es8, es9, es10, es11, es12, es13, es14, es15, es51, es52, es53, es54, es61, es0, es16, es17, es18, es19, es20, es21, es22, es23, es24, es25, es26, es27, es28, es29, es30, es31, es32, es33, es34, es35, es36, es37, es38, es39, es40, es41, es42, es43, es44, es45, es46, es47, es48, es49, es50, es55, es56, es57, es58, es59, es60, es62, es63, es64, es65, es66, es67, es68, es69, ea73, ea74, ea75, ea76, ea77, ea78, ea79, ea80, ea81, ea82, ea83, ea84, ea85, ea86, ea87, ea88, ea89, ea90, ea91, ea92, ea93, ea94, ea95, ea96, ea97, ea98, ea99, ea100, ea101, ea102, ea103, ea104, ea105, ea106, ea107, ea108, ea109, ea110, ea111, hZ.k72, hZ.r72_16, hZ.r72_17, hZ.r72_18, hZ.r72_19, hZ.r72_20, hZ.r72_21, hZ.r72_22, hZ.r72_23, hZ.r72_24, hZ.r72_25, hZ.r72_26, hZ.r72_35, hZ.r72_36, hZ.r72_37, hZ.r72_38, hZ.r72_39, hZ.r72_40, hZ.r72_41, hZ.r72_42, hZ.r72_43, hZ.r72_44, hZ.r72_45, hZ.r72_46, hZ.r72_47, hZ.r72_48, hZ.r72_49, hZ.r72_50, hZ.r72_55, hZ.r72_56, hZ.r72_57, hZ.r72_58, hZ.r72_59, hZ.r72_60, hZ.r72_62, hZ.r72_63, hZ.r72_64, hZ.r72_65, hZ.r72_66, hZ.r72_67, hc]
                by_cases c3 : S 19 i = w
                · rw [if_pos c3]
                  exact Eq.trans (if_neg (fun z => z c3)) b227_141
                · rw [if_neg c3]
                  exact Eq.trans (if_pos c3) b227_145
              by_cases c2 : (S 20 i >>> (p &&& 31)) &&& 1 = 1
              · rw [if_pos c2]
                exact Eq.trans (if_neg (fun z => z c2)) (Eq.trans b227_123 (fin 1))
              · rw [if_neg c2]
                exact Eq.trans (if_pos c2) (Eq.trans b227_127 (fin 0))
            by_cases c2 : (S 20 i >>> (p &&& 31)) &&& 1 = 1
            · rw [if_pos c2]
              rw [if_pos c2] at so
              refine ⟨.int 1, .int (if S 19 i = w then 1 else 0), Eq.trans so (Eq.trans b227_146 (Eq.trans (if_neg (by decide)) (Eq.trans b227_155 (Eq.trans b227_160 (Eq.trans (if_neg (by decide)) (Eq.trans b227_170 (Eq.trans b227_175 (Eq.trans (if_neg (by decide)) (Eq.trans b227_185 (Eq.trans b227_191 (Eq.trans (if_neg (by decide)) (Eq.trans b227_201 (Eq.trans b227_207 (Eq.trans b227_210 ?_))))))))))))))⟩
              rw [i32_add0, i32_add0, iN_succ]
            · rw [if_neg c2]
              rw [if_neg c2] at so
              refine ⟨.int 0, .int (if S 19 i = w then 1 else 0), Eq.trans so (Eq.trans b227_146 (Eq.trans (if_pos rfl) (Eq.trans b227_159 (Eq.trans b227_160 (Eq.trans (if_pos rfl) (Eq.trans b227_174 (Eq.trans b227_175 (Eq.trans (if_pos rfl) (Eq.trans b227_190 (Eq.trans b227_191 (Eq.trans (if_pos rfl) (Eq.trans b227_205 (Eq.trans b227_207 (Eq.trans b227_210 ?_))))))))))))))⟩
              rw [i32_add0, i32_add0, iN_succ]
          · rw [if_neg c1]
            refine ⟨v11, v12, Eq.trans pre (Eq.trans b227_105 ?_)⟩
            rw [bI_0, if_neg c1]
            refine Eq.trans b227_210 ?_
            rw [iN_succ]
        obtain ⟨u11, u12, hs⟩ := st
        obtain ⟨v11', v12', hk⟩ := ih (i + 1) u11 u12 (by omega)
        refine ⟨v11', v12', Eq.trans hs ?_⟩
        rw [show i + (d + 1) = i + 1 + d by omega]
        exact hk
    obtain ⟨v11', v12', hk⟩ := key (S 0 19).toNatClampNeg 0 xU xU (by omega)
    refine Eq.trans hk ?_
    rw [Nat.zero_add]
    unfold leanS
    obtain ⟨h, a, o, b, e, g1, g2, g3⟩ := lnF_b (S := S) (w := w) (p := p) (f := f) (t := t) (S 0 19).toNatClampNeg hn
    rw [e]
    obtain ⟨n1, n2, n3, n4, n5⟩ := ln_num g1 g2 (show h + o ≤ 300 by omega)
    show run 2 227 216 [.ref 72, .int w, .int p, .int f, .int t, .int q, .int (iN h), .int (iN o), .int (iN a), .int (iN b), .int (iN (S 0 19).toNatClampNeg), v11', v12', xU, xU] [] (emb I S, G, Z) = some (some (.int (leanV (iN h) (iN a) (iN o) (iN b) q)), (emb I S, G, Z))
    unfold leanV
    refine Eq.trans b227_216 ?_
    by_cases z1 : iN h = 0
    · rw [if_pos (Or.inl z1 : iN h = 0 ∨ iN o = 0)]
      exact Eq.trans (if_pos z1) b227_226
    refine Eq.trans (if_neg z1) (Eq.trans b227_221 ?_)
    by_cases z2 : iN o = 0
    · rw [if_pos (Or.inr z2 : iN h = 0 ∨ iN o = 0)]
      exact Eq.trans (if_neg (fun z => z z2)) b227_226
    rw [if_neg (show ¬ (iN h = 0 ∨ iN o = 0) from fun z => z.elim z1 z2)]
    refine Eq.trans (if_pos z2) (Eq.trans b227_228 ?_)
    generalize hab : iN a * iN o - iN b * iN h = ab at n3 ⊢
    have hbl : iN h * iN o = iN (h * o) := iN_mul (by omega) (by omega) (by omega)
    rw [hbl]
    have ho0 : 0 < h * o := by
      refine Nat.mul_pos ?_ ?_
      · rcases Nat.eq_zero_or_pos h with z | z
        · exact absurd (show iN h = 0 by rw [z]; rfl) z1
        · exact z
      · rcases Nat.eq_zero_or_pos o with z | z
        · exact absurd (show iN o = 0 by rw [z]; rfl) z2
        · exact z
    have eb : (iN (h * o)).toInt.natAbs = h * o := by rw [iN_int (by omega)]; omega
    rw [eb]
    have gp : 0 < Nat.gcd ab.toInt.natAbs (h * o) := Nat.gcd_pos_of_pos_right _ ho0
    have gl : Nat.gcd ab.toInt.natAbs (h * o) ≤ h * o := Nat.gcd_le_right _ ho0
    have am := abs_m (x := ab) (by omega)
    have last : run 2 227 261 [.ref 72, .int w, .int p, .int f, .int t, .int q, .int (iN h), .int (iN o), .int (iN a), .int (iN b), .int ab, .int (iN (h * o)), v12', xU, xU] [.int (iN ab.toInt.natAbs)] (emb I S, G, Z) = some (some (.int ((if q = 0 then ab else iN (h * o)) / iN (Nat.gcd ab.toInt.natAbs (h * o)))), (emb I S, G, Z)) := by
      refine Eq.trans b227_261 ?_
      obtain ⟨v', hv⟩ := m_gcd (v1 := xU) (v2 := xU) (v3 := xU) (v4 := xU) (x1 := w) (x2 := p) (x3 := f) (x4 := t) (x5 := q) (x6 := iN h) (x7 := iN o) (x8 := iN a) (x9 := iN b) (x10 := ab) (x11 := iN (h * o)) (M := (emb I S, G, Z)) ab.toInt.natAbs (by omega) (h * o) xU (by omega)
      have gn : ¬ iN (Nat.gcd ab.toInt.natAbs (h * o)) = 0 := fun z => by
        have := (iN_inj (b := 0) (by omega) (by omega)).mp z
        omega
      refine Eq.trans hv (Eq.trans b227_290 ?_)
      by_cases q0 : q = 0
      · rw [if_pos q0]
        exact Eq.trans (if_neg (fun z => z q0)) (Eq.trans (b227_295 gn) b227_308)
      · rw [if_neg q0]
        exact Eq.trans (if_pos q0) (Eq.trans (b227_303 gn) b227_308)
    by_cases neg : ab < 0
    · refine Eq.trans (if_neg (fun z => z neg)) (Eq.trans b227_253 ?_)
      rw [am.1 neg]
      exact last
    · refine Eq.trans (if_pos neg) (Eq.trans b227_259 ?_)
      rw [← am.2 neg] at last
      exact last
  unfold leanOK
  simp only [and_if]
  simp only [e227, b227_0, b227_9, b227_12, b227_21, b227_24, b227_33, b227_36, b227_47, b227_50, b227_58, b227_61, m_in, bsome, tol1, bI_0, bI_n, mI_t, mL_t, es2, es1, es3, es4, es5, es6, es7, es8, es9, es10, es11, es12, es13, es14, es15, es51, es52, es53, es54, es61, es0, es16, es17, es18, es19, es20, es21, es22, es23, es24, es25, es26, es27, es28, es29, es30, es31, es32, es33, es34, es35, es36, es37, es38, es39, es40, es41, es42, es43, es44, es45, es46, es47, es48, es49, es50, es55, es56, es57, es58, es59, es60, es62, es63, es64, es65, es66, es67, es68, es69, ea73, ea74, ea75, ea76, ea77, ea78, ea79, ea80, ea81, ea82, ea83, ea84, ea85, ea86, ea87, ea88, ea89, ea90, ea91, ea92, ea93, ea94, ea95, ea96, ea97, ea98, ea99, ea100, ea101, ea102, ea103, ea104, ea105, ea106, ea107, ea108, ea109, ea110, ea111, hZ.k72, hZ.r72_16, hZ.r72_17, hZ.r72_18, hZ.r72_19, hZ.r72_20, hZ.r72_21, hZ.r72_22, hZ.r72_23, hZ.r72_24, hZ.r72_25, hZ.r72_26, hZ.r72_35, hZ.r72_36, hZ.r72_37, hZ.r72_38, hZ.r72_39, hZ.r72_40, hZ.r72_41, hZ.r72_42, hZ.r72_43, hZ.r72_44, hZ.r72_45, hZ.r72_46, hZ.r72_47, hZ.r72_48, hZ.r72_49, hZ.r72_50, hZ.r72_55, hZ.r72_56, hZ.r72_57, hZ.r72_58, hZ.r72_59, hZ.r72_60, hZ.r72_62, hZ.r72_63, hZ.r72_64, hZ.r72_65, hZ.r72_66, hZ.r72_67, l64_0, l64_1, l64_2, l64_3, l64_4, l64_5, l64_7, l64_9, l64_10, l64_11, l64_15, l64_20, l64_60, l64_99, l64_140, l64_143, l64_199, l64_200, l64_255, l64_500, l64_999, l64_9999, l64_99999, l64_9999999, l64_m50, l64_m1, Int32.toInt_toInt64, hmain]
  split
  · split
    · split
      · split
        · split <;> rfl
        · rfl
      · rfl
    · rfl
  · rfl
theorem t_lean (hZ : Shp Z) (h6 : Wf6 S) {w p f t : Int32} {c : Int32} : call 96 [.ref 51, .int w, .int p, .int f, .int t, .int c] (embB 33 I S, G, Z) = some (some (.int (leanS S w p f t (if c = 0 then 1 else 0))), (embB 33 I S, G, Z)) := by
  have hn := h6.2
  have h19 := h6.1
  refine Eq.trans e96 (Eq.trans b96_0 ?_)
  have key : ∀ d i v11, i + d = (S 0 19).toNatClampNeg → ∃ v11', run 2 96 15 [.ref 51, .int w, .int p, .int f, .int t, .int c, .int (lnF S w p f t i).1, .int (lnF S w p f t i).2.1, .int (lnF S w p f t i).2.2.1, .int (lnF S w p f t i).2.2.2, .int (iN i), v11, xU] [] (embB 33 I S, G, Z) = run 2 96 102 [.ref 51, .int w, .int p, .int f, .int t, .int c, .int (lnF S w p f t (i + d)).1, .int (lnF S w p f t (i + d)).2.1, .int (lnF S w p f t (i + d)).2.2.1, .int (lnF S w p f t (i + d)).2.2.2, .int (iN (i + d)), v11', xU] [] (embB 33 I S, G, Z) := by
    intro d
    induction d with
    | zero =>
      intro i v11 hi
      refine ⟨v11, ?_⟩
      refine Eq.trans (b96_15 hZ.k51) ?_
      simp only [mI_t, mL_t, ct3, ct4, ct5, ct6, ct7, ct8, ct9, ct10, ct11, ct13, ct15, ct16, ct17, ct18, ct12, ct14, cs5, cs6, cs7, cs8, cw3, ca46, ca47, ca48, ca52, ca53, ca54, ca55, ca56, hZ.k33, hZ.r33_0, hZ.r33_1, hZ.r33_2, hZ.r33_3, hZ.r33_4, hZ.k34, hZ.r34_0, hZ.r34_1, hZ.r34_2]
      rw [h19, ← hi, Nat.add_zero]
      exact if_pos (iN_nlt (by omega))
    | succ d ih =>
      intro i v11 hi
      have hlt : iN i < iN (S 0 19).toNatClampNeg := (iN_lt (by omega) (by omega)).mpr (by omega)
      have hb : ib (iN i) 300 := ib_iN (by omega) (by omega)
      have hc : (iN i).toNatClampNeg = i := iN_clamp (by omega)
      have st : ∃ u11, run 2 96 15 [.ref 51, .int w, .int p, .int f, .int t, .int c, .int (lnF S w p f t i).1, .int (lnF S w p f t i).2.1, .int (lnF S w p f t i).2.2.1, .int (lnF S w p f t i).2.2.2, .int (iN i), v11, xU] [] (embB 33 I S, G, Z) = run 2 96 15 [.ref 51, .int w, .int p, .int f, .int t, .int c, .int (lnF S w p f t (i + 1)).1, .int (lnF S w p f t (i + 1)).2.1, .int (lnF S w p f t (i + 1)).2.2.1, .int (lnF S w p f t (i + 1)).2.2.2, .int (iN (i + 1)), u11, xU] [] (embB 33 I S, G, Z) := by
        have pre : run 2 96 15 [.ref 51, .int w, .int p, .int f, .int t, .int c, .int (lnF S w p f t i).1, .int (lnF S w p f t i).2.1, .int (lnF S w p f t i).2.2.1, .int (lnF S w p f t i).2.2.2, .int (iN i), v11, xU] [] (embB 33 I S, G, Z) = run 2 96 37 [.ref 51, .int w, .int p, .int f, .int t, .int c, .int (lnF S w p f t i).1, .int (lnF S w p f t i).2.1, .int (lnF S w p f t i).2.2.1, .int (lnF S w p f t i).2.2.2, .int (iN i), v11, xU] [.int (bI (inB (S 18 i) f.toInt t.toInt))] (embB 33 I S, G, Z) := by
          refine Eq.trans (b96_15 hZ.k51) ?_
          simp only [mI_t, mL_t, ct3, ct4, ct5, ct6, ct7, ct8, ct9, ct10, ct11, ct13, ct15, ct16, ct17, ct18, ct12, ct14, cs5, cs6, cs7, cs8, cw3, ca46, ca47, ca48, ca52, ca53, ca54, ca55, ca56, hZ.k33, hZ.r33_0, hZ.r33_1, hZ.r33_2, hZ.r33_3, hZ.r33_4, hZ.k34, hZ.r34_0, hZ.r34_1, hZ.r34_2]
          rw [h19]
          refine Eq.trans (if_neg (fun z => z hlt)) (Eq.trans (b96_24 hZ.k51 hZ.kr51_0 (hZ.ir51_0 hb)) ?_)
          rw [c_within, hZ.r51_0, hc]
          simp only [mI_t, mL_t, ct3, ct4, ct5, ct6, ct7, ct8, ct9, ct10, ct11, ct13, ct15, ct16, ct17, ct18, ct12, ct14, cs5, cs6, cs7, cs8, cw3, ca46, ca47, ca48, ca52, ca53, ca54, ca55, ca56, hZ.k33, hZ.r33_0, hZ.r33_1, hZ.r33_2, hZ.r33_3, hZ.r33_4, hZ.k34, hZ.r34_0, hZ.r34_1, hZ.r34_2]
          rfl
        rw [lnF]
        by_cases c1 : inB (S 18 i) f.toInt t.toInt = true
        · rw [if_pos c1]
          have so : run 2 96 15 [.ref 51, .int w, .int p, .int f, .int t, .int c, .int (lnF S w p f t i).1, .int (lnF S w p f t i).2.1, .int (lnF S w p f t i).2.2.1, .int (lnF S w p f t i).2.2.2, .int (iN i), v11, xU] [] (embB 33 I S, G, Z) = run 2 96 56 [.ref 51, .int w, .int p, .int f, .int t, .int c, .int (lnF S w p f t i).1, .int (lnF S w p f t i).2.1, .int (lnF S w p f t i).2.2.1, .int (lnF S w p f t i).2.2.2, .int (iN i), v11, xU] [.int (if S 19 i = w then 1 else 0)] (embB 33 I S, G, Z) := by
            refine Eq.trans pre (Eq.trans b96_37 ?_)
            rw [bI_0, if_pos c1]
            refine Eq.trans (b96_40 hZ.k51 hZ.kr51_1 (hZ.ir51_1 hb)) ?_
            rw [hZ.r51_1, hc]
            simp only [mI_t, mL_t, ct3, ct4, ct5, ct6, ct7, ct8, ct9, ct10, ct11, ct13, ct15, ct16, ct17, ct18, ct12, ct14, cs5, cs6, cs7, cs8, cw3, ca46, ca47, ca48, ca52, ca53, ca54, ca55, ca56, hZ.k33, hZ.r33_0, hZ.r33_1, hZ.r33_2, hZ.r33_3, hZ.r33_4, hZ.k34, hZ.r34_0, hZ.r34_1, hZ.r34_2]
            by_cases c3 : S 19 i = w
            · rw [if_pos c3]
              exact Eq.trans (if_neg (fun z => z c3)) b96_51
            · rw [if_neg c3]
              exact Eq.trans (if_pos c3) b96_55
          have so2 := Eq.trans so (b96_56 hZ.k51 hZ.kr51_2 (hZ.ir51_2 hb))
          rw [hZ.r51_2, hc] at so2
          simp only [mI_t, mL_t, ct3, ct4, ct5, ct6, ct7, ct8, ct9, ct10, ct11, ct13, ct15, ct16, ct17, ct18, ct12, ct14, cs5, cs6, cs7, cs8, cw3, ca46, ca47, ca48, ca52, ca53, ca54, ca55, ca56, hZ.k33, hZ.r33_0, hZ.r33_1, hZ.r33_2, hZ.r33_3, hZ.r33_4, hZ.k34, hZ.r34_0, hZ.r34_1, hZ.r34_2] at so2
          by_cases c2 : (S 20 i >>> (p &&& 31)) &&& 1 = 1
          · rw [if_pos c2]
            refine ⟨.int (if S 19 i = w then 1 else 0), Eq.trans so2 (Eq.trans (if_neg (fun z => z c2)) (Eq.trans b96_73 (Eq.trans b96_96 ?_)))⟩
            rw [iN_succ]
          · rw [if_neg c2]
            refine ⟨.int (if S 19 i = w then 1 else 0), Eq.trans so2 (Eq.trans (if_pos c2) (Eq.trans b96_86 (Eq.trans b96_96 ?_)))⟩
            rw [iN_succ]
        · rw [if_neg c1]
          refine ⟨v11, Eq.trans pre (Eq.trans b96_37 ?_)⟩
          rw [bI_0, if_neg c1]
          refine Eq.trans b96_96 ?_
          rw [iN_succ]
      obtain ⟨u11, hs⟩ := st
      obtain ⟨v11', hk⟩ := ih (i + 1) u11 (by omega)
      refine ⟨v11', Eq.trans hs ?_⟩
      rw [show i + (d + 1) = i + 1 + d by omega]
      exact hk
  obtain ⟨v11', hk⟩ := key (S 0 19).toNatClampNeg 0 xU (by omega)
  refine Eq.trans hk ?_
  rw [Nat.zero_add]
  unfold leanS
  obtain ⟨h, a, o, b, e, g1, g2, g3⟩ := lnF_b (S := S) (w := w) (p := p) (f := f) (t := t) (S 0 19).toNatClampNeg hn
  rw [e]
  obtain ⟨n1, n2, n3, n4, n5⟩ := ln_num g1 g2 (show h + o ≤ 300 by omega)
  show run 2 96 102 [.ref 51, .int w, .int p, .int f, .int t, .int c, .int (iN h), .int (iN a), .int (iN o), .int (iN b), .int (iN (S 0 19).toNatClampNeg), v11', xU] [] (embB 33 I S, G, Z) = some (some (.int (leanV (iN h) (iN a) (iN o) (iN b) (if c = 0 then 1 else 0))), (embB 33 I S, G, Z))
  unfold leanV
  refine Eq.trans b96_102 ?_
  generalize hab : iN a * iN o - iN b * iN h = ab at n3 ⊢
  have hbl : iN h * iN o = iN (h * o) := iN_mul (by omega) (by omega) (by omega)
  rw [hbl]
  have eb : (iN (h * o)).toInt.natAbs = h * o := by rw [iN_int (by omega)]; omega
  rw [eb]
  have am := abs_m (x := ab) (by omega)
  have eabs : (if 0 ≤ ab then ab else 0 - ab) = iN ab.toInt.natAbs := by
    by_cases neg : ab < 0
    · rw [if_neg (fun z => by rw [Int32.le_iff_toInt_le, l32_0] at z; rw [ti_lt, l32_0] at neg; omega), ← am.1 neg, Int32.zero_sub]
    · rw [if_pos (by rw [Int32.le_iff_toInt_le, l32_0]; rw [ti_lt, l32_0] at neg; omega)]
      exact am.2 neg
  rw [eabs]
  have hcd : call 97 [.int (iN ab.toInt.natAbs), .int (iN (h * o))] (embB 33 I S, G, Z) = some (some (.int (iN (Nat.gcd (h * o) ab.toInt.natAbs))), (embB 33 I S, G, Z)) := Eq.trans e97 (Eq.trans b97_0 (c_gcd 17 0 ab.toInt.natAbs (h * o) xU (by omega) (by omega) (by omega) (by omega)))
  rw [hcd, Nat.gcd_comm]
  refine Eq.trans b96_132 ?_
  by_cases z0 : h * o = 0
  · have z3 : iN h = 0 ∨ iN o = 0 := by
      rcases Nat.mul_eq_zero.mp z0 with z | z
      · exact Or.inl (by rw [z]; rfl)
      · exact Or.inr (by rw [z]; rfl)
    rw [if_pos z3]
    exact Eq.trans (if_pos (by rw [z0]; rfl)) b96_144
  · have ho0 : 0 < h * o := by omega
    have gp : 0 < Nat.gcd ab.toInt.natAbs (h * o) := Nat.gcd_pos_of_pos_right _ ho0
    have gl : Nat.gcd ab.toInt.natAbs (h * o) ≤ h * o := Nat.gcd_le_right _ ho0
    have gn : ¬ iN (Nat.gcd ab.toInt.natAbs (h * o)) = 0 := fun z => by
      have := (iN_inj (b := 0) (by omega) (by omega)).mp z
      omega
    have z3 : ¬ (iN h = 0 ∨ iN o = 0) := by
      rintro (z | z)
      · have := (iN_inj (b := 0) (by omega) (by omega)).mp z
        rw [this, Nat.zero_mul] at z0
        exact z0 rfl
      · have := (iN_inj (b := 0) (by omega) (by omega)).mp z
        rw [this, Nat.mul_zero] at z0
        exact z0 rfl
    rw [if_neg z3]
    refine Eq.trans (if_neg (fun z => z0 ((iN_inj (b := 0) (by omega) (by omega)).mp z))) (Eq.trans b96_139 (Eq.trans (if_pos gn) (Eq.trans b96_146 ?_)))
    by_cases c0 : c = 0
    · rw [if_pos c0, if_pos c0, if_neg (show ¬ (1 : Int32) = 0 by decide)]
      exact Eq.trans b96_156 (b96_158 gn)
    · rw [if_neg c0, if_neg c0, if_pos rfl]
      exact Eq.trans b96_151 (b96_158 gn)
theorem f_lean (hZ : Shp Z) (h6 : Wf6 S) {w p f t q : Int32} : call 131 [.ref 32, .int w, .int p, .int f, .int t, .int q] (embB 33 I S, G, Z) = some (some (.int (if leanOK w p f t q = true then leanS S w p f t q else -1000)), (embB 33 I S, G, Z)) := by
  have ht : run 3 131 0 [.ref 32, .int w, .int p, .int f, .int t, .int q, xU] [] (embB 33 I S, G, Z) = run 3 131 22 [.ref 32, .int w, .int p, .int f, .int t, .int q, xU] [.int (bI (inB f 0 99999 && inB t f.toInt 99999))] (embB 33 I S, G, Z) := by
    refine Eq.trans b131_0 ?_
    have bad : ∀ bb : Bool, bb = false → run 3 131 21 [.ref 32, .int w, .int p, .int f, .int t, .int q, xU] [] (embB 33 I S, G, Z) = run 3 131 22 [.ref 32, .int w, .int p, .int f, .int t, .int q, xU] [.int (bI bb)] (embB 33 I S, G, Z) := by
      intro bb hb
      rw [hb]
      exact b131_21
    by_cases c1 : f < 0
    · refine Eq.trans (if_pos c1) (bad _ (Bool.eq_false_iff.mpr (fun z => ?_)))
      rw [Bool.and_eq_true, inB_iff, inB_iff] at z
      rw [ti_lt, l32_0] at c1
      omega
    refine Eq.trans (if_neg c1) (Eq.trans b131_4 ?_)
    by_cases c2 : t < f
    · refine Eq.trans (if_pos c2) (bad _ (Bool.eq_false_iff.mpr (fun z => ?_)))
      rw [Bool.and_eq_true, inB_iff, inB_iff] at z
      rw [ti_lt] at c2
      omega
    refine Eq.trans (if_neg c2) (Eq.trans b131_10 ?_)
    by_cases c3 : 99999 < t
    · refine Eq.trans (if_pos c3) (bad _ (Bool.eq_false_iff.mpr (fun z => ?_)))
      rw [Bool.and_eq_true, inB_iff, inB_iff] at z
      rw [ti_lt, l32_99999] at c3
      omega
    refine Eq.trans (if_neg c3) (Eq.trans b131_17 ?_)
    have : (inB f 0 99999 && inB t f.toInt 99999) = true := by
      rw [Bool.and_eq_true, inB_iff, inB_iff]
      rw [ti_lt, l32_0] at c1
      rw [ti_lt] at c2
      rw [ti_lt, l32_99999] at c3
      omega
    rw [this]
    rfl
  have eOK : leanOK w p f t q = ((inB f 0 99999 && inB t f.toInt 99999) && (inB w 0 4 && (inB p 0 7 && inB q 0 1))) := by
    unfold leanOK
    generalize inB w 0 4 = b1
    generalize inB p 0 7 = b2
    generalize inB f 0 99999 = b3
    generalize inB t f.toInt 99999 = b4
    generalize inB q 0 1 = b5
    cases b1 <;> cases b2 <;> cases b3 <;> cases b4 <;> cases b5 <;> rfl
  rw [eOK]
  refine Eq.trans e131 (Eq.trans ht (Eq.trans b131_22 ?_))
  rw [bI_0]
  by_cases d1 : (inB f 0 99999 && inB t f.toInt 99999) = true
  · rw [if_pos d1, d1, Bool.true_and]
    refine Eq.trans b131_29 ?_
    rw [c_within, l32_0, l32_4]
    refine Eq.trans b131_35 ?_
    rw [bI_0]
    by_cases d2 : inB w 0 4 = true
    · rw [if_pos d2, d2, Bool.true_and]
      refine Eq.trans b131_38 ?_
      rw [c_within, l32_0, l32_7]
      refine Eq.trans b131_45 ?_
      rw [bI_0]
      by_cases d3 : inB p 0 7 = true
      · rw [if_pos d3, d3, Bool.true_and]
        refine Eq.trans b131_48 ?_
        rw [c_within, l32_0, l32_1]
        refine Eq.trans b131_55 ?_
        rw [bI_n]
        by_cases d4 : inB q 0 1 = true
        · rw [if_pos d4, if_pos d4]
          have hi := inB_iff.mp d4
          refine Eq.trans (b131_62 hZ.k32 hZ.kr32_0) ?_
          rw [hZ.r32_0, hZ.r33_2]
          by_cases q0 : q = 0
          · refine Eq.trans (if_neg (fun z => z q0)) (Eq.trans b131_79 (Eq.trans (b131_84 hZ.k51) ?_))
            rw [t_lean hZ h6, if_neg (show ¬ (1 : Int32) = 0 by decide), q0]
            exact b131_87
          · have q1 : q = 1 := by
              rw [ti_eq, l32_0] at q0
              rw [ti_eq, l32_1]
              omega
            refine Eq.trans (if_pos q0) (Eq.trans b131_83 (Eq.trans (b131_84 hZ.k51) ?_))
            rw [t_lean hZ h6, if_pos rfl, q1]
            exact b131_87
        · rw [if_neg d4, if_neg d4]
          exact b131_58
      · rw [if_neg d3, Bool.eq_false_iff.mpr d3]
        exact b131_58
    · rw [if_neg d2, Bool.eq_false_iff.mpr d2]
      exact b131_58
  · rw [if_neg d1, Bool.eq_false_iff.mpr d1]
    exact b131_58
end LN
