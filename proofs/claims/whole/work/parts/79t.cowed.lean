/-! MEN OWED: lateness, and the men a rule names (the class's) -/
def lt17 (S : aS) (k : aK) : Bool := decide (S 13 k.2.1.toNatClampNeg = -1) || !decide (S 0 0 - S 13 k.2.1.toNatClampNeg < k.2.2.1)
def bt1 (S : aS) (w : Nat → Int) (k : aK) : Int32 := if lt17 S k = true ∧ tst w k.2.2.2 = true then 1 <<< (k.2.1 &&& 31) else 0
def nbF (S : aS) (w : Nat → Int) (a : Int32) : List aK → Int32
  | [] => a
  | k :: l => nbF S w (a ||| bt1 S w k) l
section OWD
variable {I : aI} {G : aL} {Z : aZ} {S : aS} {w : Nat → Int}
theorem c_late (hZ : Shp Z) {J : aI} (hJ : ∀ b, b ≠ 68 → J b = embB 33 I S b) {k : aK} (hg : kg true k) : call 137 [.ref 32, .int k.2.1, .int k.2.2.1] (J, G, Z) = some (some (.int (bI (lt17 S k))), (J, G, Z)) := by
  have h17 : k.1 = 17 := of_decide_eq_true hg.2.2.1
  have hb := inB_iff.mp (hg.2.2.2.2.2 h17).1
  have n0 : ¬ k.2.1 < 0 := by rw [ti_lt, l32_0]; omega
  have n10 : k.2.1 < 10 := by rw [ti_lt, show (10 : Int32).toInt = 10 from rfl]; omega
  have hib : ib k.2.1 10 := by
    rintro (q | q)
    · exact n0 q
    · rw [Int32.toNatClampNeg] at q; omega
  have m4 : mR (J, G, Z) (mR (J, G, Z) 32 0) 4 = 56 := by rw [hZ.r32_0, hZ.r33_4]
  have e56 : J 56 k.2.1.toNatClampNeg = S 13 k.2.1.toNatClampNeg := by rw [hJ 56 (by decide)]; exact id rfl
  have e34 : J 34 4 = S 0 0 := by rw [hJ 34 (by decide)]; exact ct4
  refine Eq.trans e137 (Eq.trans b137_0 (Eq.trans (if_neg n0) (Eq.trans b137_4 (Eq.trans (if_pos n10) (Eq.trans (b137_12 hZ.k32 hZ.kr32_0 (by rw [m4]; exact hZ.k56) (by rw [m4]; exact hZ.i56 hib)) ?_)))))
  rw [m4, mI_t, e56]
  unfold lt17
  by_cases h1 : S 13 k.2.1.toNatClampNeg = -1
  · rw [if_pos h1, decide_eq_true h1, Bool.true_or]
    exact Eq.trans b137_43 (b137_48 rfl)
  · rw [if_neg h1, decide_eq_false h1, Bool.false_or]
    refine Eq.trans (b137_27 hZ.k32 hZ.kr32_0 (by rw [hZ.r32_0]; exact hZ.kr33_0)) ?_
    rw [hZ.r32_0, hZ.r33_0, mI_t, e34]
    by_cases h2 : S 0 0 - S 13 k.2.1.toNatClampNeg < k.2.2.1
    · rw [if_pos h2, decide_eq_true h2]
      exact Eq.trans b137_47 (b137_48 rfl)
    · rw [if_neg h2, decide_eq_false h2]
      exact Eq.trans b137_43 (b137_48 rfl)
theorem c_named (hZ : Shp Z) (hwb : ∀ k, k < 13 → -10000000 ≤ w k ∧ w k ≤ 10000000) {lo hi r : Nat} {ks : List aK} (hlo : 69 ≤ lo) (hg : ∀ k, k ∈ ks → kg true k) (hl : ks.length ≤ 14) : ∀ (l : List aK) (i : Nat) (J : aI) (a : Int32) (v : Value), ks = ks.take i ++ l → i + l.length = ks.length → (∀ b, b ≠ 68 → J b = embB 33 I S b) → TxC J Z lo hi r ks → (∀ k, k < 13 → (J 67 k).toInt = w k) → ∃ J' : aI, run 5 136 4 [.ref 32, .ref r, .int a, .int (iN i), v] [] (J, G, Z) = some (some (.int (nbF S w a l)), (J', G, Z)) ∧ ∀ b, b ≠ 68 → J' b = J b := by
  intro l
  induction l with
  | nil =>
    intro i J a v _ hi' _ hT _
    have hi' : i = ks.length := hi'
    obtain ⟨t1, t2, t3, t4, t5, t6, t7, t8⟩ := hT
    refine ⟨J, Eq.trans (b136_4 t3 t6) ?_, fun _ _ => rfl⟩
    rw [show mN (J, G, Z) (mR (J, G, Z) r 0) = ks.length from t7, hi']
    exact Eq.trans (if_pos (iN_nlt (by omega))) b136_66
  | cons k l ih =>
    intro i J a v hks hi' hJ hT hw
    rw [List.length_cons] at hi'
    have hT' := hT
    obtain ⟨t1, t2, t3, t4, t5, t6, t7, t8⟩ := hT
    obtain ⟨hik, hmem, hks'⟩ := tk_s hks (by omega)
    have hkg := hg k hmem
    have hC := t8 i (by omega)
    rw [hik] at hC
    have hcl : (iN i).toNatClampNeg = i := iN_clamp (by omega)
    have hib : ib (iN i) (mN (J, G, Z) (mR (J, G, Z) r 0)) := by
      rw [show mN (J, G, Z) (mR (J, G, Z) r 0) = ks.length from t7]; exact ib_iN (by omega) (by omega)
    have st : run 5 136 4 [.ref 32, .ref r, .int a, .int (iN i), v] [] (J, G, Z) = if lt17 S k = true then run 5 136 38 [.ref 32, .ref r, .int a, .int (iN i), .ref (zR Z (zR Z r 0) i)] [] (J, G, Z) else run 5 136 60 [.ref 32, .ref r, .int a, .int (iN i), .ref (zR Z (zR Z r 0) i)] [] (J, G, Z) := by
      refine Eq.trans (b136_4 t3 t6) ?_
      rw [show mN (J, G, Z) (mR (J, G, Z) r 0) = ks.length from t7]
      refine Eq.trans (if_neg (fun q => q ((iN_lt (by omega) (by omega)).mpr (by omega)))) (Eq.trans (b136_13 t3 t6 hib (by rw [hcl]; exact hC.2.2.1) hZ.k32) ?_)
      rw [hcl, show mI (J, G, Z) (mR (J, G, Z) (mR (J, G, Z) r 0) i) 1 = k.2.1 from hC.2.2.2.2.1, show mI (J, G, Z) (mR (J, G, Z) (mR (J, G, Z) r 0) i) 2 = k.2.2.1 from hC.2.2.2.2.2.1, c_late hZ hJ hkg]
      refine Eq.trans b136_35 ?_
      rw [bI_0]
      rfl
    have s60 : ∀ (J1 : aI) (a' : Int32), run 5 136 60 [.ref 32, .ref r, .int a', .int (iN i), .ref (zR Z (zR Z r 0) i)] [] (J1, G, Z) = run 5 136 4 [.ref 32, .ref r, .int a', .int (iN (i + 1)), .ref (zR Z (zR Z r 0) i)] [] (J1, G, Z) := fun J1 a' => by
      refine Eq.trans b136_60 ?_
      rw [iN_succ]
    rw [st, nbF]
    unfold bt1
    by_cases hlt : lt17 S k = true
    · rw [if_pos hlt]
      obtain ⟨J1, h1, h2⟩ := c_holds (G := G) hZ hwb hw hC hlo hkg.1 (by have := hkg.2.1; omega)
      rw [b136_38 hZ.k32 hZ.kr32_4, hZ.r32_4, h1]
      show ∃ J' : aI, run 5 136 47 [.ref 32, .ref r, .int a, .int (iN i), .ref (zR Z (zR Z r 0) i)] [.int (bI (tst w k.2.2.2))] (J1, G, Z) = _ ∧ _
      rw [b136_47, bI_0]
      have nx1 : ∀ a' : Int32, ∃ J' : aI, run 5 136 60 [.ref 32, .ref r, .int a', .int (iN i), .ref (zR Z (zR Z r 0) i)] [] (J1, G, Z) = some (some (.int (nbF S w a' l)), (J', G, Z)) ∧ ∀ b, b ≠ 68 → J' b = J b := fun a' => by
        rw [s60]
        obtain ⟨J', b1, b2⟩ := ih (i + 1) J1 a' (.ref (zR Z (zR Z r 0) i)) hks' (by omega) (fun b hb => by rw [h2 b hb, hJ b hb]) (TxC_68 hT' hlo h2) (fun q hq => by rw [h2 67 (by decide)]; exact hw q hq)
        exact ⟨J', b1, fun b hb => by rw [b2 b hb, h2 b hb]⟩
      cases ht : tst w k.2.2.2
      · rw [if_neg (by decide), if_neg (by rintro ⟨_, q⟩; cases q), Int32.or_zero]
        exact nx1 a
      · rw [if_pos rfl, if_pos ⟨hlt, rfl⟩, b136_50 (show mK (J1, G, Z) (zR Z (zR Z r 0) i) = 0 from hC.2.2.1), mI_t, h2 _ (by have := hC.1; omega), hC.2.2.2.2.1]
        exact nx1 _
    · rw [if_neg hlt, if_neg (fun q => hlt q.1), Int32.or_zero, s60]
      exact ih (i + 1) J a _ hks' (by omega) hJ hT' hw
end OWD
