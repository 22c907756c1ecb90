/-! THE CLASS'S POUR -/
theorem cof_t {b a k : Nat} {I : aI} {S S' : aS} (hc : ∀ c, c ≠ 0 → c ≠ 10 → c ≠ 11 → S' c = S c) (h7 : S' 0 7 = S 0 7) (h15 : S' 0 15 = S 0 15) (h16 : S' 0 16 = S 0 16) (h17 : S' 0 17 = S 0 17) (h18 : S' 0 18 = S 0 18) (h19 : S' 0 19 = S 0 19) (h1 : a ≠ 1) (h3 : a ≠ 3) (h4 : a ≠ 4) : cof I S' b a k = cof I S b a k := by
  have eR : riN S' = riN S := by unfold riN; rw [h7]
  have eLo : ∀ q, low S' q = low S q := fun q => by unfold low; rw [hc 1 (by decide) (by decide) (by decide)]
  unfold cof
  rw [if_neg h1, if_neg h1, if_neg h3, if_neg h3, if_neg h4, if_neg h4, eR, hc 17 (by decide) (by decide) (by decide), h15, h19, eLo]
  have e12 : cst I S' b k = cst I S b k := by unfold cst; rw [h15, h16, h17, h18]
  rw [e12]
  have e5 : (if k = 0 then (if a - 5 < riN S then low S (a - 5) else I (b + a) k) else if k < 10 then S' k (a - 5) else I (b + a) k) = (if k = 0 then (if a - 5 < riN S then low S (a - 5) else I (b + a) k) else if k < 10 then S k (a - 5) else I (b + a) k) := by
    by_cases h0 : k = 0
    · rw [if_pos h0, if_pos h0]
    · rw [if_neg h0, if_neg h0]
      by_cases h9 : k < 10
      · rw [if_pos h9, if_pos h9, hc k h0 (by omega) (by omega)]
      · rw [if_neg h9, if_neg h9]
  rw [e5]
  cases hm : car a with
  | none => rfl
  | some c =>
    have hq := car_no hm
    simp only [hc c hq.1 hq.2.2.1 hq.2.2.2.1]
theorem sumI_eq {f g : Nat → Int32} : ∀ n : Nat, (∀ i, i < n → f i = g i) → sumI f n = sumI g n := by
  intro n
  induction n with
  | zero => intro _; rfl
  | succ n ih =>
    intro h
    rw [sumI, sumI, ih (fun i hi => h i (by omega)), h n (by omega)]
theorem pour0_la {S : aS} {x h : Int32} (hw : Wf0 S) : laN (pour0 S x h) = laN S + 1 := by
  have := hw.2.2
  show (S 0 8 + 1).toNatClampNeg = _
  rw [hw.2.1, iN_succ, iN_clamp (by omega)]
theorem pour0_10 {S : aS} {x h : Int32} {k : Nat} : pour0 S x h 10 k = if k = laN S then x else S 10 k := rfl
theorem pour0_11 {S : aS} {x h : Int32} {k : Nat} : pour0 S x h 11 k = if k = laN S then h else S 11 k := rfl
theorem pour0_dep {S : aS} {x h : Int32} (hw : Wf0 S) : dep (pour0 S x h) = dep S + x := by
  unfold dep
  rw [pour0_la hw, sumI, pour0_10, if_pos rfl, sumI_eq (f := pour0 S x h 10) (g := S 10) _ (fun i hi => by rw [pour0_10, if_neg (by omega)])]
theorem grow {I : aI} {S : aS} {x h : Int32} (hw : Wf0 S) : up2 (up2 (up2 (up2 (up2 (embB 33 I S) 36 (laN S) x) 37 (laN S) h) 34 13 (S 0 8 + 1)) 34 14 (dep S + x)) 34 16 (S 0 11 + 1) = embB 33 I (pour0 S x h) := by
  have la := pour0_la (x := x) (h := h) hw
  funext a k
  by_cases ha : a = 34
  · subst ha
    by_cases k16 : k = 16
    · subst k16; rfl
    by_cases k14 : k = 14
    · subst k14; rw [up2_k (by decide), up2_s]; exact (pour0_dep hw).symm
    by_cases k13 : k = 13
    · subst k13; rfl
    rw [up2_k k16, up2_k k14, up2_k k13, up2_a (by decide), up2_a (by decide)]
    show ctk I S 33 k = ctk I (pour0 S x h) 33 k
    unfold ctk
    cases hm : csc k with
    | none =>
      show (if k = 12 then low S (riN S) else if k = 14 then dep S else I 34 k) = (if k = 12 then low S (riN S) else if k = 14 then dep (pour0 S x h) else I 34 k)
      rw [if_neg k14, if_neg k14]
    | some j =>
      have j8 : j ≠ 8 := fun e => k13 (csc_inj hm (by rw [e]; rfl))
      have j11 : j ≠ 11 := fun e => k16 (csc_inj hm (by rw [e]; rfl))
      show S 0 j = pour0 S x h 0 j
      unfold pour0
      rw [up2_k j11, up2_k j8, up2_a (by decide), up2_a (by decide)]
  rw [up2_a ha, up2_a ha, up2_a ha]
  by_cases h36 : a = 36
  · subst h36
    rw [up2_a (by decide)]
    show _ = if k < laN (pour0 S x h) then pour0 S x h 10 k else I 36 k
    rw [la, pour0_10]
    by_cases hk : k = laN S
    · subst hk
      rw [up2_s, if_pos (by omega), if_pos rfl]
    · rw [up2_k hk, if_neg hk]
      show (if k < laN S then S 10 k else I 36 k) = _
      by_cases hl : k < laN S
      · rw [if_pos hl, if_pos (by omega)]
      · rw [if_neg hl, if_neg (by omega)]
  by_cases h37 : a = 37
  · subst h37
    show _ = if k < laN (pour0 S x h) then pour0 S x h 11 k else I 37 k
    rw [la, pour0_11]
    by_cases hk : k = laN S
    · subst hk
      rw [up2_s, if_pos (by omega), if_pos rfl]
    · rw [up2_k hk, if_neg hk, up2_a (by decide)]
      show (if k < laN S then S 11 k else I 37 k) = _
      by_cases hl : k < laN S
      · rw [if_pos hl, if_pos (by omega)]
      · rw [if_neg hl, if_neg (by omega)]
  rw [up2_a h37, up2_a h36]
  by_cases hin : 33 ≤ a ∧ a < 33 + 24
  · have e : a = 33 + (a - 33) := by omega
    rw [e, embB_at (by omega), embB_at (by omega)]
    refine (cof_t (a := a - 33) (S := S) (S' := pour0 S x h) (fun c c0 c10 c11 => ?_) rfl rfl rfl rfl rfl rfl (by omega) (by omega) (by omega)).symm
    funext i
    unfold pour0
    rw [up2_a c0, up2_a c0, up2_a c11, up2_a c10]
  · rw [embB_out (by omega), embB_out (by omega)]
theorem pour0_wf1 {S : aS} {x h : Int32} (h1 : Wf1 S) (hf : (S 0 11).toInt < 100000) : Wf1 (pour0 S x h) := by
  refine ⟨h1.1, ?_, h1.2.2⟩
  have := h1.2.1
  show 0 ≤ (S 0 11 + 1).toInt ∧ (S 0 11 + 1).toInt ≤ 100000
  rw [ti_add (by rw [l32_1]; omega) (by rw [l32_1]; omega), l32_1]
  omega
section CP
variable {I : aI} {G : aL} {Z : aZ} {S : aS}
theorem t_pour (hZ : Shp Z) (hw : Wf0 S) (h1 : Wf1 S) (hf : (S 0 11).toInt < 100000) {x h : Int32} : call 53 [.ref 34, .int x, .int h] (embB 33 I S, G, Z) = if S 0 12 = -1 ∧ ¬ S 0 8 = 30 ∧ ¬ low S (riN S) < dep S + x then some (some (.int (dep (pour0 S x h))), (embB 33 I (settle (pour0 S x h)), G, Z)) else some (some (.int (-1)), (embB 33 I S, G, Z)) := by
  have h30 := hw.2.2
  refine Eq.trans e53 (Eq.trans (b53_0 hZ.k34) ?_)
  rw [t_hasBurst hZ]
  refine Eq.trans b53_4 ?_
  by_cases hn : S 0 12 = -1
  · rw [decide_eq_true hn]
    refine Eq.trans (if_neg (by decide)) (Eq.trans (b53_7 hZ.k34) ?_)
    simp only [mI_t, mL_t, ct3, ct4, ct5, ct6, ct7, ct8, ct9, ct10, ct11, ct13, ct15, ct16, ct17, ct18, ct12, ct14, cs5, cs6, cs7, cs8, cw3, ca46, ca47, ca48, ca52, ca53, ca54, ca55, ca56, hZ.k33, hZ.r33_0, hZ.r33_1, hZ.r33_2, hZ.r33_3, hZ.r33_4, hZ.k34, hZ.r34_0, hZ.r34_1, hZ.r34_2]
    by_cases h8 : S 0 8 = 30
    · refine Eq.trans ?_ (if_neg (fun q => q.2.1 h8)).symm
      exact Eq.trans (if_pos (by rw [h8]; decide)) b53_29
    · have hl : laN S < 30 := by
        rcases Nat.lt_or_ge (laN S) 30 with q | q
        · exact q
        · exact absurd (by rw [hw.2.1, show laN S = 30 by omega]; rfl) h8
      have hb : ib (S 0 8) 30 := by rw [hw.2.1]; exact ib_iN (by omega) hl
      have hlt : S 0 8 < 30 := by
        rw [hw.2.1]
        exact (iN_lt (b := 30) (by omega) (by decide)).mpr hl
      refine Eq.trans (if_neg (fun q => q hlt)) (Eq.trans (b53_16 hZ.k34) ?_)
      simp only [mI_t, mL_t, ct3, ct4, ct5, ct6, ct7, ct8, ct9, ct10, ct11, ct13, ct15, ct16, ct17, ct18, ct12, ct14, cs5, cs6, cs7, cs8, cw3, ca46, ca47, ca48, ca52, ca53, ca54, ca55, ca56, hZ.k33, hZ.r33_0, hZ.r33_1, hZ.r33_2, hZ.r33_3, hZ.r33_4, hZ.k34, hZ.r34_0, hZ.r34_1, hZ.r34_2]
      by_cases hd : low S (riN S) < dep S + x
      · refine Eq.trans ?_ (if_neg (fun q => q.2.2 hd)).symm
        exact Eq.trans (if_neg (fun q => q hd)) b53_29
      · refine Eq.trans ?_ (if_pos ⟨hn, h8, hd⟩).symm
        refine Eq.trans (if_pos hd) (Eq.trans (b53_31 hZ.k34 hZ.kr34_1 (hZ.ir34_1 hb) hZ.kr34_2 (hZ.ir34_2 (by rw [wI_t, mI_t, hZ.r34_1, up2_a (by decide)]; exact hb))) ?_)
        refine Eq.trans (b53_61 hZ.k34) ?_
        simp only [mI_t, mL_t, ct3, ct4, ct5, ct6, ct7, ct8, ct9, ct10, ct11, ct13, ct15, ct16, ct17, ct18, ct12, ct14, cs5, cs6, cs7, cs8, cw3, ca46, ca47, ca48, ca52, ca53, ca54, ca55, ca56, hZ.k33, hZ.r33_0, hZ.r33_1, hZ.r33_2, hZ.r33_3, hZ.r33_4, hZ.k34, hZ.r34_0, hZ.r34_1, hZ.r34_2, wI_t, up2_a (show (34 : Nat) ≠ 36 by decide), up2_a (show (34 : Nat) ≠ 37 by decide), up2_k (show (14 : Nat) ≠ 13 by decide), up2_k (show (16 : Nat) ≠ 13 by decide), up2_k (show (16 : Nat) ≠ 14 by decide)]
        have el : (S 0 8).toNatClampNeg = laN S := rfl
        rw [el, grow hw, t_bear hZ (pour0_wf hw hl) (pour0_wf1 h1 hf)]
        refine Eq.trans (b53_85 hZ.k34) ?_
        simp only [mI_t, mL_t, ct3, ct4, ct5, ct6, ct7, ct8, ct9, ct10, ct11, ct13, ct15, ct16, ct17, ct18, ct12, ct14, cs5, cs6, cs7, cs8, cw3, ca46, ca47, ca48, ca52, ca53, ca54, ca55, ca56, hZ.k33, hZ.r33_0, hZ.r33_1, hZ.r33_2, hZ.r33_3, hZ.r33_4, hZ.k34, hZ.r34_0, hZ.r34_1, hZ.r34_2]
        rw [settle_dep]
  · rw [decide_eq_false hn]
    refine Eq.trans ?_ (if_neg (fun q => hn q.1)).symm
    exact Eq.trans (if_pos (by decide)) b53_29
end CP
