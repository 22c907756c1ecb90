/-! DRAWING OFF: the class's -/
theorem cof_I {b a k : Nat} {I I' : aI} {S : aS} (h : I' (b + a) = I (b + a)) : cof I' S b a k = cof I S b a k := by
  by_cases h1 : a = 1
  · subst h1
    show ctk I' S b k = ctk I S b k
    unfold ctk
    rw [h]
  by_cases h3 : a = 3
  · subst h3
    show (if k < laN S then S 10 k else I' (b + 3) k) = if k < laN S then S 10 k else I (b + 3) k
    rw [h]
  by_cases h4 : a = 4
  · subst h4
    show (if k < laN S then S 11 k else I' (b + 4) k) = if k < laN S then S 11 k else I (b + 4) k
    rw [h]
  by_cases h12 : a = 12
  · subst h12
    show cst I' S b k = cst I S b k
    unfold cst
    rw [h]
  by_cases h18 : a = 18
  · subst h18
    show (if k = 3 then S 0 19 else I' (b + 18) k) = if k = 3 then S 0 19 else I (b + 18) k
    rw [h]
  unfold cof
  rw [if_neg h1, if_neg h1, if_neg h3, if_neg h3, if_neg h4, if_neg h4, if_neg h12, if_neg h12, if_neg h18, if_neg h18, h]
section CD
variable {I : aI} {G : aL} {Z : aZ} {S : aS}
/-- what is left is carried down -/
theorem t_keep (hZ : Shp Z) {x1 : Int32} {n : Nat} (hn : n ≤ 30) : ∀ (d c i : Nat) (P : aI) (v5 : Value), i + d = n → c ≤ i → P 34 13 = iN n → (∀ j, i ≤ j → j < n → 1 ≤ (P 36 j).toInt) → ∃ P2 : aI, (∀ a, a ≠ 36 → a ≠ 37 → P2 a = P a) ∧ (∀ k, k < c → P2 36 k = P 36 k ∧ P2 37 k = P 37 k) ∧ (∀ j, j < d → P2 36 (c + j) = P 36 (i + j) ∧ P2 37 (c + j) = P 37 (i + j)) ∧ run 2 54 29 [.ref 34, .int x1, .int 0, .int (iN c), .int (iN i), v5] [] (P, G, Z) = some (some (.int (P 34 14 - x1)), (up2 (up2 P2 34 13 (iN (c + d))) 34 14 (P 34 14 - x1), G, Z)) := by
  intro d
  induction d with
  | zero =>
    intro c i P v5 hi hc h13 hf
    refine ⟨P, fun _ _ _ => rfl, fun _ _ => ⟨rfl, rfl⟩, fun j hj => by omega, ?_⟩
    refine Eq.trans (b54_29 hZ.k34) ?_
    rw [mI_t, h13, show i = n by omega]
    refine Eq.trans (if_pos (iN_nlt (by omega))) (Eq.trans (b54_106 hZ.k34) ?_)
    simp only [mI_t, wI_t, up2_s, up2_k (show (14 : Nat) ≠ 13 by decide)]
    rfl
  | succ d ih =>
    intro c i P v5 hi hc h13 hf
    have hlt : iN i < iN n := (iN_lt (by omega) (by omega)).mpr (by omega)
    have hb : ib (iN i) 30 := ib_iN (by omega) (by omega)
    have hbc : ib (iN c) 30 := ib_iN (by omega) (by omega)
    have ci : (iN i).toNatClampNeg = i := iN_clamp (by omega)
    have cc : (iN c).toNatClampNeg = c := iN_clamp (by omega)
    have f1 := hf i (Nat.le_refl _) (by omega)
    obtain ⟨P2, o1, o2, o3, o4⟩ := ih (c + 1) (i + 1) (up2 (up2 P 36 c (P 36 i - 0)) 37 c (P 37 i)) (.int 0) (by omega) (by omega) (by rw [up2_a (by decide), up2_a (by decide)]; exact h13) (fun j a b => by rw [up2_a (by decide), up2_k (by omega)]; exact hf j (by omega) b)
    refine ⟨P2, fun a h6 h7 => ?_, fun k hk => ?_, fun j hj => ?_, ?_⟩
    · rw [o1 a h6 h7]
      funext k
      rw [up2_a h7, up2_a h6]
    · have := o2 k (by omega)
      rw [up2_a (by decide), up2_k (by omega), up2_k (by omega), up2_a (by decide)] at this
      exact this
    · by_cases e : j = 0
      · subst e
        have := o2 c (by omega)
        rw [up2_a (by decide), up2_s, up2_s, Int32.sub_zero] at this
        exact this
      · have := o3 (j - 1) (by omega)
        rw [show c + 1 + (j - 1) = c + j by omega, show i + 1 + (j - 1) = i + j by omega, up2_a (by decide), up2_k (by omega), up2_k (by omega), up2_a (by decide)] at this
        exact this
    · refine Eq.trans (b54_29 hZ.k34) ?_
      rw [mI_t, h13]
      refine Eq.trans (if_neg (fun q => q hlt)) (Eq.trans (b54_38 hZ.k34 hZ.kr34_1 (hZ.ir34_1 hb)) ?_)
      have n0 : ¬ P 36 i < 0 := by rw [ti_lt, l32_0]; omega
      have p0 : 0 < P 36 i := by rw [ti_lt, l32_0]; omega
      simp only [mI_t, hZ.r34_1, ci, if_neg n0]
      refine Eq.trans (if_neg (fun q => q p0)) (Eq.trans (b54_68 hZ.k34 hZ.kr34_1 (hZ.ir34_1 hb) (hZ.ir34_1 hbc) hZ.kr34_2 (hZ.ir34_2 hb) (hZ.ir34_2 hbc)) (Eq.trans b54_100 ?_))
      simp only [mI_t, wI_t, hZ.r34_1, hZ.r34_2, ci, cc, iN_succ, up2_a (show (37 : Nat) ≠ 36 by decide)]
      rw [Int32.sub_self]
      refine Eq.trans o4 ?_
      have e14 : up2 (up2 P 36 c (P 36 i - 0)) 37 c (P 37 i) 34 14 = P 34 14 := by rw [up2_a (by decide), up2_a (by decide)]
      rw [e14, show c + 1 + d = c + (d + 1) by omega]
theorem t_drw (hZ : Shp Z) {x1 : Int32} {n : Nat} (hn : n ≤ 30) : ∀ (m i : Nat) (r : Int32) (T : aS) (P : aI) (v5 : Value), i + m = n → Lay m T → 0 ≤ r.toInt → P 34 13 = iN n → (∀ k, k < m → P 36 (i + k) = T 10 k ∧ P 37 (i + k) = T 11 k) → ∃ (P2 : aI), (∀ a, a ≠ 36 → a ≠ 37 → P2 a = P a) ∧ (∀ k, k < laN (drwF m r T) → P2 36 k = drwF m r T 10 k ∧ P2 37 k = drwF m r T 11 k) ∧ run 2 54 29 [.ref 34, .int x1, .int r, .int 0, .int (iN i), v5] [] (P, G, Z) = some (some (.int (P 34 14 - x1)), (up2 (up2 P2 34 13 (drwF m r T 0 8)) 34 14 (P 34 14 - x1), G, Z)) := by
  intro m
  induction m with
  | zero =>
    intro i r T P v5 hi hL h0 h13 hrow
    refine ⟨P, fun _ _ _ => rfl, fun k hk => ?_, ?_⟩
    · rw [show laN (drwF 0 r T) = 0 from lay_la hL.1 (by omega)] at hk
      omega
    · refine Eq.trans (b54_29 hZ.k34) ?_
      rw [mI_t, h13, show i = n by omega]
      refine Eq.trans (if_pos (iN_nlt (by omega))) (Eq.trans (b54_106 hZ.k34) ?_)
      simp only [mI_t, wI_t, up2_s, up2_k (show (14 : Nat) ≠ 13 by decide)]
      rw [show drwF 0 r T 0 8 = iN 0 from hL.1]
      rfl
  | succ m ih =>
    intro i r T P v5 hi hL h0 h13 hrow
    have hlt : iN i < iN n := (iN_lt (by omega) (by omega)).mpr (by omega)
    have hb : ib (iN i) 30 := ib_iN (by omega) (by omega)
    have ci : (iN i).toNatClampNeg = i := iN_clamp (by omega)
    have a := hL.2 0 (by omega)
    have r0 := hrow 0 (by omega)
    rw [Nat.add_zero] at r0
    have hlaT : laN T = m + 1 := lay_la hL.1 (by omega)
    have hpos : ∀ j, i ≤ j → j < n → 1 ≤ (P 36 j).toInt := fun j h1 h2 => by
      have := (hrow (j - i) (by omega)).1
      rw [show i + (j - i) = j by omega] at this
      rw [this]
      exact (hL.2 (j - i) (by omega)).1
    rw [drwF]
    by_cases hp : 0 < r
    · rw [if_pos hp]
      have step : run 2 54 29 [.ref 34, .int x1, .int r, .int 0, .int (iN i), v5] [] (P, G, Z) = if ¬ (if T 10 0 < r then T 10 0 else r) < T 10 0 then run 2 54 100 [.ref 34, .int x1, .int (r - (if T 10 0 < r then T 10 0 else r)), .int 0, .int (iN i), .int (if T 10 0 < r then T 10 0 else r)] [] (P, G, Z) else run 2 54 68 [.ref 34, .int x1, .int (r - (if T 10 0 < r then T 10 0 else r)), .int 0, .int (iN i), .int (if T 10 0 < r then T 10 0 else r)] [] (P, G, Z) := by
        refine Eq.trans (b54_29 hZ.k34) ?_
        rw [mI_t, h13]
        refine Eq.trans (if_neg (fun q => q hlt)) (Eq.trans (b54_38 hZ.k34 hZ.kr34_1 (hZ.ir34_1 hb)) ?_)
        simp only [mI_t, hZ.r34_1, ci, r0.1]
      by_cases hl : r < T 10 0
      · rw [if_pos hl]
        have hnl : ¬ T 10 0 < r := by rw [ti_lt] at hl ⊢; omega
        rw [if_neg hnl] at step
        obtain ⟨P2, o1, o2, o3, o4⟩ := t_keep (G := G) hZ (x1 := x1) hn m 1 (i + 1) (up2 (up2 P 36 0 (P 36 i - r)) 37 0 (P 37 i)) (.int r) (by omega) (by omega) (by rw [up2_a (by decide), up2_a (by decide)]; exact h13) (fun j a b => by rw [up2_a (by decide), up2_k (by omega)]; exact hpos j (by omega) b)
        refine ⟨P2, fun a h6 h7 => ?_, fun k hk => ?_, ?_⟩
        · rw [o1 a h6 h7]
          funext k
          rw [up2_a h7, up2_a h6]
        · rw [show laN (up2 T 10 0 (T 10 0 - r)) = laN T from rfl, hlaT] at hk
          by_cases e : k = 0
          · subst e
            have := o2 0 (by omega)
            rw [up2_a (by decide), up2_s, up2_s, r0.1, r0.2] at this
            rw [up2_s, up2_a (by decide)]
            exact this
          · have := o3 (k - 1) (by omega)
            rw [show 1 + (k - 1) = k by omega, show i + 1 + (k - 1) = i + k by omega, up2_a (by decide), up2_k (by omega), up2_k (by omega), up2_a (by decide), (hrow k (by omega)).1, (hrow k (by omega)).2] at this
            rw [up2_k e, up2_a (by decide)]
            exact this
        · refine Eq.trans step (Eq.trans (if_neg (fun q => q hl)) (Eq.trans (b54_68 hZ.k34 hZ.kr34_1 (hZ.ir34_1 hb) (hZ.ir34_1 (show ib (0 : Int32) 30 by decide)) hZ.kr34_2 (hZ.ir34_2 hb) (hZ.ir34_2 (show ib (0 : Int32) 30 by decide))) (Eq.trans b54_100 ?_)))
          have c0 : (0 : Int32).toNatClampNeg = 0 := rfl
          simp only [mI_t, wI_t, hZ.r34_1, hZ.r34_2, ci, c0, iN_succ, up2_a (show (37 : Nat) ≠ 36 by decide)]
          rw [Int32.sub_self, show (0 : Int32) + 1 = iN 1 from rfl]
          refine Eq.trans o4 ?_
          have e14 : up2 (up2 P 36 0 (P 36 i - r)) 37 0 (P 37 i) 34 14 = P 34 14 := by rw [up2_a (by decide), up2_a (by decide)]
          have e8 : up2 T 10 0 (T 10 0 - r) 0 8 = iN (1 + m) := by rw [up2_a (by decide), hL.1, Nat.add_comm]
          rw [e14, e8]
      · rw [if_neg hl]
        have hmin : (if T 10 0 < r then T 10 0 else r) = T 10 0 := by
          by_cases q : T 10 0 < r
          · rw [if_pos q]
          · rw [if_neg q, ti_eq]
            rw [ti_lt] at hl q
            omega
        rw [hmin] at step
        have hr0 : 0 ≤ (r - T 10 0).toInt := by
          have := ti_rng r
          rw [ti_lt] at hl
          rw [ti_sub (by omega) (by omega)]
          omega
        obtain ⟨P2, o1, o2, o3⟩ := ih (i + 1) (r - T 10 0) (dropS m T) P (.int (T 10 0)) (by omega) (lay_drop hL) hr0 h13 (fun k hk => by
          rw [(drop_v hk).1, (drop_v hk).2, show i + 1 + k = i + (k + 1) by omega]
          exact hrow (k + 1) (by omega))
        refine ⟨P2, o1, o2, ?_⟩
        refine Eq.trans step (Eq.trans (if_pos (fun q => by rw [ti_lt] at q; omega)) (Eq.trans b54_100 ?_))
        rw [iN_succ]
        exact o3
    · rw [if_neg hp]
      have hr : r = 0 := by
        rw [ti_lt, l32_0] at hp
        rw [ti_eq, l32_0]
        omega
      subst hr
      obtain ⟨P2, o1, -, o3, o4⟩ := t_keep (G := G) hZ (x1 := x1) hn (m + 1) 0 i P v5 hi (by omega) h13 hpos
      refine ⟨P2, o1, fun k hk => ?_, ?_⟩
      · rw [hlaT] at hk
        have := o3 k hk
        rw [Nat.zero_add, (hrow k hk).1, (hrow k hk).2] at this
        exact this
      · rw [hL.1]
        rw [Nat.zero_add] at o4
        exact o4
/-- outside the class's own state nothing else changed -/
def Out (I I' : aI) : Prop := ∀ a, a < 33 ∨ 57 ≤ a → I' a = I a
theorem shrink {P2 : aI} {T : aS} (o1 : ∀ a, a ≠ 36 → a ≠ 37 → P2 a = embB 33 I S a) (hc : ∀ c, c ≠ 0 → c ≠ 10 → c ≠ 11 → T c = S c) (hs : ∀ j, j ≠ 8 → T 0 j = S 0 j) (o2 : ∀ k, k < laN T → P2 36 k = T 10 k ∧ P2 37 k = T 11 k) : up2 (up2 P2 34 13 (T 0 8)) 34 14 (dep T) = embB 33 (fun a k => if a = 36 ∨ a = 37 then P2 a k else I a k) T := by
  funext a k
  by_cases h34 : a = 34
  · subst h34
    have e : embB 33 (fun a k => if a = 36 ∨ a = 37 then P2 a k else I a k) T 34 k = ctk (fun a k => if a = 36 ∨ a = 37 then P2 a k else I a k) T 33 k := embB_at (b := 33) (a := 1) (by decide)
    have e' : embB 33 I S 34 k = ctk I S 33 k := embB_at (b := 33) (a := 1) (by decide)
    rw [e]
    by_cases h14 : k = 14
    · subst h14; rw [up2_s]; rfl
    rw [up2_k h14]
    by_cases h13 : k = 13
    · subst h13; rw [up2_s]; rfl
    rw [up2_k h13, o1 34 (by decide) (by decide), e']
    unfold ctk
    cases hm : csc k with
    | none =>
      have hlow : low S (riN S) = low T (riN T) := by unfold low riN; rw [hc 1 (by decide) (by decide) (by decide), hs 7 (by decide)]
      show (if k = 12 then low S (riN S) else if k = 14 then dep S else I 34 k) = if k = 12 then low T (riN T) else if k = 14 then dep T else (if 33 + 1 = 36 ∨ 33 + 1 = 37 then P2 34 k else I 34 k)
      rw [hlow, if_neg h14, if_neg h14, if_neg (show ¬ (33 + 1 = 36 ∨ 33 + 1 = 37) by decide)]
    | some j =>
      have : j ≠ 8 := fun e => h13 (csc_inj hm (by rw [e]; rfl))
      exact (hs j this).symm
  rw [up2_a h34, up2_a h34]
  by_cases h36 : a = 36
  · subst h36
    show _ = if k < laN T then T 10 k else (if 36 = 36 ∨ 36 = 37 then P2 36 k else I 36 k)
    by_cases hk : k < laN T
    · rw [if_pos hk]; exact (o2 k hk).1
    · rw [if_neg hk, if_pos (Or.inl rfl)]
  by_cases h37 : a = 37
  · subst h37
    show _ = if k < laN T then T 11 k else (if 37 = 36 ∨ 37 = 37 then P2 37 k else I 37 k)
    by_cases hk : k < laN T
    · rw [if_pos hk]; exact (o2 k hk).2
    · rw [if_neg hk, if_pos (Or.inr rfl)]
  rw [o1 a h36 h37]
  by_cases hin : 33 ≤ a ∧ a < 33 + 24
  · have e : a = 33 + (a - 33) := by omega
    rw [e, embB_at (by omega), embB_at (by omega)]
    have eI : cof I S 33 (a - 33) k = cof (fun a k => if a = 36 ∨ a = 37 then P2 a k else I a k) S 33 (a - 33) k := by
      refine (cof_I ?_).symm
      funext k
      show (if 33 + (a - 33) = 36 ∨ 33 + (a - 33) = 37 then _ else _) = _
      rw [if_neg (by omega)]
    rw [eI]
    exact (cof_t (a := a - 33) (S := S) (S' := T) hc (hs 7 (by decide)) (hs 15 (by decide)) (hs 16 (by decide)) (hs 17 (by decide)) (hs 18 (by decide)) (hs 19 (by decide)) (by omega) (by omega) (by omega)).symm
  · rw [embB_out (by omega), embB_out (by omega)]
    show I a k = if a = 36 ∨ a = 37 then P2 a k else I a k
    rw [if_neg (by omega)]
theorem t_draw (hZ : Shp Z) (hw : Wf0 S) (h2 : Wf2 S) (h5 : Wf5 S) {x : Int32} : ∃ I', Out I I' ∧ call 54 [.ref 34, .int x] (embB 33 I S, G, Z) = if drawOK S x = true then some (some (.int (dep (drawS S x))), (embB 33 I' (drawS S x), G, Z)) else some (some (.int (-1)), (embB 33 I S, G, Z)) := by
  by_cases hok : drawOK S x = true
  · obtain ⟨m, hm, hL, hla, hd⟩ := draw_f hw h5 hok
    have hok' := hok
    unfold drawOK at hok'
    rw [Bool.and_eq_true, Bool.and_eq_true, Bool.not_eq_true', decide_eq_false_iff_not, decide_eq_true_eq] at hok'
    obtain ⟨h1, h12, hx⟩ := hok'
    have hi := inB_iff.mp hx
    obtain ⟨P2, o1, o2, o3⟩ := t_drw (G := G) hZ (x1 := x) hw.2.2 (laN S) 0 x S (embB 33 I S) xU (by omega) ⟨hw.2.1, h5⟩ (by omega) (show embB 33 I S 34 13 = _ by rw [ct13]; exact hw.2.1) (fun k hk => by rw [Nat.zero_add]; exact ⟨cl36 hk, cl37 hk⟩)
    refine ⟨fun a k => if a = 36 ∨ a = 37 then P2 a k else I a k, fun a ha => ?_, ?_⟩
    · funext k
      show (if a = 36 ∨ a = 37 then _ else _) = _
      rw [if_neg (by omega)]
    rw [if_pos hok]
    refine Eq.trans e54 (Eq.trans (b54_0 hZ.k34) ?_)
    rw [t_hasBurst hZ, decide_eq_true h12]
    refine Eq.trans b54_4 (Eq.trans (if_neg (by decide)) (Eq.trans b54_7 ?_))
    refine Eq.trans (if_neg (by rw [ti_lt, l32_1]; omega)) (Eq.trans (b54_12 hZ.k34) ?_)
    simp only [mI_t, mL_t, ct3, ct4, ct5, ct6, ct7, ct8, ct9, ct10, ct11, ct13, ct15, ct16, ct17, ct18, ct12, ct14, cs5, cs6, cs7, cs8, cw3, ca46, ca47, ca48, ca52, ca53, ca54, ca55, ca56, hZ.k33, hZ.r33_0, hZ.r33_1, hZ.r33_2, hZ.r33_3, hZ.r33_4, hZ.k34, hZ.r34_0, hZ.r34_1, hZ.r34_2]
    refine Eq.trans (if_pos (by rw [ti_lt]; omega)) (Eq.trans b54_22 (Eq.trans o3 ?_))
    rw [ct14, ← hd]
    rw [show drwF (laN S) x S = drawS S x from rfl] at o2 ⊢
    rw [shrink (T := drawS S x) o1 (fun c a b d => drw_c a b d _ _ _) (fun j h => drw_s h _ _ _) o2]
  · refine ⟨I, fun a _ => rfl, ?_⟩
    rw [if_neg hok]
    refine Eq.trans e54 (Eq.trans (b54_0 hZ.k34) ?_)
    rw [t_hasBurst hZ]
    refine Eq.trans b54_4 ?_
    by_cases h12 : S 0 12 = -1
    · rw [decide_eq_true h12]
      refine Eq.trans (if_neg (by decide)) (Eq.trans b54_7 ?_)
      by_cases hx1 : x < 1
      · exact Eq.trans (if_pos hx1) b54_20
      · refine Eq.trans (if_neg hx1) (Eq.trans (b54_12 hZ.k34) ?_)
        simp only [mI_t, mL_t, ct3, ct4, ct5, ct6, ct7, ct8, ct9, ct10, ct11, ct13, ct15, ct16, ct17, ct18, ct12, ct14, cs5, cs6, cs7, cs8, cw3, ca46, ca47, ca48, ca52, ca53, ca54, ca55, ca56, hZ.k33, hZ.r33_0, hZ.r33_1, hZ.r33_2, hZ.r33_3, hZ.r33_4, hZ.k34, hZ.r34_0, hZ.r34_1, hZ.r34_2]
        have hd : dep S < x := by
          rcases Decidable.em (dep S < x) with q | q
          · exact q
          · refine absurd ?_ hok
            have n1 : ¬ S 0 1 = 0 := by
              intro z
              have := (h2.2.2 z).2.1
              rw [ti_lt] at q hx1
              rw [l32_1] at hx1
              have e0 : dep S = 0 := by
                unfold dep laN
                rw [this]
                rfl
              rw [e0, l32_0] at q
              omega
            unfold drawOK
            rw [decide_eq_false n1, decide_eq_true h12]
            rw [ti_lt] at q hx1
            rw [l32_1] at hx1
            exact inB_iff.mpr (by omega)
        exact Eq.trans (if_neg (fun q => q hd)) b54_20
    · rw [decide_eq_false h12]
      exact Eq.trans (if_pos (by decide)) b54_20
theorem f_draw (hZ : Shp Z) (hw : Wf0 S) (h2 : Wf2 S) (h5 : Wf5 S) {x : Int32} : ∃ I', Out I I' ∧ call 102 [.ref 32, .int x] (embB 33 I S, G, Z) = if drawOK S x = true then some (some (.int (dep (drawS S x))), (embB 33 I' (drawS S x), G, Z)) else some (some (.int (-1)), (embB 33 I S, G, Z)) := by
  obtain ⟨I', hO, h⟩ := t_draw (I := I) (G := G) hZ hw h2 h5 (x := x)
  refine ⟨I', hO, ?_⟩
  refine Eq.trans e102 (Eq.trans (b102_0 hZ.k32 hZ.kr32_0 (by rw [hZ.r32_0, hZ.r33_0]; exact hZ.k34)) ?_)
  rw [hZ.r32_0, hZ.r33_0, h]
  by_cases hok : drawOK S x = true
  · rw [if_pos hok]
    exact b102_11
  · rw [if_neg hok]
    exact b102_11
end CD
