/-! settle, pour, air, hours, draw -/
section WNF
variable {n : Nat} {S : aS}
theorem stdF_d : ∀ d k, stdF d k S = S ∨ ∃ j, j < k + d ∧ stdF d k S = up2 (up2 (up2 S 0 12 (iN j)) 0 13 (S 0 0)) 0 14 (loadS S j) := by
  intro d
  induction d with
  | zero => exact fun k => Or.inl rfl
  | succ d ih =>
    intro k
    by_cases h : bearsS S k < loadS S k
    · exact Or.inr ⟨k, by omega, if_pos h⟩
    · rcases ih (k + 1) with q | ⟨j, hj, q⟩
      · exact Or.inl (Eq.trans (if_neg h) q)
      · exact Or.inr ⟨j, by omega, Eq.trans (if_neg h) q⟩
theorem Wn_std (h : Wn n S) : Wn n (stdS S) := by
  unfold stdS
  split
  · rename_i h12
    rcases stdF_d (S := S) (riN S) 0 with q | ⟨j, hj, q⟩
    · rw [q]; exact h
    · rw [q]
      obtain ⟨w0, w1, w2, w3, w4, w5, w6, w7, w8⟩ := h
      have h7 := w0.1.2
      have hc : (iN j).toNatClampNeg = j := iN_clamp (by omega)
      refine ⟨w0, w1, ⟨w2.1, w2.2.1, fun z => ?_⟩, fun _ => ?_, w4, w5, w6, w7, ⟨w8.1, w8.2.1, w8.2.2.1, w8.2.2.2.1, w8.2.2.2.2.1, w8.2.2.2.2.2.1, Or.inr ?_, w8.2.2.2.2.2.2.2⟩⟩
      · have := (w2.2.2 z).1
        have r0 : riN S = 0 := by unfold riN; rw [this]; rfl
        omega
      · show loadS S j = loadS S (iN j).toNatClampNeg
        rw [hc]
      · show (iN j).toNatClampNeg < 7
        omega
  · exact h
theorem Wn_settle (h : Wn n S) : Wn n (settle S) := by
  unfold settle
  split
  · exact Wn_c (Wn_std h) (Nat.le_refl _) (fun c hc => sdF_0 _ c (by omega)) (sdF_0 _ 10 (by decide)) (sdF_0 _ 11 (by decide))
  · exact Wn_std h
theorem Wn_air {x : Int32} (h : Wn n S) (hx : inB x (-50) 99 = true) : Wn (n + 1) (airS S x) := by
  refine Wn_n (n := n) (Wn_std ?_) (by omega)
  obtain ⟨w0, w1, w2, w3, w4, w5, w6, w7, w8⟩ := h
  exact ⟨w0, w1, w2, w3, w4, w5, w6, w7, ⟨w8.1, inB_iff.mp hx, w8.2.2.1, w8.2.2.2.1, w8.2.2.2.2.1, w8.2.2.2.2.2.1, w8.2.2.2.2.2.2.1, w8.2.2.2.2.2.2.2⟩⟩
theorem Wn_now {x : Int32} (h : Wn n S) (h0 : 0 ≤ x.toInt) (h9 : x.toInt ≤ 99999) : Wn n (up2 S 0 0 x) := by
  obtain ⟨w0, w1, w2, w3, w4, w5, w6, w7, w8⟩ := h
  exact ⟨w0, w1, w2, w3, w4, w5, w6, w7, ⟨⟨h0, h9⟩, w8.2.1, w8.2.2.1, w8.2.2.2.1, w8.2.2.2.2.1, w8.2.2.2.2.2.1, w8.2.2.2.2.2.2.1, w8.2.2.2.2.2.2.2⟩⟩
theorem Wn_dep (h : Wn n S) : 0 ≤ (dep S).toInt ∧ (dep S).toInt ≤ 140 ∧ 0 ≤ (low S (riN S)).toInt ∧ (low S (riN S)).toInt ≤ 140 := by
  obtain ⟨w0, w1, w2, w3, w4, w5, w6, w7, w8⟩ := h
  have h7 := w0.1.2
  have a := lay_sum (f := S 10) w0.2.2 w5 (laN S) (Nat.le_refl _)
  have b := low_b w0 w1 (riN S) (Nat.le_refl _)
  have c := w8.2.2.2.1
  have a1 : (laN S : Int) ≤ (dep S).toInt := a.1
  omega
theorem Wn_pour {x y : Int32} (h : Wn n S) (hn : n < 600) (hx : pourOK S x y = true) : Wn (n + 1) (settle (pour0 S x y)) := by
  refine Wn_settle ?_
  have hd := Wn_dep h
  obtain ⟨w0, w1, w2, w3, w4, w5, w6, w7, w8⟩ := h
  obtain ⟨g1, ⟨g2, g3, g4⟩, g5, g6⟩ := pourOK_iff.mp hx
  rw [inB_iff] at g5 g6
  have h30 := w0.2.2
  have hl : laN S < 30 := by
    rcases Nat.lt_or_ge (laN S) 30 with q | q
    · exact q
    · exact absurd (by rw [w0.2.1, show laN S = 30 by omega]; rfl) g3
  have l := pour0_la (S := S) (x := x) (h := y) w0
  have d := pour0_dep (S := S) (x := x) (h := y) w0
  have f8 := w8.2.2.1
  have f1 := w1.2.1
  have e11 : pour0 S x y 0 11 = S 0 11 + 1 := rfl
  have t11 : (S 0 11 + 1).toInt = (S 0 11).toInt + 1 := ti_add (by rw [l32_1]; omega) (by rw [l32_1]; omega)
  refine ⟨pour0_wf w0 hl, pour0_wf1 w1 (by omega), ⟨w2.1, w2.2.1, fun q => absurd q g1⟩, fun q => absurd g2 q, w4, fun i hi => ?_, w6, w7, ⟨w8.1, w8.2.1, ?_, ?_, w8.2.2.2.2.1, fun i hi => ?_, Or.inl g2, w8.2.2.2.2.2.2.2⟩⟩
  · rw [l] at hi
    rw [pour0_10]
    by_cases q : i = laN S
    · rw [if_pos q]; exact g5
    · rw [if_neg q]; exact w5 i (by omega)
  · rw [e11, t11]
    omega
  · rw [d]
    show (dep S + x).toInt ≤ (low S (riN S)).toInt
    rw [ti_lt] at g4
    omega
  · rw [l] at hi
    rw [pour0_11]
    by_cases q : i = laN S
    · rw [if_pos q]; exact g6
    · rw [if_neg q]; exact w8.2.2.2.2.2.1 i (by omega)
theorem part_b {x a : Int32} {k : Int} (hk : a.toInt = k) (h8 : k = 8 ∨ k = 16) (h1 : -1000 ≤ x.toInt) (h2 : x.toInt ≤ 1000) : (0 ≤ x.toInt → 0 ≤ (x / a).toInt ∧ (x / a).toInt ≤ x.toInt) ∧ (x.toInt ≤ 0 → x.toInt ≤ (x / a).toInt ∧ (x / a).toInt ≤ 0) := by
  have e : (x / a).toInt = x.toInt.tdiv k := by
    rw [Int32.toInt_div_of_ne_right _ _ (fun z => by rw [z] at hk; have : (-1 : Int32).toInt = -1 := rfl; omega), hk]
  rw [e]
  have h0 : (0 : Int) ≤ k := by omega
  constructor
  · intro h
    rw [Int.tdiv_eq_ediv_of_nonneg h]
    rcases h8 with q | q <;> rw [q] <;> omega
  · intro h
    have : x.toInt = -(-x.toInt) := by omega
    rw [this, Int.neg_tdiv, Int.tdiv_eq_ediv_of_nonneg (show 0 ≤ -x.toInt by omega)]
    rcases h8 with q | q <;> rw [q] <;> omega
/-- a and b drawn together stay between the bounds -/
theorem mix_b {a b c : Int32} {k : Int} (hk : c.toInt = k) (h8 : k = 8 ∨ k = 16) (ha : -50 ≤ a.toInt ∧ a.toInt ≤ 199) (hb : -50 ≤ b.toInt ∧ b.toInt ≤ 199) : (-50 ≤ (b - (b - a) / c).toInt ∧ (b - (b - a) / c).toInt ≤ 199) ∧ -50 ≤ (a + (b - a) / c).toInt ∧ (a + (b - a) / c).toInt ≤ 199 := by
  have e : (b - a).toInt = b.toInt - a.toInt := ti_sub (by omega) (by omega)
  have p := part_b (x := b - a) hk h8 (by omega) (by omega)
  rw [e] at p
  have q : (0 ≤ b.toInt - a.toInt ∧ 0 ≤ ((b - a) / c).toInt ∧ ((b - a) / c).toInt ≤ b.toInt - a.toInt) ∨ (b.toInt - a.toInt ≤ 0 ∧ b.toInt - a.toInt ≤ ((b - a) / c).toInt ∧ ((b - a) / c).toInt ≤ 0) := by
    rcases Int.le_total 0 (b.toInt - a.toInt) with z | z
    · exact Or.inl ⟨z, p.1 z⟩
    · exact Or.inr ⟨z, p.2 z⟩
  rw [ti_sub (by omega) (by omega), ti_add (by omega) (by omega)]
  omega
theorem mixS_b {m : Nat} (h : ∀ i, i < m → -50 ≤ (S 11 i).toInt ∧ (S 11 i).toInt ≤ 199) : ∀ i, i + 1 ≤ m ∨ i = 0 → ∀ j, j < m → -50 ≤ (mixS i S 11 j).toInt ∧ (mixS i S 11 j).toInt ≤ 199 := by
  intro i
  induction i with
  | zero => exact fun _ j hj => h j hj
  | succ i ih =>
    intro hi j hj
    have a := ih (by omega) i (by omega)
    have b := ih (by omega) (i + 1) (by omega)
    have p := mix_b (c := 8) (k := 8) rfl (Or.inl rfl) a b
    show -50 ≤ (up2 (up2 (mixS i S) 11 (i + 1) _) 11 i _ 11 j).toInt ∧ (up2 (up2 (mixS i S) 11 (i + 1) _) 11 i _ 11 j).toInt ≤ 199
    by_cases h1 : j = i
    · rw [h1, up2_s]; exact p.2
    · rw [up2_k h1]
      by_cases h2 : j = i + 1
      · rw [h2, up2_s]; exact p.1
      · rw [up2_k h2]; exact ih (by omega) j hj
theorem warm_b (h : Wn n S) : ∀ j, j < laN S → -50 ≤ (warmS S 11 j).toInt ∧ (warmS S 11 j).toInt ≤ 199 := by
  intro j hj
  have w8 := h.2.2.2.2.2.2.2.2
  have hm := mixS_b w8.2.2.2.2.2.1 (laN S - 1) (by omega)
  have la : laN (mixS (laN S - 1) S) = laN S := by unfold laN; rw [mixS_c _ 0 (by decide)]
  have ai : mixS (laN S - 1) S 0 10 = S 0 10 := by rw [mixS_c _ 0 (by decide)]
  unfold warmS topS
  split
  · rw [la, ai]
    by_cases q : j = laN S - 1
    · rw [q, up2_s]
      have p := mix_b (a := mixS (laN S - 1) S 11 (laN S - 1)) (b := S 0 10) (c := 16) (k := 16) rfl (Or.inr rfl) (hm _ (by omega)) (by have := w8.2.1; omega)
      exact p.2
    · rw [up2_k q]; exact hm j hj
  · exact hm j hj
theorem Wn_work (h : Wn n S) (h1 : ¬ S 0 1 = 0) (h12 : S 0 12 = -1) : Wn n (workS S) := by
  have hb := warm_b h
  obtain ⟨w0, w1, w2, w3, w4, w5, w6, w7, w8⟩ := h
  have r : riN (workS S) = riN S := by unfold riN; rw [work_s (by decide)]
  have l : laN (workS S) = laN S := by unfold laN; rw [work_s (by decide)]
  have c1 : workS S 1 = S 1 := work_c (by decide) (by decide)
  have c2 : workS S 2 = S 2 := work_c (by decide) (by decide)
  have c10 : workS S 10 = S 10 := work_c (by decide) (by decide)
  have d : dep (workS S) = dep S := by unfold dep; rw [l, c10]
  have lo : low (workS S) (riN S) = low S (riN S) := by unfold low; rw [c1]
  refine ⟨work_wf0 w0, work_wf1 w1, ⟨work_9 w0 w2, ?_, fun q => ?_⟩, fun q => ?_, ?_, ?_, ?_, ?_, ?_⟩
  · rw [work_s (by decide)]; exact w2.2.1
  · rw [work_s (by decide)] at q; exact absurd q h1
  · rw [work_s (by decide)] at q; exact absurd h12 q
  · unfold Wf4
    rw [r, work_s (by decide), work_s (by decide)]
    exact w4
  · unfold Wf5
    rw [l, c10]
    exact w5
  · unfold Wf6
    rw [work_s (by decide)]
    exact w6
  · unfold Wf7
    rw [work_s (by decide), work_s (by decide)]
    exact w7
  · unfold Wf8
    rw [r, l, d, lo, c2, work_s (j := 0) (by decide), work_s (j := 10) (by decide), work_s (j := 11) (by decide), work_s (j := 12) (by decide), work_s (j := 1) (by decide), work_s (j := 2) (by decide), work_s (j := 3) (by decide)]
    refine ⟨w8.1, w8.2.1, w8.2.2.1, w8.2.2.2.1, w8.2.2.2.2.1, fun i hi => ?_, w8.2.2.2.2.2.2.1, w8.2.2.2.2.2.2.2⟩
    have : workS S 11 i = warmS S 11 i := up2_a (by decide)
    rw [this]
    exact hb i hi
theorem hour_0 : hourS S 0 0 = S 0 0 + 1 := by
  unfold hourS
  split
  · rfl
  · split
    · rw [settle_s (by decide) (by decide) (by decide), work_s (by decide)]
      rfl
    · rfl
theorem Wn_hour (h : Wn n S) (h9 : (S 0 0).toInt < 99999) : Wn n (hourS S) ∧ (hourS S 0 0).toInt = (S 0 0).toInt + 1 := by
  have w8 := h.2.2.2.2.2.2.2.2.1
  have e : (S 0 0 + 1).toInt = (S 0 0).toInt + 1 := ti_add (by rw [l32_1]; omega) (by rw [l32_1]; omega)
  have hw : Wn n (up2 S 0 0 (S 0 0 + 1)) := Wn_now h (by omega) (by omega)
  refine ⟨?_, by rw [hour_0, e]⟩
  unfold hourS
  by_cases h1 : S 0 1 = 0
  · rw [if_pos h1]; exact hw
  · rw [if_neg h1]
    by_cases h12 : S 0 12 = -1
    · rw [if_pos h12]
      exact Wn_settle (Wn_work hw h1 h12)
    · rw [if_neg h12]; exact hw
theorem Wn_hours (h : Wn n S) : ∀ m : Nat, (S 0 0).toInt + m ≤ 99999 → Wn n (hoursS m S) ∧ (hoursS m S 0 0).toInt = (S 0 0).toInt + m := by
  intro m
  induction m with
  | zero => exact fun _ => ⟨h, by show (S 0 0).toInt = (S 0 0).toInt + ((0 : Nat) : Int); omega⟩
  | succ m ih =>
    intro hm
    obtain ⟨a, b⟩ := ih (by omega)
    obtain ⟨c, d⟩ := Wn_hour a (by omega)
    exact ⟨c, by show (hourS (hoursS m S) 0 0).toInt = _; rw [d, b]; omega⟩
theorem drw_b {P : Int32 → Prop} : ∀ m r (T : aS), (∀ i, i < m → P (T 11 i)) → T 0 8 = iN m → m ≤ 30 → ∀ i, i < laN (drwF m r T) → P (drwF m r T 11 i) := by
  intro m
  induction m with
  | zero =>
    intro r T h h8 _ i hi
    have : laN T = 0 := by unfold laN; rw [h8]; rfl
    exact absurd (show i < laN T from hi) (by omega)
  | succ m ih =>
    intro r T h h8 hm
    have la : laN T = m + 1 := by unfold laN; rw [h8, iN_clamp (by omega)]
    show ∀ i, i < laN (if 0 < r then (if r < T 10 0 then up2 T 10 0 (T 10 0 - r) else drwF m (r - T 10 0) (dropS m T)) else T) → P ((if 0 < r then (if r < T 10 0 then up2 T 10 0 (T 10 0 - r) else drwF m (r - T 10 0) (dropS m T)) else T) 11 i)
    by_cases h1 : 0 < r
    · rw [if_pos h1]
      by_cases h2 : r < T 10 0
      · rw [if_pos h2]
        intro i hi
        exact h i (by have : i < laN T := hi; omega)
      · rw [if_neg h2]
        exact ih _ _ (fun i hi => by rw [(drop_v hi).2]; exact h _ (by omega)) drop_8 (by omega)
    · rw [if_neg h1]
      intro i hi
      exact h i (by omega)
theorem Wn_draw {x : Int32} (h : Wn n S) (hx : drawOK S x = true) : Wn (n + 1) (drawS S x) := by
  have hd := Wn_dep h
  obtain ⟨w0, w1, w2, w3, w4, w5, w6, w7, w8⟩ := h
  obtain ⟨m, hm, hL, hl, hdp⟩ := draw_f w0 w5 hx
  have h30 := w0.2.2
  unfold drawOK at hx
  rw [Bool.and_eq_true, Bool.and_eq_true, inB_iff] at hx
  obtain ⟨g1, g2, g3, g4⟩ := hx
  have g1' : ¬ S 0 1 = 0 := fun z => by rw [decide_eq_true z] at g1; cases g1
  have g2' : S 0 12 = -1 := of_decide_eq_true g2
  have c : ∀ c, c ≠ 0 → c ≠ 10 → c ≠ 11 → drawS S x c = S c := fun c a1 a2 a3 => drw_c a1 a2 a3 _ _ _
  have s : ∀ j, j ≠ 8 → drawS S x 0 j = S 0 j := fun j a => drw_s a _ _ _
  have r : riN (drawS S x) = riN S := by unfold riN; rw [s 7 (by decide)]
  have lo : low (drawS S x) (riN S) = low S (riN S) := by unfold low; rw [c 1 (by decide) (by decide) (by decide)]
  have hb := drw_b (P := fun v => -50 ≤ v.toInt ∧ v.toInt ≤ 199) (laN S) x S w8.2.2.2.2.2.1 w0.2.1 h30
  refine ⟨⟨⟨by rw [r, s 7 (by decide)]; exact w0.1.1, by rw [r]; exact w0.1.2⟩, by rw [hl]; exact hL.1, by omega⟩, ?_, ⟨?_, ?_, fun q => ?_⟩, fun q => ?_, ?_, fun i hi => hL.2 i (by omega), ?_, ?_, ?_⟩
  · unfold Wf1
    rw [r, s 4 (by decide), s 11 (by decide), c 1 (by decide) (by decide) (by decide), c 3 (by decide) (by decide) (by decide), c 4 (by decide) (by decide) (by decide), c 6 (by decide) (by decide) (by decide), c 7 (by decide) (by decide) (by decide), c 8 (by decide) (by decide) (by decide)]
    exact w1
  · rw [s 9 (by decide)]; exact w2.1
  · rw [s 5 (by decide)]; exact w2.2.1
  · rw [s 1 (by decide)] at q; exact absurd q g1'
  · rw [s 12 (by decide)] at q; exact absurd g2' q
  · unfold Wf4
    rw [r, s 2 (by decide), s 3 (by decide)]
    exact w4
  · unfold Wf6
    rw [s 19 (by decide)]
    exact w6
  · unfold Wf7
    rw [s 1 (by decide), s 15 (by decide)]
    exact w7
  · unfold Wf8
    rw [r, lo, hdp, c 2 (by decide) (by decide) (by decide), s 0 (by decide), s 10 (by decide), s 11 (by decide), s 12 (by decide), s 1 (by decide), s 2 (by decide), s 3 (by decide)]
    refine ⟨w8.1, w8.2.1, by have := w8.2.2.1; omega, ?_, w8.2.2.2.2.1, hb, w8.2.2.2.2.2.2.1, w8.2.2.2.2.2.2.2⟩
    have := w8.2.2.2.1
    rw [ti_sub (by omega) (by omega)]
    omega
/-! what the questions need -/
theorem Wn_Bu (h : Wn n S) : Bu S := by
  intro k hk
  have a := (h.2.1.2.2 k hk).2.1
  exact ⟨(S 3 k).toInt.toNat, by omega, by rw [ti_eq, iN_int (by omega)]; omega⟩
theorem Wn_low (h : Wn n S) : ∃ m : Nat, m ≤ 140 ∧ low S (riN S) = iN m := by
  have hd := Wn_dep h
  exact ⟨(low S (riN S)).toInt.toNat, by omega, by rw [ti_eq, iN_int (by omega)]; omega⟩
theorem ldB_b {x w q r : Int32} (hx : x.toInt ≤ 140) (hw : 0 ≤ w.toInt) (hw9 : w.toInt ≤ 99) (hq : 0 ≤ q.toInt) (hq9 : q.toInt ≤ 9999) (hr : 0 ≤ r.toInt) (hr9 : r.toInt ≤ 99) : 0 ≤ (ldB x w q r).toInt ∧ (ldB x w q r).toInt ≤ 10000000 := by
  unfold ldB
  have e : 0 ≤ (if x < 0 then 0 else x).toInt ∧ (if x < 0 then 0 else x).toInt ≤ 140 := by
    by_cases h : x < 0
    · rw [if_pos h, l32_0]; omega
    · rw [if_neg h]
      rw [ti_lt, l32_0] at h
      omega
  have a := mul_b e.1 hw e.2 hw9
  have e1 := ti_mul (x := (if x < 0 then 0 else x)) (y := w) (by omega) (by omega)
  have e2 := ti_add (x := (if x < 0 then 0 else x) * w) (y := q) (by omega) (by omega)
  have b := mul_b (a := ((if x < 0 then 0 else x) * w + q).toInt) (b := r.toInt) (A := 140 * 99 + 9999) (B := 99) (by omega) hr (by omega) hr9
  rw [ti_mul (by omega) (by omega)]
  omega
theorem stl_b {f h : Nat → Int32} {edge air : Int32} {m : Nat} (ha : -50 ≤ air.toInt ∧ air.toInt ≤ 99) (hh : ∀ i, i < m → -50 ≤ (h i).toInt ∧ (h i).toInt ≤ 199) : ∀ d i, i + d ≤ m → -1000 ≤ (stl f h edge air d i).toInt ∧ (stl f h edge air d i).toInt ≤ 1000 := by
  intro d
  induction d with
  | zero => exact fun i _ => ⟨by show -1000 ≤ air.toInt; omega, by show air.toInt ≤ 1000; omega⟩
  | succ d ih =>
    intro i hi
    show -1000 ≤ (if edge < sumI f (i + 1) then (h i + air) / 2 else stl f h edge air d (i + 1)).toInt ∧ (if edge < sumI f (i + 1) then (h i + air) / 2 else stl f h edge air d (i + 1)).toInt ≤ 1000
    by_cases q : edge < sumI f (i + 1)
    · rw [if_pos q]
      have hb := hh i (by omega)
      have e : (h i + air).toInt = (h i).toInt + air.toInt := ti_add (by omega) (by omega)
      have e2 : ((h i + air) / 2).toInt = ((h i).toInt + air.toInt).tdiv 2 := by
        rw [Int32.toInt_div_of_ne_right _ _ (by decide), e]
        rfl
      rw [e2]
      rcases Int.le_total 0 ((h i).toInt + air.toInt) with z | z
      · rw [Int.tdiv_eq_ediv_of_nonneg z]; omega
      · rw [show (h i).toInt + air.toInt = -(-((h i).toInt + air.toInt)) by omega, Int.neg_tdiv, Int.tdiv_eq_ediv_of_nonneg (by omega)]; omega
    · rw [if_neg q]
      exact ih (i + 1) (by omega)
theorem less0_b {v t f : Int32} (hv : 0 ≤ v.toInt) (ht : 0 ≤ t.toInt) (ht9 : t.toInt ≤ 999) (hf : 0 ≤ f.toInt) (hf9 : f.toInt ≤ 100000) : 0 ≤ (less0 v t f).toInt := by
  rw [less0_eq ht ht9 hf hf9 hv]
  split
  · rename_i h
    rw [ti_lt, l32_0] at h
    omega
  · rw [l32_0]; omega
end WNF
