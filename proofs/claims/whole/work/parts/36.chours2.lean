/-! THE CLASS'S HOURS, its loop; the face's hours and air -/
theorem warm_c {S : aS} {c : Nat} (h : c ≠ 11) : warmS S c = S c := by
  unfold warmS topS
  split
  · funext i; rw [up2_a h, mixS_c _ c h]
  · exact mixS_c _ c h
theorem work_c {S : aS} {c : Nat} (h : c ≠ 0) (h1 : c ≠ 11) : workS S c = S c := by
  unfold workS
  funext i
  rw [up2_a h, warm_c h1]
theorem work_s {S : aS} {j : Nat} (h : j ≠ 9) : workS S 0 j = S 0 j := by
  unfold workS
  rw [up2_k h, warm_c (by decide)]
theorem warm_la {S : aS} : laN (warmS S) = laN S := by unfold laN; rw [warm_c (by decide)]
theorem warm_wf0 {S : aS} (h : Wf0 S) : Wf0 (warmS S) := by
  unfold Wf0 riN laN at h ⊢
  rw [warm_c (by decide)]
  exact h
theorem work_wf0 {S : aS} (h : Wf0 S) : Wf0 (workS S) := by
  unfold Wf0 riN laN at h ⊢
  rw [work_s (by decide), work_s (by decide)]
  exact h
theorem work_wf1 {S : aS} (h : Wf1 S) : Wf1 (workS S) := by
  unfold Wf1 riN at h ⊢
  rw [work_s (by decide), work_s (by decide), work_s (by decide), work_c (c := 1) (by decide) (by decide), work_c (c := 3) (by decide) (by decide), work_c (c := 4) (by decide) (by decide), work_c (c := 6) (by decide) (by decide), work_c (c := 7) (by decide) (by decide), work_c (c := 8) (by decide) (by decide)]
  exact h
theorem work_9 {S : aS} (hw : Wf0 S) (h : Wf2 S) : 0 ≤ (workS S 0 9).toInt ∧ (workS S 0 9).toInt ≤ 9999 := by
  have h30 := hw.2.2
  have e9 : warmS S 0 9 = S 0 9 := by rw [warm_c (by decide)]
  have gb := gasF_b (S := warmS S) (by rw [e9]; exact h.1) (laN S - 1) (by omega)
  rw [e9] at gb
  have := h.1
  unfold workS
  rw [up2_s]
  exact vent_b (by omega) (by omega) h.2.1.1 h.2.1.2
theorem hour_wf1 {S : aS} (h : Wf1 S) : Wf1 (hourS S) := by
  unfold hourS
  split
  · exact h
  · split
    · exact wf1_settle (work_wf1 (show Wf1 (up2 S 0 0 (S 0 0 + 1)) from h))
    · exact h
theorem hour_wf2 {S : aS} (hw : Wf0 S) (h : Wf2 S) : Wf2 (hourS S) := by
  unfold hourS
  by_cases h1 : S 0 1 = 0
  · rw [if_pos h1]; exact h
  · rw [if_neg h1]
    by_cases h2 : S 0 12 = -1
    · rw [if_pos h2]
      unfold Wf2
      rw [settle_s (j := 9) (by decide) (by decide) (by decide), settle_s (j := 5) (by decide) (by decide) (by decide), settle_s (j := 1) (by decide) (by decide) (by decide), work_s (j := 5) (by decide), work_s (j := 1) (by decide)]
      exact ⟨work_9 (show Wf0 (up2 S 0 0 (S 0 0 + 1)) from hw) (show Wf2 (up2 S 0 0 (S 0 0 + 1)) from h), h.2.1, fun q => absurd q h1⟩
    · rw [if_neg h2]; exact h
theorem hours_wf12 {S : aS} (hw : Wf0 S) (h1 : Wf1 S) (h2 : Wf2 S) : ∀ n, Wf1 (hoursS n S) ∧ Wf2 (hoursS n S) := by
  intro n
  induction n with
  | zero => exact ⟨h1, h2⟩
  | succ n ih => exact ⟨hour_wf1 ih.1, hour_wf2 (hoursS_wf hw n) ih.2⟩
/-- without a tank an hour's work is nothing -/
theorem idle {S : aS} (hw : Wf0 S) (h2 : Wf2 S) (h : S 0 1 = 0) : settle (workS S) = S := by
  obtain ⟨h7, h8, h9, h5, h12⟩ := h2.2.2 h
  have r0 : riN S = 0 := by unfold riN; rw [h7]; rfl
  have l0 : laN S = 0 := by unfold laN; rw [h8]; rfl
  have ew : warmS S = S := by
    unfold warmS
    rw [l0]
    show topS S = S
    unfold topS
    rw [h8]
    exact if_neg (by decide)
  have e : workS S = S := by
    unfold workS
    rw [ew, l0]
    show up2 S 0 9 (ventS (S 0 9) (S 0 5)) = S
    rw [h9, h5, show ventS 0 0 = S 0 9 by rw [h9]; rfl]
    exact up2_id
  rw [e]
  have es : stdS S = S := by
    unfold stdS
    rw [r0, if_pos h12]
    rfl
  unfold settle
  rw [es, r0, if_pos h12]
  rfl
section CH2
variable {I : aI} {G : aL} {Z : aZ} {S : aS}
theorem t_hour1 (hZ : Shp Z) (hw : Wf0 S) (h1 : Wf1 S) (h2 : Wf2 S) {x y : Int32} : run 6 56 20 [.ref 34, .int x, .int y] [] (embB 33 I S, G, Z) = run 6 56 15 [.ref 34, .int x, .int (y + 1)] [] (embB 33 I (hourS S), G, Z) := by
  have hw' : Wf0 (up2 S 0 0 (S 0 0 + 1)) := hw
  have h1' : Wf1 (up2 S 0 0 (S 0 0 + 1)) := h1
  have h2' : Wf2 (up2 S 0 0 (S 0 0 + 1)) := h2
  refine Eq.trans (b56_20 hZ.k34) ?_
  simp only [mI_t, mL_t, wI_t, wL_t, ct3, ct4, ct5, ct6, ct7, ct8, ct9, ct10, ct11, ct13, ct15, ct16, ct17, ct18, ct12, ct14, cs5, cs6, cs7, cs8, cw3, ca46, ca47, ca48, ca52, ca53, ca54, ca55, ca56, wh3, wh4, wh5, wh6, wh7, wh8, wh9, wh10, wh15, wh16, wh17, wh18, wa46, wa47, wa48, wa52, wa53, wa54, wa55, wa56, hZ.k33, hZ.r33_0, hZ.r33_1, hZ.r33_2, hZ.r33_3, hZ.r33_4, hZ.k34, hZ.r34_0, hZ.r34_1, hZ.r34_2]
  rw [t_hasBurst hZ]
  refine Eq.trans b56_34 ?_
  by_cases hn : S 0 12 = -1
  · have hn' : up2 S 0 0 (S 0 0 + 1) 0 12 = -1 := hn
    rw [decide_eq_true hn']
    refine Eq.trans (if_neg (by decide)) (Eq.trans (b56_37 hZ.k34) ?_)
    rw [t_mix hZ hw']
    refine Eq.trans (b56_41 hZ.k34) ?_
    have e9 : warmS (up2 S 0 0 (S 0 0 + 1)) 0 9 = S 0 9 := by rw [warm_c (by decide)]; rfl
    have e5 : warmS (up2 S 0 0 (S 0 0 + 1)) 0 5 = S 0 5 := by rw [warm_c (by decide)]; rfl
    rw [t_work hZ (warm_wf0 hw') (by rw [e9]; exact h2.1) (by rw [e5]; exact h2.2.1)]
    refine Eq.trans (b56_45 hZ.k34) ?_
    rw [warm_la, warm_c (c := 0) (by decide)]
    show (call 59 [.ref 34] (embB 33 I (workS (up2 S 0 0 (S 0 0 + 1))), G, Z)).bind _ = _
    rw [t_bear hZ (work_wf0 hw') (work_wf1 h1')]
    refine Eq.trans b56_49 ?_
    unfold hourS
    rw [if_pos hn]
    by_cases ht : S 0 1 = 0
    · rw [if_pos ht, idle hw' h2' ht]
    · rw [if_neg ht]
  · have hn' : ¬ up2 S 0 0 (S 0 0 + 1) 0 12 = -1 := hn
    rw [decide_eq_false hn']
    refine Eq.trans (if_pos (by decide)) (Eq.trans b56_49 ?_)
    unfold hourS
    rw [if_neg hn]
    split <;> rfl
theorem t_hours (hZ : Shp Z) (hw : Wf0 S) (h1 : Wf1 S) (h2 : Wf2 S) {k : Nat} (hk : k ≤ 500) : call 56 [.ref 34, .int (iN k)] (embB 33 I S, G, Z) = if 99999 < S 0 0 + iN k then some (some (.int (-1)), (embB 33 I S, G, Z)) else some (some (.int (hoursS k S 0 0)), (embB 33 I (hoursS k S), G, Z)) := by
  refine Eq.trans e56 (Eq.trans (b56_0 hZ.k34) ?_)
  simp only [mI_t, mL_t, ct3, ct4, ct5, ct6, ct7, ct8, ct9, ct10, ct11, ct13, ct15, ct16, ct17, ct18, ct12, ct14, cs5, cs6, cs7, cs8, cw3, ca46, ca47, ca48, ca52, ca53, ca54, ca55, ca56, hZ.k33, hZ.r33_0, hZ.r33_1, hZ.r33_2, hZ.r33_3, hZ.r33_4, hZ.k34, hZ.r34_0, hZ.r34_1, hZ.r34_2]
  by_cases h : 99999 < S 0 0 + iN k
  · rw [if_pos h]
    exact Eq.trans (if_neg (fun q => q h)) b56_11
  · rw [if_neg h]
    refine Eq.trans (if_pos h) (Eq.trans b56_13 ?_)
    have key := loop_up (fun i => run 6 56 15 [.ref 34, .int (iN k), .int (iN i)] [] (embB 33 I (hoursS i S), G, Z)) k (fun i hi' => by
      have hlt : iN i < iN k := (iN_lt (by omega) (by omega)).mpr hi'
      obtain ⟨w1, w2⟩ := hours_wf12 hw h1 h2 i
      refine Eq.trans b56_15 (Eq.trans (if_neg (fun q => q hlt)) (Eq.trans (t_hour1 hZ (hoursS_wf hw i) w1 w2) ?_))
      rw [iN_succ]
      rfl) 0 (by omega)
    refine Eq.trans key ?_
    refine Eq.trans b56_15 (Eq.trans (if_pos (iN_nlt (by omega))) (Eq.trans (b56_55 hZ.k34) ?_))
    simp only [mI_t, mL_t, ct3, ct4, ct5, ct6, ct7, ct8, ct9, ct10, ct11, ct13, ct15, ct16, ct17, ct18, ct12, ct14, cs5, cs6, cs7, cs8, cw3, ca46, ca47, ca48, ca52, ca53, ca54, ca55, ca56, hZ.k33, hZ.r33_0, hZ.r33_1, hZ.r33_2, hZ.r33_3, hZ.r33_4, hZ.k34, hZ.r34_0, hZ.r34_1, hZ.r34_2]
theorem f_hours (hZ : Shp Z) (hw : Wf0 S) (h1 : Wf1 S) (h2 : Wf2 S) {n : Int32} : call 104 [.ref 32, .int n] (embB 33 I S, G, Z) = if (inB n 0 500 && !decide (99999 < S 0 0 + n)) = true then some (some (.int (hoursS n.toNatClampNeg S 0 0)), (embB 33 I (hoursS n.toNatClampNeg S), G, Z)) else some (some (.int (-1)), (embB 33 I S, G, Z)) := by
  simp only [and_if, ndec_if]
  refine Eq.trans e104 (Eq.trans b104_0 ?_)
  rw [c_within]
  refine Eq.trans b104_8 ?_
  rw [l32_0, l32_500]
  by_cases h : inB n 0 500 = true
  · rw [if_pos h, h]
    have hi := inB_iff.mp h
    obtain ⟨k, hk, rfl⟩ := iN_of (x := n) (by rw [Int32.lt_iff_toInt_lt]; have : (0 : Int32).toInt = 0 := rfl; omega)
    have hk5 : k ≤ 500 := by rw [iN_int hk] at hi; omega
    refine Eq.trans (if_pos (by decide)) (Eq.trans (b104_13 hZ.k32 hZ.kr32_0 (by rw [hZ.r32_0, hZ.r33_0]; exact hZ.k34)) ?_)
    rw [hZ.r32_0, hZ.r33_0, t_hours hZ hw h1 h2 hk5, iN_clamp hk]
    by_cases hq : 99999 < S 0 0 + iN k
    · rw [if_pos hq]
      exact b104_24
    · rw [if_neg hq]
      exact b104_24
  · rw [if_neg h, show inB n 0 500 = false by simpa using h]
    exact Eq.trans (if_neg (by decide)) b104_11
theorem f_air (hZ : Shp Z) (hw : Wf0 S) (h1 : Wf1 S) {h : Int32} : call 103 [.ref 32, .int h] (embB 33 I S, G, Z) = if inB h (-50) 99 = true then some (some (.int (S 0 10)), (embB 33 I (airS S h), G, Z)) else some (some (.int (-1000)), (embB 33 I S, G, Z)) := by
  refine Eq.trans e103 (Eq.trans b103_0 ?_)
  rw [c_within]
  refine Eq.trans b103_8 ?_
  rw [l32_m50, l32_99]
  by_cases hi : inB h (-50) 99 = true
  · rw [if_pos hi, hi]
    refine Eq.trans (if_pos (by decide)) (Eq.trans (b103_15 hZ.k32 hZ.kr32_0 (by rw [hZ.r32_0, hZ.r33_0]; exact hZ.k34)) ?_)
    rw [hZ.r32_0, hZ.r33_0, t_air hZ hw h1]
    exact b103_26
  · rw [if_neg hi, show inB h (-50) 99 = false by simpa using hi]
    exact Eq.trans (if_neg (by decide)) b103_11
end CH2
