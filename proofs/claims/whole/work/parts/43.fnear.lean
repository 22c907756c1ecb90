/-! THE FACE'S span AND nearest -/
theorem plate_nn {S : aS} (h1 : Wf1 S) {k : Nat} (hr : k < riN S) {t : Int32} (ht : 0 ≤ t.toInt) (ht9 : t.toInt ≤ 99999) : 0 ≤ (plateS S k t).toInt := by
  obtain ⟨hti, hfi, hrs⟩ := h1
  obtain ⟨-, -, hst, hho, -⟩ := hrs k hr
  have pv := pl_val ht ht9 hst.1 hst.2 hho.1 hho.2
  have g : ∀ p : Int32, 0 ≤ p.toInt → 0 ≤ (less0 p (S 0 4) (S 0 11)).toInt := by
    intro p hp
    rw [less0_eq hti.1 hti.2 hfi.1 hfi.2 hp]
    split
    · rename_i q
      rw [ti_lt, l32_0] at q
      omega
    · rw [l32_0]; omega
  unfold plateS
  refine g _ ?_
  split
  · rw [div2 (by omega)]; omega
  · omega
theorem bears_nn {S : aS} (h1 : Wf1 S) {k : Nat} (hr : k < riN S) : 0 ≤ (bearsS S k).toInt := by
  have hb3 := (h1.2.2 k hr).2.1
  have hb7 := (h1.2.2 k hr).2.2.2.2.1
  unfold bearsS
  split
  · exact plate_nn h1 hr (by omega) (by omega)
  · omega
theorem lgc0 {x : Int32} : lg_cmp x.toInt64 0 = 0 ↔ x = 0 := by
  have a := lgc_lt (x := x.toInt64) (y := 0)
  have b := lgc_gt (x := x.toInt64) (y := 0)
  rw [ti_lt, l32_0, Int32.toInt_toInt64, l64_0] at a b
  rw [ti_eq, ti_eq, l32_0]
  omega
section FN
variable {I : aI} {G : aL} {Z : aZ} {S : aS}
theorem f_span (hZ : Shp Z) (hw : Wf0 S) (hf1 : Wf1 S) (hf3 : Wf3 S) {k w : Int32} : call 119 [.ref 32, .int k, .int w] (embB 33 I S, G, Z) = some (some (.int (if isRg S k = true then (if inB w 0 1 = true then (if w = 0 then S 9 k.toNatClampNeg else if S 0 12 = k then S 0 14 else -1) else -1000) else -1000)), (embB 33 I S, G, Z)) := by
  have hq : (mK (embB 33 I S, G, Z) (mR (embB 33 I S, G, Z) (mR (embB 33 I S, G, Z) 32 0) 0) = 6) := by rw [hZ.r32_0, hZ.r33_0]; exact hZ.k34
  refine Eq.trans e119 (Eq.trans b119_0 ?_)
  by_cases h0 : w = 0
  · refine Eq.trans (if_neg (fun q => q h0)) (Eq.trans (b119_4 hZ.k32 hZ.kr32_0 hq) ?_)
    rw [hZ.r32_0, hZ.r33_0, t_told hZ hw hf1 hf3]
    refine Eq.trans b119_16 ?_
    have e : toldS S k 4 = S 9 k.toNatClampNeg := rfl
    rw [e, h0]
    rfl
  · refine Eq.trans (if_pos h0) (Eq.trans b119_17 ?_)
    by_cases h1 : w = 1
    · refine Eq.trans (if_neg (fun q => q h1)) (Eq.trans (b119_22 hZ.k32 hZ.kr32_0 hq) ?_)
      rw [hZ.r32_0, hZ.r33_0, t_told hZ hw hf1 hf3]
      refine Eq.trans b119_34 (Eq.trans b119_40 ?_)
      have e : toldS S k 5 = if S 0 12 = k then S 0 14 else -1 := rfl
      rw [e, h1]
      rfl
    · refine Eq.trans (if_pos h1) (Eq.trans b119_37 (Eq.trans b119_40 ?_))
      have n : ¬ inB w 0 1 = true := by
        intro q
        have q := inB_iff.mp q
        have n0 := sw_ne (n := 0) (by decide) h0
        have n1 := sw_ne (n := 1) (by decide) h1
        omega
      rw [if_neg n]
      split <;> rfl
theorem t_near (hZ : Shp Z) (hw : Wf0 S) (hf1 : Wf1 S) {i j : Nat} (hi : i < 7) (hj : j < 7) (ri : i < riN S) (rj : j < riN S) : call 70 [.ref 34, .ref (38 + i), .ref (38 + j)] (embB 33 I S, G, Z) = some (some (.int (bI (nrS S i j))), (embB 33 I S, G, Z)) := by
  have nx := bears_nn hf1 ri
  have ny := bears_nn hf1 rj
  refine Eq.trans e70 (Eq.trans (b70_0 hZ.k34) ?_)
  rw [t_load hZ hi ri]
  refine Eq.trans (b70_5 hZ.k34) ?_
  rw [t_bears hZ hw hf1 hi ri]
  refine Eq.trans (b70_12 hZ.k34) ?_
  rw [t_load hZ hj rj]
  refine Eq.trans (b70_20 hZ.k34) ?_
  rw [t_bears hZ hw hf1 hj rj]
  refine Eq.trans b70_28 ?_
  unfold nrS nearM
  have at58 : ∀ b : Bool, (bearsS S i = 0 → b = true) → (¬ bearsS S i = 0 → bearsS S j = 0 → b = false) → (¬ bearsS S i = 0 → ¬ bearsS S j = 0 → b = decide (0 < lg_cmp ((loadS S i).toInt64 * (bearsS S j).toInt64) ((loadS S j).toInt64 * (bearsS S i).toInt64))) → run 4 70 58 [.ref 34, .ref (38 + i), .ref (38 + j), .long ((loadS S i).toInt64), xU, .long ((bearsS S i).toInt64), xU, .long ((loadS S j).toInt64), xU, .long ((bearsS S j).toInt64), xU] [] (embB 33 I S, G, Z) = some (some (.int (bI b)), (embB 33 I S, G, Z)) := by
    intro b p1 p2 p3
    refine Eq.trans b70_58 ?_
    by_cases hx : bearsS S i = 0
    · rw [p1 hx]
      refine Eq.trans (if_pos (lgc0.mpr hx)) (Eq.trans b70_72 ?_)
      exact Eq.trans (if_neg (fun q => q (lgc0.mpr hx))) (Eq.trans b70_79 (b70_84 rfl))
    · refine Eq.trans (if_neg (fun q => hx (lgc0.mp q))) (Eq.trans b70_65 ?_)
      by_cases hy : bearsS S j = 0
      · rw [p2 hx hy]
        refine Eq.trans (if_neg (fun q => q (lgc0.mpr hy))) (Eq.trans b70_72 ?_)
        exact Eq.trans (if_pos (fun q => hx (lgc0.mp q))) (Eq.trans b70_83 (b70_84 rfl))
      · rw [p3 hx hy]
        refine Eq.trans (if_pos (fun q => hy (lgc0.mp q))) (Eq.trans b70_85 ?_)
        by_cases hm : 0 < lg_cmp ((loadS S i).toInt64 * (bearsS S j).toInt64) ((loadS S j).toInt64 * (bearsS S i).toInt64)
        · rw [decide_eq_true hm]
          exact Eq.trans (if_neg (fun q => q hm)) (Eq.trans b70_98 (b70_103 rfl))
        · rw [decide_eq_false hm]
          exact Eq.trans (if_pos hm) (Eq.trans b70_102 (b70_103 rfl))
  by_cases hx : bearsS S i = 0
  · rw [if_pos (show bearsS S i = 0 ∨ bearsS S j = 0 from Or.inl hx), decide_eq_true hx]
    refine Eq.trans (if_neg (fun q => q (lgc0.mpr hx))) (Eq.trans b70_38 ?_)
    by_cases hy : bearsS S j = 0
    · have n0 : ¬ 0 < bearsS S j := by rw [hy]; decide
      rw [decide_eq_false n0]
      refine Eq.trans (if_neg (fun q => q (lgc0.mpr hy))) (Eq.trans b70_45 ?_)
      by_cases hm : loadS S j < loadS S i
      · rw [decide_eq_true hm]
        have hm' : 0 < lg_cmp (loadS S i).toInt64 (loadS S j).toInt64 := by rw [lgc_gt, Int32.toInt_toInt64, Int32.toInt_toInt64]; exact ti_lt.mp hm
        exact Eq.trans (if_neg (fun q => q hm')) (Eq.trans b70_52 (b70_57 rfl))
      · rw [decide_eq_false hm]
        have hm' : ¬ 0 < lg_cmp (loadS S i).toInt64 (loadS S j).toInt64 := by rw [lgc_gt, Int32.toInt_toInt64, Int32.toInt_toInt64]; exact fun q => hm (ti_lt.mpr q)
        exact Eq.trans (if_pos hm') (Eq.trans b70_56 (b70_57 rfl))
    · have p0 : 0 < bearsS S j := by
        rw [ti_eq, l32_0] at hy
        rw [ti_lt, l32_0]
        omega
      rw [decide_eq_true p0]
      refine Eq.trans (if_pos (fun q => hy (lgc0.mp q))) ?_
      exact at58 _ (fun _ => rfl) (fun q => absurd hx q) (fun q => absurd hx q)
  · refine Eq.trans (if_pos (fun q => hx (lgc0.mp q))) ?_
    refine at58 _ (fun q => absurd q hx) ?_ ?_
    · intro _ hy
      rw [if_pos (Or.inr hy), decide_eq_false hx]
      rfl
    · intro _ hy
      rw [if_neg (fun q => q.elim hx hy)]
theorem t_nearest (hZ : Shp Z) (hw : Wf0 S) (hf1 : Wf1 S) : call 69 [.ref 34] (embB 33 I S, G, Z) = some (some (.int (nearF (nrS S) (riN S))), (embB 33 I S, G, Z)) := by
  have h7 := hw.1.2
  refine Eq.trans e69 (Eq.trans b69_0 ?_)
  have key := loop_up (fun i => run 5 69 4 [.ref 34, .int (nearF (nrS S) i), .int (iN i)] [] (embB 33 I S, G, Z)) (riN S) (fun i hi => by
    have hlt : iN i < iN (riN S) := (iN_lt (by omega) (by omega)).mpr hi
    have hb : ib (iN i) 7 := ib_iN (by omega) (by omega)
    have hc : (iN i).toNatClampNeg = i := iN_clamp (by omega)
    have i7 : i < 7 := by omega
    refine Eq.trans (b69_4 hZ.k34) ?_
    simp only [mI_t, mL_t, ct3, ct4, ct5, ct6, ct7, ct8, ct9, ct10, ct11, ct13, ct15, ct16, ct17, ct18, ct12, ct14, cs5, cs6, cs7, cs8, cw3, ca46, ca47, ca48, ca52, ca53, ca54, ca55, ca56, hZ.k33, hZ.r33_0, hZ.r33_1, hZ.r33_2, hZ.r33_3, hZ.r33_4, hZ.k34, hZ.r34_0, hZ.r34_1, hZ.r34_2]
    rw [hw.1.1]
    refine Eq.trans (if_neg (fun q => q hlt)) (Eq.trans b69_12 ?_)
    rw [nearF]
    by_cases hn : nearF (nrS S) i = -1
    · rw [if_pos hn, if_pos hn]
      refine Eq.trans b69_36 (Eq.trans b69_38 ?_)
      rw [iN_succ]
    · rw [if_neg hn, if_neg hn]
      obtain ⟨j, hj, ej⟩ := (nearF_ex (nrS S) i).resolve_left hn
      have hcj : (iN j).toNatClampNeg = j := iN_clamp (by omega)
      have hbj : ib (iN j) 7 := ib_iN (by omega) (by omega)
      rw [ej, hcj]
      refine Eq.trans (b69_17 hZ.k34 hZ.kr34_0 (hZ.ir34_0 hb) (hZ.ir34_0 hbj)) ?_
      rw [hc, hcj, hZ.ring i7, hZ.ring (show j < 7 by omega), t_near hZ hw hf1 i7 (by omega) hi (by omega)]
      refine Eq.trans b69_33 ?_
      by_cases hq : nrS S i j = true
      · rw [if_pos hq, hq]
        refine Eq.trans (if_neg (by decide)) (Eq.trans b69_36 (Eq.trans b69_38 ?_))
        rw [iN_succ]
      · rw [if_neg hq, Bool.eq_false_iff.mpr hq]
        refine Eq.trans (if_pos (by decide)) (Eq.trans b69_38 ?_)
        rw [iN_succ]) 0 (by omega)
  refine Eq.trans key (Eq.trans (b69_4 hZ.k34) ?_)
  simp only [mI_t, mL_t, ct3, ct4, ct5, ct6, ct7, ct8, ct9, ct10, ct11, ct13, ct15, ct16, ct17, ct18, ct12, ct14, cs5, cs6, cs7, cs8, cw3, ca46, ca47, ca48, ca52, ca53, ca54, ca55, ca56, hZ.k33, hZ.r33_0, hZ.r33_1, hZ.r33_2, hZ.r33_3, hZ.r33_4, hZ.k34, hZ.r34_0, hZ.r34_1, hZ.r34_2]
  rw [hw.1.1]
  exact Eq.trans (if_pos (iN_nlt (by omega))) b69_44
theorem f_nearest (hZ : Shp Z) (hw : Wf0 S) (hf1 : Wf1 S) : call 108 [.ref 32] (embB 33 I S, G, Z) = some (some (.int (nearF (nrS S) (riN S))), (embB 33 I S, G, Z)) := by
  refine Eq.trans e108 (Eq.trans (b108_0 hZ.k32 hZ.kr32_0 (by rw [hZ.r32_0, hZ.r33_0]; exact hZ.k34)) ?_)
  rw [hZ.r32_0, hZ.r33_0, t_nearest hZ hw hf1]
  exact b108_10
end FN
