/-! BOUNDS and truths, as both sides ask them -/
def bI (b : Bool) : Int32 := if b = true then 1 else 0
theorem bI_t : bI true = 1 := rfl
theorem bI_f : bI false = 0 := rfl
theorem rt_b {b : Bool} : rtI (some .boolean) (bI b) = true := by cases b <;> rfl
theorem bI_0 {α : Type} {b : Bool} {X Y : α} : (if bI b = 0 then X else Y) = if b = true then Y else X := by cases b <;> rfl
theorem bI_n {α : Type} {b : Bool} {X Y : α} : (if ¬ bI b = 0 then X else Y) = if b = true then X else Y := by cases b <;> rfl
theorem and_if {α : Type} {a b : Bool} {X Y : α} : (if (a && b) = true then X else Y) = if a = true then (if b = true then X else Y) else Y := by cases a <;> cases b <;> rfl
def inB (x : Int32) (a b : Int) : Bool := decide (a ≤ x.toInt) && decide (x.toInt ≤ b)
theorem inB_iff {x : Int32} {a b : Int} : inB x a b = true ↔ a ≤ x.toInt ∧ x.toInt ≤ b := by simp [inB]
theorem lgc_lt {x y : Int64} : lg_cmp x y < 0 ↔ x.toInt < y.toInt := by
  unfold lg_cmp
  by_cases h : x > y
  · rw [if_pos h]
    have := Int64.lt_iff_toInt_lt.mp h
    constructor
    · intro q; exact absurd q (by decide)
    · intro q; omega
  · rw [if_neg h]
    have h1 : x.toInt ≤ y.toInt := by
      have := Int64.not_lt.mp h
      exact Int64.le_iff_toInt_le.mp this
    by_cases h2 : x = y
    · rw [if_pos h2]
      subst h2
      constructor
      · intro q; exact absurd q (by decide)
      · intro q; omega
    · rw [if_neg h2]
      constructor
      · intro _
        rcases Int.lt_or_eq_of_le h1 with q | q
        · exact q
        · exact absurd (Int64.toInt_inj.mp q) h2
      · intro _; decide
theorem lgc_gt {x y : Int64} : 0 < lg_cmp x y ↔ y.toInt < x.toInt := by
  unfold lg_cmp
  by_cases h : x > y
  · rw [if_pos h]
    exact ⟨fun _ => Int64.lt_iff_toInt_lt.mp h, fun _ => by decide⟩
  · rw [if_neg h]
    have h1 : ¬ y.toInt < x.toInt := fun q => h (Int64.lt_iff_toInt_lt.mpr q)
    by_cases h2 : x = y
    · rw [if_pos h2]
      exact ⟨fun q => absurd q (by decide), fun q => absurd q h1⟩
    · rw [if_neg h2]
      exact ⟨fun q => absurd q (by decide), fun q => absurd q h1⟩
theorem m_in {x : Int32} {A B : Int64} {M : aM} : call 141 [.long x.toInt64, .long A, .long B] M = some (some (.int (bI (inB x A.toInt B.toInt))), M) := by
  refine Eq.trans e141 (Eq.trans b141_0 ?_)
  unfold inB
  by_cases h1 : lg_cmp x.toInt64 A < 0
  · refine Eq.trans (if_pos h1) (Eq.trans b141_17 (Eq.trans (b141_18 rfl) ?_))
    have := lgc_lt.mp h1
    rw [Int32.toInt_toInt64] at this
    rw [decide_eq_false (show ¬ A.toInt ≤ x.toInt by omega)]
    rfl
  · refine Eq.trans (if_neg h1) (Eq.trans b141_6 ?_)
    have h1' : ¬ x.toInt64.toInt < A.toInt := fun q => h1 (lgc_lt.mpr q)
    rw [Int32.toInt_toInt64] at h1'
    rw [decide_eq_true (show A.toInt ≤ x.toInt by omega)]
    by_cases h2 : 0 < lg_cmp x.toInt64 B
    · refine Eq.trans (if_pos h2) (Eq.trans b141_17 (Eq.trans (b141_18 rfl) ?_))
      have := lgc_gt.mp h2
      rw [Int32.toInt_toInt64] at this
      rw [decide_eq_false (show ¬ x.toInt ≤ B.toInt by omega)]
      rfl
    · refine Eq.trans (if_neg h2) (Eq.trans b141_13 (Eq.trans (b141_18 rfl) ?_))
      have h2' : ¬ B.toInt < x.toInt64.toInt := fun q => h2 (lgc_gt.mpr q)
      rw [Int32.toInt_toInt64] at h2'
      rw [decide_eq_true (show x.toInt ≤ B.toInt by omega)]
      rfl
theorem c_within {x a b : Int32} {M : aM} : call 139 [.int x, .int a, .int b] M = some (some (.int (bI (inB x a.toInt b.toInt))), M) := by
  refine Eq.trans e139 (Eq.trans b139_0 ?_)
  unfold inB
  by_cases h1 : x < a
  · refine Eq.trans (if_pos h1) (Eq.trans b139_14 (Eq.trans (b139_15 rfl) ?_))
    have := Int32.lt_iff_toInt_lt.mp h1
    rw [decide_eq_false (show ¬ a.toInt ≤ x.toInt by omega)]
    rfl
  · refine Eq.trans (if_neg h1) (Eq.trans b139_5 ?_)
    have h1' : ¬ x.toInt < a.toInt := fun q => h1 (Int32.lt_iff_toInt_lt.mpr q)
    rw [decide_eq_true (show a.toInt ≤ x.toInt by omega)]
    by_cases h2 : b < x
    · refine Eq.trans (if_pos h2) (Eq.trans b139_14 (Eq.trans (b139_15 rfl) ?_))
      have := Int32.lt_iff_toInt_lt.mp h2
      rw [decide_eq_false (show ¬ x.toInt ≤ b.toInt by omega)]
      rfl
    · refine Eq.trans (if_neg h2) (Eq.trans b139_10 (Eq.trans (b139_15 rfl) ?_))
      have h2' : ¬ b.toInt < x.toInt := fun q => h2 (Int32.lt_iff_toInt_lt.mpr q)
      rw [decide_eq_true (show x.toInt ≤ b.toInt by omega)]
      rfl
theorem bsome {α β : Type} {x : α} {f : α → Option β} : (some x).bind f = f x := rfl
theorem tol1 {v : Value} {r : List Value} : (some v).toList ++ r = v :: r := rfl
theorem tol0 {r : List Value} : (none : Option Value).toList ++ r = r := rfl
def begOK (x1 x2 x3 x4 x5 : Int32) : Bool := inB x1 1 99 && (inB x2 1 99 && (inB x3 0 999 && (inB x4 0 99 && inB x5 1 199)))
section BEG
variable {I : aI} {G : aL} {Z : aZ} {x1 x2 x3 x4 x5 : Int32}
def mBegin (I : aI) (x1 x2 x3 x4 x5 : Int32) : aI := up2 (up2 (up2 (up2 (up2 (up2 (up2 (up2 (up2 (up2 (up2 (up2 (up2 I 72 1 1) 72 3 x1) 72 4 x2) 72 5 x3) 72 6 x4) 72 7 x5) 72 8 0) 72 9 0) 72 10 0) 72 12 0) 72 13 (-1)) 72 14 (-1)) 72 15 (-1)
theorem m_begin (hZ : Shp Z) : call 142 [.ref 72, .int x1, .int x2, .int x3, .int x4, .int x5] (I, G, Z) = if begOK x1 x2 x3 x4 x5 = true then some (some (.int 1), (mBegin I x1 x2 x3 x4 x5, G, Z)) else some (some (.int 0), (I, G, Z)) := by
  unfold begOK
  simp only [and_if]
  simp only [e142, b142_0, b142_9, b142_12, b142_21, b142_24, b142_33, b142_36, b142_46, b142_49, b142_59, b142_62, b142_64, b142_79, b142_96, b142_111, b142_126, m_in, bsome, tol1, bI_0, bI_n, hZ.k72, wI_t, l64_0, l64_1, l64_2, l64_3, l64_4, l64_5, l64_7, l64_9, l64_10, l64_11, l64_15, l64_20, l64_60, l64_99, l64_140, l64_143, l64_199, l64_200, l64_255, l64_500, l64_999, l64_9999, l64_99999, l64_9999999, l64_m50, l64_m1, Int32.toInt_toInt64]
  rfl
def cBegin (I : aI) (x1 x2 x3 x4 x5 : Int32) : aI := up2 (up2 (up2 (up2 (up2 (up2 (up2 (up2 (up2 (up2 (up2 (up2 (up2 (up2 I 34 3 1) 34 6 x1) 34 7 x2) 34 8 x3) 34 9 x4) 34 10 x5) 34 11 0) 34 12 0) 34 13 0) 34 14 0) 34 15 0) 34 16 0) 34 17 (-1)) 34 18 (-1)
theorem c_startAnew (hZ : Shp Z) : call 46 [.ref 34, .int x1, .int x2, .int x3, .int x4, .int x5] (I, G, Z) = some (none, (cBegin I x1 x2 x3 x4 x5, G, Z)) := by
  simp only [e46, b46_0, b46_15, b46_32, b46_47, b46_62, hZ.k34, wI_t]
  rfl
theorem c_begin (hZ : Shp Z) : call 99 [.ref 32, .int x1, .int x2, .int x3, .int x4, .int x5] (I, G, Z) = if begOK x1 x2 x3 x4 x5 = true then some (some (.int 1), (cBegin I x1 x2 x3 x4 x5, G, Z)) else some (some (.int 0), (I, G, Z)) := by
  unfold begOK
  simp only [and_if]
  simp only [e99, b99_0, b99_7, b99_10, b99_17, b99_20, b99_24, b99_25, b99_35, b99_38, b99_46, b99_49, b99_58, b99_61, b99_65, b99_66, b99_73, b99_78, b99_80, b99_97, c_within, c_startAnew hZ, bsome, tol1, tol0, bI_0, bI_n, hZ.k32, hZ.r32_0, hZ.k33, hZ.r33_0, hZ.k34, wI_t, l32_0, l32_1, l32_2, l32_3, l32_4, l32_5, l32_7, l32_9, l32_10, l32_11, l32_15, l32_20, l32_60, l32_99, l32_140, l32_143, l32_199, l32_200, l32_255, l32_500, l32_999, l32_9999, l32_99999, l32_9999999, l32_m50, l32_m1]
  cases inB x1 1 99 <;> cases inB x2 1 99 <;> cases inB x3 0 999 <;> cases inB x4 0 99 <;> cases inB x5 1 199 <;> rfl
end BEG
