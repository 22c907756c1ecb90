/-! THE LAW'S LOOP -/
theorem lw_ib {a k L : Nat} (hL : L ≤ 4608) (h : a + k < L) : ib (iN a + iN k) L := by
  rw [iN_add]
  exact ib_iN (by omega) h
theorem lg_self {x : Int64} : lg_cmp x x = 0 := by
  unfold lg_cmp
  simp
section LAW
variable {sc : Nat → Int32} {L n a : Nat} {M : aM}
theorem lw_0 {w : Int32} (hL : L ≤ 4608) (ha : a + 9 ≤ L) (md : Md sc L M) (h : Sty sc L n (.int w) 99 142 [.ref 32, .int (mI M 1 (iN a + 1).toNatClampNeg), .int (mI M 1 (iN a + 2).toNatClampNeg), .int (mI M 1 (iN a + 3).toNatClampNeg), .int (mI M 1 (iN a + 4).toNatClampNeg), .int (mI M 1 (iN a + 5).toNatClampNeg)] [.ref 72, .int (mI M 1 (iN a + 1).toNatClampNeg), .int (mI M 1 (iN a + 2).toNatClampNeg), .int (mI M 1 (iN a + 3).toNatClampNeg), .int (mI M 1 (iN a + 4).toNatClampNeg), .int (mI M 1 (iN a + 5).toNatClampNeg)] M) : ∃ M2, Iv sc L (n + 1) M2 ∧ run 63 232 188 [.ref 1, .ref 32, .ref 72, .int (iN a)] [] M = run 63 232 1400 [.ref 1, .ref 32, .ref 72, .int (iN a)] [] M2 := by
  obtain ⟨M1, M2, c1, md1, c2, hI⟩ := h
  refine ⟨M2, hI, ?_⟩
  refine Eq.trans (b232_188 md.1 (by rw [md.2.1]; exact lw_ib (k := 1) hL (by omega)) (by rw [md.2.1]; exact lw_ib (k := 2) hL (by omega)) (by rw [md.2.1]; exact lw_ib (k := 3) hL (by omega)) (by rw [md.2.1]; exact lw_ib (k := 4) hL (by omega)) (by rw [md.2.1]; exact lw_ib (k := 5) hL (by omega)) md.2.2.2.1) ?_
  rw [c1]
  refine Eq.trans (b232_217 md1.1 (by rw [md1.2.1]; exact lw_ib (k := 1) hL (by omega)) (by rw [md1.2.1]; exact lw_ib (k := 2) hL (by omega)) (by rw [md1.2.1]; exact lw_ib (k := 3) hL (by omega)) (by rw [md1.2.1]; exact lw_ib (k := 4) hL (by omega)) (by rw [md1.2.1]; exact lw_ib (k := 5) hL (by omega)) md1.2.2.2.2) ?_
  have e : mI M1 1 = mI M 1 := by rw [md1.2.2.1, md.2.2.1]
  rw [e, c2]
  exact Eq.trans b232_246 (if_pos rfl)
theorem lw_1 {w : Int32} (hL : L ≤ 4608) (ha : a + 9 ≤ L) (md : Md sc L M) (h : Sty sc L n (.int w) 100 153 [.ref 32, .int (mI M 1 (iN a + 1).toNatClampNeg), .int (mI M 1 (iN a + 2).toNatClampNeg), .int (mI M 1 (iN a + 3).toNatClampNeg), .int (mI M 1 (iN a + 4).toNatClampNeg), .int (mI M 1 (iN a + 5).toNatClampNeg), .int (mI M 1 (iN a + 6).toNatClampNeg), .int (mI M 1 (iN a + 7).toNatClampNeg), .int (mI M 1 (iN a + 8).toNatClampNeg)] [.ref 72, .int (mI M 1 (iN a + 1).toNatClampNeg), .int (mI M 1 (iN a + 2).toNatClampNeg), .int (mI M 1 (iN a + 3).toNatClampNeg), .int (mI M 1 (iN a + 4).toNatClampNeg), .int (mI M 1 (iN a + 5).toNatClampNeg), .int (mI M 1 (iN a + 6).toNatClampNeg), .int (mI M 1 (iN a + 7).toNatClampNeg), .int (mI M 1 (iN a + 8).toNatClampNeg)] M) : ∃ M2, Iv sc L (n + 1) M2 ∧ run 63 232 251 [.ref 1, .ref 32, .ref 72, .int (iN a)] [] M = run 63 232 1400 [.ref 1, .ref 32, .ref 72, .int (iN a)] [] M2 := by
  obtain ⟨M1, M2, c1, md1, c2, hI⟩ := h
  refine ⟨M2, hI, ?_⟩
  refine Eq.trans (b232_251 md.1 (by rw [md.2.1]; exact lw_ib (k := 1) hL (by omega)) (by rw [md.2.1]; exact lw_ib (k := 2) hL (by omega)) (by rw [md.2.1]; exact lw_ib (k := 3) hL (by omega)) (by rw [md.2.1]; exact lw_ib (k := 4) hL (by omega)) (by rw [md.2.1]; exact lw_ib (k := 5) hL (by omega)) (by rw [md.2.1]; exact lw_ib (k := 6) hL (by omega)) (by rw [md.2.1]; exact lw_ib (k := 7) hL (by omega)) (by rw [md.2.1]; exact lw_ib (k := 8) hL (by omega)) md.2.2.2.1) ?_
  rw [c1]
  refine Eq.trans (b232_298 md1.1 (by rw [md1.2.1]; exact lw_ib (k := 1) hL (by omega)) (by rw [md1.2.1]; exact lw_ib (k := 2) hL (by omega)) (by rw [md1.2.1]; exact lw_ib (k := 3) hL (by omega)) (by rw [md1.2.1]; exact lw_ib (k := 4) hL (by omega)) (by rw [md1.2.1]; exact lw_ib (k := 5) hL (by omega)) (by rw [md1.2.1]; exact lw_ib (k := 6) hL (by omega)) (by rw [md1.2.1]; exact lw_ib (k := 7) hL (by omega)) (by rw [md1.2.1]; exact lw_ib (k := 8) hL (by omega)) md1.2.2.2.2) ?_
  have e : mI M1 1 = mI M 1 := by rw [md1.2.2.1, md.2.2.1]
  rw [e, c2]
  exact Eq.trans b232_345 (if_pos rfl)
theorem lw_2 {w : Int32} (hL : L ≤ 4608) (ha : a + 9 ≤ L) (md : Md sc L M) (h : Sty sc L n (.int w) 101 154 [.ref 32, .int (mI M 1 (iN a + 1).toNatClampNeg), .int (mI M 1 (iN a + 2).toNatClampNeg)] [.ref 72, .int (mI M 1 (iN a + 1).toNatClampNeg), .int (mI M 1 (iN a + 2).toNatClampNeg)] M) : ∃ M2, Iv sc L (n + 1) M2 ∧ run 63 232 350 [.ref 1, .ref 32, .ref 72, .int (iN a)] [] M = run 63 232 1400 [.ref 1, .ref 32, .ref 72, .int (iN a)] [] M2 := by
  obtain ⟨M1, M2, c1, md1, c2, hI⟩ := h
  refine ⟨M2, hI, ?_⟩
  refine Eq.trans (b232_350 md.1 (by rw [md.2.1]; exact lw_ib (k := 1) hL (by omega)) (by rw [md.2.1]; exact lw_ib (k := 2) hL (by omega)) md.2.2.2.1) ?_
  rw [c1]
  refine Eq.trans (b232_364 md1.1 (by rw [md1.2.1]; exact lw_ib (k := 1) hL (by omega)) (by rw [md1.2.1]; exact lw_ib (k := 2) hL (by omega)) md1.2.2.2.2) ?_
  have e : mI M1 1 = mI M 1 := by rw [md1.2.2.1, md.2.2.1]
  rw [e, c2]
  exact Eq.trans b232_378 (if_pos rfl)
theorem lw_3 {w : Int32} (hL : L ≤ 4608) (ha : a + 9 ≤ L) (md : Md sc L M) (h : Sty sc L n (.int w) 102 155 [.ref 32, .int (mI M 1 (iN a + 1).toNatClampNeg)] [.ref 72, .int (mI M 1 (iN a + 1).toNatClampNeg)] M) : ∃ M2, Iv sc L (n + 1) M2 ∧ run 63 232 383 [.ref 1, .ref 32, .ref 72, .int (iN a)] [] M = run 63 232 1400 [.ref 1, .ref 32, .ref 72, .int (iN a)] [] M2 := by
  obtain ⟨M1, M2, c1, md1, c2, hI⟩ := h
  refine ⟨M2, hI, ?_⟩
  refine Eq.trans (b232_383 md.1 (by rw [md.2.1]; exact lw_ib (k := 1) hL (by omega)) md.2.2.2.1) ?_
  rw [c1]
  refine Eq.trans (b232_392 md1.1 (by rw [md1.2.1]; exact lw_ib (k := 1) hL (by omega)) md1.2.2.2.2) ?_
  have e : mI M1 1 = mI M 1 := by rw [md1.2.2.1, md.2.2.1]
  rw [e, c2]
  exact Eq.trans b232_401 (if_pos rfl)
theorem lw_4 {w : Int32} (hL : L ≤ 4608) (ha : a + 9 ≤ L) (md : Md sc L M) (h : Sty sc L n (.int w) 103 156 [.ref 32, .int (mI M 1 (iN a + 1).toNatClampNeg)] [.ref 72, .int (mI M 1 (iN a + 1).toNatClampNeg)] M) : ∃ M2, Iv sc L (n + 1) M2 ∧ run 63 232 406 [.ref 1, .ref 32, .ref 72, .int (iN a)] [] M = run 63 232 1400 [.ref 1, .ref 32, .ref 72, .int (iN a)] [] M2 := by
  obtain ⟨M1, M2, c1, md1, c2, hI⟩ := h
  refine ⟨M2, hI, ?_⟩
  refine Eq.trans (b232_406 md.1 (by rw [md.2.1]; exact lw_ib (k := 1) hL (by omega)) md.2.2.2.1) ?_
  rw [c1]
  refine Eq.trans (b232_415 md1.1 (by rw [md1.2.1]; exact lw_ib (k := 1) hL (by omega)) md1.2.2.2.2) ?_
  have e : mI M1 1 = mI M 1 := by rw [md1.2.2.1, md.2.2.1]
  rw [e, c2]
  exact Eq.trans b232_424 (if_pos rfl)
theorem lw_5 {w : Int32} (hL : L ≤ 4608) (ha : a + 9 ≤ L) (md : Md sc L M) (h : Sty sc L n (.int w) 104 158 [.ref 32, .int (mI M 1 (iN a + 1).toNatClampNeg)] [.ref 72, .int (mI M 1 (iN a + 1).toNatClampNeg)] M) : ∃ M2, Iv sc L (n + 1) M2 ∧ run 63 232 429 [.ref 1, .ref 32, .ref 72, .int (iN a)] [] M = run 63 232 1400 [.ref 1, .ref 32, .ref 72, .int (iN a)] [] M2 := by
  obtain ⟨M1, M2, c1, md1, c2, hI⟩ := h
  refine ⟨M2, hI, ?_⟩
  refine Eq.trans (b232_429 md.1 (by rw [md.2.1]; exact lw_ib (k := 1) hL (by omega)) md.2.2.2.1) ?_
  rw [c1]
  refine Eq.trans (b232_438 md1.1 (by rw [md1.2.1]; exact lw_ib (k := 1) hL (by omega)) md1.2.2.2.2) ?_
  have e : mI M1 1 = mI M 1 := by rw [md1.2.2.1, md.2.2.1]
  rw [e, c2]
  exact Eq.trans b232_447 (if_pos rfl)
theorem lw_6 {w : Int32} (hL : L ≤ 4608) (ha : a + 9 ≤ L) (md : Md sc L M) (h : Sty sc L n (.int w) 105 159 [.ref 32, .int (mI M 1 (iN a + 1).toNatClampNeg)] [.ref 72, .int (mI M 1 (iN a + 1).toNatClampNeg)] M) : ∃ M2, Iv sc L (n + 1) M2 ∧ run 63 232 452 [.ref 1, .ref 32, .ref 72, .int (iN a)] [] M = run 63 232 1400 [.ref 1, .ref 32, .ref 72, .int (iN a)] [] M2 := by
  obtain ⟨M1, M2, c1, md1, c2, hI⟩ := h
  refine ⟨M2, hI, ?_⟩
  refine Eq.trans (b232_452 md.1 (by rw [md.2.1]; exact lw_ib (k := 1) hL (by omega)) md.2.2.2.1) ?_
  rw [c1]
  refine Eq.trans (b232_461 md1.1 (by rw [md1.2.1]; exact lw_ib (k := 1) hL (by omega)) md1.2.2.2.2) ?_
  have e : mI M1 1 = mI M 1 := by rw [md1.2.2.1, md.2.2.1]
  rw [e, c2]
  exact Eq.trans b232_470 (if_pos rfl)
theorem lw_7 {w : Int32} (hL : L ≤ 4608) (ha : a + 9 ≤ L) (md : Md sc L M) (h : Sty sc L n (.int w) 106 160 [.ref 32, .int (mI M 1 (iN a + 1).toNatClampNeg), .int (mI M 1 (iN a + 2).toNatClampNeg)] [.ref 72, .int (mI M 1 (iN a + 1).toNatClampNeg), .int (mI M 1 (iN a + 2).toNatClampNeg)] M) : ∃ M2, Iv sc L (n + 1) M2 ∧ run 63 232 475 [.ref 1, .ref 32, .ref 72, .int (iN a)] [] M = run 63 232 1400 [.ref 1, .ref 32, .ref 72, .int (iN a)] [] M2 := by
  obtain ⟨M1, M2, c1, md1, c2, hI⟩ := h
  refine ⟨M2, hI, ?_⟩
  refine Eq.trans (b232_475 md.1 (by rw [md.2.1]; exact lw_ib (k := 1) hL (by omega)) (by rw [md.2.1]; exact lw_ib (k := 2) hL (by omega)) md.2.2.2.1) ?_
  rw [c1]
  refine Eq.trans (b232_489 md1.1 (by rw [md1.2.1]; exact lw_ib (k := 1) hL (by omega)) (by rw [md1.2.1]; exact lw_ib (k := 2) hL (by omega)) md1.2.2.2.2) ?_
  have e : mI M1 1 = mI M 1 := by rw [md1.2.2.1, md.2.2.1]
  rw [e, c2]
  exact Eq.trans b232_503 (if_pos rfl)
theorem lw_8 {w : Int32} (hL : L ≤ 4608) (ha : a + 9 ≤ L) (md : Md sc L M) (h : Sty sc L n (.int w) 107 161 [.ref 32, .int (mI M 1 (iN a + 1).toNatClampNeg), .int (mI M 1 (iN a + 2).toNatClampNeg)] [.ref 72, .int (mI M 1 (iN a + 1).toNatClampNeg), .int (mI M 1 (iN a + 2).toNatClampNeg)] M) : ∃ M2, Iv sc L (n + 1) M2 ∧ run 63 232 508 [.ref 1, .ref 32, .ref 72, .int (iN a)] [] M = run 63 232 1400 [.ref 1, .ref 32, .ref 72, .int (iN a)] [] M2 := by
  obtain ⟨M1, M2, c1, md1, c2, hI⟩ := h
  refine ⟨M2, hI, ?_⟩
  refine Eq.trans (b232_508 md.1 (by rw [md.2.1]; exact lw_ib (k := 1) hL (by omega)) (by rw [md.2.1]; exact lw_ib (k := 2) hL (by omega)) md.2.2.2.1) ?_
  rw [c1]
  refine Eq.trans (b232_522 md1.1 (by rw [md1.2.1]; exact lw_ib (k := 1) hL (by omega)) (by rw [md1.2.1]; exact lw_ib (k := 2) hL (by omega)) md1.2.2.2.2) ?_
  have e : mI M1 1 = mI M 1 := by rw [md1.2.2.1, md.2.2.1]
  rw [e, c2]
  exact Eq.trans b232_536 (if_pos rfl)
theorem lw_9 {w : Int32} (hL : L ≤ 4608) (ha : a + 9 ≤ L) (md : Md sc L M) (h : Sty sc L n (.int w) 108 163 [.ref 32] [.ref 72] M) : ∃ M2, Iv sc L (n + 1) M2 ∧ run 63 232 541 [.ref 1, .ref 32, .ref 72, .int (iN a)] [] M = run 63 232 1400 [.ref 1, .ref 32, .ref 72, .int (iN a)] [] M2 := by
  obtain ⟨M1, M2, c1, md1, c2, hI⟩ := h
  refine ⟨M2, hI, ?_⟩
  refine Eq.trans (b232_541 md.2.2.2.1) ?_
  rw [c1]
  refine Eq.trans (b232_545 md1.2.2.2.2) ?_
  rw [c2]
  exact Eq.trans b232_549 (if_pos rfl)
theorem lw_10 {w : Int32} (hL : L ≤ 4608) (ha : a + 9 ≤ L) (md : Md sc L M) (h : Sty sc L n (.int w) 109 164 [.ref 32, .int (mI M 1 (iN a + 1).toNatClampNeg), .int (mI M 1 (iN a + 2).toNatClampNeg), .int (mI M 1 (iN a + 3).toNatClampNeg), .int (mI M 1 (iN a + 4).toNatClampNeg), .int (mI M 1 (iN a + 5).toNatClampNeg)] [.ref 72, .int (mI M 1 (iN a + 1).toNatClampNeg), .int (mI M 1 (iN a + 2).toNatClampNeg), .int (mI M 1 (iN a + 3).toNatClampNeg), .int (mI M 1 (iN a + 4).toNatClampNeg), .int (mI M 1 (iN a + 5).toNatClampNeg)] M) : ∃ M2, Iv sc L (n + 1) M2 ∧ run 63 232 554 [.ref 1, .ref 32, .ref 72, .int (iN a)] [] M = run 63 232 1400 [.ref 1, .ref 32, .ref 72, .int (iN a)] [] M2 := by
  obtain ⟨M1, M2, c1, md1, c2, hI⟩ := h
  refine ⟨M2, hI, ?_⟩
  refine Eq.trans (b232_554 md.1 (by rw [md.2.1]; exact lw_ib (k := 1) hL (by omega)) (by rw [md.2.1]; exact lw_ib (k := 2) hL (by omega)) (by rw [md.2.1]; exact lw_ib (k := 3) hL (by omega)) (by rw [md.2.1]; exact lw_ib (k := 4) hL (by omega)) (by rw [md.2.1]; exact lw_ib (k := 5) hL (by omega)) md.2.2.2.1) ?_
  rw [c1]
  refine Eq.trans (b232_583 md1.1 (by rw [md1.2.1]; exact lw_ib (k := 1) hL (by omega)) (by rw [md1.2.1]; exact lw_ib (k := 2) hL (by omega)) (by rw [md1.2.1]; exact lw_ib (k := 3) hL (by omega)) (by rw [md1.2.1]; exact lw_ib (k := 4) hL (by omega)) (by rw [md1.2.1]; exact lw_ib (k := 5) hL (by omega)) md1.2.2.2.2) ?_
  have e : mI M1 1 = mI M 1 := by rw [md1.2.2.1, md.2.2.1]
  rw [e, c2]
  exact Eq.trans b232_612 (if_pos rfl)
theorem lw_11 {w : Int32} (hL : L ≤ 4608) (ha : a + 9 ≤ L) (md : Md sc L M) (h : Sty sc L n (.int w) 110 166 [.ref 32, .int (mI M 1 (iN a + 1).toNatClampNeg)] [.ref 72, .int (mI M 1 (iN a + 1).toNatClampNeg)] M) : ∃ M2, Iv sc L (n + 1) M2 ∧ run 63 232 617 [.ref 1, .ref 32, .ref 72, .int (iN a)] [] M = run 63 232 1400 [.ref 1, .ref 32, .ref 72, .int (iN a)] [] M2 := by
  obtain ⟨M1, M2, c1, md1, c2, hI⟩ := h
  refine ⟨M2, hI, ?_⟩
  refine Eq.trans (b232_617 md.1 (by rw [md.2.1]; exact lw_ib (k := 1) hL (by omega)) md.2.2.2.1) ?_
  rw [c1]
  refine Eq.trans (b232_626 md1.1 (by rw [md1.2.1]; exact lw_ib (k := 1) hL (by omega)) md1.2.2.2.2) ?_
  have e : mI M1 1 = mI M 1 := by rw [md1.2.2.1, md.2.2.1]
  rw [e, c2]
  exact Eq.trans b232_635 (if_pos rfl)
theorem lw_12 {w : Int32} (hL : L ≤ 4608) (ha : a + 9 ≤ L) (md : Md sc L M) (h : Sty sc L n (.int w) 111 191 [.ref 32] [.ref 72] M) : ∃ M2, Iv sc L (n + 1) M2 ∧ run 63 232 640 [.ref 1, .ref 32, .ref 72, .int (iN a)] [] M = run 63 232 1400 [.ref 1, .ref 32, .ref 72, .int (iN a)] [] M2 := by
  obtain ⟨M1, M2, c1, md1, c2, hI⟩ := h
  refine ⟨M2, hI, ?_⟩
  refine Eq.trans (b232_640 md.2.2.2.1) ?_
  rw [c1]
  refine Eq.trans (b232_644 md1.2.2.2.2) ?_
  rw [c2]
  exact Eq.trans b232_648 (if_pos rfl)
theorem lw_13 {w : Int32} (hL : L ≤ 4608) (ha : a + 9 ≤ L) (md : Md sc L M) (h : Sty sc L n (.int w) 112 192 [.ref 32] [.ref 72] M) : ∃ M2, Iv sc L (n + 1) M2 ∧ run 63 232 653 [.ref 1, .ref 32, .ref 72, .int (iN a)] [] M = run 63 232 1400 [.ref 1, .ref 32, .ref 72, .int (iN a)] [] M2 := by
  obtain ⟨M1, M2, c1, md1, c2, hI⟩ := h
  refine ⟨M2, hI, ?_⟩
  refine Eq.trans (b232_653 md.2.2.2.1) ?_
  rw [c1]
  refine Eq.trans (b232_657 md1.2.2.2.2) ?_
  rw [c2]
  exact Eq.trans b232_661 (if_pos rfl)
theorem lw_14 {w : Int32} (hL : L ≤ 4608) (ha : a + 9 ≤ L) (md : Md sc L M) (h : Sty sc L n (.int w) 113 200 [.ref 32, .int (mI M 1 (iN a + 1).toNatClampNeg), .int (mI M 1 (iN a + 2).toNatClampNeg)] [.ref 72, .int (mI M 1 (iN a + 1).toNatClampNeg), .int (mI M 1 (iN a + 2).toNatClampNeg)] M) : ∃ M2, Iv sc L (n + 1) M2 ∧ run 63 232 666 [.ref 1, .ref 32, .ref 72, .int (iN a)] [] M = run 63 232 1400 [.ref 1, .ref 32, .ref 72, .int (iN a)] [] M2 := by
  obtain ⟨M1, M2, c1, md1, c2, hI⟩ := h
  refine ⟨M2, hI, ?_⟩
  refine Eq.trans (b232_666 md.1 (by rw [md.2.1]; exact lw_ib (k := 1) hL (by omega)) (by rw [md.2.1]; exact lw_ib (k := 2) hL (by omega)) md.2.2.2.1) ?_
  rw [c1]
  refine Eq.trans (b232_680 md1.1 (by rw [md1.2.1]; exact lw_ib (k := 1) hL (by omega)) (by rw [md1.2.1]; exact lw_ib (k := 2) hL (by omega)) md1.2.2.2.2) ?_
  have e : mI M1 1 = mI M 1 := by rw [md1.2.2.1, md.2.2.1]
  rw [e, c2]
  exact Eq.trans b232_694 (if_pos rfl)
theorem lw_15 {w : Int32} (hL : L ≤ 4608) (ha : a + 9 ≤ L) (md : Md sc L M) (h : Sty sc L n (.int w) 114 201 [.ref 32, .int (mI M 1 (iN a + 1).toNatClampNeg), .int (mI M 1 (iN a + 2).toNatClampNeg)] [.ref 72, .int (mI M 1 (iN a + 1).toNatClampNeg), .int (mI M 1 (iN a + 2).toNatClampNeg)] M) : ∃ M2, Iv sc L (n + 1) M2 ∧ run 63 232 699 [.ref 1, .ref 32, .ref 72, .int (iN a)] [] M = run 63 232 1400 [.ref 1, .ref 32, .ref 72, .int (iN a)] [] M2 := by
  obtain ⟨M1, M2, c1, md1, c2, hI⟩ := h
  refine ⟨M2, hI, ?_⟩
  refine Eq.trans (b232_699 md.1 (by rw [md.2.1]; exact lw_ib (k := 1) hL (by omega)) (by rw [md.2.1]; exact lw_ib (k := 2) hL (by omega)) md.2.2.2.1) ?_
  rw [c1]
  refine Eq.trans (b232_713 md1.1 (by rw [md1.2.1]; exact lw_ib (k := 1) hL (by omega)) (by rw [md1.2.1]; exact lw_ib (k := 2) hL (by omega)) md1.2.2.2.2) ?_
  have e : mI M1 1 = mI M 1 := by rw [md1.2.2.1, md.2.2.1]
  rw [e, c2]
  exact Eq.trans b232_727 (if_pos rfl)
theorem lw_16 {w : Int32} (hL : L ≤ 4608) (ha : a + 9 ≤ L) (md : Md sc L M) (h : Sty sc L n (.int w) 115 203 [.ref 32, .int (mI M 1 (iN a + 1).toNatClampNeg), .int (mI M 1 (iN a + 2).toNatClampNeg), .int (mI M 1 (iN a + 3).toNatClampNeg)] [.ref 72, .int (mI M 1 (iN a + 1).toNatClampNeg), .int (mI M 1 (iN a + 2).toNatClampNeg), .int (mI M 1 (iN a + 3).toNatClampNeg)] M) : ∃ M2, Iv sc L (n + 1) M2 ∧ run 63 232 732 [.ref 1, .ref 32, .ref 72, .int (iN a)] [] M = run 63 232 1400 [.ref 1, .ref 32, .ref 72, .int (iN a)] [] M2 := by
  obtain ⟨M1, M2, c1, md1, c2, hI⟩ := h
  refine ⟨M2, hI, ?_⟩
  refine Eq.trans (b232_732 md.1 (by rw [md.2.1]; exact lw_ib (k := 1) hL (by omega)) (by rw [md.2.1]; exact lw_ib (k := 2) hL (by omega)) (by rw [md.2.1]; exact lw_ib (k := 3) hL (by omega)) md.2.2.2.1) ?_
  rw [c1]
  refine Eq.trans (b232_751 md1.1 (by rw [md1.2.1]; exact lw_ib (k := 1) hL (by omega)) (by rw [md1.2.1]; exact lw_ib (k := 2) hL (by omega)) (by rw [md1.2.1]; exact lw_ib (k := 3) hL (by omega)) md1.2.2.2.2) ?_
  have e : mI M1 1 = mI M 1 := by rw [md1.2.2.1, md.2.2.1]
  rw [e, c2]
  exact Eq.trans b232_770 (if_pos rfl)
theorem lw_17 {w : Int64} (hL : L ≤ 4608) (ha : a + 9 ≤ L) (md : Md sc L M) (h : Sty sc L n (.long w) 116 205 [.ref 32, .int (mI M 1 (iN a + 1).toNatClampNeg), .int (mI M 1 (iN a + 2).toNatClampNeg)] [.ref 72, .int (mI M 1 (iN a + 1).toNatClampNeg), .int (mI M 1 (iN a + 2).toNatClampNeg)] M) : ∃ M2, Iv sc L (n + 1) M2 ∧ run 63 232 775 [.ref 1, .ref 32, .ref 72, .int (iN a)] [] M = run 63 232 1400 [.ref 1, .ref 32, .ref 72, .int (iN a)] [] M2 := by
  obtain ⟨M1, M2, c1, md1, c2, hI⟩ := h
  refine ⟨M2, hI, ?_⟩
  refine Eq.trans (b232_775 md.1 (by rw [md.2.1]; exact lw_ib (k := 1) hL (by omega)) (by rw [md.2.1]; exact lw_ib (k := 2) hL (by omega)) md.2.2.2.1) ?_
  rw [c1]
  refine Eq.trans (b232_789 md1.1 (by rw [md1.2.1]; exact lw_ib (k := 1) hL (by omega)) (by rw [md1.2.1]; exact lw_ib (k := 2) hL (by omega)) md1.2.2.2.2) ?_
  have e : mI M1 1 = mI M 1 := by rw [md1.2.2.1, md.2.2.1]
  rw [e, c2]
  exact Eq.trans b232_803 (if_pos lg_self)
theorem lw_18 {w : Int32} (hL : L ≤ 4608) (ha : a + 9 ≤ L) (md : Md sc L M) (h : Sty sc L n (.int w) 117 206 [.ref 32, .int (mI M 1 (iN a + 1).toNatClampNeg), .int (mI M 1 (iN a + 2).toNatClampNeg)] [.ref 72, .int (mI M 1 (iN a + 1).toNatClampNeg), .int (mI M 1 (iN a + 2).toNatClampNeg)] M) : ∃ M2, Iv sc L (n + 1) M2 ∧ run 63 232 809 [.ref 1, .ref 32, .ref 72, .int (iN a)] [] M = run 63 232 1400 [.ref 1, .ref 32, .ref 72, .int (iN a)] [] M2 := by
  obtain ⟨M1, M2, c1, md1, c2, hI⟩ := h
  refine ⟨M2, hI, ?_⟩
  refine Eq.trans (b232_809 md.1 (by rw [md.2.1]; exact lw_ib (k := 1) hL (by omega)) (by rw [md.2.1]; exact lw_ib (k := 2) hL (by omega)) md.2.2.2.1) ?_
  rw [c1]
  refine Eq.trans (b232_823 md1.1 (by rw [md1.2.1]; exact lw_ib (k := 1) hL (by omega)) (by rw [md1.2.1]; exact lw_ib (k := 2) hL (by omega)) md1.2.2.2.2) ?_
  have e : mI M1 1 = mI M 1 := by rw [md1.2.2.1, md.2.2.1]
  rw [e, c2]
  exact Eq.trans b232_837 (if_pos rfl)
theorem lw_19 {w : Int32} (hL : L ≤ 4608) (ha : a + 9 ≤ L) (md : Md sc L M) (h : Sty sc L n (.int w) 118 207 [.ref 32, .int (mI M 1 (iN a + 1).toNatClampNeg), .int (mI M 1 (iN a + 2).toNatClampNeg), .int (mI M 1 (iN a + 3).toNatClampNeg), .int (mI M 1 (iN a + 4).toNatClampNeg)] [.ref 72, .int (mI M 1 (iN a + 1).toNatClampNeg), .int (mI M 1 (iN a + 2).toNatClampNeg), .int (mI M 1 (iN a + 3).toNatClampNeg), .int (mI M 1 (iN a + 4).toNatClampNeg)] M) : ∃ M2, Iv sc L (n + 1) M2 ∧ run 63 232 842 [.ref 1, .ref 32, .ref 72, .int (iN a)] [] M = run 63 232 1400 [.ref 1, .ref 32, .ref 72, .int (iN a)] [] M2 := by
  obtain ⟨M1, M2, c1, md1, c2, hI⟩ := h
  refine ⟨M2, hI, ?_⟩
  refine Eq.trans (b232_842 md.1 (by rw [md.2.1]; exact lw_ib (k := 1) hL (by omega)) (by rw [md.2.1]; exact lw_ib (k := 2) hL (by omega)) (by rw [md.2.1]; exact lw_ib (k := 3) hL (by omega)) (by rw [md.2.1]; exact lw_ib (k := 4) hL (by omega)) md.2.2.2.1) ?_
  rw [c1]
  refine Eq.trans (b232_866 md1.1 (by rw [md1.2.1]; exact lw_ib (k := 1) hL (by omega)) (by rw [md1.2.1]; exact lw_ib (k := 2) hL (by omega)) (by rw [md1.2.1]; exact lw_ib (k := 3) hL (by omega)) (by rw [md1.2.1]; exact lw_ib (k := 4) hL (by omega)) md1.2.2.2.2) ?_
  have e : mI M1 1 = mI M 1 := by rw [md1.2.2.1, md.2.2.1]
  rw [e, c2]
  exact Eq.trans b232_890 (if_pos rfl)
theorem lw_20 {w : Int32} (hL : L ≤ 4608) (ha : a + 9 ≤ L) (md : Md sc L M) (h : Sty sc L n (.int w) 119 208 [.ref 32, .int (mI M 1 (iN a + 1).toNatClampNeg), .int (mI M 1 (iN a + 2).toNatClampNeg)] [.ref 72, .int (mI M 1 (iN a + 1).toNatClampNeg), .int (mI M 1 (iN a + 2).toNatClampNeg)] M) : ∃ M2, Iv sc L (n + 1) M2 ∧ run 63 232 895 [.ref 1, .ref 32, .ref 72, .int (iN a)] [] M = run 63 232 1400 [.ref 1, .ref 32, .ref 72, .int (iN a)] [] M2 := by
  obtain ⟨M1, M2, c1, md1, c2, hI⟩ := h
  refine ⟨M2, hI, ?_⟩
  refine Eq.trans (b232_895 md.1 (by rw [md.2.1]; exact lw_ib (k := 1) hL (by omega)) (by rw [md.2.1]; exact lw_ib (k := 2) hL (by omega)) md.2.2.2.1) ?_
  rw [c1]
  refine Eq.trans (b232_909 md1.1 (by rw [md1.2.1]; exact lw_ib (k := 1) hL (by omega)) (by rw [md1.2.1]; exact lw_ib (k := 2) hL (by omega)) md1.2.2.2.2) ?_
  have e : mI M1 1 = mI M 1 := by rw [md1.2.2.1, md.2.2.1]
  rw [e, c2]
  exact Eq.trans b232_923 (if_pos rfl)
theorem lw_21 {w : Int32} (hL : L ≤ 4608) (ha : a + 9 ≤ L) (md : Md sc L M) (h : Sty sc L n (.int w) 120 209 [.ref 32, .int (mI M 1 (iN a + 1).toNatClampNeg), .int (mI M 1 (iN a + 2).toNatClampNeg)] [.ref 72, .int (mI M 1 (iN a + 1).toNatClampNeg), .int (mI M 1 (iN a + 2).toNatClampNeg)] M) : ∃ M2, Iv sc L (n + 1) M2 ∧ run 63 232 928 [.ref 1, .ref 32, .ref 72, .int (iN a)] [] M = run 63 232 1400 [.ref 1, .ref 32, .ref 72, .int (iN a)] [] M2 := by
  obtain ⟨M1, M2, c1, md1, c2, hI⟩ := h
  refine ⟨M2, hI, ?_⟩
  refine Eq.trans (b232_928 md.1 (by rw [md.2.1]; exact lw_ib (k := 1) hL (by omega)) (by rw [md.2.1]; exact lw_ib (k := 2) hL (by omega)) md.2.2.2.1) ?_
  rw [c1]
  refine Eq.trans (b232_942 md1.1 (by rw [md1.2.1]; exact lw_ib (k := 1) hL (by omega)) (by rw [md1.2.1]; exact lw_ib (k := 2) hL (by omega)) md1.2.2.2.2) ?_
  have e : mI M1 1 = mI M 1 := by rw [md1.2.2.1, md.2.2.1]
  rw [e, c2]
  exact Eq.trans b232_956 (if_pos rfl)
theorem lw_22 {w : Int32} (hL : L ≤ 4608) (ha : a + 9 ≤ L) (md : Md sc L M) (h : Sty sc L n (.int w) 121 211 [.ref 32, .int (mI M 1 (iN a + 1).toNatClampNeg), .int (mI M 1 (iN a + 2).toNatClampNeg)] [.ref 72, .int (mI M 1 (iN a + 1).toNatClampNeg), .int (mI M 1 (iN a + 2).toNatClampNeg)] M) : ∃ M2, Iv sc L (n + 1) M2 ∧ run 63 232 961 [.ref 1, .ref 32, .ref 72, .int (iN a)] [] M = run 63 232 1400 [.ref 1, .ref 32, .ref 72, .int (iN a)] [] M2 := by
  obtain ⟨M1, M2, c1, md1, c2, hI⟩ := h
  refine ⟨M2, hI, ?_⟩
  refine Eq.trans (b232_961 md.1 (by rw [md.2.1]; exact lw_ib (k := 1) hL (by omega)) (by rw [md.2.1]; exact lw_ib (k := 2) hL (by omega)) md.2.2.2.1) ?_
  rw [c1]
  refine Eq.trans (b232_975 md1.1 (by rw [md1.2.1]; exact lw_ib (k := 1) hL (by omega)) (by rw [md1.2.1]; exact lw_ib (k := 2) hL (by omega)) md1.2.2.2.2) ?_
  have e : mI M1 1 = mI M 1 := by rw [md1.2.2.1, md.2.2.1]
  rw [e, c2]
  exact Eq.trans b232_989 (if_pos rfl)
theorem lw_23 {w : Int32} (hL : L ≤ 4608) (ha : a + 9 ≤ L) (md : Md sc L M) (h : Sty sc L n (.int w) 122 213 [.ref 32] [.ref 72] M) : ∃ M2, Iv sc L (n + 1) M2 ∧ run 63 232 994 [.ref 1, .ref 32, .ref 72, .int (iN a)] [] M = run 63 232 1400 [.ref 1, .ref 32, .ref 72, .int (iN a)] [] M2 := by
  obtain ⟨M1, M2, c1, md1, c2, hI⟩ := h
  refine ⟨M2, hI, ?_⟩
  refine Eq.trans (b232_994 md.2.2.2.1) ?_
  rw [c1]
  refine Eq.trans (b232_998 md1.2.2.2.2) ?_
  rw [c2]
  exact Eq.trans b232_1002 (if_pos rfl)
theorem lw_24 {w : Int32} (hL : L ≤ 4608) (ha : a + 9 ≤ L) (md : Md sc L M) (h : Sty sc L n (.int w) 123 214 [.ref 32, .int (mI M 1 (iN a + 1).toNatClampNeg)] [.ref 72, .int (mI M 1 (iN a + 1).toNatClampNeg)] M) : ∃ M2, Iv sc L (n + 1) M2 ∧ run 63 232 1007 [.ref 1, .ref 32, .ref 72, .int (iN a)] [] M = run 63 232 1400 [.ref 1, .ref 32, .ref 72, .int (iN a)] [] M2 := by
  obtain ⟨M1, M2, c1, md1, c2, hI⟩ := h
  refine ⟨M2, hI, ?_⟩
  refine Eq.trans (b232_1007 md.1 (by rw [md.2.1]; exact lw_ib (k := 1) hL (by omega)) md.2.2.2.1) ?_
  rw [c1]
  refine Eq.trans (b232_1016 md1.1 (by rw [md1.2.1]; exact lw_ib (k := 1) hL (by omega)) md1.2.2.2.2) ?_
  have e : mI M1 1 = mI M 1 := by rw [md1.2.2.1, md.2.2.1]
  rw [e, c2]
  exact Eq.trans b232_1025 (if_pos rfl)
theorem lw_25 {w : Int32} (hL : L ≤ 4608) (ha : a + 9 ≤ L) (md : Md sc L M) (h : Sty sc L n (.int w) 124 215 [.ref 32, .int (mI M 1 (iN a + 1).toNatClampNeg), .int (mI M 1 (iN a + 2).toNatClampNeg)] [.ref 72, .int (mI M 1 (iN a + 1).toNatClampNeg), .int (mI M 1 (iN a + 2).toNatClampNeg)] M) : ∃ M2, Iv sc L (n + 1) M2 ∧ run 63 232 1030 [.ref 1, .ref 32, .ref 72, .int (iN a)] [] M = run 63 232 1400 [.ref 1, .ref 32, .ref 72, .int (iN a)] [] M2 := by
  obtain ⟨M1, M2, c1, md1, c2, hI⟩ := h
  refine ⟨M2, hI, ?_⟩
  refine Eq.trans (b232_1030 md.1 (by rw [md.2.1]; exact lw_ib (k := 1) hL (by omega)) (by rw [md.2.1]; exact lw_ib (k := 2) hL (by omega)) md.2.2.2.1) ?_
  rw [c1]
  refine Eq.trans (b232_1044 md1.1 (by rw [md1.2.1]; exact lw_ib (k := 1) hL (by omega)) (by rw [md1.2.1]; exact lw_ib (k := 2) hL (by omega)) md1.2.2.2.2) ?_
  have e : mI M1 1 = mI M 1 := by rw [md1.2.2.1, md.2.2.1]
  rw [e, c2]
  exact Eq.trans b232_1058 (if_pos rfl)
theorem lw_26 {w : Int32} (hL : L ≤ 4608) (ha : a + 9 ≤ L) (md : Md sc L M) (h : Sty sc L n (.int w) 125 217 [.ref 32] [.ref 72] M) : ∃ M2, Iv sc L (n + 1) M2 ∧ run 63 232 1063 [.ref 1, .ref 32, .ref 72, .int (iN a)] [] M = run 63 232 1400 [.ref 1, .ref 32, .ref 72, .int (iN a)] [] M2 := by
  obtain ⟨M1, M2, c1, md1, c2, hI⟩ := h
  refine ⟨M2, hI, ?_⟩
  refine Eq.trans (b232_1063 md.2.2.2.1) ?_
  rw [c1]
  refine Eq.trans (b232_1067 md1.2.2.2.2) ?_
  rw [c2]
  exact Eq.trans b232_1071 (if_pos rfl)
theorem lw_27 {w : Int32} (hL : L ≤ 4608) (ha : a + 9 ≤ L) (md : Md sc L M) (h : Sty sc L n (.int w) 126 219 [.ref 32, .int (mI M 1 (iN a + 1).toNatClampNeg), .int (mI M 1 (iN a + 2).toNatClampNeg), .int (mI M 1 (iN a + 3).toNatClampNeg)] [.ref 72, .int (mI M 1 (iN a + 1).toNatClampNeg), .int (mI M 1 (iN a + 2).toNatClampNeg), .int (mI M 1 (iN a + 3).toNatClampNeg)] M) : ∃ M2, Iv sc L (n + 1) M2 ∧ run 63 232 1076 [.ref 1, .ref 32, .ref 72, .int (iN a)] [] M = run 63 232 1400 [.ref 1, .ref 32, .ref 72, .int (iN a)] [] M2 := by
  obtain ⟨M1, M2, c1, md1, c2, hI⟩ := h
  refine ⟨M2, hI, ?_⟩
  refine Eq.trans (b232_1076 md.1 (by rw [md.2.1]; exact lw_ib (k := 1) hL (by omega)) (by rw [md.2.1]; exact lw_ib (k := 2) hL (by omega)) (by rw [md.2.1]; exact lw_ib (k := 3) hL (by omega)) md.2.2.2.1) ?_
  rw [c1]
  refine Eq.trans (b232_1095 md1.1 (by rw [md1.2.1]; exact lw_ib (k := 1) hL (by omega)) (by rw [md1.2.1]; exact lw_ib (k := 2) hL (by omega)) (by rw [md1.2.1]; exact lw_ib (k := 3) hL (by omega)) md1.2.2.2.2) ?_
  have e : mI M1 1 = mI M 1 := by rw [md1.2.2.1, md.2.2.1]
  rw [e, c2]
  exact Eq.trans b232_1114 (if_pos rfl)
theorem lw_28 {w : Int32} (hL : L ≤ 4608) (ha : a + 9 ≤ L) (md : Md sc L M) (h : Sty sc L n (.int w) 127 221 [.ref 32, .int (mI M 1 (iN a + 1).toNatClampNeg), .int (mI M 1 (iN a + 2).toNatClampNeg), .int (mI M 1 (iN a + 3).toNatClampNeg), .int (mI M 1 (iN a + 4).toNatClampNeg), .int (mI M 1 (iN a + 5).toNatClampNeg)] [.ref 72, .int (mI M 1 (iN a + 1).toNatClampNeg), .int (mI M 1 (iN a + 2).toNatClampNeg), .int (mI M 1 (iN a + 3).toNatClampNeg), .int (mI M 1 (iN a + 4).toNatClampNeg), .int (mI M 1 (iN a + 5).toNatClampNeg)] M) : ∃ M2, Iv sc L (n + 1) M2 ∧ run 63 232 1119 [.ref 1, .ref 32, .ref 72, .int (iN a)] [] M = run 63 232 1400 [.ref 1, .ref 32, .ref 72, .int (iN a)] [] M2 := by
  obtain ⟨M1, M2, c1, md1, c2, hI⟩ := h
  refine ⟨M2, hI, ?_⟩
  refine Eq.trans (b232_1119 md.1 (by rw [md.2.1]; exact lw_ib (k := 1) hL (by omega)) (by rw [md.2.1]; exact lw_ib (k := 2) hL (by omega)) (by rw [md.2.1]; exact lw_ib (k := 3) hL (by omega)) (by rw [md.2.1]; exact lw_ib (k := 4) hL (by omega)) (by rw [md.2.1]; exact lw_ib (k := 5) hL (by omega)) md.2.2.2.1) ?_
  rw [c1]
  refine Eq.trans (b232_1148 md1.1 (by rw [md1.2.1]; exact lw_ib (k := 1) hL (by omega)) (by rw [md1.2.1]; exact lw_ib (k := 2) hL (by omega)) (by rw [md1.2.1]; exact lw_ib (k := 3) hL (by omega)) (by rw [md1.2.1]; exact lw_ib (k := 4) hL (by omega)) (by rw [md1.2.1]; exact lw_ib (k := 5) hL (by omega)) md1.2.2.2.2) ?_
  have e : mI M1 1 = mI M 1 := by rw [md1.2.2.1, md.2.2.1]
  rw [e, c2]
  exact Eq.trans b232_1177 (if_pos rfl)
theorem lw_29 {w : Int32} (hL : L ≤ 4608) (ha : a + 9 ≤ L) (md : Md sc L M) (h : Sty sc L n (.int w) 128 224 [.ref 32, .int (mI M 1 (iN a + 1).toNatClampNeg)] [.ref 72, .int (mI M 1 (iN a + 1).toNatClampNeg)] M) : ∃ M2, Iv sc L (n + 1) M2 ∧ run 63 232 1182 [.ref 1, .ref 32, .ref 72, .int (iN a)] [] M = run 63 232 1400 [.ref 1, .ref 32, .ref 72, .int (iN a)] [] M2 := by
  obtain ⟨M1, M2, c1, md1, c2, hI⟩ := h
  refine ⟨M2, hI, ?_⟩
  refine Eq.trans (b232_1182 md.1 (by rw [md.2.1]; exact lw_ib (k := 1) hL (by omega)) md.2.2.2.1) ?_
  rw [c1]
  refine Eq.trans (b232_1191 md1.1 (by rw [md1.2.1]; exact lw_ib (k := 1) hL (by omega)) md1.2.2.2.2) ?_
  have e : mI M1 1 = mI M 1 := by rw [md1.2.2.1, md.2.2.1]
  rw [e, c2]
  exact Eq.trans b232_1200 (if_pos rfl)
theorem lw_30 {w : Int32} (hL : L ≤ 4608) (ha : a + 9 ≤ L) (md : Md sc L M) (h : Sty sc L n (.int w) 129 225 [.ref 32, .int (mI M 1 (iN a + 1).toNatClampNeg), .int (mI M 1 (iN a + 2).toNatClampNeg), .int (mI M 1 (iN a + 3).toNatClampNeg)] [.ref 72, .int (mI M 1 (iN a + 1).toNatClampNeg), .int (mI M 1 (iN a + 2).toNatClampNeg), .int (mI M 1 (iN a + 3).toNatClampNeg)] M) : ∃ M2, Iv sc L (n + 1) M2 ∧ run 63 232 1205 [.ref 1, .ref 32, .ref 72, .int (iN a)] [] M = run 63 232 1400 [.ref 1, .ref 32, .ref 72, .int (iN a)] [] M2 := by
  obtain ⟨M1, M2, c1, md1, c2, hI⟩ := h
  refine ⟨M2, hI, ?_⟩
  refine Eq.trans (b232_1205 md.1 (by rw [md.2.1]; exact lw_ib (k := 1) hL (by omega)) (by rw [md.2.1]; exact lw_ib (k := 2) hL (by omega)) (by rw [md.2.1]; exact lw_ib (k := 3) hL (by omega)) md.2.2.2.1) ?_
  rw [c1]
  refine Eq.trans (b232_1224 md1.1 (by rw [md1.2.1]; exact lw_ib (k := 1) hL (by omega)) (by rw [md1.2.1]; exact lw_ib (k := 2) hL (by omega)) (by rw [md1.2.1]; exact lw_ib (k := 3) hL (by omega)) md1.2.2.2.2) ?_
  have e : mI M1 1 = mI M 1 := by rw [md1.2.2.1, md.2.2.1]
  rw [e, c2]
  exact Eq.trans b232_1243 (if_pos rfl)
theorem lw_31 {w : Int32} (hL : L ≤ 4608) (ha : a + 9 ≤ L) (md : Md sc L M) (h : Sty sc L n (.int w) 130 226 [.ref 32, .int (mI M 1 (iN a + 1).toNatClampNeg), .int (mI M 1 (iN a + 2).toNatClampNeg), .int (mI M 1 (iN a + 3).toNatClampNeg)] [.ref 72, .int (mI M 1 (iN a + 1).toNatClampNeg), .int (mI M 1 (iN a + 2).toNatClampNeg), .int (mI M 1 (iN a + 3).toNatClampNeg)] M) : ∃ M2, Iv sc L (n + 1) M2 ∧ run 63 232 1248 [.ref 1, .ref 32, .ref 72, .int (iN a)] [] M = run 63 232 1400 [.ref 1, .ref 32, .ref 72, .int (iN a)] [] M2 := by
  obtain ⟨M1, M2, c1, md1, c2, hI⟩ := h
  refine ⟨M2, hI, ?_⟩
  refine Eq.trans (b232_1248 md.1 (by rw [md.2.1]; exact lw_ib (k := 1) hL (by omega)) (by rw [md.2.1]; exact lw_ib (k := 2) hL (by omega)) (by rw [md.2.1]; exact lw_ib (k := 3) hL (by omega)) md.2.2.2.1) ?_
  rw [c1]
  refine Eq.trans (b232_1267 md1.1 (by rw [md1.2.1]; exact lw_ib (k := 1) hL (by omega)) (by rw [md1.2.1]; exact lw_ib (k := 2) hL (by omega)) (by rw [md1.2.1]; exact lw_ib (k := 3) hL (by omega)) md1.2.2.2.2) ?_
  have e : mI M1 1 = mI M 1 := by rw [md1.2.2.1, md.2.2.1]
  rw [e, c2]
  exact Eq.trans b232_1286 (if_pos rfl)
theorem lw_32 {w : Int32} (hL : L ≤ 4608) (ha : a + 9 ≤ L) (md : Md sc L M) (h : Sty sc L n (.int w) 131 227 [.ref 32, .int (mI M 1 (iN a + 1).toNatClampNeg), .int (mI M 1 (iN a + 2).toNatClampNeg), .int (mI M 1 (iN a + 3).toNatClampNeg), .int (mI M 1 (iN a + 4).toNatClampNeg), .int (mI M 1 (iN a + 5).toNatClampNeg)] [.ref 72, .int (mI M 1 (iN a + 1).toNatClampNeg), .int (mI M 1 (iN a + 2).toNatClampNeg), .int (mI M 1 (iN a + 3).toNatClampNeg), .int (mI M 1 (iN a + 4).toNatClampNeg), .int (mI M 1 (iN a + 5).toNatClampNeg)] M) : ∃ M2, Iv sc L (n + 1) M2 ∧ run 63 232 1291 [.ref 1, .ref 32, .ref 72, .int (iN a)] [] M = run 63 232 1400 [.ref 1, .ref 32, .ref 72, .int (iN a)] [] M2 := by
  obtain ⟨M1, M2, c1, md1, c2, hI⟩ := h
  refine ⟨M2, hI, ?_⟩
  refine Eq.trans (b232_1291 md.1 (by rw [md.2.1]; exact lw_ib (k := 1) hL (by omega)) (by rw [md.2.1]; exact lw_ib (k := 2) hL (by omega)) (by rw [md.2.1]; exact lw_ib (k := 3) hL (by omega)) (by rw [md.2.1]; exact lw_ib (k := 4) hL (by omega)) (by rw [md.2.1]; exact lw_ib (k := 5) hL (by omega)) md.2.2.2.1) ?_
  rw [c1]
  refine Eq.trans (b232_1320 md1.1 (by rw [md1.2.1]; exact lw_ib (k := 1) hL (by omega)) (by rw [md1.2.1]; exact lw_ib (k := 2) hL (by omega)) (by rw [md1.2.1]; exact lw_ib (k := 3) hL (by omega)) (by rw [md1.2.1]; exact lw_ib (k := 4) hL (by omega)) (by rw [md1.2.1]; exact lw_ib (k := 5) hL (by omega)) md1.2.2.2.2) ?_
  have e : mI M1 1 = mI M 1 := by rw [md1.2.2.1, md.2.2.1]
  rw [e, c2]
  exact Eq.trans b232_1349 (if_pos rfl)
theorem lw_33 {w : Int32} (hL : L ≤ 4608) (ha : a + 9 ≤ L) (md : Md sc L M) (h : Sty sc L n (.int w) 132 230 [.ref 32, .int (mI M 1 (iN a + 1).toNatClampNeg)] [.ref 72, .int (mI M 1 (iN a + 1).toNatClampNeg)] M) : ∃ M2, Iv sc L (n + 1) M2 ∧ run 63 232 1354 [.ref 1, .ref 32, .ref 72, .int (iN a)] [] M = run 63 232 1400 [.ref 1, .ref 32, .ref 72, .int (iN a)] [] M2 := by
  obtain ⟨M1, M2, c1, md1, c2, hI⟩ := h
  refine ⟨M2, hI, ?_⟩
  refine Eq.trans (b232_1354 md.1 (by rw [md.2.1]; exact lw_ib (k := 1) hL (by omega)) md.2.2.2.1) ?_
  rw [c1]
  refine Eq.trans (b232_1363 md1.1 (by rw [md1.2.1]; exact lw_ib (k := 1) hL (by omega)) md1.2.2.2.2) ?_
  have e : mI M1 1 = mI M 1 := by rw [md1.2.2.1, md.2.2.1]
  rw [e, c2]
  exact Eq.trans b232_1372 (if_pos rfl)
theorem lw_34 {w : Int32} (hL : L ≤ 4608) (ha : a + 9 ≤ L) (md : Md sc L M) (h : Sty sc L n (.int w) 133 231 [.ref 32, .int (mI M 1 (iN a + 1).toNatClampNeg)] [.ref 72, .int (mI M 1 (iN a + 1).toNatClampNeg)] M) : ∃ M2, Iv sc L (n + 1) M2 ∧ run 63 232 1377 [.ref 1, .ref 32, .ref 72, .int (iN a)] [] M = run 63 232 1400 [.ref 1, .ref 32, .ref 72, .int (iN a)] [] M2 := by
  obtain ⟨M1, M2, c1, md1, c2, hI⟩ := h
  refine ⟨M2, hI, ?_⟩
  refine Eq.trans (b232_1377 md.1 (by rw [md.2.1]; exact lw_ib (k := 1) hL (by omega)) md.2.2.2.1) ?_
  rw [c1]
  refine Eq.trans (b232_1386 md1.1 (by rw [md1.2.1]; exact lw_ib (k := 1) hL (by omega)) md1.2.2.2.2) ?_
  have e : mI M1 1 = mI M 1 := by rw [md1.2.2.1, md.2.2.1]
  rw [e, c2]
  exact Eq.trans b232_1395 (if_pos rfl)
theorem op_cases (x : Int32) : x = 0 ∨ x = 1 ∨ x = 2 ∨ x = 3 ∨ x = 4 ∨ x = 5 ∨ x = 6 ∨ x = 7 ∨ x = 8 ∨ x = 9 ∨ x = 10 ∨ x = 11 ∨ x = 12 ∨ x = 13 ∨ x = 14 ∨ x = 15 ∨ x = 16 ∨ x = 17 ∨ x = 18 ∨ x = 19 ∨ x = 20 ∨ x = 21 ∨ x = 22 ∨ x = 23 ∨ x = 24 ∨ x = 25 ∨ x = 26 ∨ x = 27 ∨ x = 28 ∨ x = 29 ∨ x = 30 ∨ x = 31 ∨ x = 32 ∨ x = 33 ∨ x = 34 ∨ (x.toInt < 0 ∨ 34 < x.toInt) := by
  by_cases h : x.toInt < 0 ∨ 34 < x.toInt
  · exact Or.inr (Or.inr (Or.inr (Or.inr (Or.inr (Or.inr (Or.inr (Or.inr (Or.inr (Or.inr (Or.inr (Or.inr (Or.inr (Or.inr (Or.inr (Or.inr (Or.inr (Or.inr (Or.inr (Or.inr (Or.inr (Or.inr (Or.inr (Or.inr (Or.inr (Or.inr (Or.inr (Or.inr (Or.inr (Or.inr (Or.inr (Or.inr (Or.inr (Or.inr (Or.inr (h)))))))))))))))))))))))))))))))))))
  · have e : x = iN x.toInt.toNat := by rw [ti_eq, iN_int (by omega)]; omega
    have hm : x.toInt.toNat ≤ 34 := by omega
    generalize x.toInt.toNat = m at e hm
    subst e
    have : m = 0 ∨ m = 1 ∨ m = 2 ∨ m = 3 ∨ m = 4 ∨ m = 5 ∨ m = 6 ∨ m = 7 ∨ m = 8 ∨ m = 9 ∨ m = 10 ∨ m = 11 ∨ m = 12 ∨ m = 13 ∨ m = 14 ∨ m = 15 ∨ m = 16 ∨ m = 17 ∨ m = 18 ∨ m = 19 ∨ m = 20 ∨ m = 21 ∨ m = 22 ∨ m = 23 ∨ m = 24 ∨ m = 25 ∨ m = 26 ∨ m = 27 ∨ m = 28 ∨ m = 29 ∨ m = 30 ∨ m = 31 ∨ m = 32 ∨ m = 33 ∨ m = 34 := by omega
    rcases this with q | q | q | q | q | q | q | q | q | q | q | q | q | q | q | q | q | q | q | q | q | q | q | q | q | q | q | q | q | q | q | q | q | q | q <;> subst q
    · exact Or.inl rfl
    · exact Or.inr (Or.inl rfl)
    · exact Or.inr (Or.inr (Or.inl rfl))
    · exact Or.inr (Or.inr (Or.inr (Or.inl rfl)))
    · exact Or.inr (Or.inr (Or.inr (Or.inr (Or.inl rfl))))
    · exact Or.inr (Or.inr (Or.inr (Or.inr (Or.inr (Or.inl rfl)))))
    · exact Or.inr (Or.inr (Or.inr (Or.inr (Or.inr (Or.inr (Or.inl rfl))))))
    · exact Or.inr (Or.inr (Or.inr (Or.inr (Or.inr (Or.inr (Or.inr (Or.inl rfl)))))))
    · exact Or.inr (Or.inr (Or.inr (Or.inr (Or.inr (Or.inr (Or.inr (Or.inr (Or.inl rfl))))))))
    · exact Or.inr (Or.inr (Or.inr (Or.inr (Or.inr (Or.inr (Or.inr (Or.inr (Or.inr (Or.inl rfl)))))))))
    · exact Or.inr (Or.inr (Or.inr (Or.inr (Or.inr (Or.inr (Or.inr (Or.inr (Or.inr (Or.inr (Or.inl rfl))))))))))
    · exact Or.inr (Or.inr (Or.inr (Or.inr (Or.inr (Or.inr (Or.inr (Or.inr (Or.inr (Or.inr (Or.inr (Or.inl rfl)))))))))))
    · exact Or.inr (Or.inr (Or.inr (Or.inr (Or.inr (Or.inr (Or.inr (Or.inr (Or.inr (Or.inr (Or.inr (Or.inr (Or.inl rfl))))))))))))
    · exact Or.inr (Or.inr (Or.inr (Or.inr (Or.inr (Or.inr (Or.inr (Or.inr (Or.inr (Or.inr (Or.inr (Or.inr (Or.inr (Or.inl rfl)))))))))))))
    · exact Or.inr (Or.inr (Or.inr (Or.inr (Or.inr (Or.inr (Or.inr (Or.inr (Or.inr (Or.inr (Or.inr (Or.inr (Or.inr (Or.inr (Or.inl rfl))))))))))))))
    · exact Or.inr (Or.inr (Or.inr (Or.inr (Or.inr (Or.inr (Or.inr (Or.inr (Or.inr (Or.inr (Or.inr (Or.inr (Or.inr (Or.inr (Or.inr (Or.inl rfl)))))))))))))))
    · exact Or.inr (Or.inr (Or.inr (Or.inr (Or.inr (Or.inr (Or.inr (Or.inr (Or.inr (Or.inr (Or.inr (Or.inr (Or.inr (Or.inr (Or.inr (Or.inr (Or.inl rfl))))))))))))))))
    · exact Or.inr (Or.inr (Or.inr (Or.inr (Or.inr (Or.inr (Or.inr (Or.inr (Or.inr (Or.inr (Or.inr (Or.inr (Or.inr (Or.inr (Or.inr (Or.inr (Or.inr (Or.inl rfl)))))))))))))))))
    · exact Or.inr (Or.inr (Or.inr (Or.inr (Or.inr (Or.inr (Or.inr (Or.inr (Or.inr (Or.inr (Or.inr (Or.inr (Or.inr (Or.inr (Or.inr (Or.inr (Or.inr (Or.inr (Or.inl rfl))))))))))))))))))
    · exact Or.inr (Or.inr (Or.inr (Or.inr (Or.inr (Or.inr (Or.inr (Or.inr (Or.inr (Or.inr (Or.inr (Or.inr (Or.inr (Or.inr (Or.inr (Or.inr (Or.inr (Or.inr (Or.inr (Or.inl rfl)))))))))))))))))))
    · exact Or.inr (Or.inr (Or.inr (Or.inr (Or.inr (Or.inr (Or.inr (Or.inr (Or.inr (Or.inr (Or.inr (Or.inr (Or.inr (Or.inr (Or.inr (Or.inr (Or.inr (Or.inr (Or.inr (Or.inr (Or.inl rfl))))))))))))))))))))
    · exact Or.inr (Or.inr (Or.inr (Or.inr (Or.inr (Or.inr (Or.inr (Or.inr (Or.inr (Or.inr (Or.inr (Or.inr (Or.inr (Or.inr (Or.inr (Or.inr (Or.inr (Or.inr (Or.inr (Or.inr (Or.inr (Or.inl rfl)))))))))))))))))))))
    · exact Or.inr (Or.inr (Or.inr (Or.inr (Or.inr (Or.inr (Or.inr (Or.inr (Or.inr (Or.inr (Or.inr (Or.inr (Or.inr (Or.inr (Or.inr (Or.inr (Or.inr (Or.inr (Or.inr (Or.inr (Or.inr (Or.inr (Or.inl rfl))))))))))))))))))))))
    · exact Or.inr (Or.inr (Or.inr (Or.inr (Or.inr (Or.inr (Or.inr (Or.inr (Or.inr (Or.inr (Or.inr (Or.inr (Or.inr (Or.inr (Or.inr (Or.inr (Or.inr (Or.inr (Or.inr (Or.inr (Or.inr (Or.inr (Or.inr (Or.inl rfl)))))))))))))))))))))))
    · exact Or.inr (Or.inr (Or.inr (Or.inr (Or.inr (Or.inr (Or.inr (Or.inr (Or.inr (Or.inr (Or.inr (Or.inr (Or.inr (Or.inr (Or.inr (Or.inr (Or.inr (Or.inr (Or.inr (Or.inr (Or.inr (Or.inr (Or.inr (Or.inr (Or.inl rfl))))))))))))))))))))))))
    · exact Or.inr (Or.inr (Or.inr (Or.inr (Or.inr (Or.inr (Or.inr (Or.inr (Or.inr (Or.inr (Or.inr (Or.inr (Or.inr (Or.inr (Or.inr (Or.inr (Or.inr (Or.inr (Or.inr (Or.inr (Or.inr (Or.inr (Or.inr (Or.inr (Or.inr (Or.inl rfl)))))))))))))))))))))))))
    · exact Or.inr (Or.inr (Or.inr (Or.inr (Or.inr (Or.inr (Or.inr (Or.inr (Or.inr (Or.inr (Or.inr (Or.inr (Or.inr (Or.inr (Or.inr (Or.inr (Or.inr (Or.inr (Or.inr (Or.inr (Or.inr (Or.inr (Or.inr (Or.inr (Or.inr (Or.inr (Or.inl rfl))))))))))))))))))))))))))
    · exact Or.inr (Or.inr (Or.inr (Or.inr (Or.inr (Or.inr (Or.inr (Or.inr (Or.inr (Or.inr (Or.inr (Or.inr (Or.inr (Or.inr (Or.inr (Or.inr (Or.inr (Or.inr (Or.inr (Or.inr (Or.inr (Or.inr (Or.inr (Or.inr (Or.inr (Or.inr (Or.inr (Or.inl rfl)))))))))))))))))))))))))))
    · exact Or.inr (Or.inr (Or.inr (Or.inr (Or.inr (Or.inr (Or.inr (Or.inr (Or.inr (Or.inr (Or.inr (Or.inr (Or.inr (Or.inr (Or.inr (Or.inr (Or.inr (Or.inr (Or.inr (Or.inr (Or.inr (Or.inr (Or.inr (Or.inr (Or.inr (Or.inr (Or.inr (Or.inr (Or.inl rfl))))))))))))))))))))))))))))
    · exact Or.inr (Or.inr (Or.inr (Or.inr (Or.inr (Or.inr (Or.inr (Or.inr (Or.inr (Or.inr (Or.inr (Or.inr (Or.inr (Or.inr (Or.inr (Or.inr (Or.inr (Or.inr (Or.inr (Or.inr (Or.inr (Or.inr (Or.inr (Or.inr (Or.inr (Or.inr (Or.inr (Or.inr (Or.inr (Or.inl rfl)))))))))))))))))))))))))))))
    · exact Or.inr (Or.inr (Or.inr (Or.inr (Or.inr (Or.inr (Or.inr (Or.inr (Or.inr (Or.inr (Or.inr (Or.inr (Or.inr (Or.inr (Or.inr (Or.inr (Or.inr (Or.inr (Or.inr (Or.inr (Or.inr (Or.inr (Or.inr (Or.inr (Or.inr (Or.inr (Or.inr (Or.inr (Or.inr (Or.inr (Or.inl rfl))))))))))))))))))))))))))))))
    · exact Or.inr (Or.inr (Or.inr (Or.inr (Or.inr (Or.inr (Or.inr (Or.inr (Or.inr (Or.inr (Or.inr (Or.inr (Or.inr (Or.inr (Or.inr (Or.inr (Or.inr (Or.inr (Or.inr (Or.inr (Or.inr (Or.inr (Or.inr (Or.inr (Or.inr (Or.inr (Or.inr (Or.inr (Or.inr (Or.inr (Or.inr (Or.inl rfl)))))))))))))))))))))))))))))))
    · exact Or.inr (Or.inr (Or.inr (Or.inr (Or.inr (Or.inr (Or.inr (Or.inr (Or.inr (Or.inr (Or.inr (Or.inr (Or.inr (Or.inr (Or.inr (Or.inr (Or.inr (Or.inr (Or.inr (Or.inr (Or.inr (Or.inr (Or.inr (Or.inr (Or.inr (Or.inr (Or.inr (Or.inr (Or.inr (Or.inr (Or.inr (Or.inr (Or.inl rfl))))))))))))))))))))))))))))))))
    · exact Or.inr (Or.inr (Or.inr (Or.inr (Or.inr (Or.inr (Or.inr (Or.inr (Or.inr (Or.inr (Or.inr (Or.inr (Or.inr (Or.inr (Or.inr (Or.inr (Or.inr (Or.inr (Or.inr (Or.inr (Or.inr (Or.inr (Or.inr (Or.inr (Or.inr (Or.inr (Or.inr (Or.inr (Or.inr (Or.inr (Or.inr (Or.inr (Or.inr (Or.inl rfl)))))))))))))))))))))))))))))))))
    · exact Or.inr (Or.inr (Or.inr (Or.inr (Or.inr (Or.inr (Or.inr (Or.inr (Or.inr (Or.inr (Or.inr (Or.inr (Or.inr (Or.inr (Or.inr (Or.inr (Or.inr (Or.inr (Or.inr (Or.inr (Or.inr (Or.inr (Or.inr (Or.inr (Or.inr (Or.inr (Or.inr (Or.inr (Or.inr (Or.inr (Or.inr (Or.inr (Or.inr (Or.inr (Or.inl rfl))))))))))))))))))))))))))))))))))
theorem Iv_n (h : Iv sc L n M) : Iv sc L (n + 1) M := by
  obtain ⟨X, G, Z, S, t, c, d, kt, kr, ow, tm, h0, h1, h2, h3, h4⟩ := h
  exact ⟨X, G, Z, S, t, c, d, kt, kr, ow, tm, h0, h1, h2, Wn_n h3 (by omega), Ky_e h4 (fun _ _ => rfl) rfl⟩
theorem lw_step (hL : L ≤ 4608) (ha : a + 9 ≤ L) (hn : n < 600) (hI : Iv sc L n M) : ∃ M2, Iv sc L (n + 1) M2 ∧ run 63 232 27 [.ref 1, .ref 32, .ref 72, .int (iN a)] [] M = run 63 232 1400 [.ref 1, .ref 32, .ref 72, .int (iN a)] [] M2 := by
  have md := Iv_md hI
  have hI0 := hI
  have i0 : ib (iN a) (mN M 1) := by rw [md.2.1]; exact ib_iN (by omega) (by omega)
  obtain ⟨X, G, Z, S, t, c, d, kt, kr, ow, tm, rfl, hC, hM, hW, hK⟩ := hI
  rcases op_cases ((mI (X, G, Z) 1 (iN a).toNatClampNeg) &&& 63) with q | q | q | q | q | q | q | q | q | q | q | q | q | q | q | q | q | q | q | q | q | q | q | q | q | q | q | q | q | q | q | q | q | q | q | q
  · obtain ⟨w, h⟩ := op_begin (G := G) (x1 := mI (X, G, Z) 1 (iN a + 1).toNatClampNeg) (x2 := mI (X, G, Z) 1 (iN a + 2).toNatClampNeg) (x3 := mI (X, G, Z) 1 (iN a + 3).toNatClampNeg) (x4 := mI (X, G, Z) 1 (iN a + 4).toNatClampNeg) (x5 := mI (X, G, Z) 1 (iN a + 5).toNatClampNeg) hC hM hW hK
    obtain ⟨M2, h1, h2⟩ := lw_0 hL ha md h
    exact ⟨M2, h1, Eq.trans (b232_27_c0 md.1 i0 q) h2⟩
  · obtain ⟨w, h⟩ := op_ring (G := G) (x1 := mI (X, G, Z) 1 (iN a + 1).toNatClampNeg) (x2 := mI (X, G, Z) 1 (iN a + 2).toNatClampNeg) (x3 := mI (X, G, Z) 1 (iN a + 3).toNatClampNeg) (x4 := mI (X, G, Z) 1 (iN a + 4).toNatClampNeg) (x5 := mI (X, G, Z) 1 (iN a + 5).toNatClampNeg) (x6 := mI (X, G, Z) 1 (iN a + 6).toNatClampNeg) (x7 := mI (X, G, Z) 1 (iN a + 7).toNatClampNeg) (x8 := mI (X, G, Z) 1 (iN a + 8).toNatClampNeg) hC hM hW hK
    obtain ⟨M2, h1, h2⟩ := lw_1 hL ha md h
    exact ⟨M2, h1, Eq.trans (b232_27_c1 md.1 i0 q) h2⟩
  · obtain ⟨w, h⟩ := op_pour (G := G) (x1 := mI (X, G, Z) 1 (iN a + 1).toNatClampNeg) (x2 := mI (X, G, Z) 1 (iN a + 2).toNatClampNeg) hC hM hW hK hn
    obtain ⟨M2, h1, h2⟩ := lw_2 hL ha md h
    exact ⟨M2, h1, Eq.trans (b232_27_c2 md.1 i0 q) h2⟩
  · obtain ⟨w, h⟩ := op_draw (G := G) (x1 := mI (X, G, Z) 1 (iN a + 1).toNatClampNeg) hC hM hW hK
    obtain ⟨M2, h1, h2⟩ := lw_3 hL ha md h
    exact ⟨M2, h1, Eq.trans (b232_27_c3 md.1 i0 q) h2⟩
  · obtain ⟨w, h⟩ := op_air (G := G) (x1 := mI (X, G, Z) 1 (iN a + 1).toNatClampNeg) hC hM hW hK
    obtain ⟨M2, h1, h2⟩ := lw_4 hL ha md h
    exact ⟨M2, h1, Eq.trans (b232_27_c4 md.1 i0 q) h2⟩
  · obtain ⟨w, h⟩ := op_hours (G := G) (x1 := mI (X, G, Z) 1 (iN a + 1).toNatClampNeg) hC hM hW hK
    obtain ⟨M2, h1, h2⟩ := lw_5 hL ha md h
    exact ⟨M2, h1, Eq.trans (b232_27_c5 md.1 i0 q) h2⟩
  · obtain ⟨w, h⟩ := op_count (G := G) (x1 := mI (X, G, Z) 1 (iN a + 1).toNatClampNeg) hC hM hW hK
    obtain ⟨M2, h1, h2⟩ := lw_6 hL ha md h
    exact ⟨M2, h1, Eq.trans (b232_27_c6 md.1 i0 q) h2⟩
  · obtain ⟨w, h⟩ := op_layer (G := G) (x1 := mI (X, G, Z) 1 (iN a + 1).toNatClampNeg) (x2 := mI (X, G, Z) 1 (iN a + 2).toNatClampNeg) hC hM hW hK
    obtain ⟨M2, h1, h2⟩ := lw_7 hL ha md h
    exact ⟨M2, h1, Eq.trans (b232_27_c7 md.1 i0 q) h2⟩
  · obtain ⟨w, h⟩ := op_told (G := G) (x1 := mI (X, G, Z) 1 (iN a + 1).toNatClampNeg) (x2 := mI (X, G, Z) 1 (iN a + 2).toNatClampNeg) hC hM hW hK
    obtain ⟨M2, h1, h2⟩ := lw_8 hL ha md h
    exact ⟨M2, h1, Eq.trans (b232_27_c8 md.1 i0 q) h2⟩
  · obtain ⟨w, h⟩ := op_nearest (G := G) hC hM hW hK
    obtain ⟨M2, h1, h2⟩ := lw_9 hL ha md h
    exact ⟨M2, h1, Eq.trans (b232_27_c9 md.1 i0 q) h2⟩
  · obtain ⟨w, h⟩ := op_feed (G := G) (x1 := mI (X, G, Z) 1 (iN a + 1).toNatClampNeg) (x2 := mI (X, G, Z) 1 (iN a + 2).toNatClampNeg) (x3 := mI (X, G, Z) 1 (iN a + 3).toNatClampNeg) (x4 := mI (X, G, Z) 1 (iN a + 4).toNatClampNeg) (x5 := mI (X, G, Z) 1 (iN a + 5).toNatClampNeg) hC hM hW hK
    obtain ⟨M2, h1, h2⟩ := lw_10 hL ha md h
    exact ⟨M2, h1, Eq.trans (b232_27_c10 md.1 i0 q) h2⟩
  · obtain ⟨w, h⟩ := op_end (G := G) (x1 := mI (X, G, Z) 1 (iN a + 1).toNatClampNeg) hC hM hW hK
    obtain ⟨M2, h1, h2⟩ := lw_11 hL ha md h
    exact ⟨M2, h1, Eq.trans (b232_27_c11 md.1 i0 q) h2⟩
  · obtain ⟨w, h⟩ := op_story (G := G) hC hM hW hK
    obtain ⟨M2, h1, h2⟩ := lw_12 hL ha md h
    exact ⟨M2, h1, Eq.trans (b232_27_c12 md.1 i0 q) h2⟩
  · obtain ⟨w, h⟩ := op_rule (G := G) hC hM hW hK
    obtain ⟨M2, h1, h2⟩ := lw_13 hL ha md h
    exact ⟨M2, h1, Eq.trans (b232_27_c13 md.1 i0 q) h2⟩
  · obtain ⟨w, h⟩ := op_fits (G := G) (x1 := mI (X, G, Z) 1 (iN a + 1).toNatClampNeg) (x2 := mI (X, G, Z) 1 (iN a + 2).toNatClampNeg) hC hM hW hK
    obtain ⟨M2, h1, h2⟩ := lw_14 hL ha md h
    exact ⟨M2, h1, Eq.trans (b232_27_c14 md.1 i0 q) h2⟩
  · obtain ⟨w, h⟩ := op_trace (G := G) (x1 := mI (X, G, Z) 1 (iN a + 1).toNatClampNeg) (x2 := mI (X, G, Z) 1 (iN a + 2).toNatClampNeg) hC hM hW hK
    obtain ⟨M2, h1, h2⟩ := lw_15 hL ha md h
    exact ⟨M2, h1, Eq.trans (b232_27_c15 md.1 i0 q) h2⟩
  · obtain ⟨w, h⟩ := op_chance (G := G) (x1 := mI (X, G, Z) 1 (iN a + 1).toNatClampNeg) (x2 := mI (X, G, Z) 1 (iN a + 2).toNatClampNeg) (x3 := mI (X, G, Z) 1 (iN a + 3).toNatClampNeg) hC hM hW hK
    obtain ⟨M2, h1, h2⟩ := lw_16 hL ha md h
    exact ⟨M2, h1, Eq.trans (b232_27_c16 md.1 i0 q) h2⟩
  · obtain ⟨w, h⟩ := op_weight (G := G) (x1 := mI (X, G, Z) 1 (iN a + 1).toNatClampNeg) (x2 := mI (X, G, Z) 1 (iN a + 2).toNatClampNeg) hC hM hW hK
    obtain ⟨M2, h1, h2⟩ := lw_17 hL ha md h
    exact ⟨M2, h1, Eq.trans (b232_27_c17 md.1 i0 q) h2⟩
  · obtain ⟨w, h⟩ := op_odds (G := G) (x1 := mI (X, G, Z) 1 (iN a + 1).toNatClampNeg) (x2 := mI (X, G, Z) 1 (iN a + 2).toNatClampNeg) hC hM hW hK
    obtain ⟨M2, h1, h2⟩ := lw_18 hL ha md h
    exact ⟨M2, h1, Eq.trans (b232_27_c18 md.1 i0 q) h2⟩
  · obtain ⟨w, h⟩ := op_made (G := G) (x1 := mI (X, G, Z) 1 (iN a + 1).toNatClampNeg) (x2 := mI (X, G, Z) 1 (iN a + 2).toNatClampNeg) (x3 := mI (X, G, Z) 1 (iN a + 3).toNatClampNeg) (x4 := mI (X, G, Z) 1 (iN a + 4).toNatClampNeg) hC hM hW hK
    obtain ⟨M2, h1, h2⟩ := lw_19 hL ha md h
    exact ⟨M2, h1, Eq.trans (b232_27_c19 md.1 i0 q) h2⟩
  · obtain ⟨w, h⟩ := op_span (G := G) (x1 := mI (X, G, Z) 1 (iN a + 1).toNatClampNeg) (x2 := mI (X, G, Z) 1 (iN a + 2).toNatClampNeg) hC hM hW hK
    obtain ⟨M2, h1, h2⟩ := lw_20 hL ha md h
    exact ⟨M2, h1, Eq.trans (b232_27_c20 md.1 i0 q) h2⟩
  · obtain ⟨w, h⟩ := op_trial (G := G) (x1 := mI (X, G, Z) 1 (iN a + 1).toNatClampNeg) (x2 := mI (X, G, Z) 1 (iN a + 2).toNatClampNeg) hC hM hW hK
    obtain ⟨M2, h1, h2⟩ := lw_21 hL ha md h
    exact ⟨M2, h1, Eq.trans (b232_27_c21 md.1 i0 q) h2⟩
  · obtain ⟨w, h⟩ := op_needed (G := G) (x1 := mI (X, G, Z) 1 (iN a + 1).toNatClampNeg) (x2 := mI (X, G, Z) 1 (iN a + 2).toNatClampNeg) hC hM hW hK
    obtain ⟨M2, h1, h2⟩ := lw_22 hL ha md h
    exact ⟨M2, h1, Eq.trans (b232_27_c22 md.1 i0 q) h2⟩
  · obtain ⟨w, h⟩ := op_more (G := G) hC hM hW hK
    obtain ⟨M2, h1, h2⟩ := lw_23 hL ha md h
    exact ⟨M2, h1, Eq.trans (b232_27_c23 md.1 i0 q) h2⟩
  · obtain ⟨w, h⟩ := op_thicker (G := G) (x1 := mI (X, G, Z) 1 (iN a + 1).toNatClampNeg) hC hM hW hK
    obtain ⟨M2, h1, h2⟩ := lw_24 hL ha md h
    exact ⟨M2, h1, Eq.trans (b232_27_c24 md.1 i0 q) h2⟩
  · obtain ⟨w, h⟩ := op_look (G := G) (x1 := mI (X, G, Z) 1 (iN a + 1).toNatClampNeg) (x2 := mI (X, G, Z) 1 (iN a + 2).toNatClampNeg) hC hM hW hK
    obtain ⟨M2, h1, h2⟩ := lw_25 hL ha md h
    exact ⟨M2, h1, Eq.trans (b232_27_c25 md.1 i0 q) h2⟩
  · obtain ⟨w, h⟩ := op_owed (G := G) hC hM hW hK
    obtain ⟨M2, h1, h2⟩ := lw_26 hL ha md h
    exact ⟨M2, h1, Eq.trans (b232_27_c26 md.1 i0 q) h2⟩
  · obtain ⟨w, h⟩ := op_ground (G := G) (x1 := mI (X, G, Z) 1 (iN a + 1).toNatClampNeg) (x2 := mI (X, G, Z) 1 (iN a + 2).toNatClampNeg) (x3 := mI (X, G, Z) 1 (iN a + 3).toNatClampNeg) hC hM hW hK
    obtain ⟨M2, h1, h2⟩ := lw_27 hL ha md h
    exact ⟨M2, h1, Eq.trans (b232_27_c27 md.1 i0 q) h2⟩
  · obtain ⟨w, h⟩ := op_wave (G := G) (x1 := mI (X, G, Z) 1 (iN a + 1).toNatClampNeg) (x2 := mI (X, G, Z) 1 (iN a + 2).toNatClampNeg) (x3 := mI (X, G, Z) 1 (iN a + 3).toNatClampNeg) (x4 := mI (X, G, Z) 1 (iN a + 4).toNatClampNeg) (x5 := mI (X, G, Z) 1 (iN a + 5).toNatClampNeg) hC hM hW hK
    obtain ⟨M2, h1, h2⟩ := lw_28 hL ha md h
    exact ⟨M2, h1, Eq.trans (b232_27_c28 md.1 i0 q) h2⟩
  · obtain ⟨w, h⟩ := op_minutes (G := G) (x1 := mI (X, G, Z) 1 (iN a + 1).toNatClampNeg) hC hM hW hK
    obtain ⟨M2, h1, h2⟩ := lw_29 hL ha md h
    exact ⟨M2, h1, Eq.trans (b232_27_c29 md.1 i0 q) h2⟩
  · obtain ⟨w, h⟩ := op_place (G := G) (x1 := mI (X, G, Z) 1 (iN a + 1).toNatClampNeg) (x2 := mI (X, G, Z) 1 (iN a + 2).toNatClampNeg) (x3 := mI (X, G, Z) 1 (iN a + 3).toNatClampNeg) hC hM hW hK
    obtain ⟨M2, h1, h2⟩ := lw_30 hL ha md h
    exact ⟨M2, h1, Eq.trans (b232_27_c30 md.1 i0 q) h2⟩
  · obtain ⟨w, h⟩ := op_witness (G := G) (x1 := mI (X, G, Z) 1 (iN a + 1).toNatClampNeg) (x2 := mI (X, G, Z) 1 (iN a + 2).toNatClampNeg) (x3 := mI (X, G, Z) 1 (iN a + 3).toNatClampNeg) hC hM hW hK
    obtain ⟨M2, h1, h2⟩ := lw_31 hL ha md h
    exact ⟨M2, h1, Eq.trans (b232_27_c31 md.1 i0 q) h2⟩
  · obtain ⟨w, h⟩ := op_lean (G := G) (x1 := mI (X, G, Z) 1 (iN a + 1).toNatClampNeg) (x2 := mI (X, G, Z) 1 (iN a + 2).toNatClampNeg) (x3 := mI (X, G, Z) 1 (iN a + 3).toNatClampNeg) (x4 := mI (X, G, Z) 1 (iN a + 4).toNatClampNeg) (x5 := mI (X, G, Z) 1 (iN a + 5).toNatClampNeg) hC hM hW hK
    obtain ⟨M2, h1, h2⟩ := lw_32 hL ha md h
    exact ⟨M2, h1, Eq.trans (b232_27_c32 md.1 i0 q) h2⟩
  · obtain ⟨w, h⟩ := op_mark (G := G) (x1 := mI (X, G, Z) 1 (iN a + 1).toNatClampNeg) hC hM hW hK
    obtain ⟨M2, h1, h2⟩ := lw_33 hL ha md h
    exact ⟨M2, h1, Eq.trans (b232_27_c33 md.1 i0 q) h2⟩
  · obtain ⟨w, h⟩ := op_back (G := G) (x1 := mI (X, G, Z) 1 (iN a + 1).toNatClampNeg) hC hM hW hK
    obtain ⟨M2, h1, h2⟩ := lw_34 hL ha md h
    exact ⟨M2, h1, Eq.trans (b232_27_c34 md.1 i0 q) h2⟩
  · exact ⟨(X, G, Z), Iv_n hI0, b232_27_d md.1 i0 q⟩
theorem lw_loop (hL : L ≤ 4608) : ∀ (r n a : Nat) (M : aM), Iv sc L n M → a + 9 * r ≤ L → L < a + 9 * r + 9 → n + r ≤ 600 → ∃ M', run 63 232 18 [.ref 1, .ref 32, .ref 72, .int (iN a)] [] M = some (some (.int 1), M') ∧ Iv sc L (n + r) M' := by
  intro r
  induction r with
  | zero =>
    intro n a M hI h1 h2 h3
    have md := Iv_md hI
    refine ⟨M, Eq.trans (b232_18 md.1) ?_, hI⟩
    have hlt : (Int32.ofNat (mN M 1)) - 9 < iN a := by
      rw [md.2.1, ti_lt, ti_sub (by rw [show (Int32.ofNat L).toInt = (L : Int) from iN_int (by omega), l32_9]; omega) (by rw [show (Int32.ofNat L).toInt = (L : Int) from iN_int (by omega), l32_9]; omega), show (Int32.ofNat L).toInt = (L : Int) from iN_int (by omega), iN_int (by omega), l32_9]
      omega
    rw [if_pos hlt]
    exact b232_1406
  | succ r ih =>
    intro n a M hI h1 h2 h3
    have md := Iv_md hI
    obtain ⟨M2, i2, e2⟩ := lw_step (a := a) hL (by omega) (by omega) hI
    obtain ⟨M', e3, i3⟩ := ih (n + 1) (a + 9) M2 i2 (by omega) (by omega) (by omega)
    refine ⟨M', Eq.trans (b232_18 md.1) ?_, by rw [show n + (r + 1) = n + 1 + r by omega]; exact i3⟩
    have hlt : ¬ (Int32.ofNat (mN M 1)) - 9 < iN a := by
      rw [md.2.1, ti_lt, ti_sub (by rw [show (Int32.ofNat L).toInt = (L : Int) from iN_int (by omega), l32_9]; omega) (by rw [show (Int32.ofNat L).toInt = (L : Int) from iN_int (by omega), l32_9]; omega), show (Int32.ofNat L).toInt = (L : Int) from iN_int (by omega), iN_int (by omega), l32_9]
      omega
    rw [if_neg hlt, e2, b232_1400, show iN a + 9 = iN (a + 9) from iN_add (a := a) (b := 9)]
    exact e3
end LAW
