/-! STORIES ASKED: the class's fits, chance, weight -/
theorem emb_or {J' I : aI} {S : aS} {a : Nat} (h : a < 33 ∨ 57 ≤ a) (hJ : ∀ b, b ≠ a → J' b = embB 33 I S b) : J' = embB 33 (fun b => if b = a then J' a else I b) S := by
  funext b q
  by_cases e : b = a
  · subst e
    rw [embB_out (by omega), if_pos rfl]
  · rw [hJ b e]
    unfold embB
    by_cases hin : 33 ≤ b ∧ b < 33 + 24
    · rw [if_pos hin, if_pos hin]
      exact (cof_I (by rw [show 33 + (b - 33) = b by omega]; exact if_neg e)).symm
    · rw [if_neg hin, if_neg hin]
      show I b q = (if b = a then J' a else I b) q
      rw [if_neg e]
/-- what lies in the class's slots -/
def TXs (I : aI) (Z : aZ) (fr c : Nat) (rb : Bool) (kt : Nat → List aK) : Prop := ∀ i, i < c → ∃ lo hi, 112 ≤ lo ∧ TxC I Z lo hi (zR Z fr i) (kt i) ∧ (∀ k, k ∈ kt i → kg rb k) ∧ (kt i).length ≤ 14
def wZ (S : aS) (x : Int32) (j : Nat) : Int := (wd S x.toNatClampNeg j).toInt
def Wb (S : aS) : Prop := ∀ k, k < riN S → ∀ j, j < 13 → -10000000 ≤ (wd S k j).toInt ∧ (wd S k j).toInt ≤ 10000000
def there (S : aS) (c : Nat) (x y : Int32) : Bool := inB x 0 ((c : Int) - 1) && isRg S y
section ASK
variable {I : aI} {G : aL} {Z : aZ} {S : aS} {c : Nat} {kt : Nat → List aK} {x y : Int32}
theorem TxC_emb {I' : aI} {lo hi r : Nat} {ks : List aK} (h : TxC I Z lo hi r ks) (hlo : 112 ≤ lo) (hI : ∀ b, b ≠ 67 → b ≠ 68 → b ≠ 71 → I' b = I b) : TxC (embB 33 I' S) Z lo hi r ks := TxC_e h (Nat.le_refl _) (Nat.le_refl _) (fun b h1 _ => ⟨rfl, rfl, fun _ => rfl, by rw [embB_out (by omega), hI b (by omega) (by omega) (by omega)]⟩)
theorem there_ex (hw : Wf0 S) (hc : c ≤ 10) (h : there S c x y = true) : (∃ i, i < c ∧ x = iN i) ∧ ∃ k, k < riN S ∧ k < 7 ∧ y = iN k := by
  unfold there at h
  rw [Bool.and_eq_true, inB_iff] at h
  obtain ⟨h1, h2⟩ := h
  refine ⟨⟨x.toInt.toNat, by omega, ?_⟩, isRg_ex hw h2⟩
  rw [ti_eq, iN_int (by omega)]
  omega
theorem f_there (hZ : Shp Z) (hw : Wf0 S) (h8 : I 32 8 = iN c) (hc : c ≤ 10) : call 134 [.ref 32, .int x, .int y] (embB 33 I S, G, Z) = some (some (.int (bI (there S c x y))), (embB 33 I S, G, Z)) := by
  have e8 : mI (embB 33 I S, G, Z) 32 8 = iN c := by rw [mI_t, embB_out (by decide)]; exact h8
  have hx : inB x 0 ((c : Int) - 1) = true ↔ ¬ x < 0 ∧ x < iN c := by
    rw [inB_iff, ti_lt, ti_lt, l32_0, iN_int (by omega)]; omega
  refine Eq.trans e134 (Eq.trans b134_0 ?_)
  unfold there
  have no : inB x 0 ((c : Int) - 1) = false → run 2 134 30 [.ref 32, .int x, .int y] [] (embB 33 I S, G, Z) = some (some (.int (bI (inB x 0 ((c : Int) - 1) && isRg S y))), (embB 33 I S, G, Z)) := fun q => by
    rw [q, Bool.false_and]
    exact Eq.trans b134_30 (b134_31 rfl)
  by_cases h0 : x < 0
  · rw [if_pos h0]
    exact no (Bool.eq_false_iff.mpr (fun q => (hx.mp q).1 h0))
  · rw [if_neg h0]
    refine Eq.trans (b134_4 hZ.k32) ?_
    rw [e8]
    by_cases h1 : x < iN c
    · rw [if_neg (fun z => z h1)]
      refine Eq.trans (b134_12 hZ.k32 hZ.kr32_0 (by rw [hZ.r32_0]; exact hZ.kr33_0)) ?_
      rw [hZ.r32_0, hZ.r33_0, t_hasRing hZ hw]
      refine Eq.trans b134_23 ?_
      rw [bI_0, hx.mpr ⟨h0, h1⟩, Bool.true_and]
      cases isRg S y
      · exact Eq.trans (if_neg (by decide)) (Eq.trans b134_30 (b134_31 rfl))
      · exact Eq.trans (if_pos rfl) (Eq.trans b134_26 (b134_31 rfl))
    · rw [if_pos h1]
      exact no (Bool.eq_false_iff.mpr (fun q => h1 (hx.mp q).2))
/-- the judge turned to a ring -/
theorem f_turn (hZ : Shp Z) (hw : Wf0 S) (h1 : Wf1 S) (hB : Wb S) {k : Nat} (hk : k < 7) (hr : k < riN S) (hR : isRg S (iN k) = true) : ∃ I' : aI, call 2 [.ref 66, .ref 34, .int (iN k)] (embB 33 I S, G, Z) = some (none, (embB 33 I' S, G, Z)) ∧ (∀ j, j < 13 → (embB 33 I' S 67 j).toInt = wZ S (iN k) j) ∧ (∀ j, j < 13 → -10000000 ≤ wZ S (iN k) j ∧ wZ S (iN k) j ≤ 10000000) ∧ ∀ b, b ≠ 67 → I' b = I b := by
  obtain ⟨I', a1, a2, a3⟩ := c_words (I := I) (G := G) hZ hw h1 hk hr hR
  have e : (iN k).toNatClampNeg = k := iN_clamp (by omega)
  refine ⟨I', a1, fun j hj => ?_, fun j hj => ?_, a3⟩
  · unfold wZ
    rw [embB_out (by decide), a2 j hj, e]
  · unfold wZ
    rw [e]
    exact hB k hr j hj
theorem f_fits (hZ : Shp Z) (hw : Wf0 S) (h1 : Wf1 S) (hB : Wb S) (h8 : I 32 8 = iN c) (hc : c ≤ 10) (hT : TXs I Z 69 c false kt) : ∃ I' : aI, call 113 [.ref 32, .int x, .int y] (embB 33 I S, G, Z) = some (some (.int (if there S c x y = true then bI (aw (wZ S y) (kt x.toNatClampNeg)) else -1)), (embB 33 I' S, G, Z)) ∧ ∀ b, b ≠ 67 → b ≠ 68 → I' b = I b := by
  have st : call 113 [.ref 32, .int x, .int y] (embB 33 I S, G, Z) = if there S c x y = true then run 6 113 11 [.ref 32, .int x, .int y] [] (embB 33 I S, G, Z) else run 6 113 9 [.ref 32, .int x, .int y] [] (embB 33 I S, G, Z) := by
    refine Eq.trans e113 (Eq.trans (b113_0 hZ.k32) ?_)
    rw [f_there hZ hw h8 hc]
    refine Eq.trans b113_6 ?_
    rw [bI_n]
  rw [st]
  by_cases ht : there S c x y = true
  · rw [if_pos ht, if_pos ht]
    obtain ⟨⟨i, hi, rfl⟩, k, hk, hk7, rfl⟩ := there_ex hw hc ht
    have hR : isRg S (iN k) = true := by unfold there at ht; rw [Bool.and_eq_true] at ht; exact ht.2
    have hci : (iN i).toNatClampNeg = i := iN_clamp (by omega)
    obtain ⟨I1, a1, a2, a3, a4⟩ := f_turn (I := I) (G := G) hZ hw h1 hB hk7 hk hR
    obtain ⟨lo, hi', t1, t2, t3, t4⟩ := hT i hi
    have hT1 : TxC (embB 33 I1 S) Z lo hi' (zR Z 69 i) (kt i) := TxC_emb t2 t1 (fun b q1 _ _ => a4 b q1)
    obtain ⟨J', g1, g2⟩ := c_all (G := G) hZ a3 (rb := false) (by omega) t3 t4 (kt i) 0 (embB 33 I1 S) xU rfl (by omega) hT1 a2
    refine ⟨fun b => if b = 68 then J' 68 else I1 b, ?_, fun b q1 q2 => by show (if b = 68 then J' 68 else I1 b) = I b; rw [if_neg q2, a4 b q1]⟩
    rw [hci, ← emb_or (Or.inr (by decide)) g2]
    refine Eq.trans (b113_11 hZ.k32 hZ.kr32_0 hZ.kr32_4) ?_
    rw [hZ.r32_4, hZ.r32_0, hZ.r33_0, a1]
    refine Eq.trans (b113_26 hZ.k32 hZ.kr32_5 (hZ.ir32_5 (ib_iN (by omega) (by omega))) hZ.kr32_4) ?_
    rw [hZ.r32_4, hZ.r32_5, hci, mR_t]
    have ea : call 7 [.ref 66, .ref (zR Z 69 i)] (embB 33 I1 S, G, Z) = some (some (.int (bI (aw (wZ S (iN k)) (kt i)))), (J', G, Z)) := Eq.trans e7 (Eq.trans b7_0 g1)
    rw [ea]
    refine Eq.trans b113_39 ?_
    rw [bI_0]
    cases aw (wZ S (iN k)) (kt i)
    · exact Eq.trans (if_neg (by decide)) (Eq.trans b113_46 b113_47)
    · exact Eq.trans (if_pos rfl) (Eq.trans b113_42 b113_47)
  · rw [if_neg ht, if_neg ht]
    exact ⟨I, b113_9, fun _ _ _ => rfl⟩
theorem f_chance (hZ : Shp Z) (hw : Wf0 S) (h1 : Wf1 S) (hB : Wb S) (h8 : I 32 8 = iN c) (hc : c ≤ 10) (hT : TXs I Z 69 c false kt) {z : Int32} : ∃ I' : aI, call 115 [.ref 32, .int x, .int y, .int z] (embB 33 I S, G, Z) = some (some (.int (if there S c x y = true ∧ inB z 0 15 = true then ch (wZ S y) z (kt x.toNatClampNeg) else -1)), (embB 33 I' S, G, Z)) ∧ ∀ b, b ≠ 67 → b ≠ 68 → I' b = I b := by
  have st : call 115 [.ref 32, .int x, .int y, .int z] (embB 33 I S, G, Z) = if there S c x y = true ∧ inB z 0 15 = true then run 6 115 21 [.ref 32, .int x, .int y, .int z] [] (embB 33 I S, G, Z) else run 6 115 19 [.ref 32, .int x, .int y, .int z] [] (embB 33 I S, G, Z) := by
    refine Eq.trans e115 (Eq.trans (b115_0 hZ.k32) ?_)
    rw [f_there hZ hw h8 hc]
    refine Eq.trans b115_6 ?_
    rw [bI_0]
    by_cases ht : there S c x y = true
    · rw [if_pos ht]
      refine Eq.trans b115_9 ?_
      rw [c_within]
      refine Eq.trans b115_16 ?_
      rw [bI_n, show (0 : Int32).toInt = 0 from rfl, show (15 : Int32).toInt = 15 from rfl]
      by_cases hz : inB z 0 15 = true
      · rw [if_pos hz, if_pos ⟨ht, hz⟩]
      · rw [if_neg hz, if_neg (fun q => hz q.2)]
    · rw [if_neg ht, if_neg (fun q => ht q.1)]
  rw [st]
  by_cases hq : there S c x y = true ∧ inB z 0 15 = true
  · rw [if_pos hq, if_pos hq]
    have ht := hq.1
    obtain ⟨⟨i, hi, rfl⟩, k, hk, hk7, rfl⟩ := there_ex hw hc ht
    have hR : isRg S (iN k) = true := by unfold there at ht; rw [Bool.and_eq_true] at ht; exact ht.2
    have hci : (iN i).toNatClampNeg = i := iN_clamp (by omega)
    obtain ⟨I1, a1, a2, a3, a4⟩ := f_turn (I := I) (G := G) hZ hw h1 hB hk7 hk hR
    obtain ⟨lo, hi', t1, t2, t3, t4⟩ := hT i hi
    have hT1 : TxC (embB 33 I1 S) Z lo hi' (zR Z 69 i) (kt i) := TxC_emb t2 t1 (fun b q1 _ _ => a4 b q1)
    obtain ⟨J', g1, g2⟩ := c_ch (G := G) (y := z) hZ a3 (rb := false) (by omega) t3 t4 (kt i) 0 (embB 33 I1 S) xU rfl (by omega) hT1 a2
    refine ⟨fun b => if b = 68 then J' 68 else I1 b, ?_, fun b q1 q2 => by show (if b = 68 then J' 68 else I1 b) = I b; rw [if_neg q2, a4 b q1]⟩
    rw [hci, ← emb_or (Or.inr (by decide)) g2]
    refine Eq.trans (b115_21 hZ.k32 hZ.kr32_0 hZ.kr32_4) ?_
    rw [hZ.r32_4, hZ.r32_0, hZ.r33_0, a1]
    refine Eq.trans (b115_36 hZ.k32 hZ.kr32_5 (hZ.ir32_5 (ib_iN (by omega) (by omega))) hZ.kr32_4) ?_
    rw [hZ.r32_4, hZ.r32_5, hci, mR_t]
    have ea : call 8 [.ref 66, .ref (zR Z 69 i), .int z] (embB 33 I1 S, G, Z) = some (some (.int (ch (wZ S (iN k)) z (kt i))), (J', G, Z)) := Eq.trans e8 (Eq.trans b8_0 g1)
    rw [ea]
    exact b115_50
  · rw [if_neg hq, if_neg hq]
    exact ⟨I, b115_19, fun _ _ _ => rfl⟩
end ASK
