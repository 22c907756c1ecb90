/-! STORIES ASKED: the model's -/
theorem embm_or {J' I : aI} {S : aS} {a : Nat} (h : a ≠ 72) (hm : mar a = none) (hJ : ∀ b, b ≠ a → J' b = emb I S b) : J' = emb (fun b => if b = a then J' a else I b) S := by
  funext b q
  by_cases e : b = a
  · subst e
    unfold emb
    rw [if_neg h, hm]
    show _ = (if b = b then J' b else I b) q
    rw [if_pos rfl]
  · rw [hJ b e]
    unfold emb
    have eI : (if b = a then J' a else I b) = I b := if_neg e
    by_cases h72 : b = 72
    · rw [if_pos h72, if_pos h72]
      cases msc q with
      | some j => rfl
      | none => show I b q = (if b = a then J' a else I b) q; rw [eI]
    · rw [if_neg h72, if_neg h72]
      cases mar b with
      | some j => rfl
      | none => show I b q = (if b = a then J' a else I b) q; rw [eI]
def MXs (I : aI) (S : aS) (c : Nat) (kt : Nat → List aK) : Prop := ∀ i, i < c → MX (emb I S) i (kt i) ∧ (∀ k, k ∈ kt i → kg false k) ∧ cn14 (kt i) ≤ 1
section MAS
variable {I : aI} {G : aL} {Z : aZ} {S : aS} {c : Nat} {kt : Nat → List aK} {x y : Int32}
theorem lk_emb (hZ : Shp Z) (hw : Wf0 S) {k : Nat} (hk : k < 7) : Lk (emb I S) Z (wZ S (iN k)) (iN k) := by
  intro G
  obtain ⟨G', a1, a2, a3⟩ := m_looks (I := I) (G := G) hZ hw hk
  refine ⟨G', a1, fun j hj => ?_, a3⟩
  unfold wZ
  rw [a2 j hj, Int32.toInt_toInt64, iN_clamp (by omega)]
theorem wb_k (hB : Wb S) {k : Nat} (hr : k < riN S) (hk : k < 7) : ∀ j, j < 13 → -10000000 ≤ wZ S (iN k) j ∧ wZ S (iN k) j ≤ 10000000 := fun j hj => by
  unfold wZ
  rw [iN_clamp (by omega)]
  exact hB k hr j hj
theorem s_there (hZ : Shp Z) (h85 : I 85 0 = iN c) (hc : c ≤ 10) : call 198 [.ref 72, .int x, .int y] (emb I S, G, Z) = some (some (.int (bI (there S c x y))), (emb I S, G, Z)) := by
  have e85 : mI (emb I S, G, Z) 85 (0 : Int32).toNatClampNeg = iN c := h85
  have eb : ((iN c - 1).toInt64).toInt = (c : Int) - 1 := by
    rw [Int32.toInt_toInt64, ti_sub (by rw [iN_int (by omega), show (1 : Int32).toInt = 1 from rfl]; omega) (by rw [iN_int (by omega), show (1 : Int32).toInt = 1 from rfl]; omega), iN_int (by omega)]
    rfl
  refine Eq.trans e198 (Eq.trans (b198_0 hZ.k72 hZ.kr72_36 (hZ.ir72_36 (ib_iN (a := 0) (by decide) (by decide)))) ?_)
  rw [hZ.r72_36, e85, m_in, eb, show (0 : Int64).toInt = 0 from rfl]
  refine Eq.trans b198_15 ?_
  rw [bI_0]
  unfold there
  cases inB x 0 ((c : Int) - 1)
  · exact Eq.trans (if_neg (by decide)) (Eq.trans b198_30 (b198_31 rfl))
  · rw [if_pos rfl, Bool.true_and]
    refine Eq.trans (b198_18 hZ.k72) ?_
    rw [s_isRing hZ]
    refine Eq.trans b198_23 ?_
    rw [bI_0]
    cases isRg S y
    · exact Eq.trans (if_neg (by decide)) (Eq.trans b198_30 (b198_31 rfl))
    · exact Eq.trans (if_pos rfl) (Eq.trans b198_26 (b198_31 rfl))
theorem s_fits (hZ : Shp Z) (hw : Wf0 S) (hB : Wb S) (h85 : I 85 0 = iN c) (hc : c ≤ 10) (hM : MXs I S c kt) : ∃ G' : aL, call 200 [.ref 72, .int x, .int y] (emb I S, G, Z) = some (some (.int (if there S c x y = true then bI (aw (wZ S y) (kt x.toNatClampNeg)) else -1)), (emb I S, G', Z)) ∧ ∀ b, b ≠ 95 → b ≠ 96 → G' b = G b := by
  have st : call 200 [.ref 72, .int x, .int y] (emb I S, G, Z) = if there S c x y = true then run 7 200 13 [.ref 72, .int x, .int y] [] (emb I S, G, Z) else run 7 200 9 [.ref 72, .int x, .int y] [] (emb I S, G, Z) := by
    refine Eq.trans e200 (Eq.trans (b200_0 hZ.k72) ?_)
    rw [s_there hZ h85 hc]
    refine Eq.trans b200_6 ?_
    rw [bI_n]
  rw [st]
  by_cases ht : there S c x y = true
  · rw [if_pos ht, if_pos ht]
    obtain ⟨⟨i, hi, rfl⟩, k, hk, hk7, rfl⟩ := there_ex hw hc ht
    obtain ⟨m1, m2, m3⟩ := hM i hi
    obtain ⟨G', a1, a2⟩ := m_isFit (G := G) (x := iN k) hZ (wb_k hB hk hk7) (s := i) (by omega) m1 m2 (lk_emb hZ hw hk7)
    refine ⟨G', Eq.trans (b200_13 hZ.k72) ?_, a2⟩
    rw [a1, iN_clamp (by omega)]
    refine Eq.trans b200_19 ?_
    rw [bI_0]
    cases aw (wZ S (iN k)) (kt i)
    · exact Eq.trans (if_neg (by decide)) (Eq.trans b200_26 b200_27)
    · exact Eq.trans (if_pos rfl) (Eq.trans b200_22 b200_27)
  · rw [if_neg ht, if_neg ht]
    exact ⟨G, Eq.trans b200_9 b200_27, fun _ _ _ => rfl⟩
theorem s_chance (hZ : Shp Z) (hw : Wf0 S) (hB : Wb S) (h85 : I 85 0 = iN c) (hc : c ≤ 10) (hM : MXs I S c kt) {z : Int32} : ∃ G' : aL, call 203 [.ref 72, .int x, .int y, .int z] (emb I S, G, Z) = some (some (.int (if there S c x y = true ∧ inB z 0 15 = true then ch (wZ S y) z (kt x.toNatClampNeg) else -1)), (emb I S, G', Z)) ∧ ∀ b, b ≠ 95 → b ≠ 96 → G' b = G b := by
  have st : call 203 [.ref 72, .int x, .int y, .int z] (emb I S, G, Z) = if there S c x y = true ∧ inB z 0 15 = true then run 7 203 21 [.ref 72, .int x, .int y, .int z] [] (emb I S, G, Z) else run 7 203 31 [.ref 72, .int x, .int y, .int z] [] (emb I S, G, Z) := by
    refine Eq.trans e203 (Eq.trans (b203_0 hZ.k72) ?_)
    rw [s_there hZ h85 hc]
    refine Eq.trans b203_6 ?_
    rw [bI_0]
    by_cases ht : there S c x y = true
    · rw [if_pos ht]
      refine Eq.trans b203_9 ?_
      rw [m_in]
      refine Eq.trans b203_18 ?_
      rw [bI_0, show (0 : Int64).toInt = 0 from rfl, show (15 : Int64).toInt = 15 from rfl]
      by_cases hz : inB z 0 15 = true
      · rw [if_pos hz, if_pos ⟨ht, hz⟩]
      · rw [if_neg hz, if_neg (fun q => hz q.2)]
    · rw [if_neg ht, if_neg (fun q => ht q.1)]
  rw [st]
  by_cases hq : there S c x y = true ∧ inB z 0 15 = true
  · rw [if_pos hq, if_pos hq]
    obtain ⟨⟨i, hi, rfl⟩, k, hk, hk7, rfl⟩ := there_ex hw hc hq.1
    obtain ⟨m1, m2, m3⟩ := hM i hi
    obtain ⟨G', a1, a2⟩ := m_ch (G := G) (x := iN k) (y := z) hZ (wb_k hB hk hk7) (s := i) (by omega) m1 m2 (lk_emb hZ hw hk7)
    refine ⟨G', Eq.trans (b203_21 hZ.k72) ?_, a2⟩
    rw [a1, iN_clamp (by omega)]
    exact Eq.trans b203_28 b203_32
  · rw [if_neg hq, if_neg hq]
    exact ⟨G, Eq.trans b203_31 b203_32, fun _ _ _ => rfl⟩
theorem s_weight (hZ : Shp Z) (hw : Wf0 S) (hB : Wb S) (h85 : I 85 0 = iN c) (hc : c ≤ 10) (hM : MXs I S c kt) : ∃ G' : aL, call 205 [.ref 72, .int x, .int y] (emb I S, G, Z) = some (some (.long (if there S c x y = true then wg (wZ S y) (kt x.toNatClampNeg) (S 12) 16 else -1)), (emb I S, G', Z)) ∧ ∀ b, b ≠ 95 → b ≠ 96 → G' b = G b := by
  have st : call 205 [.ref 72, .int x, .int y] (emb I S, G, Z) = if there S c x y = true then run 8 205 9 [.ref 72, .int x, .int y] [] (emb I S, G, Z) else run 8 205 18 [.ref 72, .int x, .int y] [] (emb I S, G, Z) := by
    refine Eq.trans e205 (Eq.trans (b205_0 hZ.k72) ?_)
    rw [s_there hZ h85 hc]
    refine Eq.trans b205_6 ?_
    rw [bI_0]
  rw [st]
  by_cases ht : there S c x y = true
  · rw [if_pos ht, if_pos ht]
    obtain ⟨⟨i, hi, rfl⟩, k, hk, hk7, rfl⟩ := there_ex hw hc ht
    obtain ⟨m1, m2, m3⟩ := hM i hi
    obtain ⟨G', a1, a2⟩ := m_weighs (G := G) (x := iN k) hZ (wb_k hB hk hk7) (s := i) (by omega) m1 m2 m3 (lk_emb hZ hw hk7)
    refine ⟨G', Eq.trans (b205_9 hZ.k72) ?_, a2⟩
    rw [a1, iN_clamp (by omega), show emb I S 97 = S 12 from funext fun _ => id rfl]
    exact Eq.trans b205_15 b205_21
  · rw [if_neg ht, if_neg ht]
    exact ⟨G, Eq.trans b205_18 b205_21, fun _ _ _ => rfl⟩
end MAS
