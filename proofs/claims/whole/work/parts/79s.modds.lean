/-! STORIES ASKED: the model's odds and made -/
section MOD
variable {I : aI} {G : aL} {Z : aZ} {S : aS} {c : Nat} {kt : Nat → List aK} {x y : Int32}
theorem s_odds (hZ : Shp Z) (hw : Wf0 S) (hB : Wb S) (h85 : I 85 0 = iN c) (hc : c ≤ 10) (hM : MXs I S c kt) : ∃ G' : aL, call 206 [.ref 72, .int x, .int y] (emb I S, G, Z) = some (some (.int (if there S c x y = true then oddS (wZ S y) kt (S 12) c x.toNatClampNeg else -1)), (emb I S, G', Z)) ∧ ∀ b, b ≠ 95 → b ≠ 96 → G' b = G b := by
  have st : call 206 [.ref 72, .int x, .int y] (emb I S, G, Z) = if there S c x y = true then run 8 206 11 [.ref 72, .int x, .int y, xU, xU, xU] [] (emb I S, G, Z) else run 8 206 9 [.ref 72, .int x, .int y, xU, xU, xU] [] (emb I S, G, Z) := by
    refine Eq.trans e206 (Eq.trans (b206_0 hZ.k72) ?_)
    rw [s_there hZ h85 hc]
    refine Eq.trans b206_6 ?_
    rw [bI_n]
  rw [st]
  by_cases ht : there S c x y = true
  · rw [if_pos ht, if_pos ht]
    obtain ⟨⟨i, hi, rfl⟩, k, hk, hk7, rfl⟩ := there_ex hw hc ht
    have hci : (iN i).toNatClampNeg = i := iN_clamp (by omega)
    have wone : ∀ (G1 : aL) (j : Nat), j < c → ∃ G' : aL, call 204 [.ref 72, .int (iN j), .int (iN k)] (emb I S, G1, Z) = some (some (.long (wg (wZ S (iN k)) (kt j) (S 12) 16)), (emb I S, G', Z)) ∧ ∀ b, b ≠ 95 → b ≠ 96 → G' b = G1 b := by
      intro G1 j hj
      obtain ⟨m1, m2, m3⟩ := hM j hj
      obtain ⟨G', a1, a2⟩ := m_weighs (G := G1) (x := iN k) hZ (wb_k hB hk hk7) (s := j) (by omega) m1 m2 m3 (lk_emb hZ hw hk7)
      rw [show emb I S 97 = S 12 from funext fun _ => id rfl] at a1
      exact ⟨G', a1, a2⟩
    have e85 : ∀ G1 : aL, mI (emb I S, G1, Z) 85 (0 : Int32).toNatClampNeg = iN c := fun _ => h85
    have ib0 : ∀ G1 : aL, ib (0 : Int32) (mN (emb I S, G1, Z) (mR (emb I S, G1, Z) 72 36)) := fun G1 => hZ.ir72_36 (ib_iN (a := 0) (by decide) (by decide))
    have key : ∀ j, j ≤ c → ∃ G1 : aL, (∀ b, b ≠ 95 → b ≠ 96 → G1 b = G b) ∧ run 8 206 16 [.ref 72, .int (iN i), .int (iN k), .long 0, xU, .int 0] [] (emb I S, G, Z) = run 8 206 16 [.ref 72, .int (iN i), .int (iN k), .long (sumW (wZ S (iN k)) kt (S 12) j), xU, .int (iN j)] [] (emb I S, G1, Z) := by
      intro j
      induction j with
      | zero => exact fun _ => ⟨G, fun _ _ _ => rfl, rfl⟩
      | succ j ih =>
        intro hj
        obtain ⟨G1, g1, g2⟩ := ih (by omega)
        obtain ⟨G2, w1, w2⟩ := wone G1 j (by omega)
        refine ⟨G2, fun b p1 p2 => by rw [w2 b p1 p2, g1 b p1 p2], Eq.trans g2 (Eq.trans (b206_16 hZ.k72 hZ.kr72_36 (ib0 G1)) ?_)⟩
        rw [hZ.r72_36, e85]
        refine Eq.trans (if_neg (fun z => z ((iN_lt (by omega) (by omega)).mpr (by omega)))) (Eq.trans (b206_27 hZ.k72) ?_)
        rw [w1]
        refine Eq.trans b206_35 ?_
        rw [iN_succ]; rfl
    obtain ⟨G1, g1, g2⟩ := key c (Nat.le_refl _)
    have pre : run 8 206 11 [.ref 72, .int (iN i), .int (iN k), xU, xU, xU] [] (emb I S, G, Z) = run 8 206 43 [.ref 72, .int (iN i), .int (iN k), .long (sumW (wZ S (iN k)) kt (S 12) c), xU, .int (iN c)] [] (emb I S, G1, Z) := by
      refine Eq.trans b206_11 (Eq.trans g2 (Eq.trans (b206_16 hZ.k72 hZ.kr72_36 (ib0 G1)) ?_))
      rw [hZ.r72_36, e85]
      exact if_pos (iN_nlt (by omega))
    rw [pre, b206_43, hci]
    unfold oddS
    by_cases h0 : (sumW (wZ S (iN k)) kt (S 12) c).toInt = 0
    · rw [if_pos h0]
      exact ⟨G1, Eq.trans (if_neg (fun z => z (lgc_eq.mpr h0))) (Eq.trans b206_49 b206_67), g1⟩
    · rw [if_neg h0]
      obtain ⟨G2, w1, w2⟩ := wone G1 i hi
      refine ⟨G2, Eq.trans (if_pos (fun z => h0 (lgc_eq.mp z))) (Eq.trans (b206_54 hZ.k72) ?_), fun b p1 p2 => by rw [w2 b p1 p2, g1 b p1 p2]⟩
      rw [w1]
      exact Eq.trans (b206_60 (fun z => h0 (by rw [z]; rfl))) b206_67
  · rw [if_neg ht, if_neg ht]
    exact ⟨G, b206_9, fun _ _ _ => rfl⟩
theorem s_made (hZ : Shp Z) (hw : Wf0 S) (hB : Wb S) (h85 : I 85 0 = iN c) (hc : c ≤ 10) (hM : MXs I S c kt) {z v : Int32} : ∃ (I' : aI) (G' : aL), call 207 [.ref 72, .int x, .int y, .int z, .int v] (emb I S, G, Z) = some (some (.int (if okM S c x y z v = true then (ouF (fun i => ch (wZ S y) (iN i) (kt x.toNatClampNeg)) (S 12) z.toInt64 v.toNatClampNeg).2 else -1)), (emb I' S, G', Z)) ∧ (∀ b, b ≠ 98 → I' b = I b) ∧ ∀ b, b ≠ 95 → b ≠ 96 → G' b = G b := by
  have st : call 207 [.ref 72, .int x, .int y, .int z, .int v] (emb I S, G, Z) = if okM S c x y z v = true then run 7 207 28 [.ref 72, .int x, .int y, .int z, .int v, xU, xU, xU, xU, xU, xU, xU] [] (emb I S, G, Z) else run 7 207 26 [.ref 72, .int x, .int y, .int z, .int v, xU, xU, xU, xU, xU, xU, xU] [] (emb I S, G, Z) := by
    refine Eq.trans e207 (Eq.trans (b207_0 hZ.k72) ?_)
    rw [s_there hZ h85 hc]
    refine Eq.trans b207_6 ?_
    rw [bI_0]
    unfold okM
    cases there S c x y
    · rfl
    · rw [if_pos rfl, Bool.true_and]
      refine Eq.trans b207_9 ?_
      by_cases hz : z < 0
      · rw [if_pos hz, decide_eq_true hz]; rfl
      · rw [if_neg hz, decide_eq_false hz]
        refine Eq.trans b207_13 ?_
        rw [m_in]
        refine Eq.trans b207_23 ?_
        rw [bI_n]
        rfl
  rw [st]
  by_cases hok : okM S c x y z v = true
  · rw [if_pos hok, if_pos hok]
    have hok' := hok
    unfold okM at hok'
    rw [Bool.and_eq_true, Bool.and_eq_true] at hok'
    obtain ⟨ht, hz, hv⟩ := hok'
    have hv' := inB_iff.mp hv
    obtain ⟨m, hm, hmv⟩ : ∃ m : Nat, m ≤ 200 ∧ v = iN m := ⟨v.toInt.toNat, by omega, by rw [ti_eq, iN_int (by omega)]; omega⟩
    obtain ⟨⟨i, hi, rfl⟩, k, hk, hk7, rfl⟩ := there_ex hw hc ht
    subst hmv
    obtain ⟨m1, m2, m3⟩ := hM i hi
    obtain ⟨S', G', a1, a2, a3⟩ := m_made (G := G) (S := emb I S) (x := iN k) (x3 := z) hZ (wb_k hB hk hk7) (s := i) (m := m) (by omega) m1 m2 (fun S' hS' => by
      rw [embm_or (a := 98) (by decide) rfl hS']
      exact lk_emb hZ hw hk7) (by omega)
    refine ⟨fun b => if b = 98 then S' 98 else I b, G', ?_, fun b hb => if_neg hb, a3⟩
    rw [← embm_or (a := 98) (by decide) rfl a2, a1, show emb I S 97 = S 12 from funext fun _ => id rfl, iN_clamp (by omega), iN_clamp (by omega)]
  · rw [if_neg hok, if_neg hok]
    exact ⟨I, G, b207_26, fun _ _ => rfl, fun _ _ _ => rfl⟩
end MOD
