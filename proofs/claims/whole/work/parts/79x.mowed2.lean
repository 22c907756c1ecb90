/-! MEN OWED: the model's, whole; both alike -/
section MO2
variable {I : aI} {G : aL} {Z : aZ} {S : aS} {c : Nat} {kt : Nat → List aK}
theorem s_owed (hZ : Shp Z) (hw : Wf0 S) (hB : Wb S) (h85 : I 85 1 = iN c) (hc : c ≤ 10) (hM : ∀ j, j < c → MX (emb I S) (10 + j) (kt j) ∧ ∀ k, k ∈ kt j → kg true k) : ∃ G' : aL, call 217 [.ref 72] (emb I S, G, Z) = some (some (.int (owM S kt c)), (emb I S, G', Z)) ∧ ∀ b, b ≠ 95 → b ≠ 96 → G' b = G b := by
  have e85 : ∀ G1 : aL, mI (emb I S, G1, Z) 85 (1 : Int32).toNatClampNeg = iN c := fun _ => h85
  have ib1 : ∀ G1 : aL, ib (1 : Int32) (mN (emb I S, G1, Z) (mR (emb I S, G1, Z) 72 36)) := fun G1 => hZ.ir72_36 (ib_iN (a := 1) (by decide) (by decide))
  have key : ∀ j, j ≤ c → ∃ (G1 : aL) (v3 v4 : Value), (∀ b, b ≠ 95 → b ≠ 96 → G1 b = G b) ∧ run 7 217 5 [.ref 72, .int 0, .int 10, xU, xU] [] (emb I S, G, Z) = run 7 217 5 [.ref 72, .int (owM S kt j), .int (iN (10 + j)), v3, v4] [] (emb I S, G1, Z) := by
    intro j
    induction j with
    | zero => exact fun _ => ⟨G, xU, xU, fun _ _ _ => rfl, rfl⟩
    | succ j ih =>
      intro hj
      obtain ⟨G1, v3, v4, g1, g2⟩ := ih (by omega)
      obtain ⟨m1, m2⟩ := hM j (by omega)
      obtain ⟨G2, v', r1, r2⟩ := m_owl (I := I) hZ hw hB (s := 10 + j) (by omega) m1 m2 (kt j) 0 (owM S kt j) v4 G1 rfl (by omega)
      refine ⟨G2, .int (iN (14 * (10 + j) + (kt j).length)), v', fun b p1 p2 => by rw [r2 b p1 p2, g1 b p1 p2], Eq.trans g2 (Eq.trans (b217_5 hZ.k72 hZ.kr72_36 (ib1 G1)) ?_)⟩
      rw [hZ.r72_36, e85, show (10 : Int32) = iN 10 from rfl, iN_add]
      refine Eq.trans (if_neg (fun z => z ((iN_lt (by omega) (by omega)).mpr (by omega)))) (Eq.trans b217_18 ?_)
      rw [show (14 : Int32) * iN (10 + j) = iN (14 * (10 + j) + 0) by rw [show (14 : Int32) = iN 14 from rfl, iN_mul (by omega) (by omega) (by omega)]; rfl]
      refine Eq.trans r1 (Eq.trans b217_102 ?_)
      rw [iN_succ]; rfl
  obtain ⟨G1, v3, v4, g1, g2⟩ := key c (Nat.le_refl _)
  refine ⟨G1, Eq.trans e217 (Eq.trans b217_0 (Eq.trans g2 (Eq.trans (b217_5 hZ.k72 hZ.kr72_36 (ib1 G1)) ?_))), g1⟩
  rw [hZ.r72_36, e85, show (10 : Int32) = iN 10 from rfl, iN_add]
  exact Eq.trans (if_pos (iN_nlt (by omega))) b217_108
end MO2
