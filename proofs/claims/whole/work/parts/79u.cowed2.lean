/-! MEN OWED: the class's -/
def rlF (S : aS) (w : Nat → Int) (kt : Nat → List aK) (a : Int32) : Nat → Int32
  | 0 => a
  | j + 1 => rlF S w kt a j ||| nbF S w 0 (kt j)
def owF (S : aS) (kt : Nat → List aK) (c : Nat) : Nat → Int32
  | 0 => 0
  | k + 1 => rlF S (wZ S (iN k)) kt (owF S kt c k) c
section OW2
variable {I : aI} {G : aL} {Z : aZ} {S : aS} {c : Nat} {kt : Nat → List aK}
theorem f_owed (hZ : Shp Z) (hw : Wf0 S) (h1 : Wf1 S) (hB : Wb S) (h9 : I 32 9 = iN c) (hc : c ≤ 10) (hT : TXs I Z 70 c true kt) : ∃ I' : aI, call 125 [.ref 32] (embB 33 I S, G, Z) = some (some (.int (owF S kt c (riN S))), (embB 33 I' S, G, Z)) ∧ ∀ b, b ≠ 67 → b ≠ 68 → I' b = I b := by
  have h7 := hw.1.2
  have key : ∀ k, k ≤ riN S → ∃ (I2 : aI) (v : Value), (∀ b, b ≠ 67 → b ≠ 68 → I2 b = I b) ∧ run 6 125 4 [.ref 32, .int 0, .int 0, xU] [] (embB 33 I S, G, Z) = run 6 125 4 [.ref 32, .int (owF S kt c k), .int (iN k), v] [] (embB 33 I2 S, G, Z) := by
    intro k
    induction k with
    | zero => exact fun _ => ⟨I, xU, fun _ _ _ => rfl, rfl⟩
    | succ k ih =>
      intro hk
      obtain ⟨I2, v, g1, g2⟩ := ih (by omega)
      have hR : isRg S (iN k) = true := by
        unfold isRg
        rw [inB_cnt hw.1.1 (by omega), hw.1.1]
        exact ⟨iN_nneg (by omega), (iN_lt (by omega) (by omega)).mpr (by omega)⟩
      obtain ⟨I3, a1, a2, a3, a4⟩ := f_turn (I := I2) (G := G) hZ hw h1 hB (show k < 7 by omega) (show k < riN S by omega) hR
      have inner : ∀ j, j ≤ c → ∃ J : aI, (∀ b, b ≠ 68 → J b = embB 33 I3 S b) ∧ run 6 125 35 [.ref 32, .int (owF S kt c k), .int (iN k), .int 0] [] (embB 33 I3 S, G, Z) = run 6 125 35 [.ref 32, .int (rlF S (wZ S (iN k)) kt (owF S kt c k) j), .int (iN k), .int (iN j)] [] (J, G, Z) := by
        intro j
        induction j with
        | zero => exact fun _ => ⟨embB 33 I3 S, fun _ _ => rfl, rfl⟩
        | succ j ihj =>
          intro hj
          obtain ⟨J, q1, q2⟩ := ihj (by omega)
          obtain ⟨lo, hi', t1, t2, t3, t4⟩ := hT j (by omega)
          have hT1 : TxC (embB 33 I3 S) Z lo hi' (zR Z 70 j) (kt j) := TxC_emb t2 t1 (fun b p1 p2 _ => by rw [a4 b p1, g1 b p1 p2])
          obtain ⟨J', w1, w2⟩ := c_named (G := G) (I := I3) (S := S) hZ a3 (by omega) t3 t4 (kt j) 0 J 0 xU rfl (by omega) q1 (TxC_68 hT1 (by omega) q1) (fun q hq => by rw [q1 67 (by decide)]; exact a2 q hq)
          have e9 : mI (J, G, Z) 32 9 = iN c := by rw [mI_t, q1 32 (by decide), embB_out (by decide), a4 32 (by decide), g1 32 (by decide) (by decide)]; exact h9
          have ea : call 136 [.ref 32, .ref (zR Z 70 j)] (J, G, Z) = some (some (.int (nbF S (wZ S (iN k)) 0 (kt j))), (J', G, Z)) := Eq.trans e136 (Eq.trans b136_0 w1)
          refine ⟨J', fun b hb => by rw [w2 b hb, q1 b hb], Eq.trans q2 (Eq.trans (b125_35 hZ.k32) ?_)⟩
          rw [e9]
          refine Eq.trans (if_neg (fun z => z ((iN_lt (by omega) (by omega)).mpr (by omega)))) (Eq.trans (b125_43 hZ.k32 hZ.kr32_6 (hZ.ir32_6 (ib_iN (by omega) (by omega)))) ?_)
          rw [hZ.r32_6, iN_clamp (by omega), mR_t, ea]
          refine Eq.trans b125_54 ?_
          rw [iN_succ]; rfl
      obtain ⟨J, q1, q2⟩ := inner c (Nat.le_refl _)
      have e9 : mI (J, G, Z) 32 9 = iN c := by rw [mI_t, q1 32 (by decide), embB_out (by decide), a4 32 (by decide), g1 32 (by decide) (by decide)]; exact h9
      have e11 : mI (embB 33 I2 S, G, Z) 34 11 = iN (riN S) := by rw [mI_t, ct11]; exact hw.1.1
      refine ⟨fun b => if b = 68 then J 68 else I3 b, .int (iN c), fun b p1 p2 => by show (if b = 68 then J 68 else I3 b) = I b; rw [if_neg p2, a4 b p1, g1 b p1 p2], Eq.trans g2 (Eq.trans (b125_4 hZ.k32 hZ.kr32_0 (by rw [hZ.r32_0]; exact hZ.kr33_0)) ?_)⟩
      rw [hZ.r32_0, hZ.r33_0, e11]
      refine Eq.trans (if_neg (fun z => z ((iN_lt (by omega) (by omega)).mpr (by omega)))) (Eq.trans (b125_18 hZ.k32 hZ.kr32_0 hZ.kr32_4) ?_)
      rw [hZ.r32_4, hZ.r32_0, hZ.r33_0, a1]
      refine Eq.trans b125_33 (Eq.trans q2 (Eq.trans (b125_35 hZ.k32) ?_))
      rw [e9]
      refine Eq.trans (if_pos (iN_nlt (by omega))) (Eq.trans b125_62 ?_)
      rw [iN_succ, ← emb_or (Or.inr (by decide)) q1]
      rfl
  obtain ⟨I2, v, g1, g2⟩ := key (riN S) (Nat.le_refl _)
  have e11 : mI (embB 33 I2 S, G, Z) 34 11 = iN (riN S) := by rw [mI_t, ct11]; exact hw.1.1
  refine ⟨I2, Eq.trans e125 (Eq.trans b125_0 (Eq.trans g2 (Eq.trans (b125_4 hZ.k32 hZ.kr32_0 (by rw [hZ.r32_0]; exact hZ.kr33_0)) ?_))), g1⟩
  rw [hZ.r32_0, hZ.r33_0, e11]
  exact Eq.trans (if_pos (iN_nlt (by omega))) b125_68
end OW2
