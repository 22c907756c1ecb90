/-! STORIES ASKED: the class's made -/
section CMD
variable {I : aI} {G : aL} {Z : aZ} {S : aS} {c : Nat} {kt : Nat → List aK} {x y : Int32}
def okM (S : aS) (c : Nat) (x y z v : Int32) : Bool := there S c x y && (!decide (z < 0) && inB v 1 200)
theorem f_made (hZ : Shp Z) (hw : Wf0 S) (h1 : Wf1 S) (hB : Wb S) (h8 : I 32 8 = iN c) (hc : c ≤ 10) (hT : TXs I Z 69 c false kt) {z v : Int32} : ∃ I' : aI, call 118 [.ref 32, .int x, .int y, .int z, .int v] (embB 33 I S, G, Z) = some (some (.int (if okM S c x y z v = true then (ouF (fun i => ch (wZ S y) (iN i) (kt x.toNatClampNeg)) (S 12) z.toInt64 v.toNatClampNeg).2 else -1)), (embB 33 I' S, G, Z)) ∧ ∀ b, b ≠ 67 → b ≠ 68 → b ≠ 71 → I' b = I b := by
  have st : call 118 [.ref 32, .int x, .int y, .int z, .int v] (embB 33 I S, G, Z) = if okM S c x y z v = true then run 6 118 27 [.ref 32, .int x, .int y, .int z, .int v, xU] [] (embB 33 I S, G, Z) else run 6 118 25 [.ref 32, .int x, .int y, .int z, .int v, xU] [] (embB 33 I S, G, Z) := by
    refine Eq.trans e118 (Eq.trans (b118_0 hZ.k32) ?_)
    rw [f_there hZ hw h8 hc]
    refine Eq.trans b118_6 ?_
    rw [bI_0]
    unfold okM
    cases there S c x y
    · rfl
    · rw [if_pos rfl, Bool.true_and]
      refine Eq.trans b118_9 ?_
      by_cases hz : z < 0
      · rw [if_pos hz, decide_eq_true hz]; rfl
      · rw [if_neg hz, decide_eq_false hz]
        refine Eq.trans b118_13 ?_
        rw [c_within]
        refine Eq.trans b118_22 ?_
        rw [bI_n]
        rfl
  rw [st]
  by_cases hok : okM S c x y z v = true
  · rw [if_pos hok, if_pos hok]
    have hok' := hok
    unfold okM at hok'
    rw [Bool.and_eq_true, Bool.and_eq_true] at hok'
    obtain ⟨ht, hz, hv⟩ := hok'
    have hv' := inB_iff.mp hv
    obtain ⟨m, hm, hmv⟩ : ∃ m : Nat, m ≤ 200 ∧ v = iN m := ⟨v.toInt.toNat, by omega, by rw [ti_eq, iN_int (by omega)]; omega⟩
    obtain ⟨⟨i, hi, rfl⟩, k, hk, hk7, rfl⟩ := there_ex hw hc ht
    have hR : isRg S (iN k) = true := by unfold there at ht; rw [Bool.and_eq_true] at ht; exact ht.2
    have hci : (iN i).toNatClampNeg = i := iN_clamp (by omega)
    obtain ⟨I1, a1, a2, a3, a4⟩ := f_turn (I := I) (G := G) hZ hw h1 hB hk7 hk hR
    obtain ⟨lo, hi', t1, t2, t3, t4⟩ := hT i hi
    subst hmv
    have key : ∀ j, j ≤ 16 → ∃ I2 : aI, (∀ b, b ≠ 68 → b ≠ 71 → I2 b = I1 b) ∧ (∀ q, q < j → I2 71 q = ch (wZ S (iN k)) (iN q) (kt i)) ∧ run 6 118 45 [.ref 32, .int (iN i), .int (iN k), .int z, .int (iN m), .int 0] [] (embB 33 I1 S, G, Z) = run 6 118 45 [.ref 32, .int (iN i), .int (iN k), .int z, .int (iN m), .int (iN j)] [] (embB 33 I2 S, G, Z) := by
      intro j
      induction j with
      | zero => exact fun _ => ⟨I1, fun _ _ _ => rfl, fun q hq => absurd hq (Nat.not_lt_zero _), rfl⟩
      | succ j ih =>
        intro hj
        obtain ⟨I2, g1, g2, g3⟩ := ih (by omega)
        have hT1 : TxC (embB 33 I2 S) Z lo hi' (zR Z 69 i) (kt i) := TxC_emb t2 t1 (fun b q1 q2 q3 => by rw [g1 b q2 q3, a4 b q1])
        have hw2 : ∀ q, q < 13 → (embB 33 I2 S 67 q).toInt = wZ S (iN k) q := fun q hq => by
          have := a2 q hq
          rw [embB_out (by decide)] at this ⊢
          rw [g1 67 (by decide) (by decide)]
          exact this
        obtain ⟨J', q1, q2⟩ := c_ch (G := G) (y := iN j) hZ a3 (rb := false) (by omega) t3 t4 (kt i) 0 (embB 33 I2 S) xU rfl (by omega) hT1 hw2
        have ea : call 8 [.ref 66, .ref (zR Z 69 i), .int (iN j)] (embB 33 I2 S, G, Z) = some (some (.int (ch (wZ S (iN k)) (iN j) (kt i))), (J', G, Z)) := Eq.trans e8 (Eq.trans b8_0 q1)
        have eJ := emb_or (J' := J') (I := I2) (S := S) (a := 68) (Or.inr (by decide)) q2
        refine ⟨up2 (fun b => if b = 68 then J' 68 else I2 b) 71 j (ch (wZ S (iN k)) (iN j) (kt i)), fun b e1 e2 => ?_, fun q hq => ?_, Eq.trans g3 (Eq.trans b118_45 (Eq.trans (if_neg (fun w => w ((iN_lt (b := 16) (by omega) (by omega)).mpr (by omega)))) (Eq.trans (b118_52 hZ.k32 hZ.kr32_5 (hZ.ir32_5 (by exact ib_iN (by omega) (by omega))) hZ.kr32_4) ?_)))⟩
        · rw [up_o e2]
          show (if b = 68 then J' 68 else I2 b) = I1 b
          rw [if_neg e1, g1 b e1 e2]
        · by_cases e : q = j
          · subst e; rw [up2_s]
          · rw [up2_k e]
            show (if 71 = 68 then J' 68 else I2 71) q = _
            rw [if_neg (by decide)]
            exact g2 q (by omega)
        · rw [hZ.r32_4, hZ.r32_5, hZ.r32_7, hci, mR_t, ea]
          refine Eq.trans (b118_73 hZ.k71 (hZ.i71 (ib_iN (by omega) (by omega)))) ?_
          rw [iN_clamp (by omega), wI_t, iN_succ]
          have eq : up2 J' 71 j (ch (wZ S (iN k)) (iN j) (kt i)) = embB 33 (up2 (fun b => if b = 68 then J' 68 else I2 b) 71 j (ch (wZ S (iN k)) (iN j) (kt i))) S := by
            rw [← embB_o (Or.inr (by decide)), ← eJ]
          rw [eq]
    obtain ⟨I2, g1, g2, g3⟩ := key 16 (Nat.le_refl _)
    refine ⟨I2, ?_, fun b q1 q2 q3 => by rw [g1 b q2 q3, a4 b q1]⟩
    refine Eq.trans (b118_27 hZ.k32 hZ.kr32_0 hZ.kr32_4) ?_
    rw [hZ.r32_4, hZ.r32_0, hZ.r33_0, a1]
    refine Eq.trans b118_42 (Eq.trans g3 (Eq.trans b118_45 (Eq.trans (if_pos (by decide)) (Eq.trans (b118_80 hZ.k32) ?_))))
    rw [c_seen hZ (by omega)]
    refine Eq.trans b118_87 ?_
    have r55 : zR Z 33 3 = 55 := hZ.r33_3 (I := I) (G := G)
    rw [r55, b55S, show embB 33 I2 S 71 = I2 71 from embB_out (by decide), ouF_e (cs := fun i' => ch (wZ S (iN k)) (iN i') (kt i)) g2, hci, iN_clamp (by omega)]
  · rw [if_neg hok, if_neg hok]
    exact ⟨I, b118_25, fun _ _ _ _ => rfl⟩
end CMD
