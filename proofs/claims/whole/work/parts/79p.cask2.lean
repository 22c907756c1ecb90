/-! STORIES ASKED: the class's weight, odds, made -/
def sumW (w : Nat → Int) (kt : Nat → List aK) (tl : Nat → Int32) : Nat → Int64
  | 0 => 0
  | i + 1 => sumW w kt tl i + wg w (kt i) tl 16
def oddS (w : Nat → Int) (kt : Nat → List aK) (tl : Nat → Int32) (c i : Nat) : Int32 := if (sumW w kt tl c).toInt = 0 then -2 else (wg w (kt i) tl 16 * 1000000 / sumW w kt tl c).toInt32
section AS2
variable {I : aI} {G : aL} {Z : aZ} {S : aS} {c : Nat} {kt : Nat → List aK} {x y : Int32}
theorem b55S : embB 33 I S 55 = S 12 := funext fun _ => id rfl
theorem f_weight (hZ : Shp Z) (hw : Wf0 S) (h1 : Wf1 S) (hB : Wb S) (h8 : I 32 8 = iN c) (hc : c ≤ 10) (hT : TXs I Z 69 c false kt) : ∃ I' : aI, call 116 [.ref 32, .int x, .int y] (embB 33 I S, G, Z) = some (some (.long (if there S c x y = true then wg (wZ S y) (kt x.toNatClampNeg) (S 12) 16 else -1)), (embB 33 I' S, G, Z)) ∧ ∀ b, b ≠ 67 → b ≠ 68 → I' b = I b := by
  have st : call 116 [.ref 32, .int x, .int y] (embB 33 I S, G, Z) = if there S c x y = true then run 7 116 13 [.ref 32, .int x, .int y] [] (embB 33 I S, G, Z) else run 7 116 9 [.ref 32, .int x, .int y] [] (embB 33 I S, G, Z) := by
    refine Eq.trans e116 (Eq.trans (b116_0 hZ.k32) ?_)
    rw [f_there hZ hw h8 hc]
    refine Eq.trans b116_6 ?_
    rw [bI_n]
  rw [st]
  by_cases ht : there S c x y = true
  · rw [if_pos ht, if_pos ht]
    obtain ⟨⟨i, hi, rfl⟩, k, hk, hk7, rfl⟩ := there_ex hw hc ht
    have hR : isRg S (iN k) = true := by unfold there at ht; rw [Bool.and_eq_true] at ht; exact ht.2
    have hci : (iN i).toNatClampNeg = i := iN_clamp (by omega)
    obtain ⟨I1, a1, a2, a3, a4⟩ := f_turn (I := I) (G := G) hZ hw h1 hB hk7 hk hR
    obtain ⟨lo, hi', t1, t2, t3, t4⟩ := hT i hi
    have hT1 : TxC (embB 33 I1 S) Z lo hi' (zR Z 69 i) (kt i) := TxC_emb t2 t1 (fun b q1 _ _ => a4 b q1)
    obtain ⟨J', g1, g2⟩ := c_wg (G := G) (a := 55) (m := 16) hZ a3 (rb := false) (by omega) t3 t4 hT1 a2 (by decide) (hZ.k55 (I := I) (G := G)) (hZ.n55 (I := I) (G := G)) (by omega)
    rw [b55S] at g1
    refine ⟨fun b => if b = 68 then J' 68 else I1 b, ?_, fun b q1 q2 => by show (if b = 68 then J' 68 else I1 b) = I b; rw [if_neg q2, a4 b q1]⟩
    rw [hci, ← emb_or (Or.inr (by decide)) g2]
    refine Eq.trans (b116_13 hZ.k32 hZ.kr32_0 hZ.kr32_4) ?_
    rw [hZ.r32_4, hZ.r32_0, hZ.r33_0, a1]
    refine Eq.trans (b116_28 hZ.k32 hZ.kr32_5 (hZ.ir32_5 (ib_iN (by omega) (by omega))) hZ.kr32_0 hZ.kr32_4) ?_
    rw [hZ.r32_4, hZ.r32_5, hZ.r32_0, hZ.r33_3, hci, mR_t, g1]
    exact b116_48
  · rw [if_neg ht, if_neg ht]
    exact ⟨I, b116_9, fun _ _ _ => rfl⟩
theorem f_odds (hZ : Shp Z) (hw : Wf0 S) (h1 : Wf1 S) (hB : Wb S) (h8 : I 32 8 = iN c) (hc : c ≤ 10) (hT : TXs I Z 69 c false kt) : ∃ I' : aI, call 117 [.ref 32, .int x, .int y] (embB 33 I S, G, Z) = some (some (.int (if there S c x y = true then oddS (wZ S y) kt (S 12) c x.toNatClampNeg else -1)), (embB 33 I' S, G, Z)) ∧ ∀ b, b ≠ 67 → b ≠ 68 → I' b = I b := by
  have st : call 117 [.ref 32, .int x, .int y] (embB 33 I S, G, Z) = if there S c x y = true then run 7 117 11 [.ref 32, .int x, .int y, xU, xU, xU] [] (embB 33 I S, G, Z) else run 7 117 9 [.ref 32, .int x, .int y, xU, xU, xU] [] (embB 33 I S, G, Z) := by
    refine Eq.trans e117 (Eq.trans (b117_0 hZ.k32) ?_)
    rw [f_there hZ hw h8 hc]
    refine Eq.trans b117_6 ?_
    rw [bI_n]
  rw [st]
  by_cases ht : there S c x y = true
  · rw [if_pos ht, if_pos ht]
    obtain ⟨⟨i, hi, rfl⟩, k, hk, hk7, rfl⟩ := there_ex hw hc ht
    have hR : isRg S (iN k) = true := by unfold there at ht; rw [Bool.and_eq_true] at ht; exact ht.2
    have hci : (iN i).toNatClampNeg = i := iN_clamp (by omega)
    obtain ⟨I1, a1, a2, a3, a4⟩ := f_turn (I := I) (G := G) hZ hw h1 hB hk7 hk hR
    -- a weight, wherever the stack stands
    have wone : ∀ (J : aI) (j : Nat), j < c → (∀ b, b ≠ 68 → J b = embB 33 I1 S b) → ∃ J' : aI, call 9 [.ref 66, .ref (zR Z 69 j), .ref 55] (J, G, Z) = some (some (.long (wg (wZ S (iN k)) (kt j) (S 12) 16)), (J', G, Z)) ∧ ∀ b, b ≠ 68 → J' b = embB 33 I1 S b := by
      intro J j hj hJ
      obtain ⟨lo, hi', t1, t2, t3, t4⟩ := hT j hj
      have hT1 : TxC (embB 33 I1 S) Z lo hi' (zR Z 69 j) (kt j) := TxC_emb t2 t1 (fun b q1 _ _ => a4 b q1)
      have hT2 := TxC_68 hT1 (by omega) hJ
      obtain ⟨J', g1, g2⟩ := c_wg (G := G) (a := 55) (m := 16) hZ a3 (rb := false) (by omega) t3 t4 hT2 (fun q hq => by rw [hJ 67 (by decide)]; exact a2 q hq) (by decide) (hZ.k55 (I := I) (G := G)) (hZ.n55 (I := I) (G := G)) (by omega)
      rw [hJ 55 (by decide), b55S] at g1
      exact ⟨J', g1, fun b hb => by rw [g2 b hb, hJ b hb]⟩
    have key : ∀ j, j ≤ c → ∃ J : aI, (∀ b, b ≠ 68 → J b = embB 33 I1 S b) ∧ run 7 117 31 [.ref 32, .int (iN i), .int (iN k), .long 0, xU, .int 0] [] (embB 33 I1 S, G, Z) = run 7 117 31 [.ref 32, .int (iN i), .int (iN k), .long (sumW (wZ S (iN k)) kt (S 12) j), xU, .int (iN j)] [] (J, G, Z) := by
      intro j
      induction j with
      | zero => exact fun _ => ⟨embB 33 I1 S, fun _ _ => rfl, rfl⟩
      | succ j ih =>
        intro hj
        obtain ⟨J, g1, g2⟩ := ih (by omega)
        obtain ⟨J', w1, w2⟩ := wone J j (by omega) g1
        have e8 : mI (J, G, Z) 32 8 = iN c := by rw [mI_t, g1 32 (by decide), embB_out (by decide), a4 32 (by decide)]; exact h8
        refine ⟨J', w2, Eq.trans g2 (Eq.trans (b117_31 hZ.k32) ?_)⟩
        rw [e8]
        refine Eq.trans (if_neg (fun z => z ((iN_lt (by omega) (by omega)).mpr (by omega)))) (Eq.trans (b117_40 hZ.k32 hZ.kr32_5 (hZ.ir32_5 (ib_iN (by omega) (by omega))) hZ.kr32_0 hZ.kr32_4) ?_)
        rw [hZ.r32_4, hZ.r32_5, hZ.r32_0, hZ.r33_3, iN_clamp (by omega), mR_t, w1]
        refine Eq.trans b117_62 ?_
        rw [iN_succ]; rfl
    obtain ⟨J, g1, g2⟩ := key c (Nat.le_refl _)
    have e8 : mI (J, G, Z) 32 8 = iN c := by rw [mI_t, g1 32 (by decide), embB_out (by decide), a4 32 (by decide)]; exact h8
    have pre : run 7 117 11 [.ref 32, .int (iN i), .int (iN k), xU, xU, xU] [] (embB 33 I S, G, Z) = run 7 117 70 [.ref 32, .int (iN i), .int (iN k), .long (sumW (wZ S (iN k)) kt (S 12) c), xU, .int (iN c)] [] (J, G, Z) := by
      refine Eq.trans (b117_11 hZ.k32 hZ.kr32_0 hZ.kr32_4) ?_
      rw [hZ.r32_4, hZ.r32_0, hZ.r33_0, a1]
      refine Eq.trans b117_26 (Eq.trans g2 (Eq.trans (b117_31 hZ.k32) ?_))
      rw [e8]
      exact if_pos (iN_nlt (by omega))
    rw [pre, b117_70, hci]
    unfold oddS
    by_cases h0 : (sumW (wZ S (iN k)) kt (S 12) c).toInt = 0
    · rw [if_pos h0]
      refine ⟨fun b => if b = 68 then J 68 else I1 b, ?_, fun b q1 q2 => by show (if b = 68 then J 68 else I1 b) = I b; rw [if_neg q2, a4 b q1]⟩
      rw [← emb_or (Or.inr (by decide)) g1]
      exact Eq.trans (if_neg (fun z => z (lgc_eq.mpr h0))) b117_76
    · rw [if_neg h0]
      obtain ⟨J', w1, w2⟩ := wone J i hi g1
      refine ⟨fun b => if b = 68 then J' 68 else I1 b, ?_, fun b q1 q2 => by show (if b = 68 then J' 68 else I1 b) = I b; rw [if_neg q2, a4 b q1]⟩
      rw [← emb_or (Or.inr (by decide)) w2]
      refine Eq.trans (if_pos (fun z => h0 (lgc_eq.mp z))) (Eq.trans (b117_79 hZ.k32 hZ.kr32_5 (hZ.ir32_5 (ib_iN (by omega) (by omega))) hZ.kr32_0 hZ.kr32_4) ?_)
      rw [hZ.r32_4, hZ.r32_5, hZ.r32_0, hZ.r33_3, hci, mR_t, w1]
      exact b117_99 (fun z => h0 (by rw [z]; rfl))
  · rw [if_neg ht, if_neg ht]
    exact ⟨I, b117_9, fun _ _ _ => rfl⟩
end AS2
