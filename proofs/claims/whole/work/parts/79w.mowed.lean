/-! MEN OWED: the model's -/
def bt2 (S : aS) (k : aK) : Int32 := if lt17 S k = true ∧ askF S k.2.2.2 (riN S) = true then 1 <<< (k.2.1 &&& 31) else 0
def cmF (S : aS) (a : Int32) : List aK → Int32
  | [] => a
  | k :: l => cmF S (a ||| bt2 S k) l
def owM (S : aS) (kt : Nat → List aK) : Nat → Int32
  | 0 => 0
  | j + 1 => cmF S (owM S kt j) (kt j)
section MOW
variable {I : aI} {G : aL} {Z : aZ} {S : aS}
theorem m_owl (hZ : Shp Z) (hw : Wf0 S) (hB : Wb S) {s : Nat} (hs : s < 20) {ks : List aK} (hM : MX (emb I S) s ks) (hg : ∀ k, k ∈ ks → kg true k) : ∀ (l : List aK) (i : Nat) (a : Int32) (v : Value) (G : aL), ks = ks.take i ++ l → i + l.length = ks.length → ∃ (G' : aL) (v' : Value), run 7 217 23 [.ref 72, .int a, .int (iN s), .int (iN (14 * s + i)), v] [] (emb I S, G, Z) = run 7 217 102 [.ref 72, .int (cmF S a l), .int (iN s), .int (iN (14 * s + ks.length)), v'] [] (emb I S, G', Z) ∧ ∀ b, b ≠ 95 → b ≠ 96 → G' b = G b := by
  have hlen := hM.2.1
  have e14 : (14 : Int32) * iN s = iN (14 * s) := by rw [show (14 : Int32) = iN 14 from rfl, iN_mul (by omega) (by omega) (by omega)]
  have e88 : ∀ G : aL, mI (emb I S, G, Z) 88 s = iN ks.length := fun _ => hM.1
  have hcs : (iN s).toNatClampNeg = s := iN_clamp (by omega)
  have ib88 : ∀ G : aL, ib (iN s) (mN (emb I S, G, Z) (mR (emb I S, G, Z) 72 39)) := fun G => hZ.ir72_39 (ib_iN (by omega) hs)
  intro l
  induction l with
  | nil =>
    intro i a v G _ hi
    have hi : i = ks.length := hi
    refine ⟨G, v, Eq.trans (b217_23 hZ.k72 hZ.kr72_39 (ib88 G)) ?_, fun _ _ _ => rfl⟩
    rw [hZ.r72_39, hcs, e88, e14, iN_add, ← hi]
    exact if_pos (iN_nlt (by omega))
  | cons k l ih =>
    intro i a v G hks hi
    rw [List.length_cons] at hi
    obtain ⟨hik, hmem, hks'⟩ := tk_s hks (by omega)
    have hkg := hg k hmem
    have hC := hM.2.2.2.1 i (by omega)
    rw [hik] at hC
    have h17 : k.1 = 17 := of_decide_eq_true hkg.2.2.1
    obtain ⟨d1, d2⟩ := hC.2.2.2.2.2 h17
    have hib : ib (iN (14 * s + i)) 280 := ib_iN (by omega) (by omega)
    have hcx : (iN (14 * s + i)).toNatClampNeg = 14 * s + i := iN_clamp (by omega)
    have hb := inB_iff.mp (hkg.2.2.2.2.2 h17).1
    have hibw : ib k.2.1 10 := by
      rintro (q | q)
      · rw [ti_lt, l32_0] at q; omega
      · rw [Int32.toNatClampNeg] at q; omega
    have m90 : ∀ G1 : aL, mI (emb I S, G1, Z) 90 (14 * s + i) = k.2.1 := fun _ => d1
    have m91 : ∀ G1 : aL, mI (emb I S, G1, Z) 91 (14 * s + i) = k.2.2.1 := fun _ => d2
    have m99 : mI (emb I S, G, Z) 99 k.2.1.toNatClampNeg = S 13 k.2.1.toNatClampNeg := id rfl
    have m2 : mI (emb I S, G, Z) 72 2 = S 0 0 := id rfl
    have out : ∀ (G1 : aL) (x4 b' : Int32), (∀ b, b ≠ 95 → b ≠ 96 → G1 b = G b) → b' = bt2 S k → ∃ (G' : aL) (v' : Value), run 7 217 94 [.ref 72, .int a, .int (iN s), .int (iN (14 * s + i)), .int x4] [.int b', .int a] (emb I S, G1, Z) = run 7 217 102 [.ref 72, .int (cmF S a (k :: l)), .int (iN s), .int (iN (14 * s + ks.length)), v'] [] (emb I S, G', Z) ∧ ∀ b, b ≠ 95 → b ≠ 96 → G' b = G b := by
      intro G1 x4 b' hG hb'
      obtain ⟨G', v', r1, r2⟩ := ih (i + 1) (a ||| b') (.int x4) G1 hks' (by omega)
      refine ⟨G', v', Eq.trans b217_94 ?_, fun b p1 p2 => by rw [r2 b p1 p2, hG b p1 p2]⟩
      rw [iN_succ, cmF, ← hb']
      exact r1
    have asked : ∀ x4 : Int32, lt17 S k = true → ∃ (G' : aL) (v' : Value), run 7 217 74 [.ref 72, .int a, .int (iN s), .int (iN (14 * s + i)), .int x4] [.int a] (emb I S, G, Z) = run 7 217 102 [.ref 72, .int (cmF S a (k :: l)), .int (iN s), .int (iN (14 * s + ks.length)), v'] [] (emb I S, G', Z) ∧ ∀ b, b ≠ 95 → b ≠ 96 → G' b = G b := by
      intro x4 hlt
      obtain ⟨G1, q1, q2⟩ := m_asked (G := G) hZ hw hB hs hM hg hks (by omega)
      rw [b217_74 hZ.k72, q1]
      show ∃ (G' : aL) (v' : Value), run 7 217 79 [.ref 72, .int a, .int (iN s), .int (iN (14 * s + i)), .int x4] [.int (bI (askF S k.2.2.2 (riN S))), .int a] (emb I S, G1, Z) = _ ∧ _
      rw [b217_79, bI_0]
      cases ha : askF S k.2.2.2 (riN S)
      · rw [if_neg (by decide), b217_93]
        exact out G1 x4 0 q2 (by unfold bt2; rw [if_neg (fun q => by rw [ha] at q; cases q.2)])
      · rw [if_pos rfl, b217_82 hZ.k72 hZ.kr72_41 (hZ.ir72_41 hib), hZ.r72_41, hcx, m90]
        exact out G1 x4 _ q2 (by unfold bt2; rw [if_pos ⟨hlt, ha⟩])
    have st : run 7 217 23 [.ref 72, .int a, .int (iN s), .int (iN (14 * s + i)), v] [] (emb I S, G, Z) = if S 13 k.2.1.toNatClampNeg = -1 then run 7 217 74 [.ref 72, .int a, .int (iN s), .int (iN (14 * s + i)), .int (S 13 k.2.1.toNatClampNeg)] [.int a] (emb I S, G, Z) else run 7 217 58 [.ref 72, .int a, .int (iN s), .int (iN (14 * s + i)), .int (S 13 k.2.1.toNatClampNeg)] [.int a] (emb I S, G, Z) := by
      refine Eq.trans (b217_23 hZ.k72 hZ.kr72_39 (ib88 G)) ?_
      rw [hZ.r72_39, hcs, e88, e14, iN_add]
      refine Eq.trans (if_neg (fun z => z ((iN_lt (by omega) (by omega)).mpr (by omega)))) (Eq.trans (b217_38 hZ.k72 hZ.kr72_41 (hZ.ir72_41 hib) hZ.kr72_50 (hZ.ir72_50 (by rw [hZ.r72_41, hcx, m90]; exact hibw))) ?_)
      rw [hZ.r72_41, hZ.r72_50, hcx, m90, m99]
    rw [st]
    by_cases h1 : S 13 k.2.1.toNatClampNeg = -1
    · rw [if_pos h1]
      exact asked _ (by unfold lt17; rw [decide_eq_true h1, Bool.true_or])
    · rw [if_neg h1, b217_58 hZ.k72 hZ.kr72_42 (hZ.ir72_42 hib), hZ.r72_42, hcx, m91, m2]
      by_cases h2 : S 0 0 - S 13 k.2.1.toNatClampNeg < k.2.2.1
      · rw [if_pos h2, b217_93]
        have nl : lt17 S k = false := by unfold lt17; rw [decide_eq_false h1, decide_eq_true h2]; rfl
        exact out G _ 0 (fun _ _ _ => rfl) (by unfold bt2; rw [if_neg (fun q => by rw [nl] at q; cases q.1)])
      · rw [if_neg h2]
        exact asked _ (by unfold lt17; rw [decide_eq_false h2, Bool.not_false, Bool.or_true])
end MOW
