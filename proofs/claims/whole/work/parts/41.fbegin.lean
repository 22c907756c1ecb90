/-! THE FACE'S begin over S: old layers and edges are left where they lie -/
theorem embB_self {b : Nat} {I : aI} {S : aS} (h : ∀ a k, a < 24 → cof I S b a k = I (b + a) k) : embB b I S = I := by
  funext a k
  by_cases hin : b ≤ a ∧ a < b + 24
  · have e : a = b + (a - b) := by omega
    rw [e, embB_at (by omega), h _ _ (by omega)]
  · rw [embB_out (by omega)]
theorem cB_out {I : aI} {x1 x2 x3 x4 x5 : Int32} {a k : Nat} (h : a ≠ 34) : cBegin I x1 x2 x3 x4 x5 a k = I a k := by
  unfold cBegin
  simp only [up2_a h]
theorem begin_c {S : aS} {x1 x2 x3 x4 x5 : Int32} {c : Nat} (h : c ≠ 0) : beginS S x1 x2 x3 x4 x5 c = S c := by
  funext i
  unfold beginS
  simp only [up2_a h]
theorem csc_hi {k : Nat} (hk : ¬ k < 19) : csc k = none := by
  unfold csc
  split <;> first | rfl | omega
theorem beg_k0 {I : aI} {S : aS} {x1 x2 x3 x4 x5 : Int32} : ctk (cBegin (embB 33 I S) x1 x2 x3 x4 x5) (beginS S x1 x2 x3 x4 x5) 33 0 = cBegin (embB 33 I S) x1 x2 x3 x4 x5 34 0 := by
  unfold ctk
  rw [show csc 0 = none from rfl]
  show (if 0 = 12 then low (beginS S x1 x2 x3 x4 x5) (riN (beginS S x1 x2 x3 x4 x5)) else if 0 = 14 then dep (beginS S x1 x2 x3 x4 x5) else cBegin (embB 33 I S) x1 x2 x3 x4 x5 34 0) = _
  rw [if_neg (by decide), if_neg (by decide)]
theorem beg_k1 {I : aI} {S : aS} {x1 x2 x3 x4 x5 : Int32} : ctk (cBegin (embB 33 I S) x1 x2 x3 x4 x5) (beginS S x1 x2 x3 x4 x5) 33 1 = cBegin (embB 33 I S) x1 x2 x3 x4 x5 34 1 := by
  unfold cBegin
  rfl
theorem beg_k2 {I : aI} {S : aS} {x1 x2 x3 x4 x5 : Int32} : ctk (cBegin (embB 33 I S) x1 x2 x3 x4 x5) (beginS S x1 x2 x3 x4 x5) 33 2 = cBegin (embB 33 I S) x1 x2 x3 x4 x5 34 2 := by
  unfold cBegin
  rfl
theorem beg_k3 {I : aI} {S : aS} {x1 x2 x3 x4 x5 : Int32} : ctk (cBegin (embB 33 I S) x1 x2 x3 x4 x5) (beginS S x1 x2 x3 x4 x5) 33 3 = cBegin (embB 33 I S) x1 x2 x3 x4 x5 34 3 := by
  unfold cBegin
  rfl
theorem beg_k4 {I : aI} {S : aS} {x1 x2 x3 x4 x5 : Int32} : ctk (cBegin (embB 33 I S) x1 x2 x3 x4 x5) (beginS S x1 x2 x3 x4 x5) 33 4 = cBegin (embB 33 I S) x1 x2 x3 x4 x5 34 4 := by
  unfold cBegin
  rfl
theorem beg_k5 {I : aI} {S : aS} {x1 x2 x3 x4 x5 : Int32} : ctk (cBegin (embB 33 I S) x1 x2 x3 x4 x5) (beginS S x1 x2 x3 x4 x5) 33 5 = cBegin (embB 33 I S) x1 x2 x3 x4 x5 34 5 := by
  unfold cBegin
  rfl
theorem beg_k6 {I : aI} {S : aS} {x1 x2 x3 x4 x5 : Int32} : ctk (cBegin (embB 33 I S) x1 x2 x3 x4 x5) (beginS S x1 x2 x3 x4 x5) 33 6 = cBegin (embB 33 I S) x1 x2 x3 x4 x5 34 6 := by
  unfold cBegin
  rfl
theorem beg_k7 {I : aI} {S : aS} {x1 x2 x3 x4 x5 : Int32} : ctk (cBegin (embB 33 I S) x1 x2 x3 x4 x5) (beginS S x1 x2 x3 x4 x5) 33 7 = cBegin (embB 33 I S) x1 x2 x3 x4 x5 34 7 := by
  unfold cBegin
  rfl
theorem beg_k8 {I : aI} {S : aS} {x1 x2 x3 x4 x5 : Int32} : ctk (cBegin (embB 33 I S) x1 x2 x3 x4 x5) (beginS S x1 x2 x3 x4 x5) 33 8 = cBegin (embB 33 I S) x1 x2 x3 x4 x5 34 8 := by
  unfold cBegin
  rfl
theorem beg_k9 {I : aI} {S : aS} {x1 x2 x3 x4 x5 : Int32} : ctk (cBegin (embB 33 I S) x1 x2 x3 x4 x5) (beginS S x1 x2 x3 x4 x5) 33 9 = cBegin (embB 33 I S) x1 x2 x3 x4 x5 34 9 := by
  unfold cBegin
  rfl
theorem beg_k10 {I : aI} {S : aS} {x1 x2 x3 x4 x5 : Int32} : ctk (cBegin (embB 33 I S) x1 x2 x3 x4 x5) (beginS S x1 x2 x3 x4 x5) 33 10 = cBegin (embB 33 I S) x1 x2 x3 x4 x5 34 10 := by
  unfold cBegin
  rfl
theorem beg_k11 {I : aI} {S : aS} {x1 x2 x3 x4 x5 : Int32} : ctk (cBegin (embB 33 I S) x1 x2 x3 x4 x5) (beginS S x1 x2 x3 x4 x5) 33 11 = cBegin (embB 33 I S) x1 x2 x3 x4 x5 34 11 := by
  unfold cBegin
  rfl
theorem beg_k13 {I : aI} {S : aS} {x1 x2 x3 x4 x5 : Int32} : ctk (cBegin (embB 33 I S) x1 x2 x3 x4 x5) (beginS S x1 x2 x3 x4 x5) 33 13 = cBegin (embB 33 I S) x1 x2 x3 x4 x5 34 13 := by
  unfold cBegin
  rfl
theorem beg_k15 {I : aI} {S : aS} {x1 x2 x3 x4 x5 : Int32} : ctk (cBegin (embB 33 I S) x1 x2 x3 x4 x5) (beginS S x1 x2 x3 x4 x5) 33 15 = cBegin (embB 33 I S) x1 x2 x3 x4 x5 34 15 := by
  unfold cBegin
  rfl
theorem beg_k16 {I : aI} {S : aS} {x1 x2 x3 x4 x5 : Int32} : ctk (cBegin (embB 33 I S) x1 x2 x3 x4 x5) (beginS S x1 x2 x3 x4 x5) 33 16 = cBegin (embB 33 I S) x1 x2 x3 x4 x5 34 16 := by
  unfold cBegin
  rfl
theorem beg_k17 {I : aI} {S : aS} {x1 x2 x3 x4 x5 : Int32} : ctk (cBegin (embB 33 I S) x1 x2 x3 x4 x5) (beginS S x1 x2 x3 x4 x5) 33 17 = cBegin (embB 33 I S) x1 x2 x3 x4 x5 34 17 := by
  unfold cBegin
  rfl
theorem beg_k18 {I : aI} {S : aS} {x1 x2 x3 x4 x5 : Int32} : ctk (cBegin (embB 33 I S) x1 x2 x3 x4 x5) (beginS S x1 x2 x3 x4 x5) 33 18 = cBegin (embB 33 I S) x1 x2 x3 x4 x5 34 18 := by
  unfold cBegin
  rfl
theorem beg_k12 {I : aI} {S : aS} {x1 x2 x3 x4 x5 : Int32} : ctk (cBegin (embB 33 I S) x1 x2 x3 x4 x5) (beginS S x1 x2 x3 x4 x5) 33 12 = cBegin (embB 33 I S) x1 x2 x3 x4 x5 34 12 := by
  show low (beginS S x1 x2 x3 x4 x5) (riN (beginS S x1 x2 x3 x4 x5)) = 0
  rw [show riN (beginS S x1 x2 x3 x4 x5) = 0 from rfl]
  rfl
theorem beg_k14 {I : aI} {S : aS} {x1 x2 x3 x4 x5 : Int32} : ctk (cBegin (embB 33 I S) x1 x2 x3 x4 x5) (beginS S x1 x2 x3 x4 x5) 33 14 = cBegin (embB 33 I S) x1 x2 x3 x4 x5 34 14 := by
  show dep (beginS S x1 x2 x3 x4 x5) = 0
  unfold dep
  rw [show laN (beginS S x1 x2 x3 x4 x5) = 0 from rfl]
  rfl
theorem beg_tk {I : aI} {S : aS} {x1 x2 x3 x4 x5 : Int32} {k : Nat} : ctk (cBegin (embB 33 I S) x1 x2 x3 x4 x5) (beginS S x1 x2 x3 x4 x5) 33 k = cBegin (embB 33 I S) x1 x2 x3 x4 x5 34 k := by
  by_cases hk : k < 19
  · rcases (by omega : k < 6 ∨ (6 ≤ k ∧ k < 12) ∨ (12 ≤ k ∧ k < 19)) with h | h | h
    · rcases (by omega : k = 0 ∨ k = 1 ∨ k = 2 ∨ k = 3 ∨ k = 4 ∨ k = 5) with rfl | rfl | rfl | rfl | rfl | rfl
      · exact beg_k0
      · exact beg_k1
      · exact beg_k2
      · exact beg_k3
      · exact beg_k4
      · exact beg_k5
    · rcases (by omega : k = 6 ∨ k = 7 ∨ k = 8 ∨ k = 9 ∨ k = 10 ∨ k = 11) with rfl | rfl | rfl | rfl | rfl | rfl
      · exact beg_k6
      · exact beg_k7
      · exact beg_k8
      · exact beg_k9
      · exact beg_k10
      · exact beg_k11
    · rcases (by omega : k = 12 ∨ k = 13 ∨ k = 14 ∨ k = 15 ∨ k = 16 ∨ k = 17 ∨ k = 18) with rfl | rfl | rfl | rfl | rfl | rfl | rfl
      · exact beg_k12
      · exact beg_k13
      · exact beg_k14
      · exact beg_k15
      · exact beg_k16
      · exact beg_k17
      · exact beg_k18
  · have hm := csc_hi hk
    unfold ctk
    rw [hm]
    show (if k = 12 then low (beginS S x1 x2 x3 x4 x5) (riN (beginS S x1 x2 x3 x4 x5)) else if k = 14 then dep (beginS S x1 x2 x3 x4 x5) else cBegin (embB 33 I S) x1 x2 x3 x4 x5 34 k) = _
    rw [if_neg (show ¬ k = 12 by omega), if_neg (show ¬ k = 14 by omega)]
theorem beg_emb {I : aI} {S : aS} {x1 x2 x3 x4 x5 : Int32} : embB 33 (cBegin (embB 33 I S) x1 x2 x3 x4 x5) (beginS S x1 x2 x3 x4 x5) = cBegin (embB 33 I S) x1 x2 x3 x4 x5 := by
  refine embB_self ?_
  intro a k ha
  have r0 : riN (beginS S x1 x2 x3 x4 x5) = 0 := rfl
  have l0 : laN (beginS S x1 x2 x3 x4 x5) = 0 := rfl
  by_cases h1 : a = 1
  · subst h1
    show ctk _ (beginS S x1 x2 x3 x4 x5) 33 k = cBegin (embB 33 I S) x1 x2 x3 x4 x5 34 k
    exact beg_tk
  · rw [cB_out (by omega)]
    by_cases h3 : a = 3
    · subst h3
      show (if k < 0 then S 10 k else cBegin (embB 33 I S) x1 x2 x3 x4 x5 36 k) = _
      rw [if_neg (by omega), cB_out (by decide)]
    by_cases h4 : a = 4
    · subst h4
      show (if k < 0 then S 11 k else cBegin (embB 33 I S) x1 x2 x3 x4 x5 37 k) = _
      rw [if_neg (by omega), cB_out (by decide)]
    rw [embB_at ha]
    by_cases h5 : 5 ≤ a ∧ a < 12
    · unfold cof
      rw [if_neg h1, if_neg h3, if_neg h4, if_pos h5, if_neg h1, if_neg h3, if_neg h4, if_pos h5, r0]
      by_cases h0 : k = 0
      · rw [if_pos h0, if_pos h0, if_neg (by omega), cB_out (by omega), embB_at ha]
        unfold cof
        rw [if_neg h1, if_neg h3, if_neg h4, if_pos h5, if_pos h0]
      · rw [if_neg h0, if_neg h0, begin_c h0, cB_out (by omega), embB_at ha]
        by_cases h9 : k < 10
        · rw [if_pos h9, if_pos h9]
        · rw [if_neg h9, if_neg h9]
          unfold cof
          rw [if_neg h1, if_neg h3, if_neg h4, if_pos h5, if_neg h0, if_neg h9]
    · have e : cof (cBegin (embB 33 I S) x1 x2 x3 x4 x5) (beginS S x1 x2 x3 x4 x5) 33 a k = cof (cBegin (embB 33 I S) x1 x2 x3 x4 x5) S 33 a k := by
        unfold cof
        rw [if_neg h1, if_neg h3, if_neg h4, if_neg h5, if_neg h1, if_neg h3, if_neg h4, if_neg h5, begin_c (c := 17) (by decide)]
        cases hm : car a with
        | none => rfl
        | some c => simp only [begin_c (car_no hm).1]; rfl
      rw [e]
      unfold cof
      rw [if_neg h1, if_neg h3, if_neg h4, if_neg h5, if_neg h1, if_neg h3, if_neg h4, if_neg h5]
      have eo : cBegin (embB 33 I S) x1 x2 x3 x4 x5 (33 + a) k = cof I S 33 a k := by rw [cB_out (by omega), embB_at ha]
      by_cases h12 : a = 12
      · subst h12
        rw [if_pos rfl, if_pos rfl]
        unfold cst
        split <;> first | rfl | skip
        rename_i q5 q6 q7 q8
        rw [cB_out (by decide)]
        show cst I S 33 k = I 45 k
        unfold cst
        split <;> first | rfl | (exfalso; simp_all)
      · rw [if_neg h12, if_neg h12]
        by_cases h16 : a = 16
        · rw [if_pos h16, if_pos h16]
        · rw [if_neg h16, if_neg h16]
          by_cases h18 : a = 18
          · subst h18
            rw [if_pos rfl, if_pos rfl]
            by_cases k3 : k = 3
            · rw [if_pos k3, if_pos k3]
            · rw [if_neg k3, if_neg k3, cB_out (by decide)]
              show (if k = 3 then S 0 19 else I 51 k) = I 51 k
              rw [if_neg k3]
          · rw [if_neg h18, if_neg h18]
            cases hm : car a with
            | none =>
              show cBegin (embB 33 I S) x1 x2 x3 x4 x5 (33 + a) k = I (33 + a) k
              rw [eo]
              unfold cof
              rw [if_neg h1, if_neg h3, if_neg h4, if_neg h5, if_neg h12, if_neg h16, if_neg h18, hm]
            | some c => rfl
section FB
variable {I : aI} {G : aL} {Z : aZ} {S : aS}
theorem f_begin (hZ : Shp Z) {x1 x2 x3 x4 x5 : Int32} : ∃ I', call 99 [.ref 32, .int x1, .int x2, .int x3, .int x4, .int x5] (embB 33 I S, G, Z) = if begOK x1 x2 x3 x4 x5 = true then some (some (.int 1), (embB 33 I' (beginS S x1 x2 x3 x4 x5), G, Z)) else some (some (.int 0), (embB 33 I S, G, Z)) := by
  refine ⟨cBegin (embB 33 I S) x1 x2 x3 x4 x5, ?_⟩
  rw [beg_emb]
  exact c_begin hZ
end FB
