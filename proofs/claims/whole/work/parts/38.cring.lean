/-! THE CLASS'S RING, and the face's pour -/
theorem cof_r {b a k : Nat} {I : aI} {S S' : aS} (hc : ∀ c, c ≠ 0 → S' c = S c) (hr : 5 ≤ a → a < 12 → (a - 5 < riN S' ↔ a - 5 < riN S)) (h8 : S' 0 8 = S 0 8) (h15 : S' 0 15 = S 0 15) (h16 : S' 0 16 = S 0 16) (h17 : S' 0 17 = S 0 17) (h18 : S' 0 18 = S 0 18) (h19 : S' 0 19 = S 0 19) (h1 : a ≠ 1) : cof I S' b a k = cof I S b a k := by
  have eL : laN S' = laN S := by unfold laN; rw [h8]
  have eLo : ∀ q, low S' q = low S q := fun q => by unfold low; rw [hc 1 (by decide)]
  have e12 : cst I S' b k = cst I S b k := by unfold cst; rw [h15, h16, h17, h18]
  unfold cof
  rw [if_neg h1, if_neg h1, eL, hc 10 (by decide), hc 11 (by decide), hc 17 (by decide), h15, h19, eLo, e12]
  by_cases h5 : 5 ≤ a ∧ a < 12
  · have h3 : ¬ a = 3 := by omega
    have h4 : ¬ a = 4 := by omega
    rw [if_neg h3, if_neg h4, if_pos h5, if_neg h3, if_neg h4, if_pos h5]
    by_cases h0 : k = 0
    · rw [if_pos h0, if_pos h0]
      by_cases hq : a - 5 < riN S
      · rw [if_pos hq, if_pos ((hr h5.1 h5.2).mpr hq)]
      · rw [if_neg hq, if_neg (fun q => hq ((hr h5.1 h5.2).mp q))]
    · rw [if_neg h0, if_neg h0, hc k h0]
  · rw [if_neg h5, if_neg h5]
    cases hm : car a with
    | none => rfl
    | some c =>
      have := (car_no hm).1
      simp only [hc c this]
/-- the feet of the ring that comes next -/
theorem wfeet {I : aI} {S : aS} {v : Int32} (hr : riN S < 7) : up2 (embB 33 I S) (38 + riN S) 1 v = embB 33 I (up2 S 1 (riN S) v) := by
  have e : 38 + riN S = 33 + (5 + riN S) := by omega
  have el : ∀ q, q ≤ riN S → low (up2 S 1 (riN S) v) q = low S q := fun q hq => sumI_eq _ (fun i hi => up2_k (by omega))
  have er : riN (up2 S 1 (riN S) v) = riN S := rfl
  have ela : laN (up2 S 1 (riN S) v) = laN S := rfl
  have e0 : ∀ j, up2 S 1 (riN S) v 0 j = S 0 j := fun _ => rfl
  have ec : ∀ c, c ≠ 1 → up2 S 1 (riN S) v c = S c := fun c hc => funext fun i => up2_a hc
  rw [e]
  refine embB_w (by omega) ?_ ?_
  · unfold cof
    rw [if_neg (by omega), if_neg (by omega), if_neg (by omega), if_pos (by omega), if_neg (by omega), if_pos (by omega), Nat.add_sub_cancel_left]
    exact up2_s
  · intro a' k' ha hne
    by_cases h1 : a' = 1
    · subst h1
      show ctk I (up2 S 1 (riN S) v) 33 k' = ctk I S 33 k'
      unfold ctk
      cases hm : csc k' with
      | none =>
        show (if k' = 12 then low (up2 S 1 (riN S) v) (riN S) else if k' = 14 then dep S else I 34 k') = _
        rw [el _ (Nat.le_refl _)]
      | some j => rfl
    · by_cases h5 : 5 ≤ a' ∧ a' < 12
      · have h3 : ¬ a' = 3 := by omega
        have h4 : ¬ a' = 4 := by omega
        unfold cof
        rw [if_neg h1, if_neg h3, if_neg h4, if_pos h5, if_neg h1, if_neg h3, if_neg h4, if_pos h5, er]
        by_cases h0 : k' = 0
        · rw [if_pos h0, if_pos h0]
          by_cases hq : a' - 5 < riN S
          · rw [if_pos hq, if_pos hq, el _ (by omega)]
          · rw [if_neg hq, if_neg hq]
        · rw [if_neg h0, if_neg h0]
          by_cases hk1 : k' = 1
          · subst hk1
            rw [up2_k (fun q => hne ⟨by omega, rfl⟩)]
          · rw [ec k' hk1]
      · unfold cof
        rw [if_neg h1, if_neg h1, if_neg h5, if_neg h5, ela, ec 10 (by decide), ec 11 (by decide), ec 17 (by decide)]
        cases hm : car a' with
        | none => rfl
        | some c =>
          have := (car_no hm).2.1
          simp only [ec c this]
          rfl
/-- the edge, the height and the count of a ring that is raised -/
theorem rise {I : aI} {U : aS} {r : Nat} (h7 : U 0 7 = iN r) (hr : r < 7) : up2 (up2 (up2 (embB 33 I U) (38 + r) 0 (low U r)) 34 12 (low U r + U 1 r)) 34 11 (U 0 7 + 1) = embB 33 I (up2 U 0 7 (U 0 7 + 1)) := by
  have eU : riN U = r := by unfold riN; rw [h7, iN_clamp (by omega)]
  have eV : riN (up2 U 0 7 (U 0 7 + 1)) = r + 1 := by
    show (U 0 7 + 1).toNatClampNeg = _
    rw [h7, iN_succ, iN_clamp (by omega)]
  funext a k
  by_cases ha : a = 34
  · subst ha
    by_cases k11 : k = 11
    · subst k11; rfl
    by_cases k12 : k = 12
    · subst k12
      rw [up2_k (by decide), up2_s]
      show _ = low (up2 U 0 7 (U 0 7 + 1)) (riN (up2 U 0 7 (U 0 7 + 1)))
      rw [eV]
      rfl
    rw [up2_k k11, up2_k k12, up2_a (by omega)]
    show ctk I U 33 k = ctk I (up2 U 0 7 (U 0 7 + 1)) 33 k
    unfold ctk
    cases hm : csc k with
    | none =>
      show (if k = 12 then low U (riN U) else if k = 14 then dep U else I 34 k) = (if k = 12 then _ else if k = 14 then dep U else I 34 k)
      rw [if_neg k12, if_neg k12]
    | some j =>
      have j7 : j ≠ 7 := fun e => k11 (csc_inj hm (by rw [e]; rfl))
      exact (up2_k j7).symm
  rw [up2_a ha, up2_a ha]
  by_cases hin : 33 ≤ a ∧ a < 33 + 24
  · have e : a = 33 + (a - 33) := by omega
    by_cases hk : a = 38 + r ∧ k = 0
    · obtain ⟨rfl, rfl⟩ := hk
      rw [up2_s]
      refine Eq.trans ?_ (cr_0 hr (by omega)).symm
      rfl
    · have e2 : up2 (embB 33 I U) (38 + r) 0 (low U r) a k = embB 33 I U a k := by
        by_cases h : a = 38 + r
        · subst h
          exact up2_k (fun q => hk ⟨rfl, q⟩)
        · exact up2_a h
      rw [e2]
      by_cases h38 : a = 38 + r
      · have hk0 : ¬ k = 0 := fun q => hk ⟨h38, q⟩
        rw [e, embB_at (by omega), embB_at (by omega), h38]
        have q1 : ¬ 38 + r - 33 = 1 := by omega
        have q3 : ¬ 38 + r - 33 = 3 := by omega
        have q4 : ¬ 38 + r - 33 = 4 := by omega
        have q5 : 5 ≤ 38 + r - 33 ∧ 38 + r - 33 < 12 := by omega
        unfold cof
        rw [if_neg q1, if_neg q3, if_neg q4, if_pos q5, if_neg hk0, if_neg q1, if_neg q3, if_neg q4, if_pos q5, if_neg hk0]
        by_cases h9 : k < 10
        · rw [if_pos h9, if_pos h9, up2_a hk0]
        · rw [if_neg h9, if_neg h9]
      · rw [e, embB_at (by omega), embB_at (by omega)]
        refine (cof_r (a := a - 33) (S := U) (S' := up2 U 0 7 (U 0 7 + 1)) (fun c c0 => funext fun i => up2_a c0) ?_ rfl rfl rfl rfl rfl rfl (by omega)).symm
        intro q1 q2
        rw [eU, eV]
        omega
  · rw [up2_a (by omega), embB_out (by omega), embB_out (by omega)]
