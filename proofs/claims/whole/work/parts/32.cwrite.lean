/-! THE CLASS'S STATE, written -/
theorem csc_inj {k k' j : Nat} (h : csc k = some j) (h' : csc k' = some j) : k = k' := by
  unfold csc at h h'
  split at h <;> cases h <;> split at h' <;> first | rfl | (cases h'; done)
theorem car_inj {a a' c : Nat} (h : car a = some c) (h' : car a' = some c) : a = a' := by
  unfold car at h h'
  split at h <;> cases h <;> split at h' <;> first | rfl | (cases h'; done)
theorem car_no {a c : Nat} (h : car a = some c) : c ≠ 0 ∧ c ≠ 1 ∧ c ≠ 10 ∧ c ≠ 11 ∧ c ≠ 17 ∧ 9 < c ∧ a ≠ 1 ∧ a ≠ 3 ∧ a ≠ 4 ∧ ¬ (5 ≤ a ∧ a < 12) ∧ a ≠ 12 ∧ a ≠ 16 ∧ a ≠ 18 ∧ a < 24 := by
  unfold car at h
  split at h <;> cases h <;> decide
theorem cof_s {b a k : Nat} {I : aI} {S S' : aS} (hc : ∀ c, c ≠ 0 → S' c = S c) (h7 : S' 0 7 = S 0 7) (h8 : S' 0 8 = S 0 8) (h15 : S' 0 15 = S 0 15) (h16 : S' 0 16 = S 0 16) (h17 : S' 0 17 = S 0 17) (h18 : S' 0 18 = S 0 18) (h19 : S' 0 19 = S 0 19) (h1 : a ≠ 1) : cof I S' b a k = cof I S b a k := by
  have eR : riN S' = riN S := by unfold riN; rw [h7]
  have eL : laN S' = laN S := by unfold laN; rw [h8]
  have eLo : ∀ q, low S' q = low S q := fun q => by unfold low; rw [hc 1 (by decide)]
  unfold cof
  rw [if_neg h1, if_neg h1, eR, eL, hc 10 (by decide), hc 11 (by decide), hc 17 (by decide), h15, h19, eLo]
  have e12 : cst I S' b k = cst I S b k := by unfold cst; rw [h15, h16, h17, h18]
  rw [e12]
  have e5 : (if k = 0 then (if a - 5 < riN S then low S (a - 5) else I (b + a) k) else if k < 10 then S' k (a - 5) else I (b + a) k) = (if k = 0 then (if a - 5 < riN S then low S (a - 5) else I (b + a) k) else if k < 10 then S k (a - 5) else I (b + a) k) := by
    by_cases h0 : k = 0
    · rw [if_pos h0, if_pos h0]
    · rw [if_neg h0, if_neg h0, hc k h0]
  rw [e5]
  cases hm : car a with
  | none => rfl
  | some c =>
    have := (car_no hm).1
    simp only [hc c this]
theorem wt3 {b : Nat} {I : aI} {S : aS} {v : Int32} : up2 (embB b I S) (b + 1) 3 v = embB b I (up2 S 0 1 v) := by
  refine embB_w (by decide) ?_ ?_
  · rfl
  · intro a' k' ha hne
    by_cases h1 : a' = 1
    · subst h1
      have hk : k' ≠ 3 := fun q => hne ⟨rfl, q⟩
      show ctk I (up2 S 0 1 v) b k' = ctk I S b k'
      unfold ctk
      cases hm : csc k' with
      | none => rfl
      | some j' =>
        have : j' ≠ 1 := fun e => hk (csc_inj hm (by rw [e]; rfl))
        exact up2_k this
    · exact cof_s (fun c h => funext fun j => up2_a h) rfl rfl rfl rfl rfl rfl rfl h1
theorem wh3 {I : aI} {S : aS} {v : Int32} : up2 (embB 33 I S) 34 3 v = embB 33 I (up2 S 0 1 v) := wt3
theorem wt4 {b : Nat} {I : aI} {S : aS} {v : Int32} : up2 (embB b I S) (b + 1) 4 v = embB b I (up2 S 0 0 v) := by
  refine embB_w (by decide) ?_ ?_
  · rfl
  · intro a' k' ha hne
    by_cases h1 : a' = 1
    · subst h1
      have hk : k' ≠ 4 := fun q => hne ⟨rfl, q⟩
      show ctk I (up2 S 0 0 v) b k' = ctk I S b k'
      unfold ctk
      cases hm : csc k' with
      | none => rfl
      | some j' =>
        have : j' ≠ 0 := fun e => hk (csc_inj hm (by rw [e]; rfl))
        exact up2_k this
    · exact cof_s (fun c h => funext fun j => up2_a h) rfl rfl rfl rfl rfl rfl rfl h1
theorem wh4 {I : aI} {S : aS} {v : Int32} : up2 (embB 33 I S) 34 4 v = embB 33 I (up2 S 0 0 v) := wt4
theorem wt5 {b : Nat} {I : aI} {S : aS} {v : Int32} : up2 (embB b I S) (b + 1) 5 v = embB b I (up2 S 0 10 v) := by
  refine embB_w (by decide) ?_ ?_
  · rfl
  · intro a' k' ha hne
    by_cases h1 : a' = 1
    · subst h1
      have hk : k' ≠ 5 := fun q => hne ⟨rfl, q⟩
      show ctk I (up2 S 0 10 v) b k' = ctk I S b k'
      unfold ctk
      cases hm : csc k' with
      | none => rfl
      | some j' =>
        have : j' ≠ 10 := fun e => hk (csc_inj hm (by rw [e]; rfl))
        exact up2_k this
    · exact cof_s (fun c h => funext fun j => up2_a h) rfl rfl rfl rfl rfl rfl rfl h1
theorem wh5 {I : aI} {S : aS} {v : Int32} : up2 (embB 33 I S) 34 5 v = embB 33 I (up2 S 0 10 v) := wt5
theorem wt6 {b : Nat} {I : aI} {S : aS} {v : Int32} : up2 (embB b I S) (b + 1) 6 v = embB b I (up2 S 0 2 v) := by
  refine embB_w (by decide) ?_ ?_
  · rfl
  · intro a' k' ha hne
    by_cases h1 : a' = 1
    · subst h1
      have hk : k' ≠ 6 := fun q => hne ⟨rfl, q⟩
      show ctk I (up2 S 0 2 v) b k' = ctk I S b k'
      unfold ctk
      cases hm : csc k' with
      | none => rfl
      | some j' =>
        have : j' ≠ 2 := fun e => hk (csc_inj hm (by rw [e]; rfl))
        exact up2_k this
    · exact cof_s (fun c h => funext fun j => up2_a h) rfl rfl rfl rfl rfl rfl rfl h1
theorem wh6 {I : aI} {S : aS} {v : Int32} : up2 (embB 33 I S) 34 6 v = embB 33 I (up2 S 0 2 v) := wt6
theorem wt7 {b : Nat} {I : aI} {S : aS} {v : Int32} : up2 (embB b I S) (b + 1) 7 v = embB b I (up2 S 0 3 v) := by
  refine embB_w (by decide) ?_ ?_
  · rfl
  · intro a' k' ha hne
    by_cases h1 : a' = 1
    · subst h1
      have hk : k' ≠ 7 := fun q => hne ⟨rfl, q⟩
      show ctk I (up2 S 0 3 v) b k' = ctk I S b k'
      unfold ctk
      cases hm : csc k' with
      | none => rfl
      | some j' =>
        have : j' ≠ 3 := fun e => hk (csc_inj hm (by rw [e]; rfl))
        exact up2_k this
    · exact cof_s (fun c h => funext fun j => up2_a h) rfl rfl rfl rfl rfl rfl rfl h1
theorem wh7 {I : aI} {S : aS} {v : Int32} : up2 (embB 33 I S) 34 7 v = embB 33 I (up2 S 0 3 v) := wt7
theorem wt8 {b : Nat} {I : aI} {S : aS} {v : Int32} : up2 (embB b I S) (b + 1) 8 v = embB b I (up2 S 0 4 v) := by
  refine embB_w (by decide) ?_ ?_
  · rfl
  · intro a' k' ha hne
    by_cases h1 : a' = 1
    · subst h1
      have hk : k' ≠ 8 := fun q => hne ⟨rfl, q⟩
      show ctk I (up2 S 0 4 v) b k' = ctk I S b k'
      unfold ctk
      cases hm : csc k' with
      | none => rfl
      | some j' =>
        have : j' ≠ 4 := fun e => hk (csc_inj hm (by rw [e]; rfl))
        exact up2_k this
    · exact cof_s (fun c h => funext fun j => up2_a h) rfl rfl rfl rfl rfl rfl rfl h1
theorem wh8 {I : aI} {S : aS} {v : Int32} : up2 (embB 33 I S) 34 8 v = embB 33 I (up2 S 0 4 v) := wt8
theorem wt9 {b : Nat} {I : aI} {S : aS} {v : Int32} : up2 (embB b I S) (b + 1) 9 v = embB b I (up2 S 0 5 v) := by
  refine embB_w (by decide) ?_ ?_
  · rfl
  · intro a' k' ha hne
    by_cases h1 : a' = 1
    · subst h1
      have hk : k' ≠ 9 := fun q => hne ⟨rfl, q⟩
      show ctk I (up2 S 0 5 v) b k' = ctk I S b k'
      unfold ctk
      cases hm : csc k' with
      | none => rfl
      | some j' =>
        have : j' ≠ 5 := fun e => hk (csc_inj hm (by rw [e]; rfl))
        exact up2_k this
    · exact cof_s (fun c h => funext fun j => up2_a h) rfl rfl rfl rfl rfl rfl rfl h1
theorem wh9 {I : aI} {S : aS} {v : Int32} : up2 (embB 33 I S) 34 9 v = embB 33 I (up2 S 0 5 v) := wt9
theorem wt10 {b : Nat} {I : aI} {S : aS} {v : Int32} : up2 (embB b I S) (b + 1) 10 v = embB b I (up2 S 0 6 v) := by
  refine embB_w (by decide) ?_ ?_
  · rfl
  · intro a' k' ha hne
    by_cases h1 : a' = 1
    · subst h1
      have hk : k' ≠ 10 := fun q => hne ⟨rfl, q⟩
      show ctk I (up2 S 0 6 v) b k' = ctk I S b k'
      unfold ctk
      cases hm : csc k' with
      | none => rfl
      | some j' =>
        have : j' ≠ 6 := fun e => hk (csc_inj hm (by rw [e]; rfl))
        exact up2_k this
    · exact cof_s (fun c h => funext fun j => up2_a h) rfl rfl rfl rfl rfl rfl rfl h1
theorem wh10 {I : aI} {S : aS} {v : Int32} : up2 (embB 33 I S) 34 10 v = embB 33 I (up2 S 0 6 v) := wt10
theorem wt15 {b : Nat} {I : aI} {S : aS} {v : Int32} : up2 (embB b I S) (b + 1) 15 v = embB b I (up2 S 0 9 v) := by
  refine embB_w (by decide) ?_ ?_
  · rfl
  · intro a' k' ha hne
    by_cases h1 : a' = 1
    · subst h1
      have hk : k' ≠ 15 := fun q => hne ⟨rfl, q⟩
      show ctk I (up2 S 0 9 v) b k' = ctk I S b k'
      unfold ctk
      cases hm : csc k' with
      | none => rfl
      | some j' =>
        have : j' ≠ 9 := fun e => hk (csc_inj hm (by rw [e]; rfl))
        exact up2_k this
    · exact cof_s (fun c h => funext fun j => up2_a h) rfl rfl rfl rfl rfl rfl rfl h1
theorem wh15 {I : aI} {S : aS} {v : Int32} : up2 (embB 33 I S) 34 15 v = embB 33 I (up2 S 0 9 v) := wt15
theorem wt16 {b : Nat} {I : aI} {S : aS} {v : Int32} : up2 (embB b I S) (b + 1) 16 v = embB b I (up2 S 0 11 v) := by
  refine embB_w (by decide) ?_ ?_
  · rfl
  · intro a' k' ha hne
    by_cases h1 : a' = 1
    · subst h1
      have hk : k' ≠ 16 := fun q => hne ⟨rfl, q⟩
      show ctk I (up2 S 0 11 v) b k' = ctk I S b k'
      unfold ctk
      cases hm : csc k' with
      | none => rfl
      | some j' =>
        have : j' ≠ 11 := fun e => hk (csc_inj hm (by rw [e]; rfl))
        exact up2_k this
    · exact cof_s (fun c h => funext fun j => up2_a h) rfl rfl rfl rfl rfl rfl rfl h1
theorem wh16 {I : aI} {S : aS} {v : Int32} : up2 (embB 33 I S) 34 16 v = embB 33 I (up2 S 0 11 v) := wt16
theorem wt17 {b : Nat} {I : aI} {S : aS} {v : Int32} : up2 (embB b I S) (b + 1) 17 v = embB b I (up2 S 0 12 v) := by
  refine embB_w (by decide) ?_ ?_
  · rfl
  · intro a' k' ha hne
    by_cases h1 : a' = 1
    · subst h1
      have hk : k' ≠ 17 := fun q => hne ⟨rfl, q⟩
      show ctk I (up2 S 0 12 v) b k' = ctk I S b k'
      unfold ctk
      cases hm : csc k' with
      | none => rfl
      | some j' =>
        have : j' ≠ 12 := fun e => hk (csc_inj hm (by rw [e]; rfl))
        exact up2_k this
    · exact cof_s (fun c h => funext fun j => up2_a h) rfl rfl rfl rfl rfl rfl rfl h1
theorem wh17 {I : aI} {S : aS} {v : Int32} : up2 (embB 33 I S) 34 17 v = embB 33 I (up2 S 0 12 v) := wt17
theorem wt18 {b : Nat} {I : aI} {S : aS} {v : Int32} : up2 (embB b I S) (b + 1) 18 v = embB b I (up2 S 0 13 v) := by
  refine embB_w (by decide) ?_ ?_
  · rfl
  · intro a' k' ha hne
    by_cases h1 : a' = 1
    · subst h1
      have hk : k' ≠ 18 := fun q => hne ⟨rfl, q⟩
      show ctk I (up2 S 0 13 v) b k' = ctk I S b k'
      unfold ctk
      cases hm : csc k' with
      | none => rfl
      | some j' =>
        have : j' ≠ 13 := fun e => hk (csc_inj hm (by rw [e]; rfl))
        exact up2_k this
    · exact cof_s (fun c h => funext fun j => up2_a h) rfl rfl rfl rfl rfl rfl rfl h1
theorem wh18 {I : aI} {S : aS} {v : Int32} : up2 (embB 33 I S) 34 18 v = embB 33 I (up2 S 0 13 v) := wt18
theorem ghost {b : Nat} {I : aI} {S : aS} {v : Int32} : embB b I (up2 S 0 14 v) = embB b I S := by
  refine (embB_eq ?_).symm
  intro a' k' ha
  by_cases h1 : a' = 1
  · subst h1
    show ctk I (up2 S 0 14 v) b k' = ctk I S b k'
    unfold ctk
    cases hm : csc k' with
    | none => rfl
    | some j' =>
      have : j' ≠ 14 := fun e => by
        rw [e] at hm
        unfold csc at hm
        split at hm <;> cases hm
      exact up2_k this
  · exact cof_s (fun c h => funext fun j => up2_a h) rfl rfl rfl rfl rfl rfl rfl h1
/-- a ring's measure, but for its feet -/
theorem wring {b : Nat} {I : aI} {S : aS} {k f : Nat} {v : Int32} (hk : k < 7) (hf : 1 < f) (h9 : f < 10) : up2 (embB b I S) (b + (5 + k)) f v = embB b I (up2 S f k v) := by
  have e0 : ∀ j, up2 S f k v 0 j = S 0 j := fun j => up2_a (by omega)
  have e1 : up2 S f k v 1 = S 1 := funext fun j => up2_a (by omega)
  have e10 : up2 S f k v 10 = S 10 := funext fun j => up2_a (by omega)
  have eR : riN (up2 S f k v) = riN S := by unfold riN; rw [e0]
  have eL : laN (up2 S f k v) = laN S := by unfold laN; rw [e0]
  have eLo : ∀ i, low (up2 S f k v) i = low S i := fun i => by unfold low; rw [e1]
  have eD : dep (up2 S f k v) = dep S := by unfold dep; rw [e10, eL]
  refine embB_w (by omega) ?_ ?_
  · unfold cof
    rw [if_neg (by omega), if_neg (by omega), if_neg (by omega), if_pos (by omega), if_neg (by omega), if_pos h9, Nat.add_sub_cancel_left, up2_s]
  · intro a' k' ha hne
    unfold cof ctk cst
    simp only [eR, eL, eLo, eD, e0, e10]
    by_cases h1 : a' = 1
    · rw [if_pos h1, if_pos h1]
    · rw [if_neg h1, if_neg h1]
      by_cases h3 : a' = 3
      · rw [if_pos h3, if_pos h3]
      · rw [if_neg h3, if_neg h3]
        by_cases h4 : a' = 4
        · rw [if_pos h4, if_pos h4]
          split
          · exact up2_a (by omega)
          · rfl
        · rw [if_neg h4, if_neg h4]
          by_cases h5 : 5 ≤ a' ∧ a' < 12
          · rw [if_pos h5, if_pos h5]
            split
            · rfl
            · split
              · by_cases hf2 : k' = f
                · subst hf2
                  exact up2_k (fun q => hne ⟨by omega, rfl⟩)
                · exact up2_a hf2
              · rfl
          · rw [if_neg h5, if_neg h5]
            by_cases h12 : a' = 12
            · rw [if_pos h12, if_pos h12]
            · rw [if_neg h12, if_neg h12]
              by_cases h16 : a' = 16
              · rw [if_pos h16, if_pos h16, up2_a (by omega)]
              · rw [if_neg h16, if_neg h16]
                by_cases h18 : a' = 18
                · rw [if_pos h18, if_pos h18]
                · rw [if_neg h18, if_neg h18]
                  cases hm : car a' with
                  | none => rfl
                  | some c =>
                    have := car_no hm
                    exact up2_a (by omega)
/-- a layer's heat -/
theorem wheat {b : Nat} {I : aI} {S : aS} {i : Nat} {v : Int32} (hi : i < laN S) : up2 (embB b I S) (b + 4) i v = embB b I (up2 S 11 i v) := by
  refine embB_w (by omega) ?_ ?_
  · show (if i < laN (up2 S 11 i v) then up2 S 11 i v 11 i else I (b + 4) i) = v
    rw [if_pos (show i < laN (up2 S 11 i v) from hi), up2_s]
  · intro a' k' ha hne
    by_cases h4 : a' = 4
    · subst h4
      show (if k' < laN S then up2 S 11 i v 11 k' else I (b + 4) k') = if k' < laN S then S 11 k' else I (b + 4) k'
      rw [up2_k (fun q => hne ⟨rfl, q⟩)]
    · by_cases h1 : a' = 1
      · subst h1; rfl
      · by_cases h3 : a' = 3
        · subst h3; rfl
        · by_cases h5 : 5 ≤ a' ∧ a' < 12
          · unfold cof
            rw [if_neg h1, if_neg h3, if_neg h4, if_pos h5, if_neg h1, if_neg h3, if_neg h4, if_pos h5]
            split
            · rfl
            · split
              · exact up2_a (by omega)
              · rfl
          · unfold cof
            rw [if_neg h1, if_neg h3, if_neg h4, if_neg h5, if_neg h1, if_neg h3, if_neg h4, if_neg h5]
            by_cases h12 : a' = 12
            · subst h12; rfl
            · rw [if_neg h12, if_neg h12]
              by_cases h16 : a' = 16
              · subst h16; rfl
              · rw [if_neg h16, if_neg h16]
                by_cases h18 : a' = 18
                · subst h18; rfl
                · rw [if_neg h18, if_neg h18]
                  cases hm : car a' with
                  | none => rfl
                  | some c =>
                    have := car_no hm
                    exact up2_a (by omega)
/-- a row that S holds whole -/
theorem wrow {b a c : Nat} {I : aI} {S : aS} {i : Nat} {v : Int32} (h : car a = some c) : up2 (embB b I S) (b + a) i v = embB b I (up2 S c i v) := by
  obtain ⟨c0, c1, c10, c11, c17, c9, a1, a3, a4, a5, a12, a16, a18, a24⟩ := car_no h
  have e0 : ∀ j, up2 S c i v 0 j = S 0 j := fun j => up2_a (Ne.symm c0)
  have e1 : up2 S c i v 1 = S 1 := funext fun j => up2_a (Ne.symm c1)
  have e10 : up2 S c i v 10 = S 10 := funext fun j => up2_a (Ne.symm c10)
  have e11 : ∀ j, up2 S c i v 11 j = S 11 j := fun j => up2_a (Ne.symm c11)
  have e17 : ∀ j, up2 S c i v 17 j = S 17 j := fun j => up2_a (Ne.symm c17)
  have eR : riN (up2 S c i v) = riN S := by unfold riN; rw [e0]
  have eL : laN (up2 S c i v) = laN S := by unfold laN; rw [e0]
  have eLo : ∀ q, low (up2 S c i v) q = low S q := fun q => by unfold low; rw [e1]
  have eD : dep (up2 S c i v) = dep S := by unfold dep; rw [e10, eL]
  refine embB_w a24 ?_ ?_
  · unfold cof
    rw [if_neg a1, if_neg a3, if_neg a4, if_neg a5, if_neg a12, if_neg a16, if_neg a18, h]
    exact up2_s
  · intro a' k' ha hne
    unfold cof ctk cst
    simp only [eR, eL, eLo, eD, e0, e10, e11, e17]
    by_cases h5 : 5 ≤ a' ∧ a' < 12
    · by_cases h1 : a' = 1
      · omega
      · by_cases h3 : a' = 3
        · omega
        · by_cases h4 : a' = 4
          · omega
          · rw [if_neg h1, if_neg h3, if_neg h4, if_pos h5, if_neg h1, if_neg h3, if_neg h4, if_pos h5]
            split
            · rfl
            · split
              · exact up2_a (by omega)
              · rfl
    · cases hm : car a' with
      | none => simp only [if_neg h5]
      | some c' =>
        obtain ⟨-, -, -, -, -, -, b1, b3, b4, b5, b12, b16, b18, -⟩ := car_no hm
        simp only [if_neg b1, if_neg b3, if_neg b4, if_neg b5, if_neg b12, if_neg b16, if_neg b18]
        by_cases hc : c' = c
        · subst hc
          have : a' = a := car_inj hm h
          subst this
          exact up2_k (fun q => hne ⟨rfl, q⟩)
        · exact up2_a hc
theorem wa46 {I : aI} {S : aS} {k : Nat} {v : Int32} : up2 (embB 33 I S) 46 k v = embB 33 I (up2 S 14 k v) := wrow (b := 33) (a := 13) rfl
theorem wa47 {I : aI} {S : aS} {k : Nat} {v : Int32} : up2 (embB 33 I S) 47 k v = embB 33 I (up2 S 15 k v) := wrow (b := 33) (a := 14) rfl
theorem wa48 {I : aI} {S : aS} {k : Nat} {v : Int32} : up2 (embB 33 I S) 48 k v = embB 33 I (up2 S 16 k v) := wrow (b := 33) (a := 15) rfl
theorem wa52 {I : aI} {S : aS} {k : Nat} {v : Int32} : up2 (embB 33 I S) 52 k v = embB 33 I (up2 S 18 k v) := wrow (b := 33) (a := 19) rfl
theorem wa53 {I : aI} {S : aS} {k : Nat} {v : Int32} : up2 (embB 33 I S) 53 k v = embB 33 I (up2 S 19 k v) := wrow (b := 33) (a := 20) rfl
theorem wa54 {I : aI} {S : aS} {k : Nat} {v : Int32} : up2 (embB 33 I S) 54 k v = embB 33 I (up2 S 20 k v) := wrow (b := 33) (a := 21) rfl
theorem wa55 {I : aI} {S : aS} {k : Nat} {v : Int32} : up2 (embB 33 I S) 55 k v = embB 33 I (up2 S 12 k v) := wrow (b := 33) (a := 22) rfl
theorem wa56 {I : aI} {S : aS} {k : Nat} {v : Int32} : up2 (embB 33 I S) 56 k v = embB 33 I (up2 S 13 k v) := wrow (b := 33) (a := 23) rfl
theorem wst {I : aI} {S : aS} {k f : Nat} {v : Int32} (hk : k < 7) (hf : 1 < f) (h9 : f < 10) : up2 (embB 33 I S) (38 + k) f v = embB 33 I (up2 S f k v) := by
  have e : 38 + k = 33 + (5 + k) := by omega
  rw [e]
  exact wring hk hf h9
theorem wht {I : aI} {S : aS} {i : Nat} {v : Int32} (hi : i < laN S) : up2 (embB 33 I S) 37 i v = embB 33 I (up2 S 11 i v) := wheat (b := 33) hi
