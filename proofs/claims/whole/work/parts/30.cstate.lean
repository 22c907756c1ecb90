/-! THE CLASS'S STATE: a State at base b (tank b+1, rings b+5.., layers b+3 b+4, streets b+12, witnesses b+18, seen b+22, looked b+23) holds S; what is behind the counts, and edges of rings that aren't there, is whatever it was -/
def csc (k : Nat) : Option Nat := match k with
  | 3 => some 1
  | 4 => some 0
  | 5 => some 10
  | 6 => some 2
  | 7 => some 3
  | 8 => some 4
  | 9 => some 5
  | 10 => some 6
  | 11 => some 7
  | 13 => some 8
  | 15 => some 9
  | 16 => some 11
  | 17 => some 12
  | 18 => some 13
  | _ => none
def car (a : Nat) : Option Nat := match a with
  | 13 => some 14
  | 14 => some 15
  | 15 => some 16
  | 19 => some 18
  | 20 => some 19
  | 21 => some 20
  | 22 => some 12
  | 23 => some 13
  | _ => none
def ctk (I : aI) (S : aS) (b k : Nat) : Int32 := match csc k with
  | some j => S 0 j
  | none => if k = 12 then low S (riN S) else if k = 14 then dep S else I (b + 1) k
def cst (I : aI) (S : aS) (b k : Nat) : Int32 := match k with
  | 5 => S 0 15
  | 6 => S 0 18
  | 7 => S 0 16
  | 8 => S 0 17
  | _ => I (b + 12) k
def cof (I : aI) (S : aS) (b a k : Nat) : Int32 := if a = 1 then ctk I S b k
  else if a = 3 then (if k < laN S then S 10 k else I (b + 3) k)
  else if a = 4 then (if k < laN S then S 11 k else I (b + 4) k)
  else if 5 ≤ a ∧ a < 12 then (if k = 0 then (if a - 5 < riN S then low S (a - 5) else I (b + a) k) else if k < 10 then S k (a - 5) else I (b + a) k)
  else if a = 12 then cst I S b k
  else if a = 16 then (if S 0 15 = 0 ∧ k < 144 then -1 else S 17 k)
  else if a = 18 then (if k = 3 then S 0 19 else I (b + 18) k)
  else (match car a with
    | some c => S c k
    | none => I (b + a) k)
def embB (b : Nat) (I : aI) (S : aS) : aI := fun a k => if b ≤ a ∧ a < b + 24 then cof I S b (a - b) k else I a k
abbrev embC (I : aI) (S : aS) : aI := embB 33 I S
theorem embB_at {b a k : Nat} {I : aI} {S : aS} (h : a < 24) : embB b I S (b + a) k = cof I S b a k := by
  unfold embB
  rw [if_pos (by omega), Nat.add_sub_cancel_left]
theorem embB_out {b a : Nat} {I : aI} {S : aS} (h : a < b ∨ b + 24 ≤ a) : embB b I S a = I a := by
  funext k
  unfold embB
  rw [if_neg (by omega)]
/-- writing a place that S holds -/
theorem embB_w {b a k : Nat} {I : aI} {S S' : aS} {v : Int32} (h : a < 24) (h1 : cof I S' b a k = v) (h2 : ∀ a' k', a' < 24 → ¬ (a' = a ∧ k' = k) → cof I S' b a' k' = cof I S b a' k') : up2 (embB b I S) (b + a) k v = embB b I S' := by
  funext a' k'
  rw [up2_e]
  by_cases hin : b ≤ a' ∧ a' < b + 24
  · have e : a' = b + (a' - b) := by omega
    by_cases ha : a' = b + a
    · rw [if_pos ha]
      by_cases hk : k' = k
      · rw [if_pos hk, ha, hk, embB_at h, h1]
      · rw [if_neg hk, ha, embB_at h, embB_at h]
        exact (h2 a k' h (fun q => hk q.2)).symm
    · rw [if_neg ha, e, embB_at (by omega), embB_at (by omega)]
      exact (h2 (a' - b) k' (by omega) (fun q => ha (by omega))).symm
  · rw [if_neg (by omega), embB_out (by omega), embB_out (by omega)]
theorem embB_eq {b : Nat} {I : aI} {S S' : aS} (h2 : ∀ a' k', a' < 24 → cof I S' b a' k' = cof I S b a' k') : embB b I S = embB b I S' := by
  funext a' k'
  by_cases hin : b ≤ a' ∧ a' < b + 24
  · have e : a' = b + (a' - b) := by omega
    rw [e, embB_at (by omega), embB_at (by omega)]
    exact (h2 (a' - b) k' (by omega)).symm
  · rw [embB_out (by omega), embB_out (by omega)]
theorem ct3 {I : aI} {S : aS} : embB 33 I S 34 3 = S 0 1 := id rfl
theorem ct4 {I : aI} {S : aS} : embB 33 I S 34 4 = S 0 0 := id rfl
theorem ct5 {I : aI} {S : aS} : embB 33 I S 34 5 = S 0 10 := id rfl
theorem ct6 {I : aI} {S : aS} : embB 33 I S 34 6 = S 0 2 := id rfl
theorem ct7 {I : aI} {S : aS} : embB 33 I S 34 7 = S 0 3 := id rfl
theorem ct8 {I : aI} {S : aS} : embB 33 I S 34 8 = S 0 4 := id rfl
theorem ct9 {I : aI} {S : aS} : embB 33 I S 34 9 = S 0 5 := id rfl
theorem ct10 {I : aI} {S : aS} : embB 33 I S 34 10 = S 0 6 := id rfl
theorem ct11 {I : aI} {S : aS} : embB 33 I S 34 11 = S 0 7 := id rfl
theorem ct13 {I : aI} {S : aS} : embB 33 I S 34 13 = S 0 8 := id rfl
theorem ct15 {I : aI} {S : aS} : embB 33 I S 34 15 = S 0 9 := id rfl
theorem ct16 {I : aI} {S : aS} : embB 33 I S 34 16 = S 0 11 := id rfl
theorem ct17 {I : aI} {S : aS} : embB 33 I S 34 17 = S 0 12 := id rfl
theorem ct18 {I : aI} {S : aS} : embB 33 I S 34 18 = S 0 13 := id rfl
theorem ct12 {I : aI} {S : aS} : embB 33 I S 34 12 = low S (riN S) := id rfl
theorem ct14 {I : aI} {S : aS} : embB 33 I S 34 14 = dep S := id rfl
theorem cs5 {I : aI} {S : aS} : embB 33 I S 45 5 = S 0 15 := id rfl
theorem cs6 {I : aI} {S : aS} : embB 33 I S 45 6 = S 0 18 := id rfl
theorem cs7 {I : aI} {S : aS} : embB 33 I S 45 7 = S 0 16 := id rfl
theorem cs8 {I : aI} {S : aS} : embB 33 I S 45 8 = S 0 17 := id rfl
theorem cw3 {I : aI} {S : aS} : embB 33 I S 51 3 = S 0 19 := id rfl
theorem ca46 {I : aI} {S : aS} : embB 33 I S 46 = S 14 := id rfl
theorem ca47 {I : aI} {S : aS} : embB 33 I S 47 = S 15 := id rfl
theorem ca48 {I : aI} {S : aS} : embB 33 I S 48 = S 16 := id rfl
theorem ca52 {I : aI} {S : aS} : embB 33 I S 52 = S 18 := id rfl
theorem ca53 {I : aI} {S : aS} : embB 33 I S 53 = S 19 := id rfl
theorem ca54 {I : aI} {S : aS} : embB 33 I S 54 = S 20 := id rfl
theorem ca55 {I : aI} {S : aS} : embB 33 I S 55 = S 12 := id rfl
theorem ca56 {I : aI} {S : aS} : embB 33 I S 56 = S 13 := id rfl
theorem cl36 {I : aI} {S : aS} {i : Nat} (h : i < laN S) : embB 33 I S 36 i = S 10 i := if_pos h
theorem cl37 {I : aI} {S : aS} {i : Nat} (h : i < laN S) : embB 33 I S 37 i = S 11 i := if_pos h
theorem cr_f {I : aI} {S : aS} {k f : Nat} (hk : k < 7) (hf : 0 < f) (h9 : f < 10) : embB 33 I S (38 + k) f = S f k := by
  have e : (38 + k) = 33 + (5 + k) := by omega
  rw [e, embB_at (by omega)]
  unfold cof
  rw [if_neg (by omega), if_neg (by omega), if_neg (by omega), if_pos (by omega), if_neg (by omega), if_pos h9, Nat.add_sub_cancel_left]
theorem cr_0 {I : aI} {S : aS} {k : Nat} (hk : k < 7) (hr : k < riN S) : embB 33 I S (38 + k) 0 = low S k := by
  have e : (38 + k) = 33 + (5 + k) := by omega
  rw [e, embB_at (by omega)]
  unfold cof
  rw [if_neg (by omega), if_neg (by omega), if_neg (by omega), if_pos (by omega), if_pos rfl, Nat.add_sub_cancel_left, if_pos hr]
theorem Shp.ring {Z : aZ} (h : Shp Z) {I : aI} {G : aL} {k : Nat} (hk : k < 7) : mR (I, G, Z) (mR (I, G, Z) 34 0) k = 38 + k := by
  rw [h.r34_0]
  rcases (by omega : k = 0 ∨ k = 1 ∨ k = 2 ∨ k = 3 ∨ k = 4 ∨ k = 5 ∨ k = 6) with rfl | rfl | rfl | rfl | rfl | rfl | rfl
  · exact h.r35_0
  · exact h.r35_1
  · exact h.r35_2
  · exact h.r35_3
  · exact h.r35_4
  · exact h.r35_5
  · exact h.r35_6
theorem Shp.kring {Z : aZ} (h : Shp Z) {I : aI} {G : aL} {k : Nat} (hk : k < 7) : mK (I, G, Z) (38 + k) = 3 := by
  rcases (by omega : k = 0 ∨ k = 1 ∨ k = 2 ∨ k = 3 ∨ k = 4 ∨ k = 5 ∨ k = 6) with rfl | rfl | rfl | rfl | rfl | rfl | rfl
  · exact h.k38
  · exact h.k39
  · exact h.k40
  · exact h.k41
  · exact h.k42
  · exact h.k43
  · exact h.k44
