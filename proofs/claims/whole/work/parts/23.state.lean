/-! THE STATE that marks keep: S c i; c = 0: scalars (0 now, 1 hasTank, 2 radius, 3 weight, 4 tire, 5 vent, 6 warm, 7 rings, 8 layers, 9 gas, 10 air, 11 fillings, 12 burstBy, 13 burstIn, 14 burstLoad, 15 hasWave, 16 easy, 17 stiff, 18 minutes, 19 witnesses); c = 1..9 rings (high, drawn, built, strength, brittle, holes, rivets, coins, stood), 10 11 layers (feet, heat), 12 seen, 13 looked, 14..17 ground, there, stain, came, 18..20 witnesses (asked, said, read). The reference holds it word for word -/
abbrev aS : Type := Nat → Nat → Int32
def msc (k : Nat) : Option Nat := match k with
  | 1 => some 1
  | 2 => some 0
  | 3 => some 2
  | 4 => some 3
  | 5 => some 4
  | 6 => some 5
  | 7 => some 6
  | 8 => some 7
  | 9 => some 8
  | 10 => some 9
  | 11 => some 10
  | 12 => some 11
  | 13 => some 12
  | 14 => some 13
  | 15 => some 14
  | 51 => some 15
  | 52 => some 16
  | 53 => some 17
  | 54 => some 18
  | 61 => some 19
  | _ => none
def mar (a : Nat) : Option Nat := match a with
  | 73 => some 1
  | 74 => some 2
  | 75 => some 3
  | 76 => some 4
  | 77 => some 5
  | 78 => some 6
  | 79 => some 7
  | 80 => some 8
  | 81 => some 9
  | 82 => some 10
  | 83 => some 11
  | 97 => some 12
  | 99 => some 13
  | 100 => some 14
  | 101 => some 15
  | 102 => some 16
  | 103 => some 17
  | 106 => some 18
  | 107 => some 19
  | 108 => some 20
  | _ => none
def emb (I : aI) (S : aS) : aI := fun a k => if a = 72 then (match msc k with
  | some j => S 0 j
  | none => I a k) else (match mar a with
  | some c => S c k
  | none => I a k)
theorem msc_inj {k k' j : Nat} (h : msc k = some j) (h' : msc k' = some j) : k = k' := by
  unfold msc at h h'
  split at h <;> cases h <;> split at h' <;> first | rfl | (cases h'; done)
theorem mar_inj {a a' c : Nat} (h : mar a = some c) (h' : mar a' = some c) : a = a' := by
  unfold mar at h h'
  split at h <;> cases h <;> split at h' <;> first | rfl | (cases h'; done)
theorem mar_pos {a c : Nat} (h : mar a = some c) : c ≠ 0 ∧ a ≠ 72 := by
  unfold mar at h
  split at h <;> cases h <;> decide
theorem emb_ws {I : aI} {S : aS} {k j : Nat} {v : Int32} (h : msc k = some j) : up2 (emb I S) 72 k v = emb I (up2 S 0 j v) := by
  funext a k'
  rw [up2_e]
  unfold emb
  by_cases ha : a = 72
  · subst ha
    rw [if_pos rfl, if_pos rfl]
    by_cases hk : k' = k
    · subst hk
      rw [if_pos rfl, if_pos rfl, h]
      simp only [up2_s]
    · rw [if_neg hk, if_pos rfl]
      cases hm : msc k' with
      | none => rfl
      | some j' =>
        have : j' ≠ j := fun e => hk (msc_inj hm (by rw [e]; exact h))
        simp only [up2_k this]
  · rw [if_neg ha, if_neg ha, if_neg ha]
    cases hm : mar a with
    | none => rfl
    | some c => simp only [up2_a (mar_pos hm).1]
theorem emb_wa {I : aI} {S : aS} {a k c : Nat} {v : Int32} (h : mar a = some c) : up2 (emb I S) a k v = emb I (up2 S c k v) := by
  have h72 := (mar_pos h).2
  have hc0 := (mar_pos h).1
  funext a' k'
  rw [up2_e]
  unfold emb
  by_cases ha : a' = a
  · subst ha
    rw [if_pos rfl, if_neg h72, if_neg h72, h]
    by_cases hk : k' = k
    · subst hk
      rw [if_pos rfl]
      simp only [up2_s]
    · rw [if_neg hk]
      simp only [up2_k hk]
  · rw [if_neg ha]
    by_cases h2 : a' = 72
    · subst h2
      rw [if_pos rfl, if_pos rfl]
      cases hm : msc k' with
      | none => rfl
      | some j' => simp only [up2_a (Ne.symm hc0)]
    · rw [if_neg h2, if_neg h2]
      cases hm : mar a' with
      | none => rfl
      | some c' =>
        have : c' ≠ c := fun e => ha (mar_inj hm (by rw [e]; exact h))
        simp only [up2_a this]
theorem emb_wo {I : aI} {S : aS} {k : Nat} {v : Int32} (h : msc k = none) : up2 (emb I S) 72 k v = emb (up2 I 72 k v) S := by
  funext a k'
  rw [up2_e]
  unfold emb
  by_cases ha : a = 72
  · subst ha
    rw [if_pos rfl, if_pos rfl, if_pos rfl]
    by_cases hk : k' = k
    · subst hk
      rw [if_pos rfl, h]
      simp only [up2_s]
    · rw [if_neg hk]
      cases hm : msc k' with
      | none => simp only [up2_k hk]
      | some j' => rfl
  · rw [if_neg ha, if_neg ha, if_neg ha]
    cases hm : mar a with
    | none => simp only [up2_a ha]
    | some c => rfl
theorem emb_wb {I : aI} {S : aS} {a k : Nat} {v : Int32} (h : mar a = none) (h72 : a ≠ 72) : up2 (emb I S) a k v = emb (up2 I a k v) S := by
  funext a' k'
  rw [up2_e]
  unfold emb
  by_cases ha : a' = a
  · subst ha
    rw [if_pos rfl, if_neg h72, if_neg h72, h]
    by_cases hk : k' = k
    · subst hk
      rw [if_pos rfl]
      simp only [up2_s]
    · rw [if_neg hk]
      simp only [up2_k hk]
  · rw [if_neg ha]
    by_cases h2 : a' = 72
    · subst h2
      rw [if_pos rfl, if_pos rfl]
      cases hm : msc k' with
      | none => simp only [up2_a ha]
      | some j' => rfl
    · rw [if_neg h2, if_neg h2]
      cases hm : mar a' with
      | none => simp only [up2_a ha]
      | some c' => rfl
theorem es2 {I : aI} {S : aS} : emb I S 72 2 = S 0 0 := id rfl
theorem ew2 {I : aI} {S : aS} {v : Int32} : up2 (emb I S) 72 2 v = emb I (up2 S 0 0 v) := emb_ws rfl
theorem es1 {I : aI} {S : aS} : emb I S 72 1 = S 0 1 := id rfl
theorem ew1 {I : aI} {S : aS} {v : Int32} : up2 (emb I S) 72 1 v = emb I (up2 S 0 1 v) := emb_ws rfl
theorem es3 {I : aI} {S : aS} : emb I S 72 3 = S 0 2 := id rfl
theorem ew3 {I : aI} {S : aS} {v : Int32} : up2 (emb I S) 72 3 v = emb I (up2 S 0 2 v) := emb_ws rfl
theorem es4 {I : aI} {S : aS} : emb I S 72 4 = S 0 3 := id rfl
theorem ew4 {I : aI} {S : aS} {v : Int32} : up2 (emb I S) 72 4 v = emb I (up2 S 0 3 v) := emb_ws rfl
theorem es5 {I : aI} {S : aS} : emb I S 72 5 = S 0 4 := id rfl
theorem ew5 {I : aI} {S : aS} {v : Int32} : up2 (emb I S) 72 5 v = emb I (up2 S 0 4 v) := emb_ws rfl
theorem es6 {I : aI} {S : aS} : emb I S 72 6 = S 0 5 := id rfl
theorem ew6 {I : aI} {S : aS} {v : Int32} : up2 (emb I S) 72 6 v = emb I (up2 S 0 5 v) := emb_ws rfl
theorem es7 {I : aI} {S : aS} : emb I S 72 7 = S 0 6 := id rfl
theorem ew7 {I : aI} {S : aS} {v : Int32} : up2 (emb I S) 72 7 v = emb I (up2 S 0 6 v) := emb_ws rfl
theorem es8 {I : aI} {S : aS} : emb I S 72 8 = S 0 7 := id rfl
theorem ew8 {I : aI} {S : aS} {v : Int32} : up2 (emb I S) 72 8 v = emb I (up2 S 0 7 v) := emb_ws rfl
theorem es9 {I : aI} {S : aS} : emb I S 72 9 = S 0 8 := id rfl
theorem ew9 {I : aI} {S : aS} {v : Int32} : up2 (emb I S) 72 9 v = emb I (up2 S 0 8 v) := emb_ws rfl
theorem es10 {I : aI} {S : aS} : emb I S 72 10 = S 0 9 := id rfl
theorem ew10 {I : aI} {S : aS} {v : Int32} : up2 (emb I S) 72 10 v = emb I (up2 S 0 9 v) := emb_ws rfl
theorem es11 {I : aI} {S : aS} : emb I S 72 11 = S 0 10 := id rfl
theorem ew11 {I : aI} {S : aS} {v : Int32} : up2 (emb I S) 72 11 v = emb I (up2 S 0 10 v) := emb_ws rfl
theorem es12 {I : aI} {S : aS} : emb I S 72 12 = S 0 11 := id rfl
theorem ew12 {I : aI} {S : aS} {v : Int32} : up2 (emb I S) 72 12 v = emb I (up2 S 0 11 v) := emb_ws rfl
theorem es13 {I : aI} {S : aS} : emb I S 72 13 = S 0 12 := id rfl
theorem ew13 {I : aI} {S : aS} {v : Int32} : up2 (emb I S) 72 13 v = emb I (up2 S 0 12 v) := emb_ws rfl
theorem es14 {I : aI} {S : aS} : emb I S 72 14 = S 0 13 := id rfl
theorem ew14 {I : aI} {S : aS} {v : Int32} : up2 (emb I S) 72 14 v = emb I (up2 S 0 13 v) := emb_ws rfl
theorem es15 {I : aI} {S : aS} : emb I S 72 15 = S 0 14 := id rfl
theorem ew15 {I : aI} {S : aS} {v : Int32} : up2 (emb I S) 72 15 v = emb I (up2 S 0 14 v) := emb_ws rfl
theorem es51 {I : aI} {S : aS} : emb I S 72 51 = S 0 15 := id rfl
theorem ew51 {I : aI} {S : aS} {v : Int32} : up2 (emb I S) 72 51 v = emb I (up2 S 0 15 v) := emb_ws rfl
theorem es52 {I : aI} {S : aS} : emb I S 72 52 = S 0 16 := id rfl
theorem ew52 {I : aI} {S : aS} {v : Int32} : up2 (emb I S) 72 52 v = emb I (up2 S 0 16 v) := emb_ws rfl
theorem es53 {I : aI} {S : aS} : emb I S 72 53 = S 0 17 := id rfl
theorem ew53 {I : aI} {S : aS} {v : Int32} : up2 (emb I S) 72 53 v = emb I (up2 S 0 17 v) := emb_ws rfl
theorem es54 {I : aI} {S : aS} : emb I S 72 54 = S 0 18 := id rfl
theorem ew54 {I : aI} {S : aS} {v : Int32} : up2 (emb I S) 72 54 v = emb I (up2 S 0 18 v) := emb_ws rfl
theorem es61 {I : aI} {S : aS} : emb I S 72 61 = S 0 19 := id rfl
theorem ew61 {I : aI} {S : aS} {v : Int32} : up2 (emb I S) 72 61 v = emb I (up2 S 0 19 v) := emb_ws rfl
theorem es0 {I : aI} {S : aS} : emb I S 72 0 = I 72 0 := id rfl
theorem ew0 {I : aI} {S : aS} {v : Int32} : up2 (emb I S) 72 0 v = emb (up2 I 72 0 v) S := emb_wo rfl
theorem es16 {I : aI} {S : aS} : emb I S 72 16 = I 72 16 := id rfl
theorem ew16 {I : aI} {S : aS} {v : Int32} : up2 (emb I S) 72 16 v = emb (up2 I 72 16 v) S := emb_wo rfl
theorem es17 {I : aI} {S : aS} : emb I S 72 17 = I 72 17 := id rfl
theorem ew17 {I : aI} {S : aS} {v : Int32} : up2 (emb I S) 72 17 v = emb (up2 I 72 17 v) S := emb_wo rfl
theorem es18 {I : aI} {S : aS} : emb I S 72 18 = I 72 18 := id rfl
theorem ew18 {I : aI} {S : aS} {v : Int32} : up2 (emb I S) 72 18 v = emb (up2 I 72 18 v) S := emb_wo rfl
theorem es19 {I : aI} {S : aS} : emb I S 72 19 = I 72 19 := id rfl
theorem ew19 {I : aI} {S : aS} {v : Int32} : up2 (emb I S) 72 19 v = emb (up2 I 72 19 v) S := emb_wo rfl
theorem es20 {I : aI} {S : aS} : emb I S 72 20 = I 72 20 := id rfl
theorem ew20 {I : aI} {S : aS} {v : Int32} : up2 (emb I S) 72 20 v = emb (up2 I 72 20 v) S := emb_wo rfl
theorem es21 {I : aI} {S : aS} : emb I S 72 21 = I 72 21 := id rfl
theorem ew21 {I : aI} {S : aS} {v : Int32} : up2 (emb I S) 72 21 v = emb (up2 I 72 21 v) S := emb_wo rfl
theorem es22 {I : aI} {S : aS} : emb I S 72 22 = I 72 22 := id rfl
theorem ew22 {I : aI} {S : aS} {v : Int32} : up2 (emb I S) 72 22 v = emb (up2 I 72 22 v) S := emb_wo rfl
theorem es23 {I : aI} {S : aS} : emb I S 72 23 = I 72 23 := id rfl
theorem ew23 {I : aI} {S : aS} {v : Int32} : up2 (emb I S) 72 23 v = emb (up2 I 72 23 v) S := emb_wo rfl
theorem es24 {I : aI} {S : aS} : emb I S 72 24 = I 72 24 := id rfl
theorem ew24 {I : aI} {S : aS} {v : Int32} : up2 (emb I S) 72 24 v = emb (up2 I 72 24 v) S := emb_wo rfl
theorem es25 {I : aI} {S : aS} : emb I S 72 25 = I 72 25 := id rfl
theorem ew25 {I : aI} {S : aS} {v : Int32} : up2 (emb I S) 72 25 v = emb (up2 I 72 25 v) S := emb_wo rfl
theorem es26 {I : aI} {S : aS} : emb I S 72 26 = I 72 26 := id rfl
theorem ew26 {I : aI} {S : aS} {v : Int32} : up2 (emb I S) 72 26 v = emb (up2 I 72 26 v) S := emb_wo rfl
theorem es27 {I : aI} {S : aS} : emb I S 72 27 = I 72 27 := id rfl
theorem ew27 {I : aI} {S : aS} {v : Int32} : up2 (emb I S) 72 27 v = emb (up2 I 72 27 v) S := emb_wo rfl
theorem es28 {I : aI} {S : aS} : emb I S 72 28 = I 72 28 := id rfl
theorem ew28 {I : aI} {S : aS} {v : Int32} : up2 (emb I S) 72 28 v = emb (up2 I 72 28 v) S := emb_wo rfl
theorem es29 {I : aI} {S : aS} : emb I S 72 29 = I 72 29 := id rfl
theorem ew29 {I : aI} {S : aS} {v : Int32} : up2 (emb I S) 72 29 v = emb (up2 I 72 29 v) S := emb_wo rfl
theorem es30 {I : aI} {S : aS} : emb I S 72 30 = I 72 30 := id rfl
theorem ew30 {I : aI} {S : aS} {v : Int32} : up2 (emb I S) 72 30 v = emb (up2 I 72 30 v) S := emb_wo rfl
theorem es31 {I : aI} {S : aS} : emb I S 72 31 = I 72 31 := id rfl
theorem ew31 {I : aI} {S : aS} {v : Int32} : up2 (emb I S) 72 31 v = emb (up2 I 72 31 v) S := emb_wo rfl
theorem es32 {I : aI} {S : aS} : emb I S 72 32 = I 72 32 := id rfl
theorem ew32 {I : aI} {S : aS} {v : Int32} : up2 (emb I S) 72 32 v = emb (up2 I 72 32 v) S := emb_wo rfl
theorem es33 {I : aI} {S : aS} : emb I S 72 33 = I 72 33 := id rfl
theorem ew33 {I : aI} {S : aS} {v : Int32} : up2 (emb I S) 72 33 v = emb (up2 I 72 33 v) S := emb_wo rfl
theorem es34 {I : aI} {S : aS} : emb I S 72 34 = I 72 34 := id rfl
theorem ew34 {I : aI} {S : aS} {v : Int32} : up2 (emb I S) 72 34 v = emb (up2 I 72 34 v) S := emb_wo rfl
theorem es35 {I : aI} {S : aS} : emb I S 72 35 = I 72 35 := id rfl
theorem ew35 {I : aI} {S : aS} {v : Int32} : up2 (emb I S) 72 35 v = emb (up2 I 72 35 v) S := emb_wo rfl
theorem es36 {I : aI} {S : aS} : emb I S 72 36 = I 72 36 := id rfl
theorem ew36 {I : aI} {S : aS} {v : Int32} : up2 (emb I S) 72 36 v = emb (up2 I 72 36 v) S := emb_wo rfl
theorem es37 {I : aI} {S : aS} : emb I S 72 37 = I 72 37 := id rfl
theorem ew37 {I : aI} {S : aS} {v : Int32} : up2 (emb I S) 72 37 v = emb (up2 I 72 37 v) S := emb_wo rfl
theorem es38 {I : aI} {S : aS} : emb I S 72 38 = I 72 38 := id rfl
theorem ew38 {I : aI} {S : aS} {v : Int32} : up2 (emb I S) 72 38 v = emb (up2 I 72 38 v) S := emb_wo rfl
theorem es39 {I : aI} {S : aS} : emb I S 72 39 = I 72 39 := id rfl
theorem ew39 {I : aI} {S : aS} {v : Int32} : up2 (emb I S) 72 39 v = emb (up2 I 72 39 v) S := emb_wo rfl
theorem es40 {I : aI} {S : aS} : emb I S 72 40 = I 72 40 := id rfl
theorem ew40 {I : aI} {S : aS} {v : Int32} : up2 (emb I S) 72 40 v = emb (up2 I 72 40 v) S := emb_wo rfl
theorem es41 {I : aI} {S : aS} : emb I S 72 41 = I 72 41 := id rfl
theorem ew41 {I : aI} {S : aS} {v : Int32} : up2 (emb I S) 72 41 v = emb (up2 I 72 41 v) S := emb_wo rfl
theorem es42 {I : aI} {S : aS} : emb I S 72 42 = I 72 42 := id rfl
theorem ew42 {I : aI} {S : aS} {v : Int32} : up2 (emb I S) 72 42 v = emb (up2 I 72 42 v) S := emb_wo rfl
theorem es43 {I : aI} {S : aS} : emb I S 72 43 = I 72 43 := id rfl
theorem ew43 {I : aI} {S : aS} {v : Int32} : up2 (emb I S) 72 43 v = emb (up2 I 72 43 v) S := emb_wo rfl
theorem es44 {I : aI} {S : aS} : emb I S 72 44 = I 72 44 := id rfl
theorem ew44 {I : aI} {S : aS} {v : Int32} : up2 (emb I S) 72 44 v = emb (up2 I 72 44 v) S := emb_wo rfl
theorem es45 {I : aI} {S : aS} : emb I S 72 45 = I 72 45 := id rfl
theorem ew45 {I : aI} {S : aS} {v : Int32} : up2 (emb I S) 72 45 v = emb (up2 I 72 45 v) S := emb_wo rfl
theorem es46 {I : aI} {S : aS} : emb I S 72 46 = I 72 46 := id rfl
theorem ew46 {I : aI} {S : aS} {v : Int32} : up2 (emb I S) 72 46 v = emb (up2 I 72 46 v) S := emb_wo rfl
theorem es47 {I : aI} {S : aS} : emb I S 72 47 = I 72 47 := id rfl
theorem ew47 {I : aI} {S : aS} {v : Int32} : up2 (emb I S) 72 47 v = emb (up2 I 72 47 v) S := emb_wo rfl
theorem es48 {I : aI} {S : aS} : emb I S 72 48 = I 72 48 := id rfl
theorem ew48 {I : aI} {S : aS} {v : Int32} : up2 (emb I S) 72 48 v = emb (up2 I 72 48 v) S := emb_wo rfl
theorem es49 {I : aI} {S : aS} : emb I S 72 49 = I 72 49 := id rfl
theorem ew49 {I : aI} {S : aS} {v : Int32} : up2 (emb I S) 72 49 v = emb (up2 I 72 49 v) S := emb_wo rfl
theorem es50 {I : aI} {S : aS} : emb I S 72 50 = I 72 50 := id rfl
theorem ew50 {I : aI} {S : aS} {v : Int32} : up2 (emb I S) 72 50 v = emb (up2 I 72 50 v) S := emb_wo rfl
theorem es55 {I : aI} {S : aS} : emb I S 72 55 = I 72 55 := id rfl
theorem ew55 {I : aI} {S : aS} {v : Int32} : up2 (emb I S) 72 55 v = emb (up2 I 72 55 v) S := emb_wo rfl
theorem es56 {I : aI} {S : aS} : emb I S 72 56 = I 72 56 := id rfl
theorem ew56 {I : aI} {S : aS} {v : Int32} : up2 (emb I S) 72 56 v = emb (up2 I 72 56 v) S := emb_wo rfl
theorem es57 {I : aI} {S : aS} : emb I S 72 57 = I 72 57 := id rfl
theorem ew57 {I : aI} {S : aS} {v : Int32} : up2 (emb I S) 72 57 v = emb (up2 I 72 57 v) S := emb_wo rfl
theorem es58 {I : aI} {S : aS} : emb I S 72 58 = I 72 58 := id rfl
theorem ew58 {I : aI} {S : aS} {v : Int32} : up2 (emb I S) 72 58 v = emb (up2 I 72 58 v) S := emb_wo rfl
theorem es59 {I : aI} {S : aS} : emb I S 72 59 = I 72 59 := id rfl
theorem ew59 {I : aI} {S : aS} {v : Int32} : up2 (emb I S) 72 59 v = emb (up2 I 72 59 v) S := emb_wo rfl
theorem es60 {I : aI} {S : aS} : emb I S 72 60 = I 72 60 := id rfl
theorem ew60 {I : aI} {S : aS} {v : Int32} : up2 (emb I S) 72 60 v = emb (up2 I 72 60 v) S := emb_wo rfl
theorem es62 {I : aI} {S : aS} : emb I S 72 62 = I 72 62 := id rfl
theorem ew62 {I : aI} {S : aS} {v : Int32} : up2 (emb I S) 72 62 v = emb (up2 I 72 62 v) S := emb_wo rfl
theorem es63 {I : aI} {S : aS} : emb I S 72 63 = I 72 63 := id rfl
theorem ew63 {I : aI} {S : aS} {v : Int32} : up2 (emb I S) 72 63 v = emb (up2 I 72 63 v) S := emb_wo rfl
theorem es64 {I : aI} {S : aS} : emb I S 72 64 = I 72 64 := id rfl
theorem ew64 {I : aI} {S : aS} {v : Int32} : up2 (emb I S) 72 64 v = emb (up2 I 72 64 v) S := emb_wo rfl
theorem es65 {I : aI} {S : aS} : emb I S 72 65 = I 72 65 := id rfl
theorem ew65 {I : aI} {S : aS} {v : Int32} : up2 (emb I S) 72 65 v = emb (up2 I 72 65 v) S := emb_wo rfl
theorem es66 {I : aI} {S : aS} : emb I S 72 66 = I 72 66 := id rfl
theorem ew66 {I : aI} {S : aS} {v : Int32} : up2 (emb I S) 72 66 v = emb (up2 I 72 66 v) S := emb_wo rfl
theorem es67 {I : aI} {S : aS} : emb I S 72 67 = I 72 67 := id rfl
theorem ew67 {I : aI} {S : aS} {v : Int32} : up2 (emb I S) 72 67 v = emb (up2 I 72 67 v) S := emb_wo rfl
theorem es68 {I : aI} {S : aS} : emb I S 72 68 = I 72 68 := id rfl
theorem ew68 {I : aI} {S : aS} {v : Int32} : up2 (emb I S) 72 68 v = emb (up2 I 72 68 v) S := emb_wo rfl
theorem es69 {I : aI} {S : aS} : emb I S 72 69 = I 72 69 := id rfl
theorem ew69 {I : aI} {S : aS} {v : Int32} : up2 (emb I S) 72 69 v = emb (up2 I 72 69 v) S := emb_wo rfl
theorem ea73 {I : aI} {S : aS} : emb I S 73 = S 1 := id rfl
theorem eb73 {I : aI} {S : aS} {k : Nat} {v : Int32} : up2 (emb I S) 73 k v = emb I (up2 S 1 k v) := emb_wa rfl
theorem ea74 {I : aI} {S : aS} : emb I S 74 = S 2 := id rfl
theorem eb74 {I : aI} {S : aS} {k : Nat} {v : Int32} : up2 (emb I S) 74 k v = emb I (up2 S 2 k v) := emb_wa rfl
theorem ea75 {I : aI} {S : aS} : emb I S 75 = S 3 := id rfl
theorem eb75 {I : aI} {S : aS} {k : Nat} {v : Int32} : up2 (emb I S) 75 k v = emb I (up2 S 3 k v) := emb_wa rfl
theorem ea76 {I : aI} {S : aS} : emb I S 76 = S 4 := id rfl
theorem eb76 {I : aI} {S : aS} {k : Nat} {v : Int32} : up2 (emb I S) 76 k v = emb I (up2 S 4 k v) := emb_wa rfl
theorem ea77 {I : aI} {S : aS} : emb I S 77 = S 5 := id rfl
theorem eb77 {I : aI} {S : aS} {k : Nat} {v : Int32} : up2 (emb I S) 77 k v = emb I (up2 S 5 k v) := emb_wa rfl
theorem ea78 {I : aI} {S : aS} : emb I S 78 = S 6 := id rfl
theorem eb78 {I : aI} {S : aS} {k : Nat} {v : Int32} : up2 (emb I S) 78 k v = emb I (up2 S 6 k v) := emb_wa rfl
theorem ea79 {I : aI} {S : aS} : emb I S 79 = S 7 := id rfl
theorem eb79 {I : aI} {S : aS} {k : Nat} {v : Int32} : up2 (emb I S) 79 k v = emb I (up2 S 7 k v) := emb_wa rfl
theorem ea80 {I : aI} {S : aS} : emb I S 80 = S 8 := id rfl
theorem eb80 {I : aI} {S : aS} {k : Nat} {v : Int32} : up2 (emb I S) 80 k v = emb I (up2 S 8 k v) := emb_wa rfl
theorem ea81 {I : aI} {S : aS} : emb I S 81 = S 9 := id rfl
theorem eb81 {I : aI} {S : aS} {k : Nat} {v : Int32} : up2 (emb I S) 81 k v = emb I (up2 S 9 k v) := emb_wa rfl
theorem ea82 {I : aI} {S : aS} : emb I S 82 = S 10 := id rfl
theorem eb82 {I : aI} {S : aS} {k : Nat} {v : Int32} : up2 (emb I S) 82 k v = emb I (up2 S 10 k v) := emb_wa rfl
theorem ea83 {I : aI} {S : aS} : emb I S 83 = S 11 := id rfl
theorem eb83 {I : aI} {S : aS} {k : Nat} {v : Int32} : up2 (emb I S) 83 k v = emb I (up2 S 11 k v) := emb_wa rfl
theorem ea84 {I : aI} {S : aS} : emb I S 84 = I 84 := id rfl
theorem eb84 {I : aI} {S : aS} {k : Nat} {v : Int32} : up2 (emb I S) 84 k v = emb (up2 I 84 k v) S := emb_wb rfl (by decide)
theorem ea85 {I : aI} {S : aS} : emb I S 85 = I 85 := id rfl
theorem eb85 {I : aI} {S : aS} {k : Nat} {v : Int32} : up2 (emb I S) 85 k v = emb (up2 I 85 k v) S := emb_wb rfl (by decide)
theorem ea86 {I : aI} {S : aS} : emb I S 86 = I 86 := id rfl
theorem eb86 {I : aI} {S : aS} {k : Nat} {v : Int32} : up2 (emb I S) 86 k v = emb (up2 I 86 k v) S := emb_wb rfl (by decide)
theorem ea87 {I : aI} {S : aS} : emb I S 87 = I 87 := id rfl
theorem eb87 {I : aI} {S : aS} {k : Nat} {v : Int32} : up2 (emb I S) 87 k v = emb (up2 I 87 k v) S := emb_wb rfl (by decide)
theorem ea88 {I : aI} {S : aS} : emb I S 88 = I 88 := id rfl
theorem eb88 {I : aI} {S : aS} {k : Nat} {v : Int32} : up2 (emb I S) 88 k v = emb (up2 I 88 k v) S := emb_wb rfl (by decide)
theorem ea89 {I : aI} {S : aS} : emb I S 89 = I 89 := id rfl
theorem eb89 {I : aI} {S : aS} {k : Nat} {v : Int32} : up2 (emb I S) 89 k v = emb (up2 I 89 k v) S := emb_wb rfl (by decide)
theorem ea90 {I : aI} {S : aS} : emb I S 90 = I 90 := id rfl
theorem eb90 {I : aI} {S : aS} {k : Nat} {v : Int32} : up2 (emb I S) 90 k v = emb (up2 I 90 k v) S := emb_wb rfl (by decide)
theorem ea91 {I : aI} {S : aS} : emb I S 91 = I 91 := id rfl
theorem eb91 {I : aI} {S : aS} {k : Nat} {v : Int32} : up2 (emb I S) 91 k v = emb (up2 I 91 k v) S := emb_wb rfl (by decide)
theorem ea92 {I : aI} {S : aS} : emb I S 92 = I 92 := id rfl
theorem eb92 {I : aI} {S : aS} {k : Nat} {v : Int32} : up2 (emb I S) 92 k v = emb (up2 I 92 k v) S := emb_wb rfl (by decide)
theorem ea93 {I : aI} {S : aS} : emb I S 93 = I 93 := id rfl
theorem eb93 {I : aI} {S : aS} {k : Nat} {v : Int32} : up2 (emb I S) 93 k v = emb (up2 I 93 k v) S := emb_wb rfl (by decide)
theorem ea94 {I : aI} {S : aS} : emb I S 94 = I 94 := id rfl
theorem eb94 {I : aI} {S : aS} {k : Nat} {v : Int32} : up2 (emb I S) 94 k v = emb (up2 I 94 k v) S := emb_wb rfl (by decide)
theorem ea95 {I : aI} {S : aS} : emb I S 95 = I 95 := id rfl
theorem eb95 {I : aI} {S : aS} {k : Nat} {v : Int32} : up2 (emb I S) 95 k v = emb (up2 I 95 k v) S := emb_wb rfl (by decide)
theorem ea96 {I : aI} {S : aS} : emb I S 96 = I 96 := id rfl
theorem eb96 {I : aI} {S : aS} {k : Nat} {v : Int32} : up2 (emb I S) 96 k v = emb (up2 I 96 k v) S := emb_wb rfl (by decide)
theorem ea97 {I : aI} {S : aS} : emb I S 97 = S 12 := id rfl
theorem eb97 {I : aI} {S : aS} {k : Nat} {v : Int32} : up2 (emb I S) 97 k v = emb I (up2 S 12 k v) := emb_wa rfl
theorem ea98 {I : aI} {S : aS} : emb I S 98 = I 98 := id rfl
theorem eb98 {I : aI} {S : aS} {k : Nat} {v : Int32} : up2 (emb I S) 98 k v = emb (up2 I 98 k v) S := emb_wb rfl (by decide)
theorem ea99 {I : aI} {S : aS} : emb I S 99 = S 13 := id rfl
theorem eb99 {I : aI} {S : aS} {k : Nat} {v : Int32} : up2 (emb I S) 99 k v = emb I (up2 S 13 k v) := emb_wa rfl
theorem ea100 {I : aI} {S : aS} : emb I S 100 = S 14 := id rfl
theorem eb100 {I : aI} {S : aS} {k : Nat} {v : Int32} : up2 (emb I S) 100 k v = emb I (up2 S 14 k v) := emb_wa rfl
theorem ea101 {I : aI} {S : aS} : emb I S 101 = S 15 := id rfl
theorem eb101 {I : aI} {S : aS} {k : Nat} {v : Int32} : up2 (emb I S) 101 k v = emb I (up2 S 15 k v) := emb_wa rfl
theorem ea102 {I : aI} {S : aS} : emb I S 102 = S 16 := id rfl
theorem eb102 {I : aI} {S : aS} {k : Nat} {v : Int32} : up2 (emb I S) 102 k v = emb I (up2 S 16 k v) := emb_wa rfl
theorem ea103 {I : aI} {S : aS} : emb I S 103 = S 17 := id rfl
theorem eb103 {I : aI} {S : aS} {k : Nat} {v : Int32} : up2 (emb I S) 103 k v = emb I (up2 S 17 k v) := emb_wa rfl
theorem ea104 {I : aI} {S : aS} : emb I S 104 = I 104 := id rfl
theorem eb104 {I : aI} {S : aS} {k : Nat} {v : Int32} : up2 (emb I S) 104 k v = emb (up2 I 104 k v) S := emb_wb rfl (by decide)
theorem ea105 {I : aI} {S : aS} : emb I S 105 = I 105 := id rfl
theorem eb105 {I : aI} {S : aS} {k : Nat} {v : Int32} : up2 (emb I S) 105 k v = emb (up2 I 105 k v) S := emb_wb rfl (by decide)
theorem ea106 {I : aI} {S : aS} : emb I S 106 = S 18 := id rfl
theorem eb106 {I : aI} {S : aS} {k : Nat} {v : Int32} : up2 (emb I S) 106 k v = emb I (up2 S 18 k v) := emb_wa rfl
theorem ea107 {I : aI} {S : aS} : emb I S 107 = S 19 := id rfl
theorem eb107 {I : aI} {S : aS} {k : Nat} {v : Int32} : up2 (emb I S) 107 k v = emb I (up2 S 19 k v) := emb_wa rfl
theorem ea108 {I : aI} {S : aS} : emb I S 108 = S 20 := id rfl
theorem eb108 {I : aI} {S : aS} {k : Nat} {v : Int32} : up2 (emb I S) 108 k v = emb I (up2 S 20 k v) := emb_wa rfl
theorem ea109 {I : aI} {S : aS} : emb I S 109 = I 109 := id rfl
theorem eb109 {I : aI} {S : aS} {k : Nat} {v : Int32} : up2 (emb I S) 109 k v = emb (up2 I 109 k v) S := emb_wb rfl (by decide)
theorem ea110 {I : aI} {S : aS} : emb I S 110 = I 110 := id rfl
theorem eb110 {I : aI} {S : aS} {k : Nat} {v : Int32} : up2 (emb I S) 110 k v = emb (up2 I 110 k v) S := emb_wb rfl (by decide)
theorem ea111 {I : aI} {S : aS} : emb I S 111 = I 111 := id rfl
theorem eb111 {I : aI} {S : aS} {k : Nat} {v : Int32} : up2 (emb I S) 111 k v = emb (up2 I 111 k v) S := emb_wb rfl (by decide)
