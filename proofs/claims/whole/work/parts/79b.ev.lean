/-! STEPS RUN ON A STACK OF INTEGERS -/
def jo (k : Nat) (a b : Int) : Int := if k = 7 then a + b else if k = 8 then a - b else if k = 9 then (if a < b then 1 else 0) else if k = 10 then (if b < a then 0 else 1) else if k = 11 then (if a = b then 1 else 0) else if k = 12 then (if a < b then 0 else 1) else if k = 13 then (if b < a then 1 else 0) else if k = 21 then (if a = 1 ∧ b = 1 then 1 else 0) else (if a = 1 ∨ b = 1 then 1 else 0)
def stp1 (w : Nat → Int) (x : Int32) (V : List Int) : List Int := if 0 ≤ x.toInt then x.toInt :: V else if 23 ≤ (-x).toNatClampNeg then w ((-x).toNatClampNeg - 23) :: V else match V with
  | [] => []
  | b :: V1 => if (-x).toNatClampNeg = 20 then (1 - b) :: V1 else match V1 with
    | [] => V
    | a :: V2 => jo (-x).toNatClampNeg a b :: V2
def evs (w : Nat → Int) : List Int32 → List Int → List Int
  | [], V => V
  | x :: l, V => evs w l (stp1 w x V)
def tv (t : Nat) (v : Int) : Prop := if t = 0 then v = 0 ∨ v = 1 else -(10000000 * (t : Int)) ≤ v ∧ v ≤ 10000000 * (t : Int)
def ty : List Nat → List Int → Prop
  | [], [] => True
  | t :: T, v :: V => tv t v ∧ ty T V
  | [], _ :: _ => False
  | _ :: _, [] => False
theorem ty_len : ∀ {T : List Nat} {V : List Int}, ty T V → T.length = V.length := by
  intro T
  induction T with
  | nil => intro V h; cases V with
    | nil => rfl
    | cons v V => exact h.elim
  | cons t T ih => intro V h; cases V with
    | nil => exact h.elim
    | cons v V => rw [List.length_cons, List.length_cons, ih h.2]
theorem tv_0 {v : Int} : tv 0 v ↔ v = 0 ∨ v = 1 := by unfold tv; rw [if_pos rfl]
theorem tv_n {t : Nat} {v : Int} (h : 1 ≤ t) : tv t v ↔ -(10000000 * (t : Int)) ≤ v ∧ v ≤ 10000000 * (t : Int) := by unfold tv; rw [if_neg (by omega)]
theorem ng_x {x : Int32} (h : 1 ≤ (-x).toNatClampNeg) : x = -(iN (-x).toNatClampNeg) := by
  have e : iN (-x).toNatClampNeg = -x := by
    rw [ti_eq, iN_int]
    · unfold Int32.toNatClampNeg at h ⊢; omega
    · have := Int32.toInt_lt (-x)
      unfold Int32.toNatClampNeg
      omega
  rw [e, Int32.neg_neg]
theorem ck_inv {x : Int32} {T T' : List Nat} (h : ck x T = some T') : (0 ≤ x.toInt ∧ x.toInt ≤ 99999 ∧ T.length < 40 ∧ T' = 1 :: T) ∨ (∃ k, x = -(iN k) ∧ 23 ≤ k ∧ k < 36 ∧ T.length < 40 ∧ T' = 1 :: T) ∨ (x = -(iN 20) ∧ ∃ T1, T = 0 :: T1 ∧ T' = 0 :: T1) ∨ (∃ k a b T2, x = -(iN k) ∧ (k = 7 ∨ k = 8) ∧ T = b :: a :: T2 ∧ 1 ≤ a ∧ 1 ≤ b ∧ a + b ≤ 100 ∧ T' = (a + b) :: T2) ∨ (∃ k a b T2, x = -(iN k) ∧ (9 ≤ k ∧ k ≤ 13) ∧ T = b :: a :: T2 ∧ 1 ≤ a ∧ 1 ≤ b ∧ a ≤ 100 ∧ b ≤ 100 ∧ T' = 0 :: T2) ∨ (∃ k T2, x = -(iN k) ∧ (k = 21 ∨ k = 22) ∧ T = 0 :: 0 :: T2 ∧ T' = 0 :: T2) := by
  unfold ck at h
  by_cases h0 : 0 ≤ x.toInt
  · rw [if_pos h0] at h
    split at h
    · rename_i q; cases h; exact Or.inl ⟨h0, q.1, q.2, rfl⟩
    · cases h
  · rw [if_neg h0] at h
    by_cases h23 : 23 ≤ (-x).toNatClampNeg
    · rw [if_pos h23] at h
      split at h
      · rename_i q; cases h; exact Or.inr (Or.inl ⟨_, ng_x (by omega), h23, q.1, q.2, rfl⟩)
      · cases h
    · rw [if_neg h23] at h
      cases T with
      | nil => cases h
      | cons b T1 =>
        dsimp only at h
        by_cases h20 : (-x).toNatClampNeg = 20
        · rw [if_pos h20] at h
          split at h
          · rename_i q; subst q; cases h
            refine Or.inr (Or.inr (Or.inl ⟨?_, T1, rfl, rfl⟩))
            have := ng_x (x := x) (by omega)
            rw [h20] at this
            exact this
          · cases h
        · rw [if_neg h20] at h
          cases T1 with
          | nil => cases h
          | cons a T2 =>
            dsimp only at h
            split at h
            · rename_i q
              split at h
              · rename_i r; cases h; exact Or.inr (Or.inr (Or.inr (Or.inl ⟨_, a, b, T2, ng_x (by omega), q, rfl, r.1, r.2.1, r.2.2, rfl⟩)))
              · cases h
            · split at h
              · rename_i q
                split at h
                · rename_i r; cases h; exact Or.inr (Or.inr (Or.inr (Or.inr (Or.inl ⟨_, a, b, T2, ng_x (by omega), q, rfl, r.1, r.2.1, r.2.2.1, r.2.2.2, rfl⟩))))
                · cases h
              · split at h
                · rename_i q
                  split at h
                  · rename_i r
                    obtain ⟨r1, r2⟩ := r
                    subst r1 r2
                    cases h
                    exact Or.inr (Or.inr (Or.inr (Or.inr (Or.inr ⟨_, T2, ng_x (by omega), q, rfl, rfl⟩))))
                  · cases h
                · cases h
theorem st_v {w : Nat → Int} {x : Int32} {V : List Int} (h : 0 ≤ x.toInt) : stp1 w x V = x.toInt :: V := if_pos h
theorem st_w {w : Nat → Int} {k : Nat} {V : List Int} (h1 : 23 ≤ k) (h2 : k < 36) : stp1 w (-(iN k)) V = w (k - 23) :: V := by
  obtain ⟨a, b⟩ := ngk k h2 (by omega)
  unfold stp1; rw [if_neg b, a, if_pos h1]
theorem st_n {w : Nat → Int} {b : Int} {V : List Int} : stp1 w (-(iN 20)) (b :: V) = (1 - b) :: V := by
  obtain ⟨p, q⟩ := ngk 20 (by decide) (by decide)
  unfold stp1; rw [if_neg q, p, if_neg (by decide)]; rfl
theorem st_j {w : Nat → Int} {k : Nat} {a b : Int} {V : List Int} (h1 : 1 ≤ k) (h2 : k < 23) (h3 : k ≠ 20) : stp1 w (-(iN k)) (b :: a :: V) = jo k a b :: V := by
  obtain ⟨p, q⟩ := ngk k (by omega) h1
  unfold stp1
  rw [if_neg q, p, if_neg (by omega)]
  dsimp only
  rw [if_neg h3]
theorem jo_b {k : Nat} {a b : Int} (h : 9 ≤ k) : jo k a b = 0 ∨ jo k a b = 1 := by
  unfold jo
  rw [if_neg (by omega), if_neg (by omega)]
  repeat' split
  all_goals first | exact Or.inl rfl | exact Or.inr rfl
theorem ty_st {w : Nat → Int} {x : Int32} {T T' : List Nat} {V : List Int} (hw : ∀ k, k < 13 → -10000000 ≤ w k ∧ w k ≤ 10000000) (h : ck x T = some T') (hV : ty T V) : ty T' (stp1 w x V) := by
  rcases ck_inv h with ⟨a1, a2, a3, a4⟩ | ⟨k, a1, a2, a3, a4, a5⟩ | ⟨a1, T1, a2, a3⟩ | ⟨k, a, b, T2, a1, a2, a3, a4, a5, a6, a7⟩ | ⟨k, a, b, T2, a1, a2, a3, a4, a5, a6, a7, a8⟩ | ⟨k, T2, a1, a2, a3, a4⟩
  · subst a4
    rw [st_v a1]
    refine ⟨(tv_n (by omega)).mpr ?_, hV⟩
    show -(10000000 * ((1 : Nat) : Int)) ≤ _ ∧ _
    omega
  · subst a5 a1
    rw [st_w a2 a3]
    refine ⟨(tv_n (by omega)).mpr ?_, hV⟩
    have := hw (k - 23) (by omega)
    omega
  · subst a1 a2 a3
    cases V with
    | nil => exact hV.elim
    | cons b V =>
      rw [st_n]
      refine ⟨tv_0.mpr ?_, hV.2⟩
      have := tv_0.mp hV.1
      omega
  · subst a1 a3 a7
    cases V with
    | nil => exact hV.elim
    | cons y V =>
      cases V with
      | nil => exact hV.2.elim
      | cons z V =>
        rw [st_j (by omega) (by omega) (by omega)]
        refine ⟨(tv_n (by omega)).mpr ?_, hV.2.2⟩
        have h1 := (tv_n a5).mp hV.1
        have h2 := (tv_n a4).mp hV.2.1
        rcases a2 with q | q <;> subst q
        · show -(10000000 * ((a + b : Nat) : Int)) ≤ z + y ∧ z + y ≤ _
          omega
        · show -(10000000 * ((a + b : Nat) : Int)) ≤ z - y ∧ z - y ≤ _
          omega
  · subst a1 a3 a8
    cases V with
    | nil => exact hV.elim
    | cons y V =>
      cases V with
      | nil => exact hV.2.elim
      | cons z V =>
        rw [st_j (by omega) (by omega) (by omega)]
        exact ⟨tv_0.mpr (jo_b a2.1), hV.2.2⟩
  · subst a1 a3 a4
    cases V with
    | nil => exact hV.elim
    | cons y V =>
      cases V with
      | nil => exact hV.2.elim
      | cons z V =>
        rw [st_j (by omega) (by omega) (by omega)]
        exact ⟨tv_0.mpr (jo_b (by omega)), hV.2.2⟩
theorem ty_ev {w : Nat → Int} (hw : ∀ k, k < 13 → -10000000 ≤ w k ∧ w k ≤ 10000000) : ∀ (l : List Int32) (T T' : List Nat) (V : List Int), cks l T = some T' → ty T V → ty T' (evs w l V) := by
  intro l
  induction l with
  | nil => intro T T' V h hV; cases h; exact hV
  | cons x l ih =>
    intro T T' V h hV
    have h : (ck x T).bind (fun T' => cks l T') = some T' := h
    cases hc : ck x T with
    | none => rw [hc] at h; cases h
    | some T1 =>
      rw [hc] at h
      exact ih T1 T' _ h (ty_st hw hc hV)
