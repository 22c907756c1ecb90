/-! THE CLASS'S JUDGE: a test held -/
def sC (J : aI) : List Int → Prop
  | [] => True
  | v :: V => (J 68 V.length).toInt = v ∧ sC J V
theorem sC_u {J : aI} {m : Nat} {v : Int32} : ∀ {V : List Int}, V.length ≤ m → sC J V → sC (up2 J 68 m v) V := by
  intro V
  induction V with
  | nil => exact fun _ _ => trivial
  | cons x V ih =>
    intro h q
    rw [List.length_cons] at h
    exact ⟨by rw [up2_k (by omega)]; exact q.1, ih (by omega) q.2⟩
section JDG
variable {J : aI} {G : aL} {Z : aZ} {w : Nat → Int} {T T' : List Nat} {V : List Int} {x : Int32}
theorem c_joined {M : aM} {k : Nat} {a b : Int32} (hk : (k = 7 ∨ k = 8) ∧ -1000000000 ≤ a.toInt ∧ a.toInt ≤ 1000000000 ∧ -1000000000 ≤ b.toInt ∧ b.toInt ≤ 1000000000 ∨ (9 ≤ k ∧ k ≤ 13) ∨ ((k = 21 ∨ k = 22) ∧ (a.toInt = 0 ∨ a.toInt = 1) ∧ (b.toInt = 0 ∨ b.toInt = 1))) : ∃ v : Int32, call 6 [.int (iN k), .int a, .int b] M = some (some (.int v), M) ∧ v.toInt = jo k a.toInt b.toInt := by
  rcases hk with ⟨q | q, h1, h2, h3, h4⟩ | ⟨h1, h2⟩ | ⟨q, h1, h2⟩
  · subst q
    exact ⟨a + b, Eq.trans e6 (Eq.trans (b6_0_c7 rfl) b6_76), ti_add (by omega) (by omega)⟩
  · subst q
    exact ⟨a - b, Eq.trans e6 (Eq.trans (b6_0_c8 rfl) b6_80), ti_sub (by omega) (by omega)⟩
  · have : k = 9 ∨ k = 10 ∨ k = 11 ∨ k = 12 ∨ k = 13 := by omega
    rcases this with q | q | q | q | q <;> subst q
    · refine ⟨if a < b then 1 else 0, Eq.trans e6 (Eq.trans (b6_0_c9 rfl) (Eq.trans b6_84 ?_)), ?_⟩
      · by_cases h : a < b
        · rw [if_neg (fun z => z h), if_pos h]; exact Eq.trans b6_89 b6_94
        · rw [if_pos h, if_neg h]; exact Eq.trans b6_93 b6_94
      · show _ = if a.toInt < b.toInt then (1 : Int) else 0
        by_cases h : a < b
        · rw [if_pos h, if_pos (ti_lt.mp h)]; rfl
        · rw [if_neg h, if_neg (fun z => h (ti_lt.mpr z))]; rfl
    · refine ⟨if b < a then 0 else 1, Eq.trans e6 (Eq.trans (b6_0_c10 rfl) (Eq.trans b6_95 ?_)), ?_⟩
      · by_cases h : b < a
        · rw [if_pos h, if_pos h]; exact Eq.trans b6_104 b6_105
        · rw [if_neg h, if_neg h]; exact Eq.trans b6_100 b6_105
      · show _ = if b.toInt < a.toInt then (0 : Int) else 1
        by_cases h : b < a
        · rw [if_pos h, if_pos (ti_lt.mp h)]; rfl
        · rw [if_neg h, if_neg (fun z => h (ti_lt.mpr z))]; rfl
    · refine ⟨if a = b then 1 else 0, Eq.trans e6 (Eq.trans (b6_0_c11 rfl) (Eq.trans b6_106 ?_)), ?_⟩
      · by_cases h : a = b
        · rw [if_neg (fun z => z h), if_pos h]; exact Eq.trans b6_111 b6_116
        · rw [if_pos h, if_neg h]; exact Eq.trans b6_115 b6_116
      · show _ = if a.toInt = b.toInt then (1 : Int) else 0
        by_cases h : a = b
        · rw [if_pos h, if_pos (ti_eq.mp h)]; rfl
        · rw [if_neg h, if_neg (fun z => h (ti_eq.mpr z))]; rfl
    · refine ⟨if a < b then 0 else 1, Eq.trans e6 (Eq.trans (b6_0_c12 rfl) (Eq.trans b6_117 ?_)), ?_⟩
      · by_cases h : a < b
        · rw [if_pos h, if_pos h]; exact Eq.trans b6_126 b6_127
        · rw [if_neg h, if_neg h]; exact Eq.trans b6_122 b6_127
      · show _ = if a.toInt < b.toInt then (0 : Int) else 1
        by_cases h : a < b
        · rw [if_pos h, if_pos (ti_lt.mp h)]; rfl
        · rw [if_neg h, if_neg (fun z => h (ti_lt.mpr z))]; rfl
    · refine ⟨if b < a then 1 else 0, Eq.trans e6 (Eq.trans (b6_0_c13 rfl) (Eq.trans b6_128 ?_)), ?_⟩
      · by_cases h : b < a
        · rw [if_neg (fun z => z h), if_pos h]; exact Eq.trans b6_133 b6_138
        · rw [if_pos h, if_neg h]; exact Eq.trans b6_137 b6_138
      · show _ = if b.toInt < a.toInt then (1 : Int) else 0
        by_cases h : b < a
        · rw [if_pos h, if_pos (ti_lt.mp h)]; rfl
        · rw [if_neg h, if_neg (fun z => h (ti_lt.mpr z))]; rfl
  · have b01 : ∀ y : Int32, (y.toInt = 0 ∨ y.toInt = 1) → y = 0 ∨ y = 1 := fun y hy => by
      rcases hy with z | z
      · exact Or.inl (ti_eq.mpr z)
      · exact Or.inr (ti_eq.mpr z)
    rcases q with q | q <;> subst q
    · refine ⟨a &&& b, Eq.trans e6 (Eq.trans (b6_0_c21 rfl) b6_139), ?_⟩
      rcases b01 a h1 with z | z <;> rcases b01 b h2 with y | y <;> subst z y <;> decide
    · refine ⟨a ||| b, Eq.trans e6 (Eq.trans (b6_0_d (Or.inr (by decide))) b6_143), ?_⟩
      rcases b01 a h1 with z | z <;> rcases b01 b h2 with y | y <;> subst z y <;> decide
theorem ck_len (h : ck x T = some T') (hT : T.length ≤ 40) : T'.length ≤ 40 := by
  rcases ck_inv h with ⟨a1, a2, a3, a4⟩ | ⟨k, a1, a2, a3, a4, a5⟩ | ⟨a1, T1, a2, a3⟩ | ⟨k, a, b, T2, a1, a2, a3, a4, a5, a6, a7⟩ | ⟨k, a, b, T2, a1, a2, a3, a4, a5, a6, a7, a8⟩ | ⟨k, T2, a1, a2, a3, a4⟩
  · rw [a4, List.length_cons]; omega
  · rw [a5, List.length_cons]; omega
  · rw [a2, List.length_cons] at hT; rw [a3, List.length_cons]; omega
  · rw [a3, List.length_cons, List.length_cons] at hT; rw [a7, List.length_cons]; omega
  · rw [a3, List.length_cons, List.length_cons] at hT; rw [a8, List.length_cons]; omega
  · rw [a3, List.length_cons, List.length_cons] at hT; rw [a4, List.length_cons]; omega
theorem c_push (hZ : Shp Z) {m : Nat} {v : Int32} (hm : m < 40) (hx : ¬ x < 0 ∨ ¬ -23 < x) (hv : call 5 [.ref 66, .int x] (J, G, Z) = some (some (.int v), (J, G, Z))) : call 4 [.ref 66, .int x, .int (iN m)] (J, G, Z) = some (some (.int (iN (m + 1))), (up2 J 68 m v, G, Z)) := by
  have st : call 4 [.ref 66, .int x, .int (iN m)] (J, G, Z) = run 3 4 10 [.ref 66, .int x, .int (iN m)] [] (J, G, Z) := by
    refine Eq.trans e4 (Eq.trans b4_0 ?_)
    by_cases h0 : x < 0
    · rw [if_neg (fun z => z h0)]
      refine Eq.trans b4_4 (if_neg ?_)
      rcases hx with z | z
      · exact absurd h0 z
      · exact z
    · rw [if_pos h0]
  refine Eq.trans st (Eq.trans b4_10 (Eq.trans (if_pos ((iN_lt (b := 40) (by omega) (by omega)).mpr hm)) (Eq.trans (b4_18 hZ.k66) ?_)))
  rw [hv, hZ.r66_1]
  refine Eq.trans (b4_28 hZ.k68 (hZ.i68 (ib_iN (by omega) hm))) ?_
  rw [iN_clamp (by omega), wI_t, iN_succ]
theorem ng_f : ∀ k, k < 36 → 1 ≤ k → -(iN k) < 0 ∧ -(-(iN k)) = iN k ∧ (-23 < -(iN k) ↔ k < 23) ∧ (-(iN k) = -20 ↔ k = 20) := by decide +kernel
theorem c_valueOf_v (h : 0 ≤ x.toInt) : call 5 [.ref 66, .int x] (J, G, Z) = some (some (.int x), (J, G, Z)) := Eq.trans e5 (Eq.trans b5_0 (Eq.trans (if_neg (by rw [ti_lt, l32_0]; omega)) b5_4))
theorem c_valueOf_w (hZ : Shp Z) {k : Nat} (h1 : 23 ≤ k) (h2 : k < 36) : call 5 [.ref 66, .int (-(iN k))] (J, G, Z) = some (some (.int (J 67 (k - 23))), (J, G, Z)) := by
  obtain ⟨g1, g2, g3, g4⟩ := ng_f k h2 (by omega)
  refine Eq.trans e5 (Eq.trans b5_0 (Eq.trans (if_pos g1) (Eq.trans (b5_6 hZ.k66 hZ.kr66_0) ?_)))
  rw [hZ.r66_0, hZ.n67, g2, show (23 : Int32) = iN 23 from rfl, iN_sub (by omega) h1, c_within]
  have hin : inB (iN (k - 23)) (0 : Int32).toInt (Int32.ofNat 13 - 1).toInt = true := by
    rw [inB_iff, iN_int (by omega), show (0 : Int32).toInt = 0 from rfl, show (Int32.ofNat 13 - 1).toInt = 12 from rfl]
    omega
  rw [hin]
  refine Eq.trans b5_24 (Eq.trans (if_neg (by decide)) (Eq.trans (b5_27 hZ.k66 hZ.kr66_0 (hZ.ir66_0 (ib_iN (by omega) (by omega)))) ?_))
  rw [hZ.r66_0, iN_clamp (by omega), mI_t]
  exact b5_37
theorem c_go (hZ : Shp Z) (hw : ∀ k, k < 13 → (J 67 k).toInt = w k) (h : ck x T = some T') (hV : ty T V) (hs : sC J V) (hT : T.length ≤ 40) : ∃ J' : aI, call 4 [.ref 66, .int x, .int (iN V.length)] (J, G, Z) = some (some (.int (iN (stp1 w x V).length)), (J', G, Z)) ∧ (∀ a, a ≠ 68 → J' a = J a) ∧ sC J' (stp1 w x V) := by
  have hl := ty_len hV
  have one : ∀ k, (k = 7 ∨ k = 8 ∨ (9 ≤ k ∧ k ≤ 13) ∨ k = 21 ∨ k = 22) → ∀ (y z : Int) (V2 : List Int), V = y :: z :: V2 → x = -(iN k) → ((k = 7 ∨ k = 8) ∧ -1000000000 ≤ z ∧ z ≤ 1000000000 ∧ -1000000000 ≤ y ∧ y ≤ 1000000000 ∨ (9 ≤ k ∧ k ≤ 13) ∨ ((k = 21 ∨ k = 22) ∧ (z = 0 ∨ z = 1) ∧ (y = 0 ∨ y = 1))) → ∃ J' : aI, call 4 [.ref 66, .int x, .int (iN V.length)] (J, G, Z) = some (some (.int (iN (V2.length + 1))), (J', G, Z)) ∧ (∀ a, a ≠ 68 → J' a = J a) ∧ sC J' (jo k z y :: V2) := by
    intro k hk y z V2 hV2 hx hb
    subst hV2 hx
    obtain ⟨s1, s2, s3⟩ := hs
    rw [List.length_cons, List.length_cons] at hl
    rw [List.length_cons] at s1
    obtain ⟨g1, g2, g3, g4⟩ := ng_f k (by omega) (by omega)
    obtain ⟨v, j1, j2⟩ := c_joined (M := (J, G, Z)) (k := k) (a := J 68 V2.length) (b := J 68 (V2.length + 1)) (by rw [s1, s2]; exact hb)
    rw [s1, s2] at j2
    refine ⟨up2 J 68 V2.length v, ?_, fun a ha => up_o ha, ⟨by rw [up2_s]; exact j2, sC_u (Nat.le_refl _) s3⟩⟩
    have e1 : iN (V2.length + 1 + 1) - 1 = iN (V2.length + 1) := iN_pred
    have e2 : iN (V2.length + 1 + 1) - 2 = iN V2.length := by rw [show (2 : Int32) = iN 2 from rfl, iN_sub (by omega) (by omega)]; rfl
    rw [List.length_cons, List.length_cons]
    refine Eq.trans e4 (Eq.trans b4_0 (Eq.trans (if_neg (fun q => q g1)) (Eq.trans b4_4 (Eq.trans (if_pos (g3.mpr (by omega))) (Eq.trans b4_33 (Eq.trans (if_pos (fun q => by have := g4.mp q; omega)) (Eq.trans b4_63 (Eq.trans (if_pos (fun q => by have := (iN_lt (b := 2) (by omega) (by omega)).mp q; omega)) (Eq.trans (b4_70 hZ.k66 hZ.kr66_1 (hZ.ir66_1 (by rw [e2]; exact ib_iN (by omega) (by omega))) (hZ.ir66_1 (by rw [e1]; exact ib_iN (by omega) (by omega)))) ?_)))))))))
    rw [hZ.r66_1, e1, e2, iN_clamp (by omega), iN_clamp (by omega), g2, mI_t, mI_t, j1]
    refine Eq.trans (b4_98 hZ.k68 (hZ.i68 (ib_iN (by omega) (by omega)))) ?_
    rw [iN_clamp (by omega), wI_t, e1]
  rcases ck_inv h with ⟨a1, a2, a3, a4⟩ | ⟨k, a1, a2, a3, a4, a5⟩ | ⟨a1, T1, a2, a3⟩ | ⟨k, a, b, T2, a1, a2, a3, a4, a5, a6, a7⟩ | ⟨k, a, b, T2, a1, a2, a3, a4, a5, a6, a7, a8⟩ | ⟨k, T2, a1, a2, a3, a4⟩
  · rw [st_v a1]
    exact ⟨_, c_push hZ (by omega) (Or.inl (by rw [ti_lt, l32_0]; omega)) (c_valueOf_v a1), fun a ha => up_o ha, up2_s ▸ rfl, sC_u (Nat.le_refl _) hs⟩
  · subst a1
    rw [st_w a2 a3]
    refine ⟨_, c_push hZ (by omega) (Or.inr (fun z => by have := (ng_f k a3 (by omega)).2.2.1.mp z; omega)) (c_valueOf_w hZ a2 a3), fun a ha => up_o ha, ?_, sC_u (Nat.le_refl _) hs⟩
    rw [up2_s]
    exact hw (k - 23) (by omega)
  · subst a1 a2
    cases V with
    | nil => exact hV.elim
    | cons y V =>
      rw [st_n]
      obtain ⟨s1, s2⟩ := hs
      rw [List.length_cons] at hl ⊢
      rw [List.length_cons] at hT hl
      have hy := tv_0.mp hV.1
      obtain ⟨g1, g2, g3, g4⟩ := ng_f 20 (by decide) (by decide)
      have e1 : iN (V.length + 1) - 1 = iN V.length := iN_pred
      refine ⟨up2 J 68 V.length (1 - J 68 V.length), ?_, fun a ha => up_o ha, ?_, sC_u (Nat.le_refl _) s2⟩
      · refine Eq.trans e4 (Eq.trans b4_0 (Eq.trans (if_neg (fun q => q g1)) (Eq.trans b4_4 (Eq.trans (if_pos (g3.mpr (by omega))) (Eq.trans b4_33 (Eq.trans (if_neg (fun q => q rfl)) (Eq.trans b4_39 (Eq.trans (if_neg (fun q => q ((iN_lt (a := 0) (by omega) (by omega)).mpr (by omega)))) (Eq.trans (b4_43 hZ.k66 hZ.kr66_1 (hZ.ir66_1 (by rw [e1]; exact ib_iN (by omega) (by omega)))) ?_)))))))))
        rw [hZ.r66_1, e1, iN_clamp (by omega), mI_t, wI_t]
        exact b4_61
      · rw [up2_s, ti_sub (by rw [s1, show (1 : Int32).toInt = 1 from rfl]; omega) (by rw [s1, show (1 : Int32).toInt = 1 from rfl]; omega), s1]
        rfl
  · subst a3
    cases V with
    | nil => exact hV.elim
    | cons y V =>
      cases V with
      | nil => exact hV.2.elim
      | cons z V =>
        have h1 := (tv_n a5).mp hV.1
        have h2 := (tv_n a4).mp hV.2.1
        obtain ⟨J', q1, q2, q3⟩ := one k (by omega) y z V rfl a1 (Or.inl ⟨a2, by omega, by omega, by omega, by omega⟩)
        subst a1
        rw [st_j (by omega) (by omega) (by omega)]
        exact ⟨J', q1, q2, q3⟩
  · subst a3
    cases V with
    | nil => exact hV.elim
    | cons y V =>
      cases V with
      | nil => exact hV.2.elim
      | cons z V =>
        obtain ⟨J', q1, q2, q3⟩ := one k (by omega) y z V rfl a1 (Or.inr (Or.inl a2))
        subst a1
        rw [st_j (by omega) (by omega) (by omega)]
        exact ⟨J', q1, q2, q3⟩
  · subst a3
    cases V with
    | nil => exact hV.elim
    | cons y V =>
      cases V with
      | nil => exact hV.2.elim
      | cons z V =>
        obtain ⟨J', q1, q2, q3⟩ := one k (by omega) y z V rfl a1 (Or.inr (Or.inr ⟨a2, tv_0.mp hV.2.1, tv_0.mp hV.1⟩))
        subst a1
        rw [st_j (by omega) (by omega) (by omega)]
        exact ⟨J', q1, q2, q3⟩
end JDG
