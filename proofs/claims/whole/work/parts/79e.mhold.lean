/-! A TEST HELD: the model's answer -/
def sM (G : aL) : List Int → Prop
  | [] => True
  | v :: V => (G 96 V.length).toInt = v ∧ sM G V
theorem sM_u {G : aL} {m : Nat} {v : Int64} : ∀ {V : List Int}, V.length ≤ m → sM G V → sM (up2 G 96 m v) V := by
  intro V
  induction V with
  | nil => exact fun _ _ => trivial
  | cons x V ih =>
    intro h q
    rw [List.length_cons] at h
    exact ⟨by rw [up2_k (by omega)]; exact q.1, ih (by omega) q.2⟩
theorem tl_add {x y : Int64} (h1 : -9223372036854775808 ≤ x.toInt + y.toInt) (h2 : x.toInt + y.toInt < 9223372036854775808) : (x + y).toInt = x.toInt + y.toInt := by rw [Int64.toInt_add, bm64 h1 h2]
theorem tl_eq {x y : Int64} : x = y ↔ x.toInt = y.toInt := Int64.toInt_inj.symm
theorem lgc_eq {x y : Int64} : lg_cmp x y = 0 ↔ x.toInt = y.toInt := by
  have h1 := lgc_lt (x := x) (y := y)
  have h2 := lgc_gt (x := x) (y := y)
  constructor
  · intro h
    rw [h] at h1 h2
    have a : ¬ x.toInt < y.toInt := fun z => absurd (h1.mpr z) (by decide)
    have b : ¬ y.toInt < x.toInt := fun z => absurd (h2.mpr z) (by decide)
    omega
  · intro h
    have a : ¬ lg_cmp x y < 0 := fun z => by have := h1.mp z; omega
    have b : ¬ 0 < lg_cmp x y := fun z => by have := h2.mp z; omega
    rw [ti_lt, l32_0] at a b
    rw [ti_eq, l32_0]
    omega
section MHL
variable {S : aI} {G : aL} {Z : aZ} {w : Nat → Int} {T T' : List Nat} {V : List Int} {x : Int32}
theorem m_truth {b : Bool} {M : aM} : call 193 [.int (bI b)] M = some (some (.long (if b = true then 1 else 0)), M) := by
  cases b
  · exact Eq.trans e193 (Eq.trans b193_0 (Eq.trans (if_pos rfl) (Eq.trans b193_8 b193_9)))
  · exact Eq.trans e193 (Eq.trans b193_0 (Eq.trans (if_neg (by decide)) (Eq.trans b193_4 b193_9)))
theorem m_t1 {M : aM} : call 193 [.int 1] M = some (some (.long 1), M) := m_truth (b := true)
theorem m_t0 {M : aM} : call 193 [.int 0] M = some (some (.long 0), M) := m_truth (b := false)
theorem m_both {M : aM} {k : Nat} {a b : Int64} (hk : (k = 7 ∨ k = 8) ∧ -1000000000 ≤ a.toInt ∧ a.toInt ≤ 1000000000 ∧ -1000000000 ≤ b.toInt ∧ b.toInt ≤ 1000000000 ∨ (9 ≤ k ∧ k ≤ 13) ∨ ((k = 21 ∨ k = 22) ∧ (a.toInt = 0 ∨ a.toInt = 1) ∧ (b.toInt = 0 ∨ b.toInt = 1))) : ∃ v : Int64, call 194 [.int (if 20 ≤ k then iN (k - 11) else iN (k - 5)), .long a, .long b] M = some (some (.long v), M) ∧ v.toInt = jo k a.toInt b.toInt := by
  rcases hk with ⟨q | q, h1, h2, h3, h4⟩ | ⟨h1, h2⟩ | ⟨q, h1, h2⟩
  · subst q
    exact ⟨a + b, Eq.trans e194 (Eq.trans (b194_0_c2 rfl) b194_52), tl_add (by omega) (by omega)⟩
  · subst q
    exact ⟨a - b, Eq.trans e194 (Eq.trans (b194_0_c3 rfl) b194_56), tl_sub (by omega) (by omega)⟩
  · have : k = 9 ∨ k = 10 ∨ k = 11 ∨ k = 12 ∨ k = 13 := by omega
    rcases this with q | q | q | q | q <;> subst q
    · refine ⟨if a.toInt < b.toInt then 1 else 0, Eq.trans e194 (Eq.trans (b194_0_c4 rfl) (Eq.trans b194_60 ?_)), ?_⟩
      · by_cases h : a.toInt < b.toInt
        · rw [if_neg (fun z => z (lgc_lt.mpr h)), if_pos h, b194_66, b194_71, m_t1]; exact b194_74
        · rw [if_pos (fun z => h (lgc_lt.mp z)), if_neg h, b194_70, b194_71, m_t0]; exact b194_74
      · show _ = if a.toInt < b.toInt then (1 : Int) else 0
        split <;> rfl
    · refine ⟨if b.toInt < a.toInt then 0 else 1, Eq.trans e194 (Eq.trans (b194_0_c5 rfl) (Eq.trans b194_75 ?_)), ?_⟩
      · by_cases h : b.toInt < a.toInt
        · rw [if_pos (lgc_gt.mpr h), if_pos h, b194_85, b194_86, m_t0]; exact b194_89
        · rw [if_neg (fun z => h (lgc_gt.mp z)), if_neg h, b194_81, b194_86, m_t1]; exact b194_89
      · show _ = if b.toInt < a.toInt then (0 : Int) else 1
        split <;> rfl
    · refine ⟨if a.toInt = b.toInt then 1 else 0, Eq.trans e194 (Eq.trans (b194_0_c6 rfl) (Eq.trans b194_90 ?_)), ?_⟩
      · by_cases h : a.toInt = b.toInt
        · rw [if_neg (fun z => z (lgc_eq.mpr h)), if_pos h, b194_96, b194_101, m_t1]; exact b194_104
        · rw [if_pos (fun z => h (lgc_eq.mp z)), if_neg h, b194_100, b194_101, m_t0]; exact b194_104
      · show _ = if a.toInt = b.toInt then (1 : Int) else 0
        split <;> rfl
    · refine ⟨if a.toInt < b.toInt then 0 else 1, Eq.trans e194 (Eq.trans (b194_0_c7 rfl) (Eq.trans b194_105 ?_)), ?_⟩
      · by_cases h : a.toInt < b.toInt
        · rw [if_pos (lgc_lt.mpr h), if_pos h, b194_115, b194_116, m_t0]; exact b194_119
        · rw [if_neg (fun z => h (lgc_lt.mp z)), if_neg h, b194_111, b194_116, m_t1]; exact b194_119
      · show _ = if a.toInt < b.toInt then (0 : Int) else 1
        split <;> rfl
    · refine ⟨if b.toInt < a.toInt then 1 else 0, Eq.trans e194 (Eq.trans (b194_0_c8 rfl) (Eq.trans b194_120 ?_)), ?_⟩
      · by_cases h : b.toInt < a.toInt
        · rw [if_neg (fun z => z (lgc_gt.mpr h)), if_pos h, b194_126, b194_131, m_t1]; exact b194_134
        · rw [if_pos (fun z => h (lgc_gt.mp z)), if_neg h, b194_130, b194_131, m_t0]; exact b194_134
      · show _ = if b.toInt < a.toInt then (1 : Int) else 0
        split <;> rfl
  · have b01 : ∀ y : Int64, (y.toInt = 0 ∨ y.toInt = 1) → y = 0 ∨ y = 1 := fun y hy => by
      rcases hy with z | z
      · exact Or.inl (tl_eq.mpr z)
      · exact Or.inr (tl_eq.mpr z)
    rcases q with q | q <;> subst q
    · refine ⟨a &&& b, Eq.trans e194 (Eq.trans (b194_0_c10 rfl) b194_135), ?_⟩
      rcases b01 a h1 with z | z <;> rcases b01 b h2 with y | y <;> subst z y <;> decide
    · refine ⟨a ||| b, Eq.trans e194 (Eq.trans (b194_0_d (Or.inr (by decide))) b194_139), ?_⟩
      rcases b01 a h1 with z | z <;> rcases b01 b h2 with y | y <;> subst z y <;> decide
/-- one step of the answer -/
theorem m_step (hZ : Shp Z) (hw : ∀ k, k < 13 → (G 95 k).toInt = w k) {s y : Nat} (hs : s < 20) (hy : y < 300) {e0 e1 : Int32} {v6 v7 : Value} (hlt : iN y < e1) (h86 : S 86 (300 * s + y) = (enc x).1) (h87 : S 87 (300 * s + y) = (enc x).2) (h : ck x T = some T') (hV : ty T V) (hm : sM G V) (hT : T.length ≤ 40) : ∃ (G' : aL) (w6 w7 : Value), run 3 195 6 [.ref 72, .int (iN s), .int e0, .int e1, .int (iN V.length), .int (iN y), v6, v7] [] (S, G, Z) = run 3 195 6 [.ref 72, .int (iN s), .int e0, .int e1, .int (iN (stp1 w x V).length), .int (iN (y + 1)), w6, w7] [] (S, G', Z) ∧ (∀ a, a ≠ 96 → G' a = G a) ∧ sM G' (stp1 w x V) := by
  have hl := ty_len hV
  have e300 : (300 : Int32) * iN s + iN y = iN (300 * s + y) := by
    rw [show (300 : Int32) = iN 300 from rfl, iN_mul (by omega) (by omega) (by omega), iN_add]
  have hib : ib (iN (300 * s + y)) 6000 := ib_iN (by omega) (by omega)
  have st : run 3 195 6 [.ref 72, .int (iN s), .int e0, .int e1, .int (iN V.length), .int (iN y), v6, v7] [] (S, G, Z) = if (enc x).1 = 0 then run 3 195 53 [.ref 72, .int (iN s), .int e0, .int e1, .int (iN V.length), .int (iN y), .int (enc x).1, .int (enc x).2] [] (S, G, Z) else run 3 195 47 [.ref 72, .int (iN s), .int e0, .int e1, .int (iN V.length), .int (iN y), .int (enc x).1, .int (enc x).2] [] (S, G, Z) := by
    refine Eq.trans b195_6 (Eq.trans (if_neg (fun z => z hlt)) (Eq.trans (b195_12 hZ.k72 hZ.kr72_37 (hZ.ir72_37 (by rw [e300]; exact hib)) hZ.kr72_38 (hZ.ir72_38 (by rw [e300]; exact hib))) ?_))
    rw [hZ.r72_37, hZ.r72_38, e300, iN_clamp (by omega), mI_t, mI_t, h86, h87]
  have push : ∀ (v : Int64) (x6 x7 : Int32), V.length < 40 → run 3 195 77 [.ref 72, .int (iN s), .int e0, .int e1, .int (iN V.length), .int (iN y), .int x6, .int x7] [.long v, .int (iN V.length), .ref 96] (S, G, Z) = run 3 195 6 [.ref 72, .int (iN s), .int e0, .int e1, .int (iN (V.length + 1)), .int (iN (y + 1)), .int x6, .int x7] [] (S, up2 G 96 V.length v, Z) := by
    intro v x6 x7 hv
    refine Eq.trans (b195_77 hZ.k96 (hZ.i96 (ib_iN (by omega) (by omega)))) (Eq.trans b195_147 ?_)
    rw [iN_clamp (by omega), wL_t, iN_succ, iN_succ]
  have one : ∀ k, (k = 7 ∨ k = 8 ∨ (9 ≤ k ∧ k ≤ 13) ∨ k = 21 ∨ k = 22) → ∀ (b a : Int) (V2 : List Int), V = b :: a :: V2 → x = -(iN k) → ((k = 7 ∨ k = 8) ∧ -1000000000 ≤ a ∧ a ≤ 1000000000 ∧ -1000000000 ≤ b ∧ b ≤ 1000000000 ∨ (9 ≤ k ∧ k ≤ 13) ∨ ((k = 21 ∨ k = 22) ∧ (a = 0 ∨ a = 1) ∧ (b = 0 ∨ b = 1))) → ∃ (G' : aL) (w6 w7 : Value), run 3 195 6 [.ref 72, .int (iN s), .int e0, .int e1, .int (iN V.length), .int (iN y), v6, v7] [] (S, G, Z) = run 3 195 6 [.ref 72, .int (iN s), .int e0, .int e1, .int (iN (V2.length + 1)), .int (iN (y + 1)), w6, w7] [] (S, G', Z) ∧ (∀ a, a ≠ 96 → G' a = G a) ∧ sM G' (jo k a b :: V2) := by
    intro k hk b a V2 hV2 hx hb
    subst hV2 hx
    obtain ⟨s1, s2, s3⟩ := hm
    rw [List.length_cons, List.length_cons] at hl
    rw [List.length_cons] at s1
    have ev := enc_k k (by omega) (by omega)
    rw [if_neg (by omega)] at ev
    have ev1 : (enc (-(iN k))).1 = if 20 ≤ k then iN (k - 11) else iN (k - 5) := by rw [ev]; split <;> rfl
    obtain ⟨v, j1, j2⟩ := m_both (M := (S, G, Z)) (k := k) (a := G 96 V2.length) (b := G 96 (V2.length + 1)) (by rw [s1, s2]; exact hb)
    rw [s1, s2] at j2
    have n0 : ¬ (enc (-(iN k))).1 = 0 ∧ ¬ (enc (-(iN k))).1 = 1 ∧ ¬ (enc (-(iN k))).1 = 9 := by
      rw [ev1]
      have : k = 7 ∨ k = 8 ∨ k = 9 ∨ k = 10 ∨ k = 11 ∨ k = 12 ∨ k = 13 ∨ k = 21 ∨ k = 22 := by omega
      rcases this with q | q | q | q | q | q | q | q | q <;> subst q <;> decide
    refine ⟨up2 G 96 V2.length v, .int (enc (-(iN k))).1, .int (enc (-(iN k))).2, ?_, fun a ha => funext fun _ => up2_a ha, ⟨by rw [up2_s]; exact j2, sM_u (Nat.le_refl _) s3⟩⟩
    rw [st, if_neg n0.1, List.length_cons, List.length_cons]
    have f1 : iN (V2.length + 1 + 1) + -1 = iN (V2.length + 1) := by rw [← Int32.sub_eq_add_neg]; exact iN_pred
    have f2 : iN (V2.length + 1) - 1 = iN V2.length := iN_pred
    refine Eq.trans b195_47 (Eq.trans (if_pos n0.2.1) (Eq.trans b195_84 (Eq.trans (if_pos n0.2.2) (Eq.trans (b195_114 hZ.k72 hZ.kr72_47 (hZ.ir72_47 (by rw [f1, f2]; exact ib_iN (by omega) (by omega))) (hZ.ir72_47 (by rw [f1]; exact ib_iN (by omega) (by omega)))) ?_))))
    rw [hZ.r72_47, f1, f2, iN_clamp (by omega), iN_clamp (by omega), ev1, show mL (S, G, Z) 96 V2.length = G 96 V2.length from rfl, show mL (S, G, Z) 96 (V2.length + 1) = G 96 (V2.length + 1) from rfl, j1]
    refine Eq.trans (b195_146 hZ.k96 (hZ.i96 (ib_iN (by omega) (by omega)))) (Eq.trans b195_147 ?_)
    rw [iN_clamp (by omega), wL_t, iN_succ]
  rcases ck_inv h with ⟨a1, a2, a3, a4⟩ | ⟨k, a1, a2, a3, a4, a5⟩ | ⟨a1, T1, a2, a3⟩ | ⟨k, a, b, T2, a1, a2, a3, a4, a5, a6, a7⟩ | ⟨k, a, b, T2, a1, a2, a3, a4, a5, a6, a7, a8⟩ | ⟨k, T2, a1, a2, a3, a4⟩
  · have ev := enc_v a1
    rw [ev] at st
    rw [st_v a1]
    refine ⟨up2 G 96 V.length x.toInt64, .int 0, .int x, ?_, fun a ha => funext fun _ => up2_a ha, ⟨by rw [up2_s, Int32.toInt_toInt64], sM_u (Nat.le_refl _) hm⟩⟩
    rw [st, if_pos rfl]
    refine Eq.trans (b195_53 hZ.k72) (Eq.trans (if_neg (fun z => z rfl)) (Eq.trans b195_64 ?_))
    rw [hZ.r72_47]
    exact push _ _ _ (by omega)
  · subst a1
    have ev := enc_k k a3 (by omega)
    rw [if_pos a2] at ev
    rw [ev] at st
    rw [st_w a2 a3]
    refine ⟨up2 G 96 V.length (G 95 (k - 23)), .int 1, .int (iN (k - 23)), ?_, fun a ha => funext fun _ => up2_a ha, ⟨by rw [up2_s]; exact hw (k - 23) (by omega), sM_u (Nat.le_refl _) hm⟩⟩
    rw [st, if_neg (show ¬ (1 : Int32) = 0 by decide)]
    refine Eq.trans b195_47 (Eq.trans (if_neg (fun z => z rfl)) (Eq.trans (b195_53 hZ.k72) (Eq.trans (if_pos (show ¬ (1 : Int32) = 0 by decide)) (Eq.trans (b195_70 hZ.k72 hZ.kr72_46 (hZ.ir72_46 (ib_iN (by omega) (by omega)))) ?_))))
    rw [hZ.r72_46, hZ.r72_47, iN_clamp (by omega)]
    exact push _ _ _ (by omega)
  · subst a1 a2
    have ev : enc (-(iN 20)) = (iN 9, 0) := by decide +kernel
    rw [ev] at st
    cases V with
    | nil => exact hV.elim
    | cons b V =>
      rw [st_n]
      obtain ⟨s1, s2⟩ := hm
      rw [List.length_cons] at hl ⊢
      rw [List.length_cons] at hT hl
      have hb := tv_0.mp hV.1
      have f2 : iN (V.length + 1) - 1 = iN V.length := iN_pred
      refine ⟨up2 G 96 V.length (1 - G 96 V.length), .int (iN 9), .int 0, ?_, fun a ha => funext fun _ => up2_a ha, ⟨?_, sM_u (Nat.le_refl _) s2⟩⟩
      · rw [List.length_cons] at st
        rw [st, if_neg (by decide)]
        refine Eq.trans b195_47 (Eq.trans (if_pos (by decide)) (Eq.trans b195_84 (Eq.trans (if_neg (fun z => z rfl)) (Eq.trans (b195_91 hZ.k72 hZ.kr72_47 (hZ.ir72_47 (by rw [f2]; exact ib_iN (by omega) (by omega)))) (Eq.trans b195_147 ?_)))))
        rw [hZ.r72_47, f2, iN_clamp (by omega), wL_t, iN_succ]
        rfl
      · rw [up2_s, tl_sub (by rw [s1, show (1 : Int64).toInt = 1 from rfl]; omega) (by rw [s1, show (1 : Int64).toInt = 1 from rfl]; omega), s1]
        rfl
  · subst a3
    cases V with
    | nil => exact hV.elim
    | cons b' V =>
      cases V with
      | nil => exact hV.2.elim
      | cons a' V =>
        have h1 := (tv_n a5).mp hV.1
        have h2 := (tv_n a4).mp hV.2.1
        obtain ⟨G', w6, w7, q1, q2, q3⟩ := one k (by omega) b' a' V rfl a1 (Or.inl ⟨a2, by omega, by omega, by omega, by omega⟩)
        subst a1
        rw [st_j (by omega) (by omega) (by omega)]
        exact ⟨G', w6, w7, q1, q2, q3⟩
  · subst a3
    cases V with
    | nil => exact hV.elim
    | cons b' V =>
      cases V with
      | nil => exact hV.2.elim
      | cons a' V =>
        obtain ⟨G', w6, w7, q1, q2, q3⟩ := one k (by omega) b' a' V rfl a1 (Or.inr (Or.inl a2))
        subst a1
        rw [st_j (by omega) (by omega) (by omega)]
        exact ⟨G', w6, w7, q1, q2, q3⟩
  · subst a3
    cases V with
    | nil => exact hV.elim
    | cons b' V =>
      cases V with
      | nil => exact hV.2.elim
      | cons a' V =>
        obtain ⟨G', w6, w7, q1, q2, q3⟩ := one k (by omega) b' a' V rfl a1 (Or.inr (Or.inr ⟨a2, tv_0.mp hV.2.1, tv_0.mp hV.1⟩))
        subst a1
        rw [st_j (by omega) (by omega) (by omega)]
        exact ⟨G', w6, w7, q1, q2, q3⟩
end MHL
