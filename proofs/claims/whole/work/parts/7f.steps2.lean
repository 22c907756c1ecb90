/-! feed, end, back, mark -/
theorem apM_84 : ∀ (l : List Int32) (J J' : aI) (n : Nat), (∀ i, J 84 i = J' 84 i) → ∀ i, apM J n l 84 i = apM J' n l 84 i := by
  intro l
  induction l with
  | nil => exact fun _ _ _ h => h
  | cons y l ih =>
    intro J J' n h i
    rw [apM, apM]
    refine ih _ _ _ (fun i => ?_) i
    show (if i = n then bt y else J 84 i) = (if i = n then bt y else J' 84 i)
    rw [h i]
theorem msc_27 {k j : Nat} (h : msc k = some j) : k < 27 ∨ 34 < k := by
  unfold msc at h
  split at h <;> first | omega | (cases h; done)
theorem msc_68 {k j : Nat} (h : msc k = some j) : k ≠ 68 ∧ k ≠ 69 := by
  unfold msc at h
  split at h <;> first | omega | (cases h; done)
section OP2
variable {sc : Nat → Int32} {L n : Nat} {X : aI} {G : aL} {Z : aZ} {S : aS} {t c d : Nat} {kt kr : Nat → List aK} {ow : Nat → Nat} {tm : Nat → aS} {x1 x2 x3 x4 x5 : Int32}
theorem op_feed (hC : embB 33 X S = X) (hM : emb X S = X) (hW : Wn n S) (hK : Ky sc L n X Z t c d kt kr ow tm) : ∃ w : Int32, Sty sc L n (.int w) 109 164 [.ref 32, .int x1, .int x2, .int x3, .int x4, .int x5] [.ref 72, .int x1, .int x2, .int x3, .int x4, .int x5] (X, G, Z) := by
  have hT := hK.2.2.1
  have f := f_feed (I := X) (G := G) (x1 := x1) (x2 := x2) (x3 := x3) (x4 := x4) (x5 := x5) hK.2.1 hT.1 hT.2.1
  by_cases q : t + 20 ≤ 400
  · rw [if_pos q] at f
    have y27 : apC X t (b20 x1 x2 x3 x4 x5) 72 27 = iN t := by rw [apC_o _ _ _ _ _ (by omega) (by omega)]; exact hT.2.2.1
    have s := s_feed (I := apC X t (b20 x1 x2 x3 x4 x5)) (G := G) (x1 := x1) (x2 := x2) (x3 := x3) (x4 := x4) (x5 := x5) hK.2.1 hT.1 y27
    rw [if_pos q] at s
    have fr : ∀ a, a ≠ 58 → a ≠ 59 → a ≠ 72 → a ≠ 84 → apM (apC X t (b20 x1 x2 x3 x4 x5)) t (b20 x1 x2 x3 x4 x5) a = X a := fun a q1 q2 q3 q4 => by
      funext k
      rw [apM_o _ _ _ _ _ (by omega) (by omega), apC_o _ _ _ _ _ (by omega) (by omega)]
    refine ⟨_, _, _, f, Ky_md hK (funext fun k => apC_o _ _ _ _ _ (by omega) (by omega)), s, _, G, Z, S, t + 20, c, d, kt, kr, ow, tm, rfl, ?_, ?_, Wn_n hW (by omega), Ky_t hK ?_ (fun a q => fr a (by omega) (by omega) (by omega) (by omega))⟩
    · exact embB_mv hC (fun a q1 q2 => fr a (by omega) (by omega) (by omega) (by omega))
    · refine emb_mv2 hM (fun k j hm => ?_) (fun a q1 q2 q3 => fr a (by omega) (by omega) (by omega) (by omega))
      have := msc_27 hm
      rw [apM_o _ _ _ _ _ (by omega) (by omega), apC_o _ _ _ _ _ (by omega) (by omega)]
    · refine tp_feed (l := b20 x1 x2 x3 x4 x5) hT q ?_ ?_ (fun i => ?_) (fun i => ?_)
      · rw [apM_o _ _ _ _ _ (by omega) (by omega)]
        exact apC_n _ _ _ hT.2.1
      · exact apM_n _ _ _ y27
      · rw [apM_o _ _ _ _ _ (by omega) (by omega)]
      · exact apM_84 _ _ _ _ (fun i => apC_o _ _ _ _ _ (by omega) (by omega)) i
  · rw [if_neg q] at f
    refine ⟨_, bth hC hM hK (Wn_n hW (by omega)) ⟨X, fun _ _ _ _ _ => rfl, by rw [hC]; exact f⟩ (fun Y hY => ⟨Y, G, fun _ _ _ _ => rfl, ?_⟩)⟩
    have s := s_feed (I := emb Y S) (G := G) (x1 := x1) (x2 := x2) (x3 := x3) (x4 := x4) (x5 := x5) hK.2.1 hT.1 (show Y 72 27 = iN t by rw [hY 72 (by omega) (by decide) (by decide) (by decide)]; exact hT.2.2.1)
    rw [if_neg q] at s
    exact s
theorem op_end (hC : embB 33 X S = X) (hM : emb X S = X) (hW : Wn n S) (hK : Ky sc L n X Z t c d kt kr ow tm) : ∃ w : Int32, Sty sc L n (.int w) 110 166 [.ref 32, .int x1] [.ref 72, .int x1] (X, G, Z) := by
  have hT := hK.2.2.1
  have f := f_end (I := X) (G := G) (x := x1) hK.2.1 hT.1 hT.2.1
  by_cases q : endOK t x1 = true
  · rw [if_pos q] at f
    have s := s_end (I := up2 X 58 4 x1) (G := G) (x := x1) hK.2.1 hT.1 (by rw [up2_a (by decide)]; exact hT.2.2.1)
    rw [if_pos q] at s
    unfold endOK at q
    rw [inB_iff] at q
    have ht := hT.1
    have ex : x1 = iN x1.toInt.toNat := by rw [ti_eq, iN_int (by omega)]; omega
    have fr : ∀ a, a ≠ 58 → a ≠ 72 → up2 (up2 X 58 4 x1) 72 27 x1 a = X a := fun a q1 q2 => by rw [up_o q2, up_o q1]
    refine ⟨_, _, _, f, Ky_md hK (up_o (by decide)), s, _, G, Z, S, x1.toInt.toNat, c, d, kt, kr, ow, tm, rfl, ?_, ?_, Wn_n hW (by omega), Ky_t hK ?_ (fun a q => fr a (by omega) (by omega))⟩
    · exact embB_mv hC (fun a q1 q2 => fr a (by omega) (by omega))
    · refine emb_mv2 hM (fun k j hm => ?_) (fun a q1 q2 q3 => fr a (by omega) (by omega))
      have := msc_27 hm
      rw [up2_k (by omega), up2_a (by decide)]
    · refine ⟨by omega, ?_, ?_, fun i hi => ?_⟩
      · rw [up2_a (by decide), up2_s]; exact ex
      · rw [up2_s]; exact ex
      · rw [fr 59 (by decide) (by decide), fr 84 (by decide) (by decide)]
        exact hT.2.2.2 i (by omega)
  · rw [if_neg q] at f
    refine ⟨_, bth hC hM hK (Wn_n hW (by omega)) ⟨X, fun _ _ _ _ _ => rfl, by rw [hC]; exact f⟩ (fun Y hY => ⟨Y, G, fun _ _ _ _ => rfl, ?_⟩)⟩
    have s := s_end (I := emb Y S) (G := G) (x := x1) hK.2.1 hT.1 (show Y 72 27 = iN t by rw [hY 72 (by omega) (by decide) (by decide) (by decide)]; exact hT.2.2.1)
    rw [if_neg q] at s
    exact s
theorem in4 {x : Int32} (h : inB x 0 3 = true) : ∃ m : Nat, m < 4 ∧ x = iN m := by
  rw [inB_iff] at h
  exact ⟨x.toInt.toNat, by omega, by rw [ti_eq, iN_int (by omega)]; omega⟩
theorem op_back (hC : embB 33 X S = X) (hM : emb X S = X) (hW : Wn n S) (hK : Ky sc L n X Z t c d kt kr ow tm) : ∃ w : Int32, Sty sc L n (.int w) 133 231 [.ref 32, .int x1] [.ref 72, .int x1] (X, G, Z) := by
  have hZ := hK.2.1
  have bad : (inB x1 0 3 = false ∨ (zR Z 57 x1.toNatClampNeg = 0 ∧ X 111 x1.toNatClampNeg = 0)) → ∃ w : Int32, Sty sc L n (.int w) 133 231 [.ref 32, .int x1] [.ref 72, .int x1] (X, G, Z) := by
    intro h
    refine ⟨_, bth hC hM hK (Wn_n hW (by omega)) ⟨X, fun _ _ _ _ _ => rfl, f_back_bad hZ (by rcases h with z | z; exact Or.inl z; exact Or.inr z.1)⟩ (fun Y hY => ⟨Y, G, fun _ _ _ _ => rfl, s_back_bad hZ ?_⟩)⟩
    rcases h with z | z
    · exact Or.inl z
    · refine Or.inr ?_
      rw [hY 111 (by omega) (by decide) (by decide) (by decide)]
      exact z.2
  cases h3 : inB x1 0 3 with
  | false => exact bad (Or.inl h3)
  | true =>
    obtain ⟨m, hm, rfl⟩ := in4 h3
    have cm : (iN m).toNatClampNeg = m := iN_clamp (by omega)
    rcases hK.2.2.2.2.2.1 m hm with z | ⟨a1, a2, a3, a4, a5, a6, a7, a8⟩
    · exact bad (Or.inr (by rw [cm]; exact z))
    · have f := f_back (I := X) (G := G) (S := S) (T := tm m) hZ a6.1 a6.2.2.2.2.2.2.2.1 hm (b := zR Z 57 m) (by omega) rfl a5 (by rw [hC]; exact a8)
      rw [hC] at f
      have fX : ∀ a, a < 33 ∨ 57 ≤ a → embB 33 (cpB X 33 (zR Z 57 m) 0 24) (mrg S (tm m)) a = X a := by
        intro a ha
        rw [embB_out (by omega)]
        funext k
        unfold cpB
        rw [if_neg (by omega)]
      have eM : emb (embB 33 (cpB X 33 (zR Z 57 m) 0 24) (mrg S (tm m))) S = embB 33 (cpB X 33 (zR Z 57 m) 0 24) (mrg S (tm m)) := emb_mv hM (fun a q1 q2 _ => fX a (by omega))
      obtain ⟨W, s1, s2, s3, s4⟩ := s_back (I := embB 33 (cpB X 33 (zR Z 57 m) 0 24) (mrg S (tm m))) (G := G) (S := S) (T := tm m) hZ a6.2.2.2.2.2.2.2.1 hm (by rw [fX 111 (by omega)]; exact a1) (by unfold MkM; rw [fX 109 (by omega)]; exact a7)
      rw [eM] at s1
      have fW : ∀ a, a = 1 ∨ a = 32 ∨ a = 58 ∨ a = 59 ∨ (84 ≤ a ∧ a ≤ 93) ∨ a = 109 ∨ a = 111 ∨ 112 ≤ a → W a = X a := fun a q => by rw [s3 a (by omega) (by omega) (mar_none (by omega)), fX a (by omega)]
      refine ⟨_, _, _, f, Ky_md hK (fX 1 (by omega)), s1, W, G, Z, mrg S (tm m), t, c, d, kt, kr, ow, tm, rfl, ?_, s2, Wn_n (Wn_mrg a6) (by omega), Ky_e hK fW ?_⟩
      · exact embB_mv embB_id (fun a q1 q2 => s3 a (by omega) (by omega) (mar_none (by omega)))
      · rw [s4 27 (by decide) (by decide) rfl, fX 72 (by omega)]
theorem mof_b {c i : Nat} (h : i < mln c) : mof c + i < 1660 := by
  by_cases q : c ≤ 20
  · have : c = 0 ∨ c = 1 ∨ c = 2 ∨ c = 3 ∨ c = 4 ∨ c = 5 ∨ c = 6 ∨ c = 7 ∨ c = 8 ∨ c = 9 ∨ c = 10 ∨ c = 11 ∨ c = 12 ∨ c = 13 ∨ c = 14 ∨ c = 15 ∨ c = 16 ∨ c = 17 ∨ c = 18 ∨ c = 19 ∨ c = 20 := by omega
    rcases this with z | z | z | z | z | z | z | z | z | z | z | z | z | z | z | z | z | z | z | z | z <;> subst z <;> (simp only [mof, mln] at h ⊢; omega)
  · exfalso
    unfold mln at h
    split at h <;> omega
end OP2
