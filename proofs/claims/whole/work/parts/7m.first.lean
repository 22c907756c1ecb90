/-! THE FIRST STATE -/
def sIn : aS := fun c k => if c = 0 then (if k = 10 then 10 else if k = 12 ∨ k = 13 ∨ k = 14 then -1 else 0) else if c = 12 ∧ k < 16 then -1 else if c = 13 ∧ k < 10 then -1 else 0
def iIn (xs : Nat → Int32) : aI := fun a k => if a = 1 then xs k else 0
def xIn (xs : Nat → Int32) : aI := miI (stI (iIn xs) 33)
section FST
variable {xs : Nat → Int32}
theorem xIn_e {a k : Nat} : xIn xs a k = if a = 1 then xs k else if 33 < a ∧ a < 57 then ini (a - 33) k else if a = 72 then (if k = 11 then 10 else if k = 13 ∨ k = 14 ∨ k = 15 then -1 else 0) else if a = 97 ∧ k < 16 then -1 else if a = 99 ∧ k < 10 then -1 else 0 := by
  unfold xIn miI fil stI iIn
  simp only [up2_e]
  grind
theorem xIn_b {o k : Nat} (h : o < 24) (h0 : 0 < o) : xIn xs (33 + o) k = ini o k := by
  rw [xIn_e, if_neg (by omega), if_pos (by omega), Nat.add_sub_cancel_left]
theorem xIn_z {a k : Nat} (h : a ≠ 1) (h1 : a ≤ 33 ∨ 57 ≤ a) (h2 : a ≠ 72) (h3 : a ≠ 97) (h4 : a ≠ 99) : xIn xs a k = 0 := by
  rw [xIn_e, if_neg h, if_neg (by omega), if_neg h2, if_neg (by omega), if_neg (by omega)]
theorem sIn_z {c k : Nat} (h : c ≠ 0) (h1 : c ≠ 12) (h2 : c ≠ 13) : sIn c k = 0 := by
  unfold sIn
  rw [if_neg h, if_neg (by omega), if_neg (by omega)]
theorem emb_in : emb (xIn xs) sIn = xIn xs := by
  refine emb_self (fun k j hm => ?_) (fun a c hm => ?_)
  · rw [xIn_e, if_neg (by decide), if_neg (by decide), if_pos rfl]
    unfold msc at hm
    unfold sIn
    rw [if_pos rfl]
    split at hm <;> (cases hm; try rfl)
  · funext k
    have := mar_some hm
    by_cases h97 : a = 97
    · subst h97
      cases hm
      rw [xIn_e]
      unfold sIn
      by_cases q : k < 16 <;> simp [q]
    · by_cases h99 : a = 99
      · subst h99
        cases hm
        rw [xIn_e]
        unfold sIn
        by_cases q : k < 10 <;> simp [q]
      · rw [xIn_z (by omega) (by omega) (by omega) h97 h99, sIn_z]
        · intro z; subst z; unfold mar at hm; split at hm <;> first | (cases hm; done) | omega
        · intro z; subst z; unfold mar at hm; split at hm <;> first | (cases hm; done) | omega
        · intro z; subst z; unfold mar at hm; split at hm <;> first | (cases hm; done) | omega
theorem embB_in : embB 33 (xIn xs) sIn = xIn xs := by
  have la : laN sIn = 0 := rfl
  have ri : riN sIn = 0 := rfl
  refine embB_self (fun o k ho => ?_)
  by_cases h0 : o = 0
  · subst h0
    rfl
  · rw [xIn_b ho (by omega)]
    have hI : ∀ o, o < 24 → 0 < o → xIn xs (33 + o) k = ini o k := fun o h1 h2 => xIn_b h1 h2
    have : o = 1 ∨ o = 2 ∨ o = 3 ∨ o = 4 ∨ (5 ≤ o ∧ o < 12) ∨ o = 12 ∨ o = 13 ∨ o = 14 ∨ o = 15 ∨ o = 16 ∨ o = 17 ∨ o = 18 ∨ o = 19 ∨ o = 20 ∨ o = 21 ∨ o = 22 ∨ o = 23 := by omega
    rcases this with q | q | q | q | q | q | q | q | q | q | q | q | q | q | q | q | q
    · subst q
      show ctk (xIn xs) sIn 33 k = ini 1 k
      unfold ctk
      split
      · rename_i j hm
        unfold csc at hm
        split at hm <;> (cases hm; try rfl)
      · by_cases h12 : k = 12
        · rw [if_pos h12, h12]; rfl
        · rw [if_neg h12]
          by_cases h14 : k = 14
          · rw [if_pos h14, h14]; rfl
          · rw [if_neg h14]; exact hI 1 (by decide) (by decide)
    · subst q; exact hI 2 (by decide) (by decide)
    · subst q; exact hI 3 (by decide) (by decide)
    · subst q; exact hI 4 (by decide) (by decide)
    · unfold cof
      rw [if_neg (by omega), if_neg (by omega), if_neg (by omega), if_pos q, ri]
      by_cases hk : k = 0
      · rw [if_pos hk, if_neg (by omega)]; exact hI o ho (by omega)
      · rw [if_neg hk]
        by_cases hk9 : k < 10
        · rw [if_pos hk9, sIn_z hk (by omega) (by omega)]
          unfold ini
          rw [if_neg (by omega), if_neg (by omega), if_neg (by omega), if_neg (by omega)]
        · rw [if_neg hk9]; exact hI o ho (by omega)
    · subst q
      show cst (xIn xs) sIn 33 k = ini 12 k
      unfold cst
      split
      · rfl
      · rfl
      · rfl
      · rfl
      · exact hI 12 (by decide) (by decide)
    · subst q; rfl
    · subst q; rfl
    · subst q; rfl
    · subst q
      show (if sIn 0 15 = 0 ∧ k < 144 then -1 else sIn 17 k) = (if 16 = 16 ∧ k < 144 then -1 else if 16 = 22 ∧ k < 16 then -1 else if 16 = 23 ∧ k < 10 then -1 else 0)
      by_cases hk : k < 144
      · rw [if_pos ⟨rfl, hk⟩, if_pos ⟨rfl, hk⟩]
      · rw [if_neg (fun z => hk z.2), if_neg (fun z => hk z.2), if_neg (fun z => absurd z.1 (by decide)), if_neg (fun z => absurd z.1 (by decide))]
        rfl
    · subst q; exact hI 17 (by decide) (by decide)
    · subst q
      show (if k = 3 then sIn 0 19 else xIn xs (33 + 18) k) = ini 18 k
      by_cases hk : k = 3
      · rw [if_pos hk]; rfl
      · rw [if_neg hk]; exact hI 18 (by decide) (by decide)
    · subst q; rfl
    · subst q; rfl
    · subst q; rfl
    · subst q
      show (if 12 = 12 ∧ k < 16 then (-1 : Int32) else if 12 = 13 ∧ k < 10 then -1 else 0) = (if 22 = 16 ∧ k < 144 then -1 else if 22 = 22 ∧ k < 16 then -1 else if 22 = 23 ∧ k < 10 then -1 else 0)
      by_cases hk : k < 16 <;> simp [hk]
    · subst q
      show (if 13 = 12 ∧ k < 16 then (-1 : Int32) else if 13 = 13 ∧ k < 10 then -1 else 0) = (if 23 = 16 ∧ k < 144 then -1 else if 23 = 22 ∧ k < 16 then -1 else if 23 = 23 ∧ k < 10 then -1 else 0)
      by_cases hk : k < 10 <;> simp [hk]
theorem Wn_in : Wn 0 sIn := by
  have la : laN sIn = 0 := rfl
  have ri : riN sIn = 0 := rfl
  refine ⟨⟨⟨rfl, by rw [ri]; omega⟩, rfl, by rw [la]; omega⟩, ⟨⟨by decide, by decide⟩, ⟨by decide, by decide⟩, fun k hk => by rw [ri] at hk; omega⟩, ⟨⟨by decide, by decide⟩, ⟨by decide, by decide⟩, fun _ => ⟨rfl, rfl, rfl, rfl, rfl⟩⟩, fun q => absurd rfl q, fun q => by rw [ri] at q; omega, fun i hi => by rw [la] at hi; omega, ⟨rfl, by decide⟩, ⟨Or.inl rfl, Or.inl rfl⟩, ⟨⟨by decide, by decide⟩, ⟨by decide, by decide⟩, by decide, by decide, fun k hk => by rw [ri] at hk; omega, fun i hi => by rw [la] at hi; omega, Or.inl rfl, fun q => absurd rfl q⟩⟩
theorem Shp_in {f : Nat → Nat × Nat} (h : ∀ a, a ≠ 1 → f a = f0 a) : Shp (ZS f) ∧ (∀ m, m < 4 → zR (ZS f) 57 m = 0) ∧ zX (ZS f) = 80 ∧ zU (ZS f) ≤ 40000 := by
  obtain ⟨r1, r2, r3⟩ := Rel_S h
  have eR : ∀ a k, zR (ZS f) a k = zR (ZS f0) a k := fun a k => by unfold zR; rw [r1]
  have eX : zX (ZS f) = zX (ZS f0) := by unfold zX; rw [r2]
  have eU : zU (ZS f) = zU (ZS f0) := by unfold zU; rw [r2]
  refine ⟨⟨fun a ha => ?_, fun e he => by rw [eR]; exact zs_r e he, by rw [eX, zs_x.1]; omega⟩, fun m hm => by rw [eR]; exact zs_m m hm, by rw [eX]; exact zs_x.1, by rw [eU]; exact zs_x.2⟩
  have := zs_k a ha
  unfold zK zN at this ⊢
  rw [r3 _ (by omega)]
  exact this
theorem Iv_in {L : Nat} {G : aL} : Iv xs L 0 (xIn xs, G, ZS (fun a => if a = 1 then (20, L) else (99, 0))) := by
  obtain ⟨s1, s2, s3, s4⟩ := Shp_in (f := fun a => if a = 1 then (20, L) else (99, 0)) (fun a ha => if_neg ha)
  have z0 : ∀ a k, a ≠ 1 → a ≤ 33 ∨ 57 ≤ a → a ≠ 72 → a ≠ 97 → a ≠ 99 → xIn xs a k = 0 := fun a k h1 h2 h3 h4 h5 => xIn_z h1 h2 h3 h4 h5
  refine ⟨xIn xs, G, _, sIn, 0, 0, 0, (fun _ => []), (fun _ => []), (fun _ => 0), (fun _ => sIn), rfl, embB_in, emb_in, Wn_in, ⟨?_, ?_, ?_⟩, s1, ⟨by omega, ?_, rfl, fun i hi => absurd hi (Nat.not_lt_zero _)⟩, ⟨by omega, ?_, ?_, fun i hi => absurd hi (Nat.not_lt_zero _)⟩, ⟨by omega, ?_, ?_, fun i hi => absurd hi (Nat.not_lt_zero _)⟩, fun m hm => Or.inl ⟨s2 m hm, ?_⟩, by omega, by omega⟩
  · funext k; rw [xIn_e, if_pos rfl]
  · show ((ZS (fun a => if a = 1 then (20, L) else (99, 0))).2.1 1).1 = 20
    rw [zs_1]
  · show ((ZS (fun a => if a = 1 then (20, L) else (99, 0))).2.1 1).2 = L
    rw [zs_1]
  · exact z0 58 4 (by decide) (by omega) (by decide) (by decide) (by decide)
  · exact z0 32 8 (by decide) (by omega) (by decide) (by decide) (by decide)
  · exact z0 85 0 (by decide) (by omega) (by decide) (by decide) (by decide)
  · exact z0 32 9 (by decide) (by omega) (by decide) (by decide) (by decide)
  · exact z0 85 1 (by decide) (by omega) (by decide) (by decide) (by decide)
  · exact z0 111 m (by decide) (by omega) (by decide) (by decide) (by decide)
/-- the whole run of the law, from a memory that holds the script alone -/
theorem law_run {L : Nat} (hL : L ≤ 4608) : ∃ M', run 63 232 0 [.ref 1, xU, xU, xU] [] (iIn xs, (fun _ _ => 0), ((fun _ _ => 0), (fun a => if a = 1 then (20, L) else (99, 0)), 0, 0)) = some (some (.int 1), M') ∧ mX M' ≤ 600000 ∧ mU M' ≤ 7302250 := by
  have hz : ∀ a k, 32 ≤ a → iIn xs a k = 0 := fun a k ha => if_neg (by omega)
  have hz2 : ∀ a k, 57 ≤ a → stI (iIn xs) 33 a k = 0 := by
    intro a k ha
    unfold stI
    rw [if_neg (by omega), if_neg (by omega), if_neg (by omega)]
    exact hz a k (by omega)
  obtain ⟨⟨G1, a1⟩, a2⟩ := new_class (I := iIn xs) (G := cl2 (fun _ _ => 0) 32 0) (Z := nwZ ((fun _ _ => 0), (fun a => if a = 1 then (20, L) else (99, 0)), 0, 0) 10 0 10) rfl rfl hz
  obtain ⟨ZE, eZ⟩ : ∃ z, z = clE (clD (clC (clB (clA (nwZ ((fun _ _ => 0), (fun a => if a = 1 then (20, L) else (99, 0)), 0, 0) 10 0 10))))) := ⟨_, rfl⟩
  rw [← eZ] at a1 a2
  have b1 := new_model (I := stI (iIn xs) 33) (G := cl2 G1 72 0) (Z := nwZ ZE 11 0 70) (by rw [zX_n, a2]) (by rw [show 72 = zX ZE + 32 by omega]; exact nw_k.1) (fun a k ha => hz2 a k (by omega))
  have hI := Iv_in (xs := xs) (L := L) (G := alG (cl2 G1 72 0) 41 39)
  have eS : ZS (fun a => if a = 1 then (20, L) else (99, 0)) = alZ (nwZ ZE 11 0 70) 72 lMo := by unfold ZS; rw [eZ]
  rw [eS] at hI
  obtain ⟨M', r1, r2⟩ := lw_loop hL (L / 9) 0 0 _ hI (by omega) (by omega) (by omega)
  refine ⟨M', ?_, ?_⟩
  · refine Eq.trans (b232_0 rfl) ?_
    show (call 98 [.ref 32] (cl2 (iIn xs) 32 0, cl2 (fun _ _ => 0) 32 0, nwZ ((fun _ _ => 0), (fun a => if a = 1 then (20, L) else (99, 0)), 0, 0) 10 0 10)).bind _ = _
    rw [cl2_z hz (by omega), a1]
    refine Eq.trans (b232_7 (M := (stI (iIn xs) 33, G1, ZE)) nw_k.1) ?_
    rw [mX_t, wN_t, a2, cl2_z hz2 (by omega), b1]
    exact Eq.trans b232_15 r1
  · obtain ⟨X, G, Z, S, t, c, d, kt, kr, ow, tm, rfl, h1, h2, h3, h4⟩ := r2
    have u1 := h4.2.2.2.2.2.2.1
    have u2 := h4.2.2.2.2.2.2.2
    have l9 : 0 + L / 9 ≤ 512 := by omega
    have v1 : 30 * (0 + L / 9) ≤ 30 * 512 := Nat.mul_le_mul (Nat.le_refl _) l9
    have v2 : 1820 * (0 + L / 9) ≤ 1820 * 512 := Nat.mul_le_mul (Nat.le_refl _) l9
    exact ⟨Nat.le_trans u1 (Nat.le_trans (Nat.add_le_add_left v1 _) (by decide)), Nat.le_trans u2 (Nat.le_trans (Nat.add_le_add_left v2 _) (by decide))⟩
end FST
