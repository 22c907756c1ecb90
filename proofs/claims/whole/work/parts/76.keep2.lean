/-! THE CLASS'S STORY AND RULE -/
section SR
variable {J : aI} {G : aL} {Z : aZ} {n : Nat}
def OkS (J : aI) (Z : aZ) (cf ra c : Nat) (X : Option (Option Value × aM)) (q : List aK ⊕ Nat) : Prop := ∃ (J' : aI) (G' : aL) (Z' : aZ), Ex J J' Z Z' ∧ zX Z' ≤ zX Z + 30 ∧ zU Z' ≤ zU Z + 400 ∧ J' 58 4 = 0 ∧ (match q with
  | .inl ks => ∃ rr, TxC J' Z' (zX Z + 32) (zX Z' + 32) rr ks ∧ X = some (some (.int (iN c)), (up2 J' 32 cf (iN (c + 1)), G', wrZ Z' ra c rr))
  | .inr e => X = some (some (.int (-2 - iN e)), (J', G', Z')))
theorem c_story (hZ : Shp Z) (hn : n ≤ 400) (h4 : J 58 4 = iN n) {c : Nat} (hc : c < 10) (h8 : J 32 8 = iN c) {q : List aK ⊕ Nat} (hq : txt (J 59) n false 16 0 false (ps (J 59) n 0) 0 [] = some q) : OkS J Z 8 69 c (call 111 [.ref 32] (J, G, Z)) q := by
  obtain ⟨J', G', Z', rr, r1, r2, r3, r4, r5, r6⟩ := c_read (G := G) hZ hn h4 hq
  have hZ' : Shp Z' := Ex_S hZ r2
  have h80 := hZ.2.2
  have j8 : J' 32 8 = iN c := by rw [r2.2.2.2.2 32 (by omega) (by decide) (by decide) (by decide) (by decide) (by decide) (by decide)]; exact h8
  have pre : call 111 [.ref 32] (J, G, Z) = run 62 111 19 [.ref 32, xU] [.ref rr] (J', G', Z') := by
    refine Eq.trans e111 (Eq.trans (b111_0 hZ.k32) (Eq.trans (if_pos (by rw [mI_t, h8]; exact (iN_lt (b := 10) (by omega) (by omega)).mpr hc)) (Eq.trans (b111_11 hZ.k32 hZ.kr32_3) ?_)))
    rw [hZ.r32_3]
    rw [show (0 : Int32) = bI false from rfl, r1]
    rfl
  refine ⟨J', G', Z', r2, r3, r4, r5, ?_⟩
  rw [pre]
  rcases q with ks | e
  · obtain ⟨t1, t2⟩ := r6
    refine ⟨rr, t2, ?_⟩
    refine Eq.trans b111_19 (Eq.trans (if_neg t1) (Eq.trans (b111_35 hZ'.k32 hZ'.kr32_5 (hZ'.ir32_5 (by rw [mI_t, j8]; exact ib_iN (by omega) hc)) t2.2.2.1) ?_))
    have m8 : mI (J', G', Z') 32 8 = iN c := j8
    rw [hZ'.r32_5, m8, iN_clamp (by omega), wR_t, wI_t, mI_t, up2_s, iN_succ, iN_pred]
  · obtain ⟨t1, t2⟩ := r6
    subst t1
    refine Eq.trans b111_19 (Eq.trans (if_pos rfl) (Eq.trans (b111_24 hZ'.k32 hZ'.kr32_3) ?_))
    rw [hZ'.r32_3]
    rw [show call 12 [.ref 63] (J', G', Z') = some (some (.int (iN e)), (J', G', Z')) from Eq.trans e12 (Eq.trans (b12_0 hZ'.k63) (by rw [mI_t, t2]))]
    exact b111_33
theorem c_rule (hZ : Shp Z) (hn : n ≤ 400) (h4 : J 58 4 = iN n) {c : Nat} (hc : c < 10) (h8 : J 32 9 = iN c) {q : List aK ⊕ Nat} (hq : txt (J 59) n true 16 0 false (ps (J 59) n 0) 0 [] = some q) : OkS J Z 9 70 c (call 112 [.ref 32] (J, G, Z)) q := by
  obtain ⟨J', G', Z', rr, r1, r2, r3, r4, r5, r6⟩ := c_read (G := G) hZ hn h4 hq
  have hZ' : Shp Z' := Ex_S hZ r2
  have h80 := hZ.2.2
  have j8 : J' 32 9 = iN c := by rw [r2.2.2.2.2 32 (by omega) (by decide) (by decide) (by decide) (by decide) (by decide) (by decide)]; exact h8
  have pre : call 112 [.ref 32] (J, G, Z) = run 62 112 19 [.ref 32, xU] [.ref rr] (J', G', Z') := by
    refine Eq.trans e112 (Eq.trans (b112_0 hZ.k32) (Eq.trans (if_pos (by rw [mI_t, h8]; exact (iN_lt (b := 10) (by omega) (by omega)).mpr hc)) (Eq.trans (b112_11 hZ.k32 hZ.kr32_3) ?_)))
    rw [hZ.r32_3]
    rw [show (1 : Int32) = bI true from rfl, r1]
    rfl
  refine ⟨J', G', Z', r2, r3, r4, r5, ?_⟩
  rw [pre]
  rcases q with ks | e
  · obtain ⟨t1, t2⟩ := r6
    refine ⟨rr, t2, ?_⟩
    refine Eq.trans b112_19 (Eq.trans (if_neg t1) (Eq.trans (b112_35 hZ'.k32 hZ'.kr32_6 (hZ'.ir32_6 (by rw [mI_t, j8]; exact ib_iN (by omega) hc)) t2.2.2.1) ?_))
    have m8 : mI (J', G', Z') 32 9 = iN c := j8
    rw [hZ'.r32_6, m8, iN_clamp (by omega), wR_t, wI_t, mI_t, up2_s, iN_succ, iN_pred]
  · obtain ⟨t1, t2⟩ := r6
    subst t1
    refine Eq.trans b112_19 (Eq.trans (if_pos rfl) (Eq.trans (b112_24 hZ'.k32 hZ'.kr32_3) ?_))
    rw [hZ'.r32_3]
    rw [show call 12 [.ref 63] (J', G', Z') = some (some (.int (iN e)), (J', G', Z')) from Eq.trans e12 (Eq.trans (b12_0 hZ'.k63) (by rw [mI_t, t2]))]
    exact b112_33
theorem c_story_x (hZ : Shp Z) {c : Nat} (hc : 10 ≤ c) (hc2 : c < 100) (h8 : J 32 8 = iN c) : call 111 [.ref 32] (J, G, Z) = some (some (.int (-1)), (J, G, Z)) := Eq.trans e111 (Eq.trans (b111_0 hZ.k32) (Eq.trans (if_neg (by rw [mI_t, h8]; exact fun z => by have := (iN_lt (b := 10) (by omega) (by omega)).mp z; omega)) b111_9))
theorem c_rule_x (hZ : Shp Z) {c : Nat} (hc : 10 ≤ c) (hc2 : c < 100) (h8 : J 32 9 = iN c) : call 112 [.ref 32] (J, G, Z) = some (some (.int (-1)), (J, G, Z)) := Eq.trans e112 (Eq.trans (b112_0 hZ.k32) (Eq.trans (if_neg (by rw [mI_t, h8]; exact fun z => by have := (iN_lt (b := 10) (by omega) (by omega)).mp z; omega)) b112_9))
end SR
