/-! THE CLASS'S READER: tests -/
def RS (J : aI) (u : Nat → Int32) (n T k c : Nat) (l : List Int32) : Prop := Tok J u n T ∧ k ≤ T ∧ J 63 3 = iN k ∧ J 63 6 = iN c ∧ J 63 5 = iN l.length ∧ ∀ i, i < l.length → J 65 i = l.getD i 0
/-- what the reader leaves alone -/
def RdF (J J' : aI) : Prop := (∀ a, a ≠ 63 → a ≠ 65 → J' a = J a) ∧ ∀ j, j ≠ 3 → j ≠ 5 → j ≠ 6 → j ≠ 7 → J' 63 j = J 63 j
theorem RdF_r {J : aI} : RdF J J := ⟨fun _ _ _ => rfl, fun _ _ _ _ _ => rfl⟩
theorem RdF_t {J J1 J2 : aI} (h1 : RdF J J1) (h2 : RdF J1 J2) : RdF J J2 := ⟨fun a x y => by rw [h2.1 a x y, h1.1 a x y], fun j a b c d => by rw [h2.2 j a b c d, h1.2 j a b c d]⟩
theorem RdF_w {J : aI} {j : Nat} {v : Int32} (h : j = 3 ∨ j = 5 ∨ j = 6 ∨ j = 7) : RdF J (up2 J 63 j v) := ⟨fun a x _ => funext fun q => up2_a x, fun q a b c d => up2_k (by omega)⟩
theorem RdF_s {J : aI} {i : Nat} {v : Int32} : RdF J (up2 J 65 i v) := ⟨fun a _ y => funext fun q => up2_a y, fun q _ _ _ _ => up2_a (by decide)⟩
theorem Tok_f {J J' : aI} {u : Nat → Int32} {n T : Nat} (h : Tok J u n T) (hf : RdF J J') : Tok J' u n T := by
  obtain ⟨h1, h2, h3, h4, h5⟩ := h
  refine ⟨h1, h2, h3, ?_, fun j hj => ?_⟩
  · rw [hf.1 58 (by decide) (by decide)]; exact h4
  · rw [hf.1 60 (by decide) (by decide), hf.1 61 (by decide) (by decide), hf.1 62 (by decide) (by decide)]
    exact h5 j hj
def OkR (J : aI) (u : Nat → Int32) (n T : Nat) (G : aL) (Z : aZ) (X : Option (Option Value × aM)) (q : aQ) : Prop := match q with
  | .inl (p', c', l') => ∃ (J' : aI) (k' : Nat), X = some (some (.int 1), (J', G, Z)) ∧ RdF J J' ∧ RS J' u n T k' c' l' ∧ ps u n k' = p'
  | .inr e => ∃ J' : aI, X = some (some (.int 0), (J', G, Z)) ∧ RdF J J' ∧ J' 63 7 = iN e
section RD
variable {J : aI} {G : aL} {Z : aZ} {u : Nat → Int32} {n T k c : Nat} {l : List Int32}
theorem RS.lt (h : RS J u n T k c l) (hp : ps u n k < n) : k < T := by
  rcases Nat.lt_or_ge k T with q | q
  · exact q
  · exfalso
    have := h.2.1
    have e : k = T := by omega
    rw [e, h.1.2.1] at hp
    omega
theorem c_kind (hZ : Shp Z) (hn : n ≤ 400) (h : RS J u n T k c l) : call 24 [.ref 63] (J, G, Z) = some (some (.int (iN (KK u n (ps u n k)))), (J, G, Z)) := by
  obtain ⟨⟨t1, t2, t3, t4, t5⟩, h2, h3, h4, h5, h6⟩ := h
  refine Eq.trans e24 (Eq.trans (b24_0 hZ.k63 hZ.kr63_2) ?_)
  rw [hZ.r63_2, mI_t, mI_t, h3, t4]
  refine Eq.trans (if_neg (fun q => q ((iN_lt (by omega) (by omega)).mpr (by omega)))) (Eq.trans (b24_14 hZ.k63 hZ.kr63_2 (by rw [hZ.r63_2]; exact hZ.kr58_1) (by rw [hZ.r63_2, mI_t, h3]; exact hZ.ir58_1 (ib_iN (by omega) (by omega)))) (Eq.trans b24_30 ?_))
  rw [hZ.r63_2, hZ.r58_1, mI_t, mI_t, h3, iN_clamp (by omega), (t5 k h2).1]
theorem c_value (hZ : Shp Z) (hn : n ≤ 400) (h : RS J u n T k c l) : call 25 [.ref 63] (J, G, Z) = some (some (.int (VV u n (ps u n k))), (J, G, Z)) := by
  obtain ⟨⟨t1, t2, t3, t4, t5⟩, h2, h3, h4, h5, h6⟩ := h
  refine Eq.trans e25 (Eq.trans (b25_0 hZ.k63 hZ.kr63_2) ?_)
  rw [hZ.r63_2, mI_t, mI_t, h3, t4]
  refine Eq.trans (if_neg (fun q => q ((iN_lt (by omega) (by omega)).mpr (by omega)))) (Eq.trans (b25_14 hZ.k63 hZ.kr63_2 (by rw [hZ.r63_2]; exact hZ.kr58_3) (by rw [hZ.r63_2, mI_t, h3]; exact hZ.ir58_3 (ib_iN (by omega) (by omega)))) (Eq.trans b25_30 ?_))
  rw [hZ.r63_2, hZ.r58_3, mI_t, mI_t, h3, iN_clamp (by omega), (t5 k h2).2.2]
theorem c_refuse (hZ : Shp Z) (hn : n ≤ 400) (h : RS J u n T k c l) {w : Nat} (hw : w ≤ 7) : call 28 [.ref 63, .int (iN w)] (J, G, Z) = some (some (.int 0), (up2 J 63 7 (iN (ft (ps u n k) w)), G, Z)) := by
  have hp := ps_le (u := u) (n := n) k
  obtain ⟨⟨t1, t2, t3, t4, t5⟩, h2, h3, h4, h5, h6⟩ := h
  refine Eq.trans e28 (Eq.trans (b28_0 hZ.k63 hZ.kr63_2) ?_)
  rw [hZ.r63_2, mI_t, mI_t, h3, t4]
  refine Eq.trans (if_neg (fun q => q ((iN_lt (by omega) (by omega)).mpr (by omega)))) (Eq.trans (b28_14 hZ.k63 hZ.kr63_2 (by rw [hZ.r63_2]; exact hZ.kr58_2) (by rw [hZ.r63_2, mI_t, h3]; exact hZ.ir58_2 (ib_iN (by omega) (by omega)))) (Eq.trans (b28_30 hZ.k63) ?_))
  rw [hZ.r63_2, hZ.r58_2, mI_t, mI_t, h3, iN_clamp (by omega), (t5 k h2).2.1, wI_t]
  have e : (1 : Int32) + 8 * iN (ps u n k) + iN w = iN (ft (ps u n k) w) := by
    rw [show (8 : Int32) = iN 8 from rfl, show (1 : Int32) = iN 1 from rfl, iN_mul (by omega) (by omega) (by omega), iN_add, iN_add]
    rfl
  rw [e]
theorem no_ok (hZ : Shp Z) (hn : n ≤ 400) (h : RS J u n T k c l) {w : Nat} (hw : w ≤ 7) : OkR J u n T G Z (some (some (.int 0), (up2 J 63 7 (iN (ft (ps u n k) w)), G, Z))) (.inr (ft (ps u n k) w)) := ⟨_, rfl, RdF_w (by omega), up2_s⟩
/-- one token on -/
theorem RS_at (h : RS J u n T k c l) (hp : ps u n k < n) : RS (up2 J 63 3 (iN k + 1)) u n T (k + 1) c l := by
  have hk := h.lt hp
  refine ⟨Tok_f h.1 (RdF_w (by omega)), by omega, by rw [up2_s, iN_succ], ?_, ?_, fun i hi => ?_⟩
  · rw [up2_k (by decide)]; exact h.2.2.2.1
  · rw [up2_k (by decide)]; exact h.2.2.2.2.1
  · rw [up2_a (by decide)]; exact h.2.2.2.2.2 i hi
theorem RS_c (h : RS J u n T k c l) : RS (up2 J 63 6 (iN c + 1)) u n T k (c + 1) l := by
  refine ⟨Tok_f h.1 (RdF_w (by omega)), h.2.1, ?_, by rw [up2_s, iN_succ], ?_, fun i hi => ?_⟩
  · rw [up2_k (by decide)]; exact h.2.2.1
  · rw [up2_k (by decide)]; exact h.2.2.2.2.1
  · rw [up2_a (by decide)]; exact h.2.2.2.2.2 i hi
theorem c_putStep (hZ : Shp Z) (h : RS J u n T k c l) (hl : l.length < 400) {s : Int32} : ∃ J', call 23 [.ref 63, .int s] (J, G, Z) = some (none, (J', G, Z)) ∧ RdF J J' ∧ RS J' u n T k c (l ++ [s]) := by
  have h5 := h.2.2.2.2.1
  have hc : (iN l.length).toNatClampNeg = l.length := iN_clamp (by omega)
  have f1 : RdF J (up2 (up2 J 65 l.length s) 63 5 (iN (l.length + 1))) := RdF_t RdF_s (RdF_w (by omega))
  refine ⟨up2 (up2 J 65 l.length s) 63 5 (iN (l.length + 1)), ?_, f1, Tok_f h.1 f1, h.2.1, ?_, ?_, ?_, fun i hi => ?_⟩
  · refine Eq.trans e23 (Eq.trans (b23_0 hZ.k63 hZ.kr63_1) ?_)
    rw [hZ.nr63_1, mI_t, h5]
    refine Eq.trans (if_neg (fun q => q ((iN_lt (b := 400) (by omega) (by decide)).mpr hl))) (Eq.trans (b23_12 hZ.k63 hZ.kr63_1 (hZ.ir63_1 (by rw [mI_t, h5]; exact ib_iN (by omega) hl))) (Eq.trans b23_32 ?_))
    rw [hZ.r63_1]
    simp only [mI_t, wI_t, h5, hc, up2_a (show (63 : Nat) ≠ 65 by decide), iN_succ]
  · rw [up2_k (by decide), up2_a (by decide)]; exact h.2.2.1
  · rw [up2_k (by decide), up2_a (by decide)]; exact h.2.2.2.1
  · rw [up2_s, List.length_append]; rfl
  · rw [up2_a (by decide)]
    rw [List.length_append, List.length_cons, List.length_nil] at hi
    by_cases e : i = l.length
    · subst e
      rw [up2_s]
      simp
    · rw [up2_k e, h.2.2.2.2.2 i (by omega)]
      have hlt : i < l.length := by omega
      simp [List.getD_eq_getElem?_getD, List.getElem?_append_left hlt]
theorem c_readValue (hZ : Shp Z) (hn : n ≤ 400) (h : RS J u n T k c l) (hc : c ≤ 60) (hl : l.length < 400) : OkR J u n T G Z (call 22 [.ref 63] (J, G, Z)) (pV u n (ps u n k) c l) := by
  have kb := K_b (u := u) (n := n) (p := ps u n k)
  have h6 := h.2.2.2.1
  have pre : call 22 [.ref 63] (J, G, Z) = run 2 22 13 [.ref 63, xU] [.int (if KK u n (ps u n k) = 2 then 1 else 0)] (J, G, Z) := by
    refine Eq.trans e22 (Eq.trans (b22_0 hZ.k63) ?_)
    rw [c_kind hZ hn h]
    refine Eq.trans b22_4 ?_
    by_cases h2 : KK u n (ps u n k) = 2
    · rw [if_pos h2]
      exact Eq.trans (if_neg (fun q => q (by rw [h2]; rfl))) b22_8
    · rw [if_neg h2]
      exact Eq.trans (if_pos (fun q => h2 ((iN_inj (b := 2) (by omega) (by omega)).mp q))) b22_12
  -- from 51 on: the count, the step, one token on
  have fin : ∀ (x s : Int32), (x = 0 → s = -(iN (KK u n (ps u n k)))) → (¬ x = 0 → s = VV u n (ps u n k)) → ps u n k < n → OkR J u n T G Z (run 2 22 51 [.ref 63, .int x] [] (J, G, Z)) (if 60 ≤ c then .inr (ft (ps u n k) 3) else .inl (nx u n (ps u n k), c + 1, l ++ [s])) := by
    intro x s s0 s1 hp
    have e51 := b22_51 (x1 := x) (M := (J, G, Z)) hZ.k63
    rw [mI_t, h6] at e51
    by_cases h60 : 60 ≤ c
    · rw [if_pos h60]
      rw [e51, if_neg (show ¬ iN c < 60 from fun q => by have := (iN_lt (b := 60) (by omega) (by decide)).mp q; omega), b22_60 hZ.k63, show (3 : Int32) = iN 3 from rfl, c_refuse hZ hn h (by omega)]
      show OkR J u n T G Z (run 2 22 65 [.ref 63, .int x] [.int 0] (up2 J 63 7 (iN (ft (ps u n k) 3)), G, Z)) _
      rw [b22_65 rfl]
      exact no_ok hZ hn h (by omega)
    · rw [if_neg h60]
      rw [e51, if_pos (show iN c < 60 from (iN_lt (b := 60) (by omega) (by decide)).mpr (by omega)), b22_66 hZ.k63, mI_t, h6, wI_t]
      have hc1 := RS_c h
      have st : (if x = 0 then run 2 22 88 [.ref 63, .int x] [.ref 63] (up2 J 63 6 (iN c + 1), G, Z) else run 2 22 81 [.ref 63, .int x] [.ref 63] (up2 J 63 6 (iN c + 1), G, Z)) = run 2 22 93 [.ref 63, .int x] [.int s, .ref 63] (up2 J 63 6 (iN c + 1), G, Z) := by
        by_cases x0 : x = 0
        · rw [if_pos x0, s0 x0]
          refine Eq.trans (b22_88 hZ.k63) ?_
          rw [c_kind hZ hn hc1]
          exact b22_92
        · rw [if_neg x0, s1 x0]
          refine Eq.trans (b22_81 hZ.k63) ?_
          rw [c_value hZ hn hc1]
          exact b22_85
      rw [st, b22_93 hZ.k63]
      obtain ⟨J2, r1, r2, r3⟩ := c_putStep (G := G) hZ hc1 hl (s := s)
      rw [r1]
      show OkR J u n T G Z (run 2 22 96 [.ref 63, .int x] [] (J2, G, Z)) _
      rw [b22_96 hZ.k63, mI_t, r3.2.2.1, wI_t]
      exact ⟨_, k + 1, rfl, RdF_t (RdF_t (RdF_w (by omega)) r2) (RdF_w (by omega)), RS_at r3 hp, rfl⟩
  have e13 : run 2 22 13 [.ref 63, xU] [.int (if KK u n (ps u n k) = 2 then 1 else 0)] (J, G, Z) = _ := b22_13
  rw [pre, e13]
  unfold pV
  by_cases h2 : KK u n (ps u n k) = 2
  · have hp : ps u n k < n := K_lt (u := u) (by omega)
    rw [if_pos h2, if_pos h2, if_pos (show ¬ (1 : Int32) = 0 by decide), b22_33, if_neg (show ¬ (1 : Int32) = 0 by decide), b22_37 hZ.k63, c_value hZ hn h]
    show OkR J u n T G Z (run 2 22 41 [.ref 63, .int 1] [.int (VV u n (ps u n k))] (J, G, Z)) _
    rw [b22_41]
    by_cases hv : VV u n (ps u n k) = -1
    · rw [if_neg (fun q : ¬ VV u n (ps u n k) = -1 => q hv), if_pos hv, b22_45 hZ.k63, show (1 : Int32) = iN 1 from rfl, c_refuse hZ hn h (by omega)]
      show OkR J u n T G Z (run 2 22 50 [.ref 63, .int 1] [.int 0] (up2 J 63 7 (iN (ft (ps u n k) 1)), G, Z)) _
      rw [b22_50 rfl]
      exact no_ok hZ hn h (by omega)
    · rw [if_pos hv, if_neg hv]
      exact fin 1 _ (fun z => absurd z (by decide)) (fun _ => rfl) hp
  · rw [if_neg h2, if_neg h2, if_neg (show ¬ ¬ (0 : Int32) = 0 from fun q => q rfl), b22_18 hZ.k63, c_kind hZ hn h]
    show OkR J u n T G Z (run 2 22 22 [.ref 63, .int 0] [.int (iN (KK u n (ps u n k)))] (J, G, Z)) _
    rw [b22_22]
    by_cases h23 : 23 ≤ KK u n (ps u n k)
    · have hp : ps u n k < n := K_lt (u := u) (by omega)
      rw [if_pos (show ¬ iN (KK u n (ps u n k)) < 23 from fun q => by have := (iN_lt (b := 23) (by omega) (by decide)).mp q; omega), if_pos h23, b22_33, if_pos rfl]
      exact fin 0 _ (fun _ => rfl) (fun z => absurd rfl z) hp
    · rw [if_neg (show ¬ ¬ iN (KK u n (ps u n k)) < 23 from fun q => q ((iN_lt (b := 23) (by omega) (by decide)).mpr (by omega))), if_neg h23, b22_27 hZ.k63, show (0 : Int32) = iN 0 from rfl, c_refuse hZ hn h (by omega)]
      show OkR J u n T G Z (run 2 22 32 [.ref 63, .int 0] [.int 0] (up2 J 63 7 (iN (ft (ps u n k) 0)), G, Z)) _
      rw [b22_32 rfl]
      exact no_ok hZ hn h (by omega)
end RD
