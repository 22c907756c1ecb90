/-! THE MODEL'S READER: clauses -/
def CM (S : aI) (x : Nat) (k : aK) (e0 : Nat) : Prop := S 92 x = iN e0 ∧ S 93 x = iN (e0 + k.2.2.2.length) ∧ (k.1 = 14 → S 89 x = 0 ∧ S 90 x = k.2.2.1) ∧ (k.1 = 15 → S 89 x = 1) ∧ (k.1 = 16 → S 89 x = 2 ∧ S 90 x = k.2.1 ∧ S 91 x = k.2.2.1) ∧ (k.1 = 17 → S 90 x = k.2.1 ∧ S 91 x = k.2.2.1)
def Fk (s x : Nat) (S S' : aI) : Prop := (∀ a, a ≠ 72 → a ≠ 86 → a ≠ 87 → a ≠ 94 → a < 89 ∨ 93 < a → S' a = S a) ∧ (∀ j, j < 28 ∨ 34 < j → S' 72 j = S 72 j) ∧ (∀ j, j / 300 ≠ s → S' 86 j = S 86 j ∧ S' 87 j = S 87 j) ∧ ∀ a j, 89 ≤ a → a ≤ 93 → j ≠ x → S' a j = S a j
theorem Fk_r {s x : Nat} {S : aI} : Fk s x S S := ⟨fun _ _ _ _ _ _ => rfl, fun _ _ => rfl, fun _ _ => ⟨rfl, rfl⟩, fun _ _ _ _ _ => rfl⟩
theorem Fk_t {s x : Nat} {S S1 S2 : aI} (h1 : Fk s x S S1) (h2 : Fk s x S1 S2) : Fk s x S S2 := ⟨fun a x y z w v => by rw [h2.1 a x y z w v, h1.1 a x y z w v], fun j hj => by rw [h2.2.1 j hj, h1.2.1 j hj], fun j hj => by rw [(h2.2.2.1 j hj).1, (h2.2.2.1 j hj).2, (h1.2.2.1 j hj).1, (h1.2.2.1 j hj).2]; exact ⟨rfl, rfl⟩, fun a j p q w => by rw [h2.2.2.2 a j p q w, h1.2.2.2 a j p q w]⟩
theorem Fk_f {s x : Nat} {S S' : aI} (h : Ft s S S') : Fk s x S S' := ⟨fun a h1 h2 h3 h4 _ => h.1 a h1 h2 h3 h4, h.2.1, h.2.2, fun a j h1 h2 _ => by rw [h.1 a (by omega) (by omega) (by omega) (by omega)]⟩
theorem Fk_w {s x a : Nat} {S : aI} {v : Int32} (h1 : 89 ≤ a) (h2 : a ≤ 93) : Fk s x S (up2 S a x v) := ⟨fun b _ _ _ _ hb => up_o (by omega), fun j _ => up2_a (by omega), fun j _ => ⟨up2_a (by omega), up2_a (by omega)⟩, fun b j _ _ hj => by
    by_cases e : b = a
    · rw [e, up2_k hj]
    · rw [up2_a e]⟩
def OkK (S : aI) (G : aL) (Z : aZ) (u : Nat → Int32) (n s x : Nat) (L : List Int32) (X : Option (Option Value × aM)) (q : (Nat × Nat × aK) ⊕ Nat) : Prop := match q with
  | .inl (p1, c1, k) => ∃ (S' : aI) (r' : Nat), X = some (none, (S', G, Z)) ∧ Fk s x S S' ∧ MP S' u n s r' c1 (L ++ k.2.2.2) ∧ sk u n r' = p1 ∧ CM S' x k L.length
  | .inr e => ∃ (S' : aI) (r' : Nat), X = some (none, (S', G, Z)) ∧ Fk s x S S' ∧ MF S' u n s e r' ∧ r' ≤ 1000
def hpF (S : aI) (s : Nat) : Nat → Bool
  | 0 => false
  | j + 1 => hpF S s j || decide (S 89 (14 * s + j) = 0)
section MCL
variable {S : aI} {G : aL} {Z : aZ} {u : Nat → Int32} {n s r c d e p i : Nat} {L : List Int32}
theorem x14i (hs : s < 20) (hi : i < 14) : (14 : Int32) * iN s + iN i = iN (14 * s + i) := by
  rw [show (14 : Int32) = iN 14 from rfl, iN_mul (by omega) (by omega) (by omega), iN_add]
theorem m_hasPrior (hZ : Shp Z) (hs : s < 20) (h30 : S 72 30 = iN s) (hi : i ≤ 14) : call 186 [.ref 72, .int (iN i)] (S, G, Z) = some (some (.int (bI (hpF S s i))), (S, G, Z)) := by
  refine Eq.trans e186 (Eq.trans b186_0 ?_)
  have key := loop_up (fun j => run 1 186 4 [.ref 72, .int (iN i), .int (bI (hpF S s j)), .int (iN j)] [] (S, G, Z)) i (fun j hj => by
    refine Eq.trans b186_4 (Eq.trans (if_neg (fun z => z ((iN_lt (by omega) (by omega)).mpr hj))) (Eq.trans b186_9 ?_))
    show _ = run 1 186 4 [.ref 72, .int (iN i), .int (bI (hpF S s (j + 1))), .int (iN (j + 1))] [] (S, G, Z)
    rw [bI_n, hpF]
    cases hq : hpF S s j
    · have m30 : mI (S, G, Z) 72 30 = iN s := h30
      refine Eq.trans (if_neg (by decide)) (Eq.trans (b186_13 hZ.k72 hZ.kr72_40 (hZ.ir72_40 (by rw [m30, x14i hs (by omega)]; exact ib_iN (by omega) (by omega)))) ?_)
      rw [hZ.r72_40, m30, x14i hs (by omega), iN_clamp (by omega), mI_t, Bool.false_or]
      by_cases h0 : S 89 (14 * s + j) = 0
      · rw [if_neg (fun z => z h0), decide_eq_true h0]
        refine Eq.trans b186_30 (Eq.trans b186_35 ?_)
        rw [iN_succ]; rfl
      · rw [if_pos h0, decide_eq_false h0]
        refine Eq.trans b186_34 (Eq.trans b186_35 ?_)
        rw [iN_succ]; rfl
    · rw [if_pos rfl, Bool.true_or]
      refine Eq.trans b186_30 (Eq.trans b186_35 ?_)
      rw [iN_succ]; rfl) 0 (by omega)
  exact Eq.trans key (Eq.trans b186_4 (Eq.trans (if_pos (iN_nlt (by omega))) (b186_42 rt_b)))
def stC (S : aI) (x p1 : Nat) (k : Int32) (m : Nat) : aI := up2 (up2 (up2 S 72 28 (iN p1)) 89 x k) 92 x (iN m)
/-- a story's clause: its head -/
theorem m_sc0 (hZ : Shp Z) (hT : MT S u n) (hp : p ≤ 1000) (h28 : S 72 28 = iN p) : call 187 [.ref 72, .int (iN i)] (S, G, Z) = run 10 187 48 [.ref 72, .int (iN i), .int (iN p), xU, xU] [.int (if KK u n p = 14 then 0 else if KK u n p = 15 then 1 else if KK u n p = 16 then 2 else -1)] (S, G, Z) := by
  refine Eq.trans e187 (Eq.trans (b187_0 hZ.k72) ?_)
  rw [show (2 : Nat) = 0 + 2 from rfl, m_stands hZ hT hp h28 (by decide), mI_t, h28]
  refine Eq.trans b187_12 ?_
  rw [bI_0]
  by_cases k14 : KK u n p = 14
  · rw [(K_w (j := 0) (by decide)).1.mpr k14, if_pos k14]
    exact Eq.trans (if_pos rfl) b187_15
  · rw [stW_f (j := 0) (by decide) k14, if_neg k14]
    refine Eq.trans (if_neg (by decide)) (Eq.trans (b187_19 hZ.k72) ?_)
    rw [show (3 : Nat) = 1 + 2 from rfl, m_stands hZ hT hp h28 (by decide)]
    refine Eq.trans b187_26 ?_
    rw [bI_0]
    by_cases k15 : KK u n p = 15
    · rw [(K_w (j := 1) (by decide)).1.mpr k15, if_pos k15]
      exact Eq.trans (if_pos rfl) b187_29
    · rw [stW_f (j := 1) (by decide) k15, if_neg k15]
      refine Eq.trans (if_neg (by decide)) (Eq.trans (b187_33 hZ.k72) ?_)
      rw [show (4 : Nat) = 2 + 2 from rfl, m_stands hZ hT hp h28 (by decide)]
      refine Eq.trans b187_40 ?_
      rw [bI_0]
      by_cases k16 : KK u n p = 16
      · rw [(K_w (j := 2) (by decide)).1.mpr k16, if_pos k16]
        exact Eq.trans (if_pos rfl) b187_43
      · rw [stW_f (j := 2) (by decide) k16, if_neg k16]
        exact Eq.trans (if_neg (by decide)) b187_47
theorem m_sc1 (hZ : Shp Z) (h : MP S u n s p c L) (hi : i ≤ 14) : (¬ (KK u n p = 14 ∨ KK u n p = 15 ∨ KK u n p = 16) → call 187 [.ref 72, .int (iN i)] (S, G, Z) = some (none, (flt S 0 p, G, Z))) ∧ ((KK u n p = 14 ∨ KK u n p = 15 ∨ KK u n p = 16) → (14 ≤ i ∨ (KK u n p = 14 ∧ hpF S s i = true)) → call 187 [.ref 72, .int (iN i)] (S, G, Z) = some (none, (flt S 4 p, G, Z))) ∧ ((KK u n p = 14 ∨ KK u n p = 15 ∨ KK u n p = 16) → ¬ (14 ≤ i ∨ (KK u n p = 14 ∧ hpF S s i = true)) → call 187 [.ref 72, .int (iN i)] (S, G, Z) = run 10 187 135 [.ref 72, .int (iN i), .int (iN p), .int (iN (KK u n p - 14)), .int (iN (14 * s + i))] [] (stC S (14 * s + i) (tE u n p) (iN (KK u n p - 14)) L.length, G, Z)) := by
  have hn := h.t.1
  have hpn := h.r1
  have hs := h.s2
  rw [m_sc0 hZ h.t (by omega) h.p]
  refine ⟨fun k => ?_, fun k hb => ?_, fun k hb => ?_⟩
  · rw [if_neg (by omega), if_neg (by omega), if_neg (by omega)]
    refine Eq.trans b187_48 (Eq.trans (if_neg (fun z => z rfl)) (Eq.trans (b187_54 hZ.k72) ?_))
    rw [show (0 : Int32) = iN 0 from rfl, m_fails hZ]
    exact b187_60
  all_goals
    have ek : (if KK u n p = 14 then (0 : Int32) else if KK u n p = 15 then 1 else if KK u n p = 16 then 2 else -1) = iN (KK u n p - 14) := by
      rcases k with z | z | z <;> rw [z] <;> rfl
    rw [ek]
    have kb : KK u n p - 14 ≤ 2 := by omega
    have s48 : run 10 187 48 [.ref 72, .int (iN i), .int (iN p), xU, xU] [.int (iN (KK u n p - 14))] (S, G, Z) = run 10 187 61 [.ref 72, .int (iN i), .int (iN p), .int (iN (KK u n p - 14)), xU] [] (S, G, Z) := Eq.trans b187_48 (if_pos (iN_ne1 (by omega)))
    rw [s48]
  · have bad : run 10 187 79 [.ref 72, .int (iN i), .int (iN p), .int (iN (KK u n p - 14)), xU] [] (S, G, Z) = some (none, (flt S 4 p, G, Z)) := by
      refine Eq.trans (b187_79 hZ.k72) ?_
      rw [show (4 : Int32) = iN 4 from rfl, m_fails hZ]
      exact b187_85
    refine Eq.trans b187_61 ?_
    by_cases h14 : i = 14
    · rw [if_pos (show iN i = 14 by rw [h14]; rfl)]
      exact bad
    · rw [if_neg (show ¬ iN i = 14 from fun z => h14 ((iN_inj (b := 14) (by omega) (by omega)).mp z))]
      obtain ⟨k14, hp⟩ : KK u n p = 14 ∧ hpF S s i = true := by
        rcases hb with z | z
        · omega
        · exact z
      refine Eq.trans b187_67 (Eq.trans (if_neg (fun z => z (by rw [k14]; rfl))) (Eq.trans (b187_71 hZ.k72) ?_))
      rw [m_hasPrior hZ hs h.s1 hi, hp]
      exact Eq.trans b187_76 (Eq.trans (if_neg (by decide)) bad)
  · have hi14 : i < 14 := by omega
    have s86 : run 10 187 61 [.ref 72, .int (iN i), .int (iN p), .int (iN (KK u n p - 14)), xU] [] (S, G, Z) = run 10 187 86 [.ref 72, .int (iN i), .int (iN p), .int (iN (KK u n p - 14)), xU] [] (S, G, Z) := by
      refine Eq.trans b187_61 (Eq.trans (if_neg (fun z => by have := (iN_inj (b := 14) (by omega) (by omega)).mp z; omega)) (Eq.trans b187_67 ?_))
      by_cases k14 : KK u n p = 14
      · rw [if_neg (fun z => z (by rw [k14]; rfl))]
        refine Eq.trans (b187_71 hZ.k72) ?_
        have hf : hpF S s i = false := by
          cases z : hpF S s i
          · rfl
          · exact absurd (Or.inr ⟨k14, z⟩) hb
        rw [m_hasPrior hZ hs h.s1 hi, hf]
        exact Eq.trans b187_76 (if_pos rfl)
      · exact if_pos (fun z => by have := (iN_inj (b := 0) (by omega) (by omega)).mp z; omega)
    rw [s86]
    have m30 : mI (up2 S 72 28 (iN (tE u n p)), G, Z) 72 30 = iN s := by rw [mI_t, up2_k (by decide)]; exact h.s1
    have m31 : ∀ w, mI (up2 (up2 S 72 28 (iN (tE u n p))) 89 (14 * s + i) w, G, Z) 72 31 = iN L.length := fun w => by rw [mI_t, up2_a (by decide), up2_k (by decide)]; exact h.e.1
    have hib : ib (iN (14 * s + i)) 280 := ib_iN (by omega) (by omega)
    have fin : ∀ y : Nat, iN p + iN y = iN (tE u n p) → run 10 187 101 [.ref 72, .int (iN i), .int (iN p), .int (iN (KK u n p - 14)), xU] [.int (iN y), .int (iN p), .ref 72] (S, G, Z) = run 10 187 135 [.ref 72, .int (iN i), .int (iN p), .int (iN (KK u n p - 14)), .int (iN (14 * s + i))] [] (stC S (14 * s + i) (tE u n p) (iN (KK u n p - 14)) L.length, G, Z) := by
      intro y hy
      have w1 : wI (S, G, Z) 72 28 (iN p + iN y) = (up2 S 72 28 (iN (tE u n p)), G, Z) := by rw [hy, wI_t]
      refine Eq.trans (b187_101 hZ.k72 hZ.k72 hZ.kr72_40 (hZ.ir72_40 (by rw [w1, m30, x14i hs hi14]; exact hib)) hZ.kr72_43 (hZ.ir72_43 (by rw [w1, m30, x14i hs hi14]; exact hib))) ?_
      rw [w1, m30, x14i hs hi14, hZ.r72_40, hZ.r72_43, iN_clamp (by omega)]
      have w2 : wI (up2 S 72 28 (iN (tE u n p)), G, Z) 89 (14 * s + i) (iN (KK u n p - 14)) = (up2 (up2 S 72 28 (iN (tE u n p))) 89 (14 * s + i) (iN (KK u n p - 14)), G, Z) := rfl
      rw [w2, m31]
      rfl
    refine Eq.trans (b187_86 hZ.k72) ?_
    rw [mI_t, h.p]
    by_cases k15 : KK u n p = 15
    · obtain ⟨t1, t2, t3⟩ := (K_w (u := u) (n := n) (p := p) (j := 1) (by decide)).2 k15
      refine Eq.trans (if_neg (fun z => z (by rw [k15]; rfl))) (Eq.trans b187_96 (fin 4 ?_))
      rw [iN_add, t2]; rfl
    · refine Eq.trans (if_pos (fun z => by have := (iN_inj (b := 1) (by omega) (by omega)).mp z; omega)) (Eq.trans b187_100 (fin 5 ?_))
      rcases k with z | z | z
      · obtain ⟨t1, t2, t3⟩ := (K_w (u := u) (n := n) (p := p) (j := 0) (by decide)).2 z
        rw [iN_add, t2]; rfl
      · exact absurd z k15
      · obtain ⟨t1, t2, t3⟩ := (K_w (u := u) (n := n) (p := p) (j := 2) (by decide)).2 z
        rw [iN_add, t2]; rfl
end MCL
