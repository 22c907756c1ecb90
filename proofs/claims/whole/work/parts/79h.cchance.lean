/-! THE CLASS'S JUDGE: chances, prior, weight -/
theorem tk_s {ks l : List aK} {k : aK} {i : Nat} (hks : ks = ks.take i ++ k :: l) (hi : i + (l.length + 1) = ks.length) : ks.getD i k0 = k ∧ k ∈ ks ∧ ks = ks.take (i + 1) ++ l := by
  have hik : ks.getD i k0 = k := by
    rw [hks]
    have : (ks.take i).length = i := by rw [List.length_take]; omega
    simp [List.getD_eq_getElem?_getD, List.getElem?_append_right, this]
  refine ⟨hik, by rw [hks]; simp, ?_⟩
  have e1 : ks.take (i + 1) = ks.take i ++ [k] := by
    rw [List.take_succ]
    have : ks[i]? = some k := by
      have h2 : i < ks.length := by omega
      rw [List.getD_eq_getElem?_getD, List.getElem?_eq_getElem h2] at hik
      rw [List.getElem?_eq_getElem h2]
      simpa using hik
    rw [this]; rfl
  rw [e1, List.append_assoc]
  exact hks
section CJ2
variable {G : aL} {Z : aZ} {w : Nat → Int}
theorem c_ch (hZ : Shp Z) (hwb : ∀ k, k < 13 → -10000000 ≤ w k ∧ w k ≤ 10000000) {rb : Bool} {lo hi r : Nat} {ks : List aK} {y : Int32} (hlo : 69 ≤ lo) (hg : ∀ k, k ∈ ks → kg rb k) (hl : ks.length ≤ 14) : ∀ (l : List aK) (i : Nat) (J : aI) (v : Value), ks = ks.take i ++ l → i + l.length = ks.length → TxC J Z lo hi r ks → (∀ k, k < 13 → (J 67 k).toInt = w k) → ∃ J' : aI, run 5 8 2 [.ref 66, .ref r, .int y, .int (iN i), v] [] (J, G, Z) = some (some (.int (ch w y l)), (J', G, Z)) ∧ ∀ b, b ≠ 68 → J' b = J b := by
  intro l
  induction l with
  | nil =>
    intro i J v _ hi' hT hw
    have hi' : i = ks.length := hi'
    obtain ⟨t1, t2, t3, t4, t5, t6, t7, t8⟩ := hT
    refine ⟨J, Eq.trans (b8_2 t3 t6) ?_, fun _ _ => rfl⟩
    rw [show mN (J, G, Z) (mR (J, G, Z) r 0) = ks.length from t7, hi']
    exact Eq.trans (if_pos (iN_nlt (by omega))) b8_59
  | cons k l ih =>
    intro i J v hks hi' hT hw
    rw [List.length_cons] at hi'
    have hT' := hT
    obtain ⟨t1, t2, t3, t4, t5, t6, t7, t8⟩ := hT
    obtain ⟨hik, hmem, hks'⟩ := tk_s hks (by omega)
    have hkg := hg k hmem
    have hC := t8 i (by omega)
    rw [hik] at hC
    have hcl : (iN i).toNatClampNeg = i := iN_clamp (by omega)
    have st : run 5 8 2 [.ref 66, .ref r, .int y, .int (iN i), v] [] (J, G, Z) = if ¬ iN k.1 = 16 then run 5 8 53 [.ref 66, .ref r, .int y, .int (iN i), .ref (zR Z (zR Z r 0) i)] [] (J, G, Z) else run 5 8 29 [.ref 66, .ref r, .int y, .int (iN i), .ref (zR Z (zR Z r 0) i)] [] (J, G, Z) := by
      refine Eq.trans (b8_2 t3 t6) ?_
      rw [show mN (J, G, Z) (mR (J, G, Z) r 0) = ks.length from t7]
      refine Eq.trans (if_neg (fun q => q ((iN_lt (by omega) (by omega)).mpr (by omega)))) (Eq.trans (b8_11 t3 t6 (by rw [show mN (J, G, Z) (mR (J, G, Z) r 0) = ks.length from t7]; exact ib_iN (by omega) (by omega)) (by rw [hcl]; exact hC.2.2.1)) ?_)
      rw [hcl, show mI (J, G, Z) (mR (J, G, Z) (mR (J, G, Z) r 0) i) 0 = iN k.1 from hC.2.2.2.1]
      rfl
    have s53 : ∀ J1 : aI, run 5 8 53 [.ref 66, .ref r, .int y, .int (iN i), .ref (zR Z (zR Z r 0) i)] [] (J1, G, Z) = run 5 8 2 [.ref 66, .ref r, .int y, .int (iN (i + 1)), .ref (zR Z (zR Z r 0) i)] [] (J1, G, Z) := fun J1 => by
      refine Eq.trans b8_53 ?_
      rw [iN_succ]
    rw [st, ch]
    have klt := mb_lt hkg.2.2.1
    by_cases k16 : k.1 = 16
    · rw [if_neg (show ¬ ¬ iN k.1 = 16 from fun z => z (by rw [k16]; rfl)), b8_29 (show mK (J, G, Z) (zR Z (zR Z r 0) i) = 0 from hC.2.2.1), show mI (J, G, Z) (zR Z (zR Z r 0) i) 1 = k.2.1 from hC.2.2.2.2.1]
      by_cases hy : k.2.1 = y
      · rw [if_neg (fun z => z hy)]
        obtain ⟨J1, h1, h2⟩ := c_holds (G := G) hZ hwb hw hC hlo hkg.1 (by have := hkg.2.1; omega)
        rw [b8_38 hZ.k66, h1]
        show ∃ J' : aI, run 5 8 44 [.ref 66, .ref r, .int y, .int (iN i), .ref (zR Z (zR Z r 0) i)] [.int (bI (tst w k.2.2.2))] (J1, G, Z) = _ ∧ _
        rw [b8_44, bI_0]
        cases ht : tst w k.2.2.2
        · rw [if_neg (by decide), if_neg (by rintro ⟨_, _, z⟩; cases z), s53]
          obtain ⟨J', b1, b2⟩ := ih (i + 1) J1 (.ref (zR Z (zR Z r 0) i)) hks' (by omega) (TxC_68 hT' hlo h2) (fun q hq => by rw [h2 67 (by decide)]; exact hw q hq)
          exact ⟨J', b1, fun b hb => by rw [b2 b hb, h2 b hb]⟩
        · rw [if_pos rfl, if_pos ⟨k16, hy, rfl⟩]
          refine ⟨J1, ?_, h2⟩
          refine Eq.trans (b8_47 hC.2.2.1) ?_
          rw [mI_t, h2 _ (by have := hC.1; omega), hC.2.2.2.2.2.1]
      · rw [if_pos hy, if_neg (fun z => hy z.2.1), s53]
        exact ih (i + 1) J _ hks' (by omega) hT' hw
    · rw [if_pos (show ¬ iN k.1 = 16 from fun z => k16 ((iN_kd klt (c := 16) (by decide)).mp z)), if_neg (fun z => k16 z.1), s53]
      exact ih (i + 1) J _ hks' (by omega) hT' hw
theorem c_pr {rb : Bool} {lo hi r : Nat} {ks : List aK} {J : aI} (hg : ∀ k, k ∈ ks → kg rb k) (hl : ks.length ≤ 14) (hT : TxC J Z lo hi r ks) : ∀ (l : List aK) (i : Nat), ks = ks.take i ++ l → i + l.length = ks.length → run 1 10 2 [.ref r, .int (iN i)] [] (J, G, Z) = some (some (.int (pr l)), (J, G, Z)) := by
  obtain ⟨t1, t2, t3, t4, t5, t6, t7, t8⟩ := hT
  intro l
  induction l with
  | nil =>
    intro i _ hi'
    have hi' : i = ks.length := hi'
    refine Eq.trans (b10_2 t3 t6) ?_
    rw [show mN (J, G, Z) (mR (J, G, Z) r 0) = ks.length from t7, hi']
    exact Eq.trans (if_pos (iN_nlt (by omega))) b10_41
  | cons k l ih =>
    intro i hks hi'
    rw [List.length_cons] at hi'
    obtain ⟨hik, hmem, hks'⟩ := tk_s hks (by omega)
    have hkg := hg k hmem
    have hC := t8 i (by omega)
    rw [hik] at hC
    have hcl : (iN i).toNatClampNeg = i := iN_clamp (by omega)
    have klt := mb_lt hkg.2.2.1
    have hib : ib (iN i) (mN (J, G, Z) (mR (J, G, Z) r 0)) := by
      rw [show mN (J, G, Z) (mR (J, G, Z) r 0) = ks.length from t7]; exact ib_iN (by omega) (by omega)
    refine Eq.trans (b10_2 t3 t6) ?_
    rw [show mN (J, G, Z) (mR (J, G, Z) r 0) = ks.length from t7]
    refine Eq.trans (if_neg (fun q => q ((iN_lt (by omega) (by omega)).mpr (by omega)))) (Eq.trans (b10_11 t3 t6 hib (by rw [hcl]; exact hC.2.2.1)) ?_)
    rw [hcl, show mI (J, G, Z) (mR (J, G, Z) (mR (J, G, Z) r 0) i) 0 = iN k.1 from hC.2.2.2.1, pr]
    by_cases k14 : k.1 = 14
    · rw [if_neg (show ¬ ¬ iN k.1 = 14 from fun z => z (by rw [k14]; rfl)), if_pos k14]
      refine Eq.trans (b10_25 t3 t6 hib (by rw [hcl]; exact hC.2.2.1)) ?_
      rw [hcl, show mI (J, G, Z) (mR (J, G, Z) (mR (J, G, Z) r 0) i) 2 = k.2.2.1 from hC.2.2.2.2.2.1]
    · rw [if_pos (show ¬ iN k.1 = 14 from fun z => k14 ((iN_kd klt (c := 14) (by decide)).mp z)), if_neg k14]
      refine Eq.trans b10_35 ?_
      rw [iN_succ]
      exact ih (i + 1) hks' (by omega)
/-- the weight of a story, by what sixteen tell -/
def wgF (w : Nat → Int) (ks : List aK) (tl : Nat → Int32) : Nat → Int64
  | 0 => (pr ks).toInt64 * 1000000
  | i + 1 => if tl i = -1 then wgF w ks tl i else wgF w ks tl i * (if tl i = 1 then ch w (iN i) ks else 1000 - ch w (iN i) ks).toInt64 / 1000
def wg (w : Nat → Int) (ks : List aK) (tl : Nat → Int32) (m : Nat) : Int64 := if aw w ks = true then wgF w ks tl m else 0
theorem c_wg (hZ : Shp Z) (hwb : ∀ k, k < 13 → -10000000 ≤ w k ∧ w k ≤ 10000000) {rb : Bool} {lo hi r a m : Nat} {ks : List aK} {J : aI} (hlo : 69 ≤ lo) (hg : ∀ k, k ∈ ks → kg rb k) (hl : ks.length ≤ 14) (hT : TxC J Z lo hi r ks) (hw : ∀ k, k < 13 → (J 67 k).toInt = w k) (ha : a ≠ 68) (hka : zK Z a = 12) (hna : zN Z a = m) (hm : m ≤ 16) : ∃ J' : aI, call 9 [.ref 66, .ref r, .ref a] (J, G, Z) = some (some (.long (wg w ks (J a) m)), (J', G, Z)) ∧ ∀ b, b ≠ 68 → J' b = J b := by
  obtain ⟨J1, h1, h2⟩ := c_all (G := G) hZ hwb hlo hg hl ks 0 J xU rfl (by omega) hT hw
  have e1 : call 7 [.ref 66, .ref r] (J, G, Z) = some (some (.int (bI (aw w ks))), (J1, G, Z)) := Eq.trans e7 (Eq.trans b7_0 h1)
  have st : call 9 [.ref 66, .ref r, .ref a] (J, G, Z) = run 6 9 5 [.ref 66, .ref r, .ref a, xU, xU, xU, xU] [.int (bI (aw w ks))] (J1, G, Z) := by
    refine Eq.trans e9 (Eq.trans (b9_0 hZ.k66) ?_)
    rw [e1]
    rfl
  rw [st, b9_5, bI_n]
  unfold wg
  cases haw : aw w ks
  · rw [if_neg (by decide), if_neg (by decide)]
    exact ⟨J1, b9_8, h2⟩
  · rw [if_pos rfl, if_pos rfl]
    have hT1 := TxC_68 hT hlo h2
    have e2 : call 10 [.ref r] (J1, G, Z) = some (some (.int (pr ks)), (J1, G, Z)) := Eq.trans e10 (Eq.trans b10_0 (c_pr hg hl hT1 ks 0 rfl (by omega)))
    have key : ∀ i, i ≤ m → ∃ (Ji : aI) (v : Value), (∀ b, b ≠ 68 → Ji b = J b) ∧ run 6 9 10 [.ref 66, .ref r, .ref a, xU, xU, xU, xU] [] (J1, G, Z) = run 6 9 23 [.ref 66, .ref r, .ref a, .long (wgF w ks (J a) i), xU, .int (iN i), v] [] (Ji, G, Z) := by
      intro i
      induction i with
      | zero =>
        intro _
        refine ⟨J1, xU, h2, Eq.trans b9_10 ?_⟩
        rw [e2]
        exact b9_14
      | succ i ih =>
        intro hi
        obtain ⟨Ji, v, g1, g2⟩ := ih (by omega)
        have hci : (iN i).toNatClampNeg = i := iN_clamp (by omega)
        have hib : ib (iN i) (mN (Ji, G, Z) a) := by rw [show mN (Ji, G, Z) a = m from hna]; exact ib_iN (by omega) (by omega)
        have s1 : run 6 9 23 [.ref 66, .ref r, .ref a, .long (wgF w ks (J a) i), xU, .int (iN i), v] [] (Ji, G, Z) = if J a i = -1 then run 6 9 74 [.ref 66, .ref r, .ref a, .long (wgF w ks (J a) i), xU, .int (iN i), v] [] (Ji, G, Z) else run 6 9 38 [.ref 66, .ref r, .ref a, .long (wgF w ks (J a) i), xU, .int (iN i), v] [] (Ji, G, Z) := by
          refine Eq.trans (b9_23 hka) ?_
          rw [show mN (Ji, G, Z) a = m from hna]
          refine Eq.trans (if_neg (fun q => q ((iN_lt (by omega) (by omega)).mpr (by omega)))) (Eq.trans (b9_30 hka hib) ?_)
          rw [hci, mI_t, g1 a ha]
        by_cases hn : J a i = -1
        · refine ⟨Ji, v, g1, Eq.trans g2 (Eq.trans s1 (Eq.trans (if_pos hn) (Eq.trans b9_74 ?_)))⟩
          rw [iN_succ, wgF, if_pos hn]
        · obtain ⟨J2, q1, q2⟩ := c_ch (G := G) (y := iN i) hZ hwb hlo hg hl ks 0 Ji xU rfl (by omega) (TxC_68 hT hlo g1) (fun k hk => by rw [g1 67 (by decide)]; exact hw k hk)
          have e3 : call 8 [.ref 66, .ref r, .int (iN i)] (Ji, G, Z) = some (some (.int (ch w (iN i) ks)), (J2, G, Z)) := Eq.trans e8 (Eq.trans b8_0 q1)
          refine ⟨J2, .int (ch w (iN i) ks), fun b hb => by rw [q2 b hb, g1 b hb], Eq.trans g2 (Eq.trans s1 (Eq.trans (if_neg hn) (Eq.trans (b9_38 hZ.k66) ?_)))⟩
          rw [e3]
          refine Eq.trans (b9_45 hka hib) ?_
          rw [hci, mI_t, q2 a ha, g1 a ha, wgF, if_neg hn]
          by_cases h1' : J a i = 1
          · rw [if_neg (fun z => z h1'), if_pos h1']
            refine Eq.trans b9_56 (Eq.trans b9_67 (Eq.trans b9_74 ?_))
            rw [iN_succ]
          · rw [if_pos h1', if_neg h1']
            refine Eq.trans b9_61 (Eq.trans b9_67 (Eq.trans b9_74 ?_))
            rw [iN_succ]
    obtain ⟨Jm, v, g1, g2⟩ := key m (Nat.le_refl _)
    refine ⟨Jm, ?_, g1⟩
    refine Eq.trans g2 (Eq.trans (b9_23 hka) ?_)
    rw [show mN (Jm, G, Z) a = m from hna]
    exact Eq.trans (if_pos (iN_nlt (by omega))) b9_80
end CJ2
