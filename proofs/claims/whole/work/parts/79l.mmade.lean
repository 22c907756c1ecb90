/-! TIMES AS SEEN: the model's; chances laid out -/
section MSE
variable {S : aI} {G : aL} {Z : aZ}
theorem m_seen_in (hZ : Shp Z) {x1 x2 x3 x4 x7 x8 : Int32} {l : Int64} {v11 : Value} : ∀ i, i ≤ 16 → ∃ v : Value, run 7 207 82 [.ref 72, .int x1, .int x2, .int x3, .int x4, .long l, xU, .int x7, .int x8, .int 1, .int 0, v11] [] (S, G, Z) = run 7 207 82 [.ref 72, .int x1, .int x2, .int x3, .int x4, .long (inF (S 98) (S 97) l i).1, xU, .int x7, .int x8, .int (bI (inF (S 98) (S 97) l i).2), .int (iN i), v] [] (S, G, Z) := by
  intro i
  induction i with
  | zero => exact fun _ => ⟨v11, rfl⟩
  | succ i ih =>
    intro hi
    obtain ⟨v, g⟩ := ih (by omega)
    have hci : (iN i).toNatClampNeg = i := iN_clamp (by omega)
    have hib : ib (iN i) 16 := ib_iN (by omega) (by omega)
    generalize hS : inF (S 98) (S 97) l i = q at g
    obtain ⟨l', ok⟩ := q
    have e : inF (S 98) (S 97) l (i + 1) = (lcN l', ok && (decide (S 97 i = -1) || decide (S 97 i = bI (lcB l' (S 98 i))))) := by rw [inF, hS]
    refine ⟨.int (bI (lcB l' (S 98 i))), Eq.trans g ?_⟩
    rw [e]
    refine Eq.trans b207_82 (Eq.trans (if_neg (fun z => z ((iN_lt (b := 16) (by omega) (by omega)).mpr (by omega)))) (Eq.trans (b207_89 hZ.k72 hZ.kr72_49 (hZ.ir72_49 hib)) ?_))
    rw [hZ.r72_49, hci, mI_t]
    have s132 : run 7 207 132 [.ref 72, .int x1, .int x2, .int x3, .int x4, .long (lcN l'), xU, .int x7, .int x8, .int (bI ok), .int (iN i), v] [.int (bI (lcB l' (S 98 i)))] (S, G, Z) = run 7 207 82 [.ref 72, .int x1, .int x2, .int x3, .int x4, .long (lcN l'), xU, .int x7, .int x8, .int (bI (ok && (decide (S 97 i = -1) || decide (S 97 i = bI (lcB l' (S 98 i)))))), .int (iN (i + 1)), .int (bI (lcB l' (S 98 i)))] [] (S, G, Z) := by
      refine Eq.trans b207_132 ?_
      rw [bI_0]
      have out : ∀ b' : Bool, run 7 207 167 [.ref 72, .int x1, .int x2, .int x3, .int x4, .long (lcN l'), xU, .int x7, .int x8, .int (bI ok), .int (iN i), .int (bI (lcB l' (S 98 i)))] [.int (bI b')] (S, G, Z) = run 7 207 82 [.ref 72, .int x1, .int x2, .int x3, .int x4, .long (lcN l'), xU, .int x7, .int x8, .int (bI b'), .int (iN (i + 1)), .int (bI (lcB l' (S 98 i)))] [] (S, G, Z) := fun b' => by
        refine Eq.trans b207_167 ?_
        rw [iN_succ]
      cases ok with
      | false => exact Eq.trans b207_166 (out false)
      | true =>
        rw [if_pos rfl, Bool.true_and]
        refine Eq.trans (b207_139 hZ.k72 hZ.kr72_48 (hZ.ir72_48 hib)) ?_
        rw [hZ.r72_48, hci, mI_t]
        by_cases hn : S 97 i = -1
        · rw [if_pos hn, decide_eq_true hn, Bool.true_or]
          exact Eq.trans b207_162 (out true)
        · rw [if_neg hn, decide_eq_false hn, Bool.false_or]
          refine Eq.trans (b207_150 hZ.k72 hZ.kr72_48 (hZ.ir72_48 hib)) ?_
          rw [hZ.r72_48, hci, mI_t]
          by_cases hq : S 97 i = bI (lcB l' (S 98 i))
          · rw [if_neg (fun z => z hq), decide_eq_true hq]
            exact Eq.trans b207_162 (out true)
          · rw [if_pos hq, decide_eq_false hq]
            exact Eq.trans b207_166 (out false)
    by_cases hb : lg_cmp ((lcN l' / 65536) - (lcN l' / 65536) / 1000 * 1000) (S 98 i).toInt64 < 0
    · have hB : lcB l' (S 98 i) = true := decide_eq_true hb
      refine Eq.trans (if_neg (fun z => z hb)) (Eq.trans b207_127 ?_)
      rw [hB] at s132 ⊢
      exact s132
    · have hB : lcB l' (S 98 i) = false := decide_eq_false hb
      refine Eq.trans (if_pos hb) (Eq.trans b207_131 ?_)
      rw [hB] at s132 ⊢
      exact s132
theorem m_seen (hZ : Shp Z) {x1 x2 x3 : Int32} {m : Nat} (hm : m ≤ 1000) : run 7 207 69 [.ref 72, .int x1, .int x2, .int x3, .int (iN m), .long x3.toInt64, xU, .int 0, .int 0, xU, xU, xU] [] (S, G, Z) = some (some (.int (ouF (S 98) (S 97) x3.toInt64 m).2), (S, G, Z)) := by
  have key : ∀ t, t ≤ m → ∃ v9 v10 v11 : Value, run 7 207 69 [.ref 72, .int x1, .int x2, .int x3, .int (iN m), .long x3.toInt64, xU, .int 0, .int 0, xU, xU, xU] [] (S, G, Z) = run 7 207 69 [.ref 72, .int x1, .int x2, .int x3, .int (iN m), .long (ouF (S 98) (S 97) x3.toInt64 t).1, xU, .int (ouF (S 98) (S 97) x3.toInt64 t).2, .int (iN t), v9, v10, v11] [] (S, G, Z) := by
    intro t
    induction t with
    | zero => exact fun _ => ⟨xU, xU, xU, rfl⟩
    | succ t ih =>
      intro ht
      obtain ⟨v9, v10, v11, g⟩ := ih (by omega)
      generalize hS : ouF (S 98) (S 97) x3.toInt64 t = q at g
      obtain ⟨l, c⟩ := q
      have e : ouF (S 98) (S 97) x3.toInt64 (t + 1) = ((inF (S 98) (S 97) l 16).1, if (inF (S 98) (S 97) l 16).2 = true then c + 1 else c) := by rw [ouF, hS]
      obtain ⟨v, h16⟩ := m_seen_in (S := S) (G := G) hZ (x1 := x1) (x2 := x2) (x3 := x3) (x4 := iN m) (x7 := c) (x8 := iN t) (l := l) (v11 := v11) 16 (Nat.le_refl _)
      rw [e]
      generalize inF (S 98) (S 97) l 16 = q2 at h16
      obtain ⟨l2, ok⟩ := q2
      refine ⟨.int (bI ok), .int (iN 16), v, Eq.trans g (Eq.trans b207_69 (Eq.trans (if_neg (fun z => z ((iN_lt (by omega) (by omega)).mpr (by omega)))) (Eq.trans b207_76 (Eq.trans h16 (Eq.trans b207_82 (Eq.trans (if_pos (by decide)) (Eq.trans b207_175 ?_)))))))⟩
      rw [bI_0]
      cases ok
      · refine Eq.trans (if_neg (show ¬ false = true by decide)) (Eq.trans b207_186 (Eq.trans b207_187 ?_))
        rw [iN_succ, Int32.add_zero]; rfl
      · refine Eq.trans (if_pos rfl) (Eq.trans b207_182 (Eq.trans b207_187 ?_))
        rw [iN_succ]; rfl
  obtain ⟨v9, v10, v11, g⟩ := key m (Nat.le_refl _)
  exact Eq.trans g (Eq.trans b207_69 (Eq.trans (if_pos (iN_nlt (by omega))) b207_196))
theorem inF_e {cs cs' tl : Nat → Int32} {l : Int64} : ∀ i, (∀ j, j < i → cs' j = cs j) → inF cs' tl l i = inF cs tl l i := by
  intro i
  induction i with
  | zero => intro _; rfl
  | succ i ih => intro h; rw [inF, inF, ih (fun j hj => h j (by omega)), h i (by omega)]
theorem ouF_e {cs cs' tl : Nat → Int32} {l : Int64} (h : ∀ j, j < 16 → cs' j = cs j) : ∀ t, ouF cs' tl l t = ouF cs tl l t := by
  intro t
  induction t with
  | zero => rfl
  | succ t ih => rw [ouF, ouF, ih, inF_e 16 h]
theorem inF_e2 {cs tl tl' : Nat → Int32} {l : Int64} : ∀ i, (∀ j, j < i → tl' j = tl j) → inF cs tl' l i = inF cs tl l i := by
  intro i
  induction i with
  | zero => intro _; rfl
  | succ i ih => intro h; rw [inF, inF, ih (fun j hj => h j (by omega)), h i (by omega)]
theorem ouF_e2 {cs tl tl' : Nat → Int32} {l : Int64} (h : ∀ j, j < 16 → tl' j = tl j) : ∀ t, ouF cs tl' l t = ouF cs tl l t := by
  intro t
  induction t with
  | zero => rfl
  | succ t ih => rw [ouF, ouF, ih, inF_e2 16 h]
theorem MX_e {S S' : aI} {s : Nat} {ks : List aK} (h : MX S s ks) (he : ∀ a, 86 ≤ a → a ≤ 93 → S' a = S a) : MX S' s ks := by
  obtain ⟨h1, h2, h3, h4, h5⟩ := h
  refine ⟨by rw [he 88 (by decide) (by decide)]; exact h1, h2, h3, fun j hj => CM_e (h4 j hj) (fun a a1 a2 => by rw [he a (by omega) a2]), fun i hi => by rw [he 86 (by decide) (by decide), he 87 (by decide) (by decide)]; exact h5 i hi⟩
/-- the model's made, past its guards -/
theorem m_made {w : Nat → Int} (hZ : Shp Z) (hwb : ∀ k, k < 13 → -10000000 ≤ w k ∧ w k ≤ 10000000) {s m : Nat} {x x3 : Int32} (hs : s < 20) {ks : List aK} (hM : MX S s ks) (hg : ∀ k, k ∈ ks → kg false k) (hL : ∀ S' : aI, (∀ a, a ≠ 98 → S' a = S a) → Lk S' Z w x) (hm : m ≤ 1000) : ∃ (S' : aI) (G' : aL), run 7 207 28 [.ref 72, .int (iN s), .int x, .int x3, .int (iN m), xU, xU, xU, xU, xU, xU, xU] [] (S, G, Z) = some (some (.int (ouF (fun i => ch w (iN i) ks) (S 97) x3.toInt64 m).2), (S', G', Z)) ∧ (∀ a, a ≠ 98 → S' a = S a) ∧ ∀ c, c ≠ 95 → c ≠ 96 → G' c = G c := by
  have key : ∀ i, i ≤ 16 → ∃ (Si : aI) (Gi : aL), (∀ a, a ≠ 98 → Si a = S a) ∧ (∀ c, c ≠ 95 → c ≠ 96 → Gi c = G c) ∧ (∀ j, j < i → Si 98 j = ch w (iN j) ks) ∧ run 7 207 31 [.ref 72, .int (iN s), .int x, .int x3, .int (iN m), .int 0, xU, xU, xU, xU, xU, xU] [] (S, G, Z) = run 7 207 31 [.ref 72, .int (iN s), .int x, .int x3, .int (iN m), .int (iN i), xU, xU, xU, xU, xU, xU] [] (Si, Gi, Z) := by
    intro i
    induction i with
    | zero => exact fun _ => ⟨S, G, fun _ _ => rfl, fun _ _ _ => rfl, fun j hj => absurd hj (Nat.not_lt_zero _), rfl⟩
    | succ i ih =>
      intro hi
      obtain ⟨Si, Gi, g1, g2, g3, g4⟩ := ih (by omega)
      obtain ⟨G2, q1, q2⟩ := m_ch (G := Gi) (x := x) (y := iN i) hZ hwb hs (MX_e hM (fun a a1 a2 => g1 a (by omega))) hg (hL Si g1)
      refine ⟨up2 Si 98 i (ch w (iN i) ks), G2, fun a ha => by rw [up_o ha, g1 a ha], fun c h1 h2 => by rw [q2 c h1 h2, g2 c h1 h2], fun j hj => ?_, Eq.trans g4 (Eq.trans b207_31 (Eq.trans (if_neg (fun z => z ((iN_lt (b := 16) (by omega) (by omega)).mpr (by omega)))) (Eq.trans (b207_38 hZ.k72) ?_)))⟩
      · by_cases e : j = i
        · subst e; rw [up2_s]
        · rw [up2_k e]; exact g3 j (by omega)
      · rw [q1, hZ.r72_49]
        refine Eq.trans (b207_52 hZ.k98 (hZ.i98 (ib_iN (by omega) (by omega)))) ?_
        rw [iN_clamp (by omega), wI_t, iN_succ]
  obtain ⟨S', G', g1, g2, g3, g4⟩ := key 16 (Nat.le_refl _)
  refine ⟨S', G', ?_, g1, g2⟩
  refine Eq.trans b207_28 (Eq.trans g4 (Eq.trans b207_31 (Eq.trans (if_pos (by decide)) (Eq.trans b207_59 ?_))))
  rw [m_seen hZ hm, ouF_e (cs := fun i => ch w (iN i) ks) g3, show S' 97 = S 97 from g1 97 (by decide)]
end MSE
