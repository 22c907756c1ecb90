/-! THE MODEL'S READER: what stands open -/
def tp (o : List Nat) : Int32 := match o with
  | [] => -1
  | x :: _ => iN x
theorem stk_u {S : aI} {m : Nat} {v : Int32} : ∀ {o : List Nat}, o.length ≤ m → stk S o → stk (up2 S 94 m v) o := by
  intro o
  induction o with
  | nil => exact fun _ _ => trivial
  | cons x o ih =>
    intro h q
    rw [List.length_cons] at h
    exact ⟨by rw [up2_k (by omega)]; exact q.1, ih (by omega) q.2⟩
section MOP
variable {S : aI} {G : aL} {Z : aZ} {u : Nat → Int32} {n s r c d e p : Nat} {o : List Nat} {L L0 l : List Int32}
theorem m_top (hZ : Shp Z) (h : MS S u n s r c d o L) (ho : o.length ≤ 400) : call 180 [.ref 72] (S, G, Z) = some (some (.int (tp o)), (S, G, Z)) := by
  refine Eq.trans e180 (Eq.trans (b180_0 hZ.k72) ?_)
  rw [mI_t, h.o1]
  cases o with
  | nil => exact Eq.trans (if_neg (fun z => z rfl)) (Eq.trans b180_7 b180_22)
  | cons x o =>
    rw [List.length_cons] at ho ⊢
    have e1 : S 72 34 - 1 = iN o.length := by rw [h.o1, List.length_cons, iN_pred]
    refine Eq.trans (if_pos (iN_ne0 (by omega) (by omega))) (Eq.trans (b180_11 hZ.k72 hZ.kr72_45 (hZ.ir72_45 (by rw [mI_t, e1]; exact ib_iN (by omega) (by omega)))) ?_)
    rw [hZ.r72_45, mI_t, mI_t, e1, iN_clamp (by omega), show S 94 o.length = iN x from h.o2.1]
    exact b180_22
theorem MS.pop {k : Nat} (h : MS S u n s r c d (k :: o) L) {d' : Nat} : MS (up2 (up2 S 72 34 (iN o.length)) 72 32 (iN d')) u n s r c d' o L := by
  have f : ∀ j, j ≠ 34 → j ≠ 32 → up2 (up2 S 72 34 (iN o.length)) 72 32 (iN d') 72 j = S 72 j := fun j h1 h2 => by rw [up2_k h2, up2_k h1]
  have g : ∀ a, a ≠ 72 → up2 (up2 S 72 34 (iN o.length)) 72 32 (iN d') a = S a := fun a h1 => by rw [up_o h1, up_o h1]
  exact ⟨⟨h.t.1, by rw [f 27 (by decide) (by decide)]; exact h.t.2.1, fun i hi => by rw [g 84 (by decide)]; exact h.t.2.2 i hi⟩, h.r1, by rw [f 28 (by decide) (by decide)]; exact h.p, by rw [f 29 (by decide) (by decide)]; exact h.f, by rw [f 30 (by decide) (by decide)]; exact h.s1, h.s2, by rw [f 33 (by decide) (by decide)]; exact h.c1, up2_s, by rw [up2_k (by decide), up2_s], stk_c (g 94 (by decide)) h.o2.2, ⟨by rw [f 31 (by decide) (by decide)]; exact h.e.1, fun i hi => by rw [g 86 (by decide), g 87 (by decide)]; exact h.e.2 i hi⟩⟩
theorem m_ans_no (hZ : Shp Z) (h : MS S u n s r c d o L) (ho : o.length ≤ 400) {x : Int32} (hx : ¬ tp o = x) : call 182 [.ref 72, .int x] (S, G, Z) = some (none, (S, G, Z)) := by
  refine Eq.trans e182 (Eq.trans (b182_0 hZ.k72) ?_)
  rw [m_top hZ h ho]
  exact Eq.trans b182_4 (Eq.trans (if_pos hx) b182_54)
theorem m_ans_pop (hZ : Shp Z) {k kk : Nat} (h : MS S u n s r c d (k :: o) L) (ho : o.length ≤ 399) (hL : L.length < 300) (hk : (k = 9 ∧ kk = 20) ∨ (k = 10 ∧ kk = 21) ∨ (k = 11 ∧ kk = 22)) (hd : k = 9 → 1 ≤ d ∧ d ≤ 100) : ∃ S' : aI, call 182 [.ref 72, .int (iN k)] (S, G, Z) = call 182 [.ref 72, .int (iN k)] (S', G, Z) ∧ Ft s S S' ∧ MS S' u n s r c (if k = 9 then d - 1 else d) o (L ++ [-(iN kk)]) := by
  have ev : enc (-(iN kk)) = (iN k, 0) := by
    rcases hk with ⟨a, b⟩ | ⟨a, b⟩ | ⟨a, b⟩ <;> subst a b <;> decide +kernel
  obtain ⟨g1, g2⟩ := h.en hL (v := -(iN kk))
  generalize hS1 : enS S s L.length (-(iN kk)) = S1 at g1 g2
  have e34 : S1 72 34 - 1 = iN o.length := by rw [g1.o1, List.length_cons, iN_pred]
  refine ⟨up2 (up2 S1 72 34 (iN o.length)) 72 32 (iN (if k = 9 then d - 1 else d)), ?_, Ft_t g2 (Ft_t (Ft_w (by decide) (by decide)) (Ft_w (by decide) (by decide))), g1.pop⟩
  refine Eq.trans e182 (Eq.trans (b182_0 hZ.k72) ?_)
  rw [m_top hZ h (by rw [List.length_cons]; omega)]
  refine Eq.trans b182_4 (Eq.trans (if_neg (fun z => z rfl)) (Eq.trans (b182_8 hZ.k72) ?_))
  rw [mI_t]
  refine Eq.trans (if_neg (fun z => z h.f)) (Eq.trans (b182_15 hZ.k72) ?_)
  rw [m_entry hZ h hL (v := -(iN kk)) (by rw [ev]) (by rw [ev]), hS1]
  have m34 : mI (S1, G, Z) 72 34 - 1 = iN o.length := e34
  show run 2 182 21 [.ref 72, .int (iN k)] [] (S1, G, Z) = _
  refine Eq.trans (b182_21 hZ.k72) ?_
  rw [m34, wI_t, mI_t, up2_k (by decide), g1.d1]
  have kb : k < 12 := by omega
  by_cases k9 : k = 9
  · obtain ⟨d1, d2⟩ := hd k9
    subst k9
    refine Eq.trans (if_neg (fun z => z rfl)) (Eq.trans b182_42 (Eq.trans (b182_47 hZ.k72) ?_))
    rw [wI_t, if_pos rfl, show (1 : Int32) = iN 1 from rfl, iN_sub (by omega) d1]
    exact (e182).symm
  · refine Eq.trans (if_pos (fun z => k9 ((iN_inj (b := 9) (by omega) (by omega)).mp z))) (Eq.trans b182_46 (Eq.trans (b182_47 hZ.k72) ?_))
    rw [wI_t, if_neg k9, Int32.sub_zero]
    exact (e182).symm
/-- one waits, or none -/
theorem m_ans_b (hZ : Shp Z) {b : Bool} {k kk : Nat} (h : MS S u n s r c d ((if b = true then [k] else []) ++ o) (L0 ++ l)) (ho : o.length ≤ 399) (hL : (L0 ++ l).length < 300) (hk : (k = 10 ∧ kk = 21) ∨ (k = 11 ∧ kk = 22)) (ht : ¬ tp o = iN k) : ∃ S' : aI, call 182 [.ref 72, .int (iN k)] (S, G, Z) = some (none, (S', G, Z)) ∧ Ft s S S' ∧ MS S' u n s r c d o (L0 ++ jb b kk l) := by
  cases b with
  | false => exact ⟨S, m_ans_no hZ h (by show o.length ≤ 400; omega) ht, Ft_r, h⟩
  | true =>
    obtain ⟨S', a1, a2, a3⟩ := m_ans_pop (G := G) hZ (k := k) (kk := kk) (o := o) h ho hL (by omega) (fun z => by omega)
    rw [if_neg (by omega)] at a3
    exact ⟨S', Eq.trans a1 (m_ans_no hZ a3 (by omega) ht), a2, by unfold jb; rw [if_pos rfl, ← List.append_assoc]; exact a3⟩
def opS (S : aI) (m k : Nat) : aI := up2 (up2 S 94 m (iN k)) 72 34 (iN (m + 1))
theorem MS.psh {k : Nat} (h : MS S u n s r c d o L) : MS (opS S o.length k) u n s r c d (k :: o) L ∧ Ft s S (opS S o.length k) := by
  unfold opS
  have f : ∀ j, j ≠ 34 → up2 (up2 S 94 o.length (iN k)) 72 34 (iN (o.length + 1)) 72 j = S 72 j := fun j h1 => by rw [up2_k h1, up2_a (by decide)]
  have g : ∀ a, a ≠ 72 → a ≠ 94 → up2 (up2 S 94 o.length (iN k)) 72 34 (iN (o.length + 1)) a = S a := fun a h1 h2 => by rw [up_o h1, up_o h2]
  refine ⟨⟨⟨h.t.1, by rw [f 27 (by decide)]; exact h.t.2.1, fun i hi => by rw [g 84 (by decide) (by decide)]; exact h.t.2.2 i hi⟩, h.r1, by rw [f 28 (by decide)]; exact h.p, by rw [f 29 (by decide)]; exact h.f, by rw [f 30 (by decide)]; exact h.s1, h.s2, by rw [f 33 (by decide)]; exact h.c1, by rw [f 32 (by decide)]; exact h.d1, by rw [up2_s, List.length_cons], ?_, ⟨by rw [f 31 (by decide)]; exact h.e.1, fun i hi => by rw [g 86 (by decide) (by decide), g 87 (by decide) (by decide)]; exact h.e.2 i hi⟩⟩, fun a h1 _ _ h4 => g a h1 h4, fun j hj => f j (by omega), fun j _ => by rw [g 86 (by decide) (by decide), g 87 (by decide) (by decide)]; exact ⟨rfl, rfl⟩⟩
  refine ⟨by rw [up2_a (by decide), up2_s], stk_c (S := up2 S 94 o.length (iN k)) (up_o (by decide)) (stk_u (Nat.le_refl _) h.o2)⟩
theorem m_push (hZ : Shp Z) {m k : Nat} (h34 : S 72 34 = iN m) (hm : m < 402) : run 2 181 40 [.ref 72, .int (iN k)] [] (S, G, Z) = some (none, (opS S m k, G, Z)) := by
  refine Eq.trans (b181_40 hZ.k72 hZ.kr72_45 (hZ.ir72_45 (by rw [mI_t, h34]; exact ib_iN (by omega) hm))) ?_
  have m34 : mI (S, G, Z) 72 34 = iN m := h34
  rw [hZ.r72_45, m34, iN_clamp (by omega)]
  unfold opS
  have z : up2 S 94 m (iN k) 72 34 + 1 = iN (m + 1) := by rw [up2_a (by decide), h34, iN_succ]
  rw [← z]
  rfl
theorem m_opens (hZ : Shp Z) {k : Nat} (h : MS S u n s r c d o L) (ho : o.length ≤ 400) (hk : k = 10 ∨ k = 11) : call 181 [.ref 72, .int (iN k)] (S, G, Z) = some (none, (opS S o.length k, G, Z)) := by
  refine Eq.trans e181 (Eq.trans b181_0 (Eq.trans (if_neg (fun z => by have := (iN_inj (b := 9) (by omega) (by omega)).mp z; omega)) (Eq.trans b181_6 (Eq.trans (if_pos (fun z => by have := (iN_inj (b := 12) (by omega) (by omega)).mp z; omega)) ?_))))
  exact m_push hZ h.o1 (by omega)
theorem m_opens_d (hZ : Shp Z) {k : Nat} (h : MS S u n s r c d o L) (ho : o.length ≤ 400) (hk : k = 9 ∨ k = 12) (hd : d < 10) : call 181 [.ref 72, .int (iN k)] (S, G, Z) = some (none, (opS (up2 S 72 32 (iN (d + 1))) o.length k, G, Z)) := by
  have st : call 181 [.ref 72, .int (iN k)] (S, G, Z) = run 2 181 12 [.ref 72, .int (iN k)] [] (S, G, Z) := by
    refine Eq.trans e181 (Eq.trans b181_0 ?_)
    rcases hk with z | z
    · subst z; exact if_pos rfl
    · subst z
      exact Eq.trans (if_neg (by decide)) (Eq.trans b181_6 (if_neg (fun z => z rfl)))
  refine Eq.trans st (Eq.trans (b181_12 hZ.k72) ?_)
  rw [mI_t, h.d1]
  refine Eq.trans (if_pos (fun z => by have := (iN_inj (b := 10) (by omega) (by omega)).mp z; omega)) (Eq.trans (b181_30 hZ.k72) ?_)
  rw [mI_t, h.d1, wI_t, iN_succ]
  exact m_push hZ (by rw [up2_k (by decide)]; exact h.o1) (by omega)
theorem m_opens_f (hZ : Shp Z) {k : Nat} (h : MS S u n s r c d o L) (ho : o.length ≤ 400) (hk : k = 9 ∨ k = 12) (hd : d = 10) : ∃ S' : aI, call 181 [.ref 72, .int (iN k)] (S, G, Z) = some (none, (S', G, Z)) ∧ Ft s S S' ∧ MF S' u n s (ft r 2) r := by
  have st : call 181 [.ref 72, .int (iN k)] (S, G, Z) = run 2 181 12 [.ref 72, .int (iN k)] [] (S, G, Z) := by
    refine Eq.trans e181 (Eq.trans b181_0 ?_)
    rcases hk with z | z
    · subst z; exact if_pos rfl
    · subst z
      exact Eq.trans (if_neg (by decide)) (Eq.trans b181_6 (if_neg (fun z => z rfl)))
  have hn := h.t.1
  have hr := h.r1
  obtain ⟨f1, f2, f3⟩ := h.fl (w := 2) (p := r) (by decide) (by omega)
  have q34 : flt S 2 r 72 34 = iN o.length := by rw [f1, up2_k (by decide)]; exact h.o1
  refine ⟨opS (up2 (flt S 2 r) 72 32 (flt S 2 r 72 32 + 1)) o.length k, ?_, ?_, ?_⟩
  · refine Eq.trans st (Eq.trans (b181_12 hZ.k72) ?_)
    rw [mI_t, h.d1, hd]
    refine Eq.trans (if_neg (fun z => z rfl)) (Eq.trans (b181_21 hZ.k72) ?_)
    rw [mI_t, h.p, show (2 : Int32) = iN 2 from rfl, m_fails hZ]
    refine Eq.trans (b181_30 hZ.k72) ?_
    rw [mI_t, wI_t]
    exact m_push hZ (by rw [up2_k (by decide)]; exact q34) (by omega)
  · unfold opS
    refine Ft_t f3 (Ft_t (Ft_w (j := 32) (v := flt S 2 r 72 32 + 1) (by decide) (by decide)) (Ft_t ?_ (Ft_w (j := 34) (by decide) (by decide))))
    exact ⟨fun a _ _ _ x => up_o x, fun j _ => up2_a (by decide), fun j _ => ⟨up2_a (by decide), up2_a (by decide)⟩⟩
  · unfold opS
    exact ((f2.w (by decide)).oth (by decide) (by decide)).w (by decide)
end MOP
