/-! THE MODEL'S READER: a value -/
def Ft (s : Nat) (S S' : aI) : Prop := (∀ a, a ≠ 72 → a ≠ 86 → a ≠ 87 → a ≠ 94 → S' a = S a) ∧ (∀ j, j < 28 ∨ 34 < j → S' 72 j = S 72 j) ∧ ∀ j, j / 300 ≠ s → S' 86 j = S 86 j ∧ S' 87 j = S 87 j
theorem Ft_r {s : Nat} {S : aI} : Ft s S S := ⟨fun _ _ _ _ _ => rfl, fun _ _ => rfl, fun _ _ => ⟨rfl, rfl⟩⟩
theorem Ft_t {s : Nat} {S S1 S2 : aI} (h1 : Ft s S S1) (h2 : Ft s S1 S2) : Ft s S S2 := ⟨fun a x y z w => by rw [h2.1 a x y z w, h1.1 a x y z w], fun j hj => by rw [h2.2.1 j hj, h1.2.1 j hj], fun j hj => by rw [(h2.2.2 j hj).1, (h2.2.2 j hj).2, (h1.2.2 j hj).1, (h1.2.2 j hj).2]; exact ⟨rfl, rfl⟩⟩
theorem Ft_w {s : Nat} {S : aI} {j : Nat} {v : Int32} (h1 : 28 ≤ j) (h2 : j ≤ 34) : Ft s S (up2 S 72 j v) := ⟨fun a x _ _ _ => funext fun q => up2_a x, fun i hi => up2_k (by omega), fun i _ => ⟨up2_a (by decide), up2_a (by decide)⟩⟩
/-- a step as the model keeps it -/
def enc (x : Int32) : Int32 × Int32 := if x < 0 then (if 23 ≤ (-x).toNatClampNeg then (1, iN ((-x).toNatClampNeg - 23)) else if 20 ≤ (-x).toNatClampNeg then (iN ((-x).toNatClampNeg - 11), 0) else (iN ((-x).toNatClampNeg - 5), 0)) else (0, x)
def EN (S : aI) (s : Nat) (L : List Int32) : Prop := S 72 31 = iN L.length ∧ ∀ i, i < L.length → S 86 (300 * s + i) = (enc (L.getD i 0)).1 ∧ S 87 (300 * s + i) = (enc (L.getD i 0)).2
def stk (S : aI) : List Nat → Prop
  | [] => True
  | x :: o => S 94 o.length = iN x ∧ stk S o
theorem stk_c {S S' : aI} (h : S' 94 = S 94) : ∀ {o : List Nat}, stk S o → stk S' o := by
  intro o
  induction o with
  | nil => exact fun _ => trivial
  | cons x o ih => exact fun q => ⟨by rw [h]; exact q.1, ih q.2⟩
def MS (S : aI) (u : Nat → Int32) (n s r c d : Nat) (o : List Nat) (L : List Int32) : Prop := MT S u n ∧ r ≤ n ∧ S 72 28 = iN r ∧ S 72 29 = 0 ∧ S 72 30 = iN s ∧ s < 20 ∧ S 72 33 = iN c ∧ S 72 32 = iN d ∧ S 72 34 = iN o.length ∧ stk S o ∧ EN S s L
theorem MS.t {S : aI} {u : Nat → Int32} {n s r c d : Nat} {o : List Nat} {L : List Int32} (h : MS S u n s r c d o L) : MT S u n := h.1
theorem MS.r1 {S : aI} {u : Nat → Int32} {n s r c d : Nat} {o : List Nat} {L : List Int32} (h : MS S u n s r c d o L) : r ≤ n := h.2.1
theorem MS.p {S : aI} {u : Nat → Int32} {n s r c d : Nat} {o : List Nat} {L : List Int32} (h : MS S u n s r c d o L) : S 72 28 = iN r := h.2.2.1
theorem MS.f {S : aI} {u : Nat → Int32} {n s r c d : Nat} {o : List Nat} {L : List Int32} (h : MS S u n s r c d o L) : S 72 29 = 0 := h.2.2.2.1
theorem MS.s1 {S : aI} {u : Nat → Int32} {n s r c d : Nat} {o : List Nat} {L : List Int32} (h : MS S u n s r c d o L) : S 72 30 = iN s := h.2.2.2.2.1
theorem MS.s2 {S : aI} {u : Nat → Int32} {n s r c d : Nat} {o : List Nat} {L : List Int32} (h : MS S u n s r c d o L) : s < 20 := h.2.2.2.2.2.1
theorem MS.c1 {S : aI} {u : Nat → Int32} {n s r c d : Nat} {o : List Nat} {L : List Int32} (h : MS S u n s r c d o L) : S 72 33 = iN c := h.2.2.2.2.2.2.1
theorem MS.d1 {S : aI} {u : Nat → Int32} {n s r c d : Nat} {o : List Nat} {L : List Int32} (h : MS S u n s r c d o L) : S 72 32 = iN d := h.2.2.2.2.2.2.2.1
theorem MS.o1 {S : aI} {u : Nat → Int32} {n s r c d : Nat} {o : List Nat} {L : List Int32} (h : MS S u n s r c d o L) : S 72 34 = iN o.length := h.2.2.2.2.2.2.2.2.1
theorem MS.o2 {S : aI} {u : Nat → Int32} {n s r c d : Nat} {o : List Nat} {L : List Int32} (h : MS S u n s r c d o L) : stk S o := h.2.2.2.2.2.2.2.2.2.1
theorem MS.e {S : aI} {u : Nat → Int32} {n s r c d : Nat} {o : List Nat} {L : List Int32} (h : MS S u n s r c d o L) : EN S s L := h.2.2.2.2.2.2.2.2.2.2
def MF (S : aI) (u : Nat → Int32) (n s e r : Nat) : Prop := MT S u n ∧ S 72 28 = iN r ∧ S 72 29 = iN e ∧ 1 ≤ e ∧ e < 100000 ∧ S 72 30 = iN s ∧ s < 20
theorem MF.t {S : aI} {u : Nat → Int32} {n s e r : Nat} (h : MF S u n s e r) : MT S u n := h.1
theorem MF.p {S : aI} {u : Nat → Int32} {n s e r : Nat} (h : MF S u n s e r) : S 72 28 = iN r := h.2.1
theorem MF.f {S : aI} {u : Nat → Int32} {n s e r : Nat} (h : MF S u n s e r) : S 72 29 = iN e := h.2.2.1
theorem MF.e1 {S : aI} {u : Nat → Int32} {n s e r : Nat} (h : MF S u n s e r) : 1 ≤ e := h.2.2.2.1
theorem MF.e2 {S : aI} {u : Nat → Int32} {n s e r : Nat} (h : MF S u n s e r) : e < 100000 := h.2.2.2.2.1
theorem MF.s1 {S : aI} {u : Nat → Int32} {n s e r : Nat} (h : MF S u n s e r) : S 72 30 = iN s := h.2.2.2.2.2.1
theorem MF.s2 {S : aI} {u : Nat → Int32} {n s e r : Nat} (h : MF S u n s e r) : s < 20 := h.2.2.2.2.2.2
def flt (S : aI) (w p : Nat) : aI := if S 72 29 = 0 then up2 S 72 29 (iN (ft p w)) else S
def ctd (S : aI) (p : Nat) : aI := up2 (if S 72 33 = 60 then flt S 3 p else S) 72 33 (S 72 33 + 1)
theorem iN_ne0 {e : Nat} (h : 1 ≤ e) (h2 : e < 2147483648) : ¬ iN e = 0 := fun z => by have := (iN_inj (b := 0) h2 (by omega)).mp z; omega
section MVL
variable {S : aI} {G : aL} {Z : aZ} {u : Nat → Int32} {n s r c d e p : Nat} {o : List Nat} {L : List Int32}
theorem m_fails (hZ : Shp Z) {w : Nat} : call 168 [.ref 72, .int (iN w), .int (iN p)] (S, G, Z) = some (none, (flt S w p, G, Z)) := by
  refine Eq.trans e168 (Eq.trans (b168_0 hZ.k72) ?_)
  rw [mI_t]
  unfold flt
  by_cases h : S 72 29 = 0
  · rw [if_pos h]
    refine Eq.trans (if_neg (fun z => z h)) (Eq.trans b168_8 (Eq.trans (b168_23 hZ.k72) ?_))
    rw [wI_t]
    have : (1 : Int32) + 8 * iN p + iN w = iN (ft p w) := by
      unfold ft iN
      rw [Int32.ofNat_add, Int32.ofNat_add, Int32.ofNat_mul]
      rfl
    rw [this]
  · rw [if_neg h]
    refine Eq.trans (if_pos h) (Eq.trans (b168_19 hZ.k72) (Eq.trans (b168_23 hZ.k72) ?_))
    rw [wI_t, mI_t, up2_id]
theorem MS.w (h : MS S u n s r c d o L) {S' : aI} {r' c' d' : Nat} (h84 : S' 84 = S 84) (h94 : S' 94 = S 94) (h86 : S' 86 = S 86) (h87 : S' 87 = S 87) (q27 : S' 72 27 = S 72 27) (q28 : S' 72 28 = iN r') (hr : r' ≤ n) (q29 : S' 72 29 = 0) (q30 : S' 72 30 = S 72 30) (q31 : S' 72 31 = S 72 31) (q33 : S' 72 33 = iN c') (q32 : S' 72 32 = iN d') (q34 : S' 72 34 = S 72 34) : MS S' u n s r' c' d' o L := ⟨⟨h.t.1, by rw [q27]; exact h.t.2.1, fun i hi => by rw [h84]; exact h.t.2.2 i hi⟩, hr, q28, q29, by rw [q30]; exact h.s1, h.s2, q33, q32, by rw [q34]; exact h.o1, stk_c h94 h.o2, ⟨by rw [q31]; exact h.e.1, fun i hi => by rw [h86, h87]; exact h.e.2 i hi⟩⟩
theorem up_o {a b j : Nat} {v : Int32} (h : b ≠ a) : up2 S a j v b = S b := funext fun _ => up2_a h
theorem MS.at (h : MS S u n s r c d o L) {r' : Nat} (hr : r' ≤ n) : MS (up2 S 72 28 (iN r')) u n s r' c d o L := h.w (up_o (by decide)) (up_o (by decide)) (up_o (by decide)) (up_o (by decide)) (up2_k (by decide)) up2_s hr (by rw [up2_k (by decide)]; exact h.f) (up2_k (by decide)) (up2_k (by decide)) (by rw [up2_k (by decide)]; exact h.c1) (by rw [up2_k (by decide)]; exact h.d1) (up2_k (by decide))
theorem MS.ct (h : MS S u n s r c d o L) {c' : Nat} : MS (up2 S 72 33 (iN c')) u n s r c' d o L := h.w (up_o (by decide)) (up_o (by decide)) (up_o (by decide)) (up_o (by decide)) (up2_k (by decide)) (by rw [up2_k (by decide)]; exact h.p) h.r1 (by rw [up2_k (by decide)]; exact h.f) (up2_k (by decide)) (up2_k (by decide)) up2_s (by rw [up2_k (by decide)]; exact h.d1) (up2_k (by decide))
theorem MS.dp (h : MS S u n s r c d o L) {d' : Nat} : MS (up2 S 72 32 (iN d')) u n s r c d' o L := h.w (up_o (by decide)) (up_o (by decide)) (up_o (by decide)) (up_o (by decide)) (up2_k (by decide)) (by rw [up2_k (by decide)]; exact h.p) h.r1 (by rw [up2_k (by decide)]; exact h.f) (up2_k (by decide)) (up2_k (by decide)) (by rw [up2_k (by decide)]; exact h.c1) up2_s (up2_k (by decide))
theorem MF.w (h : MF S u n s e r) {j : Nat} {v : Int32} (h1 : 31 ≤ j) : MF (up2 S 72 j v) u n s e r := ⟨MT_u h.t (by omega), by rw [up2_k (by omega)]; exact h.p, by rw [up2_k (by omega)]; exact h.f, h.e1, h.e2, by rw [up2_k (by omega)]; exact h.s1, h.s2⟩
theorem MF.oth (h : MF S u n s e r) {a j : Nat} {v : Int32} (h1 : a ≠ 72) (h2 : a ≠ 84) : MF (up2 S a j v) u n s e r := ⟨⟨h.t.1, by rw [up2_a (Ne.symm h1)]; exact h.t.2.1, fun i hi => by rw [up2_a (Ne.symm h2)]; exact h.t.2.2 i hi⟩, by rw [up2_a (Ne.symm h1)]; exact h.p, by rw [up2_a (Ne.symm h1)]; exact h.f, h.e1, h.e2, by rw [up2_a (Ne.symm h1)]; exact h.s1, h.s2⟩
theorem MF.at (h : MF S u n s e r) {r' : Nat} : MF (up2 S 72 28 (iN r')) u n s e r' := ⟨MT_u h.t (by omega), up2_s, by rw [up2_k (by omega)]; exact h.f, h.e1, h.e2, by rw [up2_k (by omega)]; exact h.s1, h.s2⟩
theorem MF.ne (h : MF S u n s e r) : ¬ S 72 29 = 0 := by
  have := h.e1
  have := h.e2
  rw [h.f]; exact iN_ne0 (by omega) (by omega)
theorem MF.fl (h : MF S u n s e r) {w : Nat} : flt S w p = S := if_neg h.ne
/-- a fault found -/
theorem MS.fl (h : MS S u n s r c d o L) {w : Nat} (hw : w ≤ 4) (hp : p ≤ 1000) : flt S w p = up2 S 72 29 (iN (ft p w)) ∧ MF (flt S w p) u n s (ft p w) r ∧ Ft s S (flt S w p) := by
  have e0 : flt S w p = up2 S 72 29 (iN (ft p w)) := if_pos h.f
  rw [e0]
  refine ⟨rfl, ⟨MT_u h.t (by decide), ?_, up2_s, ?_, ?_, ?_, h.s2⟩, Ft_w (by decide) (by decide)⟩
  · rw [up2_k (by decide)]; exact h.p
  · unfold ft; omega
  · unfold ft; omega
  · rw [up2_k (by decide)]; exact h.s1
theorem m_counted (hZ : Shp Z) : call 175 [.ref 72, .int (iN p)] (S, G, Z) = some (none, (ctd S p, G, Z)) := by
  refine Eq.trans e175 (Eq.trans (b175_0 hZ.k72) ?_)
  rw [mI_t]
  unfold ctd
  by_cases h : S 72 33 = 60
  · rw [if_pos h]
    refine Eq.trans (if_neg (fun z => z h)) (Eq.trans (b175_9 hZ.k72) ?_)
    rw [show (3 : Int32) = iN 3 from rfl, m_fails hZ]
    refine Eq.trans (b175_15 hZ.k72) ?_
    rw [wI_t, mI_t]
    have : flt S 3 p 72 33 = S 72 33 := by
      unfold flt
      split
      · exact up2_k (by decide)
      · rfl
    rw [this]
  · rw [if_neg h]
    refine Eq.trans (if_pos h) (Eq.trans (b175_15 hZ.k72) ?_)
    rw [wI_t, mI_t]
theorem MF.ct (h : MF S u n s e r) : MF (ctd S p) u n s e r ∧ Ft s S (ctd S p) := by
  unfold ctd
  rw [h.fl, ite_self]
  exact ⟨h.w (by decide), Ft_w (by decide) (by decide)⟩
theorem m_entry_f (hZ : Shp Z) (h : MF S u n s e r) {x y : Int32} : call 174 [.ref 72, .int x, .int y] (S, G, Z) = some (none, (S, G, Z)) := by
  refine Eq.trans e174 (Eq.trans (b174_0 hZ.k72) ?_)
  rw [mI_t]
  exact Eq.trans (if_pos h.ne) b174_55
def enS (S : aI) (s m : Nat) (v : Int32) : aI := up2 (up2 (up2 S 86 (300 * s + m) (enc v).1) 87 (300 * s + m) (enc v).2) 72 31 (iN (m + 1))
theorem m_entry (hZ : Shp Z) (h : MS S u n s r c d o L) (hL : L.length < 300) {v x y : Int32} (hx : x = (enc v).1) (hy : y = (enc v).2) : call 174 [.ref 72, .int x, .int y] (S, G, Z) = some (none, (enS S s L.length v, G, Z)) := by
  have hs := h.s2
  have e300 : (300 : Int32) * iN s + iN L.length = iN (300 * s + L.length) := by
    rw [show (300 : Int32) = iN 300 from rfl, iN_mul (by omega) (by omega) (by omega), iN_add]
  have hc : (iN (300 * s + L.length)).toNatClampNeg = 300 * s + L.length := iN_clamp (by omega)
  have hib : ib (iN (300 * s + L.length)) 6000 := ib_iN (by omega) (by omega)
  refine Eq.trans e174 (Eq.trans (b174_0 hZ.k72) ?_)
  rw [mI_t]
  have m30 : mI (S, G, Z) 72 30 = iN s := h.s1
  have m31 : mI (S, G, Z) 72 31 = iN L.length := h.e.1
  have g : ∀ a k v, (a = 86 ∨ a = 87) → mI (wI (S, G, Z) a k v) 72 30 = iN s ∧ mI (wI (S, G, Z) a k v) 72 31 = iN L.length := fun a k v ha => by
    rw [wI_t, mI_t, mI_t, up2_a (by omega), up2_a (by omega)]
    exact ⟨m30, m31⟩
  refine Eq.trans (if_neg (fun z => z h.f)) (Eq.trans (b174_7 hZ.k72 hZ.kr72_37 (hZ.ir72_37 (by rw [m30, m31, e300]; exact hib)) hZ.kr72_38 (hZ.ir72_38 (by rw [hZ.r72_37, (g 86 _ _ (Or.inl rfl)).1, (g 86 _ _ (Or.inl rfl)).2, e300]; exact hib))) ?_)
  rw [hZ.r72_37, hZ.r72_38, m30, m31, e300, hc, (g 86 _ _ (Or.inl rfl)).1, (g 86 _ _ (Or.inl rfl)).2, e300, hc]
  refine Eq.trans b174_55 ?_
  unfold enS
  have z31 : up2 (up2 S 86 (300 * s + L.length) x) 87 (300 * s + L.length) y 72 31 + 1 = iN (L.length + 1) := by
    rw [up2_a (by decide), up2_a (by decide), h.e.1, iN_succ]
  rw [← z31, hx, hy]
  rfl
theorem MS.en (h : MS S u n s r c d o L) (hL : L.length < 300) {v : Int32} : MS (enS S s L.length v) u n s r c d o (L ++ [v]) ∧ Ft s S (enS S s L.length v) := by
  have f : ∀ j, j ≠ 31 → enS S s L.length v 72 j = S 72 j := fun j hj => by
    unfold enS
    rw [up2_k hj, up2_a (by decide), up2_a (by decide)]
  have g : ∀ a, a ≠ 72 → a ≠ 86 → a ≠ 87 → enS S s L.length v a = S a := fun a h1 h2 h3 => by
    unfold enS
    rw [up_o h1, up_o h3, up_o h2]
  have e31 : enS S s L.length v 72 31 = iN (L.length + 1) := by unfold enS; rw [up2_s]
  have e86 : ∀ j, enS S s L.length v 86 j = if j = 300 * s + L.length then (enc v).1 else S 86 j := fun j => by
    unfold enS
    rw [up2_a (by decide), up2_a (by decide), up2_e, if_pos rfl]
  have e87 : ∀ j, enS S s L.length v 87 j = if j = 300 * s + L.length then (enc v).2 else S 87 j := fun j => by
    unfold enS
    rw [up2_a (by decide), up2_e, if_pos rfl, up2_a (by decide)]
  refine ⟨⟨⟨h.t.1, by rw [f 27 (by decide)]; exact h.t.2.1, fun i hi => by rw [g 84 (by decide) (by decide) (by decide)]; exact h.t.2.2 i hi⟩, h.r1, by rw [f 28 (by decide)]; exact h.p, by rw [f 29 (by decide)]; exact h.f, by rw [f 30 (by decide)]; exact h.s1, h.s2, by rw [f 33 (by decide)]; exact h.c1, by rw [f 32 (by decide)]; exact h.d1, by rw [f 34 (by decide)]; exact h.o1, stk_c (g 94 (by decide) (by decide) (by decide)) h.o2, ⟨by rw [e31, List.length_append]; rfl, fun i hi => ?_⟩⟩, fun a x y z _ => g a x y z, fun j hj => f j (by omega), fun j hj => ?_⟩
  · rw [List.length_append] at hi
    have hi' : i < L.length + 1 := hi
    rw [e86, e87]
    by_cases q : i = L.length
    · subst q
      rw [if_pos rfl, if_pos rfl]
      have eg : (L ++ [v]).getD L.length 0 = v := by simp
      rw [eg]
      exact ⟨rfl, rfl⟩
    · rw [if_neg (by omega), if_neg (by omega)]
      have hlt : i < L.length := by omega
      have eg : (L ++ [v]).getD i 0 = L.getD i 0 := by simp [List.getD_eq_getElem?_getD, List.getElem?_append_left hlt]
      rw [eg]
      exact h.e.2 i hlt
  · rw [e86, e87, if_neg (by omega), if_neg (by omega)]
    exact ⟨rfl, rfl⟩
end MVL
