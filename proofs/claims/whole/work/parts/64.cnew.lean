/-! NEW CELLS: a State is made -/
def nwZ (Z : aZ) (ty n sz : Nat) : aZ := (cl2 Z.1 (zX Z + 32) 0, (fun a => if a = zX Z + 32 then (ty, n) else Z.2.1 a), zX Z + 1, zU Z + sz)
def wrZ (Z : aZ) (a k v : Nat) : aZ := (up2 Z.1 a k v, Z.2)
theorem wN_t {I : aI} {G : aL} {Z : aZ} {ty n sz : Nat} : wN (I, G, Z) ty n sz = (cl2 I (zX Z + 32) 0, cl2 G (zX Z + 32) 0, nwZ Z ty n sz) := rfl
theorem wR_t {I : aI} {G : aL} {Z : aZ} {a k v : Nat} : wR (I, G, Z) a k v = (I, G, wrZ Z a k v) := rfl
theorem zX_n {Z : aZ} {ty n sz : Nat} : zX (nwZ Z ty n sz) = zX Z + 1 := rfl
theorem zU_n {Z : aZ} {ty n sz : Nat} : zU (nwZ Z ty n sz) = zU Z + sz := rfl
theorem zX_w {Z : aZ} {a k v : Nat} : zX (wrZ Z a k v) = zX Z := rfl
theorem zU_w {Z : aZ} {a k v : Nat} : zU (wrZ Z a k v) = zU Z := rfl
theorem zK_n {Z : aZ} {ty n sz a : Nat} : zK (nwZ Z ty n sz) a = if a = zX Z + 32 then ty else zK Z a := by
  unfold zK nwZ
  by_cases h : a = zX Z + 32
  · simp only [if_pos h]
  · simp only [if_neg h]
theorem zN_n {Z : aZ} {ty n sz a : Nat} : zN (nwZ Z ty n sz) a = if a = zX Z + 32 then n else zN Z a := by
  unfold zN nwZ
  by_cases h : a = zX Z + 32
  · simp only [if_pos h]
  · simp only [if_neg h]
theorem zK_w {Z : aZ} {a k v b : Nat} : zK (wrZ Z a k v) b = zK Z b := rfl
theorem zN_w {Z : aZ} {a k v b : Nat} : zN (wrZ Z a k v) b = zN Z b := rfl
theorem zR_n {Z : aZ} {ty n sz a k : Nat} : zR (nwZ Z ty n sz) a k = if a = zX Z + 32 then 0 else zR Z a k := by
  unfold zR nwZ cl2
  by_cases h : a = zX Z + 32
  · simp only [if_pos h]
    first | done | rfl
  · simp only [if_neg h]
theorem zR_w {Z : aZ} {a k v b j : Nat} : zR (wrZ Z a k v) b j = if b = a then (if j = k then v else zR Z b j) else zR Z b j := rfl
theorem cl2_e {I : aI} {a b k : Nat} : cl2 I a 0 b k = if b = a then 0 else I b k := by
  unfold cl2
  by_cases h : b = a
  · simp only [if_pos h]
    first | done | rfl
  · simp only [if_neg h]
abbrev aA : Type := Nat × Nat × Nat × Nat
/-- cells made one by one, each put into a field of t -/
def al (M : aM) (t : Nat) : List aA → aM
  | [] => M
  | (k, ty, n, sz) :: l => al (wR (wN M ty n sz) t k (mX M + 32)) t l
def alZ (Z : aZ) (t : Nat) : List aA → aZ
  | [] => Z
  | (k, ty, n, sz) :: l => alZ (wrZ (nwZ Z ty n sz) t k (zX Z + 32)) t l
def alI (I : aI) (x : Nat) : Nat → aI
  | 0 => I
  | n + 1 => alI (cl2 I (x + 32) 0) (x + 1) n
def alG (G : aL) (x : Nat) : Nat → aL
  | 0 => G
  | n + 1 => alG (cl2 G (x + 32) 0) (x + 1) n
theorem al_t : ∀ (l : List aA) (I : aI) (G : aL) (Z : aZ) (t : Nat), al (I, G, Z) t l = (alI I (zX Z) l.length, alG G (zX Z) l.length, alZ Z t l) := by
  intro l
  induction l with
  | nil => intro I G Z t; rfl
  | cons e l ih =>
    intro I G Z t
    obtain ⟨k, ty, n, sz⟩ := e
    show al (cl2 I (zX Z + 32) 0, cl2 G (zX Z + 32) 0, wrZ (nwZ Z ty n sz) t k (zX Z + 32)) t l = _
    rw [ih]
    rfl
theorem alI_e : ∀ (n : Nat) (I : aI) (x a k : Nat), alI I x n a k = if x + 32 ≤ a ∧ a < x + 32 + n then 0 else I a k := by
  intro n
  induction n with
  | zero => intro I x a k; rw [if_neg (by omega)]; rfl
  | succ n ih =>
    intro I x a k
    rw [alI, ih, cl2_e]
    by_cases h : a = x + 32
    · rw [if_neg (by omega), if_pos h, if_pos (by omega)]
    · rw [if_neg h]
      by_cases h2 : x + 32 ≤ a ∧ a < x + 32 + (n + 1)
      · rw [if_pos h2, if_pos (by omega)]
      · rw [if_neg h2, if_neg (by omega)]
theorem alZ_X : ∀ (l : List aA) (Z : aZ) (t : Nat), zX (alZ Z t l) = zX Z + l.length := by
  intro l
  induction l with
  | nil => intro Z t; rfl
  | cons e l ih =>
    intro Z t
    obtain ⟨k, ty, n, sz⟩ := e
    rw [alZ, ih, zX_w, zX_n, List.length_cons]
    omega
def szs : List aA → Nat
  | [] => 0
  | (_, _, _, sz) :: l => sz + szs l
theorem alZ_U : ∀ (l : List aA) (Z : aZ) (t : Nat), zU (alZ Z t l) = zU Z + szs l := by
  intro l
  induction l with
  | nil => intro Z t; rfl
  | cons e l ih =>
    intro Z t
    obtain ⟨k, ty, n, sz⟩ := e
    rw [alZ, ih, zU_w, zU_n, szs]
    omega
theorem alZ_K : ∀ (l : List aA) (Z : aZ) (t a : Nat), zK (alZ Z t l) a = (if zX Z + 32 ≤ a ∧ a < zX Z + 32 + l.length then (l.getD (a - (zX Z + 32)) (0, 0, 0, 0)).2.1 else zK Z a) ∧ zN (alZ Z t l) a = (if zX Z + 32 ≤ a ∧ a < zX Z + 32 + l.length then (l.getD (a - (zX Z + 32)) (0, 0, 0, 0)).2.2.1 else zN Z a) := by
  intro l
  induction l with
  | nil =>
    intro Z t a
    rw [List.length_nil, if_neg (by omega), if_neg (by omega)]
    exact ⟨rfl, rfl⟩
  | cons e l ih =>
    intro Z t a
    obtain ⟨k, ty, n, sz⟩ := e
    rw [alZ, (ih _ t a).1, (ih _ t a).2, zX_w, zX_n, zK_w, zK_n, zN_w, zN_n, List.length_cons]
    by_cases h : a = zX Z + 32
    · have q1 : ¬ (zX Z + 1 + 32 ≤ a ∧ a < zX Z + 1 + 32 + l.length) := by omega
      have q2 : zX Z + 32 ≤ a ∧ a < zX Z + 32 + (l.length + 1) := by omega
      rw [if_neg q1, if_neg q1, if_pos h, if_pos h, if_pos q2, if_pos q2, show a - (zX Z + 32) = 0 by omega]
      exact ⟨rfl, rfl⟩
    · rw [if_neg h, if_neg h]
      by_cases h2 : zX Z + 32 ≤ a ∧ a < zX Z + 32 + (l.length + 1)
      · have q1 : zX Z + 1 + 32 ≤ a ∧ a < zX Z + 1 + 32 + l.length := by omega
        rw [if_pos q1, if_pos q1, if_pos h2, if_pos h2, show a - (zX Z + 32) = (a - (zX Z + 1 + 32)) + 1 by omega]
        exact ⟨rfl, rfl⟩
      · have q1 : ¬ (zX Z + 1 + 32 ≤ a ∧ a < zX Z + 1 + 32 + l.length) := by omega
        rw [if_neg q1, if_neg q1, if_neg h2, if_neg h2]
        exact ⟨rfl, rfl⟩
theorem alZ_Ro : ∀ (l : List aA) (Z : aZ) (t a k : Nat), a ≠ t → zR (alZ Z t l) a k = if zX Z + 32 ≤ a ∧ a < zX Z + 32 + l.length then 0 else zR Z a k := by
  intro l
  induction l with
  | nil => intro Z t a k _; rw [List.length_nil, if_neg (by omega)]; rfl
  | cons e l ih =>
    intro Z t a k h
    obtain ⟨k', ty, n, sz⟩ := e
    rw [alZ, ih _ t a k h, zX_w, zX_n, zR_w, if_neg h, zR_n, List.length_cons]
    by_cases h1 : a = zX Z + 32
    · rw [if_neg (by omega), if_pos h1, if_pos (by omega)]
    · rw [if_neg h1]
      by_cases h2 : zX Z + 32 ≤ a ∧ a < zX Z + 32 + (l.length + 1)
      · rw [if_pos (by omega), if_pos h2]
      · rw [if_neg (by omega), if_neg h2]
theorem alZ_Rn : ∀ (l : List aA) (Z : aZ) (t k : Nat), t < zX Z + 32 → k ∉ l.map Prod.fst → zR (alZ Z t l) t k = zR Z t k := by
  intro l
  induction l with
  | nil => intro Z t k _ _; rfl
  | cons e l ih =>
    intro Z t k ht hk
    obtain ⟨k', ty, n, sz⟩ := e
    rw [List.map_cons, List.mem_cons] at hk
    rw [alZ, ih _ t k (by rw [zX_w, zX_n]; omega) (fun z => hk (Or.inr z)), zR_w, if_pos rfl, if_neg (fun z => hk (Or.inl z)), zR_n, if_neg (by omega)]
theorem alZ_Rt : ∀ (l : List aA) (Z : aZ) (t j : Nat), t < zX Z + 32 → (l.map Prod.fst).Nodup → j < l.length → zR (alZ Z t l) t (l.getD j (0, 0, 0, 0)).1 = zX Z + 32 + j := by
  intro l
  induction l with
  | nil => intro Z t j _ _ h; exact absurd h (Nat.not_lt_zero _)
  | cons e l ih =>
    intro Z t j ht hn hj
    obtain ⟨k', ty, n, sz⟩ := e
    rw [List.map_cons, List.nodup_cons] at hn
    rw [alZ]
    cases j with
    | zero =>
      show zR (alZ (wrZ (nwZ Z ty n sz) t k' (zX Z + 32)) t l) t k' = _
      rw [alZ_Rn l _ t k' (by rw [zX_w, zX_n]; omega) hn.1, zR_w, if_pos rfl, if_pos rfl]
    | succ j =>
      rw [List.length_cons] at hj
      have := ih (wrZ (nwZ Z ty n sz) t k' (zX Z + 32)) t j (by rw [zX_w, zX_n]; omega) hn.2 (by omega)
      rw [zX_w, zX_n] at this
      show zR (alZ (wrZ (nwZ Z ty n sz) t k' (zX Z + 32)) t l) t (l.getD j (0, 0, 0, 0)).1 = _
      rw [this]
      omega
theorem mK_old {I : aI} {G : aL} {Z : aZ} {ty n sz a : Nat} (h : a < zX Z + 32) : mK (wN (I, G, Z) ty n sz) a = zK Z a := by
  rw [wN_t, mK_t, zK_n, if_neg (by omega)]
theorem mK_al {I : aI} {G : aL} {Z : aZ} {a t ty n sz : Nat} (l : List aA) (h : a < zX Z + 32) : mK (wN (al (I, G, Z) t l) ty n sz) a = zK Z a := by
  rw [al_t, wN_t, mK_t, zK_n, alZ_X, if_neg (by omega), (alZ_K l Z t a).1, if_neg (by omega)]
theorem mK_al0 {I : aI} {G : aL} {Z : aZ} {a t : Nat} (l : List aA) (h : a < zX Z + 32) : mK (al (I, G, Z) t l) a = zK Z a := by
  rw [al_t, mK_t, (alZ_K l Z t a).1, if_neg (by omega)]
/-- a row filled with -1 -/
def fil (J : aI) (a n : Nat) : aI := fun b k => if b = a ∧ k < n then -1 else J b k
theorem fil_s {J : aI} {a i : Nat} : up2 (fil J a i) a i (-1) = fil J a (i + 1) := by
  funext b k
  simp only [up2_e, fil]
  grind
theorem fil_0 {J : aI} {a : Nat} : fil J a 0 = J := by
  funext b k
  unfold fil
  rw [if_neg (by omega)]
section CN
variable {I : aI} {G : aL} {Z : aZ}
def lWit : List aA := [(0, 12, 300, 300), (1, 12, 300, 300), (2, 12, 300, 300)]
theorem new_wit {t : Nat} (ht : t < zX Z + 32) (hk : zK Z t = 9) : call 93 [.ref t] (I, G, Z) = some (none, al (I, G, Z) t lWit) := by
  refine Eq.trans e93 (Eq.trans (b93_0 hk (by rw [mK_old ht]; exact hk)) ?_)
  exact Eq.trans (b93_19 (M := wN (al (I, G, Z) t [(0, 12, 300, 300)]) 12 300 300) (by rw [mK_al _ ht]; exact hk) (mK_al (ty := 12) (n := 300) (sz := 300) (t := t) [(0, 12, 300, 300), (1, 12, 300, 300)] ht ▸ hk)) b93_31
def lStr : List aA := [(0, 12, 144, 144), (1, 12, 144, 144), (2, 12, 144, 144), (3, 12, 144, 144), (4, 12, 144, 144)]
theorem new_str {t : Nat} (ht : t < zX Z + 32) (hk : zK Z t = 5) : call 36 [.ref t] (I, G, Z) = some (none, (fil (alI I (zX Z) 5) (zX Z + 35) 144, alG G (zX Z) 5, alZ Z t lStr)) := by
  refine Eq.trans e36 (Eq.trans (b36_0 hk (by rw [mK_old ht]; exact hk)) ?_)
  refine Eq.trans (b36_19 (M := wN (al (I, G, Z) t [(0, 12, 144, 144)]) 12 144 144) (by rw [mK_al _ ht]; exact hk) (mK_al (ty := 12) (n := 144) (sz := 144) (t := t) [(0, 12, 144, 144), (1, 12, 144, 144)] ht ▸ hk)) ?_
  refine Eq.trans (b36_31 (M := al (I, G, Z) t [(0, 12, 144, 144), (1, 12, 144, 144), (2, 12, 144, 144)]) (by rw [mK_al _ ht]; exact hk)) ?_
  refine Eq.trans (b36_46 (M := wN (al (I, G, Z) t [(0, 12, 144, 144), (1, 12, 144, 144), (2, 12, 144, 144), (3, 12, 144, 144)]) 12 144 144) (by rw [mK_al _ ht]; exact hk)) ?_
  show run 1 36 51 [.ref t, .int 0] [] (al (I, G, Z) t lStr) = _
  rw [al_t]
  show run 1 36 51 [.ref t, .int 0] [] (alI I (zX Z) 5, alG G (zX Z) 5, alZ Z t lStr) = _
  have hk' : zK (alZ Z t lStr) t = 5 := by rw [(alZ_K lStr Z t t).1, if_neg (by omega)]; exact hk
  have r3 : zR (alZ Z t lStr) t 3 = zX Z + 35 := alZ_Rt lStr Z t 3 ht (by decide) (by decide)
  have k35 : zK (alZ Z t lStr) (zX Z + 35) = 12 := by
    rw [(alZ_K lStr Z t _).1, if_pos ⟨by omega, by show zX Z + 35 < zX Z + 32 + 5; omega⟩, show zX Z + 35 - (zX Z + 32) = 3 by omega]
    rfl
  have n35 : zN (alZ Z t lStr) (zX Z + 35) = 144 := by
    rw [(alZ_K lStr Z t _).2, if_pos ⟨by omega, by show zX Z + 35 < zX Z + 32 + 5; omega⟩, show zX Z + 35 - (zX Z + 32) = 3 by omega]
    rfl
  have key := loop_up (fun i => run 1 36 51 [.ref t, .int (iN i)] [] (fil (alI I (zX Z) 5) (zX Z + 35) i, alG G (zX Z) 5, alZ Z t lStr)) 144 (fun i hi => by
    have hlt : iN i < iN 144 := (iN_lt (by omega) (by omega)).mpr hi
    have hb : ib (iN i) 144 := ib_iN (by omega) hi
    have hc : (iN i).toNatClampNeg = i := iN_clamp (by omega)
    refine Eq.trans b36_51 (Eq.trans (if_neg (fun q => q hlt)) (Eq.trans (b36_58 hk' (by rw [mR_t, r3]; exact k35) (by rw [mR_t, r3, mN_t, n35]; exact hb)) ?_))
    rw [mR_t, r3, hc, wI_t, fil_s, iN_succ]) 0 (by omega)
  rw [fil_0] at key
  exact Eq.trans key (Eq.trans b36_51 (Eq.trans (if_pos (iN_nlt (n := 144) (by omega))) b36_71))
def lTk : List aA := [(0, 17, 7, 7), (1, 12, 30, 30), (2, 12, 30, 30)]
def lRi (n : Nat) : List aA := (List.range n).map (fun k => (k, 3, 0, 10))
theorem al_app : ∀ (l l' : List aA) (M : aM) (t : Nat), al M t (l ++ l') = al (al M t l) t l' := by
  intro l
  induction l with
  | nil => intro l' M t; rfl
  | cons e l ih =>
    intro l' M t
    obtain ⟨k, ty, n, sz⟩ := e
    exact ih l' _ t
theorem lRi_s {n : Nat} : lRi (n + 1) = lRi n ++ [(n, 3, 0, 10)] := by
  unfold lRi
  rw [List.range_succ, List.map_append]
  rfl
theorem lRi_l {n : Nat} : (lRi n).length = n := by unfold lRi; rw [List.length_map, List.length_range]
def tkI (I : aI) (t : Nat) : aI := up2 (up2 (up2 I t 5 10) t 17 (-1)) t 18 (-1)
theorem new_tank {t : Nat} (ht : t < zX Z + 32) (hk : zK Z t = 6) : call 45 [.ref t] (I, G, Z) = some (none, al (tkI (alI I (zX Z) 3) t, alG G (zX Z) 3, alZ Z t lTk) (zX Z + 32) (lRi 7)) := by
  refine Eq.trans e45 (Eq.trans (b45_0 hk (by rw [mK_old ht]; exact hk)) ?_)
  refine Eq.trans (b45_18 (M := wN (al (I, G, Z) t [(0, 17, 7, 7)]) 12 30 30) (by rw [mK_al _ ht]; exact hk) (mK_al (ty := 12) (n := 30) (sz := 30) (t := t) [(0, 17, 7, 7), (1, 12, 30, 30)] ht ▸ hk)) ?_
  refine Eq.trans (b45_29 (M := al (I, G, Z) t lTk) (by rw [mK_al0 _ ht]; exact hk)) (Eq.trans b45_45 ?_)
  rw [al_t]
  show run 2 45 47 [.ref t, .int 0] [] (tkI (alI I (zX Z) 3) t, alG G (zX Z) 3, alZ Z t lTk) = _
  generalize hI1 : tkI (alI I (zX Z) 3) t = I1
  generalize hG1 : alG G (zX Z) 3 = G1
  generalize hZ1 : alZ Z t lTk = Z1
  have x1 : zX Z1 = zX Z + 3 := by rw [← hZ1]; exact alZ_X lTk Z t
  have hk1 : zK Z1 t = 6 := by rw [← hZ1, (alZ_K lTk Z t t).1, if_neg (by omega)]; exact hk
  have r0 : zR Z1 t 0 = zX Z + 32 := by rw [← hZ1]; exact alZ_Rt lTk Z t 0 ht (by decide) (by decide)
  have k0 : zK Z1 (zX Z + 32) = 17 := by
    rw [← hZ1, (alZ_K lTk Z t _).1, if_pos ⟨by omega, by show zX Z + 32 < zX Z + 32 + 3; omega⟩, show zX Z + 32 - (zX Z + 32) = 0 by omega]
    rfl
  have n0 : zN Z1 (zX Z + 32) = 7 := by
    rw [← hZ1, (alZ_K lTk Z t _).2, if_pos ⟨by omega, by show zX Z + 32 < zX Z + 32 + 3; omega⟩, show zX Z + 32 - (zX Z + 32) = 0 by omega]
    rfl
  have key := loop_up (fun i => run 2 45 47 [.ref t, .int (iN i)] [] (al (I1, G1, Z1) (zX Z + 32) (lRi i))) 7 (fun i hi => by
    have hlt : iN i < iN 7 := (iN_lt (by omega) (by omega)).mpr hi
    have hb : ib (iN i) 7 := ib_iN (by omega) hi
    have hc : (iN i).toNatClampNeg = i := iN_clamp (by omega)
    show _ = run 2 45 47 [.ref t, .int (iN (i + 1))] [] (al (I1, G1, Z1) (zX Z + 32) (lRi (i + 1)))
    rw [lRi_s, al_app, al_t]
    generalize hI2 : alI I1 (zX Z1) (lRi i).length = I2
    generalize hG2 : alG G1 (zX Z1) (lRi i).length = G2
    generalize hZ2 : alZ Z1 (zX Z + 32) (lRi i) = Z2
    have x2 : zX Z2 = zX Z1 + i := by rw [← hZ2, alZ_X, lRi_l]
    have kt2 : zK Z2 t = 6 := by rw [← hZ2, (alZ_K _ Z1 _ t).1, if_neg (by omega)]; exact hk1
    have rt2 : zR Z2 t 0 = zX Z + 32 := by rw [← hZ2, alZ_Ro _ Z1 _ t 0 (by omega), if_neg (by omega)]; exact r0
    have ka2 : zK Z2 (zX Z + 32) = 17 := by rw [← hZ2, (alZ_K _ Z1 _ _).1, if_neg (by omega)]; exact k0
    have na2 : zN Z2 (zX Z + 32) = 7 := by rw [← hZ2, (alZ_K _ Z1 _ _).2, if_neg (by omega)]; exact n0
    refine Eq.trans b45_47 (Eq.trans (if_neg (fun q => q hlt)) (Eq.trans (b45_53 kt2 (by rw [wN_t, mK_t, mX_t, zK_n, if_pos rfl])) ?_))
    rw [mX_t, mR_t, rt2, wN_t, e29, b29_0 (by rw [mK_t, zK_n, if_pos rfl])]
    refine Eq.trans (b45_65 (by rw [mK_t, zK_n, if_neg (by omega)]; exact ka2) (by rw [mN_t, zN_n, if_neg (by omega), na2]; exact hb) (by rw [mK_t, zK_n, if_pos rfl])) ?_
    rw [hc, iN_succ]
    rfl) 0 (by omega)
  exact Eq.trans key (Eq.trans b45_47 (Eq.trans (if_pos (iN_nlt (n := 7) (by omega))) b45_72))
end CN
