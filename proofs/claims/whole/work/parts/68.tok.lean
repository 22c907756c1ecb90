/-! TOKENS of n bytes u -/
def dg (x : Int32) : Bool := inB x 48 57
def sm (x : Int32) : Bool := inB x 97 122
def rnE (P : Int32 → Bool) (u : Nat → Int32) : Nat → Nat → Nat
  | 0, i => i
  | d + 1, i => if P (u i) = true then rnE P u d (i + 1) else i
/-- where a run of such signs ends -/
def rn (P : Int32 → Bool) (u : Nat → Int32) (n i : Nat) : Nat := rnE P u (n - i) i
theorem rnE_b {P : Int32 → Bool} {u : Nat → Int32} : ∀ d i, i ≤ rnE P u d i ∧ rnE P u d i ≤ i + d := by
  intro d
  induction d with
  | zero => intro i; exact ⟨Nat.le_refl _, Nat.le_refl _⟩
  | succ d ih =>
    intro i
    rw [rnE]
    split
    · have := ih (i + 1); omega
    · omega
theorem rn_b {P : Int32 → Bool} {u : Nat → Int32} {n i : Nat} (h : i ≤ n) : i ≤ rn P u n i ∧ rn P u n i ≤ n := by
  have := rnE_b (P := P) (u := u) (n - i) i
  unfold rn
  omega
theorem rn_lt {P : Int32 → Bool} {u : Nat → Int32} {n i : Nat} (h : i < n) (hP : P (u i) = true) : i + 1 ≤ rn P u n i := by
  unfold rn
  rw [show n - i = (n - (i + 1)) + 1 by omega, rnE, if_pos hP]
  exact (rnE_b _ _).1
def spF (u : Nat → Int32) (i : Nat) : List Int32 → Bool
  | [] => true
  | c :: w => decide (u i = c) && spF u (i + 1) w
/-- the signs from i to e are the word j -/
def spl (u : Nat → Int32) (i e j : Nat) : Bool := decide (e - i = slen.getD j 0) && spF u i (sbyt.getD j [])
def wkF (u : Nat → Int32) (i e : Nat) : Nat → Nat
  | 0 => 1
  | j + 1 => if spl u i e j = true then 14 + j else wkF u i e j
def wk (u : Nat → Int32) (i e : Nat) : Nat := wkF u i e 22
def dvF (u : Nat → Int32) (i : Nat) : Nat → Int32
  | 0 => 0
  | k + 1 => if k < 5 then dvF u i k * 10 + u (i + k) - 48 else dvF u i k
def kos (x : Int32) : Nat := if x = 59 then 4 else if x = 91 then 5 else if x = 93 then 6 else if x = 43 then 7 else if x = 45 then 8 else if x = 60 then 9 else if x = 61 then 11 else if x = 62 then 13 else if inB x 65 80 = true then 3 else 1
/-- two signs in one: <= and >= -/
def two (u : Nat → Int32) (n p : Nat) : Bool := decide (p + 1 < n) && (decide (u (p + 1) = 61) && (decide (u p = 60) || decide (u p = 62)))
def tE (u : Nat → Int32) (n p : Nat) : Nat := if dg (u p) = true then rn dg u n p else if sm (u p) = true then rn sm u n p else if two u n p = true then p + 2 else p + 1
def tK (u : Nat → Int32) (n p : Nat) : Nat := if dg (u p) = true then 2 else if sm (u p) = true then wk u p (rn sm u n p) else if two u n p = true then (if u p = 60 then 10 else 12) else kos (u p)
def tV (u : Nat → Int32) (n p : Nat) : Int32 := if dg (u p) = true then (if 5 < rn dg u n p - p then -1 else dvF u p (rn dg u n p - p)) else if sm (u p) = true then 0 else if two u n p = true then 0 else u p - 65
def skE (u : Nat → Int32) : Nat → Nat → Nat
  | 0, i => i
  | d + 1, i => if u i = 32 then skE u d (i + 1) else i
/-- the first sign from i on that is no blank -/
def sk (u : Nat → Int32) (n i : Nat) : Nat := skE u (n - i) i
theorem skE_b {u : Nat → Int32} : ∀ d i, i ≤ skE u d i ∧ skE u d i ≤ i + d ∧ (skE u d i < i + d → ¬ u (skE u d i) = 32) := by
  intro d
  induction d with
  | zero => intro i; exact ⟨Nat.le_refl _, Nat.le_refl _, fun h => absurd h (Nat.lt_irrefl _)⟩
  | succ d ih =>
    intro i
    rw [skE]
    split
    · have := ih (i + 1)
      refine ⟨by omega, by omega, fun h => this.2.2 (by omega)⟩
    · rename_i h
      exact ⟨Nat.le_refl _, by omega, fun _ => h⟩
theorem sk_b {u : Nat → Int32} {n i : Nat} (h : i ≤ n) : i ≤ sk u n i ∧ sk u n i ≤ n ∧ (sk u n i < n → ¬ u (sk u n i) = 32) := by
  have := skE_b (u := u) (n - i) i
  unfold sk
  refine ⟨by omega, by omega, fun q => this.2.2 (by omega)⟩
theorem sk_bl {u : Nat → Int32} {n i : Nat} (h : i < n) (hu : u i = 32) : sk u n i = sk u n (i + 1) := by
  unfold sk
  rw [show n - i = (n - (i + 1)) + 1 by omega, skE, if_pos hu]
theorem sk_st {u : Nat → Int32} {n i : Nat} (hu : i < n → ¬ u i = 32) : sk u n i = i := by
  unfold sk
  by_cases h : i < n
  · rw [show n - i = (n - (i + 1)) + 1 by omega, skE, if_neg (hu h)]
  · rw [show n - i = 0 by omega, skE]
theorem tE_b {u : Nat → Int32} {n p : Nat} (h : p < n) : p + 1 ≤ tE u n p ∧ tE u n p ≤ n := by
  unfold tE
  split
  · rename_i hd
    exact ⟨rn_lt h hd, (rn_b (by omega)).2⟩
  · split
    · rename_i hs
      exact ⟨rn_lt h hs, (rn_b (by omega)).2⟩
    · split
      · rename_i h2
        unfold two at h2
        rw [Bool.and_eq_true, decide_eq_true_eq] at h2
        omega
      · omega
def nx (u : Nat → Int32) (n p : Nat) : Nat := if p < n then sk u n (tE u n p) else p
def KK (u : Nat → Int32) (n p : Nat) : Nat := if p < n then tK u n p else 0
def VV (u : Nat → Int32) (n p : Nat) : Int32 := if p < n then tV u n p else 0
/-- where the k-th token begins -/
def ps (u : Nat → Int32) (n : Nat) : Nat → Nat
  | 0 => sk u n 0
  | k + 1 => nx u n (ps u n k)
theorem ps_le {u : Nat → Int32} {n : Nat} : ∀ k, ps u n k ≤ n := by
  intro k
  induction k with
  | zero => exact (sk_b (by omega)).2.1
  | succ k ih =>
    rw [ps]
    unfold nx
    split
    · rename_i h
      exact (sk_b (tE_b h).2).2.1
    · exact ih
theorem nx_gt {u : Nat → Int32} {n p : Nat} (h : p < n) : p < nx u n p ∧ nx u n p ≤ n := by
  unfold nx
  rw [if_pos h]
  have a := tE_b (u := u) h
  have b := sk_b (u := u) a.2
  omega
theorem ps_ge {u : Nat → Int32} {n : Nat} : ∀ k, (∀ j, j < k → ps u n j < n) → k ≤ ps u n k := by
  intro k
  induction k with
  | zero => intro _; omega
  | succ k ih =>
    intro h
    have a := ih (fun j hj => h j (by omega))
    have b := nx_gt (u := u) (h k (by omega))
    rw [ps]
    omega
/-- the tokens in the class's rows: T of them, and the end -/
def Tok (J : aI) (u : Nat → Int32) (n T : Nat) : Prop := T ≤ n ∧ ps u n T = n ∧ (∀ j, j < T → ps u n j < n) ∧ J 58 5 = iN (T + 1) ∧ ∀ j, j ≤ T → J 60 j = iN (KK u n (ps u n j)) ∧ J 61 j = iN (ps u n j) ∧ J 62 j = VV u n (ps u n j)
section SCN
variable {G : aL} {Z : aZ}
theorem c_digit {x : Int32} {M : aM} : call 87 [.int x] M = some (some (.int (bI (dg x))), M) := by
  unfold dg inB
  refine Eq.trans e87 (Eq.trans b87_0 ?_)
  have e48 : (48 : Int32).toInt = 48 := by decide
  have e57 : (57 : Int32).toInt = 57 := by decide
  by_cases h1 : x < 48
  · refine Eq.trans (if_pos h1) (Eq.trans b87_16 (Eq.trans (b87_17 rfl) ?_))
    rw [ti_lt, e48] at h1
    rw [decide_eq_false (show ¬ 48 ≤ x.toInt by omega)]
    rfl
  · refine Eq.trans (if_neg h1) (Eq.trans b87_6 ?_)
    rw [ti_lt, e48] at h1
    rw [decide_eq_true (show 48 ≤ x.toInt by omega)]
    by_cases h2 : 57 < x
    · refine Eq.trans (if_pos h2) (Eq.trans b87_16 (Eq.trans (b87_17 rfl) ?_))
      rw [ti_lt, e57] at h2
      rw [decide_eq_false (show ¬ x.toInt ≤ 57 by omega)]
      rfl
    · refine Eq.trans (if_neg h2) (Eq.trans b87_12 (Eq.trans (b87_17 rfl) ?_))
      rw [ti_lt, e57] at h2
      rw [decide_eq_true (show x.toInt ≤ 57 by omega)]
      rfl
theorem c_small {x : Int32} {M : aM} : call 88 [.int x] M = some (some (.int (bI (sm x))), M) := by
  unfold sm inB
  refine Eq.trans e88 (Eq.trans b88_0 ?_)
  have e48 : (97 : Int32).toInt = 97 := by decide
  have e57 : (122 : Int32).toInt = 122 := by decide
  by_cases h1 : x < 97
  · refine Eq.trans (if_pos h1) (Eq.trans b88_16 (Eq.trans (b88_17 rfl) ?_))
    rw [ti_lt, e48] at h1
    rw [decide_eq_false (show ¬ 97 ≤ x.toInt by omega)]
    rfl
  · refine Eq.trans (if_neg h1) (Eq.trans b88_6 ?_)
    rw [ti_lt, e48] at h1
    rw [decide_eq_true (show 97 ≤ x.toInt by omega)]
    by_cases h2 : 122 < x
    · refine Eq.trans (if_pos h2) (Eq.trans b88_16 (Eq.trans (b88_17 rfl) ?_))
      rw [ti_lt, e57] at h2
      rw [decide_eq_false (show ¬ x.toInt ≤ 122 by omega)]
      rfl
    · refine Eq.trans (if_neg h2) (Eq.trans b88_12 (Eq.trans (b88_17 rfl) ?_))
      rw [ti_lt, e57] at h2
      rw [decide_eq_true (show x.toInt ≤ 122 by omega)]
      rfl
theorem c_kos {x : Int32} {M : aM} : call 89 [.int x] M = some (some (.int (iN (kos x))), M) := by
  refine Eq.trans e89 ?_
  unfold kos
  by_cases h59 : x = 59
  · rw [if_pos h59]; exact Eq.trans (b89_0_c59 h59) b89_76
  rw [if_neg h59]
  by_cases h91 : x = 91
  · rw [if_pos h91]; exact Eq.trans (b89_0_c91 h91) b89_78
  rw [if_neg h91]
  by_cases h93 : x = 93
  · rw [if_pos h93]; exact Eq.trans (b89_0_c93 h93) b89_80
  rw [if_neg h93]
  by_cases h43 : x = 43
  · rw [if_pos h43]; exact Eq.trans (b89_0_c43 h43) b89_83
  rw [if_neg h43]
  by_cases h45 : x = 45
  · rw [if_pos h45]; exact Eq.trans (b89_0_c45 h45) b89_86
  rw [if_neg h45]
  by_cases h60 : x = 60
  · rw [if_pos h60]; exact Eq.trans (b89_0_c60 h60) b89_89
  rw [if_neg h60]
  by_cases h61 : x = 61
  · rw [if_pos h61]; exact Eq.trans (b89_0_c61 h61) b89_92
  rw [if_neg h61]
  by_cases h62 : x = 62
  · rw [if_pos h62]; exact Eq.trans (b89_0_c62 h62) b89_95
  rw [if_neg h62]
  refine Eq.trans (b89_0_d h43 h45 h59 h60 h61 h62 h91 h93) (Eq.trans b89_98 ?_)
  have e65 : (65 : Int32).toInt = 65 := by decide
  have e81 : (81 : Int32).toInt = 81 := by decide
  by_cases h1 : x < 65
  · rw [ti_lt, e65] at h1
    rw [if_neg (show ¬ inB x 65 80 = true from fun q => by have := inB_iff.mp q; omega)]
    exact Eq.trans (if_pos (by rw [ti_lt, e65]; exact h1)) (Eq.trans b89_114 b89_115)
  · refine Eq.trans (if_neg h1) (Eq.trans b89_104 ?_)
    rw [ti_lt, e65] at h1
    by_cases h2 : x < 81
    · refine Eq.trans (if_neg (fun q => q h2)) (Eq.trans b89_110 (Eq.trans b89_115 ?_))
      rw [ti_lt, e81] at h2
      rw [if_pos (inB_iff.mpr (by omega))]
      rfl
    · refine Eq.trans (if_pos h2) (Eq.trans b89_114 (Eq.trans b89_115 ?_))
      rw [ti_lt, e81] at h2
      rw [if_neg (show ¬ inB x 65 80 = true from fun q => by have := inB_iff.mp q; omega)]
      rfl
theorem c_wordOf {j : Nat} (hj : j < 22) {M : aM} : call 90 [.int (iN (14 + j))] M = some (some (.ref (j + 2)), M) := by
  refine Eq.trans e90 ?_
  match j, hj with
  | 0, _ => exact Eq.trans (b90_0_c14 rfl) b90_52
  | 1, _ => exact Eq.trans (b90_0_c15 rfl) b90_55
  | 2, _ => exact Eq.trans (b90_0_c16 rfl) b90_58
  | 3, _ => exact Eq.trans (b90_0_c17 rfl) b90_61
  | 4, _ => exact Eq.trans (b90_0_c18 rfl) b90_64
  | 5, _ => exact Eq.trans (b90_0_c19 rfl) b90_67
  | 6, _ => exact Eq.trans (b90_0_c20 rfl) b90_70
  | 7, _ => exact Eq.trans (b90_0_c21 rfl) b90_73
  | 8, _ => exact Eq.trans (b90_0_c22 rfl) b90_76
  | 9, _ =>
    refine Eq.trans (b90_0_d (by decide)) (Eq.trans b90_79 ?_)
    rw [show iN (14 + 9) - 23 = 0 from rfl, e91, b91_0_c0 rfl, b91_64]
    exact b90_86
  | 10, _ =>
    refine Eq.trans (b90_0_d (by decide)) (Eq.trans b90_79 ?_)
    rw [show iN (14 + 10) - 23 = 1 from rfl, e91, b91_0_c1 rfl, b91_67]
    exact b90_86
  | 11, _ =>
    refine Eq.trans (b90_0_d (by decide)) (Eq.trans b90_79 ?_)
    rw [show iN (14 + 11) - 23 = 2 from rfl, e91, b91_0_c2 rfl, b91_70]
    exact b90_86
  | 12, _ =>
    refine Eq.trans (b90_0_d (by decide)) (Eq.trans b90_79 ?_)
    rw [show iN (14 + 12) - 23 = 3 from rfl, e91, b91_0_c3 rfl, b91_73]
    exact b90_86
  | 13, _ =>
    refine Eq.trans (b90_0_d (by decide)) (Eq.trans b90_79 ?_)
    rw [show iN (14 + 13) - 23 = 4 from rfl, e91, b91_0_c4 rfl, b91_76]
    exact b90_86
  | 14, _ =>
    refine Eq.trans (b90_0_d (by decide)) (Eq.trans b90_79 ?_)
    rw [show iN (14 + 14) - 23 = 5 from rfl, e91, b91_0_c5 rfl, b91_79]
    exact b90_86
  | 15, _ =>
    refine Eq.trans (b90_0_d (by decide)) (Eq.trans b90_79 ?_)
    rw [show iN (14 + 15) - 23 = 6 from rfl, e91, b91_0_c6 rfl, b91_82]
    exact b90_86
  | 16, _ =>
    refine Eq.trans (b90_0_d (by decide)) (Eq.trans b90_79 ?_)
    rw [show iN (14 + 16) - 23 = 7 from rfl, e91, b91_0_c7 rfl, b91_85]
    exact b90_86
  | 17, _ =>
    refine Eq.trans (b90_0_d (by decide)) (Eq.trans b90_79 ?_)
    rw [show iN (14 + 17) - 23 = 8 from rfl, e91, b91_0_c8 rfl, b91_88]
    exact b90_86
  | 18, _ =>
    refine Eq.trans (b90_0_d (by decide)) (Eq.trans b90_79 ?_)
    rw [show iN (14 + 18) - 23 = 9 from rfl, e91, b91_0_c9 rfl, b91_91]
    exact b90_86
  | 19, _ =>
    refine Eq.trans (b90_0_d (by decide)) (Eq.trans b90_79 ?_)
    rw [show iN (14 + 19) - 23 = 10 from rfl, e91, b91_0_c10 rfl, b91_94]
    exact b90_86
  | 20, _ =>
    refine Eq.trans (b90_0_d (by decide)) (Eq.trans b90_79 ?_)
    rw [show iN (14 + 20) - 23 = 11 from rfl, e91, b91_0_c11 rfl, b91_97]
    exact b90_86
  | 21, _ =>
    refine Eq.trans (b90_0_d (by decide)) (Eq.trans b90_79 ?_)
    rw [show iN (14 + 21) - 23 = 12 from rfl, e91, b91_0_d (by decide), b91_100]
    exact b90_86
  | j + 22, h => exact absurd h (by omega)
theorem slen_b {j : Nat} (hj : j < 22) : slen.getD j 0 ≤ 6 ∧ (sbyt.getD j []).length = slen.getD j 0 := by
  have : ∀ j, j < 22 → slen.getD j 0 ≤ 6 ∧ (sbyt.getD j []).length = slen.getD j 0 := by decide
  exact this j hj
theorem t_spells (hZ : Shp Z) {J : aI} {i e j n : Nat} (hi : i ≤ e) (he : e ≤ n) (hn : n ≤ 400) (hj : j < 22) : call 85 [.ref 58, .int (iN i), .int (iN e), .ref (j + 2)] (J, G, Z) = some (some (.int (bI (spl (J 59) i e j))), (J, G, Z)) := by
  obtain ⟨l6, ll⟩ := slen_b hj
  have ej : j + 2 - 2 = j := by omega
  refine Eq.trans e85 (Eq.trans (b85_0 (by omega) (by omega)) ?_)
  unfold spl
  rw [ej, iN_sub (by omega) hi]
  have eL : Int32.ofNat (slen.getD j 0) = iN (slen.getD j 0) := rfl
  rw [eL]
  by_cases h : e - i = slen.getD j 0
  · rw [decide_eq_true h, Bool.true_and]
    refine Eq.trans (if_pos (by rw [h])) (Eq.trans b85_12 ?_)
    have key : ∀ (w : List Int32) (k : Nat), k + w.length = slen.getD j 0 → (∀ m, m < w.length → (sbyt.getD j []).getD (k + m) 0 = w.getD m 0) → run 1 85 15 [.ref 58, .int (iN i), .int (iN e), .ref (j + 2), .int (iN k)] [] (J, G, Z) = some (some (.int (bI (spF (J 59) (i + k) w))), (J, G, Z)) := by
      intro w
      induction w with
      | nil =>
        intro k hk _
        refine Eq.trans (b85_15 (by omega) (by omega)) ?_
        rw [ej, eL, ← hk]
        exact Eq.trans (if_pos (iN_nlt (by show k + 0 < _; rw [List.length_nil] at hk; omega))) b85_50
      | cons c w ih =>
        intro k hk hw
        rw [List.length_cons] at hk
        refine Eq.trans (b85_15 (by omega) (by omega)) ?_
        rw [ej, eL]
        refine Eq.trans (if_neg (fun q => q ((iN_lt (by omega) (by omega)).mpr (by omega)))) ?_
        have hib : ib (iN (i + k)) 400 := ib_iN (by omega) (by omega)
        refine Eq.trans (b85_24 hZ.k58 hZ.kr58_0 (hZ.ir58_0 (by rw [iN_add]; exact hib)) (by omega) (by omega) (by rw [ej]; exact ib_iN (by omega) (by omega))) ?_
        rw [ej, hZ.r58_0, iN_add, iN_clamp (by omega), iN_clamp (by omega), mI_t]
        have e0 := hw 0 (by rw [List.length_cons]; omega)
        rw [Nat.add_zero] at e0
        rw [e0]
        show (if J 59 (i + k) = c then _ else _) = _
        rw [spF]
        by_cases hc : J 59 (i + k) = c
        · rw [if_pos hc, decide_eq_true hc, Bool.true_and]
          refine Eq.trans b85_44 ?_
          rw [iN_succ]
          refine ih (k + 1) (by omega) (fun m hm => ?_)
          have := hw (m + 1) (by rw [List.length_cons]; omega)
          rw [show k + 1 + m = k + (m + 1) by omega, this]
          rfl
        · rw [if_neg hc, decide_eq_false hc]
          exact b85_42
    have := key (sbyt.getD j []) 0 (by omega) (fun m _ => by rw [Nat.zero_add])
    rw [Nat.add_zero] at this
    exact this
  · rw [decide_eq_false h]
    exact Eq.trans (if_neg (fun q => h ((iN_inj (by omega) (by omega)).mp q))) b85_10
/-- a token put -/
def ptJ (J : aI) (k : Nat) (a b c : Int32) : aI := up2 (up2 (up2 (up2 J 60 k a) 61 k b) 62 k c) 58 5 (iN (k + 1))
theorem pt60 {J : aI} {k j : Nat} {a b c : Int32} : ptJ J k a b c 60 j = (if j = k then a else J 60 j) ∧ ptJ J k a b c 61 j = (if j = k then b else J 61 j) ∧ ptJ J k a b c 62 j = if j = k then c else J 62 j := by
  unfold ptJ
  simp only [up2_e]
  grind
theorem t_put (hZ : Shp Z) {J : aI} {k : Nat} (hk : k ≤ 400) (h5 : J 58 5 = iN k) {a b c : Int32} : call 86 [.ref 58, .int a, .int b, .int c] (J, G, Z) = some (none, (ptJ J k a b c, G, Z)) := by
  have hc : (iN k).toNatClampNeg = k := iN_clamp (by omega)
  have hib : ib (iN k) 401 := ib_iN (by omega) (by omega)
  refine Eq.trans e86 (Eq.trans (b86_0 hZ.k58 hZ.kr58_1) ?_)
  rw [hZ.nr58_1, mI_t, h5]
  refine Eq.trans (if_neg (fun q => q ((iN_lt (b := 401) (by omega) (by decide)).mpr (by omega)))) ?_
  refine Eq.trans (b86_12 hZ.k58 hZ.kr58_1 (hZ.ir58_1 (by rw [mI_t, h5]; exact hib)) hZ.kr58_2 (hZ.ir58_2 (by rw [hZ.r58_1]; show ib (up2 J 60 (J 58 5).toNatClampNeg a 58 5) 401; rw [up2_a (by decide), h5]; exact hib)) hZ.kr58_3 (hZ.ir58_3 (by rw [hZ.r58_1, hZ.r58_2]; show ib (up2 (up2 J 60 (J 58 5).toNatClampNeg a) 61 (up2 J 60 (J 58 5).toNatClampNeg a 58 5).toNatClampNeg b 58 5) 401; rw [up2_a (by decide), up2_a (by decide), h5]; exact hib))) ?_
  rw [hZ.r58_1, hZ.r58_2, hZ.r58_3]
  simp only [mI_t, wI_t, h5, hc, up2_a (show (58 : Nat) ≠ 60 by decide), up2_a (show (58 : Nat) ≠ 61 by decide)]
  refine Eq.trans (b86_42 hZ.k58) (Eq.trans b86_52 ?_)
  simp only [mI_t, wI_t, h5, up2_a (show (58 : Nat) ≠ 60 by decide), up2_a (show (58 : Nat) ≠ 61 by decide), up2_a (show (58 : Nat) ≠ 62 by decide), iN_succ]
  rfl
theorem t_word (hZ : Shp Z) {J : aI} {n p k : Nat} (hn : n ≤ 400) (hp : p < n) (h4 : J 58 4 = iN n) (hk : k ≤ 400) (h5 : J 58 5 = iN k) : call 84 [.ref 58, .int (iN p)] (J, G, Z) = some (some (.int (iN (rn sm (J 59) n p))), (ptJ J k (iN (wk (J 59) p (rn sm (J 59) n p))) (iN p) 0, G, Z)) := by
  refine Eq.trans e84 (Eq.trans b84_0 ?_)
  have run1 : ∀ d q, q + d = n → run 3 84 2 [.ref 58, .int (iN p), .int (iN q), xU, xU] [] (J, G, Z) = run 3 84 28 [.ref 58, .int (iN p), .int (iN (rnE sm (J 59) d q)), xU, xU] [] (J, G, Z) := by
    intro d
    induction d with
    | zero =>
      intro q hq
      refine Eq.trans (b84_2 hZ.k58) ?_
      rw [mI_t, h4, show q = n by omega]
      exact if_pos (iN_nlt (by omega))
    | succ d ih =>
      intro q hq
      refine Eq.trans (b84_2 hZ.k58) ?_
      rw [mI_t, h4]
      refine Eq.trans (if_neg (fun z => z ((iN_lt (by omega) (by omega)).mpr (by omega)))) (Eq.trans (b84_10 hZ.k58 hZ.kr58_0 (hZ.ir58_0 (ib_iN (by omega) (by omega)))) ?_)
      rw [hZ.r58_0, iN_clamp (by omega), mI_t, c_small]
      refine Eq.trans b84_19 ?_
      rw [bI_0, rnE]
      by_cases hs : sm (J 59 q) = true
      · rw [if_pos hs, if_pos hs]
        refine Eq.trans b84_22 ?_
        rw [iN_succ]
        exact ih (q + 1) (by omega)
      · rw [if_neg hs, if_neg hs]
  refine Eq.trans (run1 (n - p) p (by omega)) ?_
  rw [show rnE sm (J 59) (n - p) p = rn sm (J 59) n p from rfl]
  have hb := rn_b (P := sm) (u := J 59) (n := n) (i := p) (by omega)
  generalize hE : rn sm (J 59) n p = E at hb ⊢
  refine Eq.trans b84_28 ?_
  have e36 : (36 : Int32) = iN 36 := rfl
  have run2 := loop_up (fun j => run 3 84 34 [.ref 58, .int (iN p), .int (iN E), .int (iN (wkF (J 59) p E j)), .int (iN (14 + j))] [] (J, G, Z)) 22 (fun j hj => by
    refine Eq.trans b84_34 ?_
    rw [e36]
    refine Eq.trans (if_neg (fun z => z ((iN_lt (by omega) (by omega)).mpr (by omega)))) (Eq.trans b84_41 ?_)
    rw [c_wordOf hj]
    refine Eq.trans (b84_49 hZ.k58) ?_
    rw [t_spells hZ hb.1 hb.2 hn hj]
    refine Eq.trans b84_52 ?_
    rw [bI_0]
    show _ = run 3 84 34 [.ref 58, .int (iN p), .int (iN E), .int (iN (wkF (J 59) p E (j + 1))), .int (iN (14 + (j + 1)))] [] (J, G, Z)
    rw [wkF]
    by_cases hs : spl (J 59) p E j = true
    · rw [if_pos hs, if_pos hs]
      refine Eq.trans b84_55 (Eq.trans b84_58 ?_)
      rw [iN_succ]
      rfl
    · rw [if_neg hs, if_neg hs]
      refine Eq.trans b84_58 ?_
      rw [iN_succ]
      rfl) 0 (by omega)
  refine Eq.trans run2 (Eq.trans b84_34 ?_)
  refine Eq.trans (if_pos (iN_nlt (n := 36) (by omega))) (Eq.trans (b84_64 hZ.k58) ?_)
  rw [t_put hZ hk h5]
  exact b84_71
theorem t_num (hZ : Shp Z) {J : aI} {n p k : Nat} (hn : n ≤ 400) (hp : p < n) (h4 : J 58 4 = iN n) (hk : k ≤ 400) (h5 : J 58 5 = iN k) : call 83 [.ref 58, .int (iN p)] (J, G, Z) = some (some (.int (iN (rn dg (J 59) n p))), (ptJ J k 2 (iN p) (if 5 < rn dg (J 59) n p - p then -1 else dvF (J 59) p (rn dg (J 59) n p - p)), G, Z)) := by
  refine Eq.trans e83 (Eq.trans b83_0 ?_)
  have run1 : ∀ d q, q + d = n → p ≤ q → run 2 83 4 [.ref 58, .int (iN p), .int (dvF (J 59) p (q - p)), .int (iN q)] [] (J, G, Z) = run 2 83 52 [.ref 58, .int (iN p), .int (dvF (J 59) p (rnE dg (J 59) d q - p)), .int (iN (rnE dg (J 59) d q))] [] (J, G, Z) := by
    intro d
    induction d with
    | zero =>
      intro q hq hpq
      refine Eq.trans (b83_4 hZ.k58) ?_
      rw [mI_t, h4, rnE]
      refine Eq.trans (if_pos ?_) rfl
      rw [show q = n by omega]
      exact iN_nlt (by omega)
    | succ d ih =>
      intro q hq hpq
      refine Eq.trans (b83_4 hZ.k58) ?_
      rw [mI_t, h4]
      refine Eq.trans (if_neg (fun z => z ((iN_lt (by omega) (by omega)).mpr (by omega)))) (Eq.trans (b83_12 hZ.k58 hZ.kr58_0 (hZ.ir58_0 (ib_iN (by omega) (by omega)))) ?_)
      rw [hZ.r58_0, iN_clamp (by omega), mI_t, c_digit]
      refine Eq.trans b83_21 ?_
      rw [bI_0, rnE]
      by_cases hs : dg (J 59 q) = true
      · rw [if_pos hs, if_pos hs]
        refine Eq.trans b83_24 ?_
        have nx := ih (q + 1) (by omega) (by omega)
        rw [show q + 1 - p = (q - p) + 1 by omega, dvF] at nx
        rw [iN_sub (by omega) hpq, show (5 : Int32) = iN 5 from rfl]
        by_cases h5' : q - p < 5
        · rw [if_pos h5'] at nx
          refine Eq.trans (if_neg (fun z => z ((iN_lt (by omega) (by omega)).mpr h5'))) (Eq.trans (b83_31 hZ.k58 hZ.kr58_0 (hZ.ir58_0 (ib_iN (by omega) (by omega)))) (Eq.trans b83_46 ?_))
          rw [hZ.r58_0, iN_clamp (by omega), mI_t, iN_succ]
          rw [show p + (q - p) = q by omega] at nx
          exact nx
        · rw [if_neg h5'] at nx
          refine Eq.trans (if_pos (fun z => h5' ((iN_lt (by omega) (by omega)).mp z))) (Eq.trans b83_46 ?_)
          rw [iN_succ]
          exact nx
      · rw [if_neg hs, if_neg hs]
  have r1 := run1 (n - p) p (by omega) (Nat.le_refl _)
  rw [Nat.sub_self] at r1
  refine Eq.trans r1 ?_
  rw [show rnE dg (J 59) (n - p) p = rn dg (J 59) n p from rfl]
  have hb := rn_b (P := dg) (u := J 59) (n := n) (i := p) (by omega)
  generalize hE : rn dg (J 59) n p = E at hb ⊢
  refine Eq.trans b83_52 ?_
  rw [iN_sub (by omega) hb.1, show (5 : Int32) = iN 5 from rfl]
  by_cases h : 5 < E - p
  · rw [if_pos h]
    refine Eq.trans (if_neg (fun z => z ((iN_lt (by omega) (by omega)).mpr h))) (Eq.trans b83_62 (Eq.trans (b83_67 hZ.k58) ?_))
    rw [t_put hZ hk h5]
    exact b83_70
  · rw [if_neg h]
    refine Eq.trans (if_pos (fun z => h ((iN_lt (by omega) (by omega)).mp z))) (Eq.trans b83_66 (Eq.trans (b83_67 hZ.k58) ?_))
    rw [t_put hZ hk h5]
    exact b83_70
theorem t_token (hZ : Shp Z) {J : aI} {n p k : Nat} (hn : n ≤ 400) (hp : p < n) (h4 : J 58 4 = iN n) (hk : k ≤ 400) (h5 : J 58 5 = iN k) : call 82 [.ref 58, .int (iN p)] (J, G, Z) = some (some (.int (iN (tE (J 59) n p))), (ptJ J k (iN (tK (J 59) n p)) (iN p) (tV (J 59) n p), G, Z)) := by
  refine Eq.trans e82 (Eq.trans (b82_0 hZ.k58 hZ.kr58_0 (hZ.ir58_0 (ib_iN (by omega) (by omega)))) ?_)
  rw [hZ.r58_0, iN_clamp (by omega), mI_t, c_digit]
  refine Eq.trans b82_11 ?_
  rw [bI_0]
  unfold tE tK tV
  by_cases hd : dg (J 59 p) = true
  · rw [if_pos hd, if_pos hd, if_pos hd, if_pos hd]
    refine Eq.trans (b82_14 hZ.k58) ?_
    rw [t_num hZ hn hp h4 hk h5]
    exact b82_19
  rw [if_neg hd, if_neg hd, if_neg hd, if_neg hd]
  refine Eq.trans b82_20 ?_
  rw [c_small]
  refine Eq.trans b82_24 ?_
  rw [bI_0]
  by_cases hs : sm (J 59 p) = true
  · rw [if_pos hs, if_pos hs, if_pos hs, if_pos hs]
    refine Eq.trans (b82_27 hZ.k58) ?_
    rw [t_word hZ hn hp h4 hk h5]
    exact b82_32
  rw [if_neg hs, if_neg hs, if_neg hs, if_neg hs]
  have one : ∀ z : Int32, two (J 59) n p = false → run 4 82 101 [.ref 58, .int (iN p), .int (J 59 p), .int z] [] (J, G, Z) = some (some (.int (iN (if two (J 59) n p = true then p + 2 else p + 1))), (ptJ J k (iN (if two (J 59) n p = true then (if J 59 p = 60 then 10 else 12) else kos (J 59 p))) (iN p) (if two (J 59) n p = true then 0 else J 59 p - 65), G, Z)) := by
    intro z h2
    rw [h2]
    refine Eq.trans b82_101 ?_
    rw [c_kos]
    refine Eq.trans (b82_106 hZ.k58) ?_
    rw [t_put hZ hk h5]
    refine Eq.trans b82_114 ?_
    rw [iN_succ]
    rfl
  refine Eq.trans (b82_33 hZ.k58) ?_
  rw [mI_t, h4, iN_succ]
  by_cases hl : p + 1 < n
  · refine Eq.trans (if_neg (fun z => z ((iN_lt (by omega) (by omega)).mpr hl))) (Eq.trans (b82_43 hZ.k58 hZ.kr58_0 (hZ.ir58_0 (by rw [iN_succ]; exact ib_iN (by omega) (by omega)))) ?_)
    rw [hZ.r58_0, iN_succ, iN_clamp (by omega), mI_t]
    by_cases he : J 59 (p + 1) = 61
    · refine Eq.trans (if_neg (fun z => z he)) (Eq.trans b82_56 (Eq.trans b82_61 (Eq.trans (if_neg (by decide)) (Eq.trans b82_66 ?_))))
      by_cases h60 : J 59 p = 60
      · have h2 : two (J 59) n p = true := by
          unfold two
          rw [decide_eq_true hl, decide_eq_true he, decide_eq_true h60]
          rfl
        rw [if_pos h2, if_pos h2, if_pos h2, if_pos h60, if_pos h60]
        refine (Eq.trans b82_78 (Eq.trans (if_neg (fun z => z h60)) (Eq.trans b82_85 (Eq.trans (b82_92 hZ.k58) ?_))))
        rw [t_put hZ hk h5]
        refine Eq.trans b82_97 ?_
        rw [show (2 : Int32) = iN 2 from rfl, iN_add]
        rfl
      · refine Eq.trans (if_neg h60) (Eq.trans b82_72 ?_)
        by_cases h62 : J 59 p = 62
        · have h2 : two (J 59) n p = true := by
            unfold two
            rw [decide_eq_true hl, decide_eq_true he, decide_eq_true h62, Bool.or_true]
            rfl
          rw [if_pos h2, if_pos h2, if_pos h2, if_neg h60]
          refine Eq.trans (if_neg (fun z => z h62)) (Eq.trans b82_78 (Eq.trans (if_pos h60) (Eq.trans b82_90 (Eq.trans (b82_92 hZ.k58) ?_))))
          rw [t_put hZ hk h5]
          refine Eq.trans b82_97 ?_
          rw [show (2 : Int32) = iN 2 from rfl, iN_add]
          rfl
        · have h2 : two (J 59) n p = false := by
            unfold two
            rw [decide_eq_false h60, decide_eq_false h62, Bool.or_false, Bool.and_false, Bool.and_false]
          exact Eq.trans (if_pos h62) (one 1 h2)
    · have h2 : two (J 59) n p = false := by
        unfold two
        rw [decide_eq_false he, Bool.false_and, Bool.and_false]
      exact Eq.trans (if_pos he) (Eq.trans b82_60 (Eq.trans b82_61 (Eq.trans (if_pos rfl) (one 0 h2))))
  · have h2 : two (J 59) n p = false := by
      unfold two
      rw [decide_eq_false hl, Bool.false_and]
    exact Eq.trans (if_pos (fun z => hl ((iN_lt (by omega) (by omega)).mp z))) (Eq.trans b82_60 (Eq.trans b82_61 (Eq.trans (if_pos rfl) (one 0 h2))))
/-- the tokens before the k-th, put -/
def Scd (J J' : aI) (n k : Nat) : Prop := (∀ a, a ≠ 58 → a ≠ 60 → a ≠ 61 → a ≠ 62 → J' a = J a) ∧ (∀ j, j ≠ 5 → J' 58 j = J 58 j) ∧ J' 58 5 = iN k ∧ ∀ j, j < k → J' 60 j = iN (tK (J 59) n (ps (J 59) n j)) ∧ J' 61 j = iN (ps (J 59) n j) ∧ J' 62 j = tV (J 59) n (ps (J 59) n j)
theorem pt_s {J J' : aI} {n k : Nat} (h : Scd J J' n k) : Scd J (ptJ J' k (iN (tK (J 59) n (ps (J 59) n k))) (iN (ps (J 59) n k)) (tV (J 59) n (ps (J 59) n k))) n (k + 1) := by
  obtain ⟨h1, h2, h3, h4⟩ := h
  refine ⟨fun a a1 a2 a3 a4 => ?_, fun j hj => ?_, ?_, fun j hj => ?_⟩
  · rw [← h1 a a1 a2 a3 a4]
    funext q
    unfold ptJ
    rw [up2_a a1, up2_a a4, up2_a a3, up2_a a2]
  · unfold ptJ
    rw [up2_k hj, up2_a (by decide), up2_a (by decide), up2_a (by decide), h2 j hj]
  · unfold ptJ
    rw [up2_s]
  · rw [pt60.1, pt60.2.1, pt60.2.2]
    by_cases e : j = k
    · subst e
      rw [if_pos rfl, if_pos rfl, if_pos rfl]
      exact ⟨rfl, rfl, rfl⟩
    · rw [if_neg e, if_neg e, if_neg e]
      exact h4 j (by omega)
theorem t_scan (hZ : Shp Z) {J : aI} {n : Nat} (hn : n ≤ 400) (h4 : J 58 4 = iN n) : ∃ (J' : aI) (T : Nat), call 81 [.ref 58] (J, G, Z) = some (none, (J', G, Z)) ∧ (∀ a, a ≠ 58 → a ≠ 60 → a ≠ 61 → a ≠ 62 → J' a = J a) ∧ (∀ j, j ≠ 4 → j ≠ 5 → J' 58 j = J 58 j) ∧ J' 58 4 = 0 ∧ Tok J' (J 59) n T := by
  have main : ∀ d i e k (J' : aI), i + d = n → e ≤ n → (∀ j, j < k → ps (J 59) n j < n) → ps (J 59) n k = sk (J 59) n (max i e) → Scd J J' n k → ∃ (J2 : aI) (T : Nat) (e2 : Nat), run 5 81 9 [.ref 58, .int (iN e), .int (iN i)] [] (J', G, Z) = run 5 81 45 [.ref 58, .int (iN e2), .int (iN n)] [] (J2, G, Z) ∧ Scd J J2 n T ∧ ps (J 59) n T = n ∧ ∀ j, j < T → ps (J 59) n j < n := by
    intro d
    induction d with
    | zero =>
      intro i e k J' hi he hk hp hs
      have h4' : J' 58 4 = iN n := by rw [hs.2.1 4 (by decide)]; exact h4
      refine ⟨J', k, e, ?_, hs, ?_, hk⟩
      · refine Eq.trans (b81_9 hZ.k58) ?_
        rw [mI_t, h4', show i = n by omega]
        exact if_pos (iN_nlt (by omega))
      · rw [hp, show max i e = n by omega]
        exact sk_st (fun z => absurd z (Nat.lt_irrefl _))
    | succ d ih =>
      intro i e k J' hi he hk hp hs
      have h4' : J' 58 4 = iN n := by rw [hs.2.1 4 (by decide)]; exact h4
      have h59 : J' 59 = J 59 := hs.1 59 (by decide) (by decide) (by decide) (by decide)
      have pre : run 5 81 9 [.ref 58, .int (iN e), .int (iN i)] [] (J', G, Z) = if iN i < iN e then run 5 81 39 [.ref 58, .int (iN e), .int (iN i)] [] (J', G, Z) else run 5 81 22 [.ref 58, .int (iN e), .int (iN i)] [] (J', G, Z) := by
        refine Eq.trans (b81_9 hZ.k58) ?_
        rw [mI_t, h4']
        exact Eq.trans (if_neg (fun z => z ((iN_lt (by omega) (by omega)).mpr (by omega)))) b81_17
      have go39 : ∀ (e' : Nat) (K : aI), run 5 81 39 [.ref 58, .int (iN e'), .int (iN i)] [] (K, G, Z) = run 5 81 9 [.ref 58, .int (iN e'), .int (iN (i + 1))] [] (K, G, Z) := by
        intro e' K
        refine Eq.trans b81_39 ?_
        rw [iN_succ]
      by_cases hie : i < e
      · obtain ⟨J2, T, e2, r1, r2⟩ := ih (i + 1) e k J' (by omega) he hk (by rw [hp, show max (i + 1) e = max i e by omega]) hs
        refine ⟨J2, T, e2, ?_, r2⟩
        exact Eq.trans pre (Eq.trans (if_pos ((iN_lt (by omega) (by omega)).mpr hie)) (Eq.trans (go39 e J') r1))
      · have pre2 := Eq.trans pre (Eq.trans (if_neg (fun z => hie ((iN_lt (by omega) (by omega)).mp z))) (b81_22 hZ.k58 hZ.kr58_0 (hZ.ir58_0 (ib_iN (by omega) (by omega)))))
        rw [hZ.r58_0, iN_clamp (by omega), mI_t, h59] at pre2
        rw [show max i e = i by omega] at hp
        by_cases hb : J 59 i = 32
        · obtain ⟨J2, T, e2, r1, r2⟩ := ih (i + 1) e k J' (by omega) he hk (by rw [hp, show max (i + 1) e = i + 1 by omega]; exact sk_bl (by omega) hb) hs
          refine ⟨J2, T, e2, ?_, r2⟩
          exact Eq.trans pre2 (Eq.trans (if_pos hb) (Eq.trans (go39 e J') r1))
        · rw [sk_st (fun _ => hb)] at hp
          have hkn : k ≤ i := by
            have := ps_ge k hk
            omega
          have tb := tE_b (u := J 59) (n := n) (p := i) (by omega)
          obtain ⟨J2, T, e2, r1, r2⟩ := ih (i + 1) (tE (J 59) n i) (k + 1) (ptJ J' k (iN (tK (J 59) n i)) (iN i) (tV (J 59) n i)) (by omega) tb.2 (fun j hj => by
            by_cases q : j = k
            · rw [q, hp]; omega
            · exact hk j (by omega)) (by
              rw [ps, hp]
              unfold nx
              rw [if_pos (by omega), show max (i + 1) (tE (J 59) n i) = tE (J 59) n i by omega]) (by
              have := pt_s hs
              rw [hp] at this
              exact this)
          refine ⟨J2, T, e2, ?_, r2⟩
          refine Eq.trans pre2 (Eq.trans (if_neg hb) (Eq.trans (b81_33 hZ.k58) ?_))
          rw [t_token hZ hn (by omega) h4' (by omega) hs.2.2.1, h59]
          exact Eq.trans b81_38 (Eq.trans (go39 _ _) r1)
  have hs0 : Scd J (up2 J 58 5 0) n 0 := by
    refine ⟨fun a a1 _ _ _ => ?_, fun j hj => up2_k hj, up2_s, fun j hj => by omega⟩
    funext q
    exact up2_a a1
  obtain ⟨J2, T, e2, r1, r2, r3, r4⟩ := main n 0 0 0 (up2 J 58 5 0) (by omega) (by omega) (fun j hj => by omega) rfl hs0
  have hT : T ≤ n := by
    have := ps_ge T r4
    have := ps_le (u := J 59) (n := n) T
    omega
  have h4' : J2 58 4 = iN n := by rw [r2.2.1 4 (by decide)]; exact h4
  refine ⟨up2 (ptJ J2 T 0 (iN n) 0) 58 4 0, T, ?_, fun a a1 a2 a3 a4 => ?_, fun j j1 j2 => ?_, up2_s, hT, r3, r4, ?_, fun j hj => ?_⟩
  · refine Eq.trans e81 (Eq.trans (b81_0 hZ.k58) ?_)
    rw [wI_t]
    refine Eq.trans r1 (Eq.trans (b81_45 hZ.k58) ?_)
    rw [mI_t, h4', t_put hZ (by omega) r2.2.2.1]
    exact b81_55 hZ.k58
  · rw [← r2.1 a a1 a2 a3 a4]
    funext q
    unfold ptJ
    rw [up2_a a1, up2_a a1, up2_a a4, up2_a a3, up2_a a2]
  · unfold ptJ
    rw [up2_k j1, up2_k j2, up2_a (by decide), up2_a (by decide), up2_a (by decide), r2.2.1 j j2]
  · unfold ptJ
    rw [up2_k (by decide), up2_s]
  · unfold KK VV
    rw [up2_a (by decide), up2_a (by decide), up2_a (by decide), pt60.1, pt60.2.1, pt60.2.2]
    by_cases e : j = T
    · subst e
      rw [r3, if_pos rfl, if_pos rfl, if_pos rfl, if_neg (Nat.lt_irrefl _), if_neg (Nat.lt_irrefl _)]
      exact ⟨rfl, rfl, rfl⟩
    · rw [if_neg e, if_neg e, if_neg e, if_pos (r4 j (by omega)), if_pos (r4 j (by omega))]
      exact r2.2.2.2 j (by omega)
end SCN
