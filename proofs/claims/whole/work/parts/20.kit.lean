/-! KIT of the program's proof: the memory in three, its shape, small numbers -/
abbrev aZ : Type := (Nat → Nat → Nat) × (Nat → Nat × Nat) × Nat × Nat
abbrev aI : Type := Nat → Nat → Int32
abbrev aL : Type := Nat → Nat → Int64
def zR (Z : aZ) (a k : Nat) : Nat := Z.1 a k
def zK (Z : aZ) (a : Nat) : Nat := (Z.2.1 a).1
def zN (Z : aZ) (a : Nat) : Nat := (Z.2.1 a).2
def zX (Z : aZ) : Nat := Z.2.2.1
def zU (Z : aZ) : Nat := Z.2.2.2
section TRI
variable {I : aI} {G : aL} {Z : aZ} {a k : Nat}
theorem mI_t : mI (I, G, Z) a k = I a k := id rfl
theorem mL_t : mL (I, G, Z) a k = G a k := id rfl
theorem mR_t : mR (I, G, Z) a k = zR Z a k := rfl
theorem mK_t : mK (I, G, Z) a = zK Z a := rfl
theorem mN_t : mN (I, G, Z) a = zN Z a := rfl
theorem mX_t : mX (I, G, Z) = zX Z := rfl
theorem mU_t : mU (I, G, Z) = zU Z := rfl
theorem wI_t {v : Int32} : wI (I, G, Z) a k v = (up2 I a k v, G, Z) := rfl
theorem wL_t {v : Int64} : wL (I, G, Z) a k v = (I, up2 G a k v, Z) := rfl
end TRI
theorem up2_a {α : Type} {f : Nat → Nat → α} {a k b j : Nat} {v : α} (h : b ≠ a) : up2 f a k v b j = f b j := by unfold up2; rw [if_neg h]
theorem up2_k {α : Type} {f : Nat → Nat → α} {a k j : Nat} {v : α} (h : j ≠ k) : up2 f a k v a j = f a j := by unfold up2; rw [if_pos rfl, if_neg h]
theorem up2_s {α : Type} {f : Nat → Nat → α} {a k : Nat} {v : α} : up2 f a k v a k = v := by unfold up2; rw [if_pos rfl, if_pos rfl]
theorem up2_e {α : Type} {f : Nat → Nat → α} {a k b j : Nat} {v : α} : up2 f a k v b j = if b = a then (if j = k then v else f b j) else f b j := rfl
/-! numbers -/
def iN (k : Nat) : Int32 := Int32.ofNat k
theorem iN_int {k : Nat} (h : k < 2147483648) : (iN k).toInt = k := Int32.toInt_ofNat_of_lt h
theorem iN_clamp {k : Nat} (h : k < 2147483648) : (iN k).toNatClampNeg = k := by
  rw [Int32.toNatClampNeg, iN_int h]; rfl
theorem iN_lt {a b : Nat} (ha : a < 2147483648) (hb : b < 2147483648) : iN a < iN b ↔ a < b := by
  rw [Int32.lt_iff_toInt_lt, iN_int ha, iN_int hb]; omega
theorem iN_inj {a b : Nat} (ha : a < 2147483648) (hb : b < 2147483648) : iN a = iN b ↔ a = b := by
  constructor
  · intro h
    have := congrArg Int32.toInt h
    rw [iN_int ha, iN_int hb] at this
    omega
  · intro h; rw [h]
theorem iN_succ {a : Nat} : iN a + 1 = iN (a + 1) := by
  unfold iN
  rw [Int32.ofNat_add]
  rfl
theorem iN_add {a b : Nat} : iN a + iN b = iN (a + b) := by
  unfold iN
  rw [Int32.ofNat_add]
theorem iN_nneg {a : Nat} (h : a < 2147483648) : ¬ iN a < 0 := by
  rw [Int32.lt_iff_toInt_lt, iN_int h]
  show ¬ (a : Int) < 0
  omega
theorem ib_iN {a n : Nat} (h : a < 2147483648) (hn : a < n) : ib (iN a) n := by
  rintro (q | q)
  · exact iN_nneg h q
  · rw [iN_clamp h] at q; omega
theorem iN_of {x : Int32} (h : ¬ x < 0) : ∃ n, n < 2147483648 ∧ x = iN n := by
  have h0 : 0 ≤ x.toInt := by
    have := Int32.not_lt.mp h
    rw [Int32.le_iff_toInt_le] at this
    simpa using this
  have h1 := Int32.toInt_lt x
  refine ⟨x.toInt.toNat, by omega, ?_⟩
  apply Int32.toInt_inj.mp
  rw [iN_int (by omega)]
  omega
/-- a loop that counts up: F i is the run at its head with the state of the i-th time -/
theorem loop_up {R : Type} (F : Nat → R) (N : Nat) (h : ∀ i, i < N → F i = F (i + 1)) : ∀ i, i ≤ N → F i = F N := by
  intro i hi
  obtain ⟨k, rfl⟩ := Nat.le.dest hi
  clear hi
  induction k with
  | zero => rfl
  | succ k ih =>
    rw [ih (fun j hj => h j (by omega)), h (i + k) (by omega)]
    rfl
def skl : List Nat := [10, 4, 6, 17, 12, 12, 3, 3, 3, 3, 3, 3, 3, 5, 12, 12, 12, 12, 12, 9, 12, 12, 12, 12, 12, 18, 7, 12, 12, 12, 12, 2, 16, 12, 1, 12, 12, 19, 19, 12, 11, 12, 12, 12, 12, 12, 12, 12, 12, 12, 12, 12, 13, 12, 12, 12, 12, 12, 12, 12, 12, 12, 12, 15, 15, 12, 12, 12, 12, 12, 12, 12, 12, 12, 12, 12, 12, 12, 12, 14]
def snl : List Nat := [0, 0, 0, 7, 30, 30, 0, 0, 0, 0, 0, 0, 0, 0, 144, 144, 144, 144, 144, 0, 300, 300, 300, 16, 10, 4, 0, 400, 401, 401, 401, 0, 14, 400, 0, 13, 40, 10, 10, 16, 0, 7, 7, 7, 7, 7, 7, 7, 7, 7, 30, 30, 400, 2, 6000, 6000, 20, 280, 280, 280, 280, 280, 402, 13, 300, 16, 16, 10, 144, 144, 144, 144, 144, 144, 300, 300, 300, 6640, 22, 4]
def srl : List (Nat × Nat × Nat) := [(32, 0, 33), (32, 1, 57), (32, 2, 58), (32, 3, 63), (32, 4, 66), (32, 5, 69), (32, 6, 70), (32, 7, 71), (33, 0, 34), (33, 1, 45), (33, 2, 51), (33, 3, 55), (33, 4, 56), (34, 0, 35), (34, 1, 36), (34, 2, 37), (35, 0, 38), (35, 1, 39), (35, 2, 40), (35, 3, 41), (35, 4, 42), (35, 5, 43), (35, 6, 44), (45, 0, 46), (45, 1, 47), (45, 2, 48), (45, 3, 49), (45, 4, 50), (51, 0, 52), (51, 1, 53), (51, 2, 54), (58, 0, 59), (58, 1, 60), (58, 2, 61), (58, 3, 62), (63, 0, 64), (63, 1, 65), (63, 2, 58), (66, 0, 67), (66, 1, 68), (72, 16, 73), (72, 17, 74), (72, 18, 75), (72, 19, 76), (72, 20, 77), (72, 21, 78), (72, 22, 79), (72, 23, 80), (72, 24, 81), (72, 25, 82), (72, 26, 83), (72, 35, 84), (72, 36, 85), (72, 37, 86), (72, 38, 87), (72, 39, 88), (72, 40, 89), (72, 41, 90), (72, 42, 91), (72, 43, 92), (72, 44, 93), (72, 45, 94), (72, 46, 95), (72, 47, 96), (72, 48, 97), (72, 49, 98), (72, 50, 99), (72, 55, 100), (72, 56, 101), (72, 57, 102), (72, 58, 103), (72, 59, 104), (72, 60, 105), (72, 62, 106), (72, 63, 107), (72, 64, 108), (72, 65, 109), (72, 66, 110), (72, 67, 111)]
/-- the cells that the constructors made, as they stay -/
def Shp (Z : aZ) : Prop := (∀ a, a < 80 → zK Z (a + 32) = skl.getD a 0 ∧ zN Z (a + 32) = snl.getD a 0) ∧ (∀ e ∈ srl, zR Z e.1 e.2.1 = e.2.2) ∧ 80 ≤ zX Z
theorem Shp.k32 {Z : aZ} (h : Shp Z) {I : aI} {G : aL} : mK (I, G, Z) 32 = 10 := (h.1 0 (by decide)).1
theorem Shp.k33 {Z : aZ} (h : Shp Z) {I : aI} {G : aL} : mK (I, G, Z) 33 = 4 := (h.1 1 (by decide)).1
theorem Shp.k34 {Z : aZ} (h : Shp Z) {I : aI} {G : aL} : mK (I, G, Z) 34 = 6 := (h.1 2 (by decide)).1
theorem Shp.k35 {Z : aZ} (h : Shp Z) {I : aI} {G : aL} : mK (I, G, Z) 35 = 17 := (h.1 3 (by decide)).1
theorem Shp.n35 {Z : aZ} (h : Shp Z) {I : aI} {G : aL} : mN (I, G, Z) 35 = 7 := (h.1 3 (by decide)).2
theorem Shp.i35 {Z : aZ} (h : Shp Z) {I : aI} {G : aL} {x : Int32} (hx : ib x 7) : ib x (mN (I, G, Z) 35) := by rw [h.n35]; exact hx
theorem Shp.k36 {Z : aZ} (h : Shp Z) {I : aI} {G : aL} : mK (I, G, Z) 36 = 12 := (h.1 4 (by decide)).1
theorem Shp.n36 {Z : aZ} (h : Shp Z) {I : aI} {G : aL} : mN (I, G, Z) 36 = 30 := (h.1 4 (by decide)).2
theorem Shp.i36 {Z : aZ} (h : Shp Z) {I : aI} {G : aL} {x : Int32} (hx : ib x 30) : ib x (mN (I, G, Z) 36) := by rw [h.n36]; exact hx
theorem Shp.k37 {Z : aZ} (h : Shp Z) {I : aI} {G : aL} : mK (I, G, Z) 37 = 12 := (h.1 5 (by decide)).1
theorem Shp.n37 {Z : aZ} (h : Shp Z) {I : aI} {G : aL} : mN (I, G, Z) 37 = 30 := (h.1 5 (by decide)).2
theorem Shp.i37 {Z : aZ} (h : Shp Z) {I : aI} {G : aL} {x : Int32} (hx : ib x 30) : ib x (mN (I, G, Z) 37) := by rw [h.n37]; exact hx
theorem Shp.k38 {Z : aZ} (h : Shp Z) {I : aI} {G : aL} : mK (I, G, Z) 38 = 3 := (h.1 6 (by decide)).1
theorem Shp.k39 {Z : aZ} (h : Shp Z) {I : aI} {G : aL} : mK (I, G, Z) 39 = 3 := (h.1 7 (by decide)).1
theorem Shp.k40 {Z : aZ} (h : Shp Z) {I : aI} {G : aL} : mK (I, G, Z) 40 = 3 := (h.1 8 (by decide)).1
theorem Shp.k41 {Z : aZ} (h : Shp Z) {I : aI} {G : aL} : mK (I, G, Z) 41 = 3 := (h.1 9 (by decide)).1
theorem Shp.k42 {Z : aZ} (h : Shp Z) {I : aI} {G : aL} : mK (I, G, Z) 42 = 3 := (h.1 10 (by decide)).1
theorem Shp.k43 {Z : aZ} (h : Shp Z) {I : aI} {G : aL} : mK (I, G, Z) 43 = 3 := (h.1 11 (by decide)).1
theorem Shp.k44 {Z : aZ} (h : Shp Z) {I : aI} {G : aL} : mK (I, G, Z) 44 = 3 := (h.1 12 (by decide)).1
theorem Shp.k45 {Z : aZ} (h : Shp Z) {I : aI} {G : aL} : mK (I, G, Z) 45 = 5 := (h.1 13 (by decide)).1
theorem Shp.k46 {Z : aZ} (h : Shp Z) {I : aI} {G : aL} : mK (I, G, Z) 46 = 12 := (h.1 14 (by decide)).1
theorem Shp.n46 {Z : aZ} (h : Shp Z) {I : aI} {G : aL} : mN (I, G, Z) 46 = 144 := (h.1 14 (by decide)).2
theorem Shp.i46 {Z : aZ} (h : Shp Z) {I : aI} {G : aL} {x : Int32} (hx : ib x 144) : ib x (mN (I, G, Z) 46) := by rw [h.n46]; exact hx
theorem Shp.k47 {Z : aZ} (h : Shp Z) {I : aI} {G : aL} : mK (I, G, Z) 47 = 12 := (h.1 15 (by decide)).1
theorem Shp.n47 {Z : aZ} (h : Shp Z) {I : aI} {G : aL} : mN (I, G, Z) 47 = 144 := (h.1 15 (by decide)).2
theorem Shp.i47 {Z : aZ} (h : Shp Z) {I : aI} {G : aL} {x : Int32} (hx : ib x 144) : ib x (mN (I, G, Z) 47) := by rw [h.n47]; exact hx
theorem Shp.k48 {Z : aZ} (h : Shp Z) {I : aI} {G : aL} : mK (I, G, Z) 48 = 12 := (h.1 16 (by decide)).1
theorem Shp.n48 {Z : aZ} (h : Shp Z) {I : aI} {G : aL} : mN (I, G, Z) 48 = 144 := (h.1 16 (by decide)).2
theorem Shp.i48 {Z : aZ} (h : Shp Z) {I : aI} {G : aL} {x : Int32} (hx : ib x 144) : ib x (mN (I, G, Z) 48) := by rw [h.n48]; exact hx
theorem Shp.k49 {Z : aZ} (h : Shp Z) {I : aI} {G : aL} : mK (I, G, Z) 49 = 12 := (h.1 17 (by decide)).1
theorem Shp.n49 {Z : aZ} (h : Shp Z) {I : aI} {G : aL} : mN (I, G, Z) 49 = 144 := (h.1 17 (by decide)).2
theorem Shp.i49 {Z : aZ} (h : Shp Z) {I : aI} {G : aL} {x : Int32} (hx : ib x 144) : ib x (mN (I, G, Z) 49) := by rw [h.n49]; exact hx
theorem Shp.k50 {Z : aZ} (h : Shp Z) {I : aI} {G : aL} : mK (I, G, Z) 50 = 12 := (h.1 18 (by decide)).1
theorem Shp.n50 {Z : aZ} (h : Shp Z) {I : aI} {G : aL} : mN (I, G, Z) 50 = 144 := (h.1 18 (by decide)).2
theorem Shp.i50 {Z : aZ} (h : Shp Z) {I : aI} {G : aL} {x : Int32} (hx : ib x 144) : ib x (mN (I, G, Z) 50) := by rw [h.n50]; exact hx
theorem Shp.k51 {Z : aZ} (h : Shp Z) {I : aI} {G : aL} : mK (I, G, Z) 51 = 9 := (h.1 19 (by decide)).1
theorem Shp.k52 {Z : aZ} (h : Shp Z) {I : aI} {G : aL} : mK (I, G, Z) 52 = 12 := (h.1 20 (by decide)).1
theorem Shp.n52 {Z : aZ} (h : Shp Z) {I : aI} {G : aL} : mN (I, G, Z) 52 = 300 := (h.1 20 (by decide)).2
theorem Shp.i52 {Z : aZ} (h : Shp Z) {I : aI} {G : aL} {x : Int32} (hx : ib x 300) : ib x (mN (I, G, Z) 52) := by rw [h.n52]; exact hx
theorem Shp.k53 {Z : aZ} (h : Shp Z) {I : aI} {G : aL} : mK (I, G, Z) 53 = 12 := (h.1 21 (by decide)).1
theorem Shp.n53 {Z : aZ} (h : Shp Z) {I : aI} {G : aL} : mN (I, G, Z) 53 = 300 := (h.1 21 (by decide)).2
theorem Shp.i53 {Z : aZ} (h : Shp Z) {I : aI} {G : aL} {x : Int32} (hx : ib x 300) : ib x (mN (I, G, Z) 53) := by rw [h.n53]; exact hx
theorem Shp.k54 {Z : aZ} (h : Shp Z) {I : aI} {G : aL} : mK (I, G, Z) 54 = 12 := (h.1 22 (by decide)).1
theorem Shp.n54 {Z : aZ} (h : Shp Z) {I : aI} {G : aL} : mN (I, G, Z) 54 = 300 := (h.1 22 (by decide)).2
theorem Shp.i54 {Z : aZ} (h : Shp Z) {I : aI} {G : aL} {x : Int32} (hx : ib x 300) : ib x (mN (I, G, Z) 54) := by rw [h.n54]; exact hx
theorem Shp.k55 {Z : aZ} (h : Shp Z) {I : aI} {G : aL} : mK (I, G, Z) 55 = 12 := (h.1 23 (by decide)).1
theorem Shp.n55 {Z : aZ} (h : Shp Z) {I : aI} {G : aL} : mN (I, G, Z) 55 = 16 := (h.1 23 (by decide)).2
theorem Shp.i55 {Z : aZ} (h : Shp Z) {I : aI} {G : aL} {x : Int32} (hx : ib x 16) : ib x (mN (I, G, Z) 55) := by rw [h.n55]; exact hx
theorem Shp.k56 {Z : aZ} (h : Shp Z) {I : aI} {G : aL} : mK (I, G, Z) 56 = 12 := (h.1 24 (by decide)).1
theorem Shp.n56 {Z : aZ} (h : Shp Z) {I : aI} {G : aL} : mN (I, G, Z) 56 = 10 := (h.1 24 (by decide)).2
theorem Shp.i56 {Z : aZ} (h : Shp Z) {I : aI} {G : aL} {x : Int32} (hx : ib x 10) : ib x (mN (I, G, Z) 56) := by rw [h.n56]; exact hx
theorem Shp.k57 {Z : aZ} (h : Shp Z) {I : aI} {G : aL} : mK (I, G, Z) 57 = 18 := (h.1 25 (by decide)).1
theorem Shp.n57 {Z : aZ} (h : Shp Z) {I : aI} {G : aL} : mN (I, G, Z) 57 = 4 := (h.1 25 (by decide)).2
theorem Shp.i57 {Z : aZ} (h : Shp Z) {I : aI} {G : aL} {x : Int32} (hx : ib x 4) : ib x (mN (I, G, Z) 57) := by rw [h.n57]; exact hx
theorem Shp.k58 {Z : aZ} (h : Shp Z) {I : aI} {G : aL} : mK (I, G, Z) 58 = 7 := (h.1 26 (by decide)).1
theorem Shp.k59 {Z : aZ} (h : Shp Z) {I : aI} {G : aL} : mK (I, G, Z) 59 = 12 := (h.1 27 (by decide)).1
theorem Shp.n59 {Z : aZ} (h : Shp Z) {I : aI} {G : aL} : mN (I, G, Z) 59 = 400 := (h.1 27 (by decide)).2
theorem Shp.i59 {Z : aZ} (h : Shp Z) {I : aI} {G : aL} {x : Int32} (hx : ib x 400) : ib x (mN (I, G, Z) 59) := by rw [h.n59]; exact hx
theorem Shp.k60 {Z : aZ} (h : Shp Z) {I : aI} {G : aL} : mK (I, G, Z) 60 = 12 := (h.1 28 (by decide)).1
theorem Shp.n60 {Z : aZ} (h : Shp Z) {I : aI} {G : aL} : mN (I, G, Z) 60 = 401 := (h.1 28 (by decide)).2
theorem Shp.i60 {Z : aZ} (h : Shp Z) {I : aI} {G : aL} {x : Int32} (hx : ib x 401) : ib x (mN (I, G, Z) 60) := by rw [h.n60]; exact hx
theorem Shp.k61 {Z : aZ} (h : Shp Z) {I : aI} {G : aL} : mK (I, G, Z) 61 = 12 := (h.1 29 (by decide)).1
theorem Shp.n61 {Z : aZ} (h : Shp Z) {I : aI} {G : aL} : mN (I, G, Z) 61 = 401 := (h.1 29 (by decide)).2
theorem Shp.i61 {Z : aZ} (h : Shp Z) {I : aI} {G : aL} {x : Int32} (hx : ib x 401) : ib x (mN (I, G, Z) 61) := by rw [h.n61]; exact hx
theorem Shp.k62 {Z : aZ} (h : Shp Z) {I : aI} {G : aL} : mK (I, G, Z) 62 = 12 := (h.1 30 (by decide)).1
theorem Shp.n62 {Z : aZ} (h : Shp Z) {I : aI} {G : aL} : mN (I, G, Z) 62 = 401 := (h.1 30 (by decide)).2
theorem Shp.i62 {Z : aZ} (h : Shp Z) {I : aI} {G : aL} {x : Int32} (hx : ib x 401) : ib x (mN (I, G, Z) 62) := by rw [h.n62]; exact hx
theorem Shp.k63 {Z : aZ} (h : Shp Z) {I : aI} {G : aL} : mK (I, G, Z) 63 = 2 := (h.1 31 (by decide)).1
theorem Shp.k64 {Z : aZ} (h : Shp Z) {I : aI} {G : aL} : mK (I, G, Z) 64 = 16 := (h.1 32 (by decide)).1
theorem Shp.n64 {Z : aZ} (h : Shp Z) {I : aI} {G : aL} : mN (I, G, Z) 64 = 14 := (h.1 32 (by decide)).2
theorem Shp.i64 {Z : aZ} (h : Shp Z) {I : aI} {G : aL} {x : Int32} (hx : ib x 14) : ib x (mN (I, G, Z) 64) := by rw [h.n64]; exact hx
theorem Shp.k65 {Z : aZ} (h : Shp Z) {I : aI} {G : aL} : mK (I, G, Z) 65 = 12 := (h.1 33 (by decide)).1
theorem Shp.n65 {Z : aZ} (h : Shp Z) {I : aI} {G : aL} : mN (I, G, Z) 65 = 400 := (h.1 33 (by decide)).2
theorem Shp.i65 {Z : aZ} (h : Shp Z) {I : aI} {G : aL} {x : Int32} (hx : ib x 400) : ib x (mN (I, G, Z) 65) := by rw [h.n65]; exact hx
theorem Shp.k66 {Z : aZ} (h : Shp Z) {I : aI} {G : aL} : mK (I, G, Z) 66 = 1 := (h.1 34 (by decide)).1
theorem Shp.k67 {Z : aZ} (h : Shp Z) {I : aI} {G : aL} : mK (I, G, Z) 67 = 12 := (h.1 35 (by decide)).1
theorem Shp.n67 {Z : aZ} (h : Shp Z) {I : aI} {G : aL} : mN (I, G, Z) 67 = 13 := (h.1 35 (by decide)).2
theorem Shp.i67 {Z : aZ} (h : Shp Z) {I : aI} {G : aL} {x : Int32} (hx : ib x 13) : ib x (mN (I, G, Z) 67) := by rw [h.n67]; exact hx
theorem Shp.k68 {Z : aZ} (h : Shp Z) {I : aI} {G : aL} : mK (I, G, Z) 68 = 12 := (h.1 36 (by decide)).1
theorem Shp.n68 {Z : aZ} (h : Shp Z) {I : aI} {G : aL} : mN (I, G, Z) 68 = 40 := (h.1 36 (by decide)).2
theorem Shp.i68 {Z : aZ} (h : Shp Z) {I : aI} {G : aL} {x : Int32} (hx : ib x 40) : ib x (mN (I, G, Z) 68) := by rw [h.n68]; exact hx
theorem Shp.k69 {Z : aZ} (h : Shp Z) {I : aI} {G : aL} : mK (I, G, Z) 69 = 19 := (h.1 37 (by decide)).1
theorem Shp.n69 {Z : aZ} (h : Shp Z) {I : aI} {G : aL} : mN (I, G, Z) 69 = 10 := (h.1 37 (by decide)).2
theorem Shp.i69 {Z : aZ} (h : Shp Z) {I : aI} {G : aL} {x : Int32} (hx : ib x 10) : ib x (mN (I, G, Z) 69) := by rw [h.n69]; exact hx
theorem Shp.k70 {Z : aZ} (h : Shp Z) {I : aI} {G : aL} : mK (I, G, Z) 70 = 19 := (h.1 38 (by decide)).1
theorem Shp.n70 {Z : aZ} (h : Shp Z) {I : aI} {G : aL} : mN (I, G, Z) 70 = 10 := (h.1 38 (by decide)).2
theorem Shp.i70 {Z : aZ} (h : Shp Z) {I : aI} {G : aL} {x : Int32} (hx : ib x 10) : ib x (mN (I, G, Z) 70) := by rw [h.n70]; exact hx
theorem Shp.k71 {Z : aZ} (h : Shp Z) {I : aI} {G : aL} : mK (I, G, Z) 71 = 12 := (h.1 39 (by decide)).1
theorem Shp.n71 {Z : aZ} (h : Shp Z) {I : aI} {G : aL} : mN (I, G, Z) 71 = 16 := (h.1 39 (by decide)).2
theorem Shp.i71 {Z : aZ} (h : Shp Z) {I : aI} {G : aL} {x : Int32} (hx : ib x 16) : ib x (mN (I, G, Z) 71) := by rw [h.n71]; exact hx
theorem Shp.k72 {Z : aZ} (h : Shp Z) {I : aI} {G : aL} : mK (I, G, Z) 72 = 11 := (h.1 40 (by decide)).1
theorem Shp.k73 {Z : aZ} (h : Shp Z) {I : aI} {G : aL} : mK (I, G, Z) 73 = 12 := (h.1 41 (by decide)).1
theorem Shp.n73 {Z : aZ} (h : Shp Z) {I : aI} {G : aL} : mN (I, G, Z) 73 = 7 := (h.1 41 (by decide)).2
theorem Shp.i73 {Z : aZ} (h : Shp Z) {I : aI} {G : aL} {x : Int32} (hx : ib x 7) : ib x (mN (I, G, Z) 73) := by rw [h.n73]; exact hx
theorem Shp.k74 {Z : aZ} (h : Shp Z) {I : aI} {G : aL} : mK (I, G, Z) 74 = 12 := (h.1 42 (by decide)).1
theorem Shp.n74 {Z : aZ} (h : Shp Z) {I : aI} {G : aL} : mN (I, G, Z) 74 = 7 := (h.1 42 (by decide)).2
theorem Shp.i74 {Z : aZ} (h : Shp Z) {I : aI} {G : aL} {x : Int32} (hx : ib x 7) : ib x (mN (I, G, Z) 74) := by rw [h.n74]; exact hx
theorem Shp.k75 {Z : aZ} (h : Shp Z) {I : aI} {G : aL} : mK (I, G, Z) 75 = 12 := (h.1 43 (by decide)).1
theorem Shp.n75 {Z : aZ} (h : Shp Z) {I : aI} {G : aL} : mN (I, G, Z) 75 = 7 := (h.1 43 (by decide)).2
theorem Shp.i75 {Z : aZ} (h : Shp Z) {I : aI} {G : aL} {x : Int32} (hx : ib x 7) : ib x (mN (I, G, Z) 75) := by rw [h.n75]; exact hx
theorem Shp.k76 {Z : aZ} (h : Shp Z) {I : aI} {G : aL} : mK (I, G, Z) 76 = 12 := (h.1 44 (by decide)).1
theorem Shp.n76 {Z : aZ} (h : Shp Z) {I : aI} {G : aL} : mN (I, G, Z) 76 = 7 := (h.1 44 (by decide)).2
theorem Shp.i76 {Z : aZ} (h : Shp Z) {I : aI} {G : aL} {x : Int32} (hx : ib x 7) : ib x (mN (I, G, Z) 76) := by rw [h.n76]; exact hx
theorem Shp.k77 {Z : aZ} (h : Shp Z) {I : aI} {G : aL} : mK (I, G, Z) 77 = 12 := (h.1 45 (by decide)).1
theorem Shp.n77 {Z : aZ} (h : Shp Z) {I : aI} {G : aL} : mN (I, G, Z) 77 = 7 := (h.1 45 (by decide)).2
theorem Shp.i77 {Z : aZ} (h : Shp Z) {I : aI} {G : aL} {x : Int32} (hx : ib x 7) : ib x (mN (I, G, Z) 77) := by rw [h.n77]; exact hx
theorem Shp.k78 {Z : aZ} (h : Shp Z) {I : aI} {G : aL} : mK (I, G, Z) 78 = 12 := (h.1 46 (by decide)).1
theorem Shp.n78 {Z : aZ} (h : Shp Z) {I : aI} {G : aL} : mN (I, G, Z) 78 = 7 := (h.1 46 (by decide)).2
theorem Shp.i78 {Z : aZ} (h : Shp Z) {I : aI} {G : aL} {x : Int32} (hx : ib x 7) : ib x (mN (I, G, Z) 78) := by rw [h.n78]; exact hx
theorem Shp.k79 {Z : aZ} (h : Shp Z) {I : aI} {G : aL} : mK (I, G, Z) 79 = 12 := (h.1 47 (by decide)).1
theorem Shp.n79 {Z : aZ} (h : Shp Z) {I : aI} {G : aL} : mN (I, G, Z) 79 = 7 := (h.1 47 (by decide)).2
theorem Shp.i79 {Z : aZ} (h : Shp Z) {I : aI} {G : aL} {x : Int32} (hx : ib x 7) : ib x (mN (I, G, Z) 79) := by rw [h.n79]; exact hx
theorem Shp.k80 {Z : aZ} (h : Shp Z) {I : aI} {G : aL} : mK (I, G, Z) 80 = 12 := (h.1 48 (by decide)).1
theorem Shp.n80 {Z : aZ} (h : Shp Z) {I : aI} {G : aL} : mN (I, G, Z) 80 = 7 := (h.1 48 (by decide)).2
theorem Shp.i80 {Z : aZ} (h : Shp Z) {I : aI} {G : aL} {x : Int32} (hx : ib x 7) : ib x (mN (I, G, Z) 80) := by rw [h.n80]; exact hx
theorem Shp.k81 {Z : aZ} (h : Shp Z) {I : aI} {G : aL} : mK (I, G, Z) 81 = 12 := (h.1 49 (by decide)).1
theorem Shp.n81 {Z : aZ} (h : Shp Z) {I : aI} {G : aL} : mN (I, G, Z) 81 = 7 := (h.1 49 (by decide)).2
theorem Shp.i81 {Z : aZ} (h : Shp Z) {I : aI} {G : aL} {x : Int32} (hx : ib x 7) : ib x (mN (I, G, Z) 81) := by rw [h.n81]; exact hx
theorem Shp.k82 {Z : aZ} (h : Shp Z) {I : aI} {G : aL} : mK (I, G, Z) 82 = 12 := (h.1 50 (by decide)).1
theorem Shp.n82 {Z : aZ} (h : Shp Z) {I : aI} {G : aL} : mN (I, G, Z) 82 = 30 := (h.1 50 (by decide)).2
theorem Shp.i82 {Z : aZ} (h : Shp Z) {I : aI} {G : aL} {x : Int32} (hx : ib x 30) : ib x (mN (I, G, Z) 82) := by rw [h.n82]; exact hx
theorem Shp.k83 {Z : aZ} (h : Shp Z) {I : aI} {G : aL} : mK (I, G, Z) 83 = 12 := (h.1 51 (by decide)).1
theorem Shp.n83 {Z : aZ} (h : Shp Z) {I : aI} {G : aL} : mN (I, G, Z) 83 = 30 := (h.1 51 (by decide)).2
theorem Shp.i83 {Z : aZ} (h : Shp Z) {I : aI} {G : aL} {x : Int32} (hx : ib x 30) : ib x (mN (I, G, Z) 83) := by rw [h.n83]; exact hx
theorem Shp.k84 {Z : aZ} (h : Shp Z) {I : aI} {G : aL} : mK (I, G, Z) 84 = 13 := (h.1 52 (by decide)).1
theorem Shp.n84 {Z : aZ} (h : Shp Z) {I : aI} {G : aL} : mN (I, G, Z) 84 = 400 := (h.1 52 (by decide)).2
theorem Shp.i84 {Z : aZ} (h : Shp Z) {I : aI} {G : aL} {x : Int32} (hx : ib x 400) : ib x (mN (I, G, Z) 84) := by rw [h.n84]; exact hx
theorem Shp.k85 {Z : aZ} (h : Shp Z) {I : aI} {G : aL} : mK (I, G, Z) 85 = 12 := (h.1 53 (by decide)).1
theorem Shp.n85 {Z : aZ} (h : Shp Z) {I : aI} {G : aL} : mN (I, G, Z) 85 = 2 := (h.1 53 (by decide)).2
theorem Shp.i85 {Z : aZ} (h : Shp Z) {I : aI} {G : aL} {x : Int32} (hx : ib x 2) : ib x (mN (I, G, Z) 85) := by rw [h.n85]; exact hx
theorem Shp.k86 {Z : aZ} (h : Shp Z) {I : aI} {G : aL} : mK (I, G, Z) 86 = 12 := (h.1 54 (by decide)).1
theorem Shp.n86 {Z : aZ} (h : Shp Z) {I : aI} {G : aL} : mN (I, G, Z) 86 = 6000 := (h.1 54 (by decide)).2
theorem Shp.i86 {Z : aZ} (h : Shp Z) {I : aI} {G : aL} {x : Int32} (hx : ib x 6000) : ib x (mN (I, G, Z) 86) := by rw [h.n86]; exact hx
theorem Shp.k87 {Z : aZ} (h : Shp Z) {I : aI} {G : aL} : mK (I, G, Z) 87 = 12 := (h.1 55 (by decide)).1
theorem Shp.n87 {Z : aZ} (h : Shp Z) {I : aI} {G : aL} : mN (I, G, Z) 87 = 6000 := (h.1 55 (by decide)).2
theorem Shp.i87 {Z : aZ} (h : Shp Z) {I : aI} {G : aL} {x : Int32} (hx : ib x 6000) : ib x (mN (I, G, Z) 87) := by rw [h.n87]; exact hx
theorem Shp.k88 {Z : aZ} (h : Shp Z) {I : aI} {G : aL} : mK (I, G, Z) 88 = 12 := (h.1 56 (by decide)).1
theorem Shp.n88 {Z : aZ} (h : Shp Z) {I : aI} {G : aL} : mN (I, G, Z) 88 = 20 := (h.1 56 (by decide)).2
theorem Shp.i88 {Z : aZ} (h : Shp Z) {I : aI} {G : aL} {x : Int32} (hx : ib x 20) : ib x (mN (I, G, Z) 88) := by rw [h.n88]; exact hx
theorem Shp.k89 {Z : aZ} (h : Shp Z) {I : aI} {G : aL} : mK (I, G, Z) 89 = 12 := (h.1 57 (by decide)).1
theorem Shp.n89 {Z : aZ} (h : Shp Z) {I : aI} {G : aL} : mN (I, G, Z) 89 = 280 := (h.1 57 (by decide)).2
theorem Shp.i89 {Z : aZ} (h : Shp Z) {I : aI} {G : aL} {x : Int32} (hx : ib x 280) : ib x (mN (I, G, Z) 89) := by rw [h.n89]; exact hx
theorem Shp.k90 {Z : aZ} (h : Shp Z) {I : aI} {G : aL} : mK (I, G, Z) 90 = 12 := (h.1 58 (by decide)).1
theorem Shp.n90 {Z : aZ} (h : Shp Z) {I : aI} {G : aL} : mN (I, G, Z) 90 = 280 := (h.1 58 (by decide)).2
theorem Shp.i90 {Z : aZ} (h : Shp Z) {I : aI} {G : aL} {x : Int32} (hx : ib x 280) : ib x (mN (I, G, Z) 90) := by rw [h.n90]; exact hx
theorem Shp.k91 {Z : aZ} (h : Shp Z) {I : aI} {G : aL} : mK (I, G, Z) 91 = 12 := (h.1 59 (by decide)).1
theorem Shp.n91 {Z : aZ} (h : Shp Z) {I : aI} {G : aL} : mN (I, G, Z) 91 = 280 := (h.1 59 (by decide)).2
theorem Shp.i91 {Z : aZ} (h : Shp Z) {I : aI} {G : aL} {x : Int32} (hx : ib x 280) : ib x (mN (I, G, Z) 91) := by rw [h.n91]; exact hx
theorem Shp.k92 {Z : aZ} (h : Shp Z) {I : aI} {G : aL} : mK (I, G, Z) 92 = 12 := (h.1 60 (by decide)).1
theorem Shp.n92 {Z : aZ} (h : Shp Z) {I : aI} {G : aL} : mN (I, G, Z) 92 = 280 := (h.1 60 (by decide)).2
theorem Shp.i92 {Z : aZ} (h : Shp Z) {I : aI} {G : aL} {x : Int32} (hx : ib x 280) : ib x (mN (I, G, Z) 92) := by rw [h.n92]; exact hx
theorem Shp.k93 {Z : aZ} (h : Shp Z) {I : aI} {G : aL} : mK (I, G, Z) 93 = 12 := (h.1 61 (by decide)).1
theorem Shp.n93 {Z : aZ} (h : Shp Z) {I : aI} {G : aL} : mN (I, G, Z) 93 = 280 := (h.1 61 (by decide)).2
theorem Shp.i93 {Z : aZ} (h : Shp Z) {I : aI} {G : aL} {x : Int32} (hx : ib x 280) : ib x (mN (I, G, Z) 93) := by rw [h.n93]; exact hx
theorem Shp.k94 {Z : aZ} (h : Shp Z) {I : aI} {G : aL} : mK (I, G, Z) 94 = 12 := (h.1 62 (by decide)).1
theorem Shp.n94 {Z : aZ} (h : Shp Z) {I : aI} {G : aL} : mN (I, G, Z) 94 = 402 := (h.1 62 (by decide)).2
theorem Shp.i94 {Z : aZ} (h : Shp Z) {I : aI} {G : aL} {x : Int32} (hx : ib x 402) : ib x (mN (I, G, Z) 94) := by rw [h.n94]; exact hx
theorem Shp.k95 {Z : aZ} (h : Shp Z) {I : aI} {G : aL} : mK (I, G, Z) 95 = 15 := (h.1 63 (by decide)).1
theorem Shp.n95 {Z : aZ} (h : Shp Z) {I : aI} {G : aL} : mN (I, G, Z) 95 = 13 := (h.1 63 (by decide)).2
theorem Shp.i95 {Z : aZ} (h : Shp Z) {I : aI} {G : aL} {x : Int32} (hx : ib x 13) : ib x (mN (I, G, Z) 95) := by rw [h.n95]; exact hx
theorem Shp.k96 {Z : aZ} (h : Shp Z) {I : aI} {G : aL} : mK (I, G, Z) 96 = 15 := (h.1 64 (by decide)).1
theorem Shp.n96 {Z : aZ} (h : Shp Z) {I : aI} {G : aL} : mN (I, G, Z) 96 = 300 := (h.1 64 (by decide)).2
theorem Shp.i96 {Z : aZ} (h : Shp Z) {I : aI} {G : aL} {x : Int32} (hx : ib x 300) : ib x (mN (I, G, Z) 96) := by rw [h.n96]; exact hx
theorem Shp.k97 {Z : aZ} (h : Shp Z) {I : aI} {G : aL} : mK (I, G, Z) 97 = 12 := (h.1 65 (by decide)).1
theorem Shp.n97 {Z : aZ} (h : Shp Z) {I : aI} {G : aL} : mN (I, G, Z) 97 = 16 := (h.1 65 (by decide)).2
theorem Shp.i97 {Z : aZ} (h : Shp Z) {I : aI} {G : aL} {x : Int32} (hx : ib x 16) : ib x (mN (I, G, Z) 97) := by rw [h.n97]; exact hx
theorem Shp.k98 {Z : aZ} (h : Shp Z) {I : aI} {G : aL} : mK (I, G, Z) 98 = 12 := (h.1 66 (by decide)).1
theorem Shp.n98 {Z : aZ} (h : Shp Z) {I : aI} {G : aL} : mN (I, G, Z) 98 = 16 := (h.1 66 (by decide)).2
theorem Shp.i98 {Z : aZ} (h : Shp Z) {I : aI} {G : aL} {x : Int32} (hx : ib x 16) : ib x (mN (I, G, Z) 98) := by rw [h.n98]; exact hx
theorem Shp.k99 {Z : aZ} (h : Shp Z) {I : aI} {G : aL} : mK (I, G, Z) 99 = 12 := (h.1 67 (by decide)).1
theorem Shp.n99 {Z : aZ} (h : Shp Z) {I : aI} {G : aL} : mN (I, G, Z) 99 = 10 := (h.1 67 (by decide)).2
theorem Shp.i99 {Z : aZ} (h : Shp Z) {I : aI} {G : aL} {x : Int32} (hx : ib x 10) : ib x (mN (I, G, Z) 99) := by rw [h.n99]; exact hx
theorem Shp.k100 {Z : aZ} (h : Shp Z) {I : aI} {G : aL} : mK (I, G, Z) 100 = 12 := (h.1 68 (by decide)).1
theorem Shp.n100 {Z : aZ} (h : Shp Z) {I : aI} {G : aL} : mN (I, G, Z) 100 = 144 := (h.1 68 (by decide)).2
theorem Shp.i100 {Z : aZ} (h : Shp Z) {I : aI} {G : aL} {x : Int32} (hx : ib x 144) : ib x (mN (I, G, Z) 100) := by rw [h.n100]; exact hx
theorem Shp.k101 {Z : aZ} (h : Shp Z) {I : aI} {G : aL} : mK (I, G, Z) 101 = 12 := (h.1 69 (by decide)).1
theorem Shp.n101 {Z : aZ} (h : Shp Z) {I : aI} {G : aL} : mN (I, G, Z) 101 = 144 := (h.1 69 (by decide)).2
theorem Shp.i101 {Z : aZ} (h : Shp Z) {I : aI} {G : aL} {x : Int32} (hx : ib x 144) : ib x (mN (I, G, Z) 101) := by rw [h.n101]; exact hx
theorem Shp.k102 {Z : aZ} (h : Shp Z) {I : aI} {G : aL} : mK (I, G, Z) 102 = 12 := (h.1 70 (by decide)).1
theorem Shp.n102 {Z : aZ} (h : Shp Z) {I : aI} {G : aL} : mN (I, G, Z) 102 = 144 := (h.1 70 (by decide)).2
theorem Shp.i102 {Z : aZ} (h : Shp Z) {I : aI} {G : aL} {x : Int32} (hx : ib x 144) : ib x (mN (I, G, Z) 102) := by rw [h.n102]; exact hx
theorem Shp.k103 {Z : aZ} (h : Shp Z) {I : aI} {G : aL} : mK (I, G, Z) 103 = 12 := (h.1 71 (by decide)).1
theorem Shp.n103 {Z : aZ} (h : Shp Z) {I : aI} {G : aL} : mN (I, G, Z) 103 = 144 := (h.1 71 (by decide)).2
theorem Shp.i103 {Z : aZ} (h : Shp Z) {I : aI} {G : aL} {x : Int32} (hx : ib x 144) : ib x (mN (I, G, Z) 103) := by rw [h.n103]; exact hx
theorem Shp.k104 {Z : aZ} (h : Shp Z) {I : aI} {G : aL} : mK (I, G, Z) 104 = 12 := (h.1 72 (by decide)).1
theorem Shp.n104 {Z : aZ} (h : Shp Z) {I : aI} {G : aL} : mN (I, G, Z) 104 = 144 := (h.1 72 (by decide)).2
theorem Shp.i104 {Z : aZ} (h : Shp Z) {I : aI} {G : aL} {x : Int32} (hx : ib x 144) : ib x (mN (I, G, Z) 104) := by rw [h.n104]; exact hx
theorem Shp.k105 {Z : aZ} (h : Shp Z) {I : aI} {G : aL} : mK (I, G, Z) 105 = 12 := (h.1 73 (by decide)).1
theorem Shp.n105 {Z : aZ} (h : Shp Z) {I : aI} {G : aL} : mN (I, G, Z) 105 = 144 := (h.1 73 (by decide)).2
theorem Shp.i105 {Z : aZ} (h : Shp Z) {I : aI} {G : aL} {x : Int32} (hx : ib x 144) : ib x (mN (I, G, Z) 105) := by rw [h.n105]; exact hx
theorem Shp.k106 {Z : aZ} (h : Shp Z) {I : aI} {G : aL} : mK (I, G, Z) 106 = 12 := (h.1 74 (by decide)).1
theorem Shp.n106 {Z : aZ} (h : Shp Z) {I : aI} {G : aL} : mN (I, G, Z) 106 = 300 := (h.1 74 (by decide)).2
theorem Shp.i106 {Z : aZ} (h : Shp Z) {I : aI} {G : aL} {x : Int32} (hx : ib x 300) : ib x (mN (I, G, Z) 106) := by rw [h.n106]; exact hx
theorem Shp.k107 {Z : aZ} (h : Shp Z) {I : aI} {G : aL} : mK (I, G, Z) 107 = 12 := (h.1 75 (by decide)).1
theorem Shp.n107 {Z : aZ} (h : Shp Z) {I : aI} {G : aL} : mN (I, G, Z) 107 = 300 := (h.1 75 (by decide)).2
theorem Shp.i107 {Z : aZ} (h : Shp Z) {I : aI} {G : aL} {x : Int32} (hx : ib x 300) : ib x (mN (I, G, Z) 107) := by rw [h.n107]; exact hx
theorem Shp.k108 {Z : aZ} (h : Shp Z) {I : aI} {G : aL} : mK (I, G, Z) 108 = 12 := (h.1 76 (by decide)).1
theorem Shp.n108 {Z : aZ} (h : Shp Z) {I : aI} {G : aL} : mN (I, G, Z) 108 = 300 := (h.1 76 (by decide)).2
theorem Shp.i108 {Z : aZ} (h : Shp Z) {I : aI} {G : aL} {x : Int32} (hx : ib x 300) : ib x (mN (I, G, Z) 108) := by rw [h.n108]; exact hx
theorem Shp.k109 {Z : aZ} (h : Shp Z) {I : aI} {G : aL} : mK (I, G, Z) 109 = 12 := (h.1 77 (by decide)).1
theorem Shp.n109 {Z : aZ} (h : Shp Z) {I : aI} {G : aL} : mN (I, G, Z) 109 = 6640 := (h.1 77 (by decide)).2
theorem Shp.i109 {Z : aZ} (h : Shp Z) {I : aI} {G : aL} {x : Int32} (hx : ib x 6640) : ib x (mN (I, G, Z) 109) := by rw [h.n109]; exact hx
theorem Shp.k110 {Z : aZ} (h : Shp Z) {I : aI} {G : aL} : mK (I, G, Z) 110 = 12 := (h.1 78 (by decide)).1
theorem Shp.n110 {Z : aZ} (h : Shp Z) {I : aI} {G : aL} : mN (I, G, Z) 110 = 22 := (h.1 78 (by decide)).2
theorem Shp.i110 {Z : aZ} (h : Shp Z) {I : aI} {G : aL} {x : Int32} (hx : ib x 22) : ib x (mN (I, G, Z) 110) := by rw [h.n110]; exact hx
theorem Shp.k111 {Z : aZ} (h : Shp Z) {I : aI} {G : aL} : mK (I, G, Z) 111 = 14 := (h.1 79 (by decide)).1
theorem Shp.n111 {Z : aZ} (h : Shp Z) {I : aI} {G : aL} : mN (I, G, Z) 111 = 4 := (h.1 79 (by decide)).2
theorem Shp.i111 {Z : aZ} (h : Shp Z) {I : aI} {G : aL} {x : Int32} (hx : ib x 4) : ib x (mN (I, G, Z) 111) := by rw [h.n111]; exact hx
theorem Shp.r32_0 {Z : aZ} (h : Shp Z) {I : aI} {G : aL} : mR (I, G, Z) 32 0 = 33 := h.2.1 (32, 0, 33) (by decide)
theorem Shp.kr32_0 {Z : aZ} (h : Shp Z) {I : aI} {G : aL} : mK (I, G, Z) (mR (I, G, Z) 32 0) = 4 := by rw [h.r32_0]; exact h.k33
theorem Shp.r32_1 {Z : aZ} (h : Shp Z) {I : aI} {G : aL} : mR (I, G, Z) 32 1 = 57 := h.2.1 (32, 1, 57) (by decide)
theorem Shp.kr32_1 {Z : aZ} (h : Shp Z) {I : aI} {G : aL} : mK (I, G, Z) (mR (I, G, Z) 32 1) = 18 := by rw [h.r32_1]; exact h.k57
theorem Shp.nr32_1 {Z : aZ} (h : Shp Z) {I : aI} {G : aL} : mN (I, G, Z) (mR (I, G, Z) 32 1) = 4 := by rw [h.r32_1]; exact h.n57
theorem Shp.ir32_1 {Z : aZ} (h : Shp Z) {I : aI} {G : aL} {x : Int32} (hx : ib x 4) : ib x (mN (I, G, Z) (mR (I, G, Z) 32 1)) := by rw [h.r32_1]; exact h.i57 hx
theorem Shp.r32_2 {Z : aZ} (h : Shp Z) {I : aI} {G : aL} : mR (I, G, Z) 32 2 = 58 := h.2.1 (32, 2, 58) (by decide)
theorem Shp.kr32_2 {Z : aZ} (h : Shp Z) {I : aI} {G : aL} : mK (I, G, Z) (mR (I, G, Z) 32 2) = 7 := by rw [h.r32_2]; exact h.k58
theorem Shp.r32_3 {Z : aZ} (h : Shp Z) {I : aI} {G : aL} : mR (I, G, Z) 32 3 = 63 := h.2.1 (32, 3, 63) (by decide)
theorem Shp.kr32_3 {Z : aZ} (h : Shp Z) {I : aI} {G : aL} : mK (I, G, Z) (mR (I, G, Z) 32 3) = 2 := by rw [h.r32_3]; exact h.k63
theorem Shp.r32_4 {Z : aZ} (h : Shp Z) {I : aI} {G : aL} : mR (I, G, Z) 32 4 = 66 := h.2.1 (32, 4, 66) (by decide)
theorem Shp.kr32_4 {Z : aZ} (h : Shp Z) {I : aI} {G : aL} : mK (I, G, Z) (mR (I, G, Z) 32 4) = 1 := by rw [h.r32_4]; exact h.k66
theorem Shp.r32_5 {Z : aZ} (h : Shp Z) {I : aI} {G : aL} : mR (I, G, Z) 32 5 = 69 := h.2.1 (32, 5, 69) (by decide)
theorem Shp.kr32_5 {Z : aZ} (h : Shp Z) {I : aI} {G : aL} : mK (I, G, Z) (mR (I, G, Z) 32 5) = 19 := by rw [h.r32_5]; exact h.k69
theorem Shp.nr32_5 {Z : aZ} (h : Shp Z) {I : aI} {G : aL} : mN (I, G, Z) (mR (I, G, Z) 32 5) = 10 := by rw [h.r32_5]; exact h.n69
theorem Shp.ir32_5 {Z : aZ} (h : Shp Z) {I : aI} {G : aL} {x : Int32} (hx : ib x 10) : ib x (mN (I, G, Z) (mR (I, G, Z) 32 5)) := by rw [h.r32_5]; exact h.i69 hx
theorem Shp.r32_6 {Z : aZ} (h : Shp Z) {I : aI} {G : aL} : mR (I, G, Z) 32 6 = 70 := h.2.1 (32, 6, 70) (by decide)
theorem Shp.kr32_6 {Z : aZ} (h : Shp Z) {I : aI} {G : aL} : mK (I, G, Z) (mR (I, G, Z) 32 6) = 19 := by rw [h.r32_6]; exact h.k70
theorem Shp.nr32_6 {Z : aZ} (h : Shp Z) {I : aI} {G : aL} : mN (I, G, Z) (mR (I, G, Z) 32 6) = 10 := by rw [h.r32_6]; exact h.n70
theorem Shp.ir32_6 {Z : aZ} (h : Shp Z) {I : aI} {G : aL} {x : Int32} (hx : ib x 10) : ib x (mN (I, G, Z) (mR (I, G, Z) 32 6)) := by rw [h.r32_6]; exact h.i70 hx
theorem Shp.r32_7 {Z : aZ} (h : Shp Z) {I : aI} {G : aL} : mR (I, G, Z) 32 7 = 71 := h.2.1 (32, 7, 71) (by decide)
theorem Shp.kr32_7 {Z : aZ} (h : Shp Z) {I : aI} {G : aL} : mK (I, G, Z) (mR (I, G, Z) 32 7) = 12 := by rw [h.r32_7]; exact h.k71
theorem Shp.nr32_7 {Z : aZ} (h : Shp Z) {I : aI} {G : aL} : mN (I, G, Z) (mR (I, G, Z) 32 7) = 16 := by rw [h.r32_7]; exact h.n71
theorem Shp.ir32_7 {Z : aZ} (h : Shp Z) {I : aI} {G : aL} {x : Int32} (hx : ib x 16) : ib x (mN (I, G, Z) (mR (I, G, Z) 32 7)) := by rw [h.r32_7]; exact h.i71 hx
theorem Shp.r33_0 {Z : aZ} (h : Shp Z) {I : aI} {G : aL} : mR (I, G, Z) 33 0 = 34 := h.2.1 (33, 0, 34) (by decide)
theorem Shp.kr33_0 {Z : aZ} (h : Shp Z) {I : aI} {G : aL} : mK (I, G, Z) (mR (I, G, Z) 33 0) = 6 := by rw [h.r33_0]; exact h.k34
theorem Shp.r33_1 {Z : aZ} (h : Shp Z) {I : aI} {G : aL} : mR (I, G, Z) 33 1 = 45 := h.2.1 (33, 1, 45) (by decide)
theorem Shp.kr33_1 {Z : aZ} (h : Shp Z) {I : aI} {G : aL} : mK (I, G, Z) (mR (I, G, Z) 33 1) = 5 := by rw [h.r33_1]; exact h.k45
theorem Shp.r33_2 {Z : aZ} (h : Shp Z) {I : aI} {G : aL} : mR (I, G, Z) 33 2 = 51 := h.2.1 (33, 2, 51) (by decide)
theorem Shp.kr33_2 {Z : aZ} (h : Shp Z) {I : aI} {G : aL} : mK (I, G, Z) (mR (I, G, Z) 33 2) = 9 := by rw [h.r33_2]; exact h.k51
theorem Shp.r33_3 {Z : aZ} (h : Shp Z) {I : aI} {G : aL} : mR (I, G, Z) 33 3 = 55 := h.2.1 (33, 3, 55) (by decide)
theorem Shp.kr33_3 {Z : aZ} (h : Shp Z) {I : aI} {G : aL} : mK (I, G, Z) (mR (I, G, Z) 33 3) = 12 := by rw [h.r33_3]; exact h.k55
theorem Shp.nr33_3 {Z : aZ} (h : Shp Z) {I : aI} {G : aL} : mN (I, G, Z) (mR (I, G, Z) 33 3) = 16 := by rw [h.r33_3]; exact h.n55
theorem Shp.ir33_3 {Z : aZ} (h : Shp Z) {I : aI} {G : aL} {x : Int32} (hx : ib x 16) : ib x (mN (I, G, Z) (mR (I, G, Z) 33 3)) := by rw [h.r33_3]; exact h.i55 hx
theorem Shp.r33_4 {Z : aZ} (h : Shp Z) {I : aI} {G : aL} : mR (I, G, Z) 33 4 = 56 := h.2.1 (33, 4, 56) (by decide)
theorem Shp.kr33_4 {Z : aZ} (h : Shp Z) {I : aI} {G : aL} : mK (I, G, Z) (mR (I, G, Z) 33 4) = 12 := by rw [h.r33_4]; exact h.k56
theorem Shp.nr33_4 {Z : aZ} (h : Shp Z) {I : aI} {G : aL} : mN (I, G, Z) (mR (I, G, Z) 33 4) = 10 := by rw [h.r33_4]; exact h.n56
theorem Shp.ir33_4 {Z : aZ} (h : Shp Z) {I : aI} {G : aL} {x : Int32} (hx : ib x 10) : ib x (mN (I, G, Z) (mR (I, G, Z) 33 4)) := by rw [h.r33_4]; exact h.i56 hx
theorem Shp.r34_0 {Z : aZ} (h : Shp Z) {I : aI} {G : aL} : mR (I, G, Z) 34 0 = 35 := h.2.1 (34, 0, 35) (by decide)
theorem Shp.kr34_0 {Z : aZ} (h : Shp Z) {I : aI} {G : aL} : mK (I, G, Z) (mR (I, G, Z) 34 0) = 17 := by rw [h.r34_0]; exact h.k35
theorem Shp.nr34_0 {Z : aZ} (h : Shp Z) {I : aI} {G : aL} : mN (I, G, Z) (mR (I, G, Z) 34 0) = 7 := by rw [h.r34_0]; exact h.n35
theorem Shp.ir34_0 {Z : aZ} (h : Shp Z) {I : aI} {G : aL} {x : Int32} (hx : ib x 7) : ib x (mN (I, G, Z) (mR (I, G, Z) 34 0)) := by rw [h.r34_0]; exact h.i35 hx
theorem Shp.r34_1 {Z : aZ} (h : Shp Z) {I : aI} {G : aL} : mR (I, G, Z) 34 1 = 36 := h.2.1 (34, 1, 36) (by decide)
theorem Shp.kr34_1 {Z : aZ} (h : Shp Z) {I : aI} {G : aL} : mK (I, G, Z) (mR (I, G, Z) 34 1) = 12 := by rw [h.r34_1]; exact h.k36
theorem Shp.nr34_1 {Z : aZ} (h : Shp Z) {I : aI} {G : aL} : mN (I, G, Z) (mR (I, G, Z) 34 1) = 30 := by rw [h.r34_1]; exact h.n36
theorem Shp.ir34_1 {Z : aZ} (h : Shp Z) {I : aI} {G : aL} {x : Int32} (hx : ib x 30) : ib x (mN (I, G, Z) (mR (I, G, Z) 34 1)) := by rw [h.r34_1]; exact h.i36 hx
theorem Shp.r34_2 {Z : aZ} (h : Shp Z) {I : aI} {G : aL} : mR (I, G, Z) 34 2 = 37 := h.2.1 (34, 2, 37) (by decide)
theorem Shp.kr34_2 {Z : aZ} (h : Shp Z) {I : aI} {G : aL} : mK (I, G, Z) (mR (I, G, Z) 34 2) = 12 := by rw [h.r34_2]; exact h.k37
theorem Shp.nr34_2 {Z : aZ} (h : Shp Z) {I : aI} {G : aL} : mN (I, G, Z) (mR (I, G, Z) 34 2) = 30 := by rw [h.r34_2]; exact h.n37
theorem Shp.ir34_2 {Z : aZ} (h : Shp Z) {I : aI} {G : aL} {x : Int32} (hx : ib x 30) : ib x (mN (I, G, Z) (mR (I, G, Z) 34 2)) := by rw [h.r34_2]; exact h.i37 hx
theorem Shp.r35_0 {Z : aZ} (h : Shp Z) {I : aI} {G : aL} : mR (I, G, Z) 35 0 = 38 := h.2.1 (35, 0, 38) (by decide)
theorem Shp.kr35_0 {Z : aZ} (h : Shp Z) {I : aI} {G : aL} : mK (I, G, Z) (mR (I, G, Z) 35 0) = 3 := by rw [h.r35_0]; exact h.k38
theorem Shp.r35_1 {Z : aZ} (h : Shp Z) {I : aI} {G : aL} : mR (I, G, Z) 35 1 = 39 := h.2.1 (35, 1, 39) (by decide)
theorem Shp.kr35_1 {Z : aZ} (h : Shp Z) {I : aI} {G : aL} : mK (I, G, Z) (mR (I, G, Z) 35 1) = 3 := by rw [h.r35_1]; exact h.k39
theorem Shp.r35_2 {Z : aZ} (h : Shp Z) {I : aI} {G : aL} : mR (I, G, Z) 35 2 = 40 := h.2.1 (35, 2, 40) (by decide)
theorem Shp.kr35_2 {Z : aZ} (h : Shp Z) {I : aI} {G : aL} : mK (I, G, Z) (mR (I, G, Z) 35 2) = 3 := by rw [h.r35_2]; exact h.k40
theorem Shp.r35_3 {Z : aZ} (h : Shp Z) {I : aI} {G : aL} : mR (I, G, Z) 35 3 = 41 := h.2.1 (35, 3, 41) (by decide)
theorem Shp.kr35_3 {Z : aZ} (h : Shp Z) {I : aI} {G : aL} : mK (I, G, Z) (mR (I, G, Z) 35 3) = 3 := by rw [h.r35_3]; exact h.k41
theorem Shp.r35_4 {Z : aZ} (h : Shp Z) {I : aI} {G : aL} : mR (I, G, Z) 35 4 = 42 := h.2.1 (35, 4, 42) (by decide)
theorem Shp.kr35_4 {Z : aZ} (h : Shp Z) {I : aI} {G : aL} : mK (I, G, Z) (mR (I, G, Z) 35 4) = 3 := by rw [h.r35_4]; exact h.k42
theorem Shp.r35_5 {Z : aZ} (h : Shp Z) {I : aI} {G : aL} : mR (I, G, Z) 35 5 = 43 := h.2.1 (35, 5, 43) (by decide)
theorem Shp.kr35_5 {Z : aZ} (h : Shp Z) {I : aI} {G : aL} : mK (I, G, Z) (mR (I, G, Z) 35 5) = 3 := by rw [h.r35_5]; exact h.k43
theorem Shp.r35_6 {Z : aZ} (h : Shp Z) {I : aI} {G : aL} : mR (I, G, Z) 35 6 = 44 := h.2.1 (35, 6, 44) (by decide)
theorem Shp.kr35_6 {Z : aZ} (h : Shp Z) {I : aI} {G : aL} : mK (I, G, Z) (mR (I, G, Z) 35 6) = 3 := by rw [h.r35_6]; exact h.k44
theorem Shp.r45_0 {Z : aZ} (h : Shp Z) {I : aI} {G : aL} : mR (I, G, Z) 45 0 = 46 := h.2.1 (45, 0, 46) (by decide)
theorem Shp.kr45_0 {Z : aZ} (h : Shp Z) {I : aI} {G : aL} : mK (I, G, Z) (mR (I, G, Z) 45 0) = 12 := by rw [h.r45_0]; exact h.k46
theorem Shp.nr45_0 {Z : aZ} (h : Shp Z) {I : aI} {G : aL} : mN (I, G, Z) (mR (I, G, Z) 45 0) = 144 := by rw [h.r45_0]; exact h.n46
theorem Shp.ir45_0 {Z : aZ} (h : Shp Z) {I : aI} {G : aL} {x : Int32} (hx : ib x 144) : ib x (mN (I, G, Z) (mR (I, G, Z) 45 0)) := by rw [h.r45_0]; exact h.i46 hx
theorem Shp.r45_1 {Z : aZ} (h : Shp Z) {I : aI} {G : aL} : mR (I, G, Z) 45 1 = 47 := h.2.1 (45, 1, 47) (by decide)
theorem Shp.kr45_1 {Z : aZ} (h : Shp Z) {I : aI} {G : aL} : mK (I, G, Z) (mR (I, G, Z) 45 1) = 12 := by rw [h.r45_1]; exact h.k47
theorem Shp.nr45_1 {Z : aZ} (h : Shp Z) {I : aI} {G : aL} : mN (I, G, Z) (mR (I, G, Z) 45 1) = 144 := by rw [h.r45_1]; exact h.n47
theorem Shp.ir45_1 {Z : aZ} (h : Shp Z) {I : aI} {G : aL} {x : Int32} (hx : ib x 144) : ib x (mN (I, G, Z) (mR (I, G, Z) 45 1)) := by rw [h.r45_1]; exact h.i47 hx
theorem Shp.r45_2 {Z : aZ} (h : Shp Z) {I : aI} {G : aL} : mR (I, G, Z) 45 2 = 48 := h.2.1 (45, 2, 48) (by decide)
theorem Shp.kr45_2 {Z : aZ} (h : Shp Z) {I : aI} {G : aL} : mK (I, G, Z) (mR (I, G, Z) 45 2) = 12 := by rw [h.r45_2]; exact h.k48
theorem Shp.nr45_2 {Z : aZ} (h : Shp Z) {I : aI} {G : aL} : mN (I, G, Z) (mR (I, G, Z) 45 2) = 144 := by rw [h.r45_2]; exact h.n48
theorem Shp.ir45_2 {Z : aZ} (h : Shp Z) {I : aI} {G : aL} {x : Int32} (hx : ib x 144) : ib x (mN (I, G, Z) (mR (I, G, Z) 45 2)) := by rw [h.r45_2]; exact h.i48 hx
theorem Shp.r45_3 {Z : aZ} (h : Shp Z) {I : aI} {G : aL} : mR (I, G, Z) 45 3 = 49 := h.2.1 (45, 3, 49) (by decide)
theorem Shp.kr45_3 {Z : aZ} (h : Shp Z) {I : aI} {G : aL} : mK (I, G, Z) (mR (I, G, Z) 45 3) = 12 := by rw [h.r45_3]; exact h.k49
theorem Shp.nr45_3 {Z : aZ} (h : Shp Z) {I : aI} {G : aL} : mN (I, G, Z) (mR (I, G, Z) 45 3) = 144 := by rw [h.r45_3]; exact h.n49
theorem Shp.ir45_3 {Z : aZ} (h : Shp Z) {I : aI} {G : aL} {x : Int32} (hx : ib x 144) : ib x (mN (I, G, Z) (mR (I, G, Z) 45 3)) := by rw [h.r45_3]; exact h.i49 hx
theorem Shp.r45_4 {Z : aZ} (h : Shp Z) {I : aI} {G : aL} : mR (I, G, Z) 45 4 = 50 := h.2.1 (45, 4, 50) (by decide)
theorem Shp.kr45_4 {Z : aZ} (h : Shp Z) {I : aI} {G : aL} : mK (I, G, Z) (mR (I, G, Z) 45 4) = 12 := by rw [h.r45_4]; exact h.k50
theorem Shp.nr45_4 {Z : aZ} (h : Shp Z) {I : aI} {G : aL} : mN (I, G, Z) (mR (I, G, Z) 45 4) = 144 := by rw [h.r45_4]; exact h.n50
theorem Shp.ir45_4 {Z : aZ} (h : Shp Z) {I : aI} {G : aL} {x : Int32} (hx : ib x 144) : ib x (mN (I, G, Z) (mR (I, G, Z) 45 4)) := by rw [h.r45_4]; exact h.i50 hx
theorem Shp.r51_0 {Z : aZ} (h : Shp Z) {I : aI} {G : aL} : mR (I, G, Z) 51 0 = 52 := h.2.1 (51, 0, 52) (by decide)
theorem Shp.kr51_0 {Z : aZ} (h : Shp Z) {I : aI} {G : aL} : mK (I, G, Z) (mR (I, G, Z) 51 0) = 12 := by rw [h.r51_0]; exact h.k52
theorem Shp.nr51_0 {Z : aZ} (h : Shp Z) {I : aI} {G : aL} : mN (I, G, Z) (mR (I, G, Z) 51 0) = 300 := by rw [h.r51_0]; exact h.n52
theorem Shp.ir51_0 {Z : aZ} (h : Shp Z) {I : aI} {G : aL} {x : Int32} (hx : ib x 300) : ib x (mN (I, G, Z) (mR (I, G, Z) 51 0)) := by rw [h.r51_0]; exact h.i52 hx
theorem Shp.r51_1 {Z : aZ} (h : Shp Z) {I : aI} {G : aL} : mR (I, G, Z) 51 1 = 53 := h.2.1 (51, 1, 53) (by decide)
theorem Shp.kr51_1 {Z : aZ} (h : Shp Z) {I : aI} {G : aL} : mK (I, G, Z) (mR (I, G, Z) 51 1) = 12 := by rw [h.r51_1]; exact h.k53
theorem Shp.nr51_1 {Z : aZ} (h : Shp Z) {I : aI} {G : aL} : mN (I, G, Z) (mR (I, G, Z) 51 1) = 300 := by rw [h.r51_1]; exact h.n53
theorem Shp.ir51_1 {Z : aZ} (h : Shp Z) {I : aI} {G : aL} {x : Int32} (hx : ib x 300) : ib x (mN (I, G, Z) (mR (I, G, Z) 51 1)) := by rw [h.r51_1]; exact h.i53 hx
theorem Shp.r51_2 {Z : aZ} (h : Shp Z) {I : aI} {G : aL} : mR (I, G, Z) 51 2 = 54 := h.2.1 (51, 2, 54) (by decide)
theorem Shp.kr51_2 {Z : aZ} (h : Shp Z) {I : aI} {G : aL} : mK (I, G, Z) (mR (I, G, Z) 51 2) = 12 := by rw [h.r51_2]; exact h.k54
theorem Shp.nr51_2 {Z : aZ} (h : Shp Z) {I : aI} {G : aL} : mN (I, G, Z) (mR (I, G, Z) 51 2) = 300 := by rw [h.r51_2]; exact h.n54
theorem Shp.ir51_2 {Z : aZ} (h : Shp Z) {I : aI} {G : aL} {x : Int32} (hx : ib x 300) : ib x (mN (I, G, Z) (mR (I, G, Z) 51 2)) := by rw [h.r51_2]; exact h.i54 hx
theorem Shp.r58_0 {Z : aZ} (h : Shp Z) {I : aI} {G : aL} : mR (I, G, Z) 58 0 = 59 := h.2.1 (58, 0, 59) (by decide)
theorem Shp.kr58_0 {Z : aZ} (h : Shp Z) {I : aI} {G : aL} : mK (I, G, Z) (mR (I, G, Z) 58 0) = 12 := by rw [h.r58_0]; exact h.k59
theorem Shp.nr58_0 {Z : aZ} (h : Shp Z) {I : aI} {G : aL} : mN (I, G, Z) (mR (I, G, Z) 58 0) = 400 := by rw [h.r58_0]; exact h.n59
theorem Shp.ir58_0 {Z : aZ} (h : Shp Z) {I : aI} {G : aL} {x : Int32} (hx : ib x 400) : ib x (mN (I, G, Z) (mR (I, G, Z) 58 0)) := by rw [h.r58_0]; exact h.i59 hx
theorem Shp.r58_1 {Z : aZ} (h : Shp Z) {I : aI} {G : aL} : mR (I, G, Z) 58 1 = 60 := h.2.1 (58, 1, 60) (by decide)
theorem Shp.kr58_1 {Z : aZ} (h : Shp Z) {I : aI} {G : aL} : mK (I, G, Z) (mR (I, G, Z) 58 1) = 12 := by rw [h.r58_1]; exact h.k60
theorem Shp.nr58_1 {Z : aZ} (h : Shp Z) {I : aI} {G : aL} : mN (I, G, Z) (mR (I, G, Z) 58 1) = 401 := by rw [h.r58_1]; exact h.n60
theorem Shp.ir58_1 {Z : aZ} (h : Shp Z) {I : aI} {G : aL} {x : Int32} (hx : ib x 401) : ib x (mN (I, G, Z) (mR (I, G, Z) 58 1)) := by rw [h.r58_1]; exact h.i60 hx
theorem Shp.r58_2 {Z : aZ} (h : Shp Z) {I : aI} {G : aL} : mR (I, G, Z) 58 2 = 61 := h.2.1 (58, 2, 61) (by decide)
theorem Shp.kr58_2 {Z : aZ} (h : Shp Z) {I : aI} {G : aL} : mK (I, G, Z) (mR (I, G, Z) 58 2) = 12 := by rw [h.r58_2]; exact h.k61
theorem Shp.nr58_2 {Z : aZ} (h : Shp Z) {I : aI} {G : aL} : mN (I, G, Z) (mR (I, G, Z) 58 2) = 401 := by rw [h.r58_2]; exact h.n61
theorem Shp.ir58_2 {Z : aZ} (h : Shp Z) {I : aI} {G : aL} {x : Int32} (hx : ib x 401) : ib x (mN (I, G, Z) (mR (I, G, Z) 58 2)) := by rw [h.r58_2]; exact h.i61 hx
theorem Shp.r58_3 {Z : aZ} (h : Shp Z) {I : aI} {G : aL} : mR (I, G, Z) 58 3 = 62 := h.2.1 (58, 3, 62) (by decide)
theorem Shp.kr58_3 {Z : aZ} (h : Shp Z) {I : aI} {G : aL} : mK (I, G, Z) (mR (I, G, Z) 58 3) = 12 := by rw [h.r58_3]; exact h.k62
theorem Shp.nr58_3 {Z : aZ} (h : Shp Z) {I : aI} {G : aL} : mN (I, G, Z) (mR (I, G, Z) 58 3) = 401 := by rw [h.r58_3]; exact h.n62
theorem Shp.ir58_3 {Z : aZ} (h : Shp Z) {I : aI} {G : aL} {x : Int32} (hx : ib x 401) : ib x (mN (I, G, Z) (mR (I, G, Z) 58 3)) := by rw [h.r58_3]; exact h.i62 hx
theorem Shp.r63_0 {Z : aZ} (h : Shp Z) {I : aI} {G : aL} : mR (I, G, Z) 63 0 = 64 := h.2.1 (63, 0, 64) (by decide)
theorem Shp.kr63_0 {Z : aZ} (h : Shp Z) {I : aI} {G : aL} : mK (I, G, Z) (mR (I, G, Z) 63 0) = 16 := by rw [h.r63_0]; exact h.k64
theorem Shp.nr63_0 {Z : aZ} (h : Shp Z) {I : aI} {G : aL} : mN (I, G, Z) (mR (I, G, Z) 63 0) = 14 := by rw [h.r63_0]; exact h.n64
theorem Shp.ir63_0 {Z : aZ} (h : Shp Z) {I : aI} {G : aL} {x : Int32} (hx : ib x 14) : ib x (mN (I, G, Z) (mR (I, G, Z) 63 0)) := by rw [h.r63_0]; exact h.i64 hx
theorem Shp.r63_1 {Z : aZ} (h : Shp Z) {I : aI} {G : aL} : mR (I, G, Z) 63 1 = 65 := h.2.1 (63, 1, 65) (by decide)
theorem Shp.kr63_1 {Z : aZ} (h : Shp Z) {I : aI} {G : aL} : mK (I, G, Z) (mR (I, G, Z) 63 1) = 12 := by rw [h.r63_1]; exact h.k65
theorem Shp.nr63_1 {Z : aZ} (h : Shp Z) {I : aI} {G : aL} : mN (I, G, Z) (mR (I, G, Z) 63 1) = 400 := by rw [h.r63_1]; exact h.n65
theorem Shp.ir63_1 {Z : aZ} (h : Shp Z) {I : aI} {G : aL} {x : Int32} (hx : ib x 400) : ib x (mN (I, G, Z) (mR (I, G, Z) 63 1)) := by rw [h.r63_1]; exact h.i65 hx
theorem Shp.r63_2 {Z : aZ} (h : Shp Z) {I : aI} {G : aL} : mR (I, G, Z) 63 2 = 58 := h.2.1 (63, 2, 58) (by decide)
theorem Shp.kr63_2 {Z : aZ} (h : Shp Z) {I : aI} {G : aL} : mK (I, G, Z) (mR (I, G, Z) 63 2) = 7 := by rw [h.r63_2]; exact h.k58
theorem Shp.r66_0 {Z : aZ} (h : Shp Z) {I : aI} {G : aL} : mR (I, G, Z) 66 0 = 67 := h.2.1 (66, 0, 67) (by decide)
theorem Shp.kr66_0 {Z : aZ} (h : Shp Z) {I : aI} {G : aL} : mK (I, G, Z) (mR (I, G, Z) 66 0) = 12 := by rw [h.r66_0]; exact h.k67
theorem Shp.nr66_0 {Z : aZ} (h : Shp Z) {I : aI} {G : aL} : mN (I, G, Z) (mR (I, G, Z) 66 0) = 13 := by rw [h.r66_0]; exact h.n67
theorem Shp.ir66_0 {Z : aZ} (h : Shp Z) {I : aI} {G : aL} {x : Int32} (hx : ib x 13) : ib x (mN (I, G, Z) (mR (I, G, Z) 66 0)) := by rw [h.r66_0]; exact h.i67 hx
theorem Shp.r66_1 {Z : aZ} (h : Shp Z) {I : aI} {G : aL} : mR (I, G, Z) 66 1 = 68 := h.2.1 (66, 1, 68) (by decide)
theorem Shp.kr66_1 {Z : aZ} (h : Shp Z) {I : aI} {G : aL} : mK (I, G, Z) (mR (I, G, Z) 66 1) = 12 := by rw [h.r66_1]; exact h.k68
theorem Shp.nr66_1 {Z : aZ} (h : Shp Z) {I : aI} {G : aL} : mN (I, G, Z) (mR (I, G, Z) 66 1) = 40 := by rw [h.r66_1]; exact h.n68
theorem Shp.ir66_1 {Z : aZ} (h : Shp Z) {I : aI} {G : aL} {x : Int32} (hx : ib x 40) : ib x (mN (I, G, Z) (mR (I, G, Z) 66 1)) := by rw [h.r66_1]; exact h.i68 hx
theorem Shp.r72_16 {Z : aZ} (h : Shp Z) {I : aI} {G : aL} : mR (I, G, Z) 72 16 = 73 := h.2.1 (72, 16, 73) (by decide)
theorem Shp.kr72_16 {Z : aZ} (h : Shp Z) {I : aI} {G : aL} : mK (I, G, Z) (mR (I, G, Z) 72 16) = 12 := by rw [h.r72_16]; exact h.k73
theorem Shp.nr72_16 {Z : aZ} (h : Shp Z) {I : aI} {G : aL} : mN (I, G, Z) (mR (I, G, Z) 72 16) = 7 := by rw [h.r72_16]; exact h.n73
theorem Shp.ir72_16 {Z : aZ} (h : Shp Z) {I : aI} {G : aL} {x : Int32} (hx : ib x 7) : ib x (mN (I, G, Z) (mR (I, G, Z) 72 16)) := by rw [h.r72_16]; exact h.i73 hx
theorem Shp.r72_17 {Z : aZ} (h : Shp Z) {I : aI} {G : aL} : mR (I, G, Z) 72 17 = 74 := h.2.1 (72, 17, 74) (by decide)
theorem Shp.kr72_17 {Z : aZ} (h : Shp Z) {I : aI} {G : aL} : mK (I, G, Z) (mR (I, G, Z) 72 17) = 12 := by rw [h.r72_17]; exact h.k74
theorem Shp.nr72_17 {Z : aZ} (h : Shp Z) {I : aI} {G : aL} : mN (I, G, Z) (mR (I, G, Z) 72 17) = 7 := by rw [h.r72_17]; exact h.n74
theorem Shp.ir72_17 {Z : aZ} (h : Shp Z) {I : aI} {G : aL} {x : Int32} (hx : ib x 7) : ib x (mN (I, G, Z) (mR (I, G, Z) 72 17)) := by rw [h.r72_17]; exact h.i74 hx
theorem Shp.r72_18 {Z : aZ} (h : Shp Z) {I : aI} {G : aL} : mR (I, G, Z) 72 18 = 75 := h.2.1 (72, 18, 75) (by decide)
theorem Shp.kr72_18 {Z : aZ} (h : Shp Z) {I : aI} {G : aL} : mK (I, G, Z) (mR (I, G, Z) 72 18) = 12 := by rw [h.r72_18]; exact h.k75
theorem Shp.nr72_18 {Z : aZ} (h : Shp Z) {I : aI} {G : aL} : mN (I, G, Z) (mR (I, G, Z) 72 18) = 7 := by rw [h.r72_18]; exact h.n75
theorem Shp.ir72_18 {Z : aZ} (h : Shp Z) {I : aI} {G : aL} {x : Int32} (hx : ib x 7) : ib x (mN (I, G, Z) (mR (I, G, Z) 72 18)) := by rw [h.r72_18]; exact h.i75 hx
theorem Shp.r72_19 {Z : aZ} (h : Shp Z) {I : aI} {G : aL} : mR (I, G, Z) 72 19 = 76 := h.2.1 (72, 19, 76) (by decide)
theorem Shp.kr72_19 {Z : aZ} (h : Shp Z) {I : aI} {G : aL} : mK (I, G, Z) (mR (I, G, Z) 72 19) = 12 := by rw [h.r72_19]; exact h.k76
theorem Shp.nr72_19 {Z : aZ} (h : Shp Z) {I : aI} {G : aL} : mN (I, G, Z) (mR (I, G, Z) 72 19) = 7 := by rw [h.r72_19]; exact h.n76
theorem Shp.ir72_19 {Z : aZ} (h : Shp Z) {I : aI} {G : aL} {x : Int32} (hx : ib x 7) : ib x (mN (I, G, Z) (mR (I, G, Z) 72 19)) := by rw [h.r72_19]; exact h.i76 hx
theorem Shp.r72_20 {Z : aZ} (h : Shp Z) {I : aI} {G : aL} : mR (I, G, Z) 72 20 = 77 := h.2.1 (72, 20, 77) (by decide)
theorem Shp.kr72_20 {Z : aZ} (h : Shp Z) {I : aI} {G : aL} : mK (I, G, Z) (mR (I, G, Z) 72 20) = 12 := by rw [h.r72_20]; exact h.k77
theorem Shp.nr72_20 {Z : aZ} (h : Shp Z) {I : aI} {G : aL} : mN (I, G, Z) (mR (I, G, Z) 72 20) = 7 := by rw [h.r72_20]; exact h.n77
theorem Shp.ir72_20 {Z : aZ} (h : Shp Z) {I : aI} {G : aL} {x : Int32} (hx : ib x 7) : ib x (mN (I, G, Z) (mR (I, G, Z) 72 20)) := by rw [h.r72_20]; exact h.i77 hx
theorem Shp.r72_21 {Z : aZ} (h : Shp Z) {I : aI} {G : aL} : mR (I, G, Z) 72 21 = 78 := h.2.1 (72, 21, 78) (by decide)
theorem Shp.kr72_21 {Z : aZ} (h : Shp Z) {I : aI} {G : aL} : mK (I, G, Z) (mR (I, G, Z) 72 21) = 12 := by rw [h.r72_21]; exact h.k78
theorem Shp.nr72_21 {Z : aZ} (h : Shp Z) {I : aI} {G : aL} : mN (I, G, Z) (mR (I, G, Z) 72 21) = 7 := by rw [h.r72_21]; exact h.n78
theorem Shp.ir72_21 {Z : aZ} (h : Shp Z) {I : aI} {G : aL} {x : Int32} (hx : ib x 7) : ib x (mN (I, G, Z) (mR (I, G, Z) 72 21)) := by rw [h.r72_21]; exact h.i78 hx
theorem Shp.r72_22 {Z : aZ} (h : Shp Z) {I : aI} {G : aL} : mR (I, G, Z) 72 22 = 79 := h.2.1 (72, 22, 79) (by decide)
theorem Shp.kr72_22 {Z : aZ} (h : Shp Z) {I : aI} {G : aL} : mK (I, G, Z) (mR (I, G, Z) 72 22) = 12 := by rw [h.r72_22]; exact h.k79
theorem Shp.nr72_22 {Z : aZ} (h : Shp Z) {I : aI} {G : aL} : mN (I, G, Z) (mR (I, G, Z) 72 22) = 7 := by rw [h.r72_22]; exact h.n79
theorem Shp.ir72_22 {Z : aZ} (h : Shp Z) {I : aI} {G : aL} {x : Int32} (hx : ib x 7) : ib x (mN (I, G, Z) (mR (I, G, Z) 72 22)) := by rw [h.r72_22]; exact h.i79 hx
theorem Shp.r72_23 {Z : aZ} (h : Shp Z) {I : aI} {G : aL} : mR (I, G, Z) 72 23 = 80 := h.2.1 (72, 23, 80) (by decide)
theorem Shp.kr72_23 {Z : aZ} (h : Shp Z) {I : aI} {G : aL} : mK (I, G, Z) (mR (I, G, Z) 72 23) = 12 := by rw [h.r72_23]; exact h.k80
theorem Shp.nr72_23 {Z : aZ} (h : Shp Z) {I : aI} {G : aL} : mN (I, G, Z) (mR (I, G, Z) 72 23) = 7 := by rw [h.r72_23]; exact h.n80
theorem Shp.ir72_23 {Z : aZ} (h : Shp Z) {I : aI} {G : aL} {x : Int32} (hx : ib x 7) : ib x (mN (I, G, Z) (mR (I, G, Z) 72 23)) := by rw [h.r72_23]; exact h.i80 hx
theorem Shp.r72_24 {Z : aZ} (h : Shp Z) {I : aI} {G : aL} : mR (I, G, Z) 72 24 = 81 := h.2.1 (72, 24, 81) (by decide)
theorem Shp.kr72_24 {Z : aZ} (h : Shp Z) {I : aI} {G : aL} : mK (I, G, Z) (mR (I, G, Z) 72 24) = 12 := by rw [h.r72_24]; exact h.k81
theorem Shp.nr72_24 {Z : aZ} (h : Shp Z) {I : aI} {G : aL} : mN (I, G, Z) (mR (I, G, Z) 72 24) = 7 := by rw [h.r72_24]; exact h.n81
theorem Shp.ir72_24 {Z : aZ} (h : Shp Z) {I : aI} {G : aL} {x : Int32} (hx : ib x 7) : ib x (mN (I, G, Z) (mR (I, G, Z) 72 24)) := by rw [h.r72_24]; exact h.i81 hx
theorem Shp.r72_25 {Z : aZ} (h : Shp Z) {I : aI} {G : aL} : mR (I, G, Z) 72 25 = 82 := h.2.1 (72, 25, 82) (by decide)
theorem Shp.kr72_25 {Z : aZ} (h : Shp Z) {I : aI} {G : aL} : mK (I, G, Z) (mR (I, G, Z) 72 25) = 12 := by rw [h.r72_25]; exact h.k82
theorem Shp.nr72_25 {Z : aZ} (h : Shp Z) {I : aI} {G : aL} : mN (I, G, Z) (mR (I, G, Z) 72 25) = 30 := by rw [h.r72_25]; exact h.n82
theorem Shp.ir72_25 {Z : aZ} (h : Shp Z) {I : aI} {G : aL} {x : Int32} (hx : ib x 30) : ib x (mN (I, G, Z) (mR (I, G, Z) 72 25)) := by rw [h.r72_25]; exact h.i82 hx
theorem Shp.r72_26 {Z : aZ} (h : Shp Z) {I : aI} {G : aL} : mR (I, G, Z) 72 26 = 83 := h.2.1 (72, 26, 83) (by decide)
theorem Shp.kr72_26 {Z : aZ} (h : Shp Z) {I : aI} {G : aL} : mK (I, G, Z) (mR (I, G, Z) 72 26) = 12 := by rw [h.r72_26]; exact h.k83
theorem Shp.nr72_26 {Z : aZ} (h : Shp Z) {I : aI} {G : aL} : mN (I, G, Z) (mR (I, G, Z) 72 26) = 30 := by rw [h.r72_26]; exact h.n83
theorem Shp.ir72_26 {Z : aZ} (h : Shp Z) {I : aI} {G : aL} {x : Int32} (hx : ib x 30) : ib x (mN (I, G, Z) (mR (I, G, Z) 72 26)) := by rw [h.r72_26]; exact h.i83 hx
theorem Shp.r72_35 {Z : aZ} (h : Shp Z) {I : aI} {G : aL} : mR (I, G, Z) 72 35 = 84 := h.2.1 (72, 35, 84) (by decide)
theorem Shp.kr72_35 {Z : aZ} (h : Shp Z) {I : aI} {G : aL} : mK (I, G, Z) (mR (I, G, Z) 72 35) = 13 := by rw [h.r72_35]; exact h.k84
theorem Shp.nr72_35 {Z : aZ} (h : Shp Z) {I : aI} {G : aL} : mN (I, G, Z) (mR (I, G, Z) 72 35) = 400 := by rw [h.r72_35]; exact h.n84
theorem Shp.ir72_35 {Z : aZ} (h : Shp Z) {I : aI} {G : aL} {x : Int32} (hx : ib x 400) : ib x (mN (I, G, Z) (mR (I, G, Z) 72 35)) := by rw [h.r72_35]; exact h.i84 hx
theorem Shp.r72_36 {Z : aZ} (h : Shp Z) {I : aI} {G : aL} : mR (I, G, Z) 72 36 = 85 := h.2.1 (72, 36, 85) (by decide)
theorem Shp.kr72_36 {Z : aZ} (h : Shp Z) {I : aI} {G : aL} : mK (I, G, Z) (mR (I, G, Z) 72 36) = 12 := by rw [h.r72_36]; exact h.k85
theorem Shp.nr72_36 {Z : aZ} (h : Shp Z) {I : aI} {G : aL} : mN (I, G, Z) (mR (I, G, Z) 72 36) = 2 := by rw [h.r72_36]; exact h.n85
theorem Shp.ir72_36 {Z : aZ} (h : Shp Z) {I : aI} {G : aL} {x : Int32} (hx : ib x 2) : ib x (mN (I, G, Z) (mR (I, G, Z) 72 36)) := by rw [h.r72_36]; exact h.i85 hx
theorem Shp.r72_37 {Z : aZ} (h : Shp Z) {I : aI} {G : aL} : mR (I, G, Z) 72 37 = 86 := h.2.1 (72, 37, 86) (by decide)
theorem Shp.kr72_37 {Z : aZ} (h : Shp Z) {I : aI} {G : aL} : mK (I, G, Z) (mR (I, G, Z) 72 37) = 12 := by rw [h.r72_37]; exact h.k86
theorem Shp.nr72_37 {Z : aZ} (h : Shp Z) {I : aI} {G : aL} : mN (I, G, Z) (mR (I, G, Z) 72 37) = 6000 := by rw [h.r72_37]; exact h.n86
theorem Shp.ir72_37 {Z : aZ} (h : Shp Z) {I : aI} {G : aL} {x : Int32} (hx : ib x 6000) : ib x (mN (I, G, Z) (mR (I, G, Z) 72 37)) := by rw [h.r72_37]; exact h.i86 hx
theorem Shp.r72_38 {Z : aZ} (h : Shp Z) {I : aI} {G : aL} : mR (I, G, Z) 72 38 = 87 := h.2.1 (72, 38, 87) (by decide)
theorem Shp.kr72_38 {Z : aZ} (h : Shp Z) {I : aI} {G : aL} : mK (I, G, Z) (mR (I, G, Z) 72 38) = 12 := by rw [h.r72_38]; exact h.k87
theorem Shp.nr72_38 {Z : aZ} (h : Shp Z) {I : aI} {G : aL} : mN (I, G, Z) (mR (I, G, Z) 72 38) = 6000 := by rw [h.r72_38]; exact h.n87
theorem Shp.ir72_38 {Z : aZ} (h : Shp Z) {I : aI} {G : aL} {x : Int32} (hx : ib x 6000) : ib x (mN (I, G, Z) (mR (I, G, Z) 72 38)) := by rw [h.r72_38]; exact h.i87 hx
theorem Shp.r72_39 {Z : aZ} (h : Shp Z) {I : aI} {G : aL} : mR (I, G, Z) 72 39 = 88 := h.2.1 (72, 39, 88) (by decide)
theorem Shp.kr72_39 {Z : aZ} (h : Shp Z) {I : aI} {G : aL} : mK (I, G, Z) (mR (I, G, Z) 72 39) = 12 := by rw [h.r72_39]; exact h.k88
theorem Shp.nr72_39 {Z : aZ} (h : Shp Z) {I : aI} {G : aL} : mN (I, G, Z) (mR (I, G, Z) 72 39) = 20 := by rw [h.r72_39]; exact h.n88
theorem Shp.ir72_39 {Z : aZ} (h : Shp Z) {I : aI} {G : aL} {x : Int32} (hx : ib x 20) : ib x (mN (I, G, Z) (mR (I, G, Z) 72 39)) := by rw [h.r72_39]; exact h.i88 hx
theorem Shp.r72_40 {Z : aZ} (h : Shp Z) {I : aI} {G : aL} : mR (I, G, Z) 72 40 = 89 := h.2.1 (72, 40, 89) (by decide)
theorem Shp.kr72_40 {Z : aZ} (h : Shp Z) {I : aI} {G : aL} : mK (I, G, Z) (mR (I, G, Z) 72 40) = 12 := by rw [h.r72_40]; exact h.k89
theorem Shp.nr72_40 {Z : aZ} (h : Shp Z) {I : aI} {G : aL} : mN (I, G, Z) (mR (I, G, Z) 72 40) = 280 := by rw [h.r72_40]; exact h.n89
theorem Shp.ir72_40 {Z : aZ} (h : Shp Z) {I : aI} {G : aL} {x : Int32} (hx : ib x 280) : ib x (mN (I, G, Z) (mR (I, G, Z) 72 40)) := by rw [h.r72_40]; exact h.i89 hx
theorem Shp.r72_41 {Z : aZ} (h : Shp Z) {I : aI} {G : aL} : mR (I, G, Z) 72 41 = 90 := h.2.1 (72, 41, 90) (by decide)
theorem Shp.kr72_41 {Z : aZ} (h : Shp Z) {I : aI} {G : aL} : mK (I, G, Z) (mR (I, G, Z) 72 41) = 12 := by rw [h.r72_41]; exact h.k90
theorem Shp.nr72_41 {Z : aZ} (h : Shp Z) {I : aI} {G : aL} : mN (I, G, Z) (mR (I, G, Z) 72 41) = 280 := by rw [h.r72_41]; exact h.n90
theorem Shp.ir72_41 {Z : aZ} (h : Shp Z) {I : aI} {G : aL} {x : Int32} (hx : ib x 280) : ib x (mN (I, G, Z) (mR (I, G, Z) 72 41)) := by rw [h.r72_41]; exact h.i90 hx
theorem Shp.r72_42 {Z : aZ} (h : Shp Z) {I : aI} {G : aL} : mR (I, G, Z) 72 42 = 91 := h.2.1 (72, 42, 91) (by decide)
theorem Shp.kr72_42 {Z : aZ} (h : Shp Z) {I : aI} {G : aL} : mK (I, G, Z) (mR (I, G, Z) 72 42) = 12 := by rw [h.r72_42]; exact h.k91
theorem Shp.nr72_42 {Z : aZ} (h : Shp Z) {I : aI} {G : aL} : mN (I, G, Z) (mR (I, G, Z) 72 42) = 280 := by rw [h.r72_42]; exact h.n91
theorem Shp.ir72_42 {Z : aZ} (h : Shp Z) {I : aI} {G : aL} {x : Int32} (hx : ib x 280) : ib x (mN (I, G, Z) (mR (I, G, Z) 72 42)) := by rw [h.r72_42]; exact h.i91 hx
theorem Shp.r72_43 {Z : aZ} (h : Shp Z) {I : aI} {G : aL} : mR (I, G, Z) 72 43 = 92 := h.2.1 (72, 43, 92) (by decide)
theorem Shp.kr72_43 {Z : aZ} (h : Shp Z) {I : aI} {G : aL} : mK (I, G, Z) (mR (I, G, Z) 72 43) = 12 := by rw [h.r72_43]; exact h.k92
theorem Shp.nr72_43 {Z : aZ} (h : Shp Z) {I : aI} {G : aL} : mN (I, G, Z) (mR (I, G, Z) 72 43) = 280 := by rw [h.r72_43]; exact h.n92
theorem Shp.ir72_43 {Z : aZ} (h : Shp Z) {I : aI} {G : aL} {x : Int32} (hx : ib x 280) : ib x (mN (I, G, Z) (mR (I, G, Z) 72 43)) := by rw [h.r72_43]; exact h.i92 hx
theorem Shp.r72_44 {Z : aZ} (h : Shp Z) {I : aI} {G : aL} : mR (I, G, Z) 72 44 = 93 := h.2.1 (72, 44, 93) (by decide)
theorem Shp.kr72_44 {Z : aZ} (h : Shp Z) {I : aI} {G : aL} : mK (I, G, Z) (mR (I, G, Z) 72 44) = 12 := by rw [h.r72_44]; exact h.k93
theorem Shp.nr72_44 {Z : aZ} (h : Shp Z) {I : aI} {G : aL} : mN (I, G, Z) (mR (I, G, Z) 72 44) = 280 := by rw [h.r72_44]; exact h.n93
theorem Shp.ir72_44 {Z : aZ} (h : Shp Z) {I : aI} {G : aL} {x : Int32} (hx : ib x 280) : ib x (mN (I, G, Z) (mR (I, G, Z) 72 44)) := by rw [h.r72_44]; exact h.i93 hx
theorem Shp.r72_45 {Z : aZ} (h : Shp Z) {I : aI} {G : aL} : mR (I, G, Z) 72 45 = 94 := h.2.1 (72, 45, 94) (by decide)
theorem Shp.kr72_45 {Z : aZ} (h : Shp Z) {I : aI} {G : aL} : mK (I, G, Z) (mR (I, G, Z) 72 45) = 12 := by rw [h.r72_45]; exact h.k94
theorem Shp.nr72_45 {Z : aZ} (h : Shp Z) {I : aI} {G : aL} : mN (I, G, Z) (mR (I, G, Z) 72 45) = 402 := by rw [h.r72_45]; exact h.n94
theorem Shp.ir72_45 {Z : aZ} (h : Shp Z) {I : aI} {G : aL} {x : Int32} (hx : ib x 402) : ib x (mN (I, G, Z) (mR (I, G, Z) 72 45)) := by rw [h.r72_45]; exact h.i94 hx
theorem Shp.r72_46 {Z : aZ} (h : Shp Z) {I : aI} {G : aL} : mR (I, G, Z) 72 46 = 95 := h.2.1 (72, 46, 95) (by decide)
theorem Shp.kr72_46 {Z : aZ} (h : Shp Z) {I : aI} {G : aL} : mK (I, G, Z) (mR (I, G, Z) 72 46) = 15 := by rw [h.r72_46]; exact h.k95
theorem Shp.nr72_46 {Z : aZ} (h : Shp Z) {I : aI} {G : aL} : mN (I, G, Z) (mR (I, G, Z) 72 46) = 13 := by rw [h.r72_46]; exact h.n95
theorem Shp.ir72_46 {Z : aZ} (h : Shp Z) {I : aI} {G : aL} {x : Int32} (hx : ib x 13) : ib x (mN (I, G, Z) (mR (I, G, Z) 72 46)) := by rw [h.r72_46]; exact h.i95 hx
theorem Shp.r72_47 {Z : aZ} (h : Shp Z) {I : aI} {G : aL} : mR (I, G, Z) 72 47 = 96 := h.2.1 (72, 47, 96) (by decide)
theorem Shp.kr72_47 {Z : aZ} (h : Shp Z) {I : aI} {G : aL} : mK (I, G, Z) (mR (I, G, Z) 72 47) = 15 := by rw [h.r72_47]; exact h.k96
theorem Shp.nr72_47 {Z : aZ} (h : Shp Z) {I : aI} {G : aL} : mN (I, G, Z) (mR (I, G, Z) 72 47) = 300 := by rw [h.r72_47]; exact h.n96
theorem Shp.ir72_47 {Z : aZ} (h : Shp Z) {I : aI} {G : aL} {x : Int32} (hx : ib x 300) : ib x (mN (I, G, Z) (mR (I, G, Z) 72 47)) := by rw [h.r72_47]; exact h.i96 hx
theorem Shp.r72_48 {Z : aZ} (h : Shp Z) {I : aI} {G : aL} : mR (I, G, Z) 72 48 = 97 := h.2.1 (72, 48, 97) (by decide)
theorem Shp.kr72_48 {Z : aZ} (h : Shp Z) {I : aI} {G : aL} : mK (I, G, Z) (mR (I, G, Z) 72 48) = 12 := by rw [h.r72_48]; exact h.k97
theorem Shp.nr72_48 {Z : aZ} (h : Shp Z) {I : aI} {G : aL} : mN (I, G, Z) (mR (I, G, Z) 72 48) = 16 := by rw [h.r72_48]; exact h.n97
theorem Shp.ir72_48 {Z : aZ} (h : Shp Z) {I : aI} {G : aL} {x : Int32} (hx : ib x 16) : ib x (mN (I, G, Z) (mR (I, G, Z) 72 48)) := by rw [h.r72_48]; exact h.i97 hx
theorem Shp.r72_49 {Z : aZ} (h : Shp Z) {I : aI} {G : aL} : mR (I, G, Z) 72 49 = 98 := h.2.1 (72, 49, 98) (by decide)
theorem Shp.kr72_49 {Z : aZ} (h : Shp Z) {I : aI} {G : aL} : mK (I, G, Z) (mR (I, G, Z) 72 49) = 12 := by rw [h.r72_49]; exact h.k98
theorem Shp.nr72_49 {Z : aZ} (h : Shp Z) {I : aI} {G : aL} : mN (I, G, Z) (mR (I, G, Z) 72 49) = 16 := by rw [h.r72_49]; exact h.n98
theorem Shp.ir72_49 {Z : aZ} (h : Shp Z) {I : aI} {G : aL} {x : Int32} (hx : ib x 16) : ib x (mN (I, G, Z) (mR (I, G, Z) 72 49)) := by rw [h.r72_49]; exact h.i98 hx
theorem Shp.r72_50 {Z : aZ} (h : Shp Z) {I : aI} {G : aL} : mR (I, G, Z) 72 50 = 99 := h.2.1 (72, 50, 99) (by decide)
theorem Shp.kr72_50 {Z : aZ} (h : Shp Z) {I : aI} {G : aL} : mK (I, G, Z) (mR (I, G, Z) 72 50) = 12 := by rw [h.r72_50]; exact h.k99
theorem Shp.nr72_50 {Z : aZ} (h : Shp Z) {I : aI} {G : aL} : mN (I, G, Z) (mR (I, G, Z) 72 50) = 10 := by rw [h.r72_50]; exact h.n99
theorem Shp.ir72_50 {Z : aZ} (h : Shp Z) {I : aI} {G : aL} {x : Int32} (hx : ib x 10) : ib x (mN (I, G, Z) (mR (I, G, Z) 72 50)) := by rw [h.r72_50]; exact h.i99 hx
theorem Shp.r72_55 {Z : aZ} (h : Shp Z) {I : aI} {G : aL} : mR (I, G, Z) 72 55 = 100 := h.2.1 (72, 55, 100) (by decide)
theorem Shp.kr72_55 {Z : aZ} (h : Shp Z) {I : aI} {G : aL} : mK (I, G, Z) (mR (I, G, Z) 72 55) = 12 := by rw [h.r72_55]; exact h.k100
theorem Shp.nr72_55 {Z : aZ} (h : Shp Z) {I : aI} {G : aL} : mN (I, G, Z) (mR (I, G, Z) 72 55) = 144 := by rw [h.r72_55]; exact h.n100
theorem Shp.ir72_55 {Z : aZ} (h : Shp Z) {I : aI} {G : aL} {x : Int32} (hx : ib x 144) : ib x (mN (I, G, Z) (mR (I, G, Z) 72 55)) := by rw [h.r72_55]; exact h.i100 hx
theorem Shp.r72_56 {Z : aZ} (h : Shp Z) {I : aI} {G : aL} : mR (I, G, Z) 72 56 = 101 := h.2.1 (72, 56, 101) (by decide)
theorem Shp.kr72_56 {Z : aZ} (h : Shp Z) {I : aI} {G : aL} : mK (I, G, Z) (mR (I, G, Z) 72 56) = 12 := by rw [h.r72_56]; exact h.k101
theorem Shp.nr72_56 {Z : aZ} (h : Shp Z) {I : aI} {G : aL} : mN (I, G, Z) (mR (I, G, Z) 72 56) = 144 := by rw [h.r72_56]; exact h.n101
theorem Shp.ir72_56 {Z : aZ} (h : Shp Z) {I : aI} {G : aL} {x : Int32} (hx : ib x 144) : ib x (mN (I, G, Z) (mR (I, G, Z) 72 56)) := by rw [h.r72_56]; exact h.i101 hx
theorem Shp.r72_57 {Z : aZ} (h : Shp Z) {I : aI} {G : aL} : mR (I, G, Z) 72 57 = 102 := h.2.1 (72, 57, 102) (by decide)
theorem Shp.kr72_57 {Z : aZ} (h : Shp Z) {I : aI} {G : aL} : mK (I, G, Z) (mR (I, G, Z) 72 57) = 12 := by rw [h.r72_57]; exact h.k102
theorem Shp.nr72_57 {Z : aZ} (h : Shp Z) {I : aI} {G : aL} : mN (I, G, Z) (mR (I, G, Z) 72 57) = 144 := by rw [h.r72_57]; exact h.n102
theorem Shp.ir72_57 {Z : aZ} (h : Shp Z) {I : aI} {G : aL} {x : Int32} (hx : ib x 144) : ib x (mN (I, G, Z) (mR (I, G, Z) 72 57)) := by rw [h.r72_57]; exact h.i102 hx
theorem Shp.r72_58 {Z : aZ} (h : Shp Z) {I : aI} {G : aL} : mR (I, G, Z) 72 58 = 103 := h.2.1 (72, 58, 103) (by decide)
theorem Shp.kr72_58 {Z : aZ} (h : Shp Z) {I : aI} {G : aL} : mK (I, G, Z) (mR (I, G, Z) 72 58) = 12 := by rw [h.r72_58]; exact h.k103
theorem Shp.nr72_58 {Z : aZ} (h : Shp Z) {I : aI} {G : aL} : mN (I, G, Z) (mR (I, G, Z) 72 58) = 144 := by rw [h.r72_58]; exact h.n103
theorem Shp.ir72_58 {Z : aZ} (h : Shp Z) {I : aI} {G : aL} {x : Int32} (hx : ib x 144) : ib x (mN (I, G, Z) (mR (I, G, Z) 72 58)) := by rw [h.r72_58]; exact h.i103 hx
theorem Shp.r72_59 {Z : aZ} (h : Shp Z) {I : aI} {G : aL} : mR (I, G, Z) 72 59 = 104 := h.2.1 (72, 59, 104) (by decide)
theorem Shp.kr72_59 {Z : aZ} (h : Shp Z) {I : aI} {G : aL} : mK (I, G, Z) (mR (I, G, Z) 72 59) = 12 := by rw [h.r72_59]; exact h.k104
theorem Shp.nr72_59 {Z : aZ} (h : Shp Z) {I : aI} {G : aL} : mN (I, G, Z) (mR (I, G, Z) 72 59) = 144 := by rw [h.r72_59]; exact h.n104
theorem Shp.ir72_59 {Z : aZ} (h : Shp Z) {I : aI} {G : aL} {x : Int32} (hx : ib x 144) : ib x (mN (I, G, Z) (mR (I, G, Z) 72 59)) := by rw [h.r72_59]; exact h.i104 hx
theorem Shp.r72_60 {Z : aZ} (h : Shp Z) {I : aI} {G : aL} : mR (I, G, Z) 72 60 = 105 := h.2.1 (72, 60, 105) (by decide)
theorem Shp.kr72_60 {Z : aZ} (h : Shp Z) {I : aI} {G : aL} : mK (I, G, Z) (mR (I, G, Z) 72 60) = 12 := by rw [h.r72_60]; exact h.k105
theorem Shp.nr72_60 {Z : aZ} (h : Shp Z) {I : aI} {G : aL} : mN (I, G, Z) (mR (I, G, Z) 72 60) = 144 := by rw [h.r72_60]; exact h.n105
theorem Shp.ir72_60 {Z : aZ} (h : Shp Z) {I : aI} {G : aL} {x : Int32} (hx : ib x 144) : ib x (mN (I, G, Z) (mR (I, G, Z) 72 60)) := by rw [h.r72_60]; exact h.i105 hx
theorem Shp.r72_62 {Z : aZ} (h : Shp Z) {I : aI} {G : aL} : mR (I, G, Z) 72 62 = 106 := h.2.1 (72, 62, 106) (by decide)
theorem Shp.kr72_62 {Z : aZ} (h : Shp Z) {I : aI} {G : aL} : mK (I, G, Z) (mR (I, G, Z) 72 62) = 12 := by rw [h.r72_62]; exact h.k106
theorem Shp.nr72_62 {Z : aZ} (h : Shp Z) {I : aI} {G : aL} : mN (I, G, Z) (mR (I, G, Z) 72 62) = 300 := by rw [h.r72_62]; exact h.n106
theorem Shp.ir72_62 {Z : aZ} (h : Shp Z) {I : aI} {G : aL} {x : Int32} (hx : ib x 300) : ib x (mN (I, G, Z) (mR (I, G, Z) 72 62)) := by rw [h.r72_62]; exact h.i106 hx
theorem Shp.r72_63 {Z : aZ} (h : Shp Z) {I : aI} {G : aL} : mR (I, G, Z) 72 63 = 107 := h.2.1 (72, 63, 107) (by decide)
theorem Shp.kr72_63 {Z : aZ} (h : Shp Z) {I : aI} {G : aL} : mK (I, G, Z) (mR (I, G, Z) 72 63) = 12 := by rw [h.r72_63]; exact h.k107
theorem Shp.nr72_63 {Z : aZ} (h : Shp Z) {I : aI} {G : aL} : mN (I, G, Z) (mR (I, G, Z) 72 63) = 300 := by rw [h.r72_63]; exact h.n107
theorem Shp.ir72_63 {Z : aZ} (h : Shp Z) {I : aI} {G : aL} {x : Int32} (hx : ib x 300) : ib x (mN (I, G, Z) (mR (I, G, Z) 72 63)) := by rw [h.r72_63]; exact h.i107 hx
theorem Shp.r72_64 {Z : aZ} (h : Shp Z) {I : aI} {G : aL} : mR (I, G, Z) 72 64 = 108 := h.2.1 (72, 64, 108) (by decide)
theorem Shp.kr72_64 {Z : aZ} (h : Shp Z) {I : aI} {G : aL} : mK (I, G, Z) (mR (I, G, Z) 72 64) = 12 := by rw [h.r72_64]; exact h.k108
theorem Shp.nr72_64 {Z : aZ} (h : Shp Z) {I : aI} {G : aL} : mN (I, G, Z) (mR (I, G, Z) 72 64) = 300 := by rw [h.r72_64]; exact h.n108
theorem Shp.ir72_64 {Z : aZ} (h : Shp Z) {I : aI} {G : aL} {x : Int32} (hx : ib x 300) : ib x (mN (I, G, Z) (mR (I, G, Z) 72 64)) := by rw [h.r72_64]; exact h.i108 hx
theorem Shp.r72_65 {Z : aZ} (h : Shp Z) {I : aI} {G : aL} : mR (I, G, Z) 72 65 = 109 := h.2.1 (72, 65, 109) (by decide)
theorem Shp.kr72_65 {Z : aZ} (h : Shp Z) {I : aI} {G : aL} : mK (I, G, Z) (mR (I, G, Z) 72 65) = 12 := by rw [h.r72_65]; exact h.k109
theorem Shp.nr72_65 {Z : aZ} (h : Shp Z) {I : aI} {G : aL} : mN (I, G, Z) (mR (I, G, Z) 72 65) = 6640 := by rw [h.r72_65]; exact h.n109
theorem Shp.ir72_65 {Z : aZ} (h : Shp Z) {I : aI} {G : aL} {x : Int32} (hx : ib x 6640) : ib x (mN (I, G, Z) (mR (I, G, Z) 72 65)) := by rw [h.r72_65]; exact h.i109 hx
theorem Shp.r72_66 {Z : aZ} (h : Shp Z) {I : aI} {G : aL} : mR (I, G, Z) 72 66 = 110 := h.2.1 (72, 66, 110) (by decide)
theorem Shp.kr72_66 {Z : aZ} (h : Shp Z) {I : aI} {G : aL} : mK (I, G, Z) (mR (I, G, Z) 72 66) = 12 := by rw [h.r72_66]; exact h.k110
theorem Shp.nr72_66 {Z : aZ} (h : Shp Z) {I : aI} {G : aL} : mN (I, G, Z) (mR (I, G, Z) 72 66) = 22 := by rw [h.r72_66]; exact h.n110
theorem Shp.ir72_66 {Z : aZ} (h : Shp Z) {I : aI} {G : aL} {x : Int32} (hx : ib x 22) : ib x (mN (I, G, Z) (mR (I, G, Z) 72 66)) := by rw [h.r72_66]; exact h.i110 hx
theorem Shp.r72_67 {Z : aZ} (h : Shp Z) {I : aI} {G : aL} : mR (I, G, Z) 72 67 = 111 := h.2.1 (72, 67, 111) (by decide)
theorem Shp.kr72_67 {Z : aZ} (h : Shp Z) {I : aI} {G : aL} : mK (I, G, Z) (mR (I, G, Z) 72 67) = 14 := by rw [h.r72_67]; exact h.k111
theorem Shp.nr72_67 {Z : aZ} (h : Shp Z) {I : aI} {G : aL} : mN (I, G, Z) (mR (I, G, Z) 72 67) = 4 := by rw [h.r72_67]; exact h.n111
theorem Shp.ir72_67 {Z : aZ} (h : Shp Z) {I : aI} {G : aL} {x : Int32} (hx : ib x 4) : ib x (mN (I, G, Z) (mR (I, G, Z) 72 67)) := by rw [h.r72_67]; exact h.i111 hx
theorem iN_nlt {n : Nat} (h : n < 2147483648) : ¬ iN n < iN n := fun q => absurd ((iN_lt h h).mp q) (Nat.lt_irrefl _)
theorem l64_0 : (0 : Int64).toInt = 0 := by decide
theorem l32_0 : (0 : Int32).toInt = 0 := by decide
theorem l64_1 : (1 : Int64).toInt = 1 := by decide
theorem l32_1 : (1 : Int32).toInt = 1 := by decide
theorem l64_2 : (2 : Int64).toInt = 2 := by decide
theorem l32_2 : (2 : Int32).toInt = 2 := by decide
theorem l64_3 : (3 : Int64).toInt = 3 := by decide
theorem l32_3 : (3 : Int32).toInt = 3 := by decide
theorem l64_4 : (4 : Int64).toInt = 4 := by decide
theorem l32_4 : (4 : Int32).toInt = 4 := by decide
theorem l64_5 : (5 : Int64).toInt = 5 := by decide
theorem l32_5 : (5 : Int32).toInt = 5 := by decide
theorem l64_7 : (7 : Int64).toInt = 7 := by decide
theorem l32_7 : (7 : Int32).toInt = 7 := by decide
theorem l64_9 : (9 : Int64).toInt = 9 := by decide
theorem l32_9 : (9 : Int32).toInt = 9 := by decide
theorem l64_10 : (10 : Int64).toInt = 10 := by decide
theorem l32_10 : (10 : Int32).toInt = 10 := by decide
theorem l64_11 : (11 : Int64).toInt = 11 := by decide
theorem l32_11 : (11 : Int32).toInt = 11 := by decide
theorem l64_15 : (15 : Int64).toInt = 15 := by decide
theorem l32_15 : (15 : Int32).toInt = 15 := by decide
theorem l64_20 : (20 : Int64).toInt = 20 := by decide
theorem l32_20 : (20 : Int32).toInt = 20 := by decide
theorem l64_60 : (60 : Int64).toInt = 60 := by decide
theorem l32_60 : (60 : Int32).toInt = 60 := by decide
theorem l64_99 : (99 : Int64).toInt = 99 := by decide
theorem l32_99 : (99 : Int32).toInt = 99 := by decide
theorem l64_140 : (140 : Int64).toInt = 140 := by decide
theorem l32_140 : (140 : Int32).toInt = 140 := by decide
theorem l64_143 : (143 : Int64).toInt = 143 := by decide
theorem l32_143 : (143 : Int32).toInt = 143 := by decide
theorem l64_199 : (199 : Int64).toInt = 199 := by decide
theorem l32_199 : (199 : Int32).toInt = 199 := by decide
theorem l64_200 : (200 : Int64).toInt = 200 := by decide
theorem l32_200 : (200 : Int32).toInt = 200 := by decide
theorem l64_255 : (255 : Int64).toInt = 255 := by decide
theorem l32_255 : (255 : Int32).toInt = 255 := by decide
theorem l64_500 : (500 : Int64).toInt = 500 := by decide
theorem l32_500 : (500 : Int32).toInt = 500 := by decide
theorem l64_999 : (999 : Int64).toInt = 999 := by decide
theorem l32_999 : (999 : Int32).toInt = 999 := by decide
theorem l64_9999 : (9999 : Int64).toInt = 9999 := by decide
theorem l32_9999 : (9999 : Int32).toInt = 9999 := by decide
theorem l64_99999 : (99999 : Int64).toInt = 99999 := by decide
theorem l32_99999 : (99999 : Int32).toInt = 99999 := by decide
theorem l64_9999999 : (9999999 : Int64).toInt = 9999999 := by decide
theorem l32_9999999 : (9999999 : Int32).toInt = 9999999 := by decide
theorem l64_m50 : (-50 : Int64).toInt = -50 := by decide
theorem l32_m50 : (-50 : Int32).toInt = -50 := by decide
theorem l64_m1 : (-1 : Int64).toInt = -1 := by decide
theorem l32_m1 : (-1 : Int32).toInt = -1 := by decide
