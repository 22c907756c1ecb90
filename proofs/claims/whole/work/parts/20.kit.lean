/-! KIT of the program's proof: the memory in three, its shape, small numbers -/
abbrev aZ : Type := (Nat → Nat → Nat) × (Nat → Nat × Nat) × Nat × Nat
abbrev aI : Type := Nat → Nat → Int32
abbrev aL : Type := Nat → Nat → Int64
def zR (Z : aZ) (a k : Nat) : Nat := Z.1 a k
def zK (Z : aZ) (a : Nat) : Nat := (Z.2.1 a).1
def zN (Z : aZ) (a : Nat) : Nat := (Z.2.1 a).2
def zX (Z : aZ) : Nat := Z.2.2.1
def zU (Z : aZ) : Nat := Z.2.2.2
section TRI
variable {I : aI} {G : aL} {Z : aZ} {a k : Nat}
theorem mI_t : mI (I, G, Z) a k = I a k := rfl
theorem mL_t : mL (I, G, Z) a k = G a k := rfl
theorem mR_t : mR (I, G, Z) a k = zR Z a k := rfl
theorem mK_t : mK (I, G, Z) a = zK Z a := rfl
theorem mN_t : mN (I, G, Z) a = zN Z a := rfl
theorem mX_t : mX (I, G, Z) = zX Z := rfl
theorem mU_t : mU (I, G, Z) = zU Z := rfl
theorem wI_t {v : Int32} : wI (I, G, Z) a k v = (up2 I a k v, G, Z) := rfl
theorem wL_t {v : Int64} : wL (I, G, Z) a k v = (I, up2 G a k v, Z) := rfl
end TRI
theorem up2_a {α : Type} {f : Nat → Nat → α} {a k b j : Nat} {v : α} (h : b ≠ a) : up2 f a k v b j = f b j := by unfold up2; rw [if_neg h]
theorem up2_k {α : Type} {f : Nat → Nat → α} {a k j : Nat} {v : α} (h : j ≠ k) : up2 f a k v a j = f a j := by unfold up2; rw [if_pos rfl, if_neg h]
theorem up2_s {α : Type} {f : Nat → Nat → α} {a k : Nat} {v : α} : up2 f a k v a k = v := by unfold up2; rw [if_pos rfl, if_pos rfl]
theorem up2_e {α : Type} {f : Nat → Nat → α} {a k b j : Nat} {v : α} : up2 f a k v b j = if b = a then (if j = k then v else f b j) else f b j := rfl
/-! numbers -/
def iN (k : Nat) : Int32 := Int32.ofNat k
theorem iN_int {k : Nat} (h : k < 2147483648) : (iN k).toInt = k := Int32.toInt_ofNat_of_lt h
theorem iN_clamp {k : Nat} (h : k < 2147483648) : (iN k).toNatClampNeg = k := by
  rw [Int32.toNatClampNeg, iN_int h]; rfl
theorem iN_lt {a b : Nat} (ha : a < 2147483648) (hb : b < 2147483648) : iN a < iN b ↔ a < b := by
  rw [Int32.lt_iff_toInt_lt, iN_int ha, iN_int hb]; omega
theorem iN_inj {a b : Nat} (ha : a < 2147483648) (hb : b < 2147483648) : iN a = iN b ↔ a = b := by
  constructor
  · intro h
    have := congrArg Int32.toInt h
    rw [iN_int ha, iN_int hb] at this
    omega
  · intro h; rw [h]
theorem iN_succ {a : Nat} : iN a + 1 = iN (a + 1) := by
  unfold iN
  rw [Int32.ofNat_add]
  rfl
theorem iN_add {a b : Nat} : iN a + iN b = iN (a + b) := by
  unfold iN
  rw [Int32.ofNat_add]
theorem iN_nneg {a : Nat} (h : a < 2147483648) : ¬ iN a < 0 := by
  rw [Int32.lt_iff_toInt_lt, iN_int h]
  show ¬ (a : Int) < 0
  omega
theorem ib_iN {a n : Nat} (h : a < 2147483648) (hn : a < n) : ib (iN a) n := by
  rintro (q | q)
  · exact iN_nneg h q
  · rw [iN_clamp h] at q; omega
theorem iN_of {x : Int32} (h : ¬ x < 0) : ∃ n, n < 2147483648 ∧ x = iN n := by
  have h0 : 0 ≤ x.toInt := by
    have := Int32.not_lt.mp h
    rw [Int32.le_iff_toInt_le] at this
    simpa using this
  have h1 := Int32.toInt_lt x
  refine ⟨x.toInt.toNat, by omega, ?_⟩
  apply Int32.toInt_inj.mp
  rw [iN_int (by omega)]
  omega
/-- a loop that counts up: F i is the run at its head with the state of the i-th time -/
theorem loop_up {R : Type} (F : Nat → R) (N : Nat) (h : ∀ i, i < N → F i = F (i + 1)) : ∀ i, i ≤ N → F i = F N := by
  intro i hi
  obtain ⟨k, rfl⟩ := Nat.le.dest hi
  clear hi
  induction k with
  | zero => rfl
  | succ k ih =>
    rw [ih (fun j hj => h j (by omega)), h (i + k) (by omega)]
    rfl
def skl : List Nat := [10, 4, 6, 17, 12, 12, 3, 3, 3, 3, 3, 3, 3, 5, 12, 12, 12, 12, 12, 9, 12, 12, 12, 12, 12, 18, 7, 12, 12, 12, 12, 2, 16, 12, 1, 12, 12, 19, 19, 12, 11, 12, 12, 12, 12, 12, 12, 12, 12, 12, 12, 12, 13, 12, 12, 12, 12, 12, 12, 12, 12, 12, 12, 15, 15, 12, 12, 12, 12, 12, 12, 12, 12, 12, 12, 12, 12, 12, 12, 14]
def snl : List Nat := [0, 0, 0, 7, 30, 30, 0, 0, 0, 0, 0, 0, 0, 0, 144, 144, 144, 144, 144, 0, 300, 300, 300, 16, 10, 4, 0, 400, 401, 401, 401, 0, 14, 400, 0, 13, 40, 10, 10, 16, 0, 7, 7, 7, 7, 7, 7, 7, 7, 7, 30, 30, 400, 2, 6000, 6000, 20, 280, 280, 280, 280, 280, 402, 13, 300, 16, 16, 10, 144, 144, 144, 144, 144, 144, 300, 300, 300, 6640, 22, 4]
def srl : List (Nat × Nat × Nat) := [(32, 0, 33), (32, 1, 57), (32, 2, 58), (32, 3, 63), (32, 4, 66), (32, 5, 69), (32, 6, 70), (32, 7, 71), (33, 0, 34), (33, 1, 45), (33, 2, 51), (33, 3, 55), (33, 4, 56), (34, 0, 35), (34, 1, 36), (34, 2, 37), (35, 0, 38), (35, 1, 39), (35, 2, 40), (35, 3, 41), (35, 4, 42), (35, 5, 43), (35, 6, 44), (45, 0, 46), (45, 1, 47), (45, 2, 48), (45, 3, 49), (45, 4, 50), (51, 0, 52), (51, 1, 53), (51, 2, 54), (58, 0, 59), (58, 1, 60), (58, 2, 61), (58, 3, 62), (63, 0, 64), (63, 1, 65), (63, 2, 58), (66, 0, 67), (66, 1, 68), (72, 16, 73), (72, 17, 74), (72, 18, 75), (72, 19, 76), (72, 20, 77), (72, 21, 78), (72, 22, 79), (72, 23, 80), (72, 24, 81), (72, 25, 82), (72, 26, 83), (72, 35, 84), (72, 36, 85), (72, 37, 86), (72, 38, 87), (72, 39, 88), (72, 40, 89), (72, 41, 90), (72, 42, 91), (72, 43, 92), (72, 44, 93), (72, 45, 94), (72, 46, 95), (72, 47, 96), (72, 48, 97), (72, 49, 98), (72, 50, 99), (72, 55, 100), (72, 56, 101), (72, 57, 102), (72, 58, 103), (72, 59, 104), (72, 60, 105), (72, 62, 106), (72, 63, 107), (72, 64, 108), (72, 65, 109), (72, 66, 110), (72, 67, 111)]
/-- the cells that the constructors made, as they stay -/
def Shp (Z : aZ) : Prop := (∀ a, a < 80 → zK Z (a + 32) = skl.getD a 0 ∧ zN Z (a + 32) = snl.getD a 0) ∧ (∀ e ∈ srl, zR Z e.1 e.2.1 = e.2.2) ∧ 80 ≤ zX Z
theorem Shp.k32 {Z : aZ} (h : Shp Z) : zK Z 32 = 10 := (h.1 0 (by decide)).1
theorem Shp.k33 {Z : aZ} (h : Shp Z) : zK Z 33 = 4 := (h.1 1 (by decide)).1
theorem Shp.k34 {Z : aZ} (h : Shp Z) : zK Z 34 = 6 := (h.1 2 (by decide)).1
theorem Shp.k35 {Z : aZ} (h : Shp Z) : zK Z 35 = 17 := (h.1 3 (by decide)).1
theorem Shp.n35 {Z : aZ} (h : Shp Z) : zN Z 35 = 7 := (h.1 3 (by decide)).2
theorem Shp.k36 {Z : aZ} (h : Shp Z) : zK Z 36 = 12 := (h.1 4 (by decide)).1
theorem Shp.n36 {Z : aZ} (h : Shp Z) : zN Z 36 = 30 := (h.1 4 (by decide)).2
theorem Shp.k37 {Z : aZ} (h : Shp Z) : zK Z 37 = 12 := (h.1 5 (by decide)).1
theorem Shp.n37 {Z : aZ} (h : Shp Z) : zN Z 37 = 30 := (h.1 5 (by decide)).2
theorem Shp.k38 {Z : aZ} (h : Shp Z) : zK Z 38 = 3 := (h.1 6 (by decide)).1
theorem Shp.k39 {Z : aZ} (h : Shp Z) : zK Z 39 = 3 := (h.1 7 (by decide)).1
theorem Shp.k40 {Z : aZ} (h : Shp Z) : zK Z 40 = 3 := (h.1 8 (by decide)).1
theorem Shp.k41 {Z : aZ} (h : Shp Z) : zK Z 41 = 3 := (h.1 9 (by decide)).1
theorem Shp.k42 {Z : aZ} (h : Shp Z) : zK Z 42 = 3 := (h.1 10 (by decide)).1
theorem Shp.k43 {Z : aZ} (h : Shp Z) : zK Z 43 = 3 := (h.1 11 (by decide)).1
theorem Shp.k44 {Z : aZ} (h : Shp Z) : zK Z 44 = 3 := (h.1 12 (by decide)).1
theorem Shp.k45 {Z : aZ} (h : Shp Z) : zK Z 45 = 5 := (h.1 13 (by decide)).1
theorem Shp.k46 {Z : aZ} (h : Shp Z) : zK Z 46 = 12 := (h.1 14 (by decide)).1
theorem Shp.n46 {Z : aZ} (h : Shp Z) : zN Z 46 = 144 := (h.1 14 (by decide)).2
theorem Shp.k47 {Z : aZ} (h : Shp Z) : zK Z 47 = 12 := (h.1 15 (by decide)).1
theorem Shp.n47 {Z : aZ} (h : Shp Z) : zN Z 47 = 144 := (h.1 15 (by decide)).2
theorem Shp.k48 {Z : aZ} (h : Shp Z) : zK Z 48 = 12 := (h.1 16 (by decide)).1
theorem Shp.n48 {Z : aZ} (h : Shp Z) : zN Z 48 = 144 := (h.1 16 (by decide)).2
theorem Shp.k49 {Z : aZ} (h : Shp Z) : zK Z 49 = 12 := (h.1 17 (by decide)).1
theorem Shp.n49 {Z : aZ} (h : Shp Z) : zN Z 49 = 144 := (h.1 17 (by decide)).2
theorem Shp.k50 {Z : aZ} (h : Shp Z) : zK Z 50 = 12 := (h.1 18 (by decide)).1
theorem Shp.n50 {Z : aZ} (h : Shp Z) : zN Z 50 = 144 := (h.1 18 (by decide)).2
theorem Shp.k51 {Z : aZ} (h : Shp Z) : zK Z 51 = 9 := (h.1 19 (by decide)).1
theorem Shp.k52 {Z : aZ} (h : Shp Z) : zK Z 52 = 12 := (h.1 20 (by decide)).1
theorem Shp.n52 {Z : aZ} (h : Shp Z) : zN Z 52 = 300 := (h.1 20 (by decide)).2
theorem Shp.k53 {Z : aZ} (h : Shp Z) : zK Z 53 = 12 := (h.1 21 (by decide)).1
theorem Shp.n53 {Z : aZ} (h : Shp Z) : zN Z 53 = 300 := (h.1 21 (by decide)).2
theorem Shp.k54 {Z : aZ} (h : Shp Z) : zK Z 54 = 12 := (h.1 22 (by decide)).1
theorem Shp.n54 {Z : aZ} (h : Shp Z) : zN Z 54 = 300 := (h.1 22 (by decide)).2
theorem Shp.k55 {Z : aZ} (h : Shp Z) : zK Z 55 = 12 := (h.1 23 (by decide)).1
theorem Shp.n55 {Z : aZ} (h : Shp Z) : zN Z 55 = 16 := (h.1 23 (by decide)).2
theorem Shp.k56 {Z : aZ} (h : Shp Z) : zK Z 56 = 12 := (h.1 24 (by decide)).1
theorem Shp.n56 {Z : aZ} (h : Shp Z) : zN Z 56 = 10 := (h.1 24 (by decide)).2
theorem Shp.k57 {Z : aZ} (h : Shp Z) : zK Z 57 = 18 := (h.1 25 (by decide)).1
theorem Shp.n57 {Z : aZ} (h : Shp Z) : zN Z 57 = 4 := (h.1 25 (by decide)).2
theorem Shp.k58 {Z : aZ} (h : Shp Z) : zK Z 58 = 7 := (h.1 26 (by decide)).1
theorem Shp.k59 {Z : aZ} (h : Shp Z) : zK Z 59 = 12 := (h.1 27 (by decide)).1
theorem Shp.n59 {Z : aZ} (h : Shp Z) : zN Z 59 = 400 := (h.1 27 (by decide)).2
theorem Shp.k60 {Z : aZ} (h : Shp Z) : zK Z 60 = 12 := (h.1 28 (by decide)).1
theorem Shp.n60 {Z : aZ} (h : Shp Z) : zN Z 60 = 401 := (h.1 28 (by decide)).2
theorem Shp.k61 {Z : aZ} (h : Shp Z) : zK Z 61 = 12 := (h.1 29 (by decide)).1
theorem Shp.n61 {Z : aZ} (h : Shp Z) : zN Z 61 = 401 := (h.1 29 (by decide)).2
theorem Shp.k62 {Z : aZ} (h : Shp Z) : zK Z 62 = 12 := (h.1 30 (by decide)).1
theorem Shp.n62 {Z : aZ} (h : Shp Z) : zN Z 62 = 401 := (h.1 30 (by decide)).2
theorem Shp.k63 {Z : aZ} (h : Shp Z) : zK Z 63 = 2 := (h.1 31 (by decide)).1
theorem Shp.k64 {Z : aZ} (h : Shp Z) : zK Z 64 = 16 := (h.1 32 (by decide)).1
theorem Shp.n64 {Z : aZ} (h : Shp Z) : zN Z 64 = 14 := (h.1 32 (by decide)).2
theorem Shp.k65 {Z : aZ} (h : Shp Z) : zK Z 65 = 12 := (h.1 33 (by decide)).1
theorem Shp.n65 {Z : aZ} (h : Shp Z) : zN Z 65 = 400 := (h.1 33 (by decide)).2
theorem Shp.k66 {Z : aZ} (h : Shp Z) : zK Z 66 = 1 := (h.1 34 (by decide)).1
theorem Shp.k67 {Z : aZ} (h : Shp Z) : zK Z 67 = 12 := (h.1 35 (by decide)).1
theorem Shp.n67 {Z : aZ} (h : Shp Z) : zN Z 67 = 13 := (h.1 35 (by decide)).2
theorem Shp.k68 {Z : aZ} (h : Shp Z) : zK Z 68 = 12 := (h.1 36 (by decide)).1
theorem Shp.n68 {Z : aZ} (h : Shp Z) : zN Z 68 = 40 := (h.1 36 (by decide)).2
theorem Shp.k69 {Z : aZ} (h : Shp Z) : zK Z 69 = 19 := (h.1 37 (by decide)).1
theorem Shp.n69 {Z : aZ} (h : Shp Z) : zN Z 69 = 10 := (h.1 37 (by decide)).2
theorem Shp.k70 {Z : aZ} (h : Shp Z) : zK Z 70 = 19 := (h.1 38 (by decide)).1
theorem Shp.n70 {Z : aZ} (h : Shp Z) : zN Z 70 = 10 := (h.1 38 (by decide)).2
theorem Shp.k71 {Z : aZ} (h : Shp Z) : zK Z 71 = 12 := (h.1 39 (by decide)).1
theorem Shp.n71 {Z : aZ} (h : Shp Z) : zN Z 71 = 16 := (h.1 39 (by decide)).2
theorem Shp.k72 {Z : aZ} (h : Shp Z) : zK Z 72 = 11 := (h.1 40 (by decide)).1
theorem Shp.k73 {Z : aZ} (h : Shp Z) : zK Z 73 = 12 := (h.1 41 (by decide)).1
theorem Shp.n73 {Z : aZ} (h : Shp Z) : zN Z 73 = 7 := (h.1 41 (by decide)).2
theorem Shp.k74 {Z : aZ} (h : Shp Z) : zK Z 74 = 12 := (h.1 42 (by decide)).1
theorem Shp.n74 {Z : aZ} (h : Shp Z) : zN Z 74 = 7 := (h.1 42 (by decide)).2
theorem Shp.k75 {Z : aZ} (h : Shp Z) : zK Z 75 = 12 := (h.1 43 (by decide)).1
theorem Shp.n75 {Z : aZ} (h : Shp Z) : zN Z 75 = 7 := (h.1 43 (by decide)).2
theorem Shp.k76 {Z : aZ} (h : Shp Z) : zK Z 76 = 12 := (h.1 44 (by decide)).1
theorem Shp.n76 {Z : aZ} (h : Shp Z) : zN Z 76 = 7 := (h.1 44 (by decide)).2
theorem Shp.k77 {Z : aZ} (h : Shp Z) : zK Z 77 = 12 := (h.1 45 (by decide)).1
theorem Shp.n77 {Z : aZ} (h : Shp Z) : zN Z 77 = 7 := (h.1 45 (by decide)).2
theorem Shp.k78 {Z : aZ} (h : Shp Z) : zK Z 78 = 12 := (h.1 46 (by decide)).1
theorem Shp.n78 {Z : aZ} (h : Shp Z) : zN Z 78 = 7 := (h.1 46 (by decide)).2
theorem Shp.k79 {Z : aZ} (h : Shp Z) : zK Z 79 = 12 := (h.1 47 (by decide)).1
theorem Shp.n79 {Z : aZ} (h : Shp Z) : zN Z 79 = 7 := (h.1 47 (by decide)).2
theorem Shp.k80 {Z : aZ} (h : Shp Z) : zK Z 80 = 12 := (h.1 48 (by decide)).1
theorem Shp.n80 {Z : aZ} (h : Shp Z) : zN Z 80 = 7 := (h.1 48 (by decide)).2
theorem Shp.k81 {Z : aZ} (h : Shp Z) : zK Z 81 = 12 := (h.1 49 (by decide)).1
theorem Shp.n81 {Z : aZ} (h : Shp Z) : zN Z 81 = 7 := (h.1 49 (by decide)).2
theorem Shp.k82 {Z : aZ} (h : Shp Z) : zK Z 82 = 12 := (h.1 50 (by decide)).1
theorem Shp.n82 {Z : aZ} (h : Shp Z) : zN Z 82 = 30 := (h.1 50 (by decide)).2
theorem Shp.k83 {Z : aZ} (h : Shp Z) : zK Z 83 = 12 := (h.1 51 (by decide)).1
theorem Shp.n83 {Z : aZ} (h : Shp Z) : zN Z 83 = 30 := (h.1 51 (by decide)).2
theorem Shp.k84 {Z : aZ} (h : Shp Z) : zK Z 84 = 13 := (h.1 52 (by decide)).1
theorem Shp.n84 {Z : aZ} (h : Shp Z) : zN Z 84 = 400 := (h.1 52 (by decide)).2
theorem Shp.k85 {Z : aZ} (h : Shp Z) : zK Z 85 = 12 := (h.1 53 (by decide)).1
theorem Shp.n85 {Z : aZ} (h : Shp Z) : zN Z 85 = 2 := (h.1 53 (by decide)).2
theorem Shp.k86 {Z : aZ} (h : Shp Z) : zK Z 86 = 12 := (h.1 54 (by decide)).1
theorem Shp.n86 {Z : aZ} (h : Shp Z) : zN Z 86 = 6000 := (h.1 54 (by decide)).2
theorem Shp.k87 {Z : aZ} (h : Shp Z) : zK Z 87 = 12 := (h.1 55 (by decide)).1
theorem Shp.n87 {Z : aZ} (h : Shp Z) : zN Z 87 = 6000 := (h.1 55 (by decide)).2
theorem Shp.k88 {Z : aZ} (h : Shp Z) : zK Z 88 = 12 := (h.1 56 (by decide)).1
theorem Shp.n88 {Z : aZ} (h : Shp Z) : zN Z 88 = 20 := (h.1 56 (by decide)).2
theorem Shp.k89 {Z : aZ} (h : Shp Z) : zK Z 89 = 12 := (h.1 57 (by decide)).1
theorem Shp.n89 {Z : aZ} (h : Shp Z) : zN Z 89 = 280 := (h.1 57 (by decide)).2
theorem Shp.k90 {Z : aZ} (h : Shp Z) : zK Z 90 = 12 := (h.1 58 (by decide)).1
theorem Shp.n90 {Z : aZ} (h : Shp Z) : zN Z 90 = 280 := (h.1 58 (by decide)).2
theorem Shp.k91 {Z : aZ} (h : Shp Z) : zK Z 91 = 12 := (h.1 59 (by decide)).1
theorem Shp.n91 {Z : aZ} (h : Shp Z) : zN Z 91 = 280 := (h.1 59 (by decide)).2
theorem Shp.k92 {Z : aZ} (h : Shp Z) : zK Z 92 = 12 := (h.1 60 (by decide)).1
theorem Shp.n92 {Z : aZ} (h : Shp Z) : zN Z 92 = 280 := (h.1 60 (by decide)).2
theorem Shp.k93 {Z : aZ} (h : Shp Z) : zK Z 93 = 12 := (h.1 61 (by decide)).1
theorem Shp.n93 {Z : aZ} (h : Shp Z) : zN Z 93 = 280 := (h.1 61 (by decide)).2
theorem Shp.k94 {Z : aZ} (h : Shp Z) : zK Z 94 = 12 := (h.1 62 (by decide)).1
theorem Shp.n94 {Z : aZ} (h : Shp Z) : zN Z 94 = 402 := (h.1 62 (by decide)).2
theorem Shp.k95 {Z : aZ} (h : Shp Z) : zK Z 95 = 15 := (h.1 63 (by decide)).1
theorem Shp.n95 {Z : aZ} (h : Shp Z) : zN Z 95 = 13 := (h.1 63 (by decide)).2
theorem Shp.k96 {Z : aZ} (h : Shp Z) : zK Z 96 = 15 := (h.1 64 (by decide)).1
theorem Shp.n96 {Z : aZ} (h : Shp Z) : zN Z 96 = 300 := (h.1 64 (by decide)).2
theorem Shp.k97 {Z : aZ} (h : Shp Z) : zK Z 97 = 12 := (h.1 65 (by decide)).1
theorem Shp.n97 {Z : aZ} (h : Shp Z) : zN Z 97 = 16 := (h.1 65 (by decide)).2
theorem Shp.k98 {Z : aZ} (h : Shp Z) : zK Z 98 = 12 := (h.1 66 (by decide)).1
theorem Shp.n98 {Z : aZ} (h : Shp Z) : zN Z 98 = 16 := (h.1 66 (by decide)).2
theorem Shp.k99 {Z : aZ} (h : Shp Z) : zK Z 99 = 12 := (h.1 67 (by decide)).1
theorem Shp.n99 {Z : aZ} (h : Shp Z) : zN Z 99 = 10 := (h.1 67 (by decide)).2
theorem Shp.k100 {Z : aZ} (h : Shp Z) : zK Z 100 = 12 := (h.1 68 (by decide)).1
theorem Shp.n100 {Z : aZ} (h : Shp Z) : zN Z 100 = 144 := (h.1 68 (by decide)).2
theorem Shp.k101 {Z : aZ} (h : Shp Z) : zK Z 101 = 12 := (h.1 69 (by decide)).1
theorem Shp.n101 {Z : aZ} (h : Shp Z) : zN Z 101 = 144 := (h.1 69 (by decide)).2
theorem Shp.k102 {Z : aZ} (h : Shp Z) : zK Z 102 = 12 := (h.1 70 (by decide)).1
theorem Shp.n102 {Z : aZ} (h : Shp Z) : zN Z 102 = 144 := (h.1 70 (by decide)).2
theorem Shp.k103 {Z : aZ} (h : Shp Z) : zK Z 103 = 12 := (h.1 71 (by decide)).1
theorem Shp.n103 {Z : aZ} (h : Shp Z) : zN Z 103 = 144 := (h.1 71 (by decide)).2
theorem Shp.k104 {Z : aZ} (h : Shp Z) : zK Z 104 = 12 := (h.1 72 (by decide)).1
theorem Shp.n104 {Z : aZ} (h : Shp Z) : zN Z 104 = 144 := (h.1 72 (by decide)).2
theorem Shp.k105 {Z : aZ} (h : Shp Z) : zK Z 105 = 12 := (h.1 73 (by decide)).1
theorem Shp.n105 {Z : aZ} (h : Shp Z) : zN Z 105 = 144 := (h.1 73 (by decide)).2
theorem Shp.k106 {Z : aZ} (h : Shp Z) : zK Z 106 = 12 := (h.1 74 (by decide)).1
theorem Shp.n106 {Z : aZ} (h : Shp Z) : zN Z 106 = 300 := (h.1 74 (by decide)).2
theorem Shp.k107 {Z : aZ} (h : Shp Z) : zK Z 107 = 12 := (h.1 75 (by decide)).1
theorem Shp.n107 {Z : aZ} (h : Shp Z) : zN Z 107 = 300 := (h.1 75 (by decide)).2
theorem Shp.k108 {Z : aZ} (h : Shp Z) : zK Z 108 = 12 := (h.1 76 (by decide)).1
theorem Shp.n108 {Z : aZ} (h : Shp Z) : zN Z 108 = 300 := (h.1 76 (by decide)).2
theorem Shp.k109 {Z : aZ} (h : Shp Z) : zK Z 109 = 12 := (h.1 77 (by decide)).1
theorem Shp.n109 {Z : aZ} (h : Shp Z) : zN Z 109 = 6640 := (h.1 77 (by decide)).2
theorem Shp.k110 {Z : aZ} (h : Shp Z) : zK Z 110 = 12 := (h.1 78 (by decide)).1
theorem Shp.n110 {Z : aZ} (h : Shp Z) : zN Z 110 = 22 := (h.1 78 (by decide)).2
theorem Shp.k111 {Z : aZ} (h : Shp Z) : zK Z 111 = 14 := (h.1 79 (by decide)).1
theorem Shp.n111 {Z : aZ} (h : Shp Z) : zN Z 111 = 4 := (h.1 79 (by decide)).2
theorem Shp.r32_0 {Z : aZ} (h : Shp Z) : zR Z 32 0 = 33 := h.2.1 (32, 0, 33) (by decide)
theorem Shp.r32_1 {Z : aZ} (h : Shp Z) : zR Z 32 1 = 57 := h.2.1 (32, 1, 57) (by decide)
theorem Shp.r32_2 {Z : aZ} (h : Shp Z) : zR Z 32 2 = 58 := h.2.1 (32, 2, 58) (by decide)
theorem Shp.r32_3 {Z : aZ} (h : Shp Z) : zR Z 32 3 = 63 := h.2.1 (32, 3, 63) (by decide)
theorem Shp.r32_4 {Z : aZ} (h : Shp Z) : zR Z 32 4 = 66 := h.2.1 (32, 4, 66) (by decide)
theorem Shp.r32_5 {Z : aZ} (h : Shp Z) : zR Z 32 5 = 69 := h.2.1 (32, 5, 69) (by decide)
theorem Shp.r32_6 {Z : aZ} (h : Shp Z) : zR Z 32 6 = 70 := h.2.1 (32, 6, 70) (by decide)
theorem Shp.r32_7 {Z : aZ} (h : Shp Z) : zR Z 32 7 = 71 := h.2.1 (32, 7, 71) (by decide)
theorem Shp.r33_0 {Z : aZ} (h : Shp Z) : zR Z 33 0 = 34 := h.2.1 (33, 0, 34) (by decide)
theorem Shp.r33_1 {Z : aZ} (h : Shp Z) : zR Z 33 1 = 45 := h.2.1 (33, 1, 45) (by decide)
theorem Shp.r33_2 {Z : aZ} (h : Shp Z) : zR Z 33 2 = 51 := h.2.1 (33, 2, 51) (by decide)
theorem Shp.r33_3 {Z : aZ} (h : Shp Z) : zR Z 33 3 = 55 := h.2.1 (33, 3, 55) (by decide)
theorem Shp.r33_4 {Z : aZ} (h : Shp Z) : zR Z 33 4 = 56 := h.2.1 (33, 4, 56) (by decide)
theorem Shp.r34_0 {Z : aZ} (h : Shp Z) : zR Z 34 0 = 35 := h.2.1 (34, 0, 35) (by decide)
theorem Shp.r34_1 {Z : aZ} (h : Shp Z) : zR Z 34 1 = 36 := h.2.1 (34, 1, 36) (by decide)
theorem Shp.r34_2 {Z : aZ} (h : Shp Z) : zR Z 34 2 = 37 := h.2.1 (34, 2, 37) (by decide)
theorem Shp.r35_0 {Z : aZ} (h : Shp Z) : zR Z 35 0 = 38 := h.2.1 (35, 0, 38) (by decide)
theorem Shp.r35_1 {Z : aZ} (h : Shp Z) : zR Z 35 1 = 39 := h.2.1 (35, 1, 39) (by decide)
theorem Shp.r35_2 {Z : aZ} (h : Shp Z) : zR Z 35 2 = 40 := h.2.1 (35, 2, 40) (by decide)
theorem Shp.r35_3 {Z : aZ} (h : Shp Z) : zR Z 35 3 = 41 := h.2.1 (35, 3, 41) (by decide)
theorem Shp.r35_4 {Z : aZ} (h : Shp Z) : zR Z 35 4 = 42 := h.2.1 (35, 4, 42) (by decide)
theorem Shp.r35_5 {Z : aZ} (h : Shp Z) : zR Z 35 5 = 43 := h.2.1 (35, 5, 43) (by decide)
theorem Shp.r35_6 {Z : aZ} (h : Shp Z) : zR Z 35 6 = 44 := h.2.1 (35, 6, 44) (by decide)
theorem Shp.r45_0 {Z : aZ} (h : Shp Z) : zR Z 45 0 = 46 := h.2.1 (45, 0, 46) (by decide)
theorem Shp.r45_1 {Z : aZ} (h : Shp Z) : zR Z 45 1 = 47 := h.2.1 (45, 1, 47) (by decide)
theorem Shp.r45_2 {Z : aZ} (h : Shp Z) : zR Z 45 2 = 48 := h.2.1 (45, 2, 48) (by decide)
theorem Shp.r45_3 {Z : aZ} (h : Shp Z) : zR Z 45 3 = 49 := h.2.1 (45, 3, 49) (by decide)
theorem Shp.r45_4 {Z : aZ} (h : Shp Z) : zR Z 45 4 = 50 := h.2.1 (45, 4, 50) (by decide)
theorem Shp.r51_0 {Z : aZ} (h : Shp Z) : zR Z 51 0 = 52 := h.2.1 (51, 0, 52) (by decide)
theorem Shp.r51_1 {Z : aZ} (h : Shp Z) : zR Z 51 1 = 53 := h.2.1 (51, 1, 53) (by decide)
theorem Shp.r51_2 {Z : aZ} (h : Shp Z) : zR Z 51 2 = 54 := h.2.1 (51, 2, 54) (by decide)
theorem Shp.r58_0 {Z : aZ} (h : Shp Z) : zR Z 58 0 = 59 := h.2.1 (58, 0, 59) (by decide)
theorem Shp.r58_1 {Z : aZ} (h : Shp Z) : zR Z 58 1 = 60 := h.2.1 (58, 1, 60) (by decide)
theorem Shp.r58_2 {Z : aZ} (h : Shp Z) : zR Z 58 2 = 61 := h.2.1 (58, 2, 61) (by decide)
theorem Shp.r58_3 {Z : aZ} (h : Shp Z) : zR Z 58 3 = 62 := h.2.1 (58, 3, 62) (by decide)
theorem Shp.r63_0 {Z : aZ} (h : Shp Z) : zR Z 63 0 = 64 := h.2.1 (63, 0, 64) (by decide)
theorem Shp.r63_1 {Z : aZ} (h : Shp Z) : zR Z 63 1 = 65 := h.2.1 (63, 1, 65) (by decide)
theorem Shp.r63_2 {Z : aZ} (h : Shp Z) : zR Z 63 2 = 58 := h.2.1 (63, 2, 58) (by decide)
theorem Shp.r66_0 {Z : aZ} (h : Shp Z) : zR Z 66 0 = 67 := h.2.1 (66, 0, 67) (by decide)
theorem Shp.r66_1 {Z : aZ} (h : Shp Z) : zR Z 66 1 = 68 := h.2.1 (66, 1, 68) (by decide)
theorem Shp.r72_16 {Z : aZ} (h : Shp Z) : zR Z 72 16 = 73 := h.2.1 (72, 16, 73) (by decide)
theorem Shp.r72_17 {Z : aZ} (h : Shp Z) : zR Z 72 17 = 74 := h.2.1 (72, 17, 74) (by decide)
theorem Shp.r72_18 {Z : aZ} (h : Shp Z) : zR Z 72 18 = 75 := h.2.1 (72, 18, 75) (by decide)
theorem Shp.r72_19 {Z : aZ} (h : Shp Z) : zR Z 72 19 = 76 := h.2.1 (72, 19, 76) (by decide)
theorem Shp.r72_20 {Z : aZ} (h : Shp Z) : zR Z 72 20 = 77 := h.2.1 (72, 20, 77) (by decide)
theorem Shp.r72_21 {Z : aZ} (h : Shp Z) : zR Z 72 21 = 78 := h.2.1 (72, 21, 78) (by decide)
theorem Shp.r72_22 {Z : aZ} (h : Shp Z) : zR Z 72 22 = 79 := h.2.1 (72, 22, 79) (by decide)
theorem Shp.r72_23 {Z : aZ} (h : Shp Z) : zR Z 72 23 = 80 := h.2.1 (72, 23, 80) (by decide)
theorem Shp.r72_24 {Z : aZ} (h : Shp Z) : zR Z 72 24 = 81 := h.2.1 (72, 24, 81) (by decide)
theorem Shp.r72_25 {Z : aZ} (h : Shp Z) : zR Z 72 25 = 82 := h.2.1 (72, 25, 82) (by decide)
theorem Shp.r72_26 {Z : aZ} (h : Shp Z) : zR Z 72 26 = 83 := h.2.1 (72, 26, 83) (by decide)
theorem Shp.r72_35 {Z : aZ} (h : Shp Z) : zR Z 72 35 = 84 := h.2.1 (72, 35, 84) (by decide)
theorem Shp.r72_36 {Z : aZ} (h : Shp Z) : zR Z 72 36 = 85 := h.2.1 (72, 36, 85) (by decide)
theorem Shp.r72_37 {Z : aZ} (h : Shp Z) : zR Z 72 37 = 86 := h.2.1 (72, 37, 86) (by decide)
theorem Shp.r72_38 {Z : aZ} (h : Shp Z) : zR Z 72 38 = 87 := h.2.1 (72, 38, 87) (by decide)
theorem Shp.r72_39 {Z : aZ} (h : Shp Z) : zR Z 72 39 = 88 := h.2.1 (72, 39, 88) (by decide)
theorem Shp.r72_40 {Z : aZ} (h : Shp Z) : zR Z 72 40 = 89 := h.2.1 (72, 40, 89) (by decide)
theorem Shp.r72_41 {Z : aZ} (h : Shp Z) : zR Z 72 41 = 90 := h.2.1 (72, 41, 90) (by decide)
theorem Shp.r72_42 {Z : aZ} (h : Shp Z) : zR Z 72 42 = 91 := h.2.1 (72, 42, 91) (by decide)
theorem Shp.r72_43 {Z : aZ} (h : Shp Z) : zR Z 72 43 = 92 := h.2.1 (72, 43, 92) (by decide)
theorem Shp.r72_44 {Z : aZ} (h : Shp Z) : zR Z 72 44 = 93 := h.2.1 (72, 44, 93) (by decide)
theorem Shp.r72_45 {Z : aZ} (h : Shp Z) : zR Z 72 45 = 94 := h.2.1 (72, 45, 94) (by decide)
theorem Shp.r72_46 {Z : aZ} (h : Shp Z) : zR Z 72 46 = 95 := h.2.1 (72, 46, 95) (by decide)
theorem Shp.r72_47 {Z : aZ} (h : Shp Z) : zR Z 72 47 = 96 := h.2.1 (72, 47, 96) (by decide)
theorem Shp.r72_48 {Z : aZ} (h : Shp Z) : zR Z 72 48 = 97 := h.2.1 (72, 48, 97) (by decide)
theorem Shp.r72_49 {Z : aZ} (h : Shp Z) : zR Z 72 49 = 98 := h.2.1 (72, 49, 98) (by decide)
theorem Shp.r72_50 {Z : aZ} (h : Shp Z) : zR Z 72 50 = 99 := h.2.1 (72, 50, 99) (by decide)
theorem Shp.r72_55 {Z : aZ} (h : Shp Z) : zR Z 72 55 = 100 := h.2.1 (72, 55, 100) (by decide)
theorem Shp.r72_56 {Z : aZ} (h : Shp Z) : zR Z 72 56 = 101 := h.2.1 (72, 56, 101) (by decide)
theorem Shp.r72_57 {Z : aZ} (h : Shp Z) : zR Z 72 57 = 102 := h.2.1 (72, 57, 102) (by decide)
theorem Shp.r72_58 {Z : aZ} (h : Shp Z) : zR Z 72 58 = 103 := h.2.1 (72, 58, 103) (by decide)
theorem Shp.r72_59 {Z : aZ} (h : Shp Z) : zR Z 72 59 = 104 := h.2.1 (72, 59, 104) (by decide)
theorem Shp.r72_60 {Z : aZ} (h : Shp Z) : zR Z 72 60 = 105 := h.2.1 (72, 60, 105) (by decide)
theorem Shp.r72_62 {Z : aZ} (h : Shp Z) : zR Z 72 62 = 106 := h.2.1 (72, 62, 106) (by decide)
theorem Shp.r72_63 {Z : aZ} (h : Shp Z) : zR Z 72 63 = 107 := h.2.1 (72, 63, 107) (by decide)
theorem Shp.r72_64 {Z : aZ} (h : Shp Z) : zR Z 72 64 = 108 := h.2.1 (72, 64, 108) (by decide)
theorem Shp.r72_65 {Z : aZ} (h : Shp Z) : zR Z 72 65 = 109 := h.2.1 (72, 65, 109) (by decide)
theorem Shp.r72_66 {Z : aZ} (h : Shp Z) : zR Z 72 66 = 110 := h.2.1 (72, 66, 110) (by decide)
theorem Shp.r72_67 {Z : aZ} (h : Shp Z) : zR Z 72 67 = 111 := h.2.1 (72, 67, 111) (by decide)
