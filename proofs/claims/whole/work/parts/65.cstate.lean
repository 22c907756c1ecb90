/-! A NEW State -/
theorem nw_f {Z : aZ} {ty n sz a : Nat} (h : a < zX Z + 32) : zK (nwZ Z ty n sz) a = zK Z a ∧ zN (nwZ Z ty n sz) a = zN Z a ∧ ∀ k, zR (nwZ Z ty n sz) a k = zR Z a k := by
  refine ⟨?_, ?_, fun k => ?_⟩
  · rw [zK_n, if_neg (by omega)]
  · rw [zN_n, if_neg (by omega)]
  · rw [zR_n, if_neg (by omega)]
theorem nw_k {Z : aZ} {ty n sz : Nat} : zK (nwZ Z ty n sz) (zX Z + 32) = ty ∧ zN (nwZ Z ty n sz) (zX Z + 32) = n := by
  rw [zK_n, zN_n, if_pos rfl, if_pos rfl]
  exact ⟨rfl, rfl⟩
theorem wr_f {Z : aZ} {t k v a : Nat} : zK (wrZ Z t k v) a = zK Z a ∧ zN (wrZ Z t k v) a = zN Z a := ⟨rfl, rfl⟩
theorem wr_r {Z : aZ} {t k v a j : Nat} (h : a ≠ t ∨ j ≠ k) : zR (wrZ Z t k v) a j = zR Z a j := by
  rw [zR_w]
  by_cases ha : a = t
  · rw [if_pos ha, if_neg (h.resolve_left (fun q => q ha))]
  · rw [if_neg ha]
theorem wr_s {Z : aZ} {t k v : Nat} : zR (wrZ Z t k v) t k = v := by rw [zR_w, if_pos rfl, if_pos rfl]
theorem al_f {Z : aZ} {t a : Nat} (l : List aA) (h : a < zX Z + 32) : zK (alZ Z t l) a = zK Z a ∧ zN (alZ Z t l) a = zN Z a := by
  rw [(alZ_K l Z t a).1, (alZ_K l Z t a).2, if_neg (by omega), if_neg (by omega)]
  exact ⟨rfl, rfl⟩
theorem al_k {Z : aZ} {t j : Nat} (l : List aA) (h : j < l.length) : zK (alZ Z t l) (zX Z + 32 + j) = (l.getD j (0, 0, 0, 0)).2.1 ∧ zN (alZ Z t l) (zX Z + 32 + j) = (l.getD j (0, 0, 0, 0)).2.2.1 := by
  rw [(alZ_K l Z t _).1, (alZ_K l Z t _).2, if_pos (by omega), if_pos (by omega), Nat.add_sub_cancel_left]
  exact ⟨rfl, rfl⟩
theorem al_r {Z : aZ} {t a k : Nat} (l : List aA) (h : a < zX Z + 32) (ha : a ≠ t) : zR (alZ Z t l) a k = zR Z a k := by
  rw [alZ_Ro l Z t a k ha, if_neg (by omega)]
def ini (o k : Nat) : Int32 := if o = 1 then (if k = 5 then 10 else if k = 17 ∨ k = 18 then -1 else 0) else if o = 16 ∧ k < 144 then -1 else if o = 22 ∧ k < 16 then -1 else if o = 23 ∧ k < 10 then -1 else 0
section NS
variable {I : aI} {G : aL} {Z : aZ}
def stZ (Z : aZ) (b : Nat) : aZ := wrZ (nwZ (wrZ (nwZ (wrZ (alZ (nwZ (wrZ (alZ (nwZ (wrZ (alZ (alZ (nwZ Z 6 0 19) (b + 1) lTk) (b + 2) (lRi 7)) b 0 (b + 1)) 5 0 9) (b + 12) lStr) b 1 (b + 12)) 9 0 4) (b + 18) lWit) b 2 (b + 18)) 12 16 16) b 3 (b + 22)) 12 10 10) b 4 (b + 23)
theorem st_U {b : Nat} : zU (stZ Z b) = zU Z + 1815 := by
  unfold stZ
  rw [zU_w, zU_n, zU_w, zU_n, zU_w, alZ_U, zU_n, zU_w, alZ_U, zU_n, zU_w, alZ_U, alZ_U, zU_n]
  show zU Z + 19 + 67 + 70 + 9 + 720 + 4 + 900 + 16 + 10 = _
  omega
theorem st_X {b : Nat} : zX (stZ Z b) = zX Z + 23 := by
  unfold stZ
  rw [zX_w, zX_n, zX_w, zX_n, zX_w, alZ_X, zX_n, zX_w, alZ_X, zX_n, zX_w, alZ_X, alZ_X, zX_n]
  show zX Z + 1 + 3 + 7 + 1 + 5 + 1 + 3 + 1 + 1 = _
  omega
theorem st_K {b : Nat} (hb : b + 1 = zX Z + 32) (hk : zK Z b = 4) (hn : zN Z b = 0) : (∀ q, q < 24 → zK (stZ Z b) (b + q) = bkl.getD q 0 ∧ zN (stZ Z b) (b + q) = bnl.getD q 0) ∧ ∀ a, a < b → zK (stZ Z b) a = zK Z a ∧ zN (stZ Z b) a = zN Z a := by
  unfold stZ
  generalize hZ1 : nwZ Z 6 0 19 = Z1
  generalize hZ2 : alZ Z1 (b + 1) lTk = Z2
  generalize hZ3 : alZ Z2 (b + 2) (lRi 7) = Z3
  generalize hZ4 : wrZ Z3 b 0 (b + 1) = Z4
  generalize hZ5 : nwZ Z4 5 0 9 = Z5
  generalize hZ6 : alZ Z5 (b + 12) lStr = Z6
  generalize hZ7 : wrZ Z6 b 1 (b + 12) = Z7
  generalize hZ8 : nwZ Z7 9 0 4 = Z8
  generalize hZ9 : alZ Z8 (b + 18) lWit = Z9
  generalize hZ10 : wrZ Z9 b 2 (b + 18) = Z10
  generalize hZ11 : nwZ Z10 12 16 16 = Z11
  generalize hZ12 : wrZ Z11 b 3 (b + 22) = Z12
  generalize hZ13 : nwZ Z12 12 10 10 = Z13
  generalize hZ14 : wrZ Z13 b 4 (b + 23) = Z14
  have x1 : zX Z1 + 32 = b + 2 := by rw [← hZ1, zX_n]; omega
  have x2 : zX Z2 + 32 = b + 5 := by rw [← hZ2, alZ_X]; show zX Z1 + 3 + 32 = _; omega
  have x3 : zX Z3 + 32 = b + 12 := by rw [← hZ3, alZ_X, lRi_l]; omega
  have x4 : zX Z4 + 32 = b + 12 := by rw [← hZ4, zX_w]; exact x3
  have x5 : zX Z5 + 32 = b + 13 := by rw [← hZ5, zX_n]; omega
  have x6 : zX Z6 + 32 = b + 18 := by rw [← hZ6, alZ_X]; show zX Z5 + 5 + 32 = _; omega
  have x7 : zX Z7 + 32 = b + 18 := by rw [← hZ7, zX_w]; exact x6
  have x8 : zX Z8 + 32 = b + 19 := by rw [← hZ8, zX_n]; omega
  have x9 : zX Z9 + 32 = b + 22 := by rw [← hZ9, alZ_X]; show zX Z8 + 3 + 32 = _; omega
  have x10 : zX Z10 + 32 = b + 22 := by rw [← hZ10, zX_w]; exact x9
  have x11 : zX Z11 + 32 = b + 23 := by rw [← hZ11, zX_n]; omega
  have x12 : zX Z12 + 32 = b + 23 := by rw [← hZ12, zX_w]; exact x11
  have x13 : zX Z13 + 32 = b + 24 := by rw [← hZ13, zX_n]; omega
  have x14 : zX Z14 + 32 = b + 24 := by rw [← hZ14, zX_w]; exact x13
  have f1 : ∀ a, a < b + 1 → zK Z1 a = zK Z a ∧ zN Z1 a = zN Z a := fun a h => by rw [← hZ1]; exact ⟨(nw_f (by rw [← hb]; exact h)).1, (nw_f (by rw [← hb]; exact h)).2.1⟩
  have f2 : ∀ a, a < b + 2 → zK Z2 a = zK Z1 a ∧ zN Z2 a = zN Z1 a := fun a h => by rw [← hZ2]; exact al_f lTk (by rw [x1]; exact h)
  have f3 : ∀ a, a < b + 5 → zK Z3 a = zK Z2 a ∧ zN Z3 a = zN Z2 a := fun a h => by rw [← hZ3]; exact al_f (lRi 7) (by rw [x2]; exact h)
  have f4 : ∀ a, a < b + 12 → zK Z4 a = zK Z3 a ∧ zN Z4 a = zN Z3 a := fun a h => by rw [← hZ4]; exact wr_f
  have f5 : ∀ a, a < b + 12 → zK Z5 a = zK Z4 a ∧ zN Z5 a = zN Z4 a := fun a h => by rw [← hZ5]; exact ⟨(nw_f (by rw [x4]; exact h)).1, (nw_f (by rw [x4]; exact h)).2.1⟩
  have f6 : ∀ a, a < b + 13 → zK Z6 a = zK Z5 a ∧ zN Z6 a = zN Z5 a := fun a h => by rw [← hZ6]; exact al_f lStr (by rw [x5]; exact h)
  have f7 : ∀ a, a < b + 18 → zK Z7 a = zK Z6 a ∧ zN Z7 a = zN Z6 a := fun a h => by rw [← hZ7]; exact wr_f
  have f8 : ∀ a, a < b + 18 → zK Z8 a = zK Z7 a ∧ zN Z8 a = zN Z7 a := fun a h => by rw [← hZ8]; exact ⟨(nw_f (by rw [x7]; exact h)).1, (nw_f (by rw [x7]; exact h)).2.1⟩
  have f9 : ∀ a, a < b + 19 → zK Z9 a = zK Z8 a ∧ zN Z9 a = zN Z8 a := fun a h => by rw [← hZ9]; exact al_f lWit (by rw [x8]; exact h)
  have f10 : ∀ a, a < b + 22 → zK Z10 a = zK Z9 a ∧ zN Z10 a = zN Z9 a := fun a h => by rw [← hZ10]; exact wr_f
  have f11 : ∀ a, a < b + 22 → zK Z11 a = zK Z10 a ∧ zN Z11 a = zN Z10 a := fun a h => by rw [← hZ11]; exact ⟨(nw_f (by rw [x10]; exact h)).1, (nw_f (by rw [x10]; exact h)).2.1⟩
  have f12 : ∀ a, a < b + 23 → zK Z12 a = zK Z11 a ∧ zN Z12 a = zN Z11 a := fun a h => by rw [← hZ12]; exact wr_f
  have f13 : ∀ a, a < b + 23 → zK Z13 a = zK Z12 a ∧ zN Z13 a = zN Z12 a := fun a h => by rw [← hZ13]; exact ⟨(nw_f (by rw [x12]; exact h)).1, (nw_f (by rw [x12]; exact h)).2.1⟩
  have f14 : ∀ a, a < b + 24 → zK Z14 a = zK Z13 a ∧ zN Z14 a = zN Z13 a := fun a h => by rw [← hZ14]; exact wr_f
  have hh : ∀ {a c d : Nat}, a < b + c → c ≤ d → a < b + d := fun h1 h2 => Nat.lt_of_lt_of_le h1 (Nat.add_le_add_left h2 b)
  have F14 : ∀ a, a < b + 24 → zK Z14 a = zK Z14 a ∧ zN Z14 a = zN Z14 a := fun _ _ => ⟨rfl, rfl⟩
  have F13 : ∀ a, a < b + 24 → zK Z14 a = zK Z13 a ∧ zN Z14 a = zN Z13 a := fun a h => ⟨(F14 a (hh h (by decide))).1.trans (f14 a h).1, (F14 a (hh h (by decide))).2.trans (f14 a h).2⟩
  have F12 : ∀ a, a < b + 23 → zK Z14 a = zK Z12 a ∧ zN Z14 a = zN Z12 a := fun a h => ⟨(F13 a (hh h (by decide))).1.trans (f13 a h).1, (F13 a (hh h (by decide))).2.trans (f13 a h).2⟩
  have F11 : ∀ a, a < b + 23 → zK Z14 a = zK Z11 a ∧ zN Z14 a = zN Z11 a := fun a h => ⟨(F12 a (hh h (by decide))).1.trans (f12 a h).1, (F12 a (hh h (by decide))).2.trans (f12 a h).2⟩
  have F10 : ∀ a, a < b + 22 → zK Z14 a = zK Z10 a ∧ zN Z14 a = zN Z10 a := fun a h => ⟨(F11 a (hh h (by decide))).1.trans (f11 a h).1, (F11 a (hh h (by decide))).2.trans (f11 a h).2⟩
  have F9 : ∀ a, a < b + 22 → zK Z14 a = zK Z9 a ∧ zN Z14 a = zN Z9 a := fun a h => ⟨(F10 a (hh h (by decide))).1.trans (f10 a h).1, (F10 a (hh h (by decide))).2.trans (f10 a h).2⟩
  have F8 : ∀ a, a < b + 19 → zK Z14 a = zK Z8 a ∧ zN Z14 a = zN Z8 a := fun a h => ⟨(F9 a (hh h (by decide))).1.trans (f9 a h).1, (F9 a (hh h (by decide))).2.trans (f9 a h).2⟩
  have F7 : ∀ a, a < b + 18 → zK Z14 a = zK Z7 a ∧ zN Z14 a = zN Z7 a := fun a h => ⟨(F8 a (hh h (by decide))).1.trans (f8 a h).1, (F8 a (hh h (by decide))).2.trans (f8 a h).2⟩
  have F6 : ∀ a, a < b + 18 → zK Z14 a = zK Z6 a ∧ zN Z14 a = zN Z6 a := fun a h => ⟨(F7 a (hh h (by decide))).1.trans (f7 a h).1, (F7 a (hh h (by decide))).2.trans (f7 a h).2⟩
  have F5 : ∀ a, a < b + 13 → zK Z14 a = zK Z5 a ∧ zN Z14 a = zN Z5 a := fun a h => ⟨(F6 a (hh h (by decide))).1.trans (f6 a h).1, (F6 a (hh h (by decide))).2.trans (f6 a h).2⟩
  have F4 : ∀ a, a < b + 12 → zK Z14 a = zK Z4 a ∧ zN Z14 a = zN Z4 a := fun a h => ⟨(F5 a (hh h (by decide))).1.trans (f5 a h).1, (F5 a (hh h (by decide))).2.trans (f5 a h).2⟩
  have F3 : ∀ a, a < b + 12 → zK Z14 a = zK Z3 a ∧ zN Z14 a = zN Z3 a := fun a h => ⟨(F4 a (hh h (by decide))).1.trans (f4 a h).1, (F4 a (hh h (by decide))).2.trans (f4 a h).2⟩
  have F2 : ∀ a, a < b + 5 → zK Z14 a = zK Z2 a ∧ zN Z14 a = zN Z2 a := fun a h => ⟨(F3 a (hh h (by decide))).1.trans (f3 a h).1, (F3 a (hh h (by decide))).2.trans (f3 a h).2⟩
  have F1 : ∀ a, a < b + 2 → zK Z14 a = zK Z1 a ∧ zN Z14 a = zN Z1 a := fun a h => ⟨(F2 a (hh h (by decide))).1.trans (f2 a h).1, (F2 a (hh h (by decide))).2.trans (f2 a h).2⟩
  have F0 : ∀ a, a < b + 1 → zK Z14 a = zK Z a ∧ zN Z14 a = zN Z a := fun a h => ⟨(F1 a (hh h (by decide))).1.trans (f1 a h).1, (F1 a (hh h (by decide))).2.trans (f1 a h).2⟩
  refine ⟨fun q hq => ?_, fun a ha => F0 a (Nat.lt_succ_of_lt ha)⟩
  match q, hq with
  | 0, _ =>
    have c : zK Z (b) = 4 ∧ zN Z (b) = 0 := ⟨hk, hn⟩
    exact ⟨(F0 _ (Nat.lt_add_of_pos_right (by decide))).1.trans c.1, (F0 _ (Nat.lt_add_of_pos_right (by decide))).2.trans c.2⟩
  | 1, _ =>
    have c : zK Z1 (b + 1) = 6 ∧ zN Z1 (b + 1) = 0 := (by have z := nw_k (Z := Z) (ty := 6) (n := 0) (sz := 19); rw [hZ1, ← hb] at z; exact z)
    exact ⟨(F1 _ (Nat.add_lt_add_left (by decide) b)).1.trans c.1, (F1 _ (Nat.add_lt_add_left (by decide) b)).2.trans c.2⟩
  | 2, _ =>
    have c : zK Z2 (b + 2) = 17 ∧ zN Z2 (b + 2) = 7 := (by have z := al_k (Z := Z1) (t := b + 1) (j := 0) lTk (by decide); rw [hZ2, x1] at z; exact z)
    exact ⟨(F2 _ (Nat.add_lt_add_left (by decide) b)).1.trans c.1, (F2 _ (Nat.add_lt_add_left (by decide) b)).2.trans c.2⟩
  | 3, _ =>
    have c : zK Z2 (b + 3) = 12 ∧ zN Z2 (b + 3) = 30 := (by have z := al_k (Z := Z1) (t := b + 1) (j := 1) lTk (by decide); rw [hZ2, x1] at z; exact z)
    exact ⟨(F2 _ (Nat.add_lt_add_left (by decide) b)).1.trans c.1, (F2 _ (Nat.add_lt_add_left (by decide) b)).2.trans c.2⟩
  | 4, _ =>
    have c : zK Z2 (b + 4) = 12 ∧ zN Z2 (b + 4) = 30 := (by have z := al_k (Z := Z1) (t := b + 1) (j := 2) lTk (by decide); rw [hZ2, x1] at z; exact z)
    exact ⟨(F2 _ (Nat.add_lt_add_left (by decide) b)).1.trans c.1, (F2 _ (Nat.add_lt_add_left (by decide) b)).2.trans c.2⟩
  | 5, _ =>
    have c : zK Z3 (b + 5) = 3 ∧ zN Z3 (b + 5) = 0 := (by have z := al_k (Z := Z2) (t := b + 2) (j := 0) (lRi 7) (by decide); rw [hZ3, x2] at z; exact z)
    exact ⟨(F3 _ (Nat.add_lt_add_left (by decide) b)).1.trans c.1, (F3 _ (Nat.add_lt_add_left (by decide) b)).2.trans c.2⟩
  | 6, _ =>
    have c : zK Z3 (b + 6) = 3 ∧ zN Z3 (b + 6) = 0 := (by have z := al_k (Z := Z2) (t := b + 2) (j := 1) (lRi 7) (by decide); rw [hZ3, x2] at z; exact z)
    exact ⟨(F3 _ (Nat.add_lt_add_left (by decide) b)).1.trans c.1, (F3 _ (Nat.add_lt_add_left (by decide) b)).2.trans c.2⟩
  | 7, _ =>
    have c : zK Z3 (b + 7) = 3 ∧ zN Z3 (b + 7) = 0 := (by have z := al_k (Z := Z2) (t := b + 2) (j := 2) (lRi 7) (by decide); rw [hZ3, x2] at z; exact z)
    exact ⟨(F3 _ (Nat.add_lt_add_left (by decide) b)).1.trans c.1, (F3 _ (Nat.add_lt_add_left (by decide) b)).2.trans c.2⟩
  | 8, _ =>
    have c : zK Z3 (b + 8) = 3 ∧ zN Z3 (b + 8) = 0 := (by have z := al_k (Z := Z2) (t := b + 2) (j := 3) (lRi 7) (by decide); rw [hZ3, x2] at z; exact z)
    exact ⟨(F3 _ (Nat.add_lt_add_left (by decide) b)).1.trans c.1, (F3 _ (Nat.add_lt_add_left (by decide) b)).2.trans c.2⟩
  | 9, _ =>
    have c : zK Z3 (b + 9) = 3 ∧ zN Z3 (b + 9) = 0 := (by have z := al_k (Z := Z2) (t := b + 2) (j := 4) (lRi 7) (by decide); rw [hZ3, x2] at z; exact z)
    exact ⟨(F3 _ (Nat.add_lt_add_left (by decide) b)).1.trans c.1, (F3 _ (Nat.add_lt_add_left (by decide) b)).2.trans c.2⟩
  | 10, _ =>
    have c : zK Z3 (b + 10) = 3 ∧ zN Z3 (b + 10) = 0 := (by have z := al_k (Z := Z2) (t := b + 2) (j := 5) (lRi 7) (by decide); rw [hZ3, x2] at z; exact z)
    exact ⟨(F3 _ (Nat.add_lt_add_left (by decide) b)).1.trans c.1, (F3 _ (Nat.add_lt_add_left (by decide) b)).2.trans c.2⟩
  | 11, _ =>
    have c : zK Z3 (b + 11) = 3 ∧ zN Z3 (b + 11) = 0 := (by have z := al_k (Z := Z2) (t := b + 2) (j := 6) (lRi 7) (by decide); rw [hZ3, x2] at z; exact z)
    exact ⟨(F3 _ (Nat.add_lt_add_left (by decide) b)).1.trans c.1, (F3 _ (Nat.add_lt_add_left (by decide) b)).2.trans c.2⟩
  | 12, _ =>
    have c : zK Z5 (b + 12) = 5 ∧ zN Z5 (b + 12) = 0 := (by have z := nw_k (Z := Z4) (ty := 5) (n := 0) (sz := 9); rw [hZ5, x4] at z; exact z)
    exact ⟨(F5 _ (Nat.add_lt_add_left (by decide) b)).1.trans c.1, (F5 _ (Nat.add_lt_add_left (by decide) b)).2.trans c.2⟩
  | 13, _ =>
    have c : zK Z6 (b + 13) = 12 ∧ zN Z6 (b + 13) = 144 := (by have z := al_k (Z := Z5) (t := b + 12) (j := 0) lStr (by decide); rw [hZ6, x5] at z; exact z)
    exact ⟨(F6 _ (Nat.add_lt_add_left (by decide) b)).1.trans c.1, (F6 _ (Nat.add_lt_add_left (by decide) b)).2.trans c.2⟩
  | 14, _ =>
    have c : zK Z6 (b + 14) = 12 ∧ zN Z6 (b + 14) = 144 := (by have z := al_k (Z := Z5) (t := b + 12) (j := 1) lStr (by decide); rw [hZ6, x5] at z; exact z)
    exact ⟨(F6 _ (Nat.add_lt_add_left (by decide) b)).1.trans c.1, (F6 _ (Nat.add_lt_add_left (by decide) b)).2.trans c.2⟩
  | 15, _ =>
    have c : zK Z6 (b + 15) = 12 ∧ zN Z6 (b + 15) = 144 := (by have z := al_k (Z := Z5) (t := b + 12) (j := 2) lStr (by decide); rw [hZ6, x5] at z; exact z)
    exact ⟨(F6 _ (Nat.add_lt_add_left (by decide) b)).1.trans c.1, (F6 _ (Nat.add_lt_add_left (by decide) b)).2.trans c.2⟩
  | 16, _ =>
    have c : zK Z6 (b + 16) = 12 ∧ zN Z6 (b + 16) = 144 := (by have z := al_k (Z := Z5) (t := b + 12) (j := 3) lStr (by decide); rw [hZ6, x5] at z; exact z)
    exact ⟨(F6 _ (Nat.add_lt_add_left (by decide) b)).1.trans c.1, (F6 _ (Nat.add_lt_add_left (by decide) b)).2.trans c.2⟩
  | 17, _ =>
    have c : zK Z6 (b + 17) = 12 ∧ zN Z6 (b + 17) = 144 := (by have z := al_k (Z := Z5) (t := b + 12) (j := 4) lStr (by decide); rw [hZ6, x5] at z; exact z)
    exact ⟨(F6 _ (Nat.add_lt_add_left (by decide) b)).1.trans c.1, (F6 _ (Nat.add_lt_add_left (by decide) b)).2.trans c.2⟩
  | 18, _ =>
    have c : zK Z8 (b + 18) = 9 ∧ zN Z8 (b + 18) = 0 := (by have z := nw_k (Z := Z7) (ty := 9) (n := 0) (sz := 4); rw [hZ8, x7] at z; exact z)
    exact ⟨(F8 _ (Nat.add_lt_add_left (by decide) b)).1.trans c.1, (F8 _ (Nat.add_lt_add_left (by decide) b)).2.trans c.2⟩
  | 19, _ =>
    have c : zK Z9 (b + 19) = 12 ∧ zN Z9 (b + 19) = 300 := (by have z := al_k (Z := Z8) (t := b + 18) (j := 0) lWit (by decide); rw [hZ9, x8] at z; exact z)
    exact ⟨(F9 _ (Nat.add_lt_add_left (by decide) b)).1.trans c.1, (F9 _ (Nat.add_lt_add_left (by decide) b)).2.trans c.2⟩
  | 20, _ =>
    have c : zK Z9 (b + 20) = 12 ∧ zN Z9 (b + 20) = 300 := (by have z := al_k (Z := Z8) (t := b + 18) (j := 1) lWit (by decide); rw [hZ9, x8] at z; exact z)
    exact ⟨(F9 _ (Nat.add_lt_add_left (by decide) b)).1.trans c.1, (F9 _ (Nat.add_lt_add_left (by decide) b)).2.trans c.2⟩
  | 21, _ =>
    have c : zK Z9 (b + 21) = 12 ∧ zN Z9 (b + 21) = 300 := (by have z := al_k (Z := Z8) (t := b + 18) (j := 2) lWit (by decide); rw [hZ9, x8] at z; exact z)
    exact ⟨(F9 _ (Nat.add_lt_add_left (by decide) b)).1.trans c.1, (F9 _ (Nat.add_lt_add_left (by decide) b)).2.trans c.2⟩
  | 22, _ =>
    have c : zK Z11 (b + 22) = 12 ∧ zN Z11 (b + 22) = 16 := (by have z := nw_k (Z := Z10) (ty := 12) (n := 16) (sz := 16); rw [hZ11, x10] at z; exact z)
    exact ⟨(F11 _ (Nat.add_lt_add_left (by decide) b)).1.trans c.1, (F11 _ (Nat.add_lt_add_left (by decide) b)).2.trans c.2⟩
  | 23, _ =>
    have c : zK Z13 (b + 23) = 12 ∧ zN Z13 (b + 23) = 10 := (by have z := nw_k (Z := Z12) (ty := 12) (n := 10) (sz := 10); rw [hZ13, x12] at z; exact z)
    exact ⟨(F13 _ (Nat.add_lt_add_left (by decide) b)).1.trans c.1, (F13 _ (Nat.add_lt_add_left (by decide) b)).2.trans c.2⟩
  | q + 24, hq => exact absurd hq (by clear hk hn; omega)
theorem st_R {b : Nat} (hb : b + 1 = zX Z + 32) : (∀ e ∈ brl, zR (stZ Z b) (b + e.1) e.2.1 = b + e.2.2) ∧ ∀ a k, a < b → zR (stZ Z b) a k = zR Z a k := by
  unfold stZ
  generalize hZ1 : nwZ Z 6 0 19 = Z1
  generalize hZ2 : alZ Z1 (b + 1) lTk = Z2
  generalize hZ3 : alZ Z2 (b + 2) (lRi 7) = Z3
  generalize hZ4 : wrZ Z3 b 0 (b + 1) = Z4
  generalize hZ5 : nwZ Z4 5 0 9 = Z5
  generalize hZ6 : alZ Z5 (b + 12) lStr = Z6
  generalize hZ7 : wrZ Z6 b 1 (b + 12) = Z7
  generalize hZ8 : nwZ Z7 9 0 4 = Z8
  generalize hZ9 : alZ Z8 (b + 18) lWit = Z9
  generalize hZ10 : wrZ Z9 b 2 (b + 18) = Z10
  generalize hZ11 : nwZ Z10 12 16 16 = Z11
  generalize hZ12 : wrZ Z11 b 3 (b + 22) = Z12
  generalize hZ13 : nwZ Z12 12 10 10 = Z13
  generalize hZ14 : wrZ Z13 b 4 (b + 23) = Z14
  have x1 : zX Z1 + 32 = b + 2 := by rw [← hZ1, zX_n]; omega
  have x2 : zX Z2 + 32 = b + 5 := by rw [← hZ2, alZ_X]; show zX Z1 + 3 + 32 = _; omega
  have x3 : zX Z3 + 32 = b + 12 := by rw [← hZ3, alZ_X, lRi_l]; omega
  have x4 : zX Z4 + 32 = b + 12 := by rw [← hZ4, zX_w]; exact x3
  have x5 : zX Z5 + 32 = b + 13 := by rw [← hZ5, zX_n]; omega
  have x6 : zX Z6 + 32 = b + 18 := by rw [← hZ6, alZ_X]; show zX Z5 + 5 + 32 = _; omega
  have x7 : zX Z7 + 32 = b + 18 := by rw [← hZ7, zX_w]; exact x6
  have x8 : zX Z8 + 32 = b + 19 := by rw [← hZ8, zX_n]; omega
  have x9 : zX Z9 + 32 = b + 22 := by rw [← hZ9, alZ_X]; show zX Z8 + 3 + 32 = _; omega
  have x10 : zX Z10 + 32 = b + 22 := by rw [← hZ10, zX_w]; exact x9
  have x11 : zX Z11 + 32 = b + 23 := by rw [← hZ11, zX_n]; omega
  have x12 : zX Z12 + 32 = b + 23 := by rw [← hZ12, zX_w]; exact x11
  have x13 : zX Z13 + 32 = b + 24 := by rw [← hZ13, zX_n]; omega
  have x14 : zX Z14 + 32 = b + 24 := by rw [← hZ14, zX_w]; exact x13
  have g1 : ∀ a k, a < b + 1 → zR Z1 a k = zR Z a k := fun a k h => by rw [← hZ1]; exact (nw_f (by rw [← hb]; exact h)).2.2 k
  have g2 : ∀ a k, a < b + 2 → a ≠ b + 1 → zR Z2 a k = zR Z1 a k := fun a k h h2 => by rw [← hZ2]; exact al_r lTk (by rw [x1]; exact h) h2
  have g3 : ∀ a k, a < b + 5 → a ≠ b + 2 → zR Z3 a k = zR Z2 a k := fun a k h h2 => by rw [← hZ3]; exact al_r (lRi 7) (by rw [x2]; exact h) h2
  have g4 : ∀ a k, a ≠ b ∨ k ≠ 0 → zR Z4 a k = zR Z3 a k := fun a k h => by rw [← hZ4]; exact wr_r h
  have g5 : ∀ a k, a < b + 12 → zR Z5 a k = zR Z4 a k := fun a k h => by rw [← hZ5]; exact (nw_f (by rw [x4]; exact h)).2.2 k
  have g6 : ∀ a k, a < b + 13 → a ≠ b + 12 → zR Z6 a k = zR Z5 a k := fun a k h h2 => by rw [← hZ6]; exact al_r lStr (by rw [x5]; exact h) h2
  have g7 : ∀ a k, a ≠ b ∨ k ≠ 1 → zR Z7 a k = zR Z6 a k := fun a k h => by rw [← hZ7]; exact wr_r h
  have g8 : ∀ a k, a < b + 18 → zR Z8 a k = zR Z7 a k := fun a k h => by rw [← hZ8]; exact (nw_f (by rw [x7]; exact h)).2.2 k
  have g9 : ∀ a k, a < b + 19 → a ≠ b + 18 → zR Z9 a k = zR Z8 a k := fun a k h h2 => by rw [← hZ9]; exact al_r lWit (by rw [x8]; exact h) h2
  have g10 : ∀ a k, a ≠ b ∨ k ≠ 2 → zR Z10 a k = zR Z9 a k := fun a k h => by rw [← hZ10]; exact wr_r h
  have g11 : ∀ a k, a < b + 22 → zR Z11 a k = zR Z10 a k := fun a k h => by rw [← hZ11]; exact (nw_f (by rw [x10]; exact h)).2.2 k
  have g12 : ∀ a k, a ≠ b ∨ k ≠ 3 → zR Z12 a k = zR Z11 a k := fun a k h => by rw [← hZ12]; exact wr_r h
  have g13 : ∀ a k, a < b + 23 → zR Z13 a k = zR Z12 a k := fun a k h => by rw [← hZ13]; exact (nw_f (by rw [x12]; exact h)).2.2 k
  have g14 : ∀ a k, a ≠ b ∨ k ≠ 4 → zR Z14 a k = zR Z13 a k := fun a k h => by rw [← hZ14]; exact wr_r h
  have r1 : ∀ j, j < 3 → zR Z2 (b + 1) j = b + 2 + j := by
    intro j hj
    have h := alZ_Rt lTk Z1 (b + 1) j (by omega) (by decide) hj
    rw [hZ2, x1] at h
    match j, hj with
    | 0, _ => exact h
    | 1, _ => exact h
    | 2, _ => exact h
  have r2 : ∀ j, j < 7 → zR Z3 (b + 2) j = b + 5 + j := by
    intro j hj
    have h := alZ_Rt (lRi 7) Z2 (b + 2) j (by omega) (by decide) (by rw [lRi_l]; exact hj)
    rw [hZ3, x2] at h
    match j, hj with
    | 0, _ => exact h
    | 1, _ => exact h
    | 2, _ => exact h
    | 3, _ => exact h
    | 4, _ => exact h
    | 5, _ => exact h
    | 6, _ => exact h
  have r3 : ∀ j, j < 5 → zR Z6 (b + 12) j = b + 13 + j := by
    intro j hj
    have h := alZ_Rt lStr Z5 (b + 12) j (by omega) (by decide) hj
    rw [hZ6, x5] at h
    match j, hj with
    | 0, _ => exact h
    | 1, _ => exact h
    | 2, _ => exact h
    | 3, _ => exact h
    | 4, _ => exact h
  have r4 : ∀ j, j < 3 → zR Z9 (b + 18) j = b + 19 + j := by
    intro j hj
    have h := alZ_Rt lWit Z8 (b + 18) j (by omega) (by decide) hj
    rw [hZ9, x8] at h
    match j, hj with
    | 0, _ => exact h
    | 1, _ => exact h
    | 2, _ => exact h
  refine ⟨fun e he => ?_, fun a k ha => ?_⟩
  · have b0 : zR Z14 b 0 = b + 1 := by rw [g14 b 0 (Or.inr (by decide)), g13 (b) 0 (Nat.lt_add_of_pos_right (by decide)), g12 b 0 (Or.inr (by decide)), g11 (b) 0 (Nat.lt_add_of_pos_right (by decide)), g10 b 0 (Or.inr (by decide)), g9 (b) 0 (Nat.lt_add_of_pos_right (by decide)) (Nat.ne_of_lt (Nat.lt_add_of_pos_right (by decide))), g8 (b) 0 (Nat.lt_add_of_pos_right (by decide)), g7 b 0 (Or.inr (by decide)), g6 (b) 0 (Nat.lt_add_of_pos_right (by decide)) (Nat.ne_of_lt (Nat.lt_add_of_pos_right (by decide))), g5 (b) 0 (Nat.lt_add_of_pos_right (by decide))]; rw [← hZ4, wr_s]
    have b1 : zR Z14 b 1 = b + 12 := by rw [g14 b 1 (Or.inr (by decide)), g13 (b) 1 (Nat.lt_add_of_pos_right (by decide)), g12 b 1 (Or.inr (by decide)), g11 (b) 1 (Nat.lt_add_of_pos_right (by decide)), g10 b 1 (Or.inr (by decide)), g9 (b) 1 (Nat.lt_add_of_pos_right (by decide)) (Nat.ne_of_lt (Nat.lt_add_of_pos_right (by decide))), g8 (b) 1 (Nat.lt_add_of_pos_right (by decide))]; rw [← hZ7, wr_s]
    have b2 : zR Z14 b 2 = b + 18 := by rw [g14 b 2 (Or.inr (by decide)), g13 (b) 2 (Nat.lt_add_of_pos_right (by decide)), g12 b 2 (Or.inr (by decide)), g11 (b) 2 (Nat.lt_add_of_pos_right (by decide))]; rw [← hZ10, wr_s]
    have b3 : zR Z14 b 3 = b + 22 := by rw [g14 b 3 (Or.inr (by decide)), g13 (b) 3 (Nat.lt_add_of_pos_right (by decide))]; rw [← hZ12, wr_s]
    have b4 : zR Z14 b 4 = b + 23 := by rw [← hZ14, wr_s]
    have h0 : ∀ j, j < 5 → zR Z14 b j = b + [1, 12, 18, 22, 23].getD j 0 := fun j hj => match j, hj with
      | 0, _ => b0
      | 1, _ => b1
      | 2, _ => b2
      | 3, _ => b3
      | 4, _ => b4
    have h1 : ∀ j, j < 3 → zR Z14 (b + 1) j = b + 2 + j := fun j hj => by rw [g14 (b + 1) j (Or.inl (Nat.ne_of_gt (Nat.lt_add_of_pos_right (by decide)))), g13 (b + 1) j (Nat.add_lt_add_left (by decide) b), g12 (b + 1) j (Or.inl (Nat.ne_of_gt (Nat.lt_add_of_pos_right (by decide)))), g11 (b + 1) j (Nat.add_lt_add_left (by decide) b), g10 (b + 1) j (Or.inl (Nat.ne_of_gt (Nat.lt_add_of_pos_right (by decide)))), g9 (b + 1) j (Nat.add_lt_add_left (by decide) b) (Nat.ne_of_lt (Nat.add_lt_add_left (by decide) b)), g8 (b + 1) j (Nat.add_lt_add_left (by decide) b), g7 (b + 1) j (Or.inl (Nat.ne_of_gt (Nat.lt_add_of_pos_right (by decide)))), g6 (b + 1) j (Nat.add_lt_add_left (by decide) b) (Nat.ne_of_lt (Nat.add_lt_add_left (by decide) b)), g5 (b + 1) j (Nat.add_lt_add_left (by decide) b), g4 (b + 1) j (Or.inl (Nat.ne_of_gt (Nat.lt_add_of_pos_right (by decide)))), g3 (b + 1) j (Nat.add_lt_add_left (by decide) b) (Nat.ne_of_lt (Nat.add_lt_add_left (by decide) b))]; exact r1 j hj
    have h2 : ∀ j, j < 7 → zR Z14 (b + 2) j = b + 5 + j := fun j hj => by rw [g14 (b + 2) j (Or.inl (Nat.ne_of_gt (Nat.lt_add_of_pos_right (by decide)))), g13 (b + 2) j (Nat.add_lt_add_left (by decide) b), g12 (b + 2) j (Or.inl (Nat.ne_of_gt (Nat.lt_add_of_pos_right (by decide)))), g11 (b + 2) j (Nat.add_lt_add_left (by decide) b), g10 (b + 2) j (Or.inl (Nat.ne_of_gt (Nat.lt_add_of_pos_right (by decide)))), g9 (b + 2) j (Nat.add_lt_add_left (by decide) b) (Nat.ne_of_lt (Nat.add_lt_add_left (by decide) b)), g8 (b + 2) j (Nat.add_lt_add_left (by decide) b), g7 (b + 2) j (Or.inl (Nat.ne_of_gt (Nat.lt_add_of_pos_right (by decide)))), g6 (b + 2) j (Nat.add_lt_add_left (by decide) b) (Nat.ne_of_lt (Nat.add_lt_add_left (by decide) b)), g5 (b + 2) j (Nat.add_lt_add_left (by decide) b), g4 (b + 2) j (Or.inl (Nat.ne_of_gt (Nat.lt_add_of_pos_right (by decide))))]; exact r2 j hj
    have h3 : ∀ j, j < 5 → zR Z14 (b + 12) j = b + 13 + j := fun j hj => by rw [g14 (b + 12) j (Or.inl (Nat.ne_of_gt (Nat.lt_add_of_pos_right (by decide)))), g13 (b + 12) j (Nat.add_lt_add_left (by decide) b), g12 (b + 12) j (Or.inl (Nat.ne_of_gt (Nat.lt_add_of_pos_right (by decide)))), g11 (b + 12) j (Nat.add_lt_add_left (by decide) b), g10 (b + 12) j (Or.inl (Nat.ne_of_gt (Nat.lt_add_of_pos_right (by decide)))), g9 (b + 12) j (Nat.add_lt_add_left (by decide) b) (Nat.ne_of_lt (Nat.add_lt_add_left (by decide) b)), g8 (b + 12) j (Nat.add_lt_add_left (by decide) b), g7 (b + 12) j (Or.inl (Nat.ne_of_gt (Nat.lt_add_of_pos_right (by decide))))]; exact r3 j hj
    have h4 : ∀ j, j < 3 → zR Z14 (b + 18) j = b + 19 + j := fun j hj => by rw [g14 (b + 18) j (Or.inl (Nat.ne_of_gt (Nat.lt_add_of_pos_right (by decide)))), g13 (b + 18) j (Nat.add_lt_add_left (by decide) b), g12 (b + 18) j (Or.inl (Nat.ne_of_gt (Nat.lt_add_of_pos_right (by decide)))), g11 (b + 18) j (Nat.add_lt_add_left (by decide) b), g10 (b + 18) j (Or.inl (Nat.ne_of_gt (Nat.lt_add_of_pos_right (by decide))))]; exact r4 j hj
    have all : ∀ e ∈ brl, (e.1 = 0 ∧ e.2.1 < 5 ∧ e.2.2 = [1, 12, 18, 22, 23].getD e.2.1 0) ∨ (e.1 = 1 ∧ e.2.1 < 3 ∧ e.2.2 = 2 + e.2.1) ∨ (e.1 = 2 ∧ e.2.1 < 7 ∧ e.2.2 = 5 + e.2.1) ∨ (e.1 = 12 ∧ e.2.1 < 5 ∧ e.2.2 = 13 + e.2.1) ∨ (e.1 = 18 ∧ e.2.1 < 3 ∧ e.2.2 = 19 + e.2.1) := by decide
    rcases all e he with ⟨q1, q2, q3⟩ | ⟨q1, q2, q3⟩ | ⟨q1, q2, q3⟩ | ⟨q1, q2, q3⟩ | ⟨q1, q2, q3⟩
    · rw [q1, q3]; exact h0 _ q2
    · rw [q1, q3, h1 _ q2, Nat.add_assoc]
    · rw [q1, q3, h2 _ q2, Nat.add_assoc]
    · rw [q1, q3, h3 _ q2, Nat.add_assoc]
    · rw [q1, q3, h4 _ q2, Nat.add_assoc]
  · rw [g14 a k (Or.inl (Nat.ne_of_lt ha)), g13 a k (Nat.lt_add_right _ ha), g12 a k (Or.inl (Nat.ne_of_lt ha)), g11 a k (Nat.lt_add_right _ ha), g10 a k (Or.inl (Nat.ne_of_lt ha)), g9 a k (Nat.lt_add_right _ ha) (Nat.ne_of_lt (Nat.lt_add_right _ ha)), g8 a k (Nat.lt_add_right _ ha), g7 a k (Or.inl (Nat.ne_of_lt ha)), g6 a k (Nat.lt_add_right _ ha) (Nat.ne_of_lt (Nat.lt_add_right _ ha)), g5 a k (Nat.lt_add_right _ ha), g4 a k (Or.inl (Nat.ne_of_lt ha)), g3 a k (Nat.lt_add_right _ ha) (Nat.ne_of_lt (Nat.lt_add_right _ ha)), g2 a k (Nat.lt_add_right _ ha) (Nat.ne_of_lt (Nat.lt_add_right _ ha)), g1 a k (Nat.lt_add_right _ ha)]
theorem st_B {b : Nat} (hb : b + 1 = zX Z + 32) (hk : zK Z b = 4) (hn : zN Z b = 0) : ShB (stZ Z b) b := ⟨(st_K hb hk hn).1, (st_R hb).1⟩
/-- the ints of a State as it is made -/
def stI (I : aI) (b : Nat) : aI := fun a k => if a < b then I a k else if a = b then I a k else if a < b + 24 then ini (a - b) k else I a k
theorem tk_e {x b a k : Nat} (hx : x + 32 = b + 2) : tkI (alI (cl2 I (b + 1) 0) x 3) (b + 1) a k = if a = b + 1 then (if k = 5 then 10 else if k = 17 ∨ k = 18 then -1 else 0) else if b + 2 ≤ a ∧ a < b + 5 then 0 else I a k := by
  unfold tkI
  simp only [up2_e, alI_e, hx, cl2_e]
  grind
theorem st_fin {a b k : Nat} : (if a = b + 23 ∧ k < 10 then (-1 : Int32) else if a = b + 22 ∧ k < 16 then -1 else if a = b + 23 then 0 else if a = b + 22 then 0 else if b + 19 ≤ a ∧ a < b + 22 then 0 else if a = b + 18 then 0 else if a = b + 16 ∧ k < 144 then -1 else if b + 13 ≤ a ∧ a < b + 18 then 0 else if a = b + 12 then 0 else if b + 5 ≤ a ∧ a < b + 12 then 0 else if a = b + 1 then (if k = 5 then 10 else if k = 17 ∨ k = 18 then -1 else 0) else if b + 2 ≤ a ∧ a < b + 5 then 0 else I a k) = stI I b a k := by
  unfold stI ini
  grind (splits := 40)
theorem new_state {b : Nat} (hb : b + 1 = zX Z + 32) (hk : zK Z b = 4) (hn : zN Z b = 0) : ∃ (I' : aI) (G' : aL), call 34 [.ref b] (I, G, Z) = some (none, (I', G', stZ Z b)) ∧ ∀ a k, I' a k = stI I b a k := by
  have sB := st_B hb hk hn
  unfold stZ at sB ⊢
  generalize hZ1 : nwZ Z 6 0 19 = Z1 at sB ⊢
  generalize hZ2 : alZ Z1 (b + 1) lTk = Z2 at sB ⊢
  generalize hZ3 : alZ Z2 (b + 2) (lRi 7) = Z3 at sB ⊢
  generalize hZ4 : wrZ Z3 b 0 (b + 1) = Z4 at sB ⊢
  generalize hZ5 : nwZ Z4 5 0 9 = Z5 at sB ⊢
  generalize hZ6 : alZ Z5 (b + 12) lStr = Z6 at sB ⊢
  generalize hZ7 : wrZ Z6 b 1 (b + 12) = Z7 at sB ⊢
  generalize hZ8 : nwZ Z7 9 0 4 = Z8 at sB ⊢
  generalize hZ9 : alZ Z8 (b + 18) lWit = Z9 at sB ⊢
  generalize hZ10 : wrZ Z9 b 2 (b + 18) = Z10 at sB ⊢
  generalize hZ11 : nwZ Z10 12 16 16 = Z11 at sB ⊢
  generalize hZ12 : wrZ Z11 b 3 (b + 22) = Z12 at sB ⊢
  generalize hZ13 : nwZ Z12 12 10 10 = Z13 at sB ⊢
  generalize hZ14 : wrZ Z13 b 4 (b + 23) = Z14 at sB ⊢
  have x1 : zX Z1 + 32 = b + 2 := by rw [← hZ1, zX_n]; omega
  have x2 : zX Z2 + 32 = b + 5 := by rw [← hZ2, alZ_X]; show zX Z1 + 3 + 32 = _; omega
  have x3 : zX Z3 + 32 = b + 12 := by rw [← hZ3, alZ_X, lRi_l]; omega
  have x4 : zX Z4 + 32 = b + 12 := by rw [← hZ4, zX_w]; exact x3
  have x5 : zX Z5 + 32 = b + 13 := by rw [← hZ5, zX_n]; omega
  have x6 : zX Z6 + 32 = b + 18 := by rw [← hZ6, alZ_X]; show zX Z5 + 5 + 32 = _; omega
  have x7 : zX Z7 + 32 = b + 18 := by rw [← hZ7, zX_w]; exact x6
  have x8 : zX Z8 + 32 = b + 19 := by rw [← hZ8, zX_n]; omega
  have x9 : zX Z9 + 32 = b + 22 := by rw [← hZ9, alZ_X]; show zX Z8 + 3 + 32 = _; omega
  have x10 : zX Z10 + 32 = b + 22 := by rw [← hZ10, zX_w]; exact x9
  have x11 : zX Z11 + 32 = b + 23 := by rw [← hZ11, zX_n]; omega
  have x12 : zX Z12 + 32 = b + 23 := by rw [← hZ12, zX_w]; exact x11
  have x13 : zX Z13 + 32 = b + 24 := by rw [← hZ13, zX_n]; omega
  have x14 : zX Z14 + 32 = b + 24 := by rw [← hZ14, zX_w]; exact x13
  have f1 : zK Z1 b = zK Z b := by rw [← hZ1]; exact (nw_f (by rw [← hb]; exact Nat.lt_add_of_pos_right (by decide))).1
  have f2 : zK Z2 b = zK Z1 b := by rw [← hZ2]; exact (al_f lTk (by rw [x1]; exact Nat.lt_add_of_pos_right (by decide))).1
  have f3 : zK Z3 b = zK Z2 b := by rw [← hZ3]; exact (al_f (lRi 7) (by rw [x2]; exact Nat.lt_add_of_pos_right (by decide))).1
  have f4 : zK Z4 b = zK Z3 b := by rw [← hZ4]; exact wr_f.1
  have f5 : zK Z5 b = zK Z4 b := by rw [← hZ5]; exact (nw_f (by rw [x4]; exact Nat.lt_add_of_pos_right (by decide))).1
  have f6 : zK Z6 b = zK Z5 b := by rw [← hZ6]; exact (al_f lStr (by rw [x5]; exact Nat.lt_add_of_pos_right (by decide))).1
  have f7 : zK Z7 b = zK Z6 b := by rw [← hZ7]; exact wr_f.1
  have f8 : zK Z8 b = zK Z7 b := by rw [← hZ8]; exact (nw_f (by rw [x7]; exact Nat.lt_add_of_pos_right (by decide))).1
  have f9 : zK Z9 b = zK Z8 b := by rw [← hZ9]; exact (al_f lWit (by rw [x8]; exact Nat.lt_add_of_pos_right (by decide))).1
  have f10 : zK Z10 b = zK Z9 b := by rw [← hZ10]; exact wr_f.1
  have f11 : zK Z11 b = zK Z10 b := by rw [← hZ11]; exact (nw_f (by rw [x10]; exact Nat.lt_add_of_pos_right (by decide))).1
  have f12 : zK Z12 b = zK Z11 b := by rw [← hZ12]; exact wr_f.1
  have f13 : zK Z13 b = zK Z12 b := by rw [← hZ13]; exact (nw_f (by rw [x12]; exact Nat.lt_add_of_pos_right (by decide))).1
  have f14 : zK Z14 b = zK Z13 b := by rw [← hZ14]; exact wr_f.1
  have c1 : zK Z1 (b + 1) = 6 := (show zK Z1 (b + 1) = 6 ∧ zN Z1 (b + 1) = 0 from (by have z := nw_k (Z := Z) (ty := 6) (n := 0) (sz := 19); rw [hZ1, ← hb] at z; exact z)).1
  have c12 : zK Z5 (b + 12) = 5 := (show zK Z5 (b + 12) = 5 ∧ zN Z5 (b + 12) = 0 from (by have z := nw_k (Z := Z4) (ty := 5) (n := 0) (sz := 9); rw [hZ5, x4] at z; exact z)).1
  have c18 : zK Z8 (b + 18) = 9 := (show zK Z8 (b + 18) = 9 ∧ zN Z8 (b + 18) = 0 from (by have z := nw_k (Z := Z7) (ty := 9) (n := 0) (sz := 4); rw [hZ8, x7] at z; exact z)).1
  generalize hI1 : cl2 I (b + 1) 0 = I1
  generalize hG1 : cl2 G (b + 1) 0 = G1
  generalize hI2 : tkI (alI I1 (zX Z1) 3) (b + 1) = I2
  generalize hG2 : alG G1 (zX Z1) 3 = G2
  generalize hI3 : alI I2 (zX Z2) 7 = I3
  generalize hG3 : alG G2 (zX Z2) 7 = G3
  generalize hI5 : cl2 I3 (b + 12) 0 = I5
  generalize hG5 : cl2 G3 (b + 12) 0 = G5
  generalize hI6 : fil (alI I5 (zX Z5) 5) (b + 16) 144 = I6
  generalize hG6 : alG G5 (zX Z5) 5 = G6
  generalize hI8 : cl2 I6 (b + 18) 0 = I8
  generalize hG8 : cl2 G6 (b + 18) 0 = G8
  generalize hI9 : alI I8 (zX Z8) 3 = I9
  generalize hG9 : alG G8 (zX Z8) 3 = G9
  generalize hI11 : cl2 I9 (b + 22) 0 = I11
  generalize hG11 : cl2 G9 (b + 22) 0 = G11
  generalize hI13 : cl2 I11 (b + 23) 0 = I13
  generalize hG13 : cl2 G11 (b + 23) 0 = G13
  refine ⟨fil (fil I13 (b + 22) 16) (b + 23) 10, G13, ?_, fun a k => ?_⟩
  · refine Eq.trans e34 (Eq.trans (b34_0 hk (by rw [wN_t, mK_t, mX_t, zK_n, if_pos rfl])) ?_)
    rw [mX_t, wN_t, ← hb, hZ1, hI1, hG1, new_tank (by rw [x1]; exact Nat.lt_succ_self _) c1, hZ2, hI2, hG2, x1, al_t, hZ3, lRi_l, hI3, hG3]
    refine Eq.trans (b34_12 (by rw [mK_t, f3, f2, f1]; exact hk) (nw_k (Z := wrZ Z3 b 0 (b + 1))).1) ?_
    rw [wR_t, wN_t, mX_t, hZ4, x4, show zX Z3 + 32 = b + 12 from x3, hI5, hG5, hZ5, new_str (by rw [x5]; exact Nat.lt_succ_self _) c12, show zX Z5 + 35 = b + 16 by clear hk hn; omega, hI6, hG6, hZ6]
    refine Eq.trans (b34_23 (by rw [mK_t, f6, f5, f4, f3, f2, f1]; exact hk) (nw_k (Z := wrZ Z6 b 1 (b + 12))).1) ?_
    rw [wR_t, wN_t, mX_t, hZ7, x7, show zX Z6 + 32 = b + 18 from x6, hI8, hG8, hZ8, new_wit (by rw [x8]; exact Nat.lt_succ_self _) c18, al_t, hZ9]
    show run 3 34 34 [.ref b, xU] [.ref (b + 18), .ref b] (alI I8 (zX Z8) 3, alG G8 (zX Z8) 3, Z9) = _
    rw [hI9, hG9]
    have kb9 : zK Z9 b = 4 := by rw [f9, f8, f7, f6, f5, f4, f3, f2, f1]; exact hk
    refine Eq.trans (b34_34 kb9 (by rw [wR_t, wN_t, mK_t, hZ10, hZ11, f11, f10]; exact kb9)) ?_
    rw [wR_t, wN_t, wR_t, mX_t, hZ10, x10, show zX Z9 + 32 = b + 22 from x9, hZ11, hI11, hG11, hZ12]
    refine Eq.trans (b34_45 (by rw [wN_t, mK_t, hZ13, f13, f12, f11, f10]; exact kb9)) ?_
    rw [wN_t, wR_t, mX_t, x12, hZ13, hI13, hG13, hZ14]
    have m3 : ∀ (K : aI) (H : aL), mR (K, H, Z14) b 3 = b + 22 := fun K H => sB.r0_3
    have m4 : ∀ (K : aI) (H : aL), mR (K, H, Z14) b 4 = b + 23 := fun K H => sB.r0_4
    have key := loop_up (fun i => run 3 34 55 [.ref b, .int (iN i)] [] (fil I13 (b + 22) i, G13, Z14)) 16 (fun i hi => by
      have hlt : iN i < iN 16 := (iN_lt (Nat.lt_trans hi (by decide)) (by decide)).mpr hi
      have hib : ib (iN i) 16 := ib_iN (Nat.lt_trans hi (by decide)) hi
      have hc : (iN i).toNatClampNeg = i := iN_clamp (Nat.lt_trans hi (by decide))
      refine Eq.trans b34_55 (Eq.trans (if_neg (fun q => q hlt)) (Eq.trans (b34_61 sB.k0 (by rw [m3]; exact sB.k22) (by rw [m3, sB.n22]; exact hib)) ?_))
      rw [m3, hc, wI_t, fil_s, iN_succ]) 0 (by decide)
    rw [fil_0] at key
    refine Eq.trans key (Eq.trans b34_55 (Eq.trans (if_pos (iN_nlt (n := 16) (by decide))) (Eq.trans b34_74 ?_)))
    have key2 := loop_up (fun i => run 3 34 76 [.ref b, .int (iN i)] [] (fil (fil I13 (b + 22) 16) (b + 23) i, G13, Z14)) 10 (fun i hi => by
      have hlt : iN i < iN 10 := (iN_lt (Nat.lt_trans hi (by decide)) (by decide)).mpr hi
      have hib : ib (iN i) 10 := ib_iN (Nat.lt_trans hi (by decide)) hi
      have hc : (iN i).toNatClampNeg = i := iN_clamp (Nat.lt_trans hi (by decide))
      refine Eq.trans b34_76 (Eq.trans (if_neg (fun q => q hlt)) (Eq.trans (b34_82 sB.k0 (by rw [m4]; exact sB.k23) (by rw [m4, sB.n23]; exact hib)) ?_))
      rw [m4, hc, wI_t, fil_s, iN_succ]) 0 (by decide)
    rw [fil_0] at key2
    exact Eq.trans key2 (Eq.trans b34_76 (Eq.trans (if_pos (iN_nlt (n := 10) (by decide))) b34_95))
  · have e13 : I13 a k = if a = b + 23 then 0 else if a = b + 22 then 0 else if b + 19 ≤ a ∧ a < b + 22 then 0 else if a = b + 18 then 0 else I6 a k := by
      rw [← hI13, cl2_e, ← hI11, cl2_e, ← hI9, alI_e, ← hI8, cl2_e, x8]
    have e6 : I6 a k = if a = b + 16 ∧ k < 144 then -1 else if b + 13 ≤ a ∧ a < b + 18 then 0 else if a = b + 12 then 0 else if b + 5 ≤ a ∧ a < b + 12 then 0 else I2 a k := by
      rw [← hI6]
      unfold fil
      rw [alI_e, ← hI5, cl2_e, ← hI3, alI_e, x5, x2]
    have e2 : I2 a k = if a = b + 1 then (if k = 5 then 10 else if k = 17 ∨ k = 18 then -1 else 0) else if b + 2 ≤ a ∧ a < b + 5 then 0 else I a k := by
      rw [← hI2, ← hI1]
      exact tk_e x1
    unfold fil
    rw [e13, e6, e2]
    exact st_fin
end NS
