/-! THE ABSTRACT MEMORY: ints, longs, references (by abstract addresses), kinds and lengths; how many cells, how many slots.
Abstract address 0: null; 1: the law's script; 2 and on: the String constants; 32 + i: the i-th cell that was made since the law began. -/
abbrev aM : Type := (Nat → Nat → Int32) × (Nat → Nat → Int64) × (Nat → Nat → Nat) × (Nat → Nat × Nat) × Nat × Nat
def mI (M : aM) (a k : Nat) : Int32 := M.1 a k
def mL (M : aM) (a k : Nat) : Int64 := M.2.1 a k
def mR (M : aM) (a k : Nat) : Nat := M.2.2.1 a k
def mK (M : aM) (a : Nat) : Nat := (M.2.2.2.1 a).1
def mN (M : aM) (a : Nat) : Nat := (M.2.2.2.1 a).2
def mX (M : aM) : Nat := M.2.2.2.2.1
def mU (M : aM) : Nat := M.2.2.2.2.2
def up2 {α : Type} (f : Nat → Nat → α) (a k : Nat) (v : α) : Nat → Nat → α := fun a' k' => if a' = a then (if k' = k then v else f a' k') else f a' k'
def cl2 {α : Type} (f : Nat → Nat → α) (a : Nat) (z : α) : Nat → Nat → α := fun a' k' => if a' = a then z else f a' k'
def wI (M : aM) (a k : Nat) (v : Int32) : aM := (up2 M.1 a k v, M.2)
def wL (M : aM) (a k : Nat) (v : Int64) : aM := (M.1, up2 M.2.1 a k v, M.2.2)
def wR (M : aM) (a k : Nat) (v : Nat) : aM := (M.1, M.2.1, up2 M.2.2.1 a k v, M.2.2.2)
def wN (M : aM) (ty n sz : Nat) : aM := (cl2 M.1 (mX M + 32) 0, cl2 M.2.1 (mX M + 32) 0, cl2 M.2.2.1 (mX M + 32) 0, (fun a => if a = mX M + 32 then (ty, n) else M.2.2.2.1 a), mX M + 1, mU M + sz)
def wC (M : aM) (a0 sp a1 dp n : Nat) : aM := ((fun a k => if a = a1 then va_cpy (M.1 a0) (M.1 a1) sp dp n k else M.1 a k), M.2)
/-- the names of the launch that the worlds speak of: classes and slots; array classes; the heap's size as the law began; the script's cell, length, contents; the String constants' cells -/
abbrev aG : Type := va_G × (Nat → ClassId) × Nat × Nat × Nat × (Nat → Int32) × (Nat → Nat) × (Nat → Nat)
def gD (g : aG) : va_G := g.1
def gA (g : aG) : Nat → ClassId := g.2.1
def gB (g : aG) : Nat := g.2.2.1
def gS (g : aG) : Nat := g.2.2.2.1
def gN (g : aG) : Nat := g.2.2.2.2.1
def gX (g : aG) : Nat → Int32 := g.2.2.2.2.2.1
def gK (g : aG) : Nat → Nat := g.2.2.2.2.2.2.1
def gV (g : aG) : Nat → Nat := g.2.2.2.2.2.2.2
def adr (g : aG) (a : Nat) : Nat := if a < 32 then (if a = 1 then gS g else gK g (a - 2)) else gB g + (a - 32)
def rv (g : aG) (v : Value) : Value := match v with
  | .ref a => if a = 0 then .null else .ref (adr g a)
  | w => w
def rvO (g : aG) (a : Nat) : Option Nat := if a = 0 then none else some (adr g a)
def xU : Value := .retAddr 0
def isV (v : Value) : Bool := match v with
  | .retAddr _ => false
  | _ => true
def RF (ci : Nat) : String := match ci with
  | 0 => RX0 | 1 => RX1 | 2 => RX2 | 3 => RX3 | 4 => RX4 | 5 => RX5 | 6 => RX6 | 7 => RX7 | 8 => RX8 | 9 => RX9 | 10 => RX10 | _ => RX11
def TF (ci : Nat) : u_T := match ci with
  | 0 => TX0 | 1 => TX1 | 2 => TX2 | 3 => TX3 | 4 => TX4 | 5 => TX5 | 6 => TX6 | 7 => TX7 | 8 => TX8 | 9 => TX9 | 10 => TX10 | _ => TX11
def tyF (ci : Nat) : Nat → FieldType := match ci with
  | 0 => tyX0 | 1 => tyX1 | 2 => tyX2 | 3 => tyX3 | 4 => tyX4 | 5 => tyX5 | 6 => tyX6 | 7 => tyX7 | 8 => tyX8 | 9 => tyX9 | 10 => tyX10 | _ => tyX11
def nF (ci : Nat) : Nat := match ci with
  | 0 => 4 | 1 => 2 | 2 => 11 | 3 => 10 | 4 => 5 | 5 => 9 | 6 => 19 | 7 => 6 | 8 => 1 | 9 => 4 | 10 => 10 | _ => 70
def rfT (t : FieldType) : Bool := match t with
  | .object _ => true
  | .array _ => true
  | _ => false
def rfF (ci k : Nat) : Bool := rfT (tyF ci k)
def fv (g : aG) (M : aM) (a ci k : Nat) : Value := if rfF ci k = true then rv g (.ref (mR M a k)) else .int (mI M a k)
def cn (g : aG) (M : aM) (a : Nat) : (Nat → Int32) ⊕ (Nat → Int64) ⊕ (Nat → UInt32) ⊕ (Nat → UInt64) ⊕ (Nat → Option Nat) :=
  if mK M a ≤ 14 then .inl (fun i => mI M a i) else if mK M a = 15 then .inr (.inl (fun i => mL M a i)) else .inr (.inr (.inr (.inr (fun i => rvO g (mR M a i)))))
def cE (g : aG) (M : aM) (a : Nat) : va_E := if mK M a < 12 then .inr (mK M a, (List.range (nF (mK M a))).map (fv g M a (mK M a))) else .inl (gA g (mK M a), (mN M a, cn g M a))
def wsl (g : aG) (M : aM) : va_W := (List.range (mX M)).map (fun i => (gB g + i, cE g M (i + 32)))
def tys (g : aG) : List (ClassId × FieldType) := [(gA g 12, .int), (gA g 13, .byte), (gA g 14, .boolean), (gA g 15, .long), (gA g 16, .object RX0), (gA g 17, .object RX3), (gA g 18, .object RX4), (gA g 19, .object RX8)]
/-- the heap holds the memory -/
def Wd (g : aG) (M : aM) (H : Heap) : Prop := va_P (gD g) vwCl (wsl g M) H ∧ (∀ a, mK M a < 20 → (a = 1 ∧ mK M a = 12) ∨ (32 ≤ a ∧ a < mX M + 32)) ∧ mN M 1 = gN g ∧ ∀ j, mI M 1 j = gX g j
def wA (g : aG) : Nat → Prop := fun q => gB g ≤ q
theorem wsl_get {g : aG} {M : aM} {a : Nat} (h1 : 32 ≤ a) (h2 : a < mX M + 32) : (wsl g M)[a - 32]? = some (adr g a, cE g M a) := by
  unfold wsl
  rw [List.getElem?_map, List.getElem?_range (by omega)]
  have e : a - 32 + 32 = a := by omega
  simp only [Option.map_some, e, adr, if_neg (by omega : ¬ a < 32)]
theorem wsl_D {g : aG} {M : aM} : va_D (wA g) (wsl g M) := by
  have key : ∀ (k : Nat) (q : Nat × va_E), (wsl g M)[k]? = some q → q.1 = gB g + k := by
    intro k q hq
    unfold wsl at hq
    rw [List.getElem?_map] at hq
    by_cases hk : k < mX M
    · rw [List.getElem?_range hk] at hq
      simp only [Option.map_some, Option.some.injEq] at hq
      rw [← hq]
    · rw [List.getElem?_eq_none (by simpa using Nat.not_lt.mp hk)] at hq
      cases hq
  refine ⟨fun i j p q hp hq e => ?_, fun k q hq => ?_⟩
  · have h1 := key i p hp
    have h2 := key j q hq
    omega
  · show gB g ≤ q.1
    rw [key k q hq]
    omega
theorem wsl_len {g : aG} {M : aM} : (wsl g M).length = mX M := by simp [wsl]
theorem wsl_set {g : aG} {M M' : aM} {a : Nat} (h1 : 32 ≤ a) (h2 : a < mX M + 32) (hX : mX M' = mX M) (ho : ∀ j, j ≠ a → cE g M' j = cE g M j) : (wsl g M).set (a - 32) (adr g a, cE g M' a) = wsl g M' := by
  apply List.ext_getElem?
  intro i
  by_cases hi : i < mX M
  · have e' : (wsl g M')[i]? = some (adr g (i + 32), cE g M' (i + 32)) := by
      have := wsl_get (g := g) (M := M') (a := i + 32) (by omega) (by omega)
      rwa [show i + 32 - 32 = i by omega] at this
    rw [e']
    by_cases hj : i = a - 32
    · subst hj
      rw [List.getElem?_set_self (by rw [wsl_len]; exact hi)]
      rw [show a - 32 + 32 = a by omega]
    · rw [List.getElem?_set_ne (fun e => hj e.symm)]
      have e := wsl_get (g := g) (M := M) (a := i + 32) (by omega) (by omega)
      rw [show i + 32 - 32 = i by omega] at e
      rw [e, ho (i + 32) (by omega)]
  · rw [List.getElem?_eq_none (by rw [List.length_set, wsl_len]; omega), List.getElem?_eq_none (by rw [wsl_len]; omega)]
theorem wsl_push {g : aG} {M M' : aM} (hX : mX M' = mX M + 1) (ho : ∀ j, 32 ≤ j → j < mX M + 32 → cE g M' j = cE g M j) : wsl g M ++ [(gB g + mX M, cE g M' (mX M + 32))] = wsl g M' := by
  unfold wsl
  rw [hX, List.range_succ, List.map_append]
  congr 1
  apply List.map_congr_left
  intro i hi
  rw [List.mem_range] at hi
  rw [ho (i + 32) (by omega) (by omega)]
theorem cE_congr {g : aG} {M M' : aM} {a : Nat} (hK : mK M' a = mK M a) (hN : mN M' a = mN M a) (hI : ∀ k, mI M' a k = mI M a k) (hL : ∀ k, mL M' a k = mL M a k) (hR : ∀ k, mR M' a k = mR M a k) : cE g M' a = cE g M a := by
  unfold cE cn
  have eI : (fun i => mI M' a i) = fun i => mI M a i := funext hI
  have eL : (fun i => mL M' a i) = fun i => mL M a i := funext hL
  have eR : (fun i => rvO g (mR M' a i)) = fun i => rvO g (mR M a i) := funext fun i => by rw [hR]
  have eF : ∀ ci, fv g M' a ci = fv g M a ci := fun ci => funext fun k => by unfold fv; rw [hI, hR]
  rw [hK, hN, eI, eL, eR, eF]
theorem cE_obj {g : aG} {M : aM} {a ci : Nat} (h : mK M a = ci) (hc : ci < 12) : cE g M a = .inr (ci, (List.range (nF ci)).map (fv g M a ci)) := by
  subst h
  unfold cE
  rw [if_pos hc]
theorem cE_int {g : aG} {M : aM} {a ki : Nat} (h : mK M a = ki) (h1 : 12 ≤ ki) (h2 : ki ≤ 14) : cE g M a = .inl (gA g ki, (mN M a, .inl (fun i => mI M a i))) := by
  subst h
  unfold cE cn
  rw [if_neg (by omega), if_pos h2]
theorem cE_long {g : aG} {M : aM} {a : Nat} (h : mK M a = 15) : cE g M a = .inl (gA g 15, (mN M a, .inr (.inl (fun i => mL M a i)))) := by
  unfold cE cn
  rw [h, if_neg (by omega), if_neg (by omega), if_pos rfl]
theorem cE_ref {g : aG} {M : aM} {a ki : Nat} (h : mK M a = ki) (h1 : 16 ≤ ki) : cE g M a = .inl (gA g ki, (mN M a, .inr (.inr (.inr (.inr (fun i => rvO g (mR M a i))))))) := by
  subst h
  unfold cE cn
  rw [if_neg (by omega), if_neg (by omega), if_neg (by omega)]
theorem rv_ref {g : aG} {a : Nat} : rv g (.ref a) = va_rf (rvO g a) := by
  unfold rv rvO va_rf
  by_cases h : a = 0
  · simp [h]
  · simp [h]
theorem rv_refP {g : aG} {a : Nat} (h : a ≠ 0) : rv g (.ref a) = .ref (adr g a) := by simp [rv, h]
theorem rv_ref0 {g : aG} : rv g (.ref 0) = .null := by simp [rv]
theorem rv_cat {g : aG} (v : Value) : (rv g v).category = v.category := by
  cases v <;> try rfl
  rename_i a
  unfold rv
  by_cases h : a = 0 <;> simp [h, Value.category]
/-! the locals -/
def lvA (g : aG) : Nat → List Value → List (Nat × Value)
  | _, [] => []
  | i, v :: vs => if isV v = true then (i, rv g v) :: lvA g (i + 1) vs else lvA g (i + 1) vs
theorem lvA_mem {g : aG} : ∀ (L : List Value) (i : Nat) (q : Nat × Value), q ∈ lvA g i L ↔ ∃ j v, L[j]? = some v ∧ isV v = true ∧ q = (i + j, rv g v) := by
  intro L
  induction L with
  | nil => intro i q; simp [lvA]
  | cons w L ih =>
    intro i q
    have step : (∃ j v, (w :: L)[j]? = some v ∧ isV v = true ∧ q = (i + j, rv g v)) ↔ (isV w = true ∧ q = (i, rv g w)) ∨ ∃ j v, L[j]? = some v ∧ isV v = true ∧ q = (i + 1 + j, rv g v) := by
      constructor
      · rintro ⟨j, v, h1, h2, h3⟩
        cases j with
        | zero =>
          simp only [List.getElem?_cons_zero, Option.some.injEq] at h1
          subst h1
          exact Or.inl ⟨h2, by simpa using h3⟩
        | succ j =>
          simp only [List.getElem?_cons_succ] at h1
          exact Or.inr ⟨j, v, h1, h2, by rw [h3]; congr 1; omega⟩
      · rintro (⟨h1, h2⟩ | ⟨j, v, h1, h2, h3⟩)
        · exact ⟨0, w, by simp, h1, by simpa using h2⟩
        · exact ⟨j + 1, v, by simpa using h1, h2, by rw [h3]; congr 1; omega⟩
    rw [step]
    unfold lvA
    by_cases hw : isV w = true
    · rw [if_pos hw, List.mem_cons, ih]
      simp [hw]
    · rw [if_neg hw, ih]
      simp [hw]
def lvR (g : aG) (ls : Array Slot) (nL : Nat) (L : List Value) : Prop := lv_has ls nL (lvA g 0 L)
theorem lvR_at {g : aG} {ls : Array Slot} {nL : Nat} {L : List Value} (h : lvR g ls nL L) {i : Nat} {v : Value} (hi : L[i]? = some v) (hv : isV v = true) : ls[i]? = some (.val (rv g v)) :=
  h.2.2 (i, rv g v) ((lvA_mem L 0 _).mpr ⟨i, v, hi, hv, by simp⟩)
def kl (L : List Value) (j : Nat) : List Value := match L[j]? with
  | some (.long _) => L.set j xU
  | some (.double _) => L.set j xU
  | _ => L
def st1 (L : List Value) (i : Nat) (v : Value) : List Value := (kl L (i - 1)).set i v
def st2 (L : List Value) (i : Nat) (v : Value) : List Value := ((kl L (i - 1)).set (i + 1) xU).set i v
theorem kl_at {L : List Value} {j k : Nat} {w : Value} (h : (kl L j)[k]? = some w) (hv : isV w = true) : L[k]? = some w ∧ ¬ (k = j ∧ w.category = 2) := by
  unfold kl at h
  split at h
  · by_cases hk : k = j
    · subst hk
      rw [List.getElem?_set_self (List.getElem?_eq_some_iff.mp (by assumption)).1] at h
      cases h
      cases hv
    · rw [List.getElem?_set_ne (fun e => hk e.symm)] at h
      exact ⟨h, fun c => hk c.1⟩
  · by_cases hk : k = j
    · subst hk
      rw [List.getElem?_set_self (List.getElem?_eq_some_iff.mp (by assumption)).1] at h
      cases h
      cases hv
    · rw [List.getElem?_set_ne (fun e => hk e.symm)] at h
      exact ⟨h, fun c => hk c.1⟩
  · rename_i n1 n2
    refine ⟨h, fun c => ?_⟩
    obtain ⟨rfl, c⟩ := c
    cases w with
    | long x => exact n1 x h
    | double x => exact n2 x h
    | _ => simp [Value.category] at c
theorem kl_len (L : List Value) (j : Nat) : (kl L j).length = L.length := by
  unfold kl
  split <;> simp
theorem lvR_st1 {g : aG} {ls : Array Slot} {nL i : Nat} {L : List Value} {v : Value} (h : lv_has ls nL ((i, rv g v) :: (lvA g 0 L).filter (fun q => !(q.1 == i) && !(q.1 + 1 == i && q.2.category == 2)))) : lvR g ls nL (st1 L i v) := by
  refine ⟨h.1, h.2.1, fun q hq => h.2.2 q ?_⟩
  obtain ⟨j, w, h1, h2, rfl⟩ := (lvA_mem _ 0 _).mp hq
  unfold st1 at h1
  by_cases hj : j = i
  · subst hj
    rw [List.getElem?_set] at h1
    simp only [if_true] at h1
    split at h1
    · cases h1
      simp
    · cases h1
  · rw [List.getElem?_set_ne (fun e => hj e.symm)] at h1
    obtain ⟨g1, g2⟩ := kl_at h1 h2
    refine List.mem_cons_of_mem _ (List.mem_filter.mpr ⟨(lvA_mem _ 0 _).mpr ⟨j, w, g1, h2, rfl⟩, ?_⟩)
    simp only [Nat.zero_add, rv_cat, Bool.and_eq_true, Bool.not_eq_true', beq_eq_false_iff_ne, ne_eq, Bool.and_eq_false_iff]
    refine ⟨hj, ?_⟩
    by_cases hc : w.category = 2
    · left
      exact fun e => g2 ⟨by omega, hc⟩
    · right
      exact hc
theorem lvR_st2 {g : aG} {ls : Array Slot} {nL i : Nat} {L : List Value} {v : Value} (h : lv_has ls nL ((i, rv g v) :: (lvA g 0 L).filter (fun q => !(q.1 == i) && (!(q.1 == i + 1) && !(q.1 + 1 == i && q.2.category == 2))))) : lvR g ls nL (st2 L i v) := by
  refine ⟨h.1, h.2.1, fun q hq => h.2.2 q ?_⟩
  obtain ⟨j, w, h1, h2, rfl⟩ := (lvA_mem _ 0 _).mp hq
  unfold st2 at h1
  by_cases hj : j = i
  · subst hj
    rw [List.getElem?_set] at h1
    simp only [if_true] at h1
    split at h1
    · cases h1
      simp
    · cases h1
  · rw [List.getElem?_set_ne (fun e => hj e.symm)] at h1
    by_cases hj1 : j = i + 1
    · subst hj1
      rw [List.getElem?_set] at h1
      simp only [if_true] at h1
      split at h1
      · cases h1
        cases h2
      · cases h1
    rw [List.getElem?_set_ne (fun e => hj1 e.symm)] at h1
    obtain ⟨g1, g2⟩ := kl_at h1 h2
    refine List.mem_cons_of_mem _ (List.mem_filter.mpr ⟨(lvA_mem _ 0 _).mpr ⟨j, w, g1, h2, rfl⟩, ?_⟩)
    simp only [Nat.zero_add, rv_cat, Bool.and_eq_true, Bool.not_eq_true', beq_eq_false_iff_ne, ne_eq, Bool.and_eq_false_iff]
    refine ⟨hj, hj1, ?_⟩
    by_cases hc : w.category = 2
    · left
      exact fun e => g2 ⟨by omega, hc⟩
    · right
      exact hc
/-- the locals with which a method begins -/
def enL : List Value → List Value
  | [] => []
  | v :: vs => if v.category = 2 then v :: xU :: enL vs else v :: enL vs
theorem enL_args {g : aG} : ∀ (vs : List Value) (k i : Nat) (q : Nat × Value), q ∈ lvA g i (enL vs ++ List.replicate k xU) → q ∈ lv_args i (vs.map (rv g)) := by
  intro vs
  induction vs with
  | nil =>
    intro k i q hq
    exfalso
    obtain ⟨j, v, h1, h2, -⟩ := (lvA_mem _ i _).mp hq
    have := List.eq_of_mem_replicate (List.mem_of_getElem? (by simpa [enL] using h1))
    subst this
    cases h2
  | cons v vs ih =>
    intro k i q hq
    show q ∈ (i, rv g v) :: lv_args (if (rv g v).category = 2 then i + 2 else i + 1) (vs.map (rv g))
    rw [rv_cat]
    unfold enL at hq
    by_cases hc : v.category = 2
    · rw [if_pos hc] at hq ⊢
      simp only [List.cons_append] at hq
      unfold lvA at hq
      have hx : lvA g (i + 1) (xU :: (enL vs ++ List.replicate k xU)) = lvA g (i + 2) (enL vs ++ List.replicate k xU) := by
        rw [lvA]; rfl
      rw [hx] at hq
      split at hq
      · rcases List.mem_cons.mp hq with h | h
        · rw [h]; exact List.mem_cons_self
        · exact List.mem_cons_of_mem _ (ih k _ _ h)
      · exact List.mem_cons_of_mem _ (ih k _ _ hq)
    · rw [if_neg hc] at hq ⊢
      simp only [List.cons_append] at hq
      unfold lvA at hq
      split at hq
      · rcases List.mem_cons.mp hq with h | h
        · rw [h]; exact List.mem_cons_self
        · exact List.mem_cons_of_mem _ (ih k _ _ h)
      · exact List.mem_cons_of_mem _ (ih k _ _ hq)
