/-! SIMULATION, 1: the heap holds the memory, behind each kind of writing -/
def HM (g : aG) (M : aM) (H : Heap) : Prop := va_P (gD g) vwCl (wsl g M) H ∧ (∀ a, mK M a < 20 → 32 ≤ a ∧ a < mX M + 32) ∧ (∀ a, mK M a = 20 → a = 1) ∧ mN M 1 = gN g ∧ ∀ j, mI M 1 j = gX g j
theorem HM.at {g : aG} {M : aM} {H : Heap} (h : HM g M H) {a : Nat} (hk : mK M a < 20) : (wsl g M)[a - 32]? = some (adr g a, cE g M a) := wsl_get (h.2.1 a hk).1 (h.2.1 a hk).2
theorem HM.lo {g : aG} {M : aM} {H : Heap} (h : HM g M H) {i : Nat} (hi : i < mX M) : gB g + i < H.size := by
  have h1 := wsl_get (g := g) (M := M) (a := i + 32) (by omega) (by omega)
  have h2 := (h.1 _ _ h1).lt
  unfold adr at h2
  rw [if_neg (by omega)] at h2
  simp only at h2
  omega
theorem HM.of {g : aG} {M M' : aM} {H H' : Heap} (h : HM g M H) (hX : mX M' = mX M) (hK : ∀ a, mK M' a = mK M a) (hN1 : mN M' 1 = mN M 1) (hI1 : ∀ j, mI M' 1 j = mI M 1 j) (hP : va_P (gD g) vwCl (wsl g M') H') : HM g M' H' :=
  ⟨hP, fun a ha => by rw [hX]; exact h.2.1 a (by rw [← hK]; exact ha), fun a ha => h.2.2.1 a (by rw [← hK]; exact ha), by rw [hN1]; exact h.2.2.2.1, fun j => by rw [hI1]; exact h.2.2.2.2 j⟩
theorem adr_ge {g : aG} {a : Nat} (h : 32 ≤ a) : adr g a = gB g + (a - 32) := by
  unfold adr
  rw [if_neg (by omega)]
theorem mI_wI {M : aM} {a k a' k' : Nat} {v : Int32} : mI (wI M a k v) a' k' = if a' = a then (if k' = k then v else mI M a' k') else mI M a' k' := rfl
theorem mR_wR {M : aM} {a k a' k' : Nat} {v : Nat} : mR (wR M a k v) a' k' = if a' = a then (if k' = k then v else mR M a' k') else mR M a' k' := rfl
theorem mL_wL {M : aM} {a k a' k' : Nat} {v : Int64} : mL (wL M a k v) a' k' = if a' = a then (if k' = k then v else mL M a' k') else mL M a' k' := rfl
theorem cE_wI_ne {g : aG} {M : aM} {a k j : Nat} {v : Int32} (h : j ≠ a) : cE g (wI M a k v) j = cE g M j := cE_congr rfl rfl (fun i => by rw [mI_wI, if_neg h]) (fun _ => rfl) (fun _ => rfl)
theorem cE_wR_ne {g : aG} {M : aM} {a k j : Nat} {v : Nat} (h : j ≠ a) : cE g (wR M a k v) j = cE g M j := cE_congr rfl rfl (fun _ => rfl) (fun _ => rfl) (fun i => by rw [mR_wR, if_neg h])
theorem cE_wL_ne {g : aG} {M : aM} {a k j : Nat} {v : Int64} (h : j ≠ a) : cE g (wL M a k v) j = cE g M j := cE_congr rfl rfl (fun _ => rfl) (fun i => by rw [mL_wL, if_neg h]) (fun _ => rfl)
theorem map_set {α : Type} {n k : Nat} {f f' : Nat → α} {v : α} (h1 : f' k = v) (h2 : ∀ j, j ≠ k → f' j = f j) : (List.range n).map f' = ((List.range n).map f).set k v := by
  apply List.ext_getElem?
  intro j
  by_cases hj : j < n
  · rw [List.getElem?_map, List.getElem?_range hj]
    by_cases e : j = k
    · subst e
      rw [List.getElem?_set_self (by simpa using hj)]
      simp [h1]
    · rw [List.getElem?_set_ne (fun q => e q.symm), List.getElem?_map, List.getElem?_range hj]
      simp [h2 j e]
  · rw [List.getElem?_eq_none (by simpa using hj), List.getElem?_eq_none (by simpa using hj)]
theorem cE_wI_obj {g : aG} {M : aM} {a ci k : Nat} {y : Int32} (hK : mK M a = ci) (hc : ci < 12) (hr : rfF ci k = false) : cE g (wI M a k y) a = .inr (ci, ((List.range (nF ci)).map (fv g M a ci)).set k (.int y)) := by
  rw [cE_obj (g := g) (M := wI M a k y) (a := a) (ci := ci) hK hc]
  refine congrArg Sum.inr (congrArg (Prod.mk ci) (map_set ?_ ?_))
  · unfold fv
    rw [hr, mI_wI]
    simp
  · intro j hj
    unfold fv
    rw [mI_wI, if_pos rfl, if_neg hj]
    rfl
theorem cE_wR_obj {g : aG} {M : aM} {a ci k b : Nat} (hK : mK M a = ci) (hc : ci < 12) (hr : rfF ci k = true) : cE g (wR M a k b) a = .inr (ci, ((List.range (nF ci)).map (fv g M a ci)).set k (rv g (.ref b))) := by
  rw [cE_obj (g := g) (M := wR M a k b) (a := a) (ci := ci) hK hc]
  refine congrArg Sum.inr (congrArg (Prod.mk ci) (map_set ?_ ?_))
  · unfold fv
    rw [if_pos hr, mR_wR, if_pos rfl, if_pos rfl]
  · intro j hj
    unfold fv
    rw [mR_wR, if_pos rfl, if_neg hj]
    rfl
theorem cE_wI_arr {g : aG} {M : aM} {a ki k : Nat} {y : Int32} (hK : mK M a = ki) (h1 : 12 ≤ ki) (h2 : ki ≤ 14) : cE g (wI M a k y) a = .inl (gA g ki, (mN M a, .inl (upd (fun i => mI M a i) k y))) := by
  rw [cE_int (g := g) (M := wI M a k y) (a := a) (ki := ki) hK h1 h2]
  have e : (fun i => mI (wI M a k y) a i) = upd (fun i => mI M a i) k y := by
    funext i
    rw [mI_wI, if_pos rfl]
    rfl
  rw [e]
  rfl
theorem cE_wL_arr {g : aG} {M : aM} {a k : Nat} {y : Int64} (hK : mK M a = 15) : cE g (wL M a k y) a = .inl (gA g 15, (mN M a, .inr (.inl (vp_updL (fun i => mL M a i) k y)))) := by
  rw [cE_long (g := g) (M := wL M a k y) (a := a) hK]
  have e : (fun i => mL (wL M a k y) a i) = vp_updL (fun i => mL M a i) k y := by
    funext i
    rw [mL_wL, if_pos rfl]
    rfl
  rw [e]
  rfl
theorem cE_wR_arr {g : aG} {M : aM} {a ki k b : Nat} (hK : mK M a = ki) (h1 : 16 ≤ ki) : cE g (wR M a k b) a = .inl (gA g ki, (mN M a, .inr (.inr (.inr (.inr (va_up (fun i => rvO g (mR M a i)) k (rvO g b))))))) := by
  rw [cE_ref (g := g) (M := wR M a k b) (a := a) (ki := ki) hK h1]
  have e : (fun i => rvO g (mR (wR M a k b) a i)) = va_up (fun i => rvO g (mR M a i)) k (rvO g b) := by
    funext i
    rw [mR_wR, if_pos rfl]
    unfold va_up
    by_cases h : i = k
    · rw [if_pos h, if_pos h]
    · rw [if_neg h, if_neg h]
  rw [e]
  rfl
theorem hm_wI {g : aG} {M : aM} {H H' : Heap} {a k : Nat} {v : Int32} (h : HM g M H) (hk : mK M a < 20) {c : va_E} (hc : cE g (wI M a k v) a = c) (hP : va_P (gD g) vwCl ((wsl g M).set (a - 32) (adr g a, c)) H') : HM g (wI M a k v) H' := by
  have ha := h.2.1 a hk
  refine h.of rfl (fun _ => rfl) rfl (fun j => by rw [mI_wI, if_neg (by omega)]) ?_
  have e := wsl_set (g := g) (M := M) (M' := wI M a k v) ha.1 ha.2 rfl (fun j hj => cE_wI_ne hj)
  rw [hc] at e
  rw [← e]
  exact hP
theorem hm_wR {g : aG} {M : aM} {H H' : Heap} {a k b : Nat} (h : HM g M H) (hk : mK M a < 20) {c : va_E} (hc : cE g (wR M a k b) a = c) (hP : va_P (gD g) vwCl ((wsl g M).set (a - 32) (adr g a, c)) H') : HM g (wR M a k b) H' := by
  have ha := h.2.1 a hk
  refine h.of rfl (fun _ => rfl) rfl (fun j => rfl) ?_
  have e := wsl_set (g := g) (M := M) (M' := wR M a k b) ha.1 ha.2 rfl (fun j hj => cE_wR_ne hj)
  rw [hc] at e
  rw [← e]
  exact hP
theorem hm_wL {g : aG} {M : aM} {H H' : Heap} {a k : Nat} {v : Int64} (h : HM g M H) (hk : mK M a < 20) {c : va_E} (hc : cE g (wL M a k v) a = c) (hP : va_P (gD g) vwCl ((wsl g M).set (a - 32) (adr g a, c)) H') : HM g (wL M a k v) H' := by
  have ha := h.2.1 a hk
  refine h.of rfl (fun _ => rfl) rfl (fun j => rfl) ?_
  have e := wsl_set (g := g) (M := M) (M' := wL M a k v) ha.1 ha.2 rfl (fun j hj => cE_wL_ne hj)
  rw [hc] at e
  rw [← e]
  exact hP
theorem mI_wC {M : aM} {a0 sp a1 dp n a k : Nat} : mI (wC M a0 sp a1 dp n) a k = if a = a1 then va_cpy (M.1 a0) (M.1 a1) sp dp n k else mI M a k := rfl
theorem hm_wC {g : aG} {M : aM} {H H' : Heap} {a0 sp a1 dp n : Nat} (h : HM g M H) (hk : mK M a1 = 12) (hP : va_P (gD g) vwCl ((wsl g M).set (a1 - 32) (adr g a1, .inl (gA g 12, (mN M a1, .inl (va_cpy (fun i => mI M a0 i) (fun i => mI M a1 i) sp dp n))))) H') : HM g (wC M a0 sp a1 dp n) H' := by
  have ha := h.2.1 a1 (by omega)
  refine h.of rfl (fun _ => rfl) rfl (fun j => by rw [mI_wC, if_neg (by omega)]) ?_
  have hc : cE g (wC M a0 sp a1 dp n) a1 = .inl (gA g 12, (mN M a1, .inl (va_cpy (fun i => mI M a0 i) (fun i => mI M a1 i) sp dp n))) := by
    rw [cE_int (g := g) (M := wC M a0 sp a1 dp n) (a := a1) (ki := 12) hk (by omega) (by omega)]
    have e : (fun i => mI (wC M a0 sp a1 dp n) a1 i) = va_cpy (fun i => mI M a0 i) (fun i => mI M a1 i) sp dp n := by
      funext i
      rw [mI_wC, if_pos rfl]
      rfl
    rw [e]
    rfl
  have e := wsl_set (g := g) (M := M) (M' := wC M a0 sp a1 dp n) ha.1 ha.2 rfl (fun j hj => cE_congr rfl rfl (fun i => by rw [mI_wC, if_neg hj]) (fun _ => rfl) (fun _ => rfl))
  rw [hc] at e
  rw [← e]
  exact hP
theorem mK_wN {M : aM} {ty n sz a : Nat} : mK (wN M ty n sz) a = if a = mX M + 32 then ty else mK M a := by
  unfold mK wN
  dsimp only
  by_cases h : a = mX M + 32
  · rw [if_pos h, if_pos h]
  · rw [if_neg h, if_neg h]
theorem mN_wN {M : aM} {ty n sz a : Nat} : mN (wN M ty n sz) a = if a = mX M + 32 then n else mN M a := by
  unfold mN wN
  dsimp only
  by_cases h : a = mX M + 32
  · rw [if_pos h, if_pos h]
  · rw [if_neg h, if_neg h]
theorem mI_wN {M : aM} {ty n sz a k : Nat} : mI (wN M ty n sz) a k = if a = mX M + 32 then 0 else mI M a k := rfl
theorem mL_wN {M : aM} {ty n sz a k : Nat} : mL (wN M ty n sz) a k = if a = mX M + 32 then 0 else mL M a k := rfl
theorem mR_wN {M : aM} {ty n sz a k : Nat} : mR (wN M ty n sz) a k = if a = mX M + 32 then 0 else mR M a k := rfl
theorem mX_wN {M : aM} {ty n sz : Nat} : mX (wN M ty n sz) = mX M + 1 := rfl
theorem hm_wN {g : aG} {M : aM} {H H' : Heap} {ty n sz : Nat} (h : HM g M H) (ht : ty < 20) (hP : va_P (gD g) vwCl (wsl g M ++ [(gB g + mX M, cE g (wN M ty n sz) (mX M + 32))]) H') : HM g (wN M ty n sz) H' := by
  have ho : ∀ j, 32 ≤ j → j < mX M + 32 → cE g (wN M ty n sz) j = cE g M j := fun j _ h2 => cE_congr (by rw [mK_wN, if_neg (by omega)]) (by rw [mN_wN, if_neg (by omega)]) (fun k => by rw [mI_wN, if_neg (by omega)]) (fun k => by rw [mL_wN, if_neg (by omega)]) (fun k => by rw [mR_wN, if_neg (by omega)])
  rw [wsl_push mX_wN ho] at hP
  refine ⟨hP, fun a ha => ?_, fun a ha => ?_, ?_, fun j => ?_⟩
  · rw [mX_wN]
    rw [mK_wN] at ha
    by_cases e : a = mX M + 32
    · omega
    · rw [if_neg e] at ha
      have := h.2.1 a ha
      omega
  · rw [mK_wN] at ha
    by_cases e : a = mX M + 32
    · rw [if_pos e] at ha; omega
    · rw [if_neg e] at ha
      exact h.2.2.1 a ha
  · rw [mN_wN, if_neg (by omega)]; exact h.2.2.2.1
  · rw [mI_wN, if_neg (by omega)]; exact h.2.2.2.2 j
