/-! THE START: both objects made, the invariant holds, the whole run -/
def Rel (Z Z' : aZ) : Prop := Z.1 = Z'.1 ∧ Z.2.2 = Z'.2.2 ∧ ∀ a, a ≠ 1 → Z.2.1 a = Z'.2.1 a
theorem Rel_n {Z Z' : aZ} {ty n sz : Nat} (h : Rel Z Z') : Rel (nwZ Z ty n sz) (nwZ Z' ty n sz) := by
  obtain ⟨h1, h2, h3⟩ := h
  have x : zX Z = zX Z' := by unfold zX; rw [h2]
  have u : zU Z = zU Z' := by unfold zU; rw [h2]
  refine ⟨?_, ?_, fun a ha => ?_⟩
  · unfold nwZ
    rw [h1, x]
  · unfold nwZ
    rw [x, u]
  · show (if a = zX Z + 32 then (ty, n) else Z.2.1 a) = (if a = zX Z' + 32 then (ty, n) else Z'.2.1 a)
    rw [x, h3 a ha]
theorem Rel_w {Z Z' : aZ} {a k v : Nat} (h : Rel Z Z') : Rel (wrZ Z a k v) (wrZ Z' a k v) := by
  obtain ⟨h1, h2, h3⟩ := h
  refine ⟨?_, h2, h3⟩
  unfold wrZ
  rw [h1]
theorem Rel_a : ∀ (l : List aA) {Z Z' : aZ} {t : Nat}, Rel Z Z' → Rel (alZ Z t l) (alZ Z' t l) := by
  intro l
  induction l with
  | nil => exact fun h => h
  | cons e l ih =>
    intro Z Z' t h
    obtain ⟨k, ty, n, sz⟩ := e
    have x : zX Z = zX Z' := by unfold zX; rw [h.2.1]
    show Rel (alZ (wrZ (nwZ Z ty n sz) t k (zX Z + 32)) t l) (alZ (wrZ (nwZ Z' ty n sz) t k (zX Z' + 32)) t l)
    rw [x]
    exact ih (Rel_w (Rel_n h))
theorem Rel_s {Z Z' : aZ} {b : Nat} (h : Rel Z Z') : Rel (stZ Z b) (stZ Z' b) := Rel_w (Rel_n (Rel_w (Rel_n (Rel_w (Rel_a _ (Rel_n (Rel_w (Rel_a _ (Rel_n (Rel_w (Rel_a _ (Rel_a _ (Rel_n h)))))))))))))
def ZS (f : Nat → Nat × Nat) : aZ := alZ (nwZ (clE (clD (clC (clB (clA (nwZ ((fun _ _ => 0), f, 0, 0) 10 0 10)))))) 11 0 70) 72 lMo
theorem Rel_S {f g : Nat → Nat × Nat} (h : ∀ a, a ≠ 1 → f a = g a) : Rel (ZS f) (ZS g) := by
  have h0 : Rel ((fun _ _ => 0), f, 0, 0) ((fun _ _ => 0), g, 0, 0) := ⟨rfl, rfl, h⟩
  exact Rel_a _ (Rel_n (Rel_w (Rel_n (Rel_w (Rel_n (Rel_w (Rel_n (Rel_w (Rel_a _ (Rel_n (Rel_w (Rel_w (Rel_a _ (Rel_n (Rel_w (Rel_a _ (Rel_n (Rel_w (Rel_n (Rel_w (Rel_s (Rel_n (Rel_n h0)))))))))))))))))))))))
def f0 : Nat → Nat × Nat := fun _ => (99, 0)
set_option maxRecDepth 100000 in
theorem zs_k : ∀ a, a < 80 → zK (ZS f0) (a + 32) = skl.getD a 0 ∧ zN (ZS f0) (a + 32) = snl.getD a 0 := by decide +kernel
set_option maxRecDepth 100000 in
theorem zs_r : ∀ e ∈ srl, zR (ZS f0) e.1 e.2.1 = e.2.2 := by decide +kernel
set_option maxRecDepth 100000 in
theorem zs_m : ∀ m, m < 4 → zR (ZS f0) 57 m = 0 := by decide +kernel
set_option maxRecDepth 100000 in
theorem zs_x : zX (ZS f0) = 80 ∧ zU (ZS f0) ≤ 40000 := by decide +kernel
theorem zs_1 {L : Nat} : (ZS (fun a => if a = 1 then (20, L) else (99, 0))).2.1 1 = (20, L) := rfl
