/-! WHAT A SEARCH UPWARD FINDS -/
theorem seekF_at (c : Nat → Bool) : ∀ d f m, f ≤ m → m ≤ f + d → (∀ g, f ≤ g → g < m → c g = true) → (m < f + d → c m = false) → seekF c d f = m := by
  intro d
  induction d with
  | zero =>
    intro f m h1 h2 _ _
    rw [seekF]
    omega
  | succ d ih =>
    intro f m h1 h2 h3 h4
    rw [seekF]
    by_cases e : f = m
    · subst e
      rw [h4 (by omega)]
      rfl
    · rw [if_pos (h3 f (Nat.le_refl _) (by omega))]
      exact ih (f + 1) m (by omega) (by omega) (fun g a b => h3 g (by omega) b) (fun q => h4 (by omega))
/-- the least f with at least F in (f - e) times w -/
theorem ceil_lt {F w x : Nat} (hw : 0 < w) : x * w < F ↔ x < (F + w - 1) / w := by
  rw [Nat.lt_div_iff_mul_lt hw]
  constructor
  · intro h; omega
  · intro h; omega
theorem seek_ceil (c : Nat → Bool) {e F w h : Nat} (hw : 0 < w) (hF : 0 < F) (hc : ∀ f, f ≤ h → (c f = true ↔ (f - e) * w < F)) : seekF c (h + 1) 0 = if e + (F + w - 1) / w ≤ h then e + (F + w - 1) / w else h + 1 := by
  have hp : 0 < (F + w - 1) / w := Nat.div_pos (by omega) hw
  have lt : ∀ f, f < e + (F + w - 1) / w → (f - e) * w < F := fun f q => (ceil_lt hw).mpr (by omega)
  by_cases q : e + (F + w - 1) / w ≤ h
  · rw [if_pos q]
    refine seekF_at c _ _ _ (by omega) (by omega) (fun g _ b => (hc g (by omega)).mpr (lt g b)) (fun _ => ?_)
    refine Bool.eq_false_iff.mpr (fun z => ?_)
    have := (ceil_lt hw).mp ((hc _ q).mp z)
    omega
  · rw [if_neg q]
    exact seekF_at c _ _ _ (by omega) (by omega) (fun g _ b => (hc g (by omega)).mpr (lt g (by omega))) (fun z => by omega)
