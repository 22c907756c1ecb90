/-! MEN OWED: the model asks whether any ring holds a test -/
def askF (S : aS) (l : List Int32) : Nat → Bool
  | 0 => false
  | k + 1 => askF S l k || tst (wZ S (iN k)) l
theorem askF_mono {S : aS} {l : List Int32} : ∀ (d k : Nat), askF S l k = true → askF S l (k + d) = true := by
  intro d
  induction d with
  | zero => intro k h; exact h
  | succ d ih => intro k h; rw [show k + (d + 1) = (k + d) + 1 by omega, askF, ih k h, Bool.true_or]
section MAK
variable {I : aI} {G : aL} {Z : aZ} {S : aS}
theorem m_asked (hZ : Shp Z) (hw : Wf0 S) (hB : Wb S) {rb : Bool} {s i : Nat} (hs : s < 20) {ks l : List aK} {k : aK} (hM : MX (emb I S) s ks) (hg : ∀ k, k ∈ ks → kg rb k) (hks : ks = ks.take i ++ k :: l) (hi : i + (l.length + 1) = ks.length) : ∃ G' : aL, call 216 [.ref 72, .int (iN (14 * s + i))] (emb I S, G, Z) = some (some (.int (bI (askF S k.2.2.2 (riN S)))), (emb I S, G', Z)) ∧ ∀ b, b ≠ 95 → b ≠ 96 → G' b = G b := by
  have h7 := hw.1.2
  have e8 : ∀ G1 : aL, mI (emb I S, G1, Z) 72 8 = iN (riN S) := fun _ => hw.1.1
  have loop : ∀ (d j : Nat) (G1 : aL), j + d = riN S → ∃ G' : aL, run 6 216 4 [.ref 72, .int (iN (14 * s + i)), .int (bI (askF S k.2.2.2 j)), .int (iN j)] [] (emb I S, G1, Z) = some (some (.int (bI (askF S k.2.2.2 (riN S)))), (emb I S, G', Z)) ∧ ∀ b, b ≠ 95 → b ≠ 96 → G' b = G1 b := by
    intro d
    induction d with
    | zero =>
      intro j G1 hj
      have hj : j = riN S := hj
      subst hj
      refine ⟨G1, Eq.trans (b216_4 hZ.k72) ?_, fun _ _ _ => rfl⟩
      rw [e8]
      exact Eq.trans (if_pos (iN_nlt (by omega))) (b216_33 rt_b)
    | succ d ih =>
      intro j G1 hj
      have st : run 6 216 4 [.ref 72, .int (iN (14 * s + i)), .int (bI (askF S k.2.2.2 j)), .int (iN j)] [] (emb I S, G1, Z) = if askF S k.2.2.2 j = true then run 6 216 33 [.ref 72, .int (iN (14 * s + i)), .int (bI (askF S k.2.2.2 j)), .int (iN j)] [] (emb I S, G1, Z) else run 6 216 16 [.ref 72, .int (iN (14 * s + i)), .int (bI (askF S k.2.2.2 j)), .int (iN j)] [] (emb I S, G1, Z) := by
        refine Eq.trans (b216_4 hZ.k72) ?_
        rw [e8]
        refine Eq.trans (if_neg (fun z => z ((iN_lt (by omega) (by omega)).mpr (by omega)))) (Eq.trans b216_12 ?_)
        rw [bI_n]
      rw [st]
      by_cases ha : askF S k.2.2.2 j = true
      · rw [if_pos ha]
        refine ⟨G1, Eq.trans (b216_33 rt_b) ?_, fun _ _ _ => rfl⟩
        have := askF_mono (S := S) (l := k.2.2.2) (d + 1) j ha
        rw [hj] at this
        rw [ha, this]
      · rw [if_neg ha]
        obtain ⟨G2, l1, l2, l3⟩ := lk_emb (I := I) hZ hw (k := j) (by omega) G1
        obtain ⟨G3, q1, q2⟩ := m_hold_at (G := G2) hZ (wb_k hB (show j < riN S by omega) (by omega)) l2 hs hM hg hks hi
        have e : askF S k.2.2.2 (j + 1) = tst (wZ S (iN j)) k.2.2.2 := by
          rw [askF, Bool.eq_false_iff.mpr ha, Bool.false_or]
        obtain ⟨G', r1, r2⟩ := ih (j + 1) G3 (by omega)
        refine ⟨G', Eq.trans (b216_16 hZ.k72) ?_, fun b p1 p2 => by rw [r2 b p1 p2, q2 b p2, l3 b p1]⟩
        rw [l1]
        refine Eq.trans (b216_21 hZ.k72) ?_
        rw [q1]
        refine Eq.trans b216_26 ?_
        rw [iN_succ, ← e]
        exact r1
  obtain ⟨G', r1, r2⟩ := loop (riN S) 0 G (by omega)
  exact ⟨G', Eq.trans e216 (Eq.trans b216_0 r1), r2⟩
end MAK
/-! ors -/
def orA : List Int32 → Int32
  | [] => 0
  | a :: l => a ||| orA l
theorem orA_in : ∀ (l : List Int32) (a : Int32), a = 0 ∨ a ∈ l → a ||| orA l = orA l := by
  intro l
  induction l with
  | nil =>
    intro a h
    rcases h with h | h
    · rw [h]; rfl
    · cases h
  | cons b l ih =>
    intro a h
    show a ||| (b ||| orA l) = b ||| orA l
    rcases h with h | h
    · rw [h, Int32.zero_or]
    · rw [List.mem_cons] at h
      rcases h with h | h
      · rw [h, ← Int32.or_assoc, Int32.or_self]
      · rw [← Int32.or_assoc, Int32.or_comm a b, Int32.or_assoc, ih a (Or.inr h)]
theorem orA_sub : ∀ (A B : List Int32), (∀ a, a ∈ A → a = 0 ∨ a ∈ B) → orA A ||| orA B = orA B := by
  intro A
  induction A with
  | nil => intro B _; exact Int32.zero_or
  | cons a A ih =>
    intro B h
    show (a ||| orA A) ||| orA B = orA B
    rw [Int32.or_assoc, ih B (fun x hx => h x (List.mem_cons_of_mem _ hx)), orA_in B a (h a (by simp))]
theorem orA_eq {A B : List Int32} (h1 : ∀ a, a ∈ A → a = 0 ∨ a ∈ B) (h2 : ∀ b, b ∈ B → b = 0 ∨ b ∈ A) : orA A = orA B := by
  have a := orA_sub A B h1
  have b := orA_sub B A h2
  rw [Int32.or_comm] at b
  rw [← a, b]
theorem orA_app : ∀ (A B : List Int32), orA (A ++ B) = orA A ||| orA B := by
  intro A
  induction A with
  | nil => intro B; exact Int32.zero_or.symm
  | cons a A ih => intro B; show a ||| orA (A ++ B) = (a ||| orA A) ||| orA B; rw [ih, Int32.or_assoc]
