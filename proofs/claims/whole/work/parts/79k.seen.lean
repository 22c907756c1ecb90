/-! TIMES AS SEEN: both sides -/
def lcN (l : Int64) : Int64 := ((l * 1103515245) + 12345) - ((l * 1103515245) + 12345) / 2147483648 * 2147483648
def lcB (l : Int64) (c : Int32) : Bool := decide (lg_cmp ((lcN l / 65536) - (lcN l / 65536) / 1000 * 1000) c.toInt64 < 0)
/-- one time: sixteen chances against what was told -/
def inF (cs tl : Nat → Int32) (l : Int64) : Nat → Int64 × Bool
  | 0 => (l, true)
  | i + 1 => (lcN (inF cs tl l i).1, (inF cs tl l i).2 && (decide (tl i = -1) || decide (tl i = bI (lcB (inF cs tl l i).1 (cs i)))))
def ouF (cs tl : Nat → Int32) (l : Int64) : Nat → Int64 × Int32
  | 0 => (l, 0)
  | t + 1 => ((inF cs tl (ouF cs tl l t).1 16).1, if (inF cs tl (ouF cs tl l t).1 16).2 = true then (ouF cs tl l t).2 + 1 else (ouF cs tl l t).2)
section SEE
variable {J : aI} {G : aL} {Z : aZ}
theorem c_seen_in (hZ : Shp Z) {x1 x2 x5 x6 : Int32} {l : Int64} {v9 : Value} : ∀ i, i ≤ 16 → ∃ v : Value, run 1 135 21 [.ref 32, .int x1, .int x2, .long l, xU, .int x5, .int x6, .int 1, .int 0, v9] [] (J, G, Z) = run 1 135 21 [.ref 32, .int x1, .int x2, .long (inF (J 71) (J (zR Z 33 3)) l i).1, xU, .int x5, .int x6, .int (bI (inF (J 71) (J (zR Z 33 3)) l i).2), .int (iN i), v] [] (J, G, Z) := by
  intro i
  induction i with
  | zero => exact fun _ => ⟨v9, rfl⟩
  | succ i ih =>
    intro hi
    obtain ⟨v, g⟩ := ih (by omega)
    have hci : (iN i).toNatClampNeg = i := iN_clamp (by omega)
    have hib : ib (iN i) 16 := ib_iN (by omega) (by omega)
    have m3 : mR (J, G, Z) (mR (J, G, Z) 32 0) 3 = zR Z 33 3 := by rw [hZ.r32_0, mR_t]
    generalize hS : inF (J 71) (J (zR Z 33 3)) l i = q at g
    obtain ⟨l', ok⟩ := q
    have e : inF (J 71) (J (zR Z 33 3)) l (i + 1) = (lcN l', ok && (decide (J (zR Z 33 3) i = -1) || decide (J (zR Z 33 3) i = bI (lcB l' (J 71 i))))) := by rw [inF, hS]
    refine ⟨.int (bI (lcB l' (J 71 i))), Eq.trans g ?_⟩
    rw [e]
    refine Eq.trans b135_21 (Eq.trans (if_neg (fun z => z ((iN_lt (b := 16) (by omega) (by omega)).mpr (by omega)))) (Eq.trans (b135_28 hZ.k32 hZ.kr32_7 (hZ.ir32_7 hib)) ?_))
    rw [hZ.r32_7, hci, mI_t]
    have s68 : run 1 135 68 [.ref 32, .int x1, .int x2, .long (lcN l'), xU, .int x5, .int x6, .int (bI ok), .int (iN i), v] [.int (bI (lcB l' (J 71 i)))] (J, G, Z) = run 1 135 21 [.ref 32, .int x1, .int x2, .long (lcN l'), xU, .int x5, .int x6, .int (bI (ok && (decide (J (zR Z 33 3) i = -1) || decide (J (zR Z 33 3) i = bI (lcB l' (J 71 i)))))), .int (iN (i + 1)), .int (bI (lcB l' (J 71 i)))] [] (J, G, Z) := by
      have k3 : zK Z (zR Z 33 3) = 12 := by have := hZ.kr33_3 (I := J) (G := G); exact this
      have i3 : ib (iN i) (zN Z (zR Z 33 3)) := hZ.ir33_3 (I := J) (G := G) hib
      refine Eq.trans b135_68 ?_
      rw [bI_0]
      have out : ∀ b' : Bool, run 1 135 109 [.ref 32, .int x1, .int x2, .long (lcN l'), xU, .int x5, .int x6, .int (bI ok), .int (iN i), .int (bI (lcB l' (J 71 i)))] [.int (bI b')] (J, G, Z) = run 1 135 21 [.ref 32, .int x1, .int x2, .long (lcN l'), xU, .int x5, .int x6, .int (bI b'), .int (iN (i + 1)), .int (bI (lcB l' (J 71 i)))] [] (J, G, Z) := fun b' => by
        refine Eq.trans b135_109 ?_
        rw [iN_succ]
      cases ok with
      | false => exact Eq.trans b135_108 (out false)
      | true =>
        rw [if_pos rfl, Bool.true_and]
        refine Eq.trans (b135_75 hZ.k32 hZ.kr32_0 (by rw [m3]; exact k3) (by rw [m3]; exact i3)) ?_
        rw [m3, hci, mI_t]
        by_cases hn : J (zR Z 33 3) i = -1
        · rw [if_pos hn, decide_eq_true hn, Bool.true_or]
          exact Eq.trans b135_104 (out true)
        · rw [if_neg hn, decide_eq_false hn, Bool.false_or]
          refine Eq.trans (b135_89 hZ.k32 hZ.kr32_0 (by rw [m3]; exact k3) (by rw [m3]; exact i3)) ?_
          rw [m3, hci, mI_t]
          by_cases hq : J (zR Z 33 3) i = bI (lcB l' (J 71 i))
          · rw [if_neg (fun z => z hq), decide_eq_true hq]
            exact Eq.trans b135_104 (out true)
          · rw [if_pos hq, decide_eq_false hq]
            exact Eq.trans b135_108 (out false)
    by_cases hb : lg_cmp ((lcN l' / 65536) - (lcN l' / 65536) / 1000 * 1000) (J 71 i).toInt64 < 0
    · have hB : lcB l' (J 71 i) = true := decide_eq_true hb
      refine Eq.trans (if_neg (fun z => z hb)) (Eq.trans b135_63 ?_)
      rw [hB] at s68 ⊢
      exact s68
    · have hB : lcB l' (J 71 i) = false := decide_eq_false hb
      refine Eq.trans (if_pos hb) (Eq.trans b135_67 ?_)
      rw [hB] at s68 ⊢
      exact s68
theorem c_seen (hZ : Shp Z) {x1 : Int32} {m : Nat} (hm : m ≤ 1000) : call 135 [.ref 32, .int x1, .int (iN m)] (J, G, Z) = some (some (.int (ouF (J 71) (J (zR Z 33 3)) x1.toInt64 m).2), (J, G, Z)) := by
  refine Eq.trans e135 (Eq.trans b135_0 ?_)
  have key : ∀ t, t ≤ m → ∃ v7 v8 v9 : Value, run 1 135 9 [.ref 32, .int x1, .int (iN m), .long x1.toInt64, xU, .int 0, .int 0, xU, xU, xU] [] (J, G, Z) = run 1 135 9 [.ref 32, .int x1, .int (iN m), .long (ouF (J 71) (J (zR Z 33 3)) x1.toInt64 t).1, xU, .int (ouF (J 71) (J (zR Z 33 3)) x1.toInt64 t).2, .int (iN t), v7, v8, v9] [] (J, G, Z) := by
    intro t
    induction t with
    | zero => exact fun _ => ⟨xU, xU, xU, rfl⟩
    | succ t ih =>
      intro ht
      obtain ⟨v7, v8, v9, g⟩ := ih (by omega)
      generalize hS : ouF (J 71) (J (zR Z 33 3)) x1.toInt64 t = q at g
      obtain ⟨l, c⟩ := q
      have e : ouF (J 71) (J (zR Z 33 3)) x1.toInt64 (t + 1) = ((inF (J 71) (J (zR Z 33 3)) l 16).1, if (inF (J 71) (J (zR Z 33 3)) l 16).2 = true then c + 1 else c) := by rw [ouF, hS]
      obtain ⟨v, h16⟩ := c_seen_in (J := J) (G := G) hZ (x1 := x1) (x2 := iN m) (x5 := c) (x6 := iN t) (l := l) (v9 := v9) 16 (Nat.le_refl _)
      rw [e]
      generalize inF (J 71) (J (zR Z 33 3)) l 16 = q2 at h16
      obtain ⟨l2, ok⟩ := q2
      refine ⟨.int (bI ok), .int (iN 16), v, Eq.trans g (Eq.trans b135_9 (Eq.trans (if_neg (fun z => z ((iN_lt (by omega) (by omega)).mpr (by omega)))) (Eq.trans b135_15 (Eq.trans h16 (Eq.trans b135_21 (Eq.trans (if_pos (by decide)) (Eq.trans b135_117 ?_)))))))⟩
      rw [bI_0]
      cases ok
      · refine Eq.trans (if_neg (show ¬ false = true by decide)) (Eq.trans b135_125 ?_)
        rw [iN_succ]; rfl
      · refine Eq.trans (if_pos rfl) (Eq.trans b135_122 (Eq.trans b135_125 ?_))
        rw [iN_succ]; rfl
  obtain ⟨v7, v8, v9, g⟩ := key m (Nat.le_refl _)
  exact Eq.trans g (Eq.trans b135_9 (Eq.trans (if_pos (iN_nlt (by omega))) b135_131))
end SEE
