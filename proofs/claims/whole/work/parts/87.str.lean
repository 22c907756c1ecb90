/-! THE MEMBERS OF String: length, charAt, of a constant -/
def JM (l : Launch) (g : aG) (y : MethodName) (cd : ByteArray) (ml : Nat) (ret : Option FieldType) (fr lo : Nat) (as : List Value) (v : Option Value) : Prop := Met l y (.code y cd ml ret :: gtb) { frames := fr, cells := 0, slots := 0, locals := lo } (va_Pc as (fun U => WS g U)) (fun _ st oc t => oc = .returned v ∧ t.heap = st.heap) 0 0 (fun _ => False)
theorem jm_good {y : MethodName} {cd : ByteArray} {ml : Nat} {ret : Option FieldType} (h : Cond.code y cd ml ret ∈ gtb) : GoodIn gtb (.code y cd ml ret :: gtb) := by
  intro w hw
  rcases List.mem_cons.mp hw with rfl | h2
  · exact gtb_good _ h
  · exact gtb_good _ h2
theorem jm_of {l : Launch} {g : aG} {y : MethodName} {cd : ByteArray} {ml : Nat} {ret : Option FieldType} {fr lo : Nat} {as : List Value} {v : Option Value} (hpl : plainName y.cls = true) (hen : (lg_sl as).length ≤ ml)
    (body : ∀ (p : Program) (e : Env) (s : State) (m : MethodId) (below : List Frame) (meth : Method) (c : Code) (ls : Array Slot), p.tables.exec = Jvm.exec → c.code = cd → c.maxLocals = ml → s.vm.findClass y.cls = some m.cls → (∀ w ∈ gtb, w.before as.toArray s = true) → WS g s → meth.sig.returnType = ret → meth.locks = false → lv_has ls ml (lv_args 0 as) → W p l e { frames := fr, cells := 0, slots := 0, locals := lo } s m as.toArray below meth c s.heap [] 0 0 (MQ below (fun _ st oc t => oc = .returned v ∧ t.heap = st.heap) as.toArray s 0 0 (fun _ => False)) (F0 m 0 ls [])) : JM l g y cd ml ret fr lo as v := by
  refine Met.ofW (cc := cd) (maxL := ml) (ret := ret) hpl rfl ?_
  intro p e s m args below meth c s₁ B hml hv
  obtain ⟨rfl, hWS⟩ := hv
  have hts := atoms_spec (ws := .code y cd ml ret :: gtb) B.pre
  have hl := lv_entry as (n := ml) hen
  rw [lg_entry_eq]
  exact body p e s m below meth c _ B.exec B.bytes hml (findClass_of_methodNamed B.named) (fun w hw => hts w (List.mem_cons_of_mem _ hw)) hWS B.returns B.notSynchronized hl
section JMC
variable {l : Launch} {g : aG} {p : Program} {e : Env} {R : Room} {s : State} {m : MethodId} {args : Array Value} {below : List Frame} {meth : Method} {c : Code} {Q : State → Prop} {pc : Nat} {ls : Array Slot} {cc : ByteArray} {nL : Nat} {own : String}
theorem jm_go {st0 rest : List Value} {v : Option Value} (hr : va_Run p l e R s m args below meth c s.heap [] 0 0 0 0 (F0 m pc ls st0) rest (fun st oc t => oc = .returned v ∧ t.heap = st.heap) (fun _ => False)) (kk : W p l e R s m args below meth c s.heap [] 0 0 Q (F0 m (pc + 3) ls (v.toList ++ rest))) : W p l e R s m args below meth c s.heap [] 0 0 Q (F0 m pc ls st0) := by
  intro T hT X
  obtain ⟨v', st₀, t, T', L', h0, X', hL', e1, e2, ⟨hv, hh⟩, st⟩ := hr T hT X
  cases hv
  obtain ⟨t2, a1, b1⟩ := kk T' (by rw [e1, hh, h0]) (Stand.forget X' (fun q h => (hL' q h).elim))
  exact ⟨t2, st t2 a1, b1⟩
theorem jm_v {y : MethodName} {cd : ByteArray} {ml index na fr lo : Nat} {ret : Option FieldType} {As rest : List Value} {b : Nat} {v : Option Value} (S : CallFix p m c cc nL s args gtb own) (hWS : WS g s) (hM : JM l g y cd ml ret fr lo (.ref b :: As) v) (hcode : Cond.code y cd ml ret ∈ gtb) (hini : Cond.initialized y.cls ∈ gtb) (hlink : Cond.methodLink own index y ∈ gtb) (hinst : Cond.instanceMethod y ∈ gtb) (hsel : Cond.selects RJ0 y y ∈ gtb) (hd : y.cls ≠ "java/lang/invoke/MethodHandle" ∧ y.cls ≠ "java/lang/invoke/VarHandle" ∧ (parseMethodDescriptor y.desc).map (fun d => d.parameters.length) = some na) (hR : fr + 1 ≤ R.frames ∧ 8 + (ml + 11) + lo ≤ R.locals) (hal : As.length = na) (hrc : ∃ cell : Cell, s.heap[b]? = some cell ∧ cell.vm.isStatics = false ∧ s.vm.findClass RJ0 = some cell.cls) (hsz : ls.size = nL) (h8 : (rest.map fun v => v.category).sum ≤ 8) (hdg : decode cc pc = .ok (.invokevirtual index, 3)) (kk : W p l e R s m args below meth c s.heap [] 0 0 Q (F0 m (pc + 3) ls (v.toList ++ rest))) : W p l e R s m args below meth c s.heap [] 0 0 Q (F0 m pc ls (As.reverse ++ .ref b :: rest)) :=
  jm_go (va_runV (C := RJ0) S hM ⟨callB_of na S.2.2.2.2 (jm_good hcode) rfl rfl rfl (S.2.2.2.2 _ hini) (S.2.2.2.2 _ hlink) hd hR, S.2.2.2.2 _ hinst, S.2.2.2.2 _ hsel⟩ ⟨fun a9 U g9 mk q => ⟨q.1, WS.same (u := U) (U := U.calling g9 mk a9) rfl rfl q.2⟩, hrc, fun U hU hW => ⟨rfl, WS.warm (locs := []) hW hU va_S.rf hWS⟩⟩ rfl hal hsz rfl (lv_room h8) hdg ⟨Nat.zero_le _, Nat.zero_le _⟩) kk
theorem jm_s {y : MethodName} {cd : ByteArray} {ml index na fr lo : Nat} {ret : Option FieldType} {As rest : List Value} {v : Option Value} (S : CallFix p m c cc nL s args gtb own) (hWS : WS g s) (hM : JM l g y cd ml ret fr lo As v) (hcode : Cond.code y cd ml ret ∈ gtb) (hini : Cond.initialized y.cls ∈ gtb) (hlink : Cond.methodLink own index y ∈ gtb) (hst : Cond.static y ∈ gtb) (hd : y.cls ≠ "java/lang/invoke/MethodHandle" ∧ y.cls ≠ "java/lang/invoke/VarHandle" ∧ (parseMethodDescriptor y.desc).map (fun d => d.parameters.length) = some na) (hR : fr + 1 ≤ R.frames ∧ 8 + (ml + 11) + lo ≤ R.locals) (hal : As.length = na) (hsz : ls.size = nL) (h8 : (rest.map fun v => v.category).sum ≤ 8) (hdg : decode cc pc = .ok (.invokestatic index, 3)) (kk : W p l e R s m args below meth c s.heap [] 0 0 Q (F0 m (pc + 3) ls (v.toList ++ rest))) : W p l e R s m args below meth c s.heap [] 0 0 Q (F0 m pc ls (As.reverse ++ rest)) :=
  jm_go (va_runS S hM ⟨callB_of na S.2.2.2.2 (jm_good hcode) rfl rfl rfl (S.2.2.2.2 _ hini) (S.2.2.2.2 _ hlink) hd hR, S.2.2.2.2 _ hst⟩ ⟨fun a9 U g9 mk q => ⟨q.1, WS.same (u := U) (U := U.calling g9 mk a9) rfl rfl q.2⟩, fun U hU hW => ⟨rfl, WS.warm (locs := []) hW hU va_S.rf hWS⟩⟩ rfl hal hsz rfl (lv_room h8) hdg ⟨Nat.zero_le _, Nat.zero_le _⟩) kk
end JMC
theorem j_coder {l : Launch} {g : aG} {i : Nat} (hi : i < 22) : JM l g yJ0_coder_7d493 cJ0_coder_7d493 1 (some .byte) 0 0 [.ref (gK g i)] (some (.int 0)) := by
  refine jm_of (by decide) (Nat.le_of_ble_eq_true rfl) ?_
  intro p e s m below meth c ls hx hb hml hown hts hWS hr hlk hl
  have hl : lv_has ls 1 [(0, .ref (gK g i))] := hl
  refine va_gets (A := wA g) (ref := "java/lang/String") hx hb hWS.2.2.2.2.2.2.2.2.1 va_S.rf hown (hts _ (gtb_at (p := 588) (by decide +kernel) rfl)) (fun _ h => h) dJ0_coder_7d493_0 ?_
  refine lv_if_eq hx hb dJ0_coder_7d493_3 (tgt := 13) rfl (fun h => absurd h (by decide)) (fun _ => ?_)
  refine lv_aload_n hx hb dJ0_coder_7d493_6 rfl (lv_at hl 0 rfl) ?_
  refine vk_getf (A := wA g) (ref := "java/lang/String") hx hb (hWS.2.2.2.1 i hi).2.1 va_S.rf hown (hts _ (gtb_at (p := 1634) (by decide +kernel) rfl)) (fun _ h => h) dJ0_coder_7d493_7 ?_
  refine lv_goto hx hb dJ0_coder_7d493_10 (tgt := 14) rfl ?_
  exact W.zret hx hb hr rfl (fun t ht _ => ⟨rfl, ht⟩) (fun q h => by cases h) dJ0_coder_7d493_14 hlk
theorem j_latin {l : Launch} {g : aG} {i : Nat} (hi : i < 22) : JM l g yJ0_isLatin1_aae02 cJ0_isLatin1_aae02 1 (some .boolean) 0 0 [.ref (gK g i)] (some (.int 1)) := by
  refine jm_of (by decide) (Nat.le_of_ble_eq_true rfl) ?_
  intro p e s m below meth c ls hx hb hml hown hts hWS hr hlk hl
  have hl : lv_has ls 1 [(0, .ref (gK g i))] := hl
  refine va_gets (A := wA g) (ref := "java/lang/String") hx hb hWS.2.2.2.2.2.2.2.2.1 va_S.rf hown (hts _ (gtb_at (p := 588) (by decide +kernel) rfl)) (fun _ h => h) dJ0_isLatin1_aae02_0 ?_
  refine lv_if_eq hx hb dJ0_isLatin1_aae02_3 (tgt := 17) rfl (fun h => absurd h (by decide)) (fun _ => ?_)
  refine lv_aload_n hx hb dJ0_isLatin1_aae02_6 rfl (lv_at hl 0 rfl) ?_
  refine vk_getf (A := wA g) (ref := "java/lang/String") hx hb (hWS.2.2.2.1 i hi).2.1 va_S.rf hown (hts _ (gtb_at (p := 1634) (by decide +kernel) rfl)) (fun _ h => h) dJ0_isLatin1_aae02_7 ?_
  refine lv_if_ne hx hb dJ0_isLatin1_aae02_10 (tgt := 17) rfl (fun h => absurd rfl h) (fun _ => ?_)
  refine lv_iconst (v := 1) hx hb dJ0_isLatin1_aae02_13 rfl ?_
  refine lv_goto hx hb dJ0_isLatin1_aae02_14 (tgt := 18) rfl ?_
  exact W.zret hx hb hr rfl (fun t ht _ => ⟨rfl, ht⟩) (fun q h => by cases h) dJ0_isLatin1_aae02_18 hlk
theorem j_check {l : Launch} {g : aG} {i n : Int32} {q : Value} (hq : q = .null ∨ ∃ a, q = .ref a) (h0 : ¬ i < 0) (h1 : i < n) : JM l g yJ3_checkIndex_8e157 cJ3_checkIndex_8e157 3 (some .int) 0 0 [.int i, .int n, q] (some (.int i)) := by
  refine jm_of (by decide) (by rcases hq with rfl | ⟨a, rfl⟩ <;> exact Nat.le_of_ble_eq_true rfl) ?_
  intro p e s m below meth c ls hx hb hml hown hts hWS hr hlk hl
  have hl : lv_has ls 3 [(0, .int i), (1, .int n), (2, q)] := by rcases hq with rfl | ⟨a, rfl⟩ <;> exact hl
  refine lv_iload_n hx hb dJ3_checkIndex_8e157_0 rfl (lv_at hl 0 rfl) ?_
  refine lv_if_lt hx hb dJ3_checkIndex_8e157_1 (tgt := 9) rfl (fun h => absurd h h0) (fun _ => ?_)
  refine lv_iload_n hx hb dJ3_checkIndex_8e157_4 rfl (lv_at hl 0 rfl) ?_
  refine lv_iload_n hx hb dJ3_checkIndex_8e157_5 rfl (lv_at hl 1 rfl) ?_
  refine lv_icmp_lt hx hb dJ3_checkIndex_8e157_6 (tgt := 16) rfl (fun _ => ?_) (fun h => absurd h1 h)
  refine lv_iload_n hx hb dJ3_checkIndex_8e157_16 rfl (lv_at hl 0 rfl) ?_
  exact W.iret hx hb hr (fun t ht _ => ⟨rfl, ht⟩) (fun q h => by cases h) dJ3_checkIndex_8e157_17 hlk
theorem j_check0 {l : Launch} {g : aG} {i n : Int32} (h0 : ¬ i < 0) (h1 : i < n) : JM l g yJ0_checkIndex_df160 cJ0_checkIndex_df160 2 none 1 40 [.int i, .int n] none := by
  refine jm_of (by decide) (Nat.le_of_ble_eq_true rfl) ?_
  intro p e s m below meth c ls hx hb hml hown hts hWS hr hlk hl
  have hl : lv_has ls 2 [(0, .int i), (1, .int n)] := hl
  refine lv_iload_n hx hb dJ0_checkIndex_df160_0 rfl (lv_at hl 0 rfl) ?_
  refine lv_iload_n hx hb dJ0_checkIndex_df160_1 rfl (lv_at hl 1 rfl) ?_
  obtain ⟨q, hq, hZ⟩ : ∃ q : Value, (q = .null ∨ ∃ a, q = .ref a) ∧ va_Z "jdk/internal/util/Preconditions" "SIOOBE_FORMATTER" "Ljava/util/function/BiFunction;" q (wA g) s s.heap := by
    rcases hWS.2.2.2.2.2.2.2.2.2 with h | ⟨t, h⟩
    · exact ⟨_, Or.inl rfl, h⟩
    · exact ⟨_, Or.inr ⟨t, rfl⟩, h⟩
  refine va_gets (A := wA g) (ref := "jdk/internal/util/Preconditions") hx hb hZ va_S.rf hown (hts _ (gtb_at (p := 604) (by decide +kernel) rfl)) (fun _ h => h) dJ0_checkIndex_df160_2 ?_
  refine jm_s (na := 3) (As := [.int i, .int n, q]) (rest := []) (nL := 2) ⟨hx, hb, hml, hown, hts⟩ hWS (j_check hq h0 h1) (gtb_of (List.mem_append_right _ (tin3 (List.mem_of_getElem? (i := 128) rfl))) rfl) (gtb_at (p := 14) (by decide +kernel) rfl) (gtb_at (p := 606) (by decide +kernel) rfl) (gtb_at (p := 607) (by decide +kernel) rfl) ⟨by decide, by decide, by decide +kernel⟩ ⟨Nat.le_of_ble_eq_true rfl, Nat.le_of_ble_eq_true rfl⟩ rfl hl.1 (Nat.le_of_ble_eq_true rfl) dJ0_checkIndex_df160_5 ?_
  refine lv_pop hx hb dJ0_checkIndex_df160_8 rfl ?_
  exact W.vret hx hb hr (fun t ht _ => ⟨rfl, ht⟩) (fun q h => by cases h) dJ0_checkIndex_df160_9 hlk
theorem sby_all : (List.range 22).all (fun i => (sbyt.getD i []).length == slen.getD i 0 && decide (slen.getD i 0 < 10) && (sbyt.getD i []).all (fun b => decide (((b &&& 255).toUInt32 % 65536).toInt32 = b) && decide (narrow .char (.int b) = .int b))) = true := by decide +kernel
theorem sby {i k : Nat} (hi : i < 22) (hk : k < slen.getD i 0) : slen.getD i 0 < 10 ∧ ((((sbyt.getD i []).getD k 0) &&& 255).toUInt32 % 65536).toInt32 = (sbyt.getD i []).getD k 0 ∧ narrow .char (.int ((sbyt.getD i []).getD k 0)) = .int ((sbyt.getD i []).getD k 0) := by
  have h := List.all_eq_true.mp sby_all i (List.mem_range.mpr hi)
  simp only [Bool.and_eq_true, beq_iff_eq, decide_eq_true_eq] at h
  have hm : (sbyt.getD i []).getD k 0 ∈ sbyt.getD i [] := by
    have hk2 : k < (sbyt.getD i []).length := by rw [h.1.1]; exact hk
    generalize sbyt.getD i [] = z at hk2
    rw [List.getD_eq_getElem?_getD, List.getElem?_eq_getElem hk2]
    exact List.getElem_mem _
  have h2 := List.all_eq_true.mp h.2 _ hm
  simp only [Bool.and_eq_true, decide_eq_true_eq] at h2
  exact ⟨h.1.2, h2.1, h2.2⟩
theorem ib_lt {j : Int32} {n : Nat} (h : ib j n) (hn : n < 10) : ¬ j < 0 ∧ j < Int32.ofNat n := by
  have h0 : ¬ j < 0 := fun q => h (Or.inl q)
  have h1 : j.toNatClampNeg < n := Nat.lt_of_not_le (fun q => h (Or.inr q))
  refine ⟨h0, ?_⟩
  have h2 : 0 ≤ j.toInt := by
    have := Int32.not_lt.mp h0
    rw [Int32.le_iff_toInt_le] at this
    simpa using this
  rw [Int32.lt_iff_toInt_lt, Int32.toInt_ofNat_of_lt (by omega)]
  rw [Int32.toNatClampNeg] at h1
  omega
theorem j_char1 {l : Launch} {g : aG} {i : Nat} {j : Int32} (hi : i < 22) (hj : ib j (slen.getD i 0)) : JM l g yJ1_charAt_3b067 cJ1_charAt_3b067 2 (some .char) 2 100 [.ref (gV g i), .int j] (some (.int ((sbyt.getD i []).getD j.toNatClampNeg 0))) := by
  refine jm_of (by decide) (Nat.le_of_ble_eq_true rfl) ?_
  intro p e s m below meth c ls hx hb hml hown hts hWS hr hlk hl
  have hl : lv_has ls 2 [(0, .ref (gV g i)), (1, .int j)] := hl
  have hk : j.toNatClampNeg < slen.getD i 0 := Nat.lt_of_not_le (fun q => hj (Or.inr q))
  obtain ⟨h10, hby, hnr⟩ := sby hi hk
  obtain ⟨h0, h1⟩ := ib_lt hj h10
  have hT := (hWS.2.2.2.1 i hi).2.2.2
  refine lv_iload_n hx hb dJ1_charAt_3b067_0 rfl (lv_at hl 1 rfl) ?_
  refine lv_aload_n hx hb dJ1_charAt_3b067_1 rfl (lv_at hl 0 rfl) ?_
  refine va_tlen (A := wA g) hx hb hT va_S.rf rfl dJ1_charAt_3b067_2 ?_
  refine jm_s (na := 2) (As := [.int j, .int (Int32.ofNat (slen.getD i 0))]) (rest := []) (nL := 2) ⟨hx, hb, hml, hown, hts⟩ hWS (j_check0 h0 h1) (gtb_of (List.mem_append_right _ (tin3 (List.mem_of_getElem? (i := 123) rfl))) rfl) (gtb_at (p := 12) (by decide +kernel) rfl) (gtb_at (p := 601) (by decide +kernel) rfl) (gtb_at (p := 602) (by decide +kernel) rfl) ⟨by decide, by decide, by decide +kernel⟩ ⟨Nat.le_of_ble_eq_true rfl, Nat.le_of_ble_eq_true rfl⟩ rfl hl.1 (Nat.le_of_ble_eq_true rfl) dJ1_charAt_3b067_3 ?_
  refine lv_aload_n hx hb dJ1_charAt_3b067_6 rfl (lv_at hl 0 rfl) ?_
  refine lv_iload_n hx hb dJ1_charAt_3b067_7 rfl (lv_at hl 1 rfl) ?_
  refine va_tb (A := wA g) hx hb hT va_S.rf hj rfl dJ1_charAt_3b067_8 ?_
  refine lv_sipush (v := 255) hx hb dJ1_charAt_3b067_9 rfl ?_
  refine lv_iand hx hb dJ1_charAt_3b067_12 ?_
  refine lv_i2c hx hb dJ1_charAt_3b067_13 hby ?_
  exact W.zret hx hb hr hnr (fun t ht _ => ⟨rfl, ht⟩) (fun q h => by cases h) dJ1_charAt_3b067_14 hlk
theorem j_char {l : Launch} {g : aG} {i : Nat} {j : Int32} (hi : i < 22) (hj : ib j (slen.getD i 0)) : JM l g yJ0_charAt_5068e cJ0_charAt_5068e 2 (some .char) 6 300 [.ref (gK g i), .int j] (some (.int ((sbyt.getD i []).getD j.toNatClampNeg 0))) := by
  refine jm_of (by decide) (Nat.le_of_ble_eq_true rfl) ?_
  intro p e s m below meth c ls hx hb hml hown hts hWS hr hlk hl
  have hl : lv_has ls 2 [(0, .ref (gK g i)), (1, .int j)] := hl
  have hk : j.toNatClampNeg < slen.getD i 0 := Nat.lt_of_not_le (fun q => hj (Or.inr q))
  obtain ⟨h10, hby, hnr⟩ := sby hi hk
  have hrc := vS.recv (H := s.heap) (locs := []) hWS.2.2.2.1 hi va_S.rf
  refine lv_aload_n hx hb dJ0_charAt_5068e_0 rfl (lv_at hl 0 rfl) ?_
  refine jm_v (As := []) (rest := []) (nL := 2) ⟨hx, hb, hml, hown, hts⟩ hWS (j_latin hi) (gtb_of (List.mem_append_right _ (tin3 (List.mem_of_getElem? (i := 117) rfl))) rfl) (gtb_at (p := 12) (by decide +kernel) rfl) (gtb_at (p := 594) (by decide +kernel) rfl) (gtb_at (p := 595) (by decide +kernel) rfl) (gtb_at (p := 596) (by decide +kernel) rfl) ⟨by decide, by decide, by decide +kernel⟩ ⟨Nat.le_of_ble_eq_true rfl, Nat.le_of_ble_eq_true rfl⟩ rfl hrc hl.1 (Nat.le_of_ble_eq_true rfl) dJ0_charAt_5068e_1 ?_
  refine lv_if_eq hx hb dJ0_charAt_5068e_4 (tgt := 16) rfl (fun h => absurd h (by decide)) (fun _ => ?_)
  refine lv_aload_n hx hb dJ0_charAt_5068e_7 rfl (lv_at hl 0 rfl) ?_
  refine vk_getf (A := wA g) (ref := "java/lang/String") hx hb (hWS.2.2.2.1 i hi).2.2.1 va_S.rf hown (hts _ (gtb_at (p := 1633) (by decide +kernel) rfl)) (fun _ h => h) dJ0_charAt_5068e_8 ?_
  refine lv_iload_n hx hb dJ0_charAt_5068e_11 rfl (lv_at hl 1 rfl) ?_
  refine jm_s (na := 2) (As := [.ref (gV g i), .int j]) (rest := []) (nL := 2) ⟨hx, hb, hml, hown, hts⟩ hWS (j_char1 hi hj) (gtb_of (List.mem_append_right _ (tin3 (List.mem_of_getElem? (i := 120) rfl))) rfl) (gtb_at (p := 13) (by decide +kernel) rfl) (gtb_at (p := 598) (by decide +kernel) rfl) (gtb_at (p := 599) (by decide +kernel) rfl) ⟨by decide, by decide, by decide +kernel⟩ ⟨Nat.le_of_ble_eq_true rfl, Nat.le_of_ble_eq_true rfl⟩ rfl hl.1 (Nat.le_of_ble_eq_true rfl) dJ0_charAt_5068e_12 ?_
  exact W.zret hx hb hr hnr (fun t ht _ => ⟨rfl, ht⟩) (fun q h => by cases h) dJ0_charAt_5068e_15 hlk
theorem sl_all : (List.range 22).all (fun i => decide (Int32.ofNat (slen.getD i 0) >>> ((0 : Int32) &&& 31) = Int32.ofNat (slen.getD i 0))) = true := by decide +kernel
theorem j_len {l : Launch} {g : aG} {i : Nat} (hi : i < 22) : JM l g yJ0_length_8abf5 cJ0_length_8abf5 1 (some .int) 6 300 [.ref (gK g i)] (some (.int (Int32.ofNat (slen.getD i 0)))) := by
  refine jm_of (by decide) (Nat.le_of_ble_eq_true rfl) ?_
  intro p e s m below meth c ls hx hb hml hown hts hWS hr hlk hl
  have hl : lv_has ls 1 [(0, .ref (gK g i))] := hl
  have hrc := vS.recv (H := s.heap) (locs := []) hWS.2.2.2.1 hi va_S.rf
  have hsh := List.all_eq_true.mp sl_all i (List.mem_range.mpr hi)
  simp only [decide_eq_true_eq] at hsh
  refine lv_aload_n hx hb dJ0_length_8abf5_0 rfl (lv_at hl 0 rfl) ?_
  refine vk_getf (A := wA g) (ref := "java/lang/String") hx hb (hWS.2.2.2.1 i hi).2.2.1 va_S.rf hown (hts _ (gtb_at (p := 1633) (by decide +kernel) rfl)) (fun _ h => h) dJ0_length_8abf5_1 ?_
  refine va_tlen (A := wA g) hx hb (hWS.2.2.2.1 i hi).2.2.2 va_S.rf rfl dJ0_length_8abf5_4 ?_
  refine lv_aload_n hx hb dJ0_length_8abf5_5 rfl (lv_at hl 0 rfl) ?_
  refine jm_v (As := []) (rest := [.int (Int32.ofNat (slen.getD i 0))]) (nL := 1) ⟨hx, hb, hml, hown, hts⟩ hWS (j_coder hi) (gtb_of (List.mem_append_right _ (tin3 (List.mem_of_getElem? (i := 107) rfl))) rfl) (gtb_at (p := 12) (by decide +kernel) rfl) (gtb_at (p := 584) (by decide +kernel) rfl) (gtb_at (p := 585) (by decide +kernel) rfl) (gtb_at (p := 586) (by decide +kernel) rfl) ⟨by decide, by decide, by decide +kernel⟩ ⟨Nat.le_of_ble_eq_true rfl, Nat.le_of_ble_eq_true rfl⟩ rfl hrc hl.1 (Nat.le_of_ble_eq_true rfl) dJ0_length_8abf5_6 ?_
  refine lv_ishr hx hb dJ0_length_8abf5_9 ?_
  rw [hsh]
  exact W.iret hx hb hr (fun t ht _ => ⟨rfl, ht⟩) (fun q h => by cases h) dJ0_length_8abf5_10 hlk
theorem strM {l : Launch} {g : aG} : StrM l g := ⟨fun _ hi => j_len hi, fun _ _ hi hj => j_char hi hj⟩
