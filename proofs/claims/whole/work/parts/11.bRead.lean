/-! BLOCKS of 11.bRead, by program (wip/gen/mk10.py) -/
-- 0: X0_init(III[I)V
theorem e0 {a0 : Nat} {x1 : Int32} {x2 : Int32} {x3 : Int32} {a4 : Nat} {M : aM} : call 0 [.ref a0, .int x1, .int x2, .int x3, .ref a4] M = run 1 0 0 [.ref a0, .int x1, .int x2, .int x3, .ref a4] [] M := rfl
theorem b0_0 {a0 : Nat} {x1 : Int32} {x2 : Int32} {x3 : Int32} {a4 : Nat} {M : aM} (h1 : mK M a0 = 0) : run 1 0 0 [.ref a0, .int x1, .int x2, .int x3, .ref a4] [] M = run 1 0 19 [.ref a0, .int x1, .int x2, .int x3, .ref a4] [] (wI (wI (wI M a0 0 x1) a0 1 x2) a0 2 x3) :=
  Eq.trans (r_aload_n mt0 dX0_init_0 rfl) (Eq.trans (r_oin mt0 dX0_init_1 m0_1 (Nat.le_of_ble_eq_true rfl) h1 (by decide)) (Eq.trans (r_aload_n mt0 dX0_init_4 rfl) (Eq.trans (r_iload_n mt0 dX0_init_5 rfl) (Eq.trans (r_puti mt0 dX0_init_6 f0_7 h1 (by decide) (Or.inr ⟨rfl, rfl⟩) rfl rfl) (Eq.trans (r_aload_n mt0 dX0_init_9 rfl) (Eq.trans (r_iload_n mt0 dX0_init_10 rfl) (Eq.trans (r_puti mt0 dX0_init_11 f0_13 h1 (by decide) (Or.inr ⟨rfl, rfl⟩) rfl rfl) (Eq.trans (r_aload_n mt0 dX0_init_14 rfl) (Eq.trans (r_iload_n mt0 dX0_init_15 rfl) (r_puti mt0 dX0_init_16 f0_16 h1 (by decide) (Or.inr ⟨rfl, rfl⟩) rfl rfl))))))))))
theorem b0_19 {a0 : Nat} {x1 : Int32} {x2 : Int32} {x3 : Int32} {a4 : Nat} {M : aM} (h1 : mK M a0 = 0) : run 1 0 19 [.ref a0, .int x1, .int x2, .int x3, .ref a4] [] M = some (none, wR M a0 3 a4) :=
  Eq.trans (r_aload_n mt0 dX0_init_19 rfl) (Eq.trans (r_aload mt0 dX0_init_20 rfl) (Eq.trans (r_putr mt0 dX0_init_22 f0_19 h1 (by decide) (Or.inr ⟨rfl, rfl⟩) rfl) (r_vret mt0 dX0_init_25 rfl)))
-- 11: X2_init(LTreacleTank$Tape;)V
theorem e11 {a0 : Nat} {a1 : Nat} {M : aM} : call 11 [.ref a0, .ref a1] M = run 1 11 0 [.ref a0, .ref a1] [] M := rfl
theorem b11_0 {a0 : Nat} {a1 : Nat} {M : aM} (h1 : mK M a0 = 2) (h2 : mK (wN M 16 14 14) a0 = 2) : run 1 11 0 [.ref a0, .ref a1] [] M = run 1 11 19 [.ref a0, .ref a1] [.ref (mX (wN M 16 14 14) + 32), .ref a0] (wN (wR (wN M 16 14 14) a0 0 (mX M + 32)) 12 400 400) :=
  Eq.trans (r_aload_n mt11 dX2_init_0 rfl) (Eq.trans (r_oin mt11 dX2_init_1 m2_3 (Nat.le_of_ble_eq_true rfl) h1 (by decide)) (Eq.trans (r_aload_n mt11 dX2_init_4 rfl) (Eq.trans (r_bipush (v := 14) mt11 dX2_init_5 rfl) (Eq.trans (r_newr mt11 dX2_init_7 k2_11 rfl (by decide) (by decide) (N := 14) (by decide) (by decide)) (Eq.trans (r_putr mt11 dX2_init_10 f2_13 h2 (by decide) (Or.inr ⟨rfl, rfl⟩) rfl) (Eq.trans (r_aload_n mt11 dX2_init_13 rfl) (Eq.trans (r_sipush (v := 400) mt11 dX2_init_14 rfl) (r_newa mt11 dX2_init_17 rfl (by decide) (by decide) (N := 400) (by decide) (by decide)))))))))
theorem b11_19 {a0 : Nat} {a1 : Nat} {sa1 : Nat} {sa0 : Nat} {M : aM} (h1 : mK M sa0 = 2) (h2 : mK M a0 = 2) : run 1 11 19 [.ref a0, .ref a1] [.ref sa1, .ref sa0] M = some (none, wR (wR M sa0 1 sa1) a0 2 a1) :=
  Eq.trans (r_putr mt11 dX2_init_19 f2_19 h1 (by decide) (Or.inr ⟨rfl, rfl⟩) rfl) (Eq.trans (r_aload_n mt11 dX2_init_22 rfl) (Eq.trans (r_aload_n mt11 dX2_init_23 rfl) (Eq.trans (r_putr mt11 dX2_init_24 f2_23 h2 (by decide) (Or.inr ⟨rfl, rfl⟩) rfl) (r_vret mt11 dX2_init_27 rfl))))
-- 12: X2_faultFound()I
theorem e12 {a0 : Nat} {M : aM} : call 12 [.ref a0] M = run 1 12 0 [.ref a0] [] M := rfl
theorem b12_0 {a0 : Nat} {M : aM} (h1 : mK M a0 = 2) : run 1 12 0 [.ref a0] [] M = some (some (.int (mI M a0 7)), M) :=
  Eq.trans (r_aload_n mt12 dX2_faultFound_0 rfl) (Eq.trans (r_geti mt12 dX2_faultFound_1 f2_27 h1 (by decide) rfl) (r_iret mt12 dX2_faultFound_4 rfl))
-- 13: X2_read(Z)LTreacleTank$Text;
theorem e13 {a0 : Nat} {x1 : Int32} {M : aM} : call 13 [.ref a0, .int x1] M = run 61 13 0 [.ref a0, .int x1, xU] [] M := rfl
theorem b13_0 {a0 : Nat} {x1 : Int32} {M : aM} (h1 : mK M a0 = 2) (h2 : mK M (mR M a0 2) = 7) : run 61 13 0 [.ref a0, .int x1, xU] [] M = (call 81 [.ref (mR M a0 2)] M).bind (fun r => run 61 13 7 [.ref a0, .int x1, xU] (r.1.toList ++ []) r.2) :=
  Eq.trans (r_aload_n mt13 dX2_read_0 rfl) (Eq.trans (r_getr mt13 dX2_read_1 f2_23 h1 (by decide) rfl) (r_cv (as := [.ref (mR M a0 2)]) (rest := []) mt13 dX2_read_4 m2_31 (by decide) rfl rfl rfl h2 (Nat.le_of_ble_eq_true rfl) (Nat.le_of_ble_eq_true rfl) rfl (by decide) (Nat.le_of_ble_eq_true rfl)))
theorem b13_7 {a0 : Nat} {x1 : Int32} {M : aM} (h1 : mK M a0 = 2) : run 61 13 7 [.ref a0, .int x1, xU] [] M = run 61 13 22 [.ref a0, .int x1, xU] [] (wI (wI (wI M a0 3 0) a0 4 0) a0 6 0) :=
  Eq.trans (r_aload_n mt13 dX2_read_7 rfl) (Eq.trans (r_iconst (v := 0) mt13 dX2_read_8 rfl) (Eq.trans (r_puti mt13 dX2_read_9 f2_34 h1 (by decide) (Or.inl rfl) rfl rfl) (Eq.trans (r_aload_n mt13 dX2_read_12 rfl) (Eq.trans (r_iconst (v := 0) mt13 dX2_read_13 rfl) (Eq.trans (r_puti mt13 dX2_read_14 f2_37 h1 (by decide) (Or.inl rfl) rfl rfl) (Eq.trans (r_aload_n mt13 dX2_read_17 rfl) (Eq.trans (r_iconst (v := 0) mt13 dX2_read_18 rfl) (r_puti mt13 dX2_read_19 f2_40 h1 (by decide) (Or.inl rfl) rfl rfl))))))))
theorem b13_34 {a0 : Nat} {x1 : Int32} {x2 : Int32} {M : aM}  : run 61 13 34 [.ref a0, .int x1, .int x2] [] M = if 14 < x2 then run 61 13 89 [.ref a0, .int x1, .int x2] [] M else run 61 13 40 [.ref a0, .int x1, .int x2] [] M :=
  Eq.trans (r_iload_n mt13 dX2_read_34 rfl) (Eq.trans (r_bipush (v := 14) mt13 dX2_read_35 rfl) (r_icmp_gt mt13 dX2_read_37 rfl))
theorem b13_40 {a0 : Nat} {x1 : Int32} {x2 : Int32} {M : aM} (h1 : mK M a0 = 2) : run 61 13 40 [.ref a0, .int x1, .int x2] [] M = (call 14 [.ref a0, .int x1] M).bind (fun r => run 61 13 45 [.ref a0, .int x1, .int x2] (r.1.toList ++ []) r.2) :=
  Eq.trans (r_aload_n mt13 dX2_read_40 rfl) (Eq.trans (r_iload_n mt13 dX2_read_41 rfl) (r_cv (as := [.ref a0, .int x1]) (rest := []) mt13 dX2_read_42 m2_47 (by decide) rfl rfl rfl h1 (Nat.le_of_ble_eq_true rfl) (Nat.le_of_ble_eq_true rfl) rfl (by decide) (Nat.le_of_ble_eq_true rfl)))
theorem b13_45 {a0 : Nat} {x1 : Int32} {x2 : Int32} {sx0 : Int32} {M : aM}  : run 61 13 45 [.ref a0, .int x1, .int x2] [.int sx0] M = if ¬ sx0 = 0 then run 61 13 50 [.ref a0, .int x1, .int x2] [] M else run 61 13 48 [.ref a0, .int x1, .int x2] [] M :=
  r_if_ne mt13 dX2_read_45 rfl
theorem b13_48 {a0 : Nat} {x1 : Int32} {x2 : Int32} {M : aM}  : run 61 13 48 [.ref a0, .int x1, .int x2] [] M = some (some (.ref 0), M) :=
  Eq.trans (r_null mt13 dX2_read_48) (r_aret mt13 dX2_read_49 rfl)
theorem b13_50 {a0 : Nat} {x1 : Int32} {x2 : Int32} {M : aM} (h1 : mK M a0 = 2) : run 61 13 50 [.ref a0, .int x1, .int x2] [] M = (call 24 [.ref a0] M).bind (fun r => run 61 13 54 [.ref a0, .int x1, .int x2] (r.1.toList ++ []) r.2) :=
  Eq.trans (r_aload_n mt13 dX2_read_50 rfl) (r_cv (as := [.ref a0]) (rest := []) mt13 dX2_read_51 m2_51 (by decide) rfl rfl rfl h1 (Nat.le_of_ble_eq_true rfl) (Nat.le_of_ble_eq_true rfl) rfl (by decide) (Nat.le_of_ble_eq_true rfl))
theorem b13_54 {a0 : Nat} {x1 : Int32} {x2 : Int32} {sx0 : Int32} {M : aM}  : run 61 13 54 [.ref a0, .int x1, .int x2] [.int sx0] M = if ¬ sx0 = 0 then run 61 13 73 [.ref a0, .int x1, .int x2] [] M else run 61 13 57 [.ref a0, .int x1, .int x2] [] M :=
  r_if_ne mt13 dX2_read_54 rfl
theorem b13_57 {a0 : Nat} {x1 : Int32} {x2 : Int32} {M : aM} (h1 : mK (wN M 8 0 1) a0 = 2) (h2 : mK (wN M 8 0 1) (mX M + 32) = 8) : run 61 13 57 [.ref a0, .int x1, .int x2] [] M = (call 92 [.ref (mX M + 32), .ref (mR (wN M 8 0 1) a0 0), .int (mI (wN M 8 0 1) a0 4)] (wN M 8 0 1)).bind (fun r => run 61 13 72 [.ref a0, .int x1, .int x2] (r.1.toList ++ [.ref (mX M + 32)]) r.2) :=
  Eq.trans (r_new mt13 dX2_read_57 k2_55 (by decide)) (Eq.trans (r_dup mt13 dX2_read_60 rfl) (Eq.trans (r_aload_n mt13 dX2_read_61 rfl) (Eq.trans (r_getr mt13 dX2_read_62 f2_13 h1 (by decide) rfl) (Eq.trans (r_aload_n mt13 dX2_read_65 rfl) (Eq.trans (r_geti mt13 dX2_read_66 f2_37 h1 (by decide) rfl) (r_ci (as := [.ref (mX M + 32), .ref (mR (wN M 8 0 1) a0 0), .int (mI (wN M 8 0 1) a0 4)]) (rest := [.ref (mX M + 32)]) mt13 dX2_read_69 m2_57 (Or.inl rfl) rfl rfl rfl h2 (Nat.le_of_ble_eq_true rfl) (Nat.le_of_ble_eq_true rfl) rfl (by decide) (Nat.le_of_ble_eq_true rfl)))))))
theorem b13_72 {a0 : Nat} {x1 : Int32} {x2 : Int32} {sa0 : Nat} {M : aM}  : run 61 13 72 [.ref a0, .int x1, .int x2] [.ref sa0] M = some (some (.ref sa0), M) :=
  r_aret mt13 dX2_read_72 rfl
theorem b13_73 {a0 : Nat} {x1 : Int32} {x2 : Int32} {M : aM} (h1 : mK M a0 = 2) : run 61 13 73 [.ref a0, .int x1, .int x2] [] M = (call 27 [.ref a0, .int 4] M).bind (fun r => run 61 13 78 [.ref a0, .int x1, .int x2] (r.1.toList ++ []) r.2) :=
  Eq.trans (r_aload_n mt13 dX2_read_73 rfl) (Eq.trans (r_iconst (v := 4) mt13 dX2_read_74 rfl) (r_cv (as := [.ref a0, .int 4]) (rest := []) mt13 dX2_read_75 m2_60 (by decide) rfl rfl rfl h1 (Nat.le_of_ble_eq_true rfl) (Nat.le_of_ble_eq_true rfl) rfl (by decide) (Nat.le_of_ble_eq_true rfl)))
theorem b13_78 {a0 : Nat} {x1 : Int32} {x2 : Int32} {sx0 : Int32} {M : aM}  : run 61 13 78 [.ref a0, .int x1, .int x2] [.int sx0] M = if ¬ sx0 = 0 then run 61 13 83 [.ref a0, .int x1, .int x2] [] M else run 61 13 81 [.ref a0, .int x1, .int x2] [] M :=
  r_if_ne mt13 dX2_read_78 rfl
theorem b13_81 {a0 : Nat} {x1 : Int32} {x2 : Int32} {M : aM}  : run 61 13 81 [.ref a0, .int x1, .int x2] [] M = some (some (.ref 0), M) :=
  Eq.trans (r_null mt13 dX2_read_81) (r_aret mt13 dX2_read_82 rfl)
theorem b13_83 {a0 : Nat} {x1 : Int32} {x2 : Int32} {M : aM}  : run 61 13 83 [.ref a0, .int x1, .int x2] [] M = run 61 13 34 [.ref a0, .int x1, .int (x2 + 1)] [] M :=
  Eq.trans (r_iinc (v := 1) (L' := [.ref a0, .int x1, .int (x2 + 1)]) mt13 dX2_read_83 rfl rfl rfl) (r_goto mt13 dX2_read_86 rfl)
theorem b13_89 {a0 : Nat} {x1 : Int32} {x2 : Int32} {M : aM}  : run 61 13 89 [.ref a0, .int x1, .int x2] [] M = some (some (.ref 0), M) :=
  Eq.trans (r_null mt13 dX2_read_89) (r_aret mt13 dX2_read_90 rfl)
theorem b13_22 {a0 : Nat} {x1 : Int32} {M : aM} (h1 : mK M a0 = 2) : run 61 13 22 [.ref a0, .int x1, xU] [] M = run 61 13 34 [.ref a0, .int x1, .int 0] [] (wI (wI M a0 7 0) a0 10 0) :=
  Eq.trans (r_aload_n mt13 dX2_read_22 rfl) (Eq.trans (r_iconst (v := 0) mt13 dX2_read_23 rfl) (Eq.trans (r_puti mt13 dX2_read_24 f2_27 h1 (by decide) (Or.inl rfl) rfl rfl) (Eq.trans (r_aload_n mt13 dX2_read_27 rfl) (Eq.trans (r_iconst (v := 0) mt13 dX2_read_28 rfl) (Eq.trans (r_puti mt13 dX2_read_29 f2_43 h1 (by decide) (Or.inl rfl) rfl rfl) (Eq.trans (r_iconst (v := 0) mt13 dX2_read_32 rfl) (r_istore_n (L' := [.ref a0, .int x1, .int 0]) mt13 dX2_read_33 (Nat.le_of_ble_eq_true rfl) rfl)))))))
-- 14: X2_readClause(Z)Z
theorem e14 {a0 : Nat} {x1 : Int32} {M : aM} : call 14 [.ref a0, .int x1] M = run 60 14 0 [.ref a0, .int x1, xU, xU, xU] [] M := rfl
theorem b14_0 {a0 : Nat} {x1 : Int32} {M : aM} (h1 : mK M a0 = 2) : run 60 14 0 [.ref a0, .int x1, xU, xU, xU] [] M = (call 24 [.ref a0] M).bind (fun r => run 60 14 4 [.ref a0, .int x1, xU, xU, xU] (r.1.toList ++ []) r.2) :=
  Eq.trans (r_aload_n mt14 dX2_readClause_0 rfl) (r_cv (as := [.ref a0]) (rest := []) mt14 dX2_readClause_1 m2_51 (by decide) rfl rfl rfl h1 (Nat.le_of_ble_eq_true rfl) (Nat.le_of_ble_eq_true rfl) rfl (by decide) (Nat.le_of_ble_eq_true rfl))
theorem b14_4 {a0 : Nat} {x1 : Int32} {sx0 : Int32} {M : aM}  : run 60 14 4 [.ref a0, .int x1, xU, xU, xU] [.int sx0] M = (call 15 [.int sx0, .int x1] M).bind (fun r => run 60 14 10 [.ref a0, .int x1, .int sx0, xU, xU] (r.1.toList ++ []) r.2) :=
  Eq.trans (r_istore_n (L' := [.ref a0, .int x1, .int sx0, xU, xU]) mt14 dX2_readClause_4 (Nat.le_of_ble_eq_true rfl) rfl) (Eq.trans (r_iload_n mt14 dX2_readClause_5 rfl) (Eq.trans (r_iload_n mt14 dX2_readClause_6 rfl) (r_cs (as := [.int sx0, .int x1]) (rest := []) mt14 dX2_readClause_7 m2_64 (Or.inl rfl) rfl rfl (Nat.le_of_ble_eq_true rfl) (Nat.le_of_ble_eq_true rfl) rfl (by decide) (Nat.le_of_ble_eq_true rfl))))
theorem b14_10 {a0 : Nat} {x1 : Int32} {x2 : Int32} {sx0 : Int32} {M : aM}  : run 60 14 10 [.ref a0, .int x1, .int x2, xU, xU] [.int sx0] M = if ¬ sx0 = 0 then run 60 14 19 [.ref a0, .int x1, .int x2, xU, xU] [] M else run 60 14 13 [.ref a0, .int x1, .int x2, xU, xU] [] M :=
  r_if_ne mt14 dX2_readClause_10 rfl
theorem b14_13 {a0 : Nat} {x1 : Int32} {x2 : Int32} {M : aM} (h1 : mK M a0 = 2) : run 60 14 13 [.ref a0, .int x1, .int x2, xU, xU] [] M = (call 28 [.ref a0, .int 0] M).bind (fun r => run 60 14 18 [.ref a0, .int x1, .int x2, xU, xU] (r.1.toList ++ []) r.2) :=
  Eq.trans (r_aload_n mt14 dX2_readClause_13 rfl) (Eq.trans (r_iconst (v := 0) mt14 dX2_readClause_14 rfl) (r_cv (as := [.ref a0, .int 0]) (rest := []) mt14 dX2_readClause_15 m2_68 (by decide) rfl rfl rfl h1 (Nat.le_of_ble_eq_true rfl) (Nat.le_of_ble_eq_true rfl) rfl (by decide) (Nat.le_of_ble_eq_true rfl)))
theorem b14_18 {a0 : Nat} {x1 : Int32} {x2 : Int32} {sx0 : Int32} {M : aM} (h1 : rtI (some .boolean) sx0 = true) : run 60 14 18 [.ref a0, .int x1, .int x2, xU, xU] [.int sx0] M = some (some (.int sx0), M) :=
  r_iret mt14 dX2_readClause_18 h1
theorem b14_19 {a0 : Nat} {x1 : Int32} {x2 : Int32} {M : aM}  : run 60 14 19 [.ref a0, .int x1, .int x2, xU, xU] [] M = if ¬ x2 = 14 then run 60 14 29 [.ref a0, .int x1, .int x2, xU, xU] [] M else run 60 14 25 [.ref a0, .int x1, .int x2, xU, xU] [] M :=
  Eq.trans (r_iload_n mt14 dX2_readClause_19 rfl) (Eq.trans (r_bipush (v := 14) mt14 dX2_readClause_20 rfl) (r_icmp_ne mt14 dX2_readClause_22 rfl))
theorem b14_25 {a0 : Nat} {x1 : Int32} {x2 : Int32} {M : aM}  : run 60 14 25 [.ref a0, .int x1, .int x2, xU, xU] [] M = run 60 14 30 [.ref a0, .int x1, .int x2, xU, xU] [.int 1] M :=
  Eq.trans (r_iconst (v := 1) mt14 dX2_readClause_25 rfl) (r_goto mt14 dX2_readClause_26 rfl)
theorem b14_29 {a0 : Nat} {x1 : Int32} {x2 : Int32} {M : aM}  : run 60 14 29 [.ref a0, .int x1, .int x2, xU, xU] [] M = run 60 14 30 [.ref a0, .int x1, .int x2, xU, xU] [.int 0] M :=
  r_iconst (v := 0) mt14 dX2_readClause_29 rfl
theorem b14_30 {a0 : Nat} {x1 : Int32} {x2 : Int32} {sx0 : Int32} {M : aM} (h1 : mK M a0 = 2) : run 60 14 30 [.ref a0, .int x1, .int x2, xU, xU] [.int sx0] M = if ¬ (mI M a0 4) < 14 then run 60 14 51 [.ref a0, .int x1, .int x2, .int sx0, xU] [] M else run 60 14 40 [.ref a0, .int x1, .int x2, .int sx0, xU] [] M :=
  Eq.trans (r_istore_n (L' := [.ref a0, .int x1, .int x2, .int sx0, xU]) mt14 dX2_readClause_30 (Nat.le_of_ble_eq_true rfl) rfl) (Eq.trans (r_aload_n mt14 dX2_readClause_31 rfl) (Eq.trans (r_geti mt14 dX2_readClause_32 f2_37 h1 (by decide) rfl) (Eq.trans (r_bipush (v := 14) mt14 dX2_readClause_35 rfl) (r_icmp_ge mt14 dX2_readClause_37 rfl))))
theorem b14_40 {a0 : Nat} {x1 : Int32} {x2 : Int32} {x3 : Int32} {M : aM}  : run 60 14 40 [.ref a0, .int x1, .int x2, .int x3, xU] [] M = if x3 = 0 then run 60 14 57 [.ref a0, .int x1, .int x2, .int x3, xU] [] M else run 60 14 44 [.ref a0, .int x1, .int x2, .int x3, xU] [] M :=
  Eq.trans (r_iload_n mt14 dX2_readClause_40 rfl) (r_if_eq mt14 dX2_readClause_41 rfl)
theorem b14_44 {a0 : Nat} {x1 : Int32} {x2 : Int32} {x3 : Int32} {M : aM} (h1 : mK M a0 = 2) : run 60 14 44 [.ref a0, .int x1, .int x2, .int x3, xU] [] M = if (mI M a0 10) = 0 then run 60 14 57 [.ref a0, .int x1, .int x2, .int x3, xU] [] M else run 60 14 51 [.ref a0, .int x1, .int x2, .int x3, xU] [] M :=
  Eq.trans (r_aload_n mt14 dX2_readClause_44 rfl) (Eq.trans (r_geti mt14 dX2_readClause_45 f2_43 h1 (by decide) rfl) (r_if_eq mt14 dX2_readClause_48 rfl))
theorem b14_51 {a0 : Nat} {x1 : Int32} {x2 : Int32} {x3 : Int32} {M : aM} (h1 : mK M a0 = 2) : run 60 14 51 [.ref a0, .int x1, .int x2, .int x3, xU] [] M = (call 28 [.ref a0, .int 4] M).bind (fun r => run 60 14 56 [.ref a0, .int x1, .int x2, .int x3, xU] (r.1.toList ++ []) r.2) :=
  Eq.trans (r_aload_n mt14 dX2_readClause_51 rfl) (Eq.trans (r_iconst (v := 4) mt14 dX2_readClause_52 rfl) (r_cv (as := [.ref a0, .int 4]) (rest := []) mt14 dX2_readClause_53 m2_68 (by decide) rfl rfl rfl h1 (Nat.le_of_ble_eq_true rfl) (Nat.le_of_ble_eq_true rfl) rfl (by decide) (Nat.le_of_ble_eq_true rfl)))
theorem b14_56 {a0 : Nat} {x1 : Int32} {x2 : Int32} {x3 : Int32} {sx0 : Int32} {M : aM} (h1 : rtI (some .boolean) sx0 = true) : run 60 14 56 [.ref a0, .int x1, .int x2, .int x3, xU] [.int sx0] M = some (some (.int sx0), M) :=
  r_iret mt14 dX2_readClause_56 h1
theorem b14_57 {a0 : Nat} {x1 : Int32} {x2 : Int32} {x3 : Int32} {M : aM} (h1 : mK M a0 = 2) : run 60 14 57 [.ref a0, .int x1, .int x2, .int x3, xU] [] M = if ¬ (mI (wI M a0 3 ((mI M a0 3) + 1)) a0 10) = 0 then run 60 14 79 [.ref a0, .int x1, .int x2, .int x3, xU] [.ref a0] (wI M a0 3 ((mI M a0 3) + 1)) else run 60 14 75 [.ref a0, .int x1, .int x2, .int x3, xU] [.ref a0] (wI M a0 3 ((mI M a0 3) + 1)) :=
  Eq.trans (r_aload_n mt14 dX2_readClause_57 rfl) (Eq.trans (r_dup mt14 dX2_readClause_58 rfl) (Eq.trans (r_geti mt14 dX2_readClause_59 f2_34 h1 (by decide) rfl) (Eq.trans (r_iconst (v := 1) mt14 dX2_readClause_62 rfl) (Eq.trans (r_iadd mt14 dX2_readClause_63) (Eq.trans (r_puti mt14 dX2_readClause_64 f2_34 h1 (by decide) (Or.inl rfl) rfl rfl) (Eq.trans (r_aload_n mt14 dX2_readClause_67 rfl) (Eq.trans (r_aload_n mt14 dX2_readClause_68 rfl) (Eq.trans (r_geti mt14 dX2_readClause_69 f2_43 h1 (by decide) rfl) (r_if_ne mt14 dX2_readClause_72 rfl)))))))))
theorem b14_75 {a0 : Nat} {x1 : Int32} {x2 : Int32} {x3 : Int32} {sa0 : Nat} {M : aM}  : run 60 14 75 [.ref a0, .int x1, .int x2, .int x3, xU] [.ref sa0] M = if x3 = 0 then run 60 14 83 [.ref a0, .int x1, .int x2, .int x3, xU] [.ref sa0] M else run 60 14 79 [.ref a0, .int x1, .int x2, .int x3, xU] [.ref sa0] M :=
  Eq.trans (r_iload_n mt14 dX2_readClause_75 rfl) (r_if_eq mt14 dX2_readClause_76 rfl)
theorem b14_79 {a0 : Nat} {x1 : Int32} {x2 : Int32} {x3 : Int32} {sa0 : Nat} {M : aM}  : run 60 14 79 [.ref a0, .int x1, .int x2, .int x3, xU] [.ref sa0] M = run 60 14 84 [.ref a0, .int x1, .int x2, .int x3, xU] [.int 1, .ref sa0] M :=
  Eq.trans (r_iconst (v := 1) mt14 dX2_readClause_79 rfl) (r_goto mt14 dX2_readClause_80 rfl)
theorem b14_83 {a0 : Nat} {x1 : Int32} {x2 : Int32} {x3 : Int32} {sa0 : Nat} {M : aM}  : run 60 14 83 [.ref a0, .int x1, .int x2, .int x3, xU] [.ref sa0] M = run 60 14 84 [.ref a0, .int x1, .int x2, .int x3, xU] [.int 0, .ref sa0] M :=
  r_iconst (v := 0) mt14 dX2_readClause_83 rfl
theorem b14_84 {a0 : Nat} {x1 : Int32} {x2 : Int32} {x3 : Int32} {sx1 : Int32} {sa0 : Nat} {M : aM} (h1 : mK M sa0 = 2) (h2 : bty 2 10 sx1 = true) (h3 : mK M a0 = 2) : run 60 14 84 [.ref a0, .int x1, .int x2, .int x3, xU] [.int sx1, .ref sa0] M = (call 16 [.ref a0, .int x2] (wI (wI M sa0 10 sx1) a0 5 0)).bind (fun r => run 60 14 97 [.ref a0, .int x1, .int x2, .int x3, xU] (r.1.toList ++ []) r.2) :=
  Eq.trans (r_puti mt14 dX2_readClause_84 f2_43 h1 (by decide) (Or.inl rfl) rfl h2) (Eq.trans (r_aload_n mt14 dX2_readClause_87 rfl) (Eq.trans (r_iconst (v := 0) mt14 dX2_readClause_88 rfl) (Eq.trans (r_puti mt14 dX2_readClause_89 f2_71 h3 (by decide) (Or.inl rfl) rfl rfl) (Eq.trans (r_aload_n mt14 dX2_readClause_92 rfl) (Eq.trans (r_iload_n mt14 dX2_readClause_93 rfl) (r_cv (as := [.ref a0, .int x2]) (rest := []) mt14 dX2_readClause_94 m2_74 (by decide) rfl rfl rfl h3 (Nat.le_of_ble_eq_true rfl) (Nat.le_of_ble_eq_true rfl) rfl (by decide) (Nat.le_of_ble_eq_true rfl)))))))
theorem b14_97 {a0 : Nat} {x1 : Int32} {x2 : Int32} {x3 : Int32} {sx0 : Int32} {M : aM}  : run 60 14 97 [.ref a0, .int x1, .int x2, .int x3, xU] [.int sx0] M = if ¬ sx0 = 0 then run 60 14 102 [.ref a0, .int x1, .int x2, .int x3, xU] [] M else run 60 14 100 [.ref a0, .int x1, .int x2, .int x3, xU] [] M :=
  r_if_ne mt14 dX2_readClause_97 rfl
theorem b14_100 {a0 : Nat} {x1 : Int32} {x2 : Int32} {x3 : Int32} {M : aM}  : run 60 14 100 [.ref a0, .int x1, .int x2, .int x3, xU] [] M = some (some (.int 0), M) :=
  Eq.trans (r_iconst (v := 0) mt14 dX2_readClause_100 rfl) (r_iret mt14 dX2_readClause_101 rfl)
theorem b14_102 {a0 : Nat} {x1 : Int32} {x2 : Int32} {x3 : Int32} {M : aM}  : run 60 14 102 [.ref a0, .int x1, .int x2, .int x3, xU] [] M = if x2 = 15 then run 60 14 121 [.ref a0, .int x1, .int x2, .int x3, xU] [] M else run 60 14 108 [.ref a0, .int x1, .int x2, .int x3, xU] [] M :=
  Eq.trans (r_iload_n mt14 dX2_readClause_102 rfl) (Eq.trans (r_bipush (v := 15) mt14 dX2_readClause_103 rfl) (r_icmp_eq mt14 dX2_readClause_105 rfl))
theorem b14_108 {a0 : Nat} {x1 : Int32} {x2 : Int32} {x3 : Int32} {M : aM}  : run 60 14 108 [.ref a0, .int x1, .int x2, .int x3, xU] [] M = if ¬ x3 = 0 then run 60 14 125 [.ref a0, .int x1, .int x2, .int x3, xU] [] M else run 60 14 112 [.ref a0, .int x1, .int x2, .int x3, xU] [] M :=
  Eq.trans (r_iload_n mt14 dX2_readClause_108 rfl) (r_if_ne mt14 dX2_readClause_109 rfl)
theorem b14_112 {a0 : Nat} {x1 : Int32} {x2 : Int32} {x3 : Int32} {M : aM} (h1 : mK M a0 = 2) : run 60 14 112 [.ref a0, .int x1, .int x2, .int x3, xU] [] M = (call 26 [.ref a0, .int 19] M).bind (fun r => run 60 14 118 [.ref a0, .int x1, .int x2, .int x3, xU] (r.1.toList ++ []) r.2) :=
  Eq.trans (r_aload_n mt14 dX2_readClause_112 rfl) (Eq.trans (r_bipush (v := 19) mt14 dX2_readClause_113 rfl) (r_cv (as := [.ref a0, .int 19]) (rest := []) mt14 dX2_readClause_115 m2_77 (by decide) rfl rfl rfl h1 (Nat.le_of_ble_eq_true rfl) (Nat.le_of_ble_eq_true rfl) rfl (by decide) (Nat.le_of_ble_eq_true rfl)))
theorem b14_118 {a0 : Nat} {x1 : Int32} {x2 : Int32} {x3 : Int32} {sx0 : Int32} {M : aM}  : run 60 14 118 [.ref a0, .int x1, .int x2, .int x3, xU] [.int sx0] M = if sx0 = 0 then run 60 14 125 [.ref a0, .int x1, .int x2, .int x3, xU] [] M else run 60 14 121 [.ref a0, .int x1, .int x2, .int x3, xU] [] M :=
  r_if_eq mt14 dX2_readClause_118 rfl
theorem b14_121 {a0 : Nat} {x1 : Int32} {x2 : Int32} {x3 : Int32} {M : aM}  : run 60 14 121 [.ref a0, .int x1, .int x2, .int x3, xU] [] M = run 60 14 126 [.ref a0, .int x1, .int x2, .int x3, xU] [.int 1] M :=
  Eq.trans (r_iconst (v := 1) mt14 dX2_readClause_121 rfl) (r_goto mt14 dX2_readClause_122 rfl)
theorem b14_125 {a0 : Nat} {x1 : Int32} {x2 : Int32} {x3 : Int32} {M : aM}  : run 60 14 125 [.ref a0, .int x1, .int x2, .int x3, xU] [] M = run 60 14 126 [.ref a0, .int x1, .int x2, .int x3, xU] [.int 0] M :=
  r_iconst (v := 0) mt14 dX2_readClause_125 rfl
theorem b14_126 {a0 : Nat} {x1 : Int32} {x2 : Int32} {x3 : Int32} {sx0 : Int32} {M : aM}  : run 60 14 126 [.ref a0, .int x1, .int x2, .int x3, xU] [.int sx0] M = if sx0 = 0 then run 60 14 143 [.ref a0, .int x1, .int x2, .int x3, .int sx0] [] M else run 60 14 133 [.ref a0, .int x1, .int x2, .int x3, .int sx0] [] M :=
  Eq.trans (r_istore (L' := [.ref a0, .int x1, .int x2, .int x3, .int sx0]) mt14 dX2_readClause_126 (Nat.le_of_ble_eq_true rfl) rfl) (Eq.trans (r_iload mt14 dX2_readClause_128 rfl) (r_if_eq mt14 dX2_readClause_130 rfl))
theorem b14_133 {a0 : Nat} {x1 : Int32} {x2 : Int32} {x3 : Int32} {x4 : Int32} {M : aM} (h1 : rk 19 [.ref a0, .int 0] < 60) (h2 : mK M a0 = 2) : run 60 14 133 [.ref a0, .int x1, .int x2, .int x3, .int x4] [] M = (call 19 [.ref a0, .int 0] M).bind (fun r => run 60 14 138 [.ref a0, .int x1, .int x2, .int x3, .int x4] (r.1.toList ++ []) r.2) :=
  Eq.trans (r_aload_n mt14 dX2_readClause_133 rfl) (Eq.trans (r_iconst (v := 0) mt14 dX2_readClause_134 rfl) (r_cv (as := [.ref a0, .int 0]) (rest := []) mt14 dX2_readClause_135 m2_80 (by decide) rfl rfl rfl h2 (Nat.le_of_ble_eq_true rfl) (Nat.le_of_ble_eq_true rfl) rfl (by decide) h1))
theorem b14_138 {a0 : Nat} {x1 : Int32} {x2 : Int32} {x3 : Int32} {x4 : Int32} {sx0 : Int32} {M : aM}  : run 60 14 138 [.ref a0, .int x1, .int x2, .int x3, .int x4] [.int sx0] M = if ¬ sx0 = 0 then run 60 14 143 [.ref a0, .int x1, .int x2, .int x3, .int x4] [] M else run 60 14 141 [.ref a0, .int x1, .int x2, .int x3, .int x4] [] M :=
  r_if_ne mt14 dX2_readClause_138 rfl
theorem b14_141 {a0 : Nat} {x1 : Int32} {x2 : Int32} {x3 : Int32} {x4 : Int32} {M : aM}  : run 60 14 141 [.ref a0, .int x1, .int x2, .int x3, .int x4] [] M = some (some (.int 0), M) :=
  Eq.trans (r_iconst (v := 0) mt14 dX2_readClause_141 rfl) (r_iret mt14 dX2_readClause_142 rfl)
theorem b14_143 {a0 : Nat} {x1 : Int32} {x2 : Int32} {x3 : Int32} {x4 : Int32} {M : aM} (h1 : mK M a0 = 2) : run 60 14 143 [.ref a0, .int x1, .int x2, .int x3, .int x4] [] M = (call 17 [.ref a0, .int x2] M).bind (fun r => run 60 14 148 [.ref a0, .int x1, .int x2, .int x3, .int x4] (r.1.toList ++ []) r.2) :=
  Eq.trans (r_aload_n mt14 dX2_readClause_143 rfl) (Eq.trans (r_iload_n mt14 dX2_readClause_144 rfl) (r_cv (as := [.ref a0, .int x2]) (rest := []) mt14 dX2_readClause_145 m2_83 (by decide) rfl rfl rfl h1 (Nat.le_of_ble_eq_true rfl) (Nat.le_of_ble_eq_true rfl) rfl (by decide) (Nat.le_of_ble_eq_true rfl)))
theorem b14_148 {a0 : Nat} {x1 : Int32} {x2 : Int32} {x3 : Int32} {x4 : Int32} {M : aM}  : run 60 14 148 [.ref a0, .int x1, .int x2, .int x3, .int x4] [] M = some (some (.int 1), M) :=
  Eq.trans (r_iconst (v := 1) mt14 dX2_readClause_148 rfl) (r_iret mt14 dX2_readClause_149 rfl)
-- 15: X2_mayBegin(IZ)Z
theorem e15 {x0 : Int32} {x1 : Int32} {M : aM} : call 15 [.int x0, .int x1] M = run 1 15 0 [.int x0, .int x1] [] M := rfl
theorem b15_0 {x0 : Int32} {x1 : Int32} {M : aM}  : run 1 15 0 [.int x0, .int x1] [] M = if x1 = 0 then run 1 15 16 [.int x0, .int x1] [] M else run 1 15 4 [.int x0, .int x1] [] M :=
  Eq.trans (r_iload_n mt15 dX2_mayBegin_0 rfl) (r_if_eq mt15 dX2_mayBegin_1 rfl)
theorem b15_4 {x0 : Int32} {x1 : Int32} {M : aM}  : run 1 15 4 [.int x0, .int x1] [] M = if ¬ x0 = 17 then run 1 15 14 [.int x0, .int x1] [] M else run 1 15 10 [.int x0, .int x1] [] M :=
  Eq.trans (r_iload_n mt15 dX2_mayBegin_4 rfl) (Eq.trans (r_bipush (v := 17) mt15 dX2_mayBegin_5 rfl) (r_icmp_ne mt15 dX2_mayBegin_7 rfl))
theorem b15_10 {x0 : Int32} {x1 : Int32} {M : aM}  : run 1 15 10 [.int x0, .int x1] [] M = run 1 15 15 [.int x0, .int x1] [.int 1] M :=
  Eq.trans (r_iconst (v := 1) mt15 dX2_mayBegin_10 rfl) (r_goto mt15 dX2_mayBegin_11 rfl)
theorem b15_14 {x0 : Int32} {x1 : Int32} {M : aM}  : run 1 15 14 [.int x0, .int x1] [] M = run 1 15 15 [.int x0, .int x1] [.int 0] M :=
  r_iconst (v := 0) mt15 dX2_mayBegin_14 rfl
theorem b15_15 {x0 : Int32} {x1 : Int32} {sx0 : Int32} {M : aM} (h1 : rtI (some .boolean) sx0 = true) : run 1 15 15 [.int x0, .int x1] [.int sx0] M = some (some (.int sx0), M) :=
  r_iret mt15 dX2_mayBegin_15 h1
theorem b15_16 {x0 : Int32} {x1 : Int32} {M : aM}  : run 1 15 16 [.int x0, .int x1] [] M = if x0 = 14 then run 1 15 34 [.int x0, .int x1] [] M else run 1 15 22 [.int x0, .int x1] [] M :=
  Eq.trans (r_iload_n mt15 dX2_mayBegin_16 rfl) (Eq.trans (r_bipush (v := 14) mt15 dX2_mayBegin_17 rfl) (r_icmp_eq mt15 dX2_mayBegin_19 rfl))
theorem b15_22 {x0 : Int32} {x1 : Int32} {M : aM}  : run 1 15 22 [.int x0, .int x1] [] M = if x0 = 15 then run 1 15 34 [.int x0, .int x1] [] M else run 1 15 28 [.int x0, .int x1] [] M :=
  Eq.trans (r_iload_n mt15 dX2_mayBegin_22 rfl) (Eq.trans (r_bipush (v := 15) mt15 dX2_mayBegin_23 rfl) (r_icmp_eq mt15 dX2_mayBegin_25 rfl))
theorem b15_28 {x0 : Int32} {x1 : Int32} {M : aM}  : run 1 15 28 [.int x0, .int x1] [] M = if ¬ x0 = 16 then run 1 15 38 [.int x0, .int x1] [] M else run 1 15 34 [.int x0, .int x1] [] M :=
  Eq.trans (r_iload_n mt15 dX2_mayBegin_28 rfl) (Eq.trans (r_bipush (v := 16) mt15 dX2_mayBegin_29 rfl) (r_icmp_ne mt15 dX2_mayBegin_31 rfl))
theorem b15_34 {x0 : Int32} {x1 : Int32} {M : aM}  : run 1 15 34 [.int x0, .int x1] [] M = run 1 15 39 [.int x0, .int x1] [.int 1] M :=
  Eq.trans (r_iconst (v := 1) mt15 dX2_mayBegin_34 rfl) (r_goto mt15 dX2_mayBegin_35 rfl)
theorem b15_38 {x0 : Int32} {x1 : Int32} {M : aM}  : run 1 15 38 [.int x0, .int x1] [] M = run 1 15 39 [.int x0, .int x1] [.int 0] M :=
  r_iconst (v := 0) mt15 dX2_mayBegin_38 rfl
theorem b15_39 {x0 : Int32} {x1 : Int32} {sx0 : Int32} {M : aM} (h1 : rtI (some .boolean) sx0 = true) : run 1 15 39 [.int x0, .int x1] [.int sx0] M = some (some (.int sx0), M) :=
  r_iret mt15 dX2_mayBegin_39 h1
-- 16: X2_readHead(I)Z
theorem e16 {a0 : Nat} {x1 : Int32} {M : aM} : call 16 [.ref a0, .int x1] M = run 3 16 0 [.ref a0, .int x1] [] M := rfl
theorem b16_0_c14 {a0 : Nat} {x1 : Int32} {M : aM} (h1 : mK M a0 = 2) (hx : x1 = 14) : run 3 16 0 [.ref a0, .int x1] [] M = run 3 16 40 [.ref a0, .int x1] [] (wI (wI M a0 8 0) a0 9 0) :=
  Eq.trans (r_aload_n mt16 dX2_readHead_0 rfl) (Eq.trans (r_iconst (v := 0) mt16 dX2_readHead_1 rfl) (Eq.trans (r_puti mt16 dX2_readHead_2 f2_87 h1 (by decide) (Or.inl rfl) rfl rfl) (Eq.trans (r_aload_n mt16 dX2_readHead_5 rfl) (Eq.trans (r_iconst (v := 0) mt16 dX2_readHead_6 rfl) (Eq.trans (r_puti mt16 dX2_readHead_7 f2_90 h1 (by decide) (Or.inl rfl) rfl rfl) (Eq.trans (r_iload_n mt16 dX2_readHead_10 rfl) (r_ts mt16 dX2_readHead_11 hx (off := 29) (by decide +kernel) rfl)))))))
theorem b16_0_c15 {a0 : Nat} {x1 : Int32} {M : aM} (h1 : mK M a0 = 2) (hx : x1 = 15) : run 3 16 0 [.ref a0, .int x1] [] M = run 3 16 128 [.ref a0, .int x1] [] (wI (wI M a0 8 0) a0 9 0) :=
  Eq.trans (r_aload_n mt16 dX2_readHead_0 rfl) (Eq.trans (r_iconst (v := 0) mt16 dX2_readHead_1 rfl) (Eq.trans (r_puti mt16 dX2_readHead_2 f2_87 h1 (by decide) (Or.inl rfl) rfl rfl) (Eq.trans (r_aload_n mt16 dX2_readHead_5 rfl) (Eq.trans (r_iconst (v := 0) mt16 dX2_readHead_6 rfl) (Eq.trans (r_puti mt16 dX2_readHead_7 f2_90 h1 (by decide) (Or.inl rfl) rfl rfl) (Eq.trans (r_iload_n mt16 dX2_readHead_10 rfl) (r_ts mt16 dX2_readHead_11 hx (off := 117) (by decide +kernel) rfl)))))))
theorem b16_0_c16 {a0 : Nat} {x1 : Int32} {M : aM} (h1 : mK M a0 = 2) (hx : x1 = 16) : run 3 16 0 [.ref a0, .int x1] [] M = run 3 16 49 [.ref a0, .int x1] [] (wI (wI M a0 8 0) a0 9 0) :=
  Eq.trans (r_aload_n mt16 dX2_readHead_0 rfl) (Eq.trans (r_iconst (v := 0) mt16 dX2_readHead_1 rfl) (Eq.trans (r_puti mt16 dX2_readHead_2 f2_87 h1 (by decide) (Or.inl rfl) rfl rfl) (Eq.trans (r_aload_n mt16 dX2_readHead_5 rfl) (Eq.trans (r_iconst (v := 0) mt16 dX2_readHead_6 rfl) (Eq.trans (r_puti mt16 dX2_readHead_7 f2_90 h1 (by decide) (Or.inl rfl) rfl rfl) (Eq.trans (r_iload_n mt16 dX2_readHead_10 rfl) (r_ts mt16 dX2_readHead_11 hx (off := 38) (by decide +kernel) rfl)))))))
theorem b16_0_c17 {a0 : Nat} {x1 : Int32} {M : aM} (h1 : mK M a0 = 2) (hx : x1 = 17) : run 3 16 0 [.ref a0, .int x1] [] M = run 3 16 82 [.ref a0, .int x1] [] (wI (wI M a0 8 0) a0 9 0) :=
  Eq.trans (r_aload_n mt16 dX2_readHead_0 rfl) (Eq.trans (r_iconst (v := 0) mt16 dX2_readHead_1 rfl) (Eq.trans (r_puti mt16 dX2_readHead_2 f2_87 h1 (by decide) (Or.inl rfl) rfl rfl) (Eq.trans (r_aload_n mt16 dX2_readHead_5 rfl) (Eq.trans (r_iconst (v := 0) mt16 dX2_readHead_6 rfl) (Eq.trans (r_puti mt16 dX2_readHead_7 f2_90 h1 (by decide) (Or.inl rfl) rfl rfl) (Eq.trans (r_iload_n mt16 dX2_readHead_10 rfl) (r_ts mt16 dX2_readHead_11 hx (off := 71) (by decide +kernel) rfl)))))))
theorem b16_0_d {a0 : Nat} {x1 : Int32} {M : aM} (h1 : mK M a0 = 2) (hx : x1.toInt < 14 ∨ 17 < x1.toInt) : run 3 16 0 [.ref a0, .int x1] [] M = run 3 16 128 [.ref a0, .int x1] [] (wI (wI M a0 8 0) a0 9 0) :=
  Eq.trans (r_aload_n mt16 dX2_readHead_0 rfl) (Eq.trans (r_iconst (v := 0) mt16 dX2_readHead_1 rfl) (Eq.trans (r_puti mt16 dX2_readHead_2 f2_87 h1 (by decide) (Or.inl rfl) rfl rfl) (Eq.trans (r_aload_n mt16 dX2_readHead_5 rfl) (Eq.trans (r_iconst (v := 0) mt16 dX2_readHead_6 rfl) (Eq.trans (r_puti mt16 dX2_readHead_7 f2_90 h1 (by decide) (Or.inl rfl) rfl rfl) (Eq.trans (r_iload_n mt16 dX2_readHead_10 rfl) (r_tsD mt16 dX2_readHead_11 hx rfl)))))))
theorem b16_40 {a0 : Nat} {x1 : Int32} {M : aM} (h1 : mK M a0 = 2) : run 3 16 40 [.ref a0, .int x1] [] M = (call 18 [.ref a0, .int 1, .int 9999] M).bind (fun r => run 3 16 48 [.ref a0, .int x1] (r.1.toList ++ []) r.2) :=
  Eq.trans (r_aload_n mt16 dX2_readHead_40 rfl) (Eq.trans (r_iconst (v := 1) mt16 dX2_readHead_41 rfl) (Eq.trans (r_sipush (v := 9999) mt16 dX2_readHead_42 rfl) (r_cv (as := [.ref a0, .int 1, .int 9999]) (rest := []) mt16 dX2_readHead_45 m2_93 (by decide) rfl rfl rfl h1 (Nat.le_of_ble_eq_true rfl) (Nat.le_of_ble_eq_true rfl) rfl (by decide) (Nat.le_of_ble_eq_true rfl))))
theorem b16_48 {a0 : Nat} {x1 : Int32} {sx0 : Int32} {M : aM} (h1 : rtI (some .boolean) sx0 = true) : run 3 16 48 [.ref a0, .int x1] [.int sx0] M = some (some (.int sx0), M) :=
  r_iret mt16 dX2_readHead_48 h1
theorem b16_49 {a0 : Nat} {x1 : Int32} {M : aM} (h1 : mK M a0 = 2) : run 3 16 49 [.ref a0, .int x1] [] M = (call 25 [.ref a0] M).bind (fun r => run 3 16 54 [.ref a0, .int x1] (r.1.toList ++ [.ref a0]) r.2) :=
  Eq.trans (r_aload_n mt16 dX2_readHead_49 rfl) (Eq.trans (r_aload_n mt16 dX2_readHead_50 rfl) (r_cv (as := [.ref a0]) (rest := [.ref a0]) mt16 dX2_readHead_51 m2_97 (by decide) rfl rfl rfl h1 (Nat.le_of_ble_eq_true rfl) (Nat.le_of_ble_eq_true rfl) rfl (by decide) (Nat.le_of_ble_eq_true rfl)))
theorem b16_54 {a0 : Nat} {x1 : Int32} {sx1 : Int32} {sa0 : Nat} {M : aM} (h1 : mK M sa0 = 2) (h2 : mK M a0 = 2) : run 3 16 54 [.ref a0, .int x1] [.int sx1, .ref sa0] M = (call 27 [.ref a0, .int 3] (wI M sa0 8 sx1)).bind (fun r => run 3 16 62 [.ref a0, .int x1] (r.1.toList ++ []) r.2) :=
  Eq.trans (r_puti mt16 dX2_readHead_54 f2_87 h1 (by decide) (Or.inl rfl) rfl rfl) (Eq.trans (r_aload_n mt16 dX2_readHead_57 rfl) (Eq.trans (r_iconst (v := 3) mt16 dX2_readHead_58 rfl) (r_cv (as := [.ref a0, .int 3]) (rest := []) mt16 dX2_readHead_59 m2_60 (by decide) rfl rfl rfl h2 (Nat.le_of_ble_eq_true rfl) (Nat.le_of_ble_eq_true rfl) rfl (by decide) (Nat.le_of_ble_eq_true rfl))))
theorem b16_62 {a0 : Nat} {x1 : Int32} {sx0 : Int32} {M : aM}  : run 3 16 62 [.ref a0, .int x1] [.int sx0] M = if sx0 = 0 then run 3 16 80 [.ref a0, .int x1] [] M else run 3 16 65 [.ref a0, .int x1] [] M :=
  r_if_eq mt16 dX2_readHead_62 rfl
theorem b16_65 {a0 : Nat} {x1 : Int32} {M : aM} (h1 : mK M a0 = 2) : run 3 16 65 [.ref a0, .int x1] [] M = (call 18 [.ref a0, .int 0, .int 1000] M).bind (fun r => run 3 16 73 [.ref a0, .int x1] (r.1.toList ++ []) r.2) :=
  Eq.trans (r_aload_n mt16 dX2_readHead_65 rfl) (Eq.trans (r_iconst (v := 0) mt16 dX2_readHead_66 rfl) (Eq.trans (r_sipush (v := 1000) mt16 dX2_readHead_67 rfl) (r_cv (as := [.ref a0, .int 0, .int 1000]) (rest := []) mt16 dX2_readHead_70 m2_93 (by decide) rfl rfl rfl h1 (Nat.le_of_ble_eq_true rfl) (Nat.le_of_ble_eq_true rfl) rfl (by decide) (Nat.le_of_ble_eq_true rfl))))
theorem b16_73 {a0 : Nat} {x1 : Int32} {sx0 : Int32} {M : aM}  : run 3 16 73 [.ref a0, .int x1] [.int sx0] M = if sx0 = 0 then run 3 16 80 [.ref a0, .int x1] [] M else run 3 16 76 [.ref a0, .int x1] [] M :=
  r_if_eq mt16 dX2_readHead_73 rfl
theorem b16_76 {a0 : Nat} {x1 : Int32} {M : aM}  : run 3 16 76 [.ref a0, .int x1] [] M = run 3 16 81 [.ref a0, .int x1] [.int 1] M :=
  Eq.trans (r_iconst (v := 1) mt16 dX2_readHead_76 rfl) (r_goto mt16 dX2_readHead_77 rfl)
theorem b16_80 {a0 : Nat} {x1 : Int32} {M : aM}  : run 3 16 80 [.ref a0, .int x1] [] M = run 3 16 81 [.ref a0, .int x1] [.int 0] M :=
  r_iconst (v := 0) mt16 dX2_readHead_80 rfl
theorem b16_81 {a0 : Nat} {x1 : Int32} {sx0 : Int32} {M : aM} (h1 : rtI (some .boolean) sx0 = true) : run 3 16 81 [.ref a0, .int x1] [.int sx0] M = some (some (.int sx0), M) :=
  r_iret mt16 dX2_readHead_81 h1
theorem b16_82 {a0 : Nat} {x1 : Int32} {M : aM} (h1 : mK M a0 = 2) : run 3 16 82 [.ref a0, .int x1] [] M = (call 18 [.ref a0, .int 0, .int 9] M).bind (fun r => run 3 16 89 [.ref a0, .int x1] (r.1.toList ++ []) r.2) :=
  Eq.trans (r_aload_n mt16 dX2_readHead_82 rfl) (Eq.trans (r_iconst (v := 0) mt16 dX2_readHead_83 rfl) (Eq.trans (r_bipush (v := 9) mt16 dX2_readHead_84 rfl) (r_cv (as := [.ref a0, .int 0, .int 9]) (rest := []) mt16 dX2_readHead_86 m2_93 (by decide) rfl rfl rfl h1 (Nat.le_of_ble_eq_true rfl) (Nat.le_of_ble_eq_true rfl) rfl (by decide) (Nat.le_of_ble_eq_true rfl))))
theorem b16_89 {a0 : Nat} {x1 : Int32} {sx0 : Int32} {M : aM}  : run 3 16 89 [.ref a0, .int x1] [.int sx0] M = if ¬ sx0 = 0 then run 3 16 94 [.ref a0, .int x1] [] M else run 3 16 92 [.ref a0, .int x1] [] M :=
  r_if_ne mt16 dX2_readHead_89 rfl
theorem b16_92 {a0 : Nat} {x1 : Int32} {M : aM}  : run 3 16 92 [.ref a0, .int x1] [] M = some (some (.int 0), M) :=
  Eq.trans (r_iconst (v := 0) mt16 dX2_readHead_92 rfl) (r_iret mt16 dX2_readHead_93 rfl)
theorem b16_94 {a0 : Nat} {x1 : Int32} {M : aM} (h1 : mK M a0 = 2) : run 3 16 94 [.ref a0, .int x1] [] M = (call 27 [.ref a0, .int 18] (wI M a0 8 (mI M a0 9))).bind (fun r => run 3 16 108 [.ref a0, .int x1] (r.1.toList ++ []) r.2) :=
  Eq.trans (r_aload_n mt16 dX2_readHead_94 rfl) (Eq.trans (r_aload_n mt16 dX2_readHead_95 rfl) (Eq.trans (r_geti mt16 dX2_readHead_96 f2_90 h1 (by decide) rfl) (Eq.trans (r_puti mt16 dX2_readHead_99 f2_87 h1 (by decide) (Or.inl rfl) rfl rfl) (Eq.trans (r_aload_n mt16 dX2_readHead_102 rfl) (Eq.trans (r_bipush (v := 18) mt16 dX2_readHead_103 rfl) (r_cv (as := [.ref a0, .int 18]) (rest := []) mt16 dX2_readHead_105 m2_60 (by decide) rfl rfl rfl h1 (Nat.le_of_ble_eq_true rfl) (Nat.le_of_ble_eq_true rfl) rfl (by decide) (Nat.le_of_ble_eq_true rfl)))))))
theorem b16_108 {a0 : Nat} {x1 : Int32} {sx0 : Int32} {M : aM}  : run 3 16 108 [.ref a0, .int x1] [.int sx0] M = if sx0 = 0 then run 3 16 126 [.ref a0, .int x1] [] M else run 3 16 111 [.ref a0, .int x1] [] M :=
  r_if_eq mt16 dX2_readHead_108 rfl
theorem b16_111 {a0 : Nat} {x1 : Int32} {M : aM} (h1 : mK M a0 = 2) : run 3 16 111 [.ref a0, .int x1] [] M = (call 18 [.ref a0, .int 1, .int 9999] M).bind (fun r => run 3 16 119 [.ref a0, .int x1] (r.1.toList ++ []) r.2) :=
  Eq.trans (r_aload_n mt16 dX2_readHead_111 rfl) (Eq.trans (r_iconst (v := 1) mt16 dX2_readHead_112 rfl) (Eq.trans (r_sipush (v := 9999) mt16 dX2_readHead_113 rfl) (r_cv (as := [.ref a0, .int 1, .int 9999]) (rest := []) mt16 dX2_readHead_116 m2_93 (by decide) rfl rfl rfl h1 (Nat.le_of_ble_eq_true rfl) (Nat.le_of_ble_eq_true rfl) rfl (by decide) (Nat.le_of_ble_eq_true rfl))))
theorem b16_119 {a0 : Nat} {x1 : Int32} {sx0 : Int32} {M : aM}  : run 3 16 119 [.ref a0, .int x1] [.int sx0] M = if sx0 = 0 then run 3 16 126 [.ref a0, .int x1] [] M else run 3 16 122 [.ref a0, .int x1] [] M :=
  r_if_eq mt16 dX2_readHead_119 rfl
theorem b16_122 {a0 : Nat} {x1 : Int32} {M : aM}  : run 3 16 122 [.ref a0, .int x1] [] M = run 3 16 127 [.ref a0, .int x1] [.int 1] M :=
  Eq.trans (r_iconst (v := 1) mt16 dX2_readHead_122 rfl) (r_goto mt16 dX2_readHead_123 rfl)
theorem b16_126 {a0 : Nat} {x1 : Int32} {M : aM}  : run 3 16 126 [.ref a0, .int x1] [] M = run 3 16 127 [.ref a0, .int x1] [.int 0] M :=
  r_iconst (v := 0) mt16 dX2_readHead_126 rfl
theorem b16_127 {a0 : Nat} {x1 : Int32} {sx0 : Int32} {M : aM} (h1 : rtI (some .boolean) sx0 = true) : run 3 16 127 [.ref a0, .int x1] [.int sx0] M = some (some (.int sx0), M) :=
  r_iret mt16 dX2_readHead_127 h1
theorem b16_128 {a0 : Nat} {x1 : Int32} {M : aM}  : run 3 16 128 [.ref a0, .int x1] [] M = some (some (.int 1), M) :=
  Eq.trans (r_iconst (v := 1) mt16 dX2_readHead_128 rfl) (r_iret mt16 dX2_readHead_129 rfl)
-- 17: X2_keepClause(I)V
theorem e17 {a0 : Nat} {x1 : Int32} {M : aM} : call 17 [.ref a0, .int x1] M = run 2 17 0 [.ref a0, .int x1, xU] [] M := rfl
theorem b17_0 {a0 : Nat} {x1 : Int32} {M : aM} (h1 : mK M a0 = 2) : run 2 17 0 [.ref a0, .int x1, xU] [] M = if ¬ 0 < (mI M a0 5) then run 2 17 30 [.ref a0, .int x1, .ref 0] [] M else run 2 17 9 [.ref a0, .int x1, .ref 0] [] M :=
  Eq.trans (r_null mt17 dX2_keepClause_0) (Eq.trans (r_astore_n (L' := [.ref a0, .int x1, .ref 0]) mt17 dX2_keepClause_1 (Nat.le_of_ble_eq_true rfl) rfl) (Eq.trans (r_aload_n mt17 dX2_keepClause_2 rfl) (Eq.trans (r_geti mt17 dX2_keepClause_3 f2_71 h1 (by decide) rfl) (r_if_le mt17 dX2_keepClause_6 rfl))))
theorem b17_9 {a0 : Nat} {x1 : Int32} {a2 : Nat} {M : aM} (h1 : mK M a0 = 2) (h2 : ¬ (mI M a0 5) < 0) (h3 : (mI M a0 5).toNatClampNeg * 8 ≤ 536870912) (h4 : mK (wN M 12 ((mI M a0 5).toNatClampNeg) ((mI M a0 5).toNatClampNeg)) a0 = 2) (h5 : mK (wN M 12 ((mI M a0 5).toNatClampNeg) ((mI M a0 5).toNatClampNeg)) (mR (wN M 12 ((mI M a0 5).toNatClampNeg) ((mI M a0 5).toNatClampNeg)) a0 1) = 12) (h6 : mK (wN M 12 ((mI M a0 5).toNatClampNeg) ((mI M a0 5).toNatClampNeg)) (mX M + 32) = 12) (h7 : ¬ (mI (wN M 12 ((mI M a0 5).toNatClampNeg) ((mI M a0 5).toNatClampNeg)) a0 5) < 0) (h8 : (0 : Int32).toNatClampNeg + (mI (wN M 12 ((mI M a0 5).toNatClampNeg) ((mI M a0 5).toNatClampNeg)) a0 5).toNatClampNeg ≤ mN (wN M 12 ((mI M a0 5).toNatClampNeg) ((mI M a0 5).toNatClampNeg)) (mR (wN M 12 ((mI M a0 5).toNatClampNeg) ((mI M a0 5).toNatClampNeg)) a0 1)) (h9 : (0 : Int32).toNatClampNeg + (mI (wN M 12 ((mI M a0 5).toNatClampNeg) ((mI M a0 5).toNatClampNeg)) a0 5).toNatClampNeg ≤ mN (wN M 12 ((mI M a0 5).toNatClampNeg) ((mI M a0 5).toNatClampNeg)) (mX M + 32)) : run 2 17 9 [.ref a0, .int x1, .ref a2] [] M = run 2 17 30 [.ref a0, .int x1, .ref (mX M + 32)] [] (wC (wN M 12 ((mI M a0 5).toNatClampNeg) ((mI M a0 5).toNatClampNeg)) (mR (wN M 12 ((mI M a0 5).toNatClampNeg) ((mI M a0 5).toNatClampNeg)) a0 1) (0 : Int32).toNatClampNeg (mX M + 32) (0 : Int32).toNatClampNeg (mI (wN M 12 ((mI M a0 5).toNatClampNeg) ((mI M a0 5).toNatClampNeg)) a0 5).toNatClampNeg) :=
  Eq.trans (r_aload_n mt17 dX2_keepClause_9 rfl) (Eq.trans (r_geti mt17 dX2_keepClause_10 f2_71 h1 (by decide) rfl) (Eq.trans (r_newa mt17 dX2_keepClause_13 rfl (by decide) h2 (N := (mI M a0 5).toNatClampNeg) rfl h3) (Eq.trans (r_astore_n (L' := [.ref a0, .int x1, .ref (mX M + 32)]) mt17 dX2_keepClause_15 (Nat.le_of_ble_eq_true rfl) rfl) (Eq.trans (r_aload_n mt17 dX2_keepClause_16 rfl) (Eq.trans (r_getr mt17 dX2_keepClause_17 f2_19 h4 (by decide) rfl) (Eq.trans (r_iconst (v := 0) mt17 dX2_keepClause_20 rfl) (Eq.trans (r_aload_n mt17 dX2_keepClause_21 rfl) (Eq.trans (r_iconst (v := 0) mt17 dX2_keepClause_22 rfl) (Eq.trans (r_aload_n mt17 dX2_keepClause_23 rfl) (Eq.trans (r_geti mt17 dX2_keepClause_24 f2_71 h4 (by decide) rfl) (r_copy mt17 dX2_keepClause_27 m2_100 (Nat.le_of_ble_eq_true rfl) h5 h6 (by decide) (by decide) h7 h8 h9)))))))))))
theorem b17_30 {a0 : Nat} {x1 : Int32} {a2 : Nat} {M : aM} (h1 : mK M a0 = 2) : run 2 17 30 [.ref a0, .int x1, .ref a2] [] M = if ¬ (mI M a0 4) < 14 then run 2 17 75 [.ref a0, .int x1, .ref a2] [] M else run 2 17 39 [.ref a0, .int x1, .ref a2] [] M :=
  Eq.trans (r_aload_n mt17 dX2_keepClause_30 rfl) (Eq.trans (r_geti mt17 dX2_keepClause_31 f2_37 h1 (by decide) rfl) (Eq.trans (r_bipush (v := 14) mt17 dX2_keepClause_34 rfl) (r_icmp_ge mt17 dX2_keepClause_36 rfl)))
theorem b17_39 {a0 : Nat} {x1 : Int32} {a2 : Nat} {M : aM} (h1 : mK M a0 = 2) (h2 : mK (wN M 0 0 4) a0 = 2) (h3 : mK (wN M 0 0 4) (mX M + 32) = 0) : run 2 17 39 [.ref a0, .int x1, .ref a2] [] M = (call 0 [.ref (mX M + 32), .int x1, .int (mI (wN M 0 0 4) a0 8), .int (mI (wN M 0 0 4) a0 9), .ref a2] (wN M 0 0 4)).bind (fun r => run 2 17 64 [.ref a0, .int x1, .ref a2] (r.1.toList ++ [.ref (mX M + 32), .int (mI M a0 4), .ref (mR M a0 0)]) r.2) :=
  Eq.trans (r_aload_n mt17 dX2_keepClause_39 rfl) (Eq.trans (r_getr mt17 dX2_keepClause_40 f2_13 h1 (by decide) rfl) (Eq.trans (r_aload_n mt17 dX2_keepClause_43 rfl) (Eq.trans (r_geti mt17 dX2_keepClause_44 f2_37 h1 (by decide) rfl) (Eq.trans (r_new mt17 dX2_keepClause_47 k2_11 (by decide)) (Eq.trans (r_dup mt17 dX2_keepClause_50 rfl) (Eq.trans (r_iload_n mt17 dX2_keepClause_51 rfl) (Eq.trans (r_aload_n mt17 dX2_keepClause_52 rfl) (Eq.trans (r_geti mt17 dX2_keepClause_53 f2_87 h2 (by decide) rfl) (Eq.trans (r_aload_n mt17 dX2_keepClause_56 rfl) (Eq.trans (r_geti mt17 dX2_keepClause_57 f2_90 h2 (by decide) rfl) (Eq.trans (r_aload_n mt17 dX2_keepClause_60 rfl) (r_ci (as := [.ref (mX M + 32), .int x1, .int (mI (wN M 0 0 4) a0 8), .int (mI (wN M 0 0 4) a0 9), .ref a2]) (rest := [.ref (mX M + 32), .int (mI M a0 4), .ref (mR M a0 0)]) mt17 dX2_keepClause_61 m2_106 (Or.inl rfl) rfl rfl rfl h3 (Nat.le_of_ble_eq_true rfl) (Nat.le_of_ble_eq_true rfl) rfl (by decide) (Nat.le_of_ble_eq_true rfl)))))))))))))
theorem b17_64 {a0 : Nat} {x1 : Int32} {a2 : Nat} {sa2 : Nat} {sx1 : Int32} {sa0 : Nat} {M : aM} (h1 : mK M sa0 = 16) (h2 : ib sx1 (mN M sa0)) (h3 : mK M sa2 = 0) (h4 : mK M a0 = 2) : run 2 17 64 [.ref a0, .int x1, .ref a2] [.ref sa2, .int sx1, .ref sa0] M = run 2 17 75 [.ref a0, .int x1, .ref a2] [] (wI (wR M sa0 (sx1).toNatClampNeg sa2) a0 4 ((mI M a0 4) + 1)) :=
  Eq.trans (r_aast mt17 dX2_keepClause_64 h1 (by decide) (by decide) h3 h2) (Eq.trans (r_aload_n mt17 dX2_keepClause_65 rfl) (Eq.trans (r_dup mt17 dX2_keepClause_66 rfl) (Eq.trans (r_geti mt17 dX2_keepClause_67 f2_37 h4 (by decide) rfl) (Eq.trans (r_iconst (v := 1) mt17 dX2_keepClause_70 rfl) (Eq.trans (r_iadd mt17 dX2_keepClause_71) (r_puti mt17 dX2_keepClause_72 f2_37 h4 (by decide) (Or.inl rfl) rfl rfl))))))
theorem b17_75 {a0 : Nat} {x1 : Int32} {a2 : Nat} {M : aM}  : run 2 17 75 [.ref a0, .int x1, .ref a2] [] M = some (none, M) :=
  r_vret mt17 dX2_keepClause_75 rfl
-- 18: X2_readNumber(II)Z
theorem e18 {a0 : Nat} {x1 : Int32} {x2 : Int32} {M : aM} : call 18 [.ref a0, .int x1, .int x2] M = run 2 18 0 [.ref a0, .int x1, .int x2] [] M := rfl
theorem b18_0 {a0 : Nat} {x1 : Int32} {x2 : Int32} {M : aM} (h1 : mK M a0 = 2) : run 2 18 0 [.ref a0, .int x1, .int x2] [] M = (call 24 [.ref a0] M).bind (fun r => run 2 18 4 [.ref a0, .int x1, .int x2] (r.1.toList ++ []) r.2) :=
  Eq.trans (r_aload_n mt18 dX2_readNumber_0 rfl) (r_cv (as := [.ref a0]) (rest := []) mt18 dX2_readNumber_1 m2_51 (by decide) rfl rfl rfl h1 (Nat.le_of_ble_eq_true rfl) (Nat.le_of_ble_eq_true rfl) rfl (by decide) (Nat.le_of_ble_eq_true rfl))
theorem b18_4 {a0 : Nat} {x1 : Int32} {x2 : Int32} {sx0 : Int32} {M : aM}  : run 2 18 4 [.ref a0, .int x1, .int x2] [.int sx0] M = if sx0 = 2 then run 2 18 14 [.ref a0, .int x1, .int x2] [] M else run 2 18 8 [.ref a0, .int x1, .int x2] [] M :=
  Eq.trans (r_iconst (v := 2) mt18 dX2_readNumber_4 rfl) (r_icmp_eq mt18 dX2_readNumber_5 rfl)
theorem b18_8 {a0 : Nat} {x1 : Int32} {x2 : Int32} {M : aM} (h1 : mK M a0 = 2) : run 2 18 8 [.ref a0, .int x1, .int x2] [] M = (call 28 [.ref a0, .int 0] M).bind (fun r => run 2 18 13 [.ref a0, .int x1, .int x2] (r.1.toList ++ []) r.2) :=
  Eq.trans (r_aload_n mt18 dX2_readNumber_8 rfl) (Eq.trans (r_iconst (v := 0) mt18 dX2_readNumber_9 rfl) (r_cv (as := [.ref a0, .int 0]) (rest := []) mt18 dX2_readNumber_10 m2_68 (by decide) rfl rfl rfl h1 (Nat.le_of_ble_eq_true rfl) (Nat.le_of_ble_eq_true rfl) rfl (by decide) (Nat.le_of_ble_eq_true rfl)))
theorem b18_13 {a0 : Nat} {x1 : Int32} {x2 : Int32} {sx0 : Int32} {M : aM} (h1 : rtI (some .boolean) sx0 = true) : run 2 18 13 [.ref a0, .int x1, .int x2] [.int sx0] M = some (some (.int sx0), M) :=
  r_iret mt18 dX2_readNumber_13 h1
theorem b18_14 {a0 : Nat} {x1 : Int32} {x2 : Int32} {M : aM} (h1 : mK M a0 = 2) : run 2 18 14 [.ref a0, .int x1, .int x2] [] M = (call 25 [.ref a0] M).bind (fun r => run 2 18 18 [.ref a0, .int x1, .int x2] (r.1.toList ++ []) r.2) :=
  Eq.trans (r_aload_n mt18 dX2_readNumber_14 rfl) (r_cv (as := [.ref a0]) (rest := []) mt18 dX2_readNumber_15 m2_97 (by decide) rfl rfl rfl h1 (Nat.le_of_ble_eq_true rfl) (Nat.le_of_ble_eq_true rfl) rfl (by decide) (Nat.le_of_ble_eq_true rfl))
theorem b18_18 {a0 : Nat} {x1 : Int32} {x2 : Int32} {sx0 : Int32} {M : aM}  : run 2 18 18 [.ref a0, .int x1, .int x2] [.int sx0] M = (call 139 [.int sx0, .int x1, .int x2] M).bind (fun r => run 2 18 23 [.ref a0, .int x1, .int x2] (r.1.toList ++ []) r.2) :=
  Eq.trans (r_iload_n mt18 dX2_readNumber_18 rfl) (Eq.trans (r_iload_n mt18 dX2_readNumber_19 rfl) (r_cs (as := [.int sx0, .int x1, .int x2]) (rest := []) mt18 dX2_readNumber_20 m2_109 (Or.inr rfl) rfl rfl (Nat.le_of_ble_eq_true rfl) (Nat.le_of_ble_eq_true rfl) rfl (by decide) (Nat.le_of_ble_eq_true rfl)))
theorem b18_23 {a0 : Nat} {x1 : Int32} {x2 : Int32} {sx0 : Int32} {M : aM}  : run 2 18 23 [.ref a0, .int x1, .int x2] [.int sx0] M = if ¬ sx0 = 0 then run 2 18 32 [.ref a0, .int x1, .int x2] [] M else run 2 18 26 [.ref a0, .int x1, .int x2] [] M :=
  r_if_ne mt18 dX2_readNumber_23 rfl
theorem b18_26 {a0 : Nat} {x1 : Int32} {x2 : Int32} {M : aM} (h1 : mK M a0 = 2) : run 2 18 26 [.ref a0, .int x1, .int x2] [] M = (call 28 [.ref a0, .int 1] M).bind (fun r => run 2 18 31 [.ref a0, .int x1, .int x2] (r.1.toList ++ []) r.2) :=
  Eq.trans (r_aload_n mt18 dX2_readNumber_26 rfl) (Eq.trans (r_iconst (v := 1) mt18 dX2_readNumber_27 rfl) (r_cv (as := [.ref a0, .int 1]) (rest := []) mt18 dX2_readNumber_28 m2_68 (by decide) rfl rfl rfl h1 (Nat.le_of_ble_eq_true rfl) (Nat.le_of_ble_eq_true rfl) rfl (by decide) (Nat.le_of_ble_eq_true rfl)))
theorem b18_31 {a0 : Nat} {x1 : Int32} {x2 : Int32} {sx0 : Int32} {M : aM} (h1 : rtI (some .boolean) sx0 = true) : run 2 18 31 [.ref a0, .int x1, .int x2] [.int sx0] M = some (some (.int sx0), M) :=
  r_iret mt18 dX2_readNumber_31 h1
theorem b18_32 {a0 : Nat} {x1 : Int32} {x2 : Int32} {M : aM} (h1 : mK M a0 = 2) : run 2 18 32 [.ref a0, .int x1, .int x2] [] M = (call 25 [.ref a0] M).bind (fun r => run 2 18 37 [.ref a0, .int x1, .int x2] (r.1.toList ++ [.ref a0]) r.2) :=
  Eq.trans (r_aload_n mt18 dX2_readNumber_32 rfl) (Eq.trans (r_aload_n mt18 dX2_readNumber_33 rfl) (r_cv (as := [.ref a0]) (rest := [.ref a0]) mt18 dX2_readNumber_34 m2_97 (by decide) rfl rfl rfl h1 (Nat.le_of_ble_eq_true rfl) (Nat.le_of_ble_eq_true rfl) rfl (by decide) (Nat.le_of_ble_eq_true rfl)))
theorem b18_37 {a0 : Nat} {x1 : Int32} {x2 : Int32} {sx1 : Int32} {sa0 : Nat} {M : aM} (h1 : mK M sa0 = 2) (h2 : mK M a0 = 2) : run 2 18 37 [.ref a0, .int x1, .int x2] [.int sx1, .ref sa0] M = some (some (.int 1), wI (wI M sa0 9 sx1) a0 3 ((mI (wI M sa0 9 sx1) a0 3) + 1)) :=
  Eq.trans (r_puti mt18 dX2_readNumber_37 f2_90 h1 (by decide) (Or.inl rfl) rfl rfl) (Eq.trans (r_aload_n mt18 dX2_readNumber_40 rfl) (Eq.trans (r_dup mt18 dX2_readNumber_41 rfl) (Eq.trans (r_geti mt18 dX2_readNumber_42 f2_34 h2 (by decide) rfl) (Eq.trans (r_iconst (v := 1) mt18 dX2_readNumber_45 rfl) (Eq.trans (r_iadd mt18 dX2_readNumber_46) (Eq.trans (r_puti mt18 dX2_readNumber_47 f2_34 h2 (by decide) (Or.inl rfl) rfl rfl) (Eq.trans (r_iconst (v := 1) mt18 dX2_readNumber_50 rfl) (r_iret mt18 dX2_readNumber_51 rfl))))))))
-- 19: X2_readTest(I)Z
theorem e19 {a0 : Nat} {x1 : Int32} {M : aM} : call 19 [.ref a0, .int x1] M = run (rk 19 [.ref a0, .int x1]) 19 0 [.ref a0, .int x1, xU, xU, xU] [] M := rfl
theorem b19_0 {a0 : Nat} {x1 : Int32} {n : Nat} {M : aM}  : run n 19 0 [.ref a0, .int x1, xU, xU, xU] [] M = run n 19 7 [.ref a0, .int x1, .int 0, .int 0, .int 0] [] M :=
  Eq.trans (r_iconst (v := 0) mt19 dX2_readTest_0 rfl) (Eq.trans (r_istore_n (L' := [.ref a0, .int x1, .int 0, xU, xU]) mt19 dX2_readTest_1 (Nat.le_of_ble_eq_true rfl) rfl) (Eq.trans (r_iconst (v := 0) mt19 dX2_readTest_2 rfl) (Eq.trans (r_istore_n (L' := [.ref a0, .int x1, .int 0, .int 0, xU]) mt19 dX2_readTest_3 (Nat.le_of_ble_eq_true rfl) rfl) (Eq.trans (r_iconst (v := 0) mt19 dX2_readTest_4 rfl) (r_istore (L' := [.ref a0, .int x1, .int 0, .int 0, .int 0]) mt19 dX2_readTest_5 (Nat.le_of_ble_eq_true rfl) rfl)))))
theorem b19_7 {a0 : Nat} {x1 : Int32} {x2 : Int32} {x3 : Int32} {x4 : Int32} {n : Nat} {M : aM}  : run n 19 7 [.ref a0, .int x1, .int x2, .int x3, .int x4] [] M = if ¬ x4 < 400 then run n 19 78 [.ref a0, .int x1, .int x2, .int x3, .int x4] [] M else run n 19 15 [.ref a0, .int x1, .int x2, .int x3, .int x4] [] M :=
  Eq.trans (r_iload mt19 dX2_readTest_7 rfl) (Eq.trans (r_sipush (v := 400) mt19 dX2_readTest_9 rfl) (r_icmp_ge mt19 dX2_readTest_12 rfl))
theorem b19_15 {a0 : Nat} {x1 : Int32} {x2 : Int32} {x3 : Int32} {x4 : Int32} {n : Nat} {M : aM} (h1 : rk 20 [.ref a0, .int x1] < n) (h2 : mK M a0 = 2) : run n 19 15 [.ref a0, .int x1, .int x2, .int x3, .int x4] [] M = (call 20 [.ref a0, .int x1] M).bind (fun r => run n 19 20 [.ref a0, .int x1, .int x2, .int x3, .int x4] (r.1.toList ++ []) r.2) :=
  Eq.trans (r_aload_n mt19 dX2_readTest_15 rfl) (Eq.trans (r_iload_n mt19 dX2_readTest_16 rfl) (r_cv (as := [.ref a0, .int x1]) (rest := []) mt19 dX2_readTest_17 m2_113 (by decide) rfl rfl rfl h2 (Nat.le_of_ble_eq_true rfl) (Nat.le_of_ble_eq_true rfl) rfl (by decide) h1))
theorem b19_20 {a0 : Nat} {x1 : Int32} {x2 : Int32} {x3 : Int32} {x4 : Int32} {sx0 : Int32} {n : Nat} {M : aM}  : run n 19 20 [.ref a0, .int x1, .int x2, .int x3, .int x4] [.int sx0] M = if ¬ sx0 = 0 then run n 19 25 [.ref a0, .int x1, .int x2, .int x3, .int x4] [] M else run n 19 23 [.ref a0, .int x1, .int x2, .int x3, .int x4] [] M :=
  r_if_ne mt19 dX2_readTest_20 rfl
theorem b19_23 {a0 : Nat} {x1 : Int32} {x2 : Int32} {x3 : Int32} {x4 : Int32} {n : Nat} {M : aM}  : run n 19 23 [.ref a0, .int x1, .int x2, .int x3, .int x4] [] M = some (some (.int 0), M) :=
  Eq.trans (r_iconst (v := 0) mt19 dX2_readTest_23 rfl) (r_iret mt19 dX2_readTest_24 rfl)
theorem b19_25 {a0 : Nat} {x1 : Int32} {x2 : Int32} {x3 : Int32} {x4 : Int32} {n : Nat} {M : aM}  : run n 19 25 [.ref a0, .int x1, .int x2, .int x3, .int x4] [] M = if x2 = 0 then run n 19 35 [.ref a0, .int x1, .int x2, .int x3, .int x4] [] M else run n 19 29 [.ref a0, .int x1, .int x2, .int x3, .int x4] [] M :=
  Eq.trans (r_iload_n mt19 dX2_readTest_25 rfl) (r_if_eq mt19 dX2_readTest_26 rfl)
theorem b19_29 {a0 : Nat} {x1 : Int32} {x2 : Int32} {x3 : Int32} {x4 : Int32} {n : Nat} {M : aM} (h1 : rk 23 [.ref a0, .int (-21)] < n) (h2 : 1 < n) (h3 : mK M a0 = 2) : run n 19 29 [.ref a0, .int x1, .int x2, .int x3, .int x4] [] M = (call 23 [.ref a0, .int (-21)] M).bind (fun r => run n 19 35 [.ref a0, .int x1, .int x2, .int x3, .int x4] (r.1.toList ++ []) r.2) :=
  Eq.trans (r_aload_n mt19 dX2_readTest_29 rfl) (Eq.trans (r_bipush (v := -21) mt19 dX2_readTest_30 rfl) (r_cv (as := [.ref a0, .int (-21)]) (rest := []) mt19 dX2_readTest_32 m2_116 (by decide) rfl rfl rfl h3 (Nat.le_of_ble_eq_true rfl) (Nat.le_of_ble_eq_true rfl) rfl (by decide) h2))
theorem b19_35 {a0 : Nat} {x1 : Int32} {x2 : Int32} {x3 : Int32} {x4 : Int32} {n : Nat} {M : aM} (h1 : rk 26 [.ref a0, .int 21] < n) (h2 : 2 < n) (h3 : mK M a0 = 2) : run n 19 35 [.ref a0, .int x1, .int x2, .int x3, .int x4] [] M = (call 26 [.ref a0, .int 21] M).bind (fun r => run n 19 41 [.ref a0, .int x1, .int x2, .int x3, .int x4] (r.1.toList ++ []) r.2) :=
  Eq.trans (r_aload_n mt19 dX2_readTest_35 rfl) (Eq.trans (r_bipush (v := 21) mt19 dX2_readTest_36 rfl) (r_cv (as := [.ref a0, .int 21]) (rest := []) mt19 dX2_readTest_38 m2_77 (by decide) rfl rfl rfl h3 (Nat.le_of_ble_eq_true rfl) (Nat.le_of_ble_eq_true rfl) rfl (by decide) h2))
theorem b19_41 {a0 : Nat} {x1 : Int32} {x2 : Int32} {x3 : Int32} {x4 : Int32} {sx0 : Int32} {n : Nat} {M : aM}  : run n 19 41 [.ref a0, .int x1, .int x2, .int x3, .int x4] [.int sx0] M = if sx0 = 0 then run n 19 49 [.ref a0, .int x1, .int sx0, .int x3, .int x4] [] M else run n 19 46 [.ref a0, .int x1, .int sx0, .int x3, .int x4] [] M :=
  Eq.trans (r_istore_n (L' := [.ref a0, .int x1, .int sx0, .int x3, .int x4]) mt19 dX2_readTest_41 (Nat.le_of_ble_eq_true rfl) rfl) (Eq.trans (r_iload_n mt19 dX2_readTest_42 rfl) (r_if_eq mt19 dX2_readTest_43 rfl))
theorem b19_46 {a0 : Nat} {x1 : Int32} {x2 : Int32} {x3 : Int32} {x4 : Int32} {n : Nat} {M : aM}  : run n 19 46 [.ref a0, .int x1, .int x2, .int x3, .int x4] [] M = run n 19 72 [.ref a0, .int x1, .int x2, .int x3, .int x4] [] M :=
  r_goto mt19 dX2_readTest_46 rfl
theorem b19_49 {a0 : Nat} {x1 : Int32} {x2 : Int32} {x3 : Int32} {x4 : Int32} {n : Nat} {M : aM}  : run n 19 49 [.ref a0, .int x1, .int x2, .int x3, .int x4] [] M = if x3 = 0 then run n 19 59 [.ref a0, .int x1, .int x2, .int x3, .int x4] [] M else run n 19 53 [.ref a0, .int x1, .int x2, .int x3, .int x4] [] M :=
  Eq.trans (r_iload_n mt19 dX2_readTest_49 rfl) (r_if_eq mt19 dX2_readTest_50 rfl)
theorem b19_53 {a0 : Nat} {x1 : Int32} {x2 : Int32} {x3 : Int32} {x4 : Int32} {n : Nat} {M : aM} (h1 : rk 23 [.ref a0, .int (-22)] < n) (h2 : 1 < n) (h3 : mK M a0 = 2) : run n 19 53 [.ref a0, .int x1, .int x2, .int x3, .int x4] [] M = (call 23 [.ref a0, .int (-22)] M).bind (fun r => run n 19 59 [.ref a0, .int x1, .int x2, .int x3, .int x4] (r.1.toList ++ []) r.2) :=
  Eq.trans (r_aload_n mt19 dX2_readTest_53 rfl) (Eq.trans (r_bipush (v := -22) mt19 dX2_readTest_54 rfl) (r_cv (as := [.ref a0, .int (-22)]) (rest := []) mt19 dX2_readTest_56 m2_116 (by decide) rfl rfl rfl h3 (Nat.le_of_ble_eq_true rfl) (Nat.le_of_ble_eq_true rfl) rfl (by decide) h2))
theorem b19_59 {a0 : Nat} {x1 : Int32} {x2 : Int32} {x3 : Int32} {x4 : Int32} {n : Nat} {M : aM} (h1 : rk 26 [.ref a0, .int 22] < n) (h2 : 2 < n) (h3 : mK M a0 = 2) : run n 19 59 [.ref a0, .int x1, .int x2, .int x3, .int x4] [] M = (call 26 [.ref a0, .int 22] M).bind (fun r => run n 19 65 [.ref a0, .int x1, .int x2, .int x3, .int x4] (r.1.toList ++ []) r.2) :=
  Eq.trans (r_aload_n mt19 dX2_readTest_59 rfl) (Eq.trans (r_bipush (v := 22) mt19 dX2_readTest_60 rfl) (r_cv (as := [.ref a0, .int 22]) (rest := []) mt19 dX2_readTest_62 m2_77 (by decide) rfl rfl rfl h3 (Nat.le_of_ble_eq_true rfl) (Nat.le_of_ble_eq_true rfl) rfl (by decide) h2))
theorem b19_65 {a0 : Nat} {x1 : Int32} {x2 : Int32} {x3 : Int32} {x4 : Int32} {sx0 : Int32} {n : Nat} {M : aM}  : run n 19 65 [.ref a0, .int x1, .int x2, .int x3, .int x4] [.int sx0] M = if ¬ sx0 = 0 then run n 19 72 [.ref a0, .int x1, .int x2, .int sx0, .int x4] [] M else run n 19 70 [.ref a0, .int x1, .int x2, .int sx0, .int x4] [] M :=
  Eq.trans (r_istore_n (L' := [.ref a0, .int x1, .int x2, .int sx0, .int x4]) mt19 dX2_readTest_65 (Nat.le_of_ble_eq_true rfl) rfl) (Eq.trans (r_iload_n mt19 dX2_readTest_66 rfl) (r_if_ne mt19 dX2_readTest_67 rfl))
theorem b19_70 {a0 : Nat} {x1 : Int32} {x2 : Int32} {x3 : Int32} {x4 : Int32} {n : Nat} {M : aM}  : run n 19 70 [.ref a0, .int x1, .int x2, .int x3, .int x4] [] M = some (some (.int 1), M) :=
  Eq.trans (r_iconst (v := 1) mt19 dX2_readTest_70 rfl) (r_iret mt19 dX2_readTest_71 rfl)
theorem b19_72 {a0 : Nat} {x1 : Int32} {x2 : Int32} {x3 : Int32} {x4 : Int32} {n : Nat} {M : aM}  : run n 19 72 [.ref a0, .int x1, .int x2, .int x3, .int x4] [] M = run n 19 7 [.ref a0, .int x1, .int x2, .int x3, .int (x4 + 1)] [] M :=
  Eq.trans (r_iinc (v := 1) (L' := [.ref a0, .int x1, .int x2, .int x3, .int (x4 + 1)]) mt19 dX2_readTest_72 rfl rfl rfl) (r_goto mt19 dX2_readTest_75 rfl)
theorem b19_78 {a0 : Nat} {x1 : Int32} {x2 : Int32} {x3 : Int32} {x4 : Int32} {n : Nat} {M : aM} (h1 : rk 28 [.ref a0, .int 0] < n) (h2 : 1 < n) (h3 : mK M a0 = 2) : run n 19 78 [.ref a0, .int x1, .int x2, .int x3, .int x4] [] M = (call 28 [.ref a0, .int 0] M).bind (fun r => run n 19 83 [.ref a0, .int x1, .int x2, .int x3, .int x4] (r.1.toList ++ []) r.2) :=
  Eq.trans (r_aload_n mt19 dX2_readTest_78 rfl) (Eq.trans (r_iconst (v := 0) mt19 dX2_readTest_79 rfl) (r_cv (as := [.ref a0, .int 0]) (rest := []) mt19 dX2_readTest_80 m2_68 (by decide) rfl rfl rfl h3 (Nat.le_of_ble_eq_true rfl) (Nat.le_of_ble_eq_true rfl) rfl (by decide) h2))
theorem b19_83 {a0 : Nat} {x1 : Int32} {x2 : Int32} {x3 : Int32} {x4 : Int32} {sx0 : Int32} {n : Nat} {M : aM} (h1 : rtI (some .boolean) sx0 = true) : run n 19 83 [.ref a0, .int x1, .int x2, .int x3, .int x4] [.int sx0] M = some (some (.int sx0), M) :=
  r_iret mt19 dX2_readTest_83 h1
-- 20: X2_readFact(I)Z
theorem e20 {a0 : Nat} {x1 : Int32} {M : aM} : call 20 [.ref a0, .int x1] M = run (rk 20 [.ref a0, .int x1]) 20 0 [.ref a0, .int x1, xU] [] M := rfl
theorem b20_0 {a0 : Nat} {x1 : Int32} {n : Nat} {M : aM} (h1 : rk 24 [.ref a0] < n) (h2 : 1 < n) (h3 : mK M a0 = 2) : run n 20 0 [.ref a0, .int x1, xU] [] M = (call 24 [.ref a0] M).bind (fun r => run n 20 4 [.ref a0, .int x1, xU] (r.1.toList ++ []) r.2) :=
  Eq.trans (r_aload_n mt20 dX2_readFact_0 rfl) (r_cv (as := [.ref a0]) (rest := []) mt20 dX2_readFact_1 m2_51 (by decide) rfl rfl rfl h3 (Nat.le_of_ble_eq_true rfl) (Nat.le_of_ble_eq_true rfl) rfl (by decide) h2)
theorem b20_4 {a0 : Nat} {x1 : Int32} {sx0 : Int32} {n : Nat} {M : aM}  : run n 20 4 [.ref a0, .int x1, xU] [.int sx0] M = if sx0 = 5 then run n 20 21 [.ref a0, .int x1, .int sx0] [] M else run n 20 10 [.ref a0, .int x1, .int sx0] [] M :=
  Eq.trans (r_istore_n (L' := [.ref a0, .int x1, .int sx0]) mt20 dX2_readFact_4 (Nat.le_of_ble_eq_true rfl) rfl) (Eq.trans (r_iload_n mt20 dX2_readFact_5 rfl) (Eq.trans (r_iconst (v := 5) mt20 dX2_readFact_6 rfl) (r_icmp_eq mt20 dX2_readFact_7 rfl)))
theorem b20_10 {a0 : Nat} {x1 : Int32} {x2 : Int32} {n : Nat} {M : aM}  : run n 20 10 [.ref a0, .int x1, .int x2] [] M = if x2 = 20 then run n 20 21 [.ref a0, .int x1, .int x2] [] M else run n 20 16 [.ref a0, .int x1, .int x2] [] M :=
  Eq.trans (r_iload_n mt20 dX2_readFact_10 rfl) (Eq.trans (r_bipush (v := 20) mt20 dX2_readFact_11 rfl) (r_icmp_eq mt20 dX2_readFact_13 rfl))
theorem b20_16 {a0 : Nat} {x1 : Int32} {x2 : Int32} {n : Nat} {M : aM} (h1 : rk 21 [.ref a0] < n) (h2 : 3 < n) (h3 : mK M a0 = 2) : run n 20 16 [.ref a0, .int x1, .int x2] [] M = (call 21 [.ref a0] M).bind (fun r => run n 20 20 [.ref a0, .int x1, .int x2] (r.1.toList ++ []) r.2) :=
  Eq.trans (r_aload_n mt20 dX2_readFact_16 rfl) (r_cv (as := [.ref a0]) (rest := []) mt20 dX2_readFact_17 m2_119 (by decide) rfl rfl rfl h3 (Nat.le_of_ble_eq_true rfl) (Nat.le_of_ble_eq_true rfl) rfl (by decide) h2)
theorem b20_20 {a0 : Nat} {x1 : Int32} {x2 : Int32} {sx0 : Int32} {n : Nat} {M : aM} (h1 : rtI (some .boolean) sx0 = true) : run n 20 20 [.ref a0, .int x1, .int x2] [.int sx0] M = some (some (.int sx0), M) :=
  r_iret mt20 dX2_readFact_20 h1
theorem b20_21 {a0 : Nat} {x1 : Int32} {x2 : Int32} {n : Nat} {M : aM}  : run n 20 21 [.ref a0, .int x1, .int x2] [] M = if x1 < 10 then run n 20 33 [.ref a0, .int x1, .int x2] [] M else run n 20 27 [.ref a0, .int x1, .int x2] [] M :=
  Eq.trans (r_iload_n mt20 dX2_readFact_21 rfl) (Eq.trans (r_bipush (v := 10) mt20 dX2_readFact_22 rfl) (r_icmp_lt mt20 dX2_readFact_24 rfl))
theorem b20_27 {a0 : Nat} {x1 : Int32} {x2 : Int32} {n : Nat} {M : aM} (h1 : rk 28 [.ref a0, .int 2] < n) (h2 : 1 < n) (h3 : mK M a0 = 2) : run n 20 27 [.ref a0, .int x1, .int x2] [] M = (call 28 [.ref a0, .int 2] M).bind (fun r => run n 20 32 [.ref a0, .int x1, .int x2] (r.1.toList ++ []) r.2) :=
  Eq.trans (r_aload_n mt20 dX2_readFact_27 rfl) (Eq.trans (r_iconst (v := 2) mt20 dX2_readFact_28 rfl) (r_cv (as := [.ref a0, .int 2]) (rest := []) mt20 dX2_readFact_29 m2_68 (by decide) rfl rfl rfl h3 (Nat.le_of_ble_eq_true rfl) (Nat.le_of_ble_eq_true rfl) rfl (by decide) h2))
theorem b20_32 {a0 : Nat} {x1 : Int32} {x2 : Int32} {sx0 : Int32} {n : Nat} {M : aM} (h1 : rtI (some .boolean) sx0 = true) : run n 20 32 [.ref a0, .int x1, .int x2] [.int sx0] M = some (some (.int sx0), M) :=
  r_iret mt20 dX2_readFact_32 h1
theorem b20_33 {a0 : Nat} {x1 : Int32} {x2 : Int32} {n : Nat} {M : aM} (h1 : mK M a0 = 2) : run n 20 33 [.ref a0, .int x1, .int x2] [] M = if ¬ x2 = 5 then run n 20 73 [.ref a0, .int x1, .int x2] [] (wI M a0 3 ((mI M a0 3) + 1)) else run n 20 48 [.ref a0, .int x1, .int x2] [] (wI M a0 3 ((mI M a0 3) + 1)) :=
  Eq.trans (r_aload_n mt20 dX2_readFact_33 rfl) (Eq.trans (r_dup mt20 dX2_readFact_34 rfl) (Eq.trans (r_geti mt20 dX2_readFact_35 f2_34 h1 (by decide) rfl) (Eq.trans (r_iconst (v := 1) mt20 dX2_readFact_38 rfl) (Eq.trans (r_iadd mt20 dX2_readFact_39) (Eq.trans (r_puti mt20 dX2_readFact_40 f2_34 h1 (by decide) (Or.inl rfl) rfl rfl) (Eq.trans (r_iload_n mt20 dX2_readFact_43 rfl) (Eq.trans (r_iconst (v := 5) mt20 dX2_readFact_44 rfl) (r_icmp_ne mt20 dX2_readFact_45 rfl))))))))
theorem b20_48 {a0 : Nat} {x1 : Int32} {x2 : Int32} {n : Nat} {M : aM} (h1 : rk 19 [.ref a0, .int (x1 + 1)] < n) (h2 : mK M a0 = 2) : run n 20 48 [.ref a0, .int x1, .int x2] [] M = (call 19 [.ref a0, .int (x1 + 1)] M).bind (fun r => run n 20 55 [.ref a0, .int x1, .int x2] (r.1.toList ++ []) r.2) :=
  Eq.trans (r_aload_n mt20 dX2_readFact_48 rfl) (Eq.trans (r_iload_n mt20 dX2_readFact_49 rfl) (Eq.trans (r_iconst (v := 1) mt20 dX2_readFact_50 rfl) (Eq.trans (r_iadd mt20 dX2_readFact_51) (r_cv (as := [.ref a0, .int (x1 + 1)]) (rest := []) mt20 dX2_readFact_52 m2_80 (by decide) rfl rfl rfl h2 (Nat.le_of_ble_eq_true rfl) (Nat.le_of_ble_eq_true rfl) rfl (by decide) h1))))
theorem b20_55 {a0 : Nat} {x1 : Int32} {x2 : Int32} {sx0 : Int32} {n : Nat} {M : aM}  : run n 20 55 [.ref a0, .int x1, .int x2] [.int sx0] M = if sx0 = 0 then run n 20 71 [.ref a0, .int x1, .int x2] [] M else run n 20 58 [.ref a0, .int x1, .int x2] [] M :=
  r_if_eq mt20 dX2_readFact_55 rfl
theorem b20_58 {a0 : Nat} {x1 : Int32} {x2 : Int32} {n : Nat} {M : aM} (h1 : rk 27 [.ref a0, .int 6] < n) (h2 : 2 < n) (h3 : mK M a0 = 2) : run n 20 58 [.ref a0, .int x1, .int x2] [] M = (call 27 [.ref a0, .int 6] M).bind (fun r => run n 20 64 [.ref a0, .int x1, .int x2] (r.1.toList ++ []) r.2) :=
  Eq.trans (r_aload_n mt20 dX2_readFact_58 rfl) (Eq.trans (r_bipush (v := 6) mt20 dX2_readFact_59 rfl) (r_cv (as := [.ref a0, .int 6]) (rest := []) mt20 dX2_readFact_61 m2_60 (by decide) rfl rfl rfl h3 (Nat.le_of_ble_eq_true rfl) (Nat.le_of_ble_eq_true rfl) rfl (by decide) h2))
theorem b20_64 {a0 : Nat} {x1 : Int32} {x2 : Int32} {sx0 : Int32} {n : Nat} {M : aM}  : run n 20 64 [.ref a0, .int x1, .int x2] [.int sx0] M = if sx0 = 0 then run n 20 71 [.ref a0, .int x1, .int x2] [] M else run n 20 67 [.ref a0, .int x1, .int x2] [] M :=
  r_if_eq mt20 dX2_readFact_64 rfl
theorem b20_67 {a0 : Nat} {x1 : Int32} {x2 : Int32} {n : Nat} {M : aM}  : run n 20 67 [.ref a0, .int x1, .int x2] [] M = run n 20 72 [.ref a0, .int x1, .int x2] [.int 1] M :=
  Eq.trans (r_iconst (v := 1) mt20 dX2_readFact_67 rfl) (r_goto mt20 dX2_readFact_68 rfl)
theorem b20_71 {a0 : Nat} {x1 : Int32} {x2 : Int32} {n : Nat} {M : aM}  : run n 20 71 [.ref a0, .int x1, .int x2] [] M = run n 20 72 [.ref a0, .int x1, .int x2] [.int 0] M :=
  r_iconst (v := 0) mt20 dX2_readFact_71 rfl
theorem b20_72 {a0 : Nat} {x1 : Int32} {x2 : Int32} {sx0 : Int32} {n : Nat} {M : aM} (h1 : rtI (some .boolean) sx0 = true) : run n 20 72 [.ref a0, .int x1, .int x2] [.int sx0] M = some (some (.int sx0), M) :=
  r_iret mt20 dX2_readFact_72 h1
theorem b20_73 {a0 : Nat} {x1 : Int32} {x2 : Int32} {n : Nat} {M : aM} (h1 : rk 20 [.ref a0, .int (x1 + 1)] < n) (h2 : mK M a0 = 2) : run n 20 73 [.ref a0, .int x1, .int x2] [] M = (call 20 [.ref a0, .int (x1 + 1)] M).bind (fun r => run n 20 80 [.ref a0, .int x1, .int x2] (r.1.toList ++ []) r.2) :=
  Eq.trans (r_aload_n mt20 dX2_readFact_73 rfl) (Eq.trans (r_iload_n mt20 dX2_readFact_74 rfl) (Eq.trans (r_iconst (v := 1) mt20 dX2_readFact_75 rfl) (Eq.trans (r_iadd mt20 dX2_readFact_76) (r_cv (as := [.ref a0, .int (x1 + 1)]) (rest := []) mt20 dX2_readFact_77 m2_113 (by decide) rfl rfl rfl h2 (Nat.le_of_ble_eq_true rfl) (Nat.le_of_ble_eq_true rfl) rfl (by decide) h1))))
theorem b20_80 {a0 : Nat} {x1 : Int32} {x2 : Int32} {sx0 : Int32} {n : Nat} {M : aM}  : run n 20 80 [.ref a0, .int x1, .int x2] [.int sx0] M = if ¬ sx0 = 0 then run n 20 85 [.ref a0, .int x1, .int x2] [] M else run n 20 83 [.ref a0, .int x1, .int x2] [] M :=
  r_if_ne mt20 dX2_readFact_80 rfl
theorem b20_83 {a0 : Nat} {x1 : Int32} {x2 : Int32} {n : Nat} {M : aM}  : run n 20 83 [.ref a0, .int x1, .int x2] [] M = some (some (.int 0), M) :=
  Eq.trans (r_iconst (v := 0) mt20 dX2_readFact_83 rfl) (r_iret mt20 dX2_readFact_84 rfl)
theorem b20_85 {a0 : Nat} {x1 : Int32} {x2 : Int32} {n : Nat} {M : aM} (h1 : rk 23 [.ref a0, .int (-20)] < n) (h2 : 1 < n) (h3 : mK M a0 = 2) : run n 20 85 [.ref a0, .int x1, .int x2] [] M = (call 23 [.ref a0, .int (-20)] M).bind (fun r => run n 20 91 [.ref a0, .int x1, .int x2] (r.1.toList ++ []) r.2) :=
  Eq.trans (r_aload_n mt20 dX2_readFact_85 rfl) (Eq.trans (r_bipush (v := -20) mt20 dX2_readFact_86 rfl) (r_cv (as := [.ref a0, .int (-20)]) (rest := []) mt20 dX2_readFact_88 m2_116 (by decide) rfl rfl rfl h3 (Nat.le_of_ble_eq_true rfl) (Nat.le_of_ble_eq_true rfl) rfl (by decide) h2))
theorem b20_91 {a0 : Nat} {x1 : Int32} {x2 : Int32} {n : Nat} {M : aM}  : run n 20 91 [.ref a0, .int x1, .int x2] [] M = some (some (.int 1), M) :=
  Eq.trans (r_iconst (v := 1) mt20 dX2_readFact_91 rfl) (r_iret mt20 dX2_readFact_92 rfl)
-- 21: X2_readComparison()Z
theorem e21 {a0 : Nat} {M : aM} : call 21 [.ref a0] M = run 3 21 0 [.ref a0, xU, xU, xU] [] M := rfl
theorem b21_0 {a0 : Nat} {M : aM}  : run 3 21 0 [.ref a0, xU, xU, xU] [] M = run 3 21 6 [.ref a0, .int (-1), .int (-1), .int 0] [] M :=
  Eq.trans (r_iconst (v := -1) mt21 dX2_readComparison_0 rfl) (Eq.trans (r_istore_n (L' := [.ref a0, .int (-1), xU, xU]) mt21 dX2_readComparison_1 (Nat.le_of_ble_eq_true rfl) rfl) (Eq.trans (r_iconst (v := -1) mt21 dX2_readComparison_2 rfl) (Eq.trans (r_istore_n (L' := [.ref a0, .int (-1), .int (-1), xU]) mt21 dX2_readComparison_3 (Nat.le_of_ble_eq_true rfl) rfl) (Eq.trans (r_iconst (v := 0) mt21 dX2_readComparison_4 rfl) (r_istore_n (L' := [.ref a0, .int (-1), .int (-1), .int 0]) mt21 dX2_readComparison_5 (Nat.le_of_ble_eq_true rfl) rfl)))))
theorem b21_6 {a0 : Nat} {x1 : Int32} {x2 : Int32} {x3 : Int32} {M : aM}  : run 3 21 6 [.ref a0, .int x1, .int x2, .int x3] [] M = if ¬ x3 < 400 then run 3 21 125 [.ref a0, .int x1, .int x2, .int x3] [] M else run 3 21 13 [.ref a0, .int x1, .int x2, .int x3] [] M :=
  Eq.trans (r_iload_n mt21 dX2_readComparison_6 rfl) (Eq.trans (r_sipush (v := 400) mt21 dX2_readComparison_7 rfl) (r_icmp_ge mt21 dX2_readComparison_10 rfl))
theorem b21_13 {a0 : Nat} {x1 : Int32} {x2 : Int32} {x3 : Int32} {M : aM} (h1 : mK M a0 = 2) : run 3 21 13 [.ref a0, .int x1, .int x2, .int x3] [] M = (call 22 [.ref a0] M).bind (fun r => run 3 21 17 [.ref a0, .int x1, .int x2, .int x3] (r.1.toList ++ []) r.2) :=
  Eq.trans (r_aload_n mt21 dX2_readComparison_13 rfl) (r_cv (as := [.ref a0]) (rest := []) mt21 dX2_readComparison_14 m2_123 (by decide) rfl rfl rfl h1 (Nat.le_of_ble_eq_true rfl) (Nat.le_of_ble_eq_true rfl) rfl (by decide) (Nat.le_of_ble_eq_true rfl))
theorem b21_17 {a0 : Nat} {x1 : Int32} {x2 : Int32} {x3 : Int32} {sx0 : Int32} {M : aM}  : run 3 21 17 [.ref a0, .int x1, .int x2, .int x3] [.int sx0] M = if ¬ sx0 = 0 then run 3 21 22 [.ref a0, .int x1, .int x2, .int x3] [] M else run 3 21 20 [.ref a0, .int x1, .int x2, .int x3] [] M :=
  r_if_ne mt21 dX2_readComparison_17 rfl
theorem b21_20 {a0 : Nat} {x1 : Int32} {x2 : Int32} {x3 : Int32} {M : aM}  : run 3 21 20 [.ref a0, .int x1, .int x2, .int x3] [] M = some (some (.int 0), M) :=
  Eq.trans (r_iconst (v := 0) mt21 dX2_readComparison_20 rfl) (r_iret mt21 dX2_readComparison_21 rfl)
theorem b21_22 {a0 : Nat} {x1 : Int32} {x2 : Int32} {x3 : Int32} {M : aM}  : run 3 21 22 [.ref a0, .int x1, .int x2, .int x3] [] M = if x2 = (-1) then run 3 21 33 [.ref a0, .int x1, .int x2, .int x3] [] M else run 3 21 27 [.ref a0, .int x1, .int x2, .int x3] [] M :=
  Eq.trans (r_iload_n mt21 dX2_readComparison_22 rfl) (Eq.trans (r_iconst (v := -1) mt21 dX2_readComparison_23 rfl) (r_icmp_eq mt21 dX2_readComparison_24 rfl))
theorem b21_27 {a0 : Nat} {x1 : Int32} {x2 : Int32} {x3 : Int32} {M : aM} (h1 : mK M a0 = 2) : run 3 21 27 [.ref a0, .int x1, .int x2, .int x3] [] M = (call 23 [.ref a0, .int (-x2)] M).bind (fun r => run 3 21 33 [.ref a0, .int x1, .int x2, .int x3] (r.1.toList ++ []) r.2) :=
  Eq.trans (r_aload_n mt21 dX2_readComparison_27 rfl) (Eq.trans (r_iload_n mt21 dX2_readComparison_28 rfl) (Eq.trans (r_ineg mt21 dX2_readComparison_29) (r_cv (as := [.ref a0, .int (-x2)]) (rest := []) mt21 dX2_readComparison_30 m2_116 (by decide) rfl rfl rfl h1 (Nat.le_of_ble_eq_true rfl) (Nat.le_of_ble_eq_true rfl) rfl (by decide) (Nat.le_of_ble_eq_true rfl))))
theorem b21_33 {a0 : Nat} {x1 : Int32} {x2 : Int32} {x3 : Int32} {M : aM} (h1 : mK M a0 = 2) : run 3 21 33 [.ref a0, .int x1, .int x2, .int x3] [] M = (call 24 [.ref a0] M).bind (fun r => run 3 21 37 [.ref a0, .int x1, .int x2, .int x3] (r.1.toList ++ []) r.2) :=
  Eq.trans (r_aload_n mt21 dX2_readComparison_33 rfl) (r_cv (as := [.ref a0]) (rest := []) mt21 dX2_readComparison_34 m2_51 (by decide) rfl rfl rfl h1 (Nat.le_of_ble_eq_true rfl) (Nat.le_of_ble_eq_true rfl) rfl (by decide) (Nat.le_of_ble_eq_true rfl))
theorem b21_37 {a0 : Nat} {x1 : Int32} {x2 : Int32} {x3 : Int32} {sx0 : Int32} {M : aM}  : run 3 21 37 [.ref a0, .int x1, .int x2, .int x3] [.int sx0] M = if sx0 = 7 then run 3 21 109 [.ref a0, .int x1, .int sx0, .int x3] [] M else run 3 21 44 [.ref a0, .int x1, .int sx0, .int x3] [] M :=
  Eq.trans (r_istore_n (L' := [.ref a0, .int x1, .int sx0, .int x3]) mt21 dX2_readComparison_37 (Nat.le_of_ble_eq_true rfl) rfl) (Eq.trans (r_iload_n mt21 dX2_readComparison_38 rfl) (Eq.trans (r_bipush (v := 7) mt21 dX2_readComparison_39 rfl) (r_icmp_eq mt21 dX2_readComparison_41 rfl)))
theorem b21_44 {a0 : Nat} {x1 : Int32} {x2 : Int32} {x3 : Int32} {M : aM}  : run 3 21 44 [.ref a0, .int x1, .int x2, .int x3] [] M = if x2 = 8 then run 3 21 109 [.ref a0, .int x1, .int x2, .int x3] [] M else run 3 21 50 [.ref a0, .int x1, .int x2, .int x3] [] M :=
  Eq.trans (r_iload_n mt21 dX2_readComparison_44 rfl) (Eq.trans (r_bipush (v := 8) mt21 dX2_readComparison_45 rfl) (r_icmp_eq mt21 dX2_readComparison_47 rfl))
theorem b21_50 {a0 : Nat} {x1 : Int32} {x2 : Int32} {x3 : Int32} {M : aM}  : run 3 21 50 [.ref a0, .int x1, .int x2, .int x3] [] M = if x1 = (-1) then run 3 21 63 [.ref a0, .int x1, .int x2, .int x3] [] M else run 3 21 55 [.ref a0, .int x1, .int x2, .int x3] [] M :=
  Eq.trans (r_iload_n mt21 dX2_readComparison_50 rfl) (Eq.trans (r_iconst (v := -1) mt21 dX2_readComparison_51 rfl) (r_icmp_eq mt21 dX2_readComparison_52 rfl))
theorem b21_55 {a0 : Nat} {x1 : Int32} {x2 : Int32} {x3 : Int32} {M : aM} (h1 : mK M a0 = 2) : run 3 21 55 [.ref a0, .int x1, .int x2, .int x3] [] M = (call 23 [.ref a0, .int (-x1)] M).bind (fun r => run 3 21 61 [.ref a0, .int x1, .int x2, .int x3] (r.1.toList ++ []) r.2) :=
  Eq.trans (r_aload_n mt21 dX2_readComparison_55 rfl) (Eq.trans (r_iload_n mt21 dX2_readComparison_56 rfl) (Eq.trans (r_ineg mt21 dX2_readComparison_57) (r_cv (as := [.ref a0, .int (-x1)]) (rest := []) mt21 dX2_readComparison_58 m2_116 (by decide) rfl rfl rfl h1 (Nat.le_of_ble_eq_true rfl) (Nat.le_of_ble_eq_true rfl) rfl (by decide) (Nat.le_of_ble_eq_true rfl))))
theorem b21_61 {a0 : Nat} {x1 : Int32} {x2 : Int32} {x3 : Int32} {M : aM}  : run 3 21 61 [.ref a0, .int x1, .int x2, .int x3] [] M = some (some (.int 1), M) :=
  Eq.trans (r_iconst (v := 1) mt21 dX2_readComparison_61 rfl) (r_iret mt21 dX2_readComparison_62 rfl)
theorem b21_63 {a0 : Nat} {x1 : Int32} {x2 : Int32} {x3 : Int32} {M : aM}  : run 3 21 63 [.ref a0, .int x1, .int x2, .int x3] [] M = (call 139 [.int x2, .int 9, .int 13] M).bind (fun r => run 3 21 71 [.ref a0, .int x1, .int x2, .int x3] (r.1.toList ++ []) r.2) :=
  Eq.trans (r_iload_n mt21 dX2_readComparison_63 rfl) (Eq.trans (r_bipush (v := 9) mt21 dX2_readComparison_64 rfl) (Eq.trans (r_bipush (v := 13) mt21 dX2_readComparison_66 rfl) (r_cs (as := [.int x2, .int 9, .int 13]) (rest := []) mt21 dX2_readComparison_68 m2_109 (Or.inr rfl) rfl rfl (Nat.le_of_ble_eq_true rfl) (Nat.le_of_ble_eq_true rfl) rfl (by decide) (Nat.le_of_ble_eq_true rfl))))
theorem b21_71 {a0 : Nat} {x1 : Int32} {x2 : Int32} {x3 : Int32} {sx0 : Int32} {M : aM}  : run 3 21 71 [.ref a0, .int x1, .int x2, .int x3] [.int sx0] M = if ¬ sx0 = 0 then run 3 21 80 [.ref a0, .int x1, .int x2, .int x3] [] M else run 3 21 74 [.ref a0, .int x1, .int x2, .int x3] [] M :=
  r_if_ne mt21 dX2_readComparison_71 rfl
theorem b21_74 {a0 : Nat} {x1 : Int32} {x2 : Int32} {x3 : Int32} {M : aM} (h1 : mK M a0 = 2) : run 3 21 74 [.ref a0, .int x1, .int x2, .int x3] [] M = (call 28 [.ref a0, .int 0] M).bind (fun r => run 3 21 79 [.ref a0, .int x1, .int x2, .int x3] (r.1.toList ++ []) r.2) :=
  Eq.trans (r_aload_n mt21 dX2_readComparison_74 rfl) (Eq.trans (r_iconst (v := 0) mt21 dX2_readComparison_75 rfl) (r_cv (as := [.ref a0, .int 0]) (rest := []) mt21 dX2_readComparison_76 m2_68 (by decide) rfl rfl rfl h1 (Nat.le_of_ble_eq_true rfl) (Nat.le_of_ble_eq_true rfl) rfl (by decide) (Nat.le_of_ble_eq_true rfl)))
theorem b21_79 {a0 : Nat} {x1 : Int32} {x2 : Int32} {x3 : Int32} {sx0 : Int32} {M : aM} (h1 : rtI (some .boolean) sx0 = true) : run 3 21 79 [.ref a0, .int x1, .int x2, .int x3] [.int sx0] M = some (some (.int sx0), M) :=
  r_iret mt21 dX2_readComparison_79 h1
theorem b21_80 {a0 : Nat} {x1 : Int32} {x2 : Int32} {x3 : Int32} {M : aM} (h1 : mK M a0 = 2) : run 3 21 80 [.ref a0, .int x1, .int x2, .int x3] [] M = if (mI M a0 6) < 60 then run 3 21 95 [.ref a0, .int x1, .int x2, .int x3] [] M else run 3 21 89 [.ref a0, .int x1, .int x2, .int x3] [] M :=
  Eq.trans (r_aload_n mt21 dX2_readComparison_80 rfl) (Eq.trans (r_geti mt21 dX2_readComparison_81 f2_40 h1 (by decide) rfl) (Eq.trans (r_bipush (v := 60) mt21 dX2_readComparison_84 rfl) (r_icmp_lt mt21 dX2_readComparison_86 rfl)))
theorem b21_89 {a0 : Nat} {x1 : Int32} {x2 : Int32} {x3 : Int32} {M : aM} (h1 : mK M a0 = 2) : run 3 21 89 [.ref a0, .int x1, .int x2, .int x3] [] M = (call 28 [.ref a0, .int 3] M).bind (fun r => run 3 21 94 [.ref a0, .int x1, .int x2, .int x3] (r.1.toList ++ []) r.2) :=
  Eq.trans (r_aload_n mt21 dX2_readComparison_89 rfl) (Eq.trans (r_iconst (v := 3) mt21 dX2_readComparison_90 rfl) (r_cv (as := [.ref a0, .int 3]) (rest := []) mt21 dX2_readComparison_91 m2_68 (by decide) rfl rfl rfl h1 (Nat.le_of_ble_eq_true rfl) (Nat.le_of_ble_eq_true rfl) rfl (by decide) (Nat.le_of_ble_eq_true rfl)))
theorem b21_94 {a0 : Nat} {x1 : Int32} {x2 : Int32} {x3 : Int32} {sx0 : Int32} {M : aM} (h1 : rtI (some .boolean) sx0 = true) : run 3 21 94 [.ref a0, .int x1, .int x2, .int x3] [.int sx0] M = some (some (.int sx0), M) :=
  r_iret mt21 dX2_readComparison_94 h1
theorem b21_95 {a0 : Nat} {x1 : Int32} {x2 : Int32} {x3 : Int32} {M : aM} (h1 : mK M a0 = 2) : run 3 21 95 [.ref a0, .int x1, .int x2, .int x3] [] M = run 3 21 109 [.ref a0, .int x2, .int (-1), .int x3] [] (wI M a0 6 ((mI M a0 6) + 1)) :=
  Eq.trans (r_aload_n mt21 dX2_readComparison_95 rfl) (Eq.trans (r_dup mt21 dX2_readComparison_96 rfl) (Eq.trans (r_geti mt21 dX2_readComparison_97 f2_40 h1 (by decide) rfl) (Eq.trans (r_iconst (v := 1) mt21 dX2_readComparison_100 rfl) (Eq.trans (r_iadd mt21 dX2_readComparison_101) (Eq.trans (r_puti mt21 dX2_readComparison_102 f2_40 h1 (by decide) (Or.inl rfl) rfl rfl) (Eq.trans (r_iload_n mt21 dX2_readComparison_105 rfl) (Eq.trans (r_istore_n (L' := [.ref a0, .int x2, .int x2, .int x3]) mt21 dX2_readComparison_106 (Nat.le_of_ble_eq_true rfl) rfl) (Eq.trans (r_iconst (v := -1) mt21 dX2_readComparison_107 rfl) (r_istore_n (L' := [.ref a0, .int x2, .int (-1), .int x3]) mt21 dX2_readComparison_108 (Nat.le_of_ble_eq_true rfl) rfl)))))))))
theorem b21_109 {a0 : Nat} {x1 : Int32} {x2 : Int32} {x3 : Int32} {M : aM} (h1 : mK M a0 = 2) : run 3 21 109 [.ref a0, .int x1, .int x2, .int x3] [] M = run 3 21 6 [.ref a0, .int x1, .int x2, .int (x3 + 1)] [] (wI M a0 3 ((mI M a0 3) + 1)) :=
  Eq.trans (r_aload_n mt21 dX2_readComparison_109 rfl) (Eq.trans (r_dup mt21 dX2_readComparison_110 rfl) (Eq.trans (r_geti mt21 dX2_readComparison_111 f2_34 h1 (by decide) rfl) (Eq.trans (r_iconst (v := 1) mt21 dX2_readComparison_114 rfl) (Eq.trans (r_iadd mt21 dX2_readComparison_115) (Eq.trans (r_puti mt21 dX2_readComparison_116 f2_34 h1 (by decide) (Or.inl rfl) rfl rfl) (Eq.trans (r_iinc (v := 1) (L' := [.ref a0, .int x1, .int x2, .int (x3 + 1)]) mt21 dX2_readComparison_119 rfl rfl rfl) (r_goto mt21 dX2_readComparison_122 rfl)))))))
theorem b21_125 {a0 : Nat} {x1 : Int32} {x2 : Int32} {x3 : Int32} {M : aM} (h1 : mK M a0 = 2) : run 3 21 125 [.ref a0, .int x1, .int x2, .int x3] [] M = (call 28 [.ref a0, .int 0] M).bind (fun r => run 3 21 130 [.ref a0, .int x1, .int x2, .int x3] (r.1.toList ++ []) r.2) :=
  Eq.trans (r_aload_n mt21 dX2_readComparison_125 rfl) (Eq.trans (r_iconst (v := 0) mt21 dX2_readComparison_126 rfl) (r_cv (as := [.ref a0, .int 0]) (rest := []) mt21 dX2_readComparison_127 m2_68 (by decide) rfl rfl rfl h1 (Nat.le_of_ble_eq_true rfl) (Nat.le_of_ble_eq_true rfl) rfl (by decide) (Nat.le_of_ble_eq_true rfl)))
theorem b21_130 {a0 : Nat} {x1 : Int32} {x2 : Int32} {x3 : Int32} {sx0 : Int32} {M : aM} (h1 : rtI (some .boolean) sx0 = true) : run 3 21 130 [.ref a0, .int x1, .int x2, .int x3] [.int sx0] M = some (some (.int sx0), M) :=
  r_iret mt21 dX2_readComparison_130 h1
-- 22: X2_readValue()Z
theorem e22 {a0 : Nat} {M : aM} : call 22 [.ref a0] M = run 2 22 0 [.ref a0, xU] [] M := rfl
theorem b22_0 {a0 : Nat} {M : aM} (h1 : mK M a0 = 2) : run 2 22 0 [.ref a0, xU] [] M = (call 24 [.ref a0] M).bind (fun r => run 2 22 4 [.ref a0, xU] (r.1.toList ++ []) r.2) :=
  Eq.trans (r_aload_n mt22 dX2_readValue_0 rfl) (r_cv (as := [.ref a0]) (rest := []) mt22 dX2_readValue_1 m2_51 (by decide) rfl rfl rfl h1 (Nat.le_of_ble_eq_true rfl) (Nat.le_of_ble_eq_true rfl) rfl (by decide) (Nat.le_of_ble_eq_true rfl))
theorem b22_4 {a0 : Nat} {sx0 : Int32} {M : aM}  : run 2 22 4 [.ref a0, xU] [.int sx0] M = if ¬ sx0 = 2 then run 2 22 12 [.ref a0, xU] [] M else run 2 22 8 [.ref a0, xU] [] M :=
  Eq.trans (r_iconst (v := 2) mt22 dX2_readValue_4 rfl) (r_icmp_ne mt22 dX2_readValue_5 rfl)
theorem b22_8 {a0 : Nat} {M : aM}  : run 2 22 8 [.ref a0, xU] [] M = run 2 22 13 [.ref a0, xU] [.int 1] M :=
  Eq.trans (r_iconst (v := 1) mt22 dX2_readValue_8 rfl) (r_goto mt22 dX2_readValue_9 rfl)
theorem b22_12 {a0 : Nat} {M : aM}  : run 2 22 12 [.ref a0, xU] [] M = run 2 22 13 [.ref a0, xU] [.int 0] M :=
  r_iconst (v := 0) mt22 dX2_readValue_12 rfl
theorem b22_13 {a0 : Nat} {sx0 : Int32} {M : aM}  : run 2 22 13 [.ref a0, xU] [.int sx0] M = if ¬ sx0 = 0 then run 2 22 33 [.ref a0, .int sx0] [] M else run 2 22 18 [.ref a0, .int sx0] [] M :=
  Eq.trans (r_istore_n (L' := [.ref a0, .int sx0]) mt22 dX2_readValue_13 (Nat.le_of_ble_eq_true rfl) rfl) (Eq.trans (r_iload_n mt22 dX2_readValue_14 rfl) (r_if_ne mt22 dX2_readValue_15 rfl))
theorem b22_18 {a0 : Nat} {x1 : Int32} {M : aM} (h1 : mK M a0 = 2) : run 2 22 18 [.ref a0, .int x1] [] M = (call 24 [.ref a0] M).bind (fun r => run 2 22 22 [.ref a0, .int x1] (r.1.toList ++ []) r.2) :=
  Eq.trans (r_aload_n mt22 dX2_readValue_18 rfl) (r_cv (as := [.ref a0]) (rest := []) mt22 dX2_readValue_19 m2_51 (by decide) rfl rfl rfl h1 (Nat.le_of_ble_eq_true rfl) (Nat.le_of_ble_eq_true rfl) rfl (by decide) (Nat.le_of_ble_eq_true rfl))
theorem b22_22 {a0 : Nat} {x1 : Int32} {sx0 : Int32} {M : aM}  : run 2 22 22 [.ref a0, .int x1] [.int sx0] M = if ¬ sx0 < 23 then run 2 22 33 [.ref a0, .int x1] [] M else run 2 22 27 [.ref a0, .int x1] [] M :=
  Eq.trans (r_bipush (v := 23) mt22 dX2_readValue_22 rfl) (r_icmp_ge mt22 dX2_readValue_24 rfl)
theorem b22_27 {a0 : Nat} {x1 : Int32} {M : aM} (h1 : mK M a0 = 2) : run 2 22 27 [.ref a0, .int x1] [] M = (call 28 [.ref a0, .int 0] M).bind (fun r => run 2 22 32 [.ref a0, .int x1] (r.1.toList ++ []) r.2) :=
  Eq.trans (r_aload_n mt22 dX2_readValue_27 rfl) (Eq.trans (r_iconst (v := 0) mt22 dX2_readValue_28 rfl) (r_cv (as := [.ref a0, .int 0]) (rest := []) mt22 dX2_readValue_29 m2_68 (by decide) rfl rfl rfl h1 (Nat.le_of_ble_eq_true rfl) (Nat.le_of_ble_eq_true rfl) rfl (by decide) (Nat.le_of_ble_eq_true rfl)))
theorem b22_32 {a0 : Nat} {x1 : Int32} {sx0 : Int32} {M : aM} (h1 : rtI (some .boolean) sx0 = true) : run 2 22 32 [.ref a0, .int x1] [.int sx0] M = some (some (.int sx0), M) :=
  r_iret mt22 dX2_readValue_32 h1
theorem b22_33 {a0 : Nat} {x1 : Int32} {M : aM}  : run 2 22 33 [.ref a0, .int x1] [] M = if x1 = 0 then run 2 22 51 [.ref a0, .int x1] [] M else run 2 22 37 [.ref a0, .int x1] [] M :=
  Eq.trans (r_iload_n mt22 dX2_readValue_33 rfl) (r_if_eq mt22 dX2_readValue_34 rfl)
theorem b22_37 {a0 : Nat} {x1 : Int32} {M : aM} (h1 : mK M a0 = 2) : run 2 22 37 [.ref a0, .int x1] [] M = (call 25 [.ref a0] M).bind (fun r => run 2 22 41 [.ref a0, .int x1] (r.1.toList ++ []) r.2) :=
  Eq.trans (r_aload_n mt22 dX2_readValue_37 rfl) (r_cv (as := [.ref a0]) (rest := []) mt22 dX2_readValue_38 m2_97 (by decide) rfl rfl rfl h1 (Nat.le_of_ble_eq_true rfl) (Nat.le_of_ble_eq_true rfl) rfl (by decide) (Nat.le_of_ble_eq_true rfl))
theorem b22_41 {a0 : Nat} {x1 : Int32} {sx0 : Int32} {M : aM}  : run 2 22 41 [.ref a0, .int x1] [.int sx0] M = if ¬ sx0 = (-1) then run 2 22 51 [.ref a0, .int x1] [] M else run 2 22 45 [.ref a0, .int x1] [] M :=
  Eq.trans (r_iconst (v := -1) mt22 dX2_readValue_41 rfl) (r_icmp_ne mt22 dX2_readValue_42 rfl)
theorem b22_45 {a0 : Nat} {x1 : Int32} {M : aM} (h1 : mK M a0 = 2) : run 2 22 45 [.ref a0, .int x1] [] M = (call 28 [.ref a0, .int 1] M).bind (fun r => run 2 22 50 [.ref a0, .int x1] (r.1.toList ++ []) r.2) :=
  Eq.trans (r_aload_n mt22 dX2_readValue_45 rfl) (Eq.trans (r_iconst (v := 1) mt22 dX2_readValue_46 rfl) (r_cv (as := [.ref a0, .int 1]) (rest := []) mt22 dX2_readValue_47 m2_68 (by decide) rfl rfl rfl h1 (Nat.le_of_ble_eq_true rfl) (Nat.le_of_ble_eq_true rfl) rfl (by decide) (Nat.le_of_ble_eq_true rfl)))
theorem b22_50 {a0 : Nat} {x1 : Int32} {sx0 : Int32} {M : aM} (h1 : rtI (some .boolean) sx0 = true) : run 2 22 50 [.ref a0, .int x1] [.int sx0] M = some (some (.int sx0), M) :=
  r_iret mt22 dX2_readValue_50 h1
theorem b22_51 {a0 : Nat} {x1 : Int32} {M : aM} (h1 : mK M a0 = 2) : run 2 22 51 [.ref a0, .int x1] [] M = if (mI M a0 6) < 60 then run 2 22 66 [.ref a0, .int x1] [] M else run 2 22 60 [.ref a0, .int x1] [] M :=
  Eq.trans (r_aload_n mt22 dX2_readValue_51 rfl) (Eq.trans (r_geti mt22 dX2_readValue_52 f2_40 h1 (by decide) rfl) (Eq.trans (r_bipush (v := 60) mt22 dX2_readValue_55 rfl) (r_icmp_lt mt22 dX2_readValue_57 rfl)))
theorem b22_60 {a0 : Nat} {x1 : Int32} {M : aM} (h1 : mK M a0 = 2) : run 2 22 60 [.ref a0, .int x1] [] M = (call 28 [.ref a0, .int 3] M).bind (fun r => run 2 22 65 [.ref a0, .int x1] (r.1.toList ++ []) r.2) :=
  Eq.trans (r_aload_n mt22 dX2_readValue_60 rfl) (Eq.trans (r_iconst (v := 3) mt22 dX2_readValue_61 rfl) (r_cv (as := [.ref a0, .int 3]) (rest := []) mt22 dX2_readValue_62 m2_68 (by decide) rfl rfl rfl h1 (Nat.le_of_ble_eq_true rfl) (Nat.le_of_ble_eq_true rfl) rfl (by decide) (Nat.le_of_ble_eq_true rfl)))
theorem b22_65 {a0 : Nat} {x1 : Int32} {sx0 : Int32} {M : aM} (h1 : rtI (some .boolean) sx0 = true) : run 2 22 65 [.ref a0, .int x1] [.int sx0] M = some (some (.int sx0), M) :=
  r_iret mt22 dX2_readValue_65 h1
theorem b22_66 {a0 : Nat} {x1 : Int32} {M : aM} (h1 : mK M a0 = 2) : run 2 22 66 [.ref a0, .int x1] [] M = if x1 = 0 then run 2 22 88 [.ref a0, .int x1] [.ref a0] (wI M a0 6 ((mI M a0 6) + 1)) else run 2 22 81 [.ref a0, .int x1] [.ref a0] (wI M a0 6 ((mI M a0 6) + 1)) :=
  Eq.trans (r_aload_n mt22 dX2_readValue_66 rfl) (Eq.trans (r_dup mt22 dX2_readValue_67 rfl) (Eq.trans (r_geti mt22 dX2_readValue_68 f2_40 h1 (by decide) rfl) (Eq.trans (r_iconst (v := 1) mt22 dX2_readValue_71 rfl) (Eq.trans (r_iadd mt22 dX2_readValue_72) (Eq.trans (r_puti mt22 dX2_readValue_73 f2_40 h1 (by decide) (Or.inl rfl) rfl rfl) (Eq.trans (r_aload_n mt22 dX2_readValue_76 rfl) (Eq.trans (r_iload_n mt22 dX2_readValue_77 rfl) (r_if_eq mt22 dX2_readValue_78 rfl))))))))
theorem b22_81 {a0 : Nat} {x1 : Int32} {sa0 : Nat} {M : aM} (h1 : mK M a0 = 2) : run 2 22 81 [.ref a0, .int x1] [.ref sa0] M = (call 25 [.ref a0] M).bind (fun r => run 2 22 85 [.ref a0, .int x1] (r.1.toList ++ [.ref sa0]) r.2) :=
  Eq.trans (r_aload_n mt22 dX2_readValue_81 rfl) (r_cv (as := [.ref a0]) (rest := [.ref sa0]) mt22 dX2_readValue_82 m2_97 (by decide) rfl rfl rfl h1 (Nat.le_of_ble_eq_true rfl) (Nat.le_of_ble_eq_true rfl) rfl (by decide) (Nat.le_of_ble_eq_true rfl))
theorem b22_85 {a0 : Nat} {x1 : Int32} {sx1 : Int32} {sa0 : Nat} {M : aM}  : run 2 22 85 [.ref a0, .int x1] [.int sx1, .ref sa0] M = run 2 22 93 [.ref a0, .int x1] [.int sx1, .ref sa0] M :=
  r_goto mt22 dX2_readValue_85 rfl
theorem b22_88 {a0 : Nat} {x1 : Int32} {sa0 : Nat} {M : aM} (h1 : mK M a0 = 2) : run 2 22 88 [.ref a0, .int x1] [.ref sa0] M = (call 24 [.ref a0] M).bind (fun r => run 2 22 92 [.ref a0, .int x1] (r.1.toList ++ [.ref sa0]) r.2) :=
  Eq.trans (r_aload_n mt22 dX2_readValue_88 rfl) (r_cv (as := [.ref a0]) (rest := [.ref sa0]) mt22 dX2_readValue_89 m2_51 (by decide) rfl rfl rfl h1 (Nat.le_of_ble_eq_true rfl) (Nat.le_of_ble_eq_true rfl) rfl (by decide) (Nat.le_of_ble_eq_true rfl))
theorem b22_92 {a0 : Nat} {x1 : Int32} {sx1 : Int32} {sa0 : Nat} {M : aM}  : run 2 22 92 [.ref a0, .int x1] [.int sx1, .ref sa0] M = run 2 22 93 [.ref a0, .int x1] [.int (-sx1), .ref sa0] M :=
  r_ineg mt22 dX2_readValue_92
theorem b22_93 {a0 : Nat} {x1 : Int32} {sx1 : Int32} {sa0 : Nat} {M : aM} (h1 : mK M sa0 = 2) : run 2 22 93 [.ref a0, .int x1] [.int sx1, .ref sa0] M = (call 23 [.ref sa0, .int sx1] M).bind (fun r => run 2 22 96 [.ref a0, .int x1] (r.1.toList ++ []) r.2) :=
  r_cv (as := [.ref sa0, .int sx1]) (rest := []) mt22 dX2_readValue_93 m2_116 (by decide) rfl rfl rfl h1 (Nat.le_of_ble_eq_true rfl) (Nat.le_of_ble_eq_true rfl) rfl (by decide) (Nat.le_of_ble_eq_true rfl)
theorem b22_96 {a0 : Nat} {x1 : Int32} {M : aM} (h1 : mK M a0 = 2) : run 2 22 96 [.ref a0, .int x1] [] M = some (some (.int 1), wI M a0 3 ((mI M a0 3) + 1)) :=
  Eq.trans (r_aload_n mt22 dX2_readValue_96 rfl) (Eq.trans (r_dup mt22 dX2_readValue_97 rfl) (Eq.trans (r_geti mt22 dX2_readValue_98 f2_34 h1 (by decide) rfl) (Eq.trans (r_iconst (v := 1) mt22 dX2_readValue_101 rfl) (Eq.trans (r_iadd mt22 dX2_readValue_102) (Eq.trans (r_puti mt22 dX2_readValue_103 f2_34 h1 (by decide) (Or.inl rfl) rfl rfl) (Eq.trans (r_iconst (v := 1) mt22 dX2_readValue_106 rfl) (r_iret mt22 dX2_readValue_107 rfl)))))))
-- 23: X2_putStep(I)V
theorem e23 {a0 : Nat} {x1 : Int32} {M : aM} : call 23 [.ref a0, .int x1] M = run 1 23 0 [.ref a0, .int x1] [] M := rfl
theorem b23_0 {a0 : Nat} {x1 : Int32} {M : aM} (h1 : mK M a0 = 2) (h2 : mK M (mR M a0 1) = 12) : run 1 23 0 [.ref a0, .int x1] [] M = if ¬ (mI M a0 5) < (Int32.ofNat (mN M (mR M a0 1))) then run 1 23 32 [.ref a0, .int x1] [] M else run 1 23 12 [.ref a0, .int x1] [] M :=
  Eq.trans (r_aload_n mt23 dX2_putStep_0 rfl) (Eq.trans (r_geti mt23 dX2_putStep_1 f2_71 h1 (by decide) rfl) (Eq.trans (r_aload_n mt23 dX2_putStep_4 rfl) (Eq.trans (r_getr mt23 dX2_putStep_5 f2_19 h1 (by decide) rfl) (Eq.trans (r_alen mt23 dX2_putStep_8 h2 (by decide) (by decide)) (r_icmp_ge mt23 dX2_putStep_9 rfl)))))
theorem b23_12 {a0 : Nat} {x1 : Int32} {M : aM} (h1 : mK M a0 = 2) (h2 : mK M (mR M a0 1) = 12) (h3 : ib (mI M a0 5) (mN M (mR M a0 1))) : run 1 23 12 [.ref a0, .int x1] [] M = run 1 23 32 [.ref a0, .int x1] [] (wI (wI M (mR M a0 1) (mI M a0 5).toNatClampNeg x1) a0 5 ((mI (wI M (mR M a0 1) (mI M a0 5).toNatClampNeg x1) a0 5) + 1)) :=
  Eq.trans (r_aload_n mt23 dX2_putStep_12 rfl) (Eq.trans (r_getr mt23 dX2_putStep_13 f2_19 h1 (by decide) rfl) (Eq.trans (r_aload_n mt23 dX2_putStep_16 rfl) (Eq.trans (r_geti mt23 dX2_putStep_17 f2_71 h1 (by decide) rfl) (Eq.trans (r_iload_n mt23 dX2_putStep_20 rfl) (Eq.trans (r_iast mt23 dX2_putStep_21 h2 h3) (Eq.trans (r_aload_n mt23 dX2_putStep_22 rfl) (Eq.trans (r_dup mt23 dX2_putStep_23 rfl) (Eq.trans (r_geti mt23 dX2_putStep_24 f2_71 h1 (by decide) rfl) (Eq.trans (r_iconst (v := 1) mt23 dX2_putStep_27 rfl) (Eq.trans (r_iadd mt23 dX2_putStep_28) (r_puti mt23 dX2_putStep_29 f2_71 h1 (by decide) (Or.inl rfl) rfl rfl)))))))))))
theorem b23_32 {a0 : Nat} {x1 : Int32} {M : aM}  : run 1 23 32 [.ref a0, .int x1] [] M = some (none, M) :=
  r_vret mt23 dX2_putStep_32 rfl
-- 24: X2_kind()I
theorem e24 {a0 : Nat} {M : aM} : call 24 [.ref a0] M = run 1 24 0 [.ref a0] [] M := rfl
theorem b24_0 {a0 : Nat} {M : aM} (h1 : mK M a0 = 2) (h2 : mK M (mR M a0 2) = 7) : run 1 24 0 [.ref a0] [] M = if ¬ (mI M a0 3) < (mI M (mR M a0 2) 5) then run 1 24 29 [.ref a0] [] M else run 1 24 14 [.ref a0] [] M :=
  Eq.trans (r_aload_n mt24 dX2_kind_0 rfl) (Eq.trans (r_geti mt24 dX2_kind_1 f2_34 h1 (by decide) rfl) (Eq.trans (r_aload_n mt24 dX2_kind_4 rfl) (Eq.trans (r_getr mt24 dX2_kind_5 f2_23 h1 (by decide) rfl) (Eq.trans (r_geti mt24 dX2_kind_8 f2_126 h2 (by decide) rfl) (r_icmp_ge mt24 dX2_kind_11 rfl)))))
theorem b24_14 {a0 : Nat} {M : aM} (h1 : mK M a0 = 2) (h2 : mK M (mR M a0 2) = 7) (h3 : mK M (mR M (mR M a0 2) 1) = 12) (h4 : ib (mI M a0 3) (mN M (mR M (mR M a0 2) 1))) : run 1 24 14 [.ref a0] [] M = run 1 24 30 [.ref a0] [.int (mI M (mR M (mR M a0 2) 1) (mI M a0 3).toNatClampNeg)] M :=
  Eq.trans (r_aload_n mt24 dX2_kind_14 rfl) (Eq.trans (r_getr mt24 dX2_kind_15 f2_23 h1 (by decide) rfl) (Eq.trans (r_getr mt24 dX2_kind_18 f2_129 h2 (by decide) rfl) (Eq.trans (r_aload_n mt24 dX2_kind_21 rfl) (Eq.trans (r_geti mt24 dX2_kind_22 f2_34 h1 (by decide) rfl) (Eq.trans (r_iald mt24 dX2_kind_25 h3 h4) (r_goto mt24 dX2_kind_26 rfl))))))
theorem b24_29 {a0 : Nat} {M : aM}  : run 1 24 29 [.ref a0] [] M = run 1 24 30 [.ref a0] [.int 0] M :=
  r_iconst (v := 0) mt24 dX2_kind_29 rfl
theorem b24_30 {a0 : Nat} {sx0 : Int32} {M : aM}  : run 1 24 30 [.ref a0] [.int sx0] M = some (some (.int sx0), M) :=
  r_iret mt24 dX2_kind_30 rfl
-- 25: X2_value()I
theorem e25 {a0 : Nat} {M : aM} : call 25 [.ref a0] M = run 1 25 0 [.ref a0] [] M := rfl
theorem b25_0 {a0 : Nat} {M : aM} (h1 : mK M a0 = 2) (h2 : mK M (mR M a0 2) = 7) : run 1 25 0 [.ref a0] [] M = if ¬ (mI M a0 3) < (mI M (mR M a0 2) 5) then run 1 25 29 [.ref a0] [] M else run 1 25 14 [.ref a0] [] M :=
  Eq.trans (r_aload_n mt25 dX2_value_0 rfl) (Eq.trans (r_geti mt25 dX2_value_1 f2_34 h1 (by decide) rfl) (Eq.trans (r_aload_n mt25 dX2_value_4 rfl) (Eq.trans (r_getr mt25 dX2_value_5 f2_23 h1 (by decide) rfl) (Eq.trans (r_geti mt25 dX2_value_8 f2_126 h2 (by decide) rfl) (r_icmp_ge mt25 dX2_value_11 rfl)))))
theorem b25_14 {a0 : Nat} {M : aM} (h1 : mK M a0 = 2) (h2 : mK M (mR M a0 2) = 7) (h3 : mK M (mR M (mR M a0 2) 3) = 12) (h4 : ib (mI M a0 3) (mN M (mR M (mR M a0 2) 3))) : run 1 25 14 [.ref a0] [] M = run 1 25 30 [.ref a0] [.int (mI M (mR M (mR M a0 2) 3) (mI M a0 3).toNatClampNeg)] M :=
  Eq.trans (r_aload_n mt25 dX2_value_14 rfl) (Eq.trans (r_getr mt25 dX2_value_15 f2_23 h1 (by decide) rfl) (Eq.trans (r_getr mt25 dX2_value_18 f2_132 h2 (by decide) rfl) (Eq.trans (r_aload_n mt25 dX2_value_21 rfl) (Eq.trans (r_geti mt25 dX2_value_22 f2_34 h1 (by decide) rfl) (Eq.trans (r_iald mt25 dX2_value_25 h3 h4) (r_goto mt25 dX2_value_26 rfl))))))
theorem b25_29 {a0 : Nat} {M : aM}  : run 1 25 29 [.ref a0] [] M = run 1 25 30 [.ref a0] [.int 0] M :=
  r_iconst (v := 0) mt25 dX2_value_29 rfl
theorem b25_30 {a0 : Nat} {sx0 : Int32} {M : aM}  : run 1 25 30 [.ref a0] [.int sx0] M = some (some (.int sx0), M) :=
  r_iret mt25 dX2_value_30 rfl
-- 26: X2_passes(I)Z
theorem e26 {a0 : Nat} {x1 : Int32} {M : aM} : call 26 [.ref a0, .int x1] M = run 2 26 0 [.ref a0, .int x1] [] M := rfl
theorem b26_0 {a0 : Nat} {x1 : Int32} {M : aM} (h1 : mK M a0 = 2) : run 2 26 0 [.ref a0, .int x1] [] M = (call 24 [.ref a0] M).bind (fun r => run 2 26 4 [.ref a0, .int x1] (r.1.toList ++ []) r.2) :=
  Eq.trans (r_aload_n mt26 dX2_passes_0 rfl) (r_cv (as := [.ref a0]) (rest := []) mt26 dX2_passes_1 m2_51 (by decide) rfl rfl rfl h1 (Nat.le_of_ble_eq_true rfl) (Nat.le_of_ble_eq_true rfl) rfl (by decide) (Nat.le_of_ble_eq_true rfl))
theorem b26_4 {a0 : Nat} {x1 : Int32} {sx0 : Int32} {M : aM}  : run 2 26 4 [.ref a0, .int x1] [.int sx0] M = if sx0 = x1 then run 2 26 10 [.ref a0, .int x1] [] M else run 2 26 8 [.ref a0, .int x1] [] M :=
  Eq.trans (r_iload_n mt26 dX2_passes_4 rfl) (r_icmp_eq mt26 dX2_passes_5 rfl)
theorem b26_8 {a0 : Nat} {x1 : Int32} {M : aM}  : run 2 26 8 [.ref a0, .int x1] [] M = some (some (.int 0), M) :=
  Eq.trans (r_iconst (v := 0) mt26 dX2_passes_8 rfl) (r_iret mt26 dX2_passes_9 rfl)
theorem b26_10 {a0 : Nat} {x1 : Int32} {M : aM} (h1 : mK M a0 = 2) : run 2 26 10 [.ref a0, .int x1] [] M = some (some (.int 1), wI M a0 3 ((mI M a0 3) + 1)) :=
  Eq.trans (r_aload_n mt26 dX2_passes_10 rfl) (Eq.trans (r_dup mt26 dX2_passes_11 rfl) (Eq.trans (r_geti mt26 dX2_passes_12 f2_34 h1 (by decide) rfl) (Eq.trans (r_iconst (v := 1) mt26 dX2_passes_15 rfl) (Eq.trans (r_iadd mt26 dX2_passes_16) (Eq.trans (r_puti mt26 dX2_passes_17 f2_34 h1 (by decide) (Or.inl rfl) rfl rfl) (Eq.trans (r_iconst (v := 1) mt26 dX2_passes_20 rfl) (r_iret mt26 dX2_passes_21 rfl)))))))
-- 27: X2_expect(I)Z
theorem e27 {a0 : Nat} {x1 : Int32} {M : aM} : call 27 [.ref a0, .int x1] M = run 2 27 0 [.ref a0, .int x1] [] M := rfl
theorem b27_0 {a0 : Nat} {x1 : Int32} {M : aM} (h1 : mK M a0 = 2) : run 2 27 0 [.ref a0, .int x1] [] M = (call 24 [.ref a0] M).bind (fun r => run 2 27 4 [.ref a0, .int x1] (r.1.toList ++ []) r.2) :=
  Eq.trans (r_aload_n mt27 dX2_expect_0 rfl) (r_cv (as := [.ref a0]) (rest := []) mt27 dX2_expect_1 m2_51 (by decide) rfl rfl rfl h1 (Nat.le_of_ble_eq_true rfl) (Nat.le_of_ble_eq_true rfl) rfl (by decide) (Nat.le_of_ble_eq_true rfl))
theorem b27_4 {a0 : Nat} {x1 : Int32} {sx0 : Int32} {M : aM}  : run 2 27 4 [.ref a0, .int x1] [.int sx0] M = if sx0 = x1 then run 2 27 14 [.ref a0, .int x1] [] M else run 2 27 8 [.ref a0, .int x1] [] M :=
  Eq.trans (r_iload_n mt27 dX2_expect_4 rfl) (r_icmp_eq mt27 dX2_expect_5 rfl)
theorem b27_8 {a0 : Nat} {x1 : Int32} {M : aM} (h1 : mK M a0 = 2) : run 2 27 8 [.ref a0, .int x1] [] M = (call 28 [.ref a0, .int 0] M).bind (fun r => run 2 27 13 [.ref a0, .int x1] (r.1.toList ++ []) r.2) :=
  Eq.trans (r_aload_n mt27 dX2_expect_8 rfl) (Eq.trans (r_iconst (v := 0) mt27 dX2_expect_9 rfl) (r_cv (as := [.ref a0, .int 0]) (rest := []) mt27 dX2_expect_10 m2_68 (by decide) rfl rfl rfl h1 (Nat.le_of_ble_eq_true rfl) (Nat.le_of_ble_eq_true rfl) rfl (by decide) (Nat.le_of_ble_eq_true rfl)))
theorem b27_13 {a0 : Nat} {x1 : Int32} {sx0 : Int32} {M : aM} (h1 : rtI (some .boolean) sx0 = true) : run 2 27 13 [.ref a0, .int x1] [.int sx0] M = some (some (.int sx0), M) :=
  r_iret mt27 dX2_expect_13 h1
theorem b27_14 {a0 : Nat} {x1 : Int32} {M : aM} (h1 : mK M a0 = 2) : run 2 27 14 [.ref a0, .int x1] [] M = some (some (.int 1), wI M a0 3 ((mI M a0 3) + 1)) :=
  Eq.trans (r_aload_n mt27 dX2_expect_14 rfl) (Eq.trans (r_dup mt27 dX2_expect_15 rfl) (Eq.trans (r_geti mt27 dX2_expect_16 f2_34 h1 (by decide) rfl) (Eq.trans (r_iconst (v := 1) mt27 dX2_expect_19 rfl) (Eq.trans (r_iadd mt27 dX2_expect_20) (Eq.trans (r_puti mt27 dX2_expect_21 f2_34 h1 (by decide) (Or.inl rfl) rfl rfl) (Eq.trans (r_iconst (v := 1) mt27 dX2_expect_24 rfl) (r_iret mt27 dX2_expect_25 rfl)))))))
-- 28: X2_refuse(I)Z
theorem e28 {a0 : Nat} {x1 : Int32} {M : aM} : call 28 [.ref a0, .int x1] M = run 1 28 0 [.ref a0, .int x1, xU] [] M := rfl
theorem b28_0 {a0 : Nat} {x1 : Int32} {M : aM} (h1 : mK M a0 = 2) (h2 : mK M (mR M a0 2) = 7) : run 1 28 0 [.ref a0, .int x1, xU] [] M = if ¬ (mI M a0 3) < (mI M (mR M a0 2) 5) then run 1 28 29 [.ref a0, .int x1, xU] [] M else run 1 28 14 [.ref a0, .int x1, xU] [] M :=
  Eq.trans (r_aload_n mt28 dX2_refuse_0 rfl) (Eq.trans (r_geti mt28 dX2_refuse_1 f2_34 h1 (by decide) rfl) (Eq.trans (r_aload_n mt28 dX2_refuse_4 rfl) (Eq.trans (r_getr mt28 dX2_refuse_5 f2_23 h1 (by decide) rfl) (Eq.trans (r_geti mt28 dX2_refuse_8 f2_126 h2 (by decide) rfl) (r_icmp_ge mt28 dX2_refuse_11 rfl)))))
theorem b28_14 {a0 : Nat} {x1 : Int32} {M : aM} (h1 : mK M a0 = 2) (h2 : mK M (mR M a0 2) = 7) (h3 : mK M (mR M (mR M a0 2) 2) = 12) (h4 : ib (mI M a0 3) (mN M (mR M (mR M a0 2) 2))) : run 1 28 14 [.ref a0, .int x1, xU] [] M = run 1 28 30 [.ref a0, .int x1, xU] [.int (mI M (mR M (mR M a0 2) 2) (mI M a0 3).toNatClampNeg)] M :=
  Eq.trans (r_aload_n mt28 dX2_refuse_14 rfl) (Eq.trans (r_getr mt28 dX2_refuse_15 f2_23 h1 (by decide) rfl) (Eq.trans (r_getr mt28 dX2_refuse_18 f2_135 h2 (by decide) rfl) (Eq.trans (r_aload_n mt28 dX2_refuse_21 rfl) (Eq.trans (r_geti mt28 dX2_refuse_22 f2_34 h1 (by decide) rfl) (Eq.trans (r_iald mt28 dX2_refuse_25 h3 h4) (r_goto mt28 dX2_refuse_26 rfl))))))
theorem b28_29 {a0 : Nat} {x1 : Int32} {M : aM}  : run 1 28 29 [.ref a0, .int x1, xU] [] M = run 1 28 30 [.ref a0, .int x1, xU] [.int 0] M :=
  r_iconst (v := 0) mt28 dX2_refuse_29 rfl
theorem b28_30 {a0 : Nat} {x1 : Int32} {sx0 : Int32} {M : aM} (h1 : mK M a0 = 2) : run 1 28 30 [.ref a0, .int x1, xU] [.int sx0] M = some (some (.int 0), wI M a0 7 ((1 + (8 * sx0)) + x1)) :=
  Eq.trans (r_istore_n (L' := [.ref a0, .int x1, .int sx0]) mt28 dX2_refuse_30 (Nat.le_of_ble_eq_true rfl) rfl) (Eq.trans (r_aload_n mt28 dX2_refuse_31 rfl) (Eq.trans (r_iconst (v := 1) mt28 dX2_refuse_32 rfl) (Eq.trans (r_bipush (v := 8) mt28 dX2_refuse_33 rfl) (Eq.trans (r_iload_n mt28 dX2_refuse_35 rfl) (Eq.trans (r_imul mt28 dX2_refuse_36) (Eq.trans (r_iadd mt28 dX2_refuse_37) (Eq.trans (r_iload_n mt28 dX2_refuse_38 rfl) (Eq.trans (r_iadd mt28 dX2_refuse_39) (Eq.trans (r_puti mt28 dX2_refuse_40 f2_27 h1 (by decide) (Or.inl rfl) rfl rfl) (Eq.trans (r_iconst (v := 0) mt28 dX2_refuse_43 rfl) (r_iret mt28 dX2_refuse_44 rfl)))))))))))
-- 77: X7_init()V
theorem e77 {a0 : Nat} {M : aM} : call 77 [.ref a0] M = run 1 77 0 [.ref a0] [] M := rfl
theorem b77_0 {a0 : Nat} {M : aM} (h1 : mK M a0 = 7) (h2 : mK (wN M 12 400 400) a0 = 7) : run 1 77 0 [.ref a0] [] M = run 1 77 19 [.ref a0] [.ref (mX (wN M 12 400 400) + 32), .ref a0] (wN (wR (wN M 12 400 400) a0 0 (mX M + 32)) 12 401 401) :=
  Eq.trans (r_aload_n mt77 dX7_init_0 rfl) (Eq.trans (r_oin mt77 dX7_init_1 m7_3 (Nat.le_of_ble_eq_true rfl) h1 (by decide)) (Eq.trans (r_aload_n mt77 dX7_init_4 rfl) (Eq.trans (r_sipush (v := 400) mt77 dX7_init_5 rfl) (Eq.trans (r_newa mt77 dX7_init_8 rfl (by decide) (by decide) (N := 400) (by decide) (by decide)) (Eq.trans (r_putr mt77 dX7_init_10 f7_11 h2 (by decide) (Or.inr ⟨rfl, rfl⟩) rfl) (Eq.trans (r_aload_n mt77 dX7_init_13 rfl) (Eq.trans (r_sipush (v := 401) mt77 dX7_init_14 rfl) (r_newa mt77 dX7_init_17 rfl (by decide) (by decide) (N := 401) (by decide) (by decide)))))))))
theorem b77_19 {a0 : Nat} {sa1 : Nat} {sa0 : Nat} {M : aM} (h1 : mK M sa0 = 7) (h2 : mK (wN (wR M sa0 1 sa1) 12 401 401) a0 = 7) : run 1 77 19 [.ref a0] [.ref sa1, .ref sa0] M = run 1 77 31 [.ref a0] [] (wR (wN (wR M sa0 1 sa1) 12 401 401) a0 2 (mX M + 32)) :=
  Eq.trans (r_putr mt77 dX7_init_19 f7_15 h1 (by decide) (Or.inr ⟨rfl, rfl⟩) rfl) (Eq.trans (r_aload_n mt77 dX7_init_22 rfl) (Eq.trans (r_sipush (v := 401) mt77 dX7_init_23 rfl) (Eq.trans (r_newa mt77 dX7_init_26 rfl (by decide) (by decide) (N := 401) (by decide) (by decide)) (r_putr mt77 dX7_init_28 f7_18 h2 (by decide) (Or.inr ⟨rfl, rfl⟩) rfl))))
theorem b77_31 {a0 : Nat} {M : aM} (h1 : mK (wN M 12 401 401) a0 = 7) : run 1 77 31 [.ref a0] [] M = some (none, wR (wN M 12 401 401) a0 3 (mX M + 32)) :=
  Eq.trans (r_aload_n mt77 dX7_init_31 rfl) (Eq.trans (r_sipush (v := 401) mt77 dX7_init_32 rfl) (Eq.trans (r_newa mt77 dX7_init_35 rfl (by decide) (by decide) (N := 401) (by decide) (by decide)) (Eq.trans (r_putr mt77 dX7_init_37 f7_21 h1 (by decide) (Or.inr ⟨rfl, rfl⟩) rfl) (r_vret mt77 dX7_init_40 rfl))))
-- 78: X7_hasRoom()Z
theorem e78 {a0 : Nat} {M : aM} : call 78 [.ref a0] M = run 1 78 0 [.ref a0] [] M := rfl
theorem b78_0 {a0 : Nat} {M : aM} (h1 : mK M a0 = 7) : run 1 78 0 [.ref a0] [] M = if 400 < ((mI M a0 4) + 20) then run 1 78 17 [.ref a0] [] M else run 1 78 13 [.ref a0] [] M :=
  Eq.trans (r_aload_n mt78 dX7_hasRoom_0 rfl) (Eq.trans (r_geti mt78 dX7_hasRoom_1 f7_24 h1 (by decide) rfl) (Eq.trans (r_bipush (v := 20) mt78 dX7_hasRoom_4 rfl) (Eq.trans (r_iadd mt78 dX7_hasRoom_6) (Eq.trans (r_sipush (v := 400) mt78 dX7_hasRoom_7 rfl) (r_icmp_gt mt78 dX7_hasRoom_10 rfl)))))
theorem b78_13 {a0 : Nat} {M : aM}  : run 1 78 13 [.ref a0] [] M = run 1 78 18 [.ref a0] [.int 1] M :=
  Eq.trans (r_iconst (v := 1) mt78 dX7_hasRoom_13 rfl) (r_goto mt78 dX7_hasRoom_14 rfl)
theorem b78_17 {a0 : Nat} {M : aM}  : run 1 78 17 [.ref a0] [] M = run 1 78 18 [.ref a0] [.int 0] M :=
  r_iconst (v := 0) mt78 dX7_hasRoom_17 rfl
theorem b78_18 {a0 : Nat} {sx0 : Int32} {M : aM} (h1 : rtI (some .boolean) sx0 = true) : run 1 78 18 [.ref a0] [.int sx0] M = some (some (.int sx0), M) :=
  r_iret mt78 dX7_hasRoom_18 h1
-- 79: X7_take(I)V
theorem e79 {a0 : Nat} {x1 : Int32} {M : aM} : call 79 [.ref a0, .int x1] M = run 1 79 0 [.ref a0, .int x1, xU] [] M := rfl
theorem b79_0 {a0 : Nat} {x1 : Int32} {M : aM}  : run 1 79 0 [.ref a0, .int x1, xU] [] M = run 1 79 3 [.ref a0, .int x1, .int 24] [] M :=
  Eq.trans (r_bipush (v := 24) mt79 dX7_take_0 rfl) (r_istore_n (L' := [.ref a0, .int x1, .int 24]) mt79 dX7_take_2 (Nat.le_of_ble_eq_true rfl) rfl)
theorem b79_3 {a0 : Nat} {x1 : Int32} {x2 : Int32} {M : aM}  : run 1 79 3 [.ref a0, .int x1, .int x2] [] M = if x2 < 0 then run 1 79 49 [.ref a0, .int x1, .int x2] [] M else run 1 79 7 [.ref a0, .int x1, .int x2] [] M :=
  Eq.trans (r_iload_n mt79 dX7_take_3 rfl) (r_if_lt mt79 dX7_take_4 rfl)
theorem b79_7 {a0 : Nat} {x1 : Int32} {x2 : Int32} {M : aM} (h1 : mK M a0 = 7) : run 1 79 7 [.ref a0, .int x1, .int x2] [] M = if ¬ (mI M a0 4) < 400 then run 1 79 49 [.ref a0, .int x1, .int x2] [] M else run 1 79 17 [.ref a0, .int x1, .int x2] [] M :=
  Eq.trans (r_aload_n mt79 dX7_take_7 rfl) (Eq.trans (r_geti mt79 dX7_take_8 f7_24 h1 (by decide) rfl) (Eq.trans (r_sipush (v := 400) mt79 dX7_take_11 rfl) (r_icmp_ge mt79 dX7_take_14 rfl)))
theorem b79_17 {a0 : Nat} {x1 : Int32} {x2 : Int32} {M : aM} (h1 : mK M a0 = 7) (h2 : mK M (mR M a0 0) = 12) (h3 : ib (mI M a0 4) (mN M (mR M a0 0))) : run 1 79 17 [.ref a0, .int x1, .int x2] [] M = run 1 79 3 [.ref a0, .int x1, .int (x2 + (-8))] [] (wI (wI M (mR M a0 0) (mI M a0 4).toNatClampNeg ((x1 >>> (x2 &&& 31)) &&& 255)) a0 4 ((mI (wI M (mR M a0 0) (mI M a0 4).toNatClampNeg ((x1 >>> (x2 &&& 31)) &&& 255)) a0 4) + 1)) :=
  Eq.trans (r_aload_n mt79 dX7_take_17 rfl) (Eq.trans (r_getr mt79 dX7_take_18 f7_11 h1 (by decide) rfl) (Eq.trans (r_aload_n mt79 dX7_take_21 rfl) (Eq.trans (r_geti mt79 dX7_take_22 f7_24 h1 (by decide) rfl) (Eq.trans (r_iload_n mt79 dX7_take_25 rfl) (Eq.trans (r_iload_n mt79 dX7_take_26 rfl) (Eq.trans (r_ishr mt79 dX7_take_27) (Eq.trans (r_sipush (v := 255) mt79 dX7_take_28 rfl) (Eq.trans (r_iand mt79 dX7_take_31) (Eq.trans (r_iast mt79 dX7_take_32 h2 h3) (Eq.trans (r_aload_n mt79 dX7_take_33 rfl) (Eq.trans (r_dup mt79 dX7_take_34 rfl) (Eq.trans (r_geti mt79 dX7_take_35 f7_24 h1 (by decide) rfl) (Eq.trans (r_iconst (v := 1) mt79 dX7_take_38 rfl) (Eq.trans (r_iadd mt79 dX7_take_39) (Eq.trans (r_puti mt79 dX7_take_40 f7_24 h1 (by decide) (Or.inl rfl) rfl rfl) (Eq.trans (r_iinc (v := -8) (L' := [.ref a0, .int x1, .int (x2 + (-8))]) mt79 dX7_take_43 rfl rfl rfl) (r_goto mt79 dX7_take_46 rfl)))))))))))))))))
theorem b79_49 {a0 : Nat} {x1 : Int32} {x2 : Int32} {M : aM}  : run 1 79 49 [.ref a0, .int x1, .int x2] [] M = some (none, M) :=
  r_vret mt79 dX7_take_49 rfl
-- 80: X7_cut(I)Z
theorem e80 {a0 : Nat} {x1 : Int32} {M : aM} : call 80 [.ref a0, .int x1] M = run 1 80 0 [.ref a0, .int x1] [] M := rfl
theorem b80_0 {a0 : Nat} {x1 : Int32} {M : aM}  : run 1 80 0 [.ref a0, .int x1] [] M = if x1 < 0 then run 1 80 12 [.ref a0, .int x1] [] M else run 1 80 4 [.ref a0, .int x1] [] M :=
  Eq.trans (r_iload_n mt80 dX7_cut_0 rfl) (r_if_lt mt80 dX7_cut_1 rfl)
theorem b80_4 {a0 : Nat} {x1 : Int32} {M : aM} (h1 : mK M a0 = 7) : run 1 80 4 [.ref a0, .int x1] [] M = if ¬ (mI M a0 4) < x1 then run 1 80 14 [.ref a0, .int x1] [] M else run 1 80 12 [.ref a0, .int x1] [] M :=
  Eq.trans (r_iload_n mt80 dX7_cut_4 rfl) (Eq.trans (r_aload_n mt80 dX7_cut_5 rfl) (Eq.trans (r_geti mt80 dX7_cut_6 f7_24 h1 (by decide) rfl) (r_icmp_le mt80 dX7_cut_9 rfl)))
theorem b80_12 {a0 : Nat} {x1 : Int32} {M : aM}  : run 1 80 12 [.ref a0, .int x1] [] M = some (some (.int 0), M) :=
  Eq.trans (r_iconst (v := 0) mt80 dX7_cut_12 rfl) (r_iret mt80 dX7_cut_13 rfl)
theorem b80_14 {a0 : Nat} {x1 : Int32} {M : aM} (h1 : mK M a0 = 7) : run 1 80 14 [.ref a0, .int x1] [] M = some (some (.int 1), wI M a0 4 x1) :=
  Eq.trans (r_aload_n mt80 dX7_cut_14 rfl) (Eq.trans (r_iload_n mt80 dX7_cut_15 rfl) (Eq.trans (r_puti mt80 dX7_cut_16 f7_24 h1 (by decide) (Or.inl rfl) rfl rfl) (Eq.trans (r_iconst (v := 1) mt80 dX7_cut_19 rfl) (r_iret mt80 dX7_cut_20 rfl))))
-- 81: X7_scan()V
theorem e81 {a0 : Nat} {M : aM} : call 81 [.ref a0] M = run 5 81 0 [.ref a0, xU, xU] [] M := rfl
theorem b81_0 {a0 : Nat} {M : aM} (h1 : mK M a0 = 7) : run 5 81 0 [.ref a0, xU, xU] [] M = run 5 81 9 [.ref a0, .int 0, .int 0] [] (wI M a0 5 0) :=
  Eq.trans (r_aload_n mt81 dX7_scan_0 rfl) (Eq.trans (r_iconst (v := 0) mt81 dX7_scan_1 rfl) (Eq.trans (r_puti mt81 dX7_scan_2 f7_28 h1 (by decide) (Or.inl rfl) rfl rfl) (Eq.trans (r_iconst (v := 0) mt81 dX7_scan_5 rfl) (Eq.trans (r_istore_n (L' := [.ref a0, .int 0, xU]) mt81 dX7_scan_6 (Nat.le_of_ble_eq_true rfl) rfl) (Eq.trans (r_iconst (v := 0) mt81 dX7_scan_7 rfl) (r_istore_n (L' := [.ref a0, .int 0, .int 0]) mt81 dX7_scan_8 (Nat.le_of_ble_eq_true rfl) rfl))))))
theorem b81_9 {a0 : Nat} {x1 : Int32} {x2 : Int32} {M : aM} (h1 : mK M a0 = 7) : run 5 81 9 [.ref a0, .int x1, .int x2] [] M = if ¬ x2 < (mI M a0 4) then run 5 81 45 [.ref a0, .int x1, .int x2] [] M else run 5 81 17 [.ref a0, .int x1, .int x2] [] M :=
  Eq.trans (r_iload_n mt81 dX7_scan_9 rfl) (Eq.trans (r_aload_n mt81 dX7_scan_10 rfl) (Eq.trans (r_geti mt81 dX7_scan_11 f7_24 h1 (by decide) rfl) (r_icmp_ge mt81 dX7_scan_14 rfl)))
theorem b81_17 {a0 : Nat} {x1 : Int32} {x2 : Int32} {M : aM}  : run 5 81 17 [.ref a0, .int x1, .int x2] [] M = if x2 < x1 then run 5 81 39 [.ref a0, .int x1, .int x2] [] M else run 5 81 22 [.ref a0, .int x1, .int x2] [] M :=
  Eq.trans (r_iload_n mt81 dX7_scan_17 rfl) (Eq.trans (r_iload_n mt81 dX7_scan_18 rfl) (r_icmp_lt mt81 dX7_scan_19 rfl))
theorem b81_22 {a0 : Nat} {x1 : Int32} {x2 : Int32} {M : aM} (h1 : mK M a0 = 7) (h2 : mK M (mR M a0 0) = 12) (h3 : ib x2 (mN M (mR M a0 0))) : run 5 81 22 [.ref a0, .int x1, .int x2] [] M = if (mI M (mR M a0 0) (x2).toNatClampNeg) = 32 then run 5 81 39 [.ref a0, .int x1, .int x2] [] M else run 5 81 33 [.ref a0, .int x1, .int x2] [] M :=
  Eq.trans (r_aload_n mt81 dX7_scan_22 rfl) (Eq.trans (r_getr mt81 dX7_scan_23 f7_11 h1 (by decide) rfl) (Eq.trans (r_iload_n mt81 dX7_scan_26 rfl) (Eq.trans (r_iald mt81 dX7_scan_27 h2 h3) (Eq.trans (r_bipush (v := 32) mt81 dX7_scan_28 rfl) (r_icmp_eq mt81 dX7_scan_30 rfl)))))
theorem b81_33 {a0 : Nat} {x1 : Int32} {x2 : Int32} {M : aM} (h1 : mK M a0 = 7) : run 5 81 33 [.ref a0, .int x1, .int x2] [] M = (call 82 [.ref a0, .int x2] M).bind (fun r => run 5 81 38 [.ref a0, .int x1, .int x2] (r.1.toList ++ []) r.2) :=
  Eq.trans (r_aload_n mt81 dX7_scan_33 rfl) (Eq.trans (r_iload_n mt81 dX7_scan_34 rfl) (r_cv (as := [.ref a0, .int x2]) (rest := []) mt81 dX7_scan_35 m7_31 (by decide) rfl rfl rfl h1 (Nat.le_of_ble_eq_true rfl) (Nat.le_of_ble_eq_true rfl) rfl (by decide) (Nat.le_of_ble_eq_true rfl)))
theorem b81_38 {a0 : Nat} {x1 : Int32} {x2 : Int32} {sx0 : Int32} {M : aM}  : run 5 81 38 [.ref a0, .int x1, .int x2] [.int sx0] M = run 5 81 39 [.ref a0, .int sx0, .int x2] [] M :=
  r_istore_n (L' := [.ref a0, .int sx0, .int x2]) mt81 dX7_scan_38 (Nat.le_of_ble_eq_true rfl) rfl
theorem b81_39 {a0 : Nat} {x1 : Int32} {x2 : Int32} {M : aM}  : run 5 81 39 [.ref a0, .int x1, .int x2] [] M = run 5 81 9 [.ref a0, .int x1, .int (x2 + 1)] [] M :=
  Eq.trans (r_iinc (v := 1) (L' := [.ref a0, .int x1, .int (x2 + 1)]) mt81 dX7_scan_39 rfl rfl rfl) (r_goto mt81 dX7_scan_42 rfl)
theorem b81_45 {a0 : Nat} {x1 : Int32} {x2 : Int32} {M : aM} (h1 : mK M a0 = 7) : run 5 81 45 [.ref a0, .int x1, .int x2] [] M = (call 86 [.ref a0, .int 0, .int (mI M a0 4), .int 0] M).bind (fun r => run 5 81 55 [.ref a0, .int x1, .int x2] (r.1.toList ++ []) r.2) :=
  Eq.trans (r_aload_n mt81 dX7_scan_45 rfl) (Eq.trans (r_iconst (v := 0) mt81 dX7_scan_46 rfl) (Eq.trans (r_aload_n mt81 dX7_scan_47 rfl) (Eq.trans (r_geti mt81 dX7_scan_48 f7_24 h1 (by decide) rfl) (Eq.trans (r_iconst (v := 0) mt81 dX7_scan_51 rfl) (r_cv (as := [.ref a0, .int 0, .int (mI M a0 4), .int 0]) (rest := []) mt81 dX7_scan_52 m7_35 (by decide) rfl rfl rfl h1 (Nat.le_of_ble_eq_true rfl) (Nat.le_of_ble_eq_true rfl) rfl (by decide) (Nat.le_of_ble_eq_true rfl))))))
theorem b81_55 {a0 : Nat} {x1 : Int32} {x2 : Int32} {M : aM} (h1 : mK M a0 = 7) : run 5 81 55 [.ref a0, .int x1, .int x2] [] M = some (none, wI M a0 4 0) :=
  Eq.trans (r_aload_n mt81 dX7_scan_55 rfl) (Eq.trans (r_iconst (v := 0) mt81 dX7_scan_56 rfl) (Eq.trans (r_puti mt81 dX7_scan_57 f7_24 h1 (by decide) (Or.inl rfl) rfl rfl) (r_vret mt81 dX7_scan_60 rfl)))
-- 82: X7_scanToken(I)I
theorem e82 {a0 : Nat} {x1 : Int32} {M : aM} : call 82 [.ref a0, .int x1] M = run 4 82 0 [.ref a0, .int x1, xU, xU] [] M := rfl
theorem b82_0 {a0 : Nat} {x1 : Int32} {M : aM} (h1 : mK M a0 = 7) (h2 : mK M (mR M a0 0) = 12) (h3 : ib x1 (mN M (mR M a0 0))) : run 4 82 0 [.ref a0, .int x1, xU, xU] [] M = (call 87 [.int (mI M (mR M a0 0) (x1).toNatClampNeg)] M).bind (fun r => run 4 82 11 [.ref a0, .int x1, .int (mI M (mR M a0 0) (x1).toNatClampNeg), xU] (r.1.toList ++ []) r.2) :=
  Eq.trans (r_aload_n mt82 dX7_scanToken_0 rfl) (Eq.trans (r_getr mt82 dX7_scanToken_1 f7_11 h1 (by decide) rfl) (Eq.trans (r_iload_n mt82 dX7_scanToken_4 rfl) (Eq.trans (r_iald mt82 dX7_scanToken_5 h2 h3) (Eq.trans (r_istore_n (L' := [.ref a0, .int x1, .int (mI M (mR M a0 0) (x1).toNatClampNeg), xU]) mt82 dX7_scanToken_6 (Nat.le_of_ble_eq_true rfl) rfl) (Eq.trans (r_iload_n mt82 dX7_scanToken_7 rfl) (r_cs (as := [.int (mI M (mR M a0 0) (x1).toNatClampNeg)]) (rest := []) mt82 dX7_scanToken_8 m7_39 (Or.inl rfl) rfl rfl (Nat.le_of_ble_eq_true rfl) (Nat.le_of_ble_eq_true rfl) rfl (by decide) (Nat.le_of_ble_eq_true rfl)))))))
theorem b82_11 {a0 : Nat} {x1 : Int32} {x2 : Int32} {sx0 : Int32} {M : aM}  : run 4 82 11 [.ref a0, .int x1, .int x2, xU] [.int sx0] M = if sx0 = 0 then run 4 82 20 [.ref a0, .int x1, .int x2, xU] [] M else run 4 82 14 [.ref a0, .int x1, .int x2, xU] [] M :=
  r_if_eq mt82 dX7_scanToken_11 rfl
theorem b82_14 {a0 : Nat} {x1 : Int32} {x2 : Int32} {M : aM} (h1 : mK M a0 = 7) : run 4 82 14 [.ref a0, .int x1, .int x2, xU] [] M = (call 83 [.ref a0, .int x1] M).bind (fun r => run 4 82 19 [.ref a0, .int x1, .int x2, xU] (r.1.toList ++ []) r.2) :=
  Eq.trans (r_aload_n mt82 dX7_scanToken_14 rfl) (Eq.trans (r_iload_n mt82 dX7_scanToken_15 rfl) (r_cv (as := [.ref a0, .int x1]) (rest := []) mt82 dX7_scanToken_16 m7_43 (by decide) rfl rfl rfl h1 (Nat.le_of_ble_eq_true rfl) (Nat.le_of_ble_eq_true rfl) rfl (by decide) (Nat.le_of_ble_eq_true rfl)))
theorem b82_19 {a0 : Nat} {x1 : Int32} {x2 : Int32} {sx0 : Int32} {M : aM}  : run 4 82 19 [.ref a0, .int x1, .int x2, xU] [.int sx0] M = some (some (.int sx0), M) :=
  r_iret mt82 dX7_scanToken_19 rfl
theorem b82_20 {a0 : Nat} {x1 : Int32} {x2 : Int32} {M : aM}  : run 4 82 20 [.ref a0, .int x1, .int x2, xU] [] M = (call 88 [.int x2] M).bind (fun r => run 4 82 24 [.ref a0, .int x1, .int x2, xU] (r.1.toList ++ []) r.2) :=
  Eq.trans (r_iload_n mt82 dX7_scanToken_20 rfl) (r_cs (as := [.int x2]) (rest := []) mt82 dX7_scanToken_21 m7_46 (Or.inl rfl) rfl rfl (Nat.le_of_ble_eq_true rfl) (Nat.le_of_ble_eq_true rfl) rfl (by decide) (Nat.le_of_ble_eq_true rfl))
theorem b82_24 {a0 : Nat} {x1 : Int32} {x2 : Int32} {sx0 : Int32} {M : aM}  : run 4 82 24 [.ref a0, .int x1, .int x2, xU] [.int sx0] M = if sx0 = 0 then run 4 82 33 [.ref a0, .int x1, .int x2, xU] [] M else run 4 82 27 [.ref a0, .int x1, .int x2, xU] [] M :=
  r_if_eq mt82 dX7_scanToken_24 rfl
theorem b82_27 {a0 : Nat} {x1 : Int32} {x2 : Int32} {M : aM} (h1 : mK M a0 = 7) : run 4 82 27 [.ref a0, .int x1, .int x2, xU] [] M = (call 84 [.ref a0, .int x1] M).bind (fun r => run 4 82 32 [.ref a0, .int x1, .int x2, xU] (r.1.toList ++ []) r.2) :=
  Eq.trans (r_aload_n mt82 dX7_scanToken_27 rfl) (Eq.trans (r_iload_n mt82 dX7_scanToken_28 rfl) (r_cv (as := [.ref a0, .int x1]) (rest := []) mt82 dX7_scanToken_29 m7_49 (by decide) rfl rfl rfl h1 (Nat.le_of_ble_eq_true rfl) (Nat.le_of_ble_eq_true rfl) rfl (by decide) (Nat.le_of_ble_eq_true rfl)))
theorem b82_32 {a0 : Nat} {x1 : Int32} {x2 : Int32} {sx0 : Int32} {M : aM}  : run 4 82 32 [.ref a0, .int x1, .int x2, xU] [.int sx0] M = some (some (.int sx0), M) :=
  r_iret mt82 dX7_scanToken_32 rfl
theorem b82_33 {a0 : Nat} {x1 : Int32} {x2 : Int32} {M : aM} (h1 : mK M a0 = 7) : run 4 82 33 [.ref a0, .int x1, .int x2, xU] [] M = if ¬ (x1 + 1) < (mI M a0 4) then run 4 82 60 [.ref a0, .int x1, .int x2, xU] [] M else run 4 82 43 [.ref a0, .int x1, .int x2, xU] [] M :=
  Eq.trans (r_iload_n mt82 dX7_scanToken_33 rfl) (Eq.trans (r_iconst (v := 1) mt82 dX7_scanToken_34 rfl) (Eq.trans (r_iadd mt82 dX7_scanToken_35) (Eq.trans (r_aload_n mt82 dX7_scanToken_36 rfl) (Eq.trans (r_geti mt82 dX7_scanToken_37 f7_24 h1 (by decide) rfl) (r_icmp_ge mt82 dX7_scanToken_40 rfl)))))
theorem b82_43 {a0 : Nat} {x1 : Int32} {x2 : Int32} {M : aM} (h1 : mK M a0 = 7) (h2 : mK M (mR M a0 0) = 12) (h3 : ib (x1 + 1) (mN M (mR M a0 0))) : run 4 82 43 [.ref a0, .int x1, .int x2, xU] [] M = if ¬ (mI M (mR M a0 0) (x1 + 1).toNatClampNeg) = 61 then run 4 82 60 [.ref a0, .int x1, .int x2, xU] [] M else run 4 82 56 [.ref a0, .int x1, .int x2, xU] [] M :=
  Eq.trans (r_aload_n mt82 dX7_scanToken_43 rfl) (Eq.trans (r_getr mt82 dX7_scanToken_44 f7_11 h1 (by decide) rfl) (Eq.trans (r_iload_n mt82 dX7_scanToken_47 rfl) (Eq.trans (r_iconst (v := 1) mt82 dX7_scanToken_48 rfl) (Eq.trans (r_iadd mt82 dX7_scanToken_49) (Eq.trans (r_iald mt82 dX7_scanToken_50 h2 h3) (Eq.trans (r_bipush (v := 61) mt82 dX7_scanToken_51 rfl) (r_icmp_ne mt82 dX7_scanToken_53 rfl)))))))
theorem b82_56 {a0 : Nat} {x1 : Int32} {x2 : Int32} {M : aM}  : run 4 82 56 [.ref a0, .int x1, .int x2, xU] [] M = run 4 82 61 [.ref a0, .int x1, .int x2, xU] [.int 1] M :=
  Eq.trans (r_iconst (v := 1) mt82 dX7_scanToken_56 rfl) (r_goto mt82 dX7_scanToken_57 rfl)
theorem b82_60 {a0 : Nat} {x1 : Int32} {x2 : Int32} {M : aM}  : run 4 82 60 [.ref a0, .int x1, .int x2, xU] [] M = run 4 82 61 [.ref a0, .int x1, .int x2, xU] [.int 0] M :=
  r_iconst (v := 0) mt82 dX7_scanToken_60 rfl
theorem b82_61 {a0 : Nat} {x1 : Int32} {x2 : Int32} {sx0 : Int32} {M : aM}  : run 4 82 61 [.ref a0, .int x1, .int x2, xU] [.int sx0] M = if sx0 = 0 then run 4 82 101 [.ref a0, .int x1, .int x2, .int sx0] [] M else run 4 82 66 [.ref a0, .int x1, .int x2, .int sx0] [] M :=
  Eq.trans (r_istore_n (L' := [.ref a0, .int x1, .int x2, .int sx0]) mt82 dX7_scanToken_61 (Nat.le_of_ble_eq_true rfl) rfl) (Eq.trans (r_iload_n mt82 dX7_scanToken_62 rfl) (r_if_eq mt82 dX7_scanToken_63 rfl))
theorem b82_66 {a0 : Nat} {x1 : Int32} {x2 : Int32} {x3 : Int32} {M : aM}  : run 4 82 66 [.ref a0, .int x1, .int x2, .int x3] [] M = if x2 = 60 then run 4 82 78 [.ref a0, .int x1, .int x2, .int x3] [] M else run 4 82 72 [.ref a0, .int x1, .int x2, .int x3] [] M :=
  Eq.trans (r_iload_n mt82 dX7_scanToken_66 rfl) (Eq.trans (r_bipush (v := 60) mt82 dX7_scanToken_67 rfl) (r_icmp_eq mt82 dX7_scanToken_69 rfl))
theorem b82_72 {a0 : Nat} {x1 : Int32} {x2 : Int32} {x3 : Int32} {M : aM}  : run 4 82 72 [.ref a0, .int x1, .int x2, .int x3] [] M = if ¬ x2 = 62 then run 4 82 101 [.ref a0, .int x1, .int x2, .int x3] [] M else run 4 82 78 [.ref a0, .int x1, .int x2, .int x3] [] M :=
  Eq.trans (r_iload_n mt82 dX7_scanToken_72 rfl) (Eq.trans (r_bipush (v := 62) mt82 dX7_scanToken_73 rfl) (r_icmp_ne mt82 dX7_scanToken_75 rfl))
theorem b82_78 {a0 : Nat} {x1 : Int32} {x2 : Int32} {x3 : Int32} {M : aM}  : run 4 82 78 [.ref a0, .int x1, .int x2, .int x3] [] M = if ¬ x2 = 60 then run 4 82 90 [.ref a0, .int x1, .int x2, .int x3] [.ref a0] M else run 4 82 85 [.ref a0, .int x1, .int x2, .int x3] [.ref a0] M :=
  Eq.trans (r_aload_n mt82 dX7_scanToken_78 rfl) (Eq.trans (r_iload_n mt82 dX7_scanToken_79 rfl) (Eq.trans (r_bipush (v := 60) mt82 dX7_scanToken_80 rfl) (r_icmp_ne mt82 dX7_scanToken_82 rfl)))
theorem b82_85 {a0 : Nat} {x1 : Int32} {x2 : Int32} {x3 : Int32} {sa0 : Nat} {M : aM}  : run 4 82 85 [.ref a0, .int x1, .int x2, .int x3] [.ref sa0] M = run 4 82 92 [.ref a0, .int x1, .int x2, .int x3] [.int 10, .ref sa0] M :=
  Eq.trans (r_bipush (v := 10) mt82 dX7_scanToken_85 rfl) (r_goto mt82 dX7_scanToken_87 rfl)
theorem b82_90 {a0 : Nat} {x1 : Int32} {x2 : Int32} {x3 : Int32} {sa0 : Nat} {M : aM}  : run 4 82 90 [.ref a0, .int x1, .int x2, .int x3] [.ref sa0] M = run 4 82 92 [.ref a0, .int x1, .int x2, .int x3] [.int 12, .ref sa0] M :=
  r_bipush (v := 12) mt82 dX7_scanToken_90 rfl
theorem b82_92 {a0 : Nat} {x1 : Int32} {x2 : Int32} {x3 : Int32} {sx1 : Int32} {sa0 : Nat} {M : aM} (h1 : mK M sa0 = 7) : run 4 82 92 [.ref a0, .int x1, .int x2, .int x3] [.int sx1, .ref sa0] M = (call 86 [.ref sa0, .int sx1, .int x1, .int 0] M).bind (fun r => run 4 82 97 [.ref a0, .int x1, .int x2, .int x3] (r.1.toList ++ []) r.2) :=
  Eq.trans (r_iload_n mt82 dX7_scanToken_92 rfl) (Eq.trans (r_iconst (v := 0) mt82 dX7_scanToken_93 rfl) (r_cv (as := [.ref sa0, .int sx1, .int x1, .int 0]) (rest := []) mt82 dX7_scanToken_94 m7_35 (by decide) rfl rfl rfl h1 (Nat.le_of_ble_eq_true rfl) (Nat.le_of_ble_eq_true rfl) rfl (by decide) (Nat.le_of_ble_eq_true rfl)))
theorem b82_97 {a0 : Nat} {x1 : Int32} {x2 : Int32} {x3 : Int32} {M : aM}  : run 4 82 97 [.ref a0, .int x1, .int x2, .int x3] [] M = some (some (.int (x1 + 2)), M) :=
  Eq.trans (r_iload_n mt82 dX7_scanToken_97 rfl) (Eq.trans (r_iconst (v := 2) mt82 dX7_scanToken_98 rfl) (Eq.trans (r_iadd mt82 dX7_scanToken_99) (r_iret mt82 dX7_scanToken_100 rfl)))
theorem b82_101 {a0 : Nat} {x1 : Int32} {x2 : Int32} {x3 : Int32} {M : aM}  : run 4 82 101 [.ref a0, .int x1, .int x2, .int x3] [] M = (call 89 [.int x2] M).bind (fun r => run 4 82 106 [.ref a0, .int x1, .int x2, .int x3] (r.1.toList ++ [.ref a0]) r.2) :=
  Eq.trans (r_aload_n mt82 dX7_scanToken_101 rfl) (Eq.trans (r_iload_n mt82 dX7_scanToken_102 rfl) (r_cs (as := [.int x2]) (rest := [.ref a0]) mt82 dX7_scanToken_103 m7_52 (Or.inl rfl) rfl rfl (Nat.le_of_ble_eq_true rfl) (Nat.le_of_ble_eq_true rfl) rfl (by decide) (Nat.le_of_ble_eq_true rfl)))
theorem b82_106 {a0 : Nat} {x1 : Int32} {x2 : Int32} {x3 : Int32} {sx1 : Int32} {sa0 : Nat} {M : aM} (h1 : mK M sa0 = 7) : run 4 82 106 [.ref a0, .int x1, .int x2, .int x3] [.int sx1, .ref sa0] M = (call 86 [.ref sa0, .int sx1, .int x1, .int (x2 - 65)] M).bind (fun r => run 4 82 114 [.ref a0, .int x1, .int x2, .int x3] (r.1.toList ++ []) r.2) :=
  Eq.trans (r_iload_n mt82 dX7_scanToken_106 rfl) (Eq.trans (r_iload_n mt82 dX7_scanToken_107 rfl) (Eq.trans (r_bipush (v := 65) mt82 dX7_scanToken_108 rfl) (Eq.trans (r_isub mt82 dX7_scanToken_110) (r_cv (as := [.ref sa0, .int sx1, .int x1, .int (x2 - 65)]) (rest := []) mt82 dX7_scanToken_111 m7_35 (by decide) rfl rfl rfl h1 (Nat.le_of_ble_eq_true rfl) (Nat.le_of_ble_eq_true rfl) rfl (by decide) (Nat.le_of_ble_eq_true rfl)))))
theorem b82_114 {a0 : Nat} {x1 : Int32} {x2 : Int32} {x3 : Int32} {M : aM}  : run 4 82 114 [.ref a0, .int x1, .int x2, .int x3] [] M = some (some (.int (x1 + 1)), M) :=
  Eq.trans (r_iload_n mt82 dX7_scanToken_114 rfl) (Eq.trans (r_iconst (v := 1) mt82 dX7_scanToken_115 rfl) (Eq.trans (r_iadd mt82 dX7_scanToken_116) (r_iret mt82 dX7_scanToken_117 rfl)))
-- 83: X7_scanNumber(I)I
theorem e83 {a0 : Nat} {x1 : Int32} {M : aM} : call 83 [.ref a0, .int x1] M = run 2 83 0 [.ref a0, .int x1, xU, xU] [] M := rfl
theorem b83_0 {a0 : Nat} {x1 : Int32} {M : aM}  : run 2 83 0 [.ref a0, .int x1, xU, xU] [] M = run 2 83 4 [.ref a0, .int x1, .int 0, .int x1] [] M :=
  Eq.trans (r_iconst (v := 0) mt83 dX7_scanNumber_0 rfl) (Eq.trans (r_istore_n (L' := [.ref a0, .int x1, .int 0, xU]) mt83 dX7_scanNumber_1 (Nat.le_of_ble_eq_true rfl) rfl) (Eq.trans (r_iload_n mt83 dX7_scanNumber_2 rfl) (r_istore_n (L' := [.ref a0, .int x1, .int 0, .int x1]) mt83 dX7_scanNumber_3 (Nat.le_of_ble_eq_true rfl) rfl)))
theorem b83_4 {a0 : Nat} {x1 : Int32} {x2 : Int32} {x3 : Int32} {M : aM} (h1 : mK M a0 = 7) : run 2 83 4 [.ref a0, .int x1, .int x2, .int x3] [] M = if ¬ x3 < (mI M a0 4) then run 2 83 52 [.ref a0, .int x1, .int x2, .int x3] [] M else run 2 83 12 [.ref a0, .int x1, .int x2, .int x3] [] M :=
  Eq.trans (r_iload_n mt83 dX7_scanNumber_4 rfl) (Eq.trans (r_aload_n mt83 dX7_scanNumber_5 rfl) (Eq.trans (r_geti mt83 dX7_scanNumber_6 f7_24 h1 (by decide) rfl) (r_icmp_ge mt83 dX7_scanNumber_9 rfl)))
theorem b83_12 {a0 : Nat} {x1 : Int32} {x2 : Int32} {x3 : Int32} {M : aM} (h1 : mK M a0 = 7) (h2 : mK M (mR M a0 0) = 12) (h3 : ib x3 (mN M (mR M a0 0))) : run 2 83 12 [.ref a0, .int x1, .int x2, .int x3] [] M = (call 87 [.int (mI M (mR M a0 0) (x3).toNatClampNeg)] M).bind (fun r => run 2 83 21 [.ref a0, .int x1, .int x2, .int x3] (r.1.toList ++ []) r.2) :=
  Eq.trans (r_aload_n mt83 dX7_scanNumber_12 rfl) (Eq.trans (r_getr mt83 dX7_scanNumber_13 f7_11 h1 (by decide) rfl) (Eq.trans (r_iload_n mt83 dX7_scanNumber_16 rfl) (Eq.trans (r_iald mt83 dX7_scanNumber_17 h2 h3) (r_cs (as := [.int (mI M (mR M a0 0) (x3).toNatClampNeg)]) (rest := []) mt83 dX7_scanNumber_18 m7_39 (Or.inl rfl) rfl rfl (Nat.le_of_ble_eq_true rfl) (Nat.le_of_ble_eq_true rfl) rfl (by decide) (Nat.le_of_ble_eq_true rfl)))))
theorem b83_21 {a0 : Nat} {x1 : Int32} {x2 : Int32} {x3 : Int32} {sx0 : Int32} {M : aM}  : run 2 83 21 [.ref a0, .int x1, .int x2, .int x3] [.int sx0] M = if sx0 = 0 then run 2 83 52 [.ref a0, .int x1, .int x2, .int x3] [] M else run 2 83 24 [.ref a0, .int x1, .int x2, .int x3] [] M :=
  r_if_eq mt83 dX7_scanNumber_21 rfl
theorem b83_24 {a0 : Nat} {x1 : Int32} {x2 : Int32} {x3 : Int32} {M : aM}  : run 2 83 24 [.ref a0, .int x1, .int x2, .int x3] [] M = if ¬ (x3 - x1) < 5 then run 2 83 46 [.ref a0, .int x1, .int x2, .int x3] [] M else run 2 83 31 [.ref a0, .int x1, .int x2, .int x3] [] M :=
  Eq.trans (r_iload_n mt83 dX7_scanNumber_24 rfl) (Eq.trans (r_iload_n mt83 dX7_scanNumber_25 rfl) (Eq.trans (r_isub mt83 dX7_scanNumber_26) (Eq.trans (r_iconst (v := 5) mt83 dX7_scanNumber_27 rfl) (r_icmp_ge mt83 dX7_scanNumber_28 rfl))))
theorem b83_31 {a0 : Nat} {x1 : Int32} {x2 : Int32} {x3 : Int32} {M : aM} (h1 : mK M a0 = 7) (h2 : mK M (mR M a0 0) = 12) (h3 : ib x3 (mN M (mR M a0 0))) : run 2 83 31 [.ref a0, .int x1, .int x2, .int x3] [] M = run 2 83 46 [.ref a0, .int x1, .int (((x2 * 10) + (mI M (mR M a0 0) (x3).toNatClampNeg)) - 48), .int x3] [] M :=
  Eq.trans (r_iload_n mt83 dX7_scanNumber_31 rfl) (Eq.trans (r_bipush (v := 10) mt83 dX7_scanNumber_32 rfl) (Eq.trans (r_imul mt83 dX7_scanNumber_34) (Eq.trans (r_aload_n mt83 dX7_scanNumber_35 rfl) (Eq.trans (r_getr mt83 dX7_scanNumber_36 f7_11 h1 (by decide) rfl) (Eq.trans (r_iload_n mt83 dX7_scanNumber_39 rfl) (Eq.trans (r_iald mt83 dX7_scanNumber_40 h2 h3) (Eq.trans (r_iadd mt83 dX7_scanNumber_41) (Eq.trans (r_bipush (v := 48) mt83 dX7_scanNumber_42 rfl) (Eq.trans (r_isub mt83 dX7_scanNumber_44) (r_istore_n (L' := [.ref a0, .int x1, .int (((x2 * 10) + (mI M (mR M a0 0) (x3).toNatClampNeg)) - 48), .int x3]) mt83 dX7_scanNumber_45 (Nat.le_of_ble_eq_true rfl) rfl))))))))))
theorem b83_46 {a0 : Nat} {x1 : Int32} {x2 : Int32} {x3 : Int32} {M : aM}  : run 2 83 46 [.ref a0, .int x1, .int x2, .int x3] [] M = run 2 83 4 [.ref a0, .int x1, .int x2, .int (x3 + 1)] [] M :=
  Eq.trans (r_iinc (v := 1) (L' := [.ref a0, .int x1, .int x2, .int (x3 + 1)]) mt83 dX7_scanNumber_46 rfl rfl rfl) (r_goto mt83 dX7_scanNumber_49 rfl)
theorem b83_52 {a0 : Nat} {x1 : Int32} {x2 : Int32} {x3 : Int32} {M : aM}  : run 2 83 52 [.ref a0, .int x1, .int x2, .int x3] [] M = if ¬ 5 < (x3 - x1) then run 2 83 66 [.ref a0, .int x1, .int x2, .int x3] [.int x1, .int 2, .ref a0] M else run 2 83 62 [.ref a0, .int x1, .int x2, .int x3] [.int x1, .int 2, .ref a0] M :=
  Eq.trans (r_aload_n mt83 dX7_scanNumber_52 rfl) (Eq.trans (r_iconst (v := 2) mt83 dX7_scanNumber_53 rfl) (Eq.trans (r_iload_n mt83 dX7_scanNumber_54 rfl) (Eq.trans (r_iload_n mt83 dX7_scanNumber_55 rfl) (Eq.trans (r_iload_n mt83 dX7_scanNumber_56 rfl) (Eq.trans (r_isub mt83 dX7_scanNumber_57) (Eq.trans (r_iconst (v := 5) mt83 dX7_scanNumber_58 rfl) (r_icmp_le mt83 dX7_scanNumber_59 rfl)))))))
theorem b83_62 {a0 : Nat} {x1 : Int32} {x2 : Int32} {x3 : Int32} {sx2 : Int32} {sx1 : Int32} {sa0 : Nat} {M : aM}  : run 2 83 62 [.ref a0, .int x1, .int x2, .int x3] [.int sx2, .int sx1, .ref sa0] M = run 2 83 67 [.ref a0, .int x1, .int x2, .int x3] [.int (-1), .int sx2, .int sx1, .ref sa0] M :=
  Eq.trans (r_iconst (v := -1) mt83 dX7_scanNumber_62 rfl) (r_goto mt83 dX7_scanNumber_63 rfl)
theorem b83_66 {a0 : Nat} {x1 : Int32} {x2 : Int32} {x3 : Int32} {sx2 : Int32} {sx1 : Int32} {sa0 : Nat} {M : aM}  : run 2 83 66 [.ref a0, .int x1, .int x2, .int x3] [.int sx2, .int sx1, .ref sa0] M = run 2 83 67 [.ref a0, .int x1, .int x2, .int x3] [.int x2, .int sx2, .int sx1, .ref sa0] M :=
  r_iload_n mt83 dX7_scanNumber_66 rfl
theorem b83_67 {a0 : Nat} {x1 : Int32} {x2 : Int32} {x3 : Int32} {sx3 : Int32} {sx2 : Int32} {sx1 : Int32} {sa0 : Nat} {M : aM} (h1 : mK M sa0 = 7) : run 2 83 67 [.ref a0, .int x1, .int x2, .int x3] [.int sx3, .int sx2, .int sx1, .ref sa0] M = (call 86 [.ref sa0, .int sx1, .int sx2, .int sx3] M).bind (fun r => run 2 83 70 [.ref a0, .int x1, .int x2, .int x3] (r.1.toList ++ []) r.2) :=
  r_cv (as := [.ref sa0, .int sx1, .int sx2, .int sx3]) (rest := []) mt83 dX7_scanNumber_67 m7_35 (by decide) rfl rfl rfl h1 (Nat.le_of_ble_eq_true rfl) (Nat.le_of_ble_eq_true rfl) rfl (by decide) (Nat.le_of_ble_eq_true rfl)
theorem b83_70 {a0 : Nat} {x1 : Int32} {x2 : Int32} {x3 : Int32} {M : aM}  : run 2 83 70 [.ref a0, .int x1, .int x2, .int x3] [] M = some (some (.int x3), M) :=
  Eq.trans (r_iload_n mt83 dX7_scanNumber_70 rfl) (r_iret mt83 dX7_scanNumber_71 rfl)
-- 84: X7_scanWord(I)I
theorem e84 {a0 : Nat} {x1 : Int32} {M : aM} : call 84 [.ref a0, .int x1] M = run 3 84 0 [.ref a0, .int x1, xU, xU, xU] [] M := rfl
theorem b84_0 {a0 : Nat} {x1 : Int32} {M : aM}  : run 3 84 0 [.ref a0, .int x1, xU, xU, xU] [] M = run 3 84 2 [.ref a0, .int x1, .int x1, xU, xU] [] M :=
  Eq.trans (r_iload_n mt84 dX7_scanWord_0 rfl) (r_istore_n (L' := [.ref a0, .int x1, .int x1, xU, xU]) mt84 dX7_scanWord_1 (Nat.le_of_ble_eq_true rfl) rfl)
theorem b84_2 {a0 : Nat} {x1 : Int32} {x2 : Int32} {M : aM} (h1 : mK M a0 = 7) : run 3 84 2 [.ref a0, .int x1, .int x2, xU, xU] [] M = if ¬ x2 < (mI M a0 4) then run 3 84 28 [.ref a0, .int x1, .int x2, xU, xU] [] M else run 3 84 10 [.ref a0, .int x1, .int x2, xU, xU] [] M :=
  Eq.trans (r_iload_n mt84 dX7_scanWord_2 rfl) (Eq.trans (r_aload_n mt84 dX7_scanWord_3 rfl) (Eq.trans (r_geti mt84 dX7_scanWord_4 f7_24 h1 (by decide) rfl) (r_icmp_ge mt84 dX7_scanWord_7 rfl)))
theorem b84_10 {a0 : Nat} {x1 : Int32} {x2 : Int32} {M : aM} (h1 : mK M a0 = 7) (h2 : mK M (mR M a0 0) = 12) (h3 : ib x2 (mN M (mR M a0 0))) : run 3 84 10 [.ref a0, .int x1, .int x2, xU, xU] [] M = (call 88 [.int (mI M (mR M a0 0) (x2).toNatClampNeg)] M).bind (fun r => run 3 84 19 [.ref a0, .int x1, .int x2, xU, xU] (r.1.toList ++ []) r.2) :=
  Eq.trans (r_aload_n mt84 dX7_scanWord_10 rfl) (Eq.trans (r_getr mt84 dX7_scanWord_11 f7_11 h1 (by decide) rfl) (Eq.trans (r_iload_n mt84 dX7_scanWord_14 rfl) (Eq.trans (r_iald mt84 dX7_scanWord_15 h2 h3) (r_cs (as := [.int (mI M (mR M a0 0) (x2).toNatClampNeg)]) (rest := []) mt84 dX7_scanWord_16 m7_46 (Or.inl rfl) rfl rfl (Nat.le_of_ble_eq_true rfl) (Nat.le_of_ble_eq_true rfl) rfl (by decide) (Nat.le_of_ble_eq_true rfl)))))
theorem b84_19 {a0 : Nat} {x1 : Int32} {x2 : Int32} {sx0 : Int32} {M : aM}  : run 3 84 19 [.ref a0, .int x1, .int x2, xU, xU] [.int sx0] M = if sx0 = 0 then run 3 84 28 [.ref a0, .int x1, .int x2, xU, xU] [] M else run 3 84 22 [.ref a0, .int x1, .int x2, xU, xU] [] M :=
  r_if_eq mt84 dX7_scanWord_19 rfl
theorem b84_22 {a0 : Nat} {x1 : Int32} {x2 : Int32} {M : aM}  : run 3 84 22 [.ref a0, .int x1, .int x2, xU, xU] [] M = run 3 84 2 [.ref a0, .int x1, .int (x2 + 1), xU, xU] [] M :=
  Eq.trans (r_iinc (v := 1) (L' := [.ref a0, .int x1, .int (x2 + 1), xU, xU]) mt84 dX7_scanWord_22 rfl rfl rfl) (r_goto mt84 dX7_scanWord_25 rfl)
theorem b84_28 {a0 : Nat} {x1 : Int32} {x2 : Int32} {M : aM}  : run 3 84 28 [.ref a0, .int x1, .int x2, xU, xU] [] M = run 3 84 34 [.ref a0, .int x1, .int x2, .int 1, .int 14] [] M :=
  Eq.trans (r_iconst (v := 1) mt84 dX7_scanWord_28 rfl) (Eq.trans (r_istore_n (L' := [.ref a0, .int x1, .int x2, .int 1, xU]) mt84 dX7_scanWord_29 (Nat.le_of_ble_eq_true rfl) rfl) (Eq.trans (r_bipush (v := 14) mt84 dX7_scanWord_30 rfl) (r_istore (L' := [.ref a0, .int x1, .int x2, .int 1, .int 14]) mt84 dX7_scanWord_32 (Nat.le_of_ble_eq_true rfl) rfl)))
theorem b84_34 {a0 : Nat} {x1 : Int32} {x2 : Int32} {x3 : Int32} {x4 : Int32} {M : aM}  : run 3 84 34 [.ref a0, .int x1, .int x2, .int x3, .int x4] [] M = if ¬ x4 < 36 then run 3 84 64 [.ref a0, .int x1, .int x2, .int x3, .int x4] [] M else run 3 84 41 [.ref a0, .int x1, .int x2, .int x3, .int x4] [] M :=
  Eq.trans (r_iload mt84 dX7_scanWord_34 rfl) (Eq.trans (r_bipush (v := 36) mt84 dX7_scanWord_36 rfl) (r_icmp_ge mt84 dX7_scanWord_38 rfl))
theorem b84_41 {a0 : Nat} {x1 : Int32} {x2 : Int32} {x3 : Int32} {x4 : Int32} {M : aM}  : run 3 84 41 [.ref a0, .int x1, .int x2, .int x3, .int x4] [] M = (call 90 [.int x4] M).bind (fun r => run 3 84 49 [.ref a0, .int x1, .int x2, .int x3, .int x4] (r.1.toList ++ [.int x2, .int x1, .ref a0]) r.2) :=
  Eq.trans (r_aload_n mt84 dX7_scanWord_41 rfl) (Eq.trans (r_iload_n mt84 dX7_scanWord_42 rfl) (Eq.trans (r_iload_n mt84 dX7_scanWord_43 rfl) (Eq.trans (r_iload mt84 dX7_scanWord_44 rfl) (r_cs (as := [.int x4]) (rest := [.int x2, .int x1, .ref a0]) mt84 dX7_scanWord_46 m7_55 (Or.inl rfl) rfl rfl (Nat.le_of_ble_eq_true rfl) (Nat.le_of_ble_eq_true rfl) rfl (by decide) (Nat.le_of_ble_eq_true rfl)))))
theorem b84_49 {a0 : Nat} {x1 : Int32} {x2 : Int32} {x3 : Int32} {x4 : Int32} {sa3 : Nat} {sx2 : Int32} {sx1 : Int32} {sa0 : Nat} {M : aM} (h1 : mK M sa0 = 7) : run 3 84 49 [.ref a0, .int x1, .int x2, .int x3, .int x4] [.ref sa3, .int sx2, .int sx1, .ref sa0] M = (call 85 [.ref sa0, .int sx1, .int sx2, .ref sa3] M).bind (fun r => run 3 84 52 [.ref a0, .int x1, .int x2, .int x3, .int x4] (r.1.toList ++ []) r.2) :=
  r_cv (as := [.ref sa0, .int sx1, .int sx2, .ref sa3]) (rest := []) mt84 dX7_scanWord_49 m7_59 (by decide) rfl rfl rfl h1 (Nat.le_of_ble_eq_true rfl) (Nat.le_of_ble_eq_true rfl) rfl (by decide) (Nat.le_of_ble_eq_true rfl)
theorem b84_52 {a0 : Nat} {x1 : Int32} {x2 : Int32} {x3 : Int32} {x4 : Int32} {sx0 : Int32} {M : aM}  : run 3 84 52 [.ref a0, .int x1, .int x2, .int x3, .int x4] [.int sx0] M = if sx0 = 0 then run 3 84 58 [.ref a0, .int x1, .int x2, .int x3, .int x4] [] M else run 3 84 55 [.ref a0, .int x1, .int x2, .int x3, .int x4] [] M :=
  r_if_eq mt84 dX7_scanWord_52 rfl
theorem b84_55 {a0 : Nat} {x1 : Int32} {x2 : Int32} {x3 : Int32} {x4 : Int32} {M : aM}  : run 3 84 55 [.ref a0, .int x1, .int x2, .int x3, .int x4] [] M = run 3 84 58 [.ref a0, .int x1, .int x2, .int x4, .int x4] [] M :=
  Eq.trans (r_iload mt84 dX7_scanWord_55 rfl) (r_istore_n (L' := [.ref a0, .int x1, .int x2, .int x4, .int x4]) mt84 dX7_scanWord_57 (Nat.le_of_ble_eq_true rfl) rfl)
theorem b84_58 {a0 : Nat} {x1 : Int32} {x2 : Int32} {x3 : Int32} {x4 : Int32} {M : aM}  : run 3 84 58 [.ref a0, .int x1, .int x2, .int x3, .int x4] [] M = run 3 84 34 [.ref a0, .int x1, .int x2, .int x3, .int (x4 + 1)] [] M :=
  Eq.trans (r_iinc (v := 1) (L' := [.ref a0, .int x1, .int x2, .int x3, .int (x4 + 1)]) mt84 dX7_scanWord_58 rfl rfl rfl) (r_goto mt84 dX7_scanWord_61 rfl)
theorem b84_64 {a0 : Nat} {x1 : Int32} {x2 : Int32} {x3 : Int32} {x4 : Int32} {M : aM} (h1 : mK M a0 = 7) : run 3 84 64 [.ref a0, .int x1, .int x2, .int x3, .int x4] [] M = (call 86 [.ref a0, .int x3, .int x1, .int 0] M).bind (fun r => run 3 84 71 [.ref a0, .int x1, .int x2, .int x3, .int x4] (r.1.toList ++ []) r.2) :=
  Eq.trans (r_aload_n mt84 dX7_scanWord_64 rfl) (Eq.trans (r_iload_n mt84 dX7_scanWord_65 rfl) (Eq.trans (r_iload_n mt84 dX7_scanWord_66 rfl) (Eq.trans (r_iconst (v := 0) mt84 dX7_scanWord_67 rfl) (r_cv (as := [.ref a0, .int x3, .int x1, .int 0]) (rest := []) mt84 dX7_scanWord_68 m7_35 (by decide) rfl rfl rfl h1 (Nat.le_of_ble_eq_true rfl) (Nat.le_of_ble_eq_true rfl) rfl (by decide) (Nat.le_of_ble_eq_true rfl)))))
theorem b84_71 {a0 : Nat} {x1 : Int32} {x2 : Int32} {x3 : Int32} {x4 : Int32} {M : aM}  : run 3 84 71 [.ref a0, .int x1, .int x2, .int x3, .int x4] [] M = some (some (.int x2), M) :=
  Eq.trans (r_iload_n mt84 dX7_scanWord_71 rfl) (r_iret mt84 dX7_scanWord_72 rfl)
-- 85: X7_spells(IILjava/lang/String;)Z
theorem e85 {a0 : Nat} {x1 : Int32} {x2 : Int32} {a3 : Nat} {M : aM} : call 85 [.ref a0, .int x1, .int x2, .ref a3] M = run 1 85 0 [.ref a0, .int x1, .int x2, .ref a3, xU] [] M := rfl
theorem b85_0 {a0 : Nat} {x1 : Int32} {x2 : Int32} {a3 : Nat} {M : aM} (h1 : 2 ≤ a3) (h2 : a3 < 24) : run 1 85 0 [.ref a0, .int x1, .int x2, .ref a3, xU] [] M = if (x2 - x1) = (Int32.ofNat (slen.getD (a3 - 2) 0)) then run 1 85 12 [.ref a0, .int x1, .int x2, .ref a3, xU] [] M else run 1 85 10 [.ref a0, .int x1, .int x2, .ref a3, xU] [] M :=
  Eq.trans (r_iload_n mt85 dX7_spells_0 rfl) (Eq.trans (r_iload_n mt85 dX7_spells_1 rfl) (Eq.trans (r_isub mt85 dX7_spells_2) (Eq.trans (r_aload_n mt85 dX7_spells_3 rfl) (Eq.trans (r_slen mt85 dX7_spells_4 m7_63 (Nat.le_of_ble_eq_true rfl) h1 h2) (r_icmp_eq mt85 dX7_spells_7 rfl)))))
theorem b85_10 {a0 : Nat} {x1 : Int32} {x2 : Int32} {a3 : Nat} {M : aM}  : run 1 85 10 [.ref a0, .int x1, .int x2, .ref a3, xU] [] M = some (some (.int 0), M) :=
  Eq.trans (r_iconst (v := 0) mt85 dX7_spells_10 rfl) (r_iret mt85 dX7_spells_11 rfl)
theorem b85_12 {a0 : Nat} {x1 : Int32} {x2 : Int32} {a3 : Nat} {M : aM}  : run 1 85 12 [.ref a0, .int x1, .int x2, .ref a3, xU] [] M = run 1 85 15 [.ref a0, .int x1, .int x2, .ref a3, .int 0] [] M :=
  Eq.trans (r_iconst (v := 0) mt85 dX7_spells_12 rfl) (r_istore (L' := [.ref a0, .int x1, .int x2, .ref a3, .int 0]) mt85 dX7_spells_13 (Nat.le_of_ble_eq_true rfl) rfl)
theorem b85_15 {a0 : Nat} {x1 : Int32} {x2 : Int32} {a3 : Nat} {x4 : Int32} {M : aM} (h1 : 2 ≤ a3) (h2 : a3 < 24) : run 1 85 15 [.ref a0, .int x1, .int x2, .ref a3, .int x4] [] M = if ¬ x4 < (Int32.ofNat (slen.getD (a3 - 2) 0)) then run 1 85 50 [.ref a0, .int x1, .int x2, .ref a3, .int x4] [] M else run 1 85 24 [.ref a0, .int x1, .int x2, .ref a3, .int x4] [] M :=
  Eq.trans (r_iload mt85 dX7_spells_15 rfl) (Eq.trans (r_aload_n mt85 dX7_spells_17 rfl) (Eq.trans (r_slen mt85 dX7_spells_18 m7_63 (Nat.le_of_ble_eq_true rfl) h1 h2) (r_icmp_ge mt85 dX7_spells_21 rfl)))
theorem b85_24 {a0 : Nat} {x1 : Int32} {x2 : Int32} {a3 : Nat} {x4 : Int32} {M : aM} (h1 : mK M a0 = 7) (h2 : mK M (mR M a0 0) = 12) (h3 : ib (x1 + x4) (mN M (mR M a0 0))) (h4 : 2 ≤ a3) (h5 : a3 < 24) (h6 : ib x4 (slen.getD (a3 - 2) 0)) : run 1 85 24 [.ref a0, .int x1, .int x2, .ref a3, .int x4] [] M = if (mI M (mR M a0 0) (x1 + x4).toNatClampNeg) = ((sbyt.getD (a3 - 2) []).getD (x4).toNatClampNeg 0) then run 1 85 44 [.ref a0, .int x1, .int x2, .ref a3, .int x4] [] M else run 1 85 42 [.ref a0, .int x1, .int x2, .ref a3, .int x4] [] M :=
  Eq.trans (r_aload_n mt85 dX7_spells_24 rfl) (Eq.trans (r_getr mt85 dX7_spells_25 f7_11 h1 (by decide) rfl) (Eq.trans (r_iload_n mt85 dX7_spells_28 rfl) (Eq.trans (r_iload mt85 dX7_spells_29 rfl) (Eq.trans (r_iadd mt85 dX7_spells_31) (Eq.trans (r_iald mt85 dX7_spells_32 h2 h3) (Eq.trans (r_aload_n mt85 dX7_spells_33 rfl) (Eq.trans (r_iload mt85 dX7_spells_34 rfl) (Eq.trans (r_sch mt85 dX7_spells_36 m7_68 (Nat.le_of_ble_eq_true rfl) h4 h5 h6) (r_icmp_eq mt85 dX7_spells_39 rfl)))))))))
theorem b85_42 {a0 : Nat} {x1 : Int32} {x2 : Int32} {a3 : Nat} {x4 : Int32} {M : aM}  : run 1 85 42 [.ref a0, .int x1, .int x2, .ref a3, .int x4] [] M = some (some (.int 0), M) :=
  Eq.trans (r_iconst (v := 0) mt85 dX7_spells_42 rfl) (r_iret mt85 dX7_spells_43 rfl)
theorem b85_44 {a0 : Nat} {x1 : Int32} {x2 : Int32} {a3 : Nat} {x4 : Int32} {M : aM}  : run 1 85 44 [.ref a0, .int x1, .int x2, .ref a3, .int x4] [] M = run 1 85 15 [.ref a0, .int x1, .int x2, .ref a3, .int (x4 + 1)] [] M :=
  Eq.trans (r_iinc (v := 1) (L' := [.ref a0, .int x1, .int x2, .ref a3, .int (x4 + 1)]) mt85 dX7_spells_44 rfl rfl rfl) (r_goto mt85 dX7_spells_47 rfl)
theorem b85_50 {a0 : Nat} {x1 : Int32} {x2 : Int32} {a3 : Nat} {x4 : Int32} {M : aM}  : run 1 85 50 [.ref a0, .int x1, .int x2, .ref a3, .int x4] [] M = some (some (.int 1), M) :=
  Eq.trans (r_iconst (v := 1) mt85 dX7_spells_50 rfl) (r_iret mt85 dX7_spells_51 rfl)
-- 86: X7_putToken(III)V
theorem e86 {a0 : Nat} {x1 : Int32} {x2 : Int32} {x3 : Int32} {M : aM} : call 86 [.ref a0, .int x1, .int x2, .int x3] M = run 1 86 0 [.ref a0, .int x1, .int x2, .int x3] [] M := rfl
theorem b86_0 {a0 : Nat} {x1 : Int32} {x2 : Int32} {x3 : Int32} {M : aM} (h1 : mK M a0 = 7) (h2 : mK M (mR M a0 1) = 12) : run 1 86 0 [.ref a0, .int x1, .int x2, .int x3] [] M = if ¬ (mI M a0 5) < (Int32.ofNat (mN M (mR M a0 1))) then run 1 86 52 [.ref a0, .int x1, .int x2, .int x3] [] M else run 1 86 12 [.ref a0, .int x1, .int x2, .int x3] [] M :=
  Eq.trans (r_aload_n mt86 dX7_putToken_0 rfl) (Eq.trans (r_geti mt86 dX7_putToken_1 f7_28 h1 (by decide) rfl) (Eq.trans (r_aload_n mt86 dX7_putToken_4 rfl) (Eq.trans (r_getr mt86 dX7_putToken_5 f7_15 h1 (by decide) rfl) (Eq.trans (r_alen mt86 dX7_putToken_8 h2 (by decide) (by decide)) (r_icmp_ge mt86 dX7_putToken_9 rfl)))))
theorem b86_12 {a0 : Nat} {x1 : Int32} {x2 : Int32} {x3 : Int32} {M : aM} (h1 : mK M a0 = 7) (h2 : mK M (mR M a0 1) = 12) (h3 : ib (mI M a0 5) (mN M (mR M a0 1))) (h4 : mK M (mR M a0 2) = 12) (h5 : ib (mI (wI M (mR M a0 1) (mI M a0 5).toNatClampNeg x1) a0 5) (mN M (mR M a0 2))) (h6 : mK M (mR M a0 3) = 12) (h7 : ib (mI (wI (wI M (mR M a0 1) (mI M a0 5).toNatClampNeg x1) (mR M a0 2) (mI (wI M (mR M a0 1) (mI M a0 5).toNatClampNeg x1) a0 5).toNatClampNeg x2) a0 5) (mN M (mR M a0 3))) : run 1 86 12 [.ref a0, .int x1, .int x2, .int x3] [] M = run 1 86 42 [.ref a0, .int x1, .int x2, .int x3] [] (wI (wI (wI M (mR M a0 1) (mI M a0 5).toNatClampNeg x1) (mR M a0 2) (mI (wI M (mR M a0 1) (mI M a0 5).toNatClampNeg x1) a0 5).toNatClampNeg x2) (mR M a0 3) (mI (wI (wI M (mR M a0 1) (mI M a0 5).toNatClampNeg x1) (mR M a0 2) (mI (wI M (mR M a0 1) (mI M a0 5).toNatClampNeg x1) a0 5).toNatClampNeg x2) a0 5).toNatClampNeg x3) :=
  Eq.trans (r_aload_n mt86 dX7_putToken_12 rfl) (Eq.trans (r_getr mt86 dX7_putToken_13 f7_15 h1 (by decide) rfl) (Eq.trans (r_aload_n mt86 dX7_putToken_16 rfl) (Eq.trans (r_geti mt86 dX7_putToken_17 f7_28 h1 (by decide) rfl) (Eq.trans (r_iload_n mt86 dX7_putToken_20 rfl) (Eq.trans (r_iast mt86 dX7_putToken_21 h2 h3) (Eq.trans (r_aload_n mt86 dX7_putToken_22 rfl) (Eq.trans (r_getr mt86 dX7_putToken_23 f7_18 h1 (by decide) rfl) (Eq.trans (r_aload_n mt86 dX7_putToken_26 rfl) (Eq.trans (r_geti mt86 dX7_putToken_27 f7_28 h1 (by decide) rfl) (Eq.trans (r_iload_n mt86 dX7_putToken_30 rfl) (Eq.trans (r_iast mt86 dX7_putToken_31 h4 h5) (Eq.trans (r_aload_n mt86 dX7_putToken_32 rfl) (Eq.trans (r_getr mt86 dX7_putToken_33 f7_21 h1 (by decide) rfl) (Eq.trans (r_aload_n mt86 dX7_putToken_36 rfl) (Eq.trans (r_geti mt86 dX7_putToken_37 f7_28 h1 (by decide) rfl) (Eq.trans (r_iload_n mt86 dX7_putToken_40 rfl) (r_iast mt86 dX7_putToken_41 h6 h7)))))))))))))))))
theorem b86_52 {a0 : Nat} {x1 : Int32} {x2 : Int32} {x3 : Int32} {M : aM}  : run 1 86 52 [.ref a0, .int x1, .int x2, .int x3] [] M = some (none, M) :=
  r_vret mt86 dX7_putToken_52 rfl
theorem b86_42 {a0 : Nat} {x1 : Int32} {x2 : Int32} {x3 : Int32} {M : aM} (h1 : mK M a0 = 7) : run 1 86 42 [.ref a0, .int x1, .int x2, .int x3] [] M = run 1 86 52 [.ref a0, .int x1, .int x2, .int x3] [] (wI M a0 5 ((mI M a0 5) + 1)) :=
  Eq.trans (r_aload_n mt86 dX7_putToken_42 rfl) (Eq.trans (r_dup mt86 dX7_putToken_43 rfl) (Eq.trans (r_geti mt86 dX7_putToken_44 f7_28 h1 (by decide) rfl) (Eq.trans (r_iconst (v := 1) mt86 dX7_putToken_47 rfl) (Eq.trans (r_iadd mt86 dX7_putToken_48) (r_puti mt86 dX7_putToken_49 f7_28 h1 (by decide) (Or.inl rfl) rfl rfl)))))
-- 87: X7_isDigit(I)Z
theorem e87 {x0 : Int32} {M : aM} : call 87 [.int x0] M = run 1 87 0 [.int x0] [] M := rfl
theorem b87_0 {x0 : Int32} {M : aM}  : run 1 87 0 [.int x0] [] M = if x0 < 48 then run 1 87 16 [.int x0] [] M else run 1 87 6 [.int x0] [] M :=
  Eq.trans (r_iload_n mt87 dX7_isDigit_0 rfl) (Eq.trans (r_bipush (v := 48) mt87 dX7_isDigit_1 rfl) (r_icmp_lt mt87 dX7_isDigit_3 rfl))
theorem b87_6 {x0 : Int32} {M : aM}  : run 1 87 6 [.int x0] [] M = if 57 < x0 then run 1 87 16 [.int x0] [] M else run 1 87 12 [.int x0] [] M :=
  Eq.trans (r_iload_n mt87 dX7_isDigit_6 rfl) (Eq.trans (r_bipush (v := 57) mt87 dX7_isDigit_7 rfl) (r_icmp_gt mt87 dX7_isDigit_9 rfl))
theorem b87_12 {x0 : Int32} {M : aM}  : run 1 87 12 [.int x0] [] M = run 1 87 17 [.int x0] [.int 1] M :=
  Eq.trans (r_iconst (v := 1) mt87 dX7_isDigit_12 rfl) (r_goto mt87 dX7_isDigit_13 rfl)
theorem b87_16 {x0 : Int32} {M : aM}  : run 1 87 16 [.int x0] [] M = run 1 87 17 [.int x0] [.int 0] M :=
  r_iconst (v := 0) mt87 dX7_isDigit_16 rfl
theorem b87_17 {x0 : Int32} {sx0 : Int32} {M : aM} (h1 : rtI (some .boolean) sx0 = true) : run 1 87 17 [.int x0] [.int sx0] M = some (some (.int sx0), M) :=
  r_iret mt87 dX7_isDigit_17 h1
-- 88: X7_isSmall(I)Z
theorem e88 {x0 : Int32} {M : aM} : call 88 [.int x0] M = run 1 88 0 [.int x0] [] M := rfl
theorem b88_0 {x0 : Int32} {M : aM}  : run 1 88 0 [.int x0] [] M = if x0 < 97 then run 1 88 16 [.int x0] [] M else run 1 88 6 [.int x0] [] M :=
  Eq.trans (r_iload_n mt88 dX7_isSmall_0 rfl) (Eq.trans (r_bipush (v := 97) mt88 dX7_isSmall_1 rfl) (r_icmp_lt mt88 dX7_isSmall_3 rfl))
theorem b88_6 {x0 : Int32} {M : aM}  : run 1 88 6 [.int x0] [] M = if 122 < x0 then run 1 88 16 [.int x0] [] M else run 1 88 12 [.int x0] [] M :=
  Eq.trans (r_iload_n mt88 dX7_isSmall_6 rfl) (Eq.trans (r_bipush (v := 122) mt88 dX7_isSmall_7 rfl) (r_icmp_gt mt88 dX7_isSmall_9 rfl))
theorem b88_12 {x0 : Int32} {M : aM}  : run 1 88 12 [.int x0] [] M = run 1 88 17 [.int x0] [.int 1] M :=
  Eq.trans (r_iconst (v := 1) mt88 dX7_isSmall_12 rfl) (r_goto mt88 dX7_isSmall_13 rfl)
theorem b88_16 {x0 : Int32} {M : aM}  : run 1 88 16 [.int x0] [] M = run 1 88 17 [.int x0] [.int 0] M :=
  r_iconst (v := 0) mt88 dX7_isSmall_16 rfl
theorem b88_17 {x0 : Int32} {sx0 : Int32} {M : aM} (h1 : rtI (some .boolean) sx0 = true) : run 1 88 17 [.int x0] [.int sx0] M = some (some (.int sx0), M) :=
  r_iret mt88 dX7_isSmall_17 h1
-- 89: X7_kindOfSign(I)I
theorem e89 {x0 : Int32} {M : aM} : call 89 [.int x0] M = run 1 89 0 [.int x0] [] M := rfl
theorem b89_0_c43 {x0 : Int32} {M : aM} (hx : x0 = 43) : run 1 89 0 [.int x0] [] M = run 1 89 83 [.int x0] [] M :=
  Eq.trans (r_iload_n mt89 dX7_kindOfSign_0 rfl) (r_lsD (off := 82) mt89 dX7_kindOfSign_1 (by rw [hx]; decide +kernel) (by decide +kernel) rfl)
theorem b89_0_c45 {x0 : Int32} {M : aM} (hx : x0 = 45) : run 1 89 0 [.int x0] [] M = run 1 89 86 [.int x0] [] M :=
  Eq.trans (r_iload_n mt89 dX7_kindOfSign_0 rfl) (r_lsD (off := 85) mt89 dX7_kindOfSign_1 (by rw [hx]; decide +kernel) (by decide +kernel) rfl)
theorem b89_0_c59 {x0 : Int32} {M : aM} (hx : x0 = 59) : run 1 89 0 [.int x0] [] M = run 1 89 76 [.int x0] [] M :=
  Eq.trans (r_iload_n mt89 dX7_kindOfSign_0 rfl) (r_lsD (off := 75) mt89 dX7_kindOfSign_1 (by rw [hx]; decide +kernel) (by decide +kernel) rfl)
theorem b89_0_c60 {x0 : Int32} {M : aM} (hx : x0 = 60) : run 1 89 0 [.int x0] [] M = run 1 89 89 [.int x0] [] M :=
  Eq.trans (r_iload_n mt89 dX7_kindOfSign_0 rfl) (r_lsD (off := 88) mt89 dX7_kindOfSign_1 (by rw [hx]; decide +kernel) (by decide +kernel) rfl)
theorem b89_0_c61 {x0 : Int32} {M : aM} (hx : x0 = 61) : run 1 89 0 [.int x0] [] M = run 1 89 92 [.int x0] [] M :=
  Eq.trans (r_iload_n mt89 dX7_kindOfSign_0 rfl) (r_lsD (off := 91) mt89 dX7_kindOfSign_1 (by rw [hx]; decide +kernel) (by decide +kernel) rfl)
theorem b89_0_c62 {x0 : Int32} {M : aM} (hx : x0 = 62) : run 1 89 0 [.int x0] [] M = run 1 89 95 [.int x0] [] M :=
  Eq.trans (r_iload_n mt89 dX7_kindOfSign_0 rfl) (r_lsD (off := 94) mt89 dX7_kindOfSign_1 (by rw [hx]; decide +kernel) (by decide +kernel) rfl)
theorem b89_0_c91 {x0 : Int32} {M : aM} (hx : x0 = 91) : run 1 89 0 [.int x0] [] M = run 1 89 78 [.int x0] [] M :=
  Eq.trans (r_iload_n mt89 dX7_kindOfSign_0 rfl) (r_lsD (off := 77) mt89 dX7_kindOfSign_1 (by rw [hx]; decide +kernel) (by decide +kernel) rfl)
theorem b89_0_c93 {x0 : Int32} {M : aM} (hx : x0 = 93) : run 1 89 0 [.int x0] [] M = run 1 89 80 [.int x0] [] M :=
  Eq.trans (r_iload_n mt89 dX7_kindOfSign_0 rfl) (r_lsD (off := 79) mt89 dX7_kindOfSign_1 (by rw [hx]; decide +kernel) (by decide +kernel) rfl)
theorem b89_0_d {x0 : Int32} {M : aM} (hx0 : ¬ x0 = 43) (hx1 : ¬ x0 = 45) (hx2 : ¬ x0 = 59) (hx3 : ¬ x0 = 60) (hx4 : ¬ x0 = 61) (hx5 : ¬ x0 = 62) (hx6 : ¬ x0 = 91) (hx7 : ¬ x0 = 93) : run 1 89 0 [.int x0] [] M = run 1 89 98 [.int x0] [] M :=
  Eq.trans (r_iload_n mt89 dX7_kindOfSign_0 rfl) (r_lsD (off := 97) mt89 dX7_kindOfSign_1 (by show Op.lookupswitch.offset [(43, 82), (45, 85), (59, 75), (60, 88), (61, 91), (62, 94), (91, 77), (93, 79)] 97 _ = _; rw [lv_osw (a := 43) hx0 rfl, lv_osw (a := 45) hx1 rfl, lv_osw (a := 59) hx2 rfl, lv_osw (a := 60) hx3 rfl, lv_osw (a := 61) hx4 rfl, lv_osw (a := 62) hx5 rfl, lv_osw (a := 91) hx6 rfl, lv_osw (a := 93) hx7 rfl]; rfl) (by decide +kernel) rfl)
theorem b89_76 {x0 : Int32} {M : aM}  : run 1 89 76 [.int x0] [] M = some (some (.int 4), M) :=
  Eq.trans (r_iconst (v := 4) mt89 dX7_kindOfSign_76 rfl) (r_iret mt89 dX7_kindOfSign_77 rfl)
theorem b89_78 {x0 : Int32} {M : aM}  : run 1 89 78 [.int x0] [] M = some (some (.int 5), M) :=
  Eq.trans (r_iconst (v := 5) mt89 dX7_kindOfSign_78 rfl) (r_iret mt89 dX7_kindOfSign_79 rfl)
theorem b89_80 {x0 : Int32} {M : aM}  : run 1 89 80 [.int x0] [] M = some (some (.int 6), M) :=
  Eq.trans (r_bipush (v := 6) mt89 dX7_kindOfSign_80 rfl) (r_iret mt89 dX7_kindOfSign_82 rfl)
theorem b89_83 {x0 : Int32} {M : aM}  : run 1 89 83 [.int x0] [] M = some (some (.int 7), M) :=
  Eq.trans (r_bipush (v := 7) mt89 dX7_kindOfSign_83 rfl) (r_iret mt89 dX7_kindOfSign_85 rfl)
theorem b89_86 {x0 : Int32} {M : aM}  : run 1 89 86 [.int x0] [] M = some (some (.int 8), M) :=
  Eq.trans (r_bipush (v := 8) mt89 dX7_kindOfSign_86 rfl) (r_iret mt89 dX7_kindOfSign_88 rfl)
theorem b89_89 {x0 : Int32} {M : aM}  : run 1 89 89 [.int x0] [] M = some (some (.int 9), M) :=
  Eq.trans (r_bipush (v := 9) mt89 dX7_kindOfSign_89 rfl) (r_iret mt89 dX7_kindOfSign_91 rfl)
theorem b89_92 {x0 : Int32} {M : aM}  : run 1 89 92 [.int x0] [] M = some (some (.int 11), M) :=
  Eq.trans (r_bipush (v := 11) mt89 dX7_kindOfSign_92 rfl) (r_iret mt89 dX7_kindOfSign_94 rfl)
theorem b89_95 {x0 : Int32} {M : aM}  : run 1 89 95 [.int x0] [] M = some (some (.int 13), M) :=
  Eq.trans (r_bipush (v := 13) mt89 dX7_kindOfSign_95 rfl) (r_iret mt89 dX7_kindOfSign_97 rfl)
theorem b89_98 {x0 : Int32} {M : aM}  : run 1 89 98 [.int x0] [] M = if x0 < 65 then run 1 89 114 [.int x0] [] M else run 1 89 104 [.int x0] [] M :=
  Eq.trans (r_iload_n mt89 dX7_kindOfSign_98 rfl) (Eq.trans (r_bipush (v := 65) mt89 dX7_kindOfSign_99 rfl) (r_icmp_lt mt89 dX7_kindOfSign_101 rfl))
theorem b89_104 {x0 : Int32} {M : aM}  : run 1 89 104 [.int x0] [] M = if ¬ x0 < 81 then run 1 89 114 [.int x0] [] M else run 1 89 110 [.int x0] [] M :=
  Eq.trans (r_iload_n mt89 dX7_kindOfSign_104 rfl) (Eq.trans (r_bipush (v := 81) mt89 dX7_kindOfSign_105 rfl) (r_icmp_ge mt89 dX7_kindOfSign_107 rfl))
theorem b89_110 {x0 : Int32} {M : aM}  : run 1 89 110 [.int x0] [] M = run 1 89 115 [.int x0] [.int 3] M :=
  Eq.trans (r_iconst (v := 3) mt89 dX7_kindOfSign_110 rfl) (r_goto mt89 dX7_kindOfSign_111 rfl)
theorem b89_114 {x0 : Int32} {M : aM}  : run 1 89 114 [.int x0] [] M = run 1 89 115 [.int x0] [.int 1] M :=
  r_iconst (v := 1) mt89 dX7_kindOfSign_114 rfl
theorem b89_115 {x0 : Int32} {sx0 : Int32} {M : aM}  : run 1 89 115 [.int x0] [.int sx0] M = some (some (.int sx0), M) :=
  r_iret mt89 dX7_kindOfSign_115 rfl
-- 90: X7_wordOf(I)Ljava/lang/String;
theorem e90 {x0 : Int32} {M : aM} : call 90 [.int x0] M = run 2 90 0 [.int x0] [] M := rfl
theorem b90_0_c14 {x0 : Int32} {M : aM} (hx : x0 = 14) : run 2 90 0 [.int x0] [] M = run 2 90 52 [.int x0] [] M :=
  Eq.trans (r_iload_n mt90 dX7_wordOf_0 rfl) (r_ts mt90 dX7_wordOf_1 hx (off := 51) (by decide +kernel) rfl)
theorem b90_0_c15 {x0 : Int32} {M : aM} (hx : x0 = 15) : run 2 90 0 [.int x0] [] M = run 2 90 55 [.int x0] [] M :=
  Eq.trans (r_iload_n mt90 dX7_wordOf_0 rfl) (r_ts mt90 dX7_wordOf_1 hx (off := 54) (by decide +kernel) rfl)
theorem b90_0_c16 {x0 : Int32} {M : aM} (hx : x0 = 16) : run 2 90 0 [.int x0] [] M = run 2 90 58 [.int x0] [] M :=
  Eq.trans (r_iload_n mt90 dX7_wordOf_0 rfl) (r_ts mt90 dX7_wordOf_1 hx (off := 57) (by decide +kernel) rfl)
theorem b90_0_c17 {x0 : Int32} {M : aM} (hx : x0 = 17) : run 2 90 0 [.int x0] [] M = run 2 90 61 [.int x0] [] M :=
  Eq.trans (r_iload_n mt90 dX7_wordOf_0 rfl) (r_ts mt90 dX7_wordOf_1 hx (off := 60) (by decide +kernel) rfl)
theorem b90_0_c18 {x0 : Int32} {M : aM} (hx : x0 = 18) : run 2 90 0 [.int x0] [] M = run 2 90 64 [.int x0] [] M :=
  Eq.trans (r_iload_n mt90 dX7_wordOf_0 rfl) (r_ts mt90 dX7_wordOf_1 hx (off := 63) (by decide +kernel) rfl)
theorem b90_0_c19 {x0 : Int32} {M : aM} (hx : x0 = 19) : run 2 90 0 [.int x0] [] M = run 2 90 67 [.int x0] [] M :=
  Eq.trans (r_iload_n mt90 dX7_wordOf_0 rfl) (r_ts mt90 dX7_wordOf_1 hx (off := 66) (by decide +kernel) rfl)
theorem b90_0_c20 {x0 : Int32} {M : aM} (hx : x0 = 20) : run 2 90 0 [.int x0] [] M = run 2 90 70 [.int x0] [] M :=
  Eq.trans (r_iload_n mt90 dX7_wordOf_0 rfl) (r_ts mt90 dX7_wordOf_1 hx (off := 69) (by decide +kernel) rfl)
theorem b90_0_c21 {x0 : Int32} {M : aM} (hx : x0 = 21) : run 2 90 0 [.int x0] [] M = run 2 90 73 [.int x0] [] M :=
  Eq.trans (r_iload_n mt90 dX7_wordOf_0 rfl) (r_ts mt90 dX7_wordOf_1 hx (off := 72) (by decide +kernel) rfl)
theorem b90_0_c22 {x0 : Int32} {M : aM} (hx : x0 = 22) : run 2 90 0 [.int x0] [] M = run 2 90 76 [.int x0] [] M :=
  Eq.trans (r_iload_n mt90 dX7_wordOf_0 rfl) (r_ts mt90 dX7_wordOf_1 hx (off := 75) (by decide +kernel) rfl)
theorem b90_0_d {x0 : Int32} {M : aM} (hx : x0.toInt < 14 ∨ 22 < x0.toInt) : run 2 90 0 [.int x0] [] M = run 2 90 79 [.int x0] [] M :=
  Eq.trans (r_iload_n mt90 dX7_wordOf_0 rfl) (r_tsD mt90 dX7_wordOf_1 hx rfl)
theorem b90_52 {x0 : Int32} {M : aM}  : run 2 90 52 [.int x0] [] M = some (some (.ref 2), M) :=
  Eq.trans (r_ldcs mt90 dX7_wordOf_52 (by decide +kernel) ks7_72) (r_aret mt90 dX7_wordOf_54 rfl)
theorem b90_55 {x0 : Int32} {M : aM}  : run 2 90 55 [.int x0] [] M = some (some (.ref 3), M) :=
  Eq.trans (r_ldcs mt90 dX7_wordOf_55 (by decide +kernel) ks7_74) (r_aret mt90 dX7_wordOf_57 rfl)
theorem b90_58 {x0 : Int32} {M : aM}  : run 2 90 58 [.int x0] [] M = some (some (.ref 4), M) :=
  Eq.trans (r_ldcs mt90 dX7_wordOf_58 (by decide +kernel) ks7_76) (r_aret mt90 dX7_wordOf_60 rfl)
theorem b90_61 {x0 : Int32} {M : aM}  : run 2 90 61 [.int x0] [] M = some (some (.ref 5), M) :=
  Eq.trans (r_ldcs mt90 dX7_wordOf_61 (by decide +kernel) ks7_78) (r_aret mt90 dX7_wordOf_63 rfl)
theorem b90_64 {x0 : Int32} {M : aM}  : run 2 90 64 [.int x0] [] M = some (some (.ref 6), M) :=
  Eq.trans (r_ldcs mt90 dX7_wordOf_64 (by decide +kernel) ks7_80) (r_aret mt90 dX7_wordOf_66 rfl)
theorem b90_67 {x0 : Int32} {M : aM}  : run 2 90 67 [.int x0] [] M = some (some (.ref 7), M) :=
  Eq.trans (r_ldcs mt90 dX7_wordOf_67 (by decide +kernel) ks7_82) (r_aret mt90 dX7_wordOf_69 rfl)
theorem b90_70 {x0 : Int32} {M : aM}  : run 2 90 70 [.int x0] [] M = some (some (.ref 8), M) :=
  Eq.trans (r_ldcs mt90 dX7_wordOf_70 (by decide +kernel) ks7_84) (r_aret mt90 dX7_wordOf_72 rfl)
theorem b90_73 {x0 : Int32} {M : aM}  : run 2 90 73 [.int x0] [] M = some (some (.ref 9), M) :=
  Eq.trans (r_ldcs mt90 dX7_wordOf_73 (by decide +kernel) ks7_86) (r_aret mt90 dX7_wordOf_75 rfl)
theorem b90_76 {x0 : Int32} {M : aM}  : run 2 90 76 [.int x0] [] M = some (some (.ref 10), M) :=
  Eq.trans (r_ldcs mt90 dX7_wordOf_76 (by decide +kernel) ks7_88) (r_aret mt90 dX7_wordOf_78 rfl)
theorem b90_79 {x0 : Int32} {M : aM}  : run 2 90 79 [.int x0] [] M = (call 91 [.int (x0 - 23)] M).bind (fun r => run 2 90 86 [.int x0] (r.1.toList ++ []) r.2) :=
  Eq.trans (r_iload_n mt90 dX7_wordOf_79 rfl) (Eq.trans (r_bipush (v := 23) mt90 dX7_wordOf_80 rfl) (Eq.trans (r_isub mt90 dX7_wordOf_82) (r_cs (as := [.int (x0 - 23)]) (rest := []) mt90 dX7_wordOf_83 m7_90 (Or.inl rfl) rfl rfl (Nat.le_of_ble_eq_true rfl) (Nat.le_of_ble_eq_true rfl) rfl (by decide) (Nat.le_of_ble_eq_true rfl))))
theorem b90_86 {x0 : Int32} {sa0 : Nat} {M : aM}  : run 2 90 86 [.int x0] [.ref sa0] M = some (some (.ref sa0), M) :=
  r_aret mt90 dX7_wordOf_86 rfl
-- 91: X7_valueWordOf(I)Ljava/lang/String;
theorem e91 {x0 : Int32} {M : aM} : call 91 [.int x0] M = run 1 91 0 [.int x0] [] M := rfl
theorem b91_0_c0 {x0 : Int32} {M : aM} (hx : x0 = 0) : run 1 91 0 [.int x0] [] M = run 1 91 64 [.int x0] [] M :=
  Eq.trans (r_iload_n mt91 dX7_valueWordOf_0 rfl) (r_ts mt91 dX7_valueWordOf_1 hx (off := 63) (by decide +kernel) rfl)
theorem b91_0_c1 {x0 : Int32} {M : aM} (hx : x0 = 1) : run 1 91 0 [.int x0] [] M = run 1 91 67 [.int x0] [] M :=
  Eq.trans (r_iload_n mt91 dX7_valueWordOf_0 rfl) (r_ts mt91 dX7_valueWordOf_1 hx (off := 66) (by decide +kernel) rfl)
theorem b91_0_c2 {x0 : Int32} {M : aM} (hx : x0 = 2) : run 1 91 0 [.int x0] [] M = run 1 91 70 [.int x0] [] M :=
  Eq.trans (r_iload_n mt91 dX7_valueWordOf_0 rfl) (r_ts mt91 dX7_valueWordOf_1 hx (off := 69) (by decide +kernel) rfl)
theorem b91_0_c3 {x0 : Int32} {M : aM} (hx : x0 = 3) : run 1 91 0 [.int x0] [] M = run 1 91 73 [.int x0] [] M :=
  Eq.trans (r_iload_n mt91 dX7_valueWordOf_0 rfl) (r_ts mt91 dX7_valueWordOf_1 hx (off := 72) (by decide +kernel) rfl)
theorem b91_0_c4 {x0 : Int32} {M : aM} (hx : x0 = 4) : run 1 91 0 [.int x0] [] M = run 1 91 76 [.int x0] [] M :=
  Eq.trans (r_iload_n mt91 dX7_valueWordOf_0 rfl) (r_ts mt91 dX7_valueWordOf_1 hx (off := 75) (by decide +kernel) rfl)
theorem b91_0_c5 {x0 : Int32} {M : aM} (hx : x0 = 5) : run 1 91 0 [.int x0] [] M = run 1 91 79 [.int x0] [] M :=
  Eq.trans (r_iload_n mt91 dX7_valueWordOf_0 rfl) (r_ts mt91 dX7_valueWordOf_1 hx (off := 78) (by decide +kernel) rfl)
theorem b91_0_c6 {x0 : Int32} {M : aM} (hx : x0 = 6) : run 1 91 0 [.int x0] [] M = run 1 91 82 [.int x0] [] M :=
  Eq.trans (r_iload_n mt91 dX7_valueWordOf_0 rfl) (r_ts mt91 dX7_valueWordOf_1 hx (off := 81) (by decide +kernel) rfl)
theorem b91_0_c7 {x0 : Int32} {M : aM} (hx : x0 = 7) : run 1 91 0 [.int x0] [] M = run 1 91 85 [.int x0] [] M :=
  Eq.trans (r_iload_n mt91 dX7_valueWordOf_0 rfl) (r_ts mt91 dX7_valueWordOf_1 hx (off := 84) (by decide +kernel) rfl)
theorem b91_0_c8 {x0 : Int32} {M : aM} (hx : x0 = 8) : run 1 91 0 [.int x0] [] M = run 1 91 88 [.int x0] [] M :=
  Eq.trans (r_iload_n mt91 dX7_valueWordOf_0 rfl) (r_ts mt91 dX7_valueWordOf_1 hx (off := 87) (by decide +kernel) rfl)
theorem b91_0_c9 {x0 : Int32} {M : aM} (hx : x0 = 9) : run 1 91 0 [.int x0] [] M = run 1 91 91 [.int x0] [] M :=
  Eq.trans (r_iload_n mt91 dX7_valueWordOf_0 rfl) (r_ts mt91 dX7_valueWordOf_1 hx (off := 90) (by decide +kernel) rfl)
theorem b91_0_c10 {x0 : Int32} {M : aM} (hx : x0 = 10) : run 1 91 0 [.int x0] [] M = run 1 91 94 [.int x0] [] M :=
  Eq.trans (r_iload_n mt91 dX7_valueWordOf_0 rfl) (r_ts mt91 dX7_valueWordOf_1 hx (off := 93) (by decide +kernel) rfl)
theorem b91_0_c11 {x0 : Int32} {M : aM} (hx : x0 = 11) : run 1 91 0 [.int x0] [] M = run 1 91 97 [.int x0] [] M :=
  Eq.trans (r_iload_n mt91 dX7_valueWordOf_0 rfl) (r_ts mt91 dX7_valueWordOf_1 hx (off := 96) (by decide +kernel) rfl)
theorem b91_0_d {x0 : Int32} {M : aM} (hx : x0.toInt < 0 ∨ 11 < x0.toInt) : run 1 91 0 [.int x0] [] M = run 1 91 100 [.int x0] [] M :=
  Eq.trans (r_iload_n mt91 dX7_valueWordOf_0 rfl) (r_tsD mt91 dX7_valueWordOf_1 hx rfl)
theorem b91_64 {x0 : Int32} {M : aM}  : run 1 91 64 [.int x0] [] M = some (some (.ref 11), M) :=
  Eq.trans (r_ldcs mt91 dX7_valueWordOf_64 (by decide +kernel) ks7_93) (r_aret mt91 dX7_valueWordOf_66 rfl)
theorem b91_67 {x0 : Int32} {M : aM}  : run 1 91 67 [.int x0] [] M = some (some (.ref 12), M) :=
  Eq.trans (r_ldcs mt91 dX7_valueWordOf_67 (by decide +kernel) ks7_95) (r_aret mt91 dX7_valueWordOf_69 rfl)
theorem b91_70 {x0 : Int32} {M : aM}  : run 1 91 70 [.int x0] [] M = some (some (.ref 13), M) :=
  Eq.trans (r_ldcs mt91 dX7_valueWordOf_70 (by decide +kernel) ks7_97) (r_aret mt91 dX7_valueWordOf_72 rfl)
theorem b91_73 {x0 : Int32} {M : aM}  : run 1 91 73 [.int x0] [] M = some (some (.ref 14), M) :=
  Eq.trans (r_ldcs mt91 dX7_valueWordOf_73 (by decide +kernel) ks7_99) (r_aret mt91 dX7_valueWordOf_75 rfl)
theorem b91_76 {x0 : Int32} {M : aM}  : run 1 91 76 [.int x0] [] M = some (some (.ref 15), M) :=
  Eq.trans (r_ldcs mt91 dX7_valueWordOf_76 (by decide +kernel) ks7_101) (r_aret mt91 dX7_valueWordOf_78 rfl)
theorem b91_79 {x0 : Int32} {M : aM}  : run 1 91 79 [.int x0] [] M = some (some (.ref 16), M) :=
  Eq.trans (r_ldcs mt91 dX7_valueWordOf_79 (by decide +kernel) ks7_103) (r_aret mt91 dX7_valueWordOf_81 rfl)
theorem b91_82 {x0 : Int32} {M : aM}  : run 1 91 82 [.int x0] [] M = some (some (.ref 17), M) :=
  Eq.trans (r_ldcs mt91 dX7_valueWordOf_82 (by decide +kernel) ks7_105) (r_aret mt91 dX7_valueWordOf_84 rfl)
theorem b91_85 {x0 : Int32} {M : aM}  : run 1 91 85 [.int x0] [] M = some (some (.ref 18), M) :=
  Eq.trans (r_ldcs mt91 dX7_valueWordOf_85 (by decide +kernel) ks7_107) (r_aret mt91 dX7_valueWordOf_87 rfl)
theorem b91_88 {x0 : Int32} {M : aM}  : run 1 91 88 [.int x0] [] M = some (some (.ref 19), M) :=
  Eq.trans (r_ldcs mt91 dX7_valueWordOf_88 (by decide +kernel) ks7_109) (r_aret mt91 dX7_valueWordOf_90 rfl)
theorem b91_91 {x0 : Int32} {M : aM}  : run 1 91 91 [.int x0] [] M = some (some (.ref 20), M) :=
  Eq.trans (r_ldcs mt91 dX7_valueWordOf_91 (by decide +kernel) ks7_111) (r_aret mt91 dX7_valueWordOf_93 rfl)
theorem b91_94 {x0 : Int32} {M : aM}  : run 1 91 94 [.int x0] [] M = some (some (.ref 21), M) :=
  Eq.trans (r_ldcs mt91 dX7_valueWordOf_94 (by decide +kernel) ks7_113) (r_aret mt91 dX7_valueWordOf_96 rfl)
theorem b91_97 {x0 : Int32} {M : aM}  : run 1 91 97 [.int x0] [] M = some (some (.ref 22), M) :=
  Eq.trans (r_ldcs mt91 dX7_valueWordOf_97 (by decide +kernel) ks7_115) (r_aret mt91 dX7_valueWordOf_99 rfl)
theorem b91_100 {x0 : Int32} {M : aM}  : run 1 91 100 [.int x0] [] M = some (some (.ref 23), M) :=
  Eq.trans (r_ldcs mt91 dX7_valueWordOf_100 (by decide +kernel) ks7_117) (r_aret mt91 dX7_valueWordOf_102 rfl)
-- 92: X8_init([LTreacleTank$Clause;I)V
theorem e92 {a0 : Nat} {a1 : Nat} {x2 : Int32} {M : aM} : call 92 [.ref a0, .ref a1, .int x2] M = run 1 92 0 [.ref a0, .ref a1, .int x2, xU, xU] [] M := rfl
theorem b92_0 {a0 : Nat} {a1 : Nat} {x2 : Int32} {M : aM} (h1 : mK M a0 = 8) (h2 : mK M a1 = 16) (h3 : ¬ (if (0 : Int32) < (if (Int32.ofNat (mN M a1)) < x2 then (Int32.ofNat (mN M a1)) else x2) then (if (Int32.ofNat (mN M a1)) < x2 then (Int32.ofNat (mN M a1)) else x2) else 0) < 0) (h4 : (if (0 : Int32) < (if (Int32.ofNat (mN M a1)) < x2 then (Int32.ofNat (mN M a1)) else x2) then (if (Int32.ofNat (mN M a1)) < x2 then (Int32.ofNat (mN M a1)) else x2) else 0).toNatClampNeg * 8 ≤ 536870912) (h5 : mK (wN M 16 ((if (0 : Int32) < (if (Int32.ofNat (mN M a1)) < x2 then (Int32.ofNat (mN M a1)) else x2) then (if (Int32.ofNat (mN M a1)) < x2 then (Int32.ofNat (mN M a1)) else x2) else 0).toNatClampNeg) ((if (0 : Int32) < (if (Int32.ofNat (mN M a1)) < x2 then (Int32.ofNat (mN M a1)) else x2) then (if (Int32.ofNat (mN M a1)) < x2 then (Int32.ofNat (mN M a1)) else x2) else 0).toNatClampNeg)) a0 = 8) : run 1 92 0 [.ref a0, .ref a1, .int x2, xU, xU] [] M = run 1 92 26 [.ref a0, .ref a1, .int x2, .int (if (0 : Int32) < (if (Int32.ofNat (mN M a1)) < x2 then (Int32.ofNat (mN M a1)) else x2) then (if (Int32.ofNat (mN M a1)) < x2 then (Int32.ofNat (mN M a1)) else x2) else 0), .int 0] [] (wR (wN M 16 ((if (0 : Int32) < (if (Int32.ofNat (mN M a1)) < x2 then (Int32.ofNat (mN M a1)) else x2) then (if (Int32.ofNat (mN M a1)) < x2 then (Int32.ofNat (mN M a1)) else x2) else 0).toNatClampNeg) ((if (0 : Int32) < (if (Int32.ofNat (mN M a1)) < x2 then (Int32.ofNat (mN M a1)) else x2) then (if (Int32.ofNat (mN M a1)) < x2 then (Int32.ofNat (mN M a1)) else x2) else 0).toNatClampNeg)) a0 0 (mX M + 32)) :=
  Eq.trans (r_aload_n mt92 dX8_init_0 rfl) (Eq.trans (r_oin mt92 dX8_init_1 m8_1 (Nat.le_of_ble_eq_true rfl) h1 (by decide)) (Eq.trans (r_iconst (v := 0) mt92 dX8_init_4 rfl) (Eq.trans (r_iload_n mt92 dX8_init_5 rfl) (Eq.trans (r_aload_n mt92 dX8_init_6 rfl) (Eq.trans (r_alen mt92 dX8_init_7 h2 (by decide) (by decide)) (Eq.trans (r_min mt92 dX8_init_8 m8_7 (Nat.le_of_ble_eq_true rfl)) (Eq.trans (r_max mt92 dX8_init_11 m8_13 (Nat.le_of_ble_eq_true rfl)) (Eq.trans (r_istore_n (L' := [.ref a0, .ref a1, .int x2, .int (if (0 : Int32) < (if (Int32.ofNat (mN M a1)) < x2 then (Int32.ofNat (mN M a1)) else x2) then (if (Int32.ofNat (mN M a1)) < x2 then (Int32.ofNat (mN M a1)) else x2) else 0), xU]) mt92 dX8_init_14 (Nat.le_of_ble_eq_true rfl) rfl) (Eq.trans (r_aload_n mt92 dX8_init_15 rfl) (Eq.trans (r_iload_n mt92 dX8_init_16 rfl) (Eq.trans (r_newr mt92 dX8_init_17 k8_16 rfl (by decide) h3 (N := (if (0 : Int32) < (if (Int32.ofNat (mN M a1)) < x2 then (Int32.ofNat (mN M a1)) else x2) then (if (Int32.ofNat (mN M a1)) < x2 then (Int32.ofNat (mN M a1)) else x2) else 0).toNatClampNeg) rfl h4) (Eq.trans (r_putr mt92 dX8_init_20 f8_18 h5 (by decide) (Or.inr ⟨rfl, rfl⟩) rfl) (Eq.trans (r_iconst (v := 0) mt92 dX8_init_23 rfl) (r_istore (L' := [.ref a0, .ref a1, .int x2, .int (if (0 : Int32) < (if (Int32.ofNat (mN M a1)) < x2 then (Int32.ofNat (mN M a1)) else x2) then (if (Int32.ofNat (mN M a1)) < x2 then (Int32.ofNat (mN M a1)) else x2) else 0), .int 0]) mt92 dX8_init_24 (Nat.le_of_ble_eq_true rfl) rfl))))))))))))))
theorem b92_26 {a0 : Nat} {a1 : Nat} {x2 : Int32} {x3 : Int32} {x4 : Int32} {M : aM}  : run 1 92 26 [.ref a0, .ref a1, .int x2, .int x3, .int x4] [] M = if ¬ x4 < x3 then run 1 92 49 [.ref a0, .ref a1, .int x2, .int x3, .int x4] [] M else run 1 92 32 [.ref a0, .ref a1, .int x2, .int x3, .int x4] [] M :=
  Eq.trans (r_iload mt92 dX8_init_26 rfl) (Eq.trans (r_iload_n mt92 dX8_init_28 rfl) (r_icmp_ge mt92 dX8_init_29 rfl))
theorem b92_32 {a0 : Nat} {a1 : Nat} {x2 : Int32} {x3 : Int32} {x4 : Int32} {M : aM} (h1 : mK M a0 = 8) (h2 : mK M a1 = 16) (h3 : ib x4 (mN M a1)) (h4 : mK M (mR M a0 0) = 16) (h5 : ib x4 (mN M (mR M a0 0))) (h6 : mK M (mR M a1 (x4).toNatClampNeg) = 0) : run 1 92 32 [.ref a0, .ref a1, .int x2, .int x3, .int x4] [] M = run 1 92 26 [.ref a0, .ref a1, .int x2, .int x3, .int (x4 + 1)] [] (wR M (mR M a0 0) (x4).toNatClampNeg (mR M a1 (x4).toNatClampNeg)) :=
  Eq.trans (r_aload_n mt92 dX8_init_32 rfl) (Eq.trans (r_getr mt92 dX8_init_33 f8_18 h1 (by decide) rfl) (Eq.trans (r_iload mt92 dX8_init_36 rfl) (Eq.trans (r_aload_n mt92 dX8_init_38 rfl) (Eq.trans (r_iload mt92 dX8_init_39 rfl) (Eq.trans (r_aald mt92 dX8_init_41 h2 (by decide) (by decide) h3) (Eq.trans (r_aast mt92 dX8_init_42 h4 (by decide) (by decide) h6 h5) (Eq.trans (r_iinc (v := 1) (L' := [.ref a0, .ref a1, .int x2, .int x3, .int (x4 + 1)]) mt92 dX8_init_43 rfl rfl rfl) (r_goto mt92 dX8_init_46 rfl))))))))
theorem b92_49 {a0 : Nat} {a1 : Nat} {x2 : Int32} {x3 : Int32} {x4 : Int32} {M : aM}  : run 1 92 49 [.ref a0, .ref a1, .int x2, .int x3, .int x4] [] M = some (none, M) :=
  r_vret mt92 dX8_init_49 rfl
