/-! THE WORDS: those that a callee may take over as they are; those of nest mates; the String constants -/
def gtb : List Cond := lw_tbl.filter goodWord
def isNest (w : Cond) : Bool := match w with
  | .fieldLinkNest .. => true
  | .methodLinkNest .. => true
  | _ => false
def ntb : List Cond := lw_tbl.filter isNest
theorem gtb_of {w : Cond} (h : w ∈ lw_tbl) (hg : goodWord w = true) : w ∈ gtb := List.mem_filter.mpr ⟨h, hg⟩
theorem ntb_of {w : Cond} (h : w ∈ lw_tbl) (hg : isNest w = true) : w ∈ ntb := List.mem_filter.mpr ⟨h, hg⟩
theorem gtb_good : GoodIn gtb gtb := fun w hw => ⟨hw, good_of_word (List.mem_filter.mp hw).2⟩
theorem tb_at {w : Cond} (i : Nat) (h : tables_1[i]? = some w) : w ∈ lw_tbl := List.mem_append_right _ (List.mem_of_getElem? h)
def strs : List (String × Nat × String × Nat) := [("TreacleTank$Tape", 72, "prior", 0), ("TreacleTank$Tape", 74, "when", 1), ("TreacleTank$Tape", 76, "trace", 2), ("TreacleTank$Tape", 78, "must", 3), ("TreacleTank$Tape", 80, "every", 4), ("TreacleTank$Tape", 82, "if", 5), ("TreacleTank$Tape", 84, "not", 6), ("TreacleTank$Tape", 86, "and", 7), ("TreacleTank$Tape", 88, "or", 8), ("TreacleTank$Tape", 93, "hour", 9), ("TreacleTank$Tape", 95, "depth", 10), ("TreacleTank$Tape", 97, "gas", 11), ("TreacleTank$Tape", 99, "air", 12), ("TreacleTank$Tape", 101, "filled", 13), ("TreacleTank$Tape", 103, "layers", 14), ("TreacleTank$Tape", 105, "load", 15), ("TreacleTank$Tape", 107, "bears", 16), ("TreacleTank$Tape", 109, "steel", 17), ("TreacleTank$Tape", 111, "drawn", 18), ("TreacleTank$Tape", 113, "built", 19), ("TreacleTank$Tape", 115, "ring", 20), ("TreacleTank$Tape", 117, "burst", 21), ("TreacleTankModel", 363, "prior", 0), ("TreacleTankModel", 365, "when", 1), ("TreacleTankModel", 367, "trace", 2), ("TreacleTankModel", 345, "not", 6), ("TreacleTankModel", 253, "hour", 9), ("TreacleTankModel", 254, "depth", 10), ("TreacleTankModel", 255, "gas", 11), ("TreacleTankModel", 256, "air", 12), ("TreacleTankModel", 258, "filled", 13), ("TreacleTankModel", 260, "layers", 14), ("TreacleTankModel", 261, "load", 15), ("TreacleTankModel", 263, "bears", 16), ("TreacleTankModel", 265, "steel", 17), ("TreacleTankModel", 267, "drawn", 18), ("TreacleTankModel", 268, "built", 19), ("TreacleTankModel", 269, "ring", 20), ("TreacleTankModel", 271, "burst", 21), ("TreacleTankModel", 359, "and", 7), ("TreacleTankModel", 361, "or", 8), ("TreacleTankModel", 385, "if", 5), ("TreacleTankModel", 390, "must", 3), ("TreacleTankModel", 392, "every", 4)]
def slen : List Nat := [5, 4, 5, 4, 5, 2, 3, 3, 2, 4, 5, 3, 3, 6, 6, 4, 5, 5, 5, 5, 4, 5]
def sbyt : List (List Int32) := [[112, 114, 105, 111, 114], [119, 104, 101, 110], [116, 114, 97, 99, 101], [109, 117, 115, 116], [101, 118, 101, 114, 121], [105, 102], [110, 111, 116], [97, 110, 100], [111, 114], [104, 111, 117, 114], [100, 101, 112, 116, 104], [103, 97, 115], [97, 105, 114], [102, 105, 108, 108, 101, 100], [108, 97, 121, 101, 114, 115], [108, 111, 97, 100], [98, 101, 97, 114, 115], [115, 116, 101, 101, 108], [100, 114, 97, 119, 110], [98, 117, 105, 108, 116], [114, 105, 110, 103], [98, 117, 114, 115, 116]]
set_option maxRecDepth 20000 in
theorem inG0 : ∀ w ∈ u_ws RX0 TX0 4, w ∈ gtb := fun w h => by
  have hm := (goodIn_r (big := tables_1) (u_ws RX0 TX0 4) [709, 711, 713, 715] (by decide +kernel) (by decide +kernel)) w h
  exact gtb_of (List.mem_append_right _ hm.1) (List.all_eq_true.mp (show (u_ws RX0 TX0 4).all goodWord = true by decide +kernel) w h)
set_option maxRecDepth 20000 in
theorem inG1 : ∀ w ∈ u_ws RX1 TX1 2, w ∈ gtb := fun w h => by
  have hm := (goodIn_r (big := tables_1) (u_ws RX1 TX1 2) [305, 307] (by decide +kernel) (by decide +kernel)) w h
  exact gtb_of (List.mem_append_right _ hm.1) (List.all_eq_true.mp (show (u_ws RX1 TX1 2).all goodWord = true by decide +kernel) w h)
set_option maxRecDepth 20000 in
theorem inG2 : ∀ w ∈ u_ws RX2 TX2 11, w ∈ gtb := fun w h => by
  have hm := (goodIn_r (big := tables_1) (u_ws RX2 TX2 11) [274, 276, 278, 280, 282, 284, 286, 288, 290, 292, 294] (by decide +kernel) (by decide +kernel)) w h
  exact gtb_of (List.mem_append_right _ hm.1) (List.all_eq_true.mp (show (u_ws RX2 TX2 11).all goodWord = true by decide +kernel) w h)
set_option maxRecDepth 20000 in
theorem inG3 : ∀ w ∈ u_ws RX3 TX3 10, w ∈ gtb := fun w h => by
  have hm := (goodIn_r (big := tables_1) (u_ws RX3 TX3 10) [66, 68, 70, 72, 74, 76, 78, 80, 82, 84] (by decide +kernel) (by decide +kernel)) w h
  exact gtb_of (List.mem_append_right _ hm.1) (List.all_eq_true.mp (show (u_ws RX3 TX3 10).all goodWord = true by decide +kernel) w h)
set_option maxRecDepth 20000 in
theorem inG4 : ∀ w ∈ u_ws RX4 TX4 5, w ∈ gtb := fun w h => by
  have hm := (goodIn_r (big := tables_1) (u_ws RX4 TX4 5) [213, 215, 217, 219, 221] (by decide +kernel) (by decide +kernel)) w h
  exact gtb_of (List.mem_append_right _ hm.1) (List.all_eq_true.mp (show (u_ws RX4 TX4 5).all goodWord = true by decide +kernel) w h)
set_option maxRecDepth 20000 in
theorem inG5 : ∀ w ∈ u_ws RX5 TX5 9, w ∈ gtb := fun w h => by
  have hm := (goodIn_r (big := tables_1) (u_ws RX5 TX5 9) [164, 166, 168, 170, 172, 174, 176, 178, 180] (by decide +kernel) (by decide +kernel)) w h
  exact gtb_of (List.mem_append_right _ hm.1) (List.all_eq_true.mp (show (u_ws RX5 TX5 9).all goodWord = true by decide +kernel) w h)
set_option maxRecDepth 20000 in
theorem inG6 : ∀ w ∈ u_ws RX6 TX6 19, w ∈ gtb := fun w h => by
  have hm := (goodIn_r (big := tables_1) (u_ws RX6 TX6 19) [110, 112, 114, 116, 118, 120, 122, 124, 126, 128, 130, 132, 134, 136, 138, 140, 142, 144, 146] (by decide +kernel) (by decide +kernel)) w h
  exact gtb_of (List.mem_append_right _ hm.1) (List.all_eq_true.mp (show (u_ws RX6 TX6 19).all goodWord = true by decide +kernel) w h)
set_option maxRecDepth 20000 in
theorem inG7 : ∀ w ∈ u_ws RX7 TX7 6, w ∈ gtb := fun w h => by
  have hm := (goodIn_r (big := tables_1) (u_ws RX7 TX7 6) [242, 244, 246, 248, 250, 252] (by decide +kernel) (by decide +kernel)) w h
  exact gtb_of (List.mem_append_right _ hm.1) (List.all_eq_true.mp (show (u_ws RX7 TX7 6).all goodWord = true by decide +kernel) w h)
set_option maxRecDepth 20000 in
theorem inG8 : ∀ w ∈ u_ws RX8 TX8 1, w ∈ gtb := fun w h => by
  have hm := (goodIn_r (big := tables_1) (u_ws RX8 TX8 1) [731] (by decide +kernel) (by decide +kernel)) w h
  exact gtb_of (List.mem_append_right _ hm.1) (List.all_eq_true.mp (show (u_ws RX8 TX8 1).all goodWord = true by decide +kernel) w h)
set_option maxRecDepth 20000 in
theorem inG9 : ∀ w ∈ u_ws RX9 TX9 4, w ∈ gtb := fun w h => by
  have hm := (goodIn_r (big := tables_1) (u_ws RX9 TX9 4) [194, 196, 198, 200] (by decide +kernel) (by decide +kernel)) w h
  exact gtb_of (List.mem_append_right _ hm.1) (List.all_eq_true.mp (show (u_ws RX9 TX9 4).all goodWord = true by decide +kernel) w h)
set_option maxRecDepth 20000 in
theorem inG10 : ∀ w ∈ u_ws RX10 TX10 10, w ∈ gtb := fun w h => by
  have hm := (goodIn_r (big := tables_1) (u_ws RX10 TX10 10) [322, 324, 326, 328, 330, 332, 334, 336, 338, 340] (by decide +kernel) (by decide +kernel)) w h
  exact gtb_of (List.mem_append_right _ hm.1) (List.all_eq_true.mp (show (u_ws RX10 TX10 10).all goodWord = true by decide +kernel) w h)
set_option maxRecDepth 20000 in
theorem inG11 : ∀ w ∈ u_ws RX11 TX11 70, w ∈ gtb := fun w h => by
  have hm := (goodIn_r (big := tables_1) (u_ws RX11 TX11 70) [1077, 1079, 1081, 1083, 1085, 1087, 1089, 1091, 1093, 1095, 1097, 1099, 1101, 1103, 1105, 1107, 1109, 1111, 1113, 1115, 1117, 1119, 1121, 1123, 1125, 1127, 1129, 1131, 1133, 1135, 1137, 1139, 1141, 1143, 1145, 1147, 1149, 1151, 1153, 1155, 1157, 1159, 1161, 1163, 1165, 1167, 1169, 1171, 1173, 1175, 1177, 1179, 1181, 1183, 1185, 1187, 1189, 1191, 1193, 1195, 1197, 1199, 1201, 1203, 1205, 1207, 1209, 1211, 1213, 1215] (by decide +kernel) (by decide +kernel)) w h
  exact gtb_of (List.mem_append_right _ hm.1) (List.all_eq_true.mp (show (u_ws RX11 TX11 70).all goodWord = true by decide +kernel) w h)
theorem inG {ci : Nat} (h : ci < 12) : ∀ w ∈ u_ws (RF ci) (TF ci) (nF ci), w ∈ gtb := by
  rcases (by omega : ci = 0 ∨ ci = 1 ∨ ci = 2 ∨ ci = 3 ∨ ci = 4 ∨ ci = 5 ∨ ci = 6 ∨ ci = 7 ∨ ci = 8 ∨ ci = 9 ∨ ci = 10 ∨ ci = 11) with rfl | rfl | rfl | rfl | rfl | rfl | rfl | rfl | rfl | rfl | rfl | rfl
  · exact inG0
  · exact inG1
  · exact inG2
  · exact inG3
  · exact inG4
  · exact inG5
  · exact inG6
  · exact inG7
  · exact inG8
  · exact inG9
  · exact inG10
  · exact inG11
theorem clG {ci : Nat} (h : ci < 12) : vwCl[ci]? = some (RF ci, TF ci, nF ci) := by
  rcases (by omega : ci = 0 ∨ ci = 1 ∨ ci = 2 ∨ ci = 3 ∨ ci = 4 ∨ ci = 5 ∨ ci = 6 ∨ ci = 7 ∨ ci = 8 ∨ ci = 9 ∨ ci = 10 ∨ ci = 11) with rfl | rfl | rfl | rfl | rfl | rfl | rfl | rfl | rfl | rfl | rfl | rfl <;> rfl
theorem tyG {ci : Nat} (h : ci < 12) : ∀ k, k < nF ci → parseFieldDescriptor (TF ci k).2.2.1 = some (tyF ci k) := by
  rcases (by omega : ci = 0 ∨ ci = 1 ∨ ci = 2 ∨ ci = 3 ∨ ci = 4 ∨ ci = 5 ∨ ci = 6 ∨ ci = 7 ∨ ci = 8 ∨ ci = 9 ∨ ci = 10 ∨ ci = 11) with rfl | rfl | rfl | rfl | rfl | rfl | rfl | rfl | rfl | rfl | rfl | rfl
  · exact tyX0_ok
  · exact tyX1_ok
  · exact tyX2_ok
  · exact tyX3_ok
  · exact tyX4_ok
  · exact tyX5_ok
  · exact tyX6_ok
  · exact tyX7_ok
  · exact tyX8_ok
  · exact tyX9_ok
  · exact tyX10_ok
  · exact tyX11_ok
theorem nmG {ci : Nat} (h : ci < 12) : ∀ a, a < nF ci → ∀ b, b < nF ci → a ≠ b → (TF ci a).2.1 ≠ (TF ci b).2.1 := by
  rcases (by omega : ci = 0 ∨ ci = 1 ∨ ci = 2 ∨ ci = 3 ∨ ci = 4 ∨ ci = 5 ∨ ci = 6 ∨ ci = 7 ∨ ci = 8 ∨ ci = 9 ∨ ci = 10 ∨ ci = 11) with rfl | rfl | rfl | rfl | rfl | rfl | rfl | rfl | rfl | rfl | rfl | rfl
  · exact nmX0
  · exact nmX1
  · exact nmX2
  · exact nmX3
  · exact nmX4
  · exact nmX5
  · exact nmX6
  · exact nmX7
  · exact nmX8
  · exact nmX9
  · exact nmX10
  · exact nmX11
