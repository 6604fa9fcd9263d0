/-! the words that every method here is given: those of the tables that stay true; and each link by its place -/
def Wd : List Cond := lw_tbl.filter goodWord
theorem wd_at (i : Nat) {w : Cond} (h : tables_1[i]? = some w) (hg : goodWord w = true) : w ∈ Wd := List.mem_filter.mpr ⟨List.mem_append_right _ (List.mem_of_getElem? h), hg⟩
theorem wd_pr (i : Nat) {w : Cond} (h : (k2_sels lw_privs)[i]? = some w) (hg : goodWord w = true) : w ∈ Wd := List.mem_filter.mpr ⟨List.mem_append_left _ (List.mem_of_getElem? h), hg⟩
theorem wd_all {ws : List Cond} (ps : List Nat) (h : ws = ps.filterMap (fun i => tables_1[i]?)) (hg : ws.all goodWord = true) : ∀ w ∈ ws, w ∈ Wd := by
  intro w hw
  have h1 := List.all_eq_true.mp hg w hw
  rw [h] at hw
  obtain ⟨i, -, hi⟩ := List.mem_filterMap.mp hw
  exact wd_at i hi h1
/-- the types of the fields of the kinds of objects: 0 an int, 1 a reference, 2 a long -/
def tgs : Nat → List Nat := fun c => match c with
  | 0 => [0, 1, 0]
  | 1 => [0, 1, 1, 0, 0, 0, 0, 0, 0, 0, 0]
  | 2 => [1, 1]
  | 3 => [0, 0, 1, 1, 1, 1]
  | 4 => [0, 1, 1, 1, 1, 0]
  | 5 => [1, 2]
  | 6 => [0, 1, 1, 1, 0, 0]
  | 7 => [1, 0, 0]
  | 8 => [1, 0]
  | 9 => [0, 1, 1, 1, 1, 1, 1, 1, 1, 0, 0, 0, 0, 0, 0, 0]
  | 10 => [0, 0, 0, 0, 1, 1, 1, 1, 1, 1, 0, 0]
  | _ => [0, 2, 0, 0, 0, 0, 1, 1, 0, 0, 1, 1, 1, 1, 1, 1, 1, 0, 1, 0, 1, 1, 1, 1, 1, 1, 1, 1, 1, 0, 0, 1, 1, 1, 1, 1, 1, 1, 1, 1, 1, 1, 1, 1]
theorem iw_0 : ∀ w ∈ u_ws RJx4a65c TJx4a65c 3, w ∈ Wd := wd_all [112, 108, 110] (by decide +kernel) (by decide +kernel)
theorem in_0 : (Cond.instantiable RJx4a65c 3) ∈ Wd ∧ (Cond.initialized RJx4a65c) ∈ Wd := ⟨wd_at 90 (by decide +kernel) rfl, wd_at 9 (by decide +kernel) rfl⟩
theorem iw_1 : ∀ w ∈ u_ws RX0 TX0 11, w ∈ Wd := wd_all [582, 584, 586, 588, 590, 592, 594, 596, 598, 600, 602] (by decide +kernel) (by decide +kernel)
theorem in_1 : (Cond.instantiable RX0 11) ∈ Wd ∧ (Cond.initialized RX0) ∈ Wd := ⟨wd_at 562 (by decide +kernel) rfl, wd_at 28 (by decide +kernel) rfl⟩
theorem iw_2 : ∀ w ∈ u_ws RX1 TX1 2, w ∈ Wd := wd_all [78, 80] (by decide +kernel) (by decide +kernel)
theorem in_2 : (Cond.instantiable RX1 2) ∈ Wd ∧ (Cond.initialized RX1) ∈ Wd := ⟨wd_at 71 (by decide +kernel) rfl, wd_at 5 (by decide +kernel) rfl⟩
theorem iw_3 : ∀ w ∈ u_ws RX2 TX2 6, w ∈ Wd := wd_all [317, 319, 321, 323, 325, 327] (by decide +kernel) (by decide +kernel)
theorem in_3 : (Cond.instantiable RX2 6) ∈ Wd ∧ (Cond.initialized RX2) ∈ Wd := ⟨wd_at 84 (by decide +kernel) rfl, wd_at 6 (by decide +kernel) rfl⟩
theorem iw_4 : ∀ w ∈ u_ws RX3 TX3 6, w ∈ Wd := wd_all [147, 149, 151, 153, 155, 157] (by decide +kernel) (by decide +kernel)
theorem in_4 : (Cond.instantiable RX3 6) ∈ Wd ∧ (Cond.initialized RX3) ∈ Wd := ⟨wd_at 120 (by decide +kernel) rfl, wd_at 10 (by decide +kernel) rfl⟩
theorem iw_5 : ∀ w ∈ u_ws RX4 TX4 2, w ∈ Wd := wd_all [48, 50] (by decide +kernel) (by decide +kernel)
theorem in_5 : (Cond.instantiable RX4 2) ∈ Wd ∧ (Cond.initialized RX4) ∈ Wd := ⟨wd_at 38 (by decide +kernel) rfl, wd_at 2 (by decide +kernel) rfl⟩
theorem iw_6 : ∀ w ∈ u_ws RX5 TX5 6, w ∈ Wd := wd_all [942, 944, 946, 948, 950, 952] (by decide +kernel) (by decide +kernel)
theorem in_6 : (Cond.instantiable RX5 6) ∈ Wd ∧ (Cond.initialized RX5) ∈ Wd := ⟨wd_at 911 (by decide +kernel) rfl, wd_at 25 (by decide +kernel) rfl⟩
theorem iw_7 : ∀ w ∈ u_ws RX6 TX6 3, w ∈ Wd := wd_all [745, 747, 749] (by decide +kernel) (by decide +kernel)
theorem in_7 : (Cond.instantiable RX6 3) ∈ Wd ∧ (Cond.initialized RX6) ∈ Wd := ⟨wd_at 737 (by decide +kernel) rfl, wd_at 20 (by decide +kernel) rfl⟩
theorem iw_8 : ∀ w ∈ u_ws RX7 TX7 2, w ∈ Wd := wd_all [64, 66] (by decide +kernel) (by decide +kernel)
theorem in_8 : (Cond.instantiable RX7 2) ∈ Wd ∧ (Cond.initialized RX7) ∈ Wd := ⟨wd_at 55 (by decide +kernel) rfl, wd_at 4 (by decide +kernel) rfl⟩
theorem iw_9 : ∀ w ∈ u_ws RX8 TX8 16, w ∈ Wd := wd_all [211, 213, 215, 217, 219, 221, 223, 225, 227, 229, 231, 233, 235, 237, 239, 241] (by decide +kernel) (by decide +kernel)
theorem in_9 : (Cond.instantiable RX8 16) ∈ Wd ∧ (Cond.initialized RX8) ∈ Wd := ⟨wd_at 161 (by decide +kernel) rfl, wd_at 11 (by decide +kernel) rfl⟩
theorem iw_10 : ∀ w ∈ u_ws RX9 TX9 12, w ∈ Wd := wd_all [346, 348, 350, 352, 354, 356, 358, 360, 362, 364, 366, 368] (by decide +kernel) (by decide +kernel)
theorem in_10 : (Cond.instantiable RX9 12) ∈ Wd ∧ (Cond.initialized RX9) ∈ Wd := ⟨wd_at 30 (by decide +kernel) rfl, wd_at 1 (by decide +kernel) rfl⟩
theorem iw_11 : ∀ w ∈ u_ws RX10 TX10 44, w ∈ Wd := wd_all [1153, 1155, 1157, 1159, 1161, 1163, 1165, 1167, 1169, 1171, 1173, 1175, 1177, 1179, 1181, 1183, 1185, 1187, 1189, 1191, 1193, 1195, 1197, 1199, 1201, 1203, 1205, 1207, 1209, 1211, 1213, 1215, 1217, 1219, 1221, 1223, 1225, 1227, 1229, 1231, 1233, 1235, 1237, 1239] (by decide +kernel) (by decide +kernel)
theorem in_11 : (Cond.instantiable RX10 44) ∈ Wd ∧ (Cond.initialized RX10) ∈ Wd := ⟨wd_at 1083 (by decide +kernel) rfl, wd_at 15 (by decide +kernel) rfl⟩
/-- a field by its link: the class that reads, the entry; the kind of object, the place, the type -/
def FL (own : String) (idx ci k tag f : Nat) : Prop := 100 * ci + k = f ∧ ∃ r : vw_C, vwCl[ci]? = some r ∧ k < r.2.2 ∧ (tgs ci)[k]? = some tag ∧ ∃ ref, Cond.fieldLink own idx ref (r.2.1 k).2.1 (r.2.1 k).2.2.1 ∈ Wd ∧ (ref = (r.2.1 k).1 ∨ Cond.sameField ref (r.2.1 k).1 (r.2.1 k).2.1 (r.2.1 k).2.2.1 ∈ Wd)
theorem fx_RX4_15 : FL RX4 15 5 0 1 500 := ⟨rfl, (RX4, TX4, 2), rfl, by decide, rfl, "SnowNode$Peers", wd_at 46 (by decide +kernel) rfl, Or.inl rfl⟩
theorem fx_RX4_9 : FL RX4 9 5 1 2 501 := ⟨rfl, (RX4, TX4, 2), rfl, by decide, rfl, "SnowNode$Peers", wd_at 47 (by decide +kernel) rfl, Or.inl rfl⟩
theorem fx_RX7_9 : FL RX7 9 8 0 1 800 := ⟨rfl, (RX7, TX7, 2), rfl, by decide, rfl, "SnowNode$Tape", wd_at 60 (by decide +kernel) rfl, Or.inl rfl⟩
theorem fx_RX9_91 : FL RX9 91 8 0 1 800 := ⟨rfl, (RX7, TX7, 2), rfl, by decide, rfl, "SnowNode$Tape", wd_at 61 (by decide +kernel) rfl, Or.inl rfl⟩
theorem fx_RX7_13 : FL RX7 13 8 1 0 801 := ⟨rfl, (RX7, TX7, 2), rfl, by decide, rfl, "SnowNode$Tape", wd_at 62 (by decide +kernel) rfl, Or.inl rfl⟩
theorem fx_RX9_81 : FL RX9 81 8 1 0 801 := ⟨rfl, (RX7, TX7, 2), rfl, by decide, rfl, "SnowNode$Tape", wd_at 63 (by decide +kernel) rfl, Or.inl rfl⟩
theorem fx_RX1_7 : FL RX1 7 2 0 1 200 := ⟨rfl, (RX1, TX1, 2), rfl, by decide, rfl, "SnowNode$Digest", wd_at 76 (by decide +kernel) rfl, Or.inl rfl⟩
theorem fx_RX1_13 : FL RX1 13 2 1 1 201 := ⟨rfl, (RX1, TX1, 2), rfl, by decide, rfl, "SnowNode$Digest", wd_at 77 (by decide +kernel) rfl, Or.inl rfl⟩
-- static or other: (Jvm.Cond.fieldLink "java/util/ArrayList" (39 : Nat) "java/util/ArrayList" "DEFAULTCAPACITY_EMPTY_ELEMENTDATA" "[Ljava/lang/Object;")
theorem fx_RJx4a65c_9 : FL RJx4a65c 9 0 1 1 1 := ⟨rfl, (RJx4a65c, TJx4a65c, 3), rfl, by decide, rfl, "java/util/ArrayList", wd_at 103 (by decide +kernel) rfl, Or.inl rfl⟩
theorem fx_RJx4a65c_48 : FL RJx4a65c 48 0 2 0 2 := ⟨rfl, (RJx4a65c, TJx4a65c, 3), rfl, by decide, rfl, "java/util/ArrayList", wd_at 104 (by decide +kernel) rfl, Or.inl rfl⟩
-- static or other: (Jvm.Cond.fieldLink "java/util/AbstractList" (7 : Nat) "java/util/AbstractList" "modCount" "I")
theorem fx_RJx4a65c_63 : FL RJx4a65c 63 0 0 0 0 := ⟨rfl, (RJx4a65c, TJx4a65c, 3), rfl, by decide, rfl, "java/util/ArrayList", wd_at 106 (by decide +kernel) rfl, Or.inr (wd_at 107 (by decide +kernel) rfl)⟩
theorem fx_RX3_9 : FL RX3 9 4 0 0 400 := ⟨rfl, (RX3, TX3, 6), rfl, by decide, rfl, "SnowNode$Output", wd_at 128 (by decide +kernel) rfl, Or.inl rfl⟩
theorem fx_RX8_80 : FL RX8 80 4 0 0 400 := ⟨rfl, (RX3, TX3, 6), rfl, by decide, rfl, "SnowNode$Output", wd_at 129 (by decide +kernel) rfl, Or.inl rfl⟩
theorem fx_RX3_18 : FL RX3 18 4 1 1 401 := ⟨rfl, (RX3, TX3, 6), rfl, by decide, rfl, "SnowNode$Output", wd_at 130 (by decide +kernel) rfl, Or.inl rfl⟩
theorem fx_RX9_269 : FL RX9 269 4 1 1 401 := ⟨rfl, (RX3, TX3, 6), rfl, by decide, rfl, "SnowNode$Output", wd_at 131 (by decide +kernel) rfl, Or.inl rfl⟩
theorem fx_RX2_187 : FL RX2 187 4 1 1 401 := ⟨rfl, (RX3, TX3, 6), rfl, by decide, rfl, "SnowNode$Output", wd_at 132 (by decide +kernel) rfl, Or.inl rfl⟩
theorem fx_RX3_22 : FL RX3 22 4 2 1 402 := ⟨rfl, (RX3, TX3, 6), rfl, by decide, rfl, "SnowNode$Output", wd_at 133 (by decide +kernel) rfl, Or.inl rfl⟩
theorem fx_RX2_142 : FL RX2 142 4 2 1 402 := ⟨rfl, (RX3, TX3, 6), rfl, by decide, rfl, "SnowNode$Output", wd_at 134 (by decide +kernel) rfl, Or.inl rfl⟩
theorem fx_RX9_274 : FL RX9 274 4 2 1 402 := ⟨rfl, (RX3, TX3, 6), rfl, by decide, rfl, "SnowNode$Output", wd_at 135 (by decide +kernel) rfl, Or.inl rfl⟩
theorem fx_RX8_87 : FL RX8 87 4 2 1 402 := ⟨rfl, (RX3, TX3, 6), rfl, by decide, rfl, "SnowNode$Output", wd_at 136 (by decide +kernel) rfl, Or.inl rfl⟩
theorem fx_RX3_26 : FL RX3 26 4 3 1 403 := ⟨rfl, (RX3, TX3, 6), rfl, by decide, rfl, "SnowNode$Output", wd_at 137 (by decide +kernel) rfl, Or.inl rfl⟩
theorem fx_RX9_280 : FL RX9 280 4 3 1 403 := ⟨rfl, (RX3, TX3, 6), rfl, by decide, rfl, "SnowNode$Output", wd_at 138 (by decide +kernel) rfl, Or.inl rfl⟩
theorem fx_RX2_190 : FL RX2 190 4 3 1 403 := ⟨rfl, (RX3, TX3, 6), rfl, by decide, rfl, "SnowNode$Output", wd_at 139 (by decide +kernel) rfl, Or.inl rfl⟩
theorem fx_RX3_29 : FL RX3 29 4 4 1 404 := ⟨rfl, (RX3, TX3, 6), rfl, by decide, rfl, "SnowNode$Output", wd_at 140 (by decide +kernel) rfl, Or.inl rfl⟩
theorem fx_RX8_83 : FL RX8 83 4 4 1 404 := ⟨rfl, (RX3, TX3, 6), rfl, by decide, rfl, "SnowNode$Output", wd_at 141 (by decide +kernel) rfl, Or.inl rfl⟩
theorem fx_RX9_286 : FL RX9 286 4 4 1 404 := ⟨rfl, (RX3, TX3, 6), rfl, by decide, rfl, "SnowNode$Output", wd_at 142 (by decide +kernel) rfl, Or.inl rfl⟩
theorem fx_RX2_193 : FL RX2 193 4 4 1 404 := ⟨rfl, (RX3, TX3, 6), rfl, by decide, rfl, "SnowNode$Output", wd_at 143 (by decide +kernel) rfl, Or.inl rfl⟩
theorem fx_RX3_32 : FL RX3 32 4 5 0 405 := ⟨rfl, (RX3, TX3, 6), rfl, by decide, rfl, "SnowNode$Output", wd_at 144 (by decide +kernel) rfl, Or.inl rfl⟩
theorem fx_RX9_283 : FL RX9 283 4 5 0 405 := ⟨rfl, (RX3, TX3, 6), rfl, by decide, rfl, "SnowNode$Output", wd_at 145 (by decide +kernel) rfl, Or.inl rfl⟩
theorem fx_RX2_169 : FL RX2 169 4 5 0 405 := ⟨rfl, (RX3, TX3, 6), rfl, by decide, rfl, "SnowNode$Output", wd_at 146 (by decide +kernel) rfl, Or.inl rfl⟩
theorem fx_RX8_11 : FL RX8 11 9 0 0 900 := ⟨rfl, (RX8, TX8, 16), rfl, by decide, rfl, "SnowNode$Transaction", wd_at 169 (by decide +kernel) rfl, Or.inl rfl⟩
theorem fx_RX2_68 : FL RX2 68 9 0 0 900 := ⟨rfl, (RX8, TX8, 16), rfl, by decide, rfl, "SnowNode$Transaction", wd_at 170 (by decide +kernel) rfl, Or.inl rfl⟩
theorem fx_RX9_109 : FL RX9 109 9 0 0 900 := ⟨rfl, (RX8, TX8, 16), rfl, by decide, rfl, "SnowNode$Transaction", wd_at 171 (by decide +kernel) rfl, Or.inl rfl⟩
theorem fx_RX8_17 : FL RX8 17 9 1 1 901 := ⟨rfl, (RX8, TX8, 16), rfl, by decide, rfl, "SnowNode$Transaction", wd_at 172 (by decide +kernel) rfl, Or.inl rfl⟩
theorem fx_RX9_258 : FL RX9 258 9 1 1 901 := ⟨rfl, (RX8, TX8, 16), rfl, by decide, rfl, "SnowNode$Transaction", wd_at 173 (by decide +kernel) rfl, Or.inl rfl⟩
theorem fx_RX8_21 : FL RX8 21 9 2 1 902 := ⟨rfl, (RX8, TX8, 16), rfl, by decide, rfl, "SnowNode$Transaction", wd_at 174 (by decide +kernel) rfl, Or.inl rfl⟩
theorem fx_RX2_108 : FL RX2 108 9 2 1 902 := ⟨rfl, (RX8, TX8, 16), rfl, by decide, rfl, "SnowNode$Transaction", wd_at 175 (by decide +kernel) rfl, Or.inl rfl⟩
theorem fx_RX9_248 : FL RX9 248 9 2 1 902 := ⟨rfl, (RX8, TX8, 16), rfl, by decide, rfl, "SnowNode$Transaction", wd_at 176 (by decide +kernel) rfl, Or.inl rfl⟩
theorem fx_RX8_25 : FL RX8 25 9 3 1 903 := ⟨rfl, (RX8, TX8, 16), rfl, by decide, rfl, "SnowNode$Transaction", wd_at 177 (by decide +kernel) rfl, Or.inl rfl⟩
theorem fx_RX2_119 : FL RX2 119 9 3 1 903 := ⟨rfl, (RX8, TX8, 16), rfl, by decide, rfl, "SnowNode$Transaction", wd_at 178 (by decide +kernel) rfl, Or.inl rfl⟩
theorem fx_RX9_251 : FL RX9 251 9 3 1 903 := ⟨rfl, (RX8, TX8, 16), rfl, by decide, rfl, "SnowNode$Transaction", wd_at 179 (by decide +kernel) rfl, Or.inl rfl⟩
theorem fx_RX8_28 : FL RX8 28 9 4 1 904 := ⟨rfl, (RX8, TX8, 16), rfl, by decide, rfl, "SnowNode$Transaction", wd_at 180 (by decide +kernel) rfl, Or.inl rfl⟩
theorem fx_RX2_125 : FL RX2 125 9 4 1 904 := ⟨rfl, (RX8, TX8, 16), rfl, by decide, rfl, "SnowNode$Transaction", wd_at 181 (by decide +kernel) rfl, Or.inl rfl⟩
theorem fx_RX8_31 : FL RX8 31 9 5 1 905 := ⟨rfl, (RX8, TX8, 16), rfl, by decide, rfl, "SnowNode$Transaction", wd_at 182 (by decide +kernel) rfl, Or.inl rfl⟩
theorem fx_RX9_254 : FL RX9 254 9 5 1 905 := ⟨rfl, (RX8, TX8, 16), rfl, by decide, rfl, "SnowNode$Transaction", wd_at 183 (by decide +kernel) rfl, Or.inl rfl⟩
theorem fx_RX2_221 : FL RX2 221 9 5 1 905 := ⟨rfl, (RX8, TX8, 16), rfl, by decide, rfl, "SnowNode$Transaction", wd_at 184 (by decide +kernel) rfl, Or.inl rfl⟩
theorem fx_RX8_35 : FL RX8 35 9 6 1 906 := ⟨rfl, (RX8, TX8, 16), rfl, by decide, rfl, "SnowNode$Transaction", wd_at 185 (by decide +kernel) rfl, Or.inl rfl⟩
theorem fx_RX2_115 : FL RX2 115 9 6 1 906 := ⟨rfl, (RX8, TX8, 16), rfl, by decide, rfl, "SnowNode$Transaction", wd_at 186 (by decide +kernel) rfl, Or.inl rfl⟩
theorem fx_RX8_41 : FL RX8 41 9 7 1 907 := ⟨rfl, (RX8, TX8, 16), rfl, by decide, rfl, "SnowNode$Transaction", wd_at 187 (by decide +kernel) rfl, Or.inl rfl⟩
theorem fx_RX2_135 : FL RX2 135 9 7 1 907 := ⟨rfl, (RX8, TX8, 16), rfl, by decide, rfl, "SnowNode$Transaction", wd_at 188 (by decide +kernel) rfl, Or.inl rfl⟩
theorem fx_RX8_44 : FL RX8 44 9 8 1 908 := ⟨rfl, (RX8, TX8, 16), rfl, by decide, rfl, "SnowNode$Transaction", wd_at 189 (by decide +kernel) rfl, Or.inl rfl⟩
theorem fx_RX8_48 : FL RX8 48 9 9 0 909 := ⟨rfl, (RX8, TX8, 16), rfl, by decide, rfl, "SnowNode$Transaction", wd_at 190 (by decide +kernel) rfl, Or.inl rfl⟩
theorem fx_RX2_54 : FL RX2 54 9 9 0 909 := ⟨rfl, (RX8, TX8, 16), rfl, by decide, rfl, "SnowNode$Transaction", wd_at 191 (by decide +kernel) rfl, Or.inl rfl⟩
theorem fx_RX8_51 : FL RX8 51 9 10 0 910 := ⟨rfl, (RX8, TX8, 16), rfl, by decide, rfl, "SnowNode$Transaction", wd_at 192 (by decide +kernel) rfl, Or.inl rfl⟩
theorem fx_RX2_57 : FL RX2 57 9 10 0 910 := ⟨rfl, (RX8, TX8, 16), rfl, by decide, rfl, "SnowNode$Transaction", wd_at 193 (by decide +kernel) rfl, Or.inl rfl⟩
theorem fx_RX3_52 : FL RX3 52 9 10 0 910 := ⟨rfl, (RX8, TX8, 16), rfl, by decide, rfl, "SnowNode$Transaction", wd_at 194 (by decide +kernel) rfl, Or.inl rfl⟩
theorem fx_RX9_229 : FL RX9 229 9 10 0 910 := ⟨rfl, (RX8, TX8, 16), rfl, by decide, rfl, "SnowNode$Transaction", wd_at 195 (by decide +kernel) rfl, Or.inl rfl⟩
theorem fx_RX8_54 : FL RX8 54 9 11 0 911 := ⟨rfl, (RX8, TX8, 16), rfl, by decide, rfl, "SnowNode$Transaction", wd_at 196 (by decide +kernel) rfl, Or.inl rfl⟩
theorem fx_RX3_43 : FL RX3 43 9 11 0 911 := ⟨rfl, (RX8, TX8, 16), rfl, by decide, rfl, "SnowNode$Transaction", wd_at 197 (by decide +kernel) rfl, Or.inl rfl⟩
theorem fx_RX9_232 : FL RX9 232 9 11 0 911 := ⟨rfl, (RX8, TX8, 16), rfl, by decide, rfl, "SnowNode$Transaction", wd_at 198 (by decide +kernel) rfl, Or.inl rfl⟩
theorem fx_RX2_163 : FL RX2 163 9 11 0 911 := ⟨rfl, (RX8, TX8, 16), rfl, by decide, rfl, "SnowNode$Transaction", wd_at 199 (by decide +kernel) rfl, Or.inl rfl⟩
theorem fx_RX8_57 : FL RX8 57 9 12 0 912 := ⟨rfl, (RX8, TX8, 16), rfl, by decide, rfl, "SnowNode$Transaction", wd_at 200 (by decide +kernel) rfl, Or.inl rfl⟩
theorem fx_RX9_235 : FL RX9 235 9 12 0 912 := ⟨rfl, (RX8, TX8, 16), rfl, by decide, rfl, "SnowNode$Transaction", wd_at 201 (by decide +kernel) rfl, Or.inl rfl⟩
theorem fx_RX2_159 : FL RX2 159 9 12 0 912 := ⟨rfl, (RX8, TX8, 16), rfl, by decide, rfl, "SnowNode$Transaction", wd_at 202 (by decide +kernel) rfl, Or.inl rfl⟩
theorem fx_RX8_61 : FL RX8 61 9 13 0 913 := ⟨rfl, (RX8, TX8, 16), rfl, by decide, rfl, "SnowNode$Transaction", wd_at 203 (by decide +kernel) rfl, Or.inl rfl⟩
theorem fx_RX9_163 : FL RX9 163 9 13 0 913 := ⟨rfl, (RX8, TX8, 16), rfl, by decide, rfl, "SnowNode$Transaction", wd_at 204 (by decide +kernel) rfl, Or.inl rfl⟩
theorem fx_RX2_207 : FL RX2 207 9 13 0 913 := ⟨rfl, (RX8, TX8, 16), rfl, by decide, rfl, "SnowNode$Transaction", wd_at 205 (by decide +kernel) rfl, Or.inl rfl⟩
theorem fx_RX8_64 : FL RX8 64 9 14 0 914 := ⟨rfl, (RX8, TX8, 16), rfl, by decide, rfl, "SnowNode$Transaction", wd_at 206 (by decide +kernel) rfl, Or.inl rfl⟩
theorem fx_RX9_139 : FL RX9 139 9 14 0 914 := ⟨rfl, (RX8, TX8, 16), rfl, by decide, rfl, "SnowNode$Transaction", wd_at 207 (by decide +kernel) rfl, Or.inl rfl⟩
theorem fx_RX2_204 : FL RX2 204 9 14 0 914 := ⟨rfl, (RX8, TX8, 16), rfl, by decide, rfl, "SnowNode$Transaction", wd_at 208 (by decide +kernel) rfl, Or.inl rfl⟩
theorem fx_RX8_67 : FL RX8 67 9 15 0 915 := ⟨rfl, (RX8, TX8, 16), rfl, by decide, rfl, "SnowNode$Transaction", wd_at 209 (by decide +kernel) rfl, Or.inl rfl⟩
theorem fx_RX2_198 : FL RX2 198 9 15 0 915 := ⟨rfl, (RX8, TX8, 16), rfl, by decide, rfl, "SnowNode$Transaction", wd_at 210 (by decide +kernel) rfl, Or.inl rfl⟩
theorem fx_RX2_9 : FL RX2 9 3 0 0 300 := ⟨rfl, (RX2, TX2, 6), rfl, by decide, rfl, "SnowNode$Graph", wd_at 308 (by decide +kernel) rfl, Or.inl rfl⟩
theorem fx_RX2_15 : FL RX2 15 3 1 0 301 := ⟨rfl, (RX2, TX2, 6), rfl, by decide, rfl, "SnowNode$Graph", wd_at 309 (by decide +kernel) rfl, Or.inl rfl⟩
theorem fx_RX2_21 : FL RX2 21 3 2 1 302 := ⟨rfl, (RX2, TX2, 6), rfl, by decide, rfl, "SnowNode$Graph", wd_at 310 (by decide +kernel) rfl, Or.inl rfl⟩
theorem fx_RX9_340 : FL RX9 340 3 2 1 302 := ⟨rfl, (RX2, TX2, 6), rfl, by decide, rfl, "SnowNode$Graph", wd_at 311 (by decide +kernel) rfl, Or.inl rfl⟩
theorem fx_RX2_25 : FL RX2 25 3 3 1 303 := ⟨rfl, (RX2, TX2, 6), rfl, by decide, rfl, "SnowNode$Graph", wd_at 312 (by decide +kernel) rfl, Or.inl rfl⟩
theorem fx_RX9_346 : FL RX9 346 3 3 1 303 := ⟨rfl, (RX2, TX2, 6), rfl, by decide, rfl, "SnowNode$Graph", wd_at 313 (by decide +kernel) rfl, Or.inl rfl⟩
theorem fx_RX2_28 : FL RX2 28 3 4 1 304 := ⟨rfl, (RX2, TX2, 6), rfl, by decide, rfl, "SnowNode$Graph", wd_at 314 (by decide +kernel) rfl, Or.inl rfl⟩
theorem fx_RX9_349 : FL RX9 349 3 4 1 304 := ⟨rfl, (RX2, TX2, 6), rfl, by decide, rfl, "SnowNode$Graph", wd_at 315 (by decide +kernel) rfl, Or.inl rfl⟩
theorem fx_RX2_31 : FL RX2 31 3 5 1 305 := ⟨rfl, (RX2, TX2, 6), rfl, by decide, rfl, "SnowNode$Graph", wd_at 316 (by decide +kernel) rfl, Or.inl rfl⟩
theorem fx_RX9_7 : FL RX9 7 10 0 0 1000 := ⟨rfl, (RX9, TX9, 12), rfl, by decide, rfl, "SnowNode", wd_at 334 (by decide +kernel) rfl, Or.inl rfl⟩
theorem fx_RX9_13 : FL RX9 13 10 1 0 1001 := ⟨rfl, (RX9, TX9, 12), rfl, by decide, rfl, "SnowNode", wd_at 335 (by decide +kernel) rfl, Or.inl rfl⟩
theorem fx_RX9_16 : FL RX9 16 10 2 0 1002 := ⟨rfl, (RX9, TX9, 12), rfl, by decide, rfl, "SnowNode", wd_at 336 (by decide +kernel) rfl, Or.inl rfl⟩
theorem fx_RX9_19 : FL RX9 19 10 3 0 1003 := ⟨rfl, (RX9, TX9, 12), rfl, by decide, rfl, "SnowNode", wd_at 337 (by decide +kernel) rfl, Or.inl rfl⟩
theorem fx_RX9_27 : FL RX9 27 10 4 1 1004 := ⟨rfl, (RX9, TX9, 12), rfl, by decide, rfl, "SnowNode", wd_at 338 (by decide +kernel) rfl, Or.inl rfl⟩
theorem fx_RX9_34 : FL RX9 34 10 5 1 1005 := ⟨rfl, (RX9, TX9, 12), rfl, by decide, rfl, "SnowNode", wd_at 339 (by decide +kernel) rfl, Or.inl rfl⟩
theorem fx_RX9_41 : FL RX9 41 10 6 1 1006 := ⟨rfl, (RX9, TX9, 12), rfl, by decide, rfl, "SnowNode", wd_at 340 (by decide +kernel) rfl, Or.inl rfl⟩
theorem fx_RX9_50 : FL RX9 50 10 7 1 1007 := ⟨rfl, (RX9, TX9, 12), rfl, by decide, rfl, "SnowNode", wd_at 341 (by decide +kernel) rfl, Or.inl rfl⟩
theorem fx_RX9_57 : FL RX9 57 10 8 1 1008 := ⟨rfl, (RX9, TX9, 12), rfl, by decide, rfl, "SnowNode", wd_at 342 (by decide +kernel) rfl, Or.inl rfl⟩
theorem fx_RX9_63 : FL RX9 63 10 9 1 1009 := ⟨rfl, (RX9, TX9, 12), rfl, by decide, rfl, "SnowNode", wd_at 343 (by decide +kernel) rfl, Or.inl rfl⟩
theorem fx_RX9_67 : FL RX9 67 10 10 0 1010 := ⟨rfl, (RX9, TX9, 12), rfl, by decide, rfl, "SnowNode", wd_at 344 (by decide +kernel) rfl, Or.inl rfl⟩
theorem fx_RX9_70 : FL RX9 70 10 11 0 1011 := ⟨rfl, (RX9, TX9, 12), rfl, by decide, rfl, "SnowNode", wd_at 345 (by decide +kernel) rfl, Or.inl rfl⟩
theorem fx_RX0_9 : FL RX0 9 1 0 0 100 := ⟨rfl, (RX0, TX0, 11), rfl, by decide, rfl, "SnowNode$Choice", wd_at 567 (by decide +kernel) rfl, Or.inl rfl⟩
theorem fx_RX0_15 : FL RX0 15 1 1 1 101 := ⟨rfl, (RX0, TX0, 11), rfl, by decide, rfl, "SnowNode$Choice", wd_at 568 (by decide +kernel) rfl, Or.inl rfl⟩
theorem fx_RX0_19 : FL RX0 19 1 2 1 102 := ⟨rfl, (RX0, TX0, 11), rfl, by decide, rfl, "SnowNode$Choice", wd_at 569 (by decide +kernel) rfl, Or.inl rfl⟩
theorem fx_RX0_22 : FL RX0 22 1 3 0 103 := ⟨rfl, (RX0, TX0, 11), rfl, by decide, rfl, "SnowNode$Choice", wd_at 570 (by decide +kernel) rfl, Or.inl rfl⟩
theorem fx_RX0_25 : FL RX0 25 1 4 0 104 := ⟨rfl, (RX0, TX0, 11), rfl, by decide, rfl, "SnowNode$Choice", wd_at 571 (by decide +kernel) rfl, Or.inl rfl⟩
theorem fx_RX0_28 : FL RX0 28 1 5 0 105 := ⟨rfl, (RX0, TX0, 11), rfl, by decide, rfl, "SnowNode$Choice", wd_at 572 (by decide +kernel) rfl, Or.inl rfl⟩
theorem fx_RX0_31 : FL RX0 31 1 6 0 106 := ⟨rfl, (RX0, TX0, 11), rfl, by decide, rfl, "SnowNode$Choice", wd_at 573 (by decide +kernel) rfl, Or.inl rfl⟩
theorem fx_RX9_315 : FL RX9 315 1 6 0 106 := ⟨rfl, (RX0, TX0, 11), rfl, by decide, rfl, "SnowNode$Choice", wd_at 574 (by decide +kernel) rfl, Or.inl rfl⟩
theorem fx_RX0_34 : FL RX0 34 1 7 0 107 := ⟨rfl, (RX0, TX0, 11), rfl, by decide, rfl, "SnowNode$Choice", wd_at 575 (by decide +kernel) rfl, Or.inl rfl⟩
theorem fx_RX0_37 : FL RX0 37 1 8 0 108 := ⟨rfl, (RX0, TX0, 11), rfl, by decide, rfl, "SnowNode$Choice", wd_at 576 (by decide +kernel) rfl, Or.inl rfl⟩
theorem fx_RX9_336 : FL RX9 336 1 8 0 108 := ⟨rfl, (RX0, TX0, 11), rfl, by decide, rfl, "SnowNode$Choice", wd_at 577 (by decide +kernel) rfl, Or.inl rfl⟩
theorem fx_RX0_57 : FL RX0 57 1 9 0 109 := ⟨rfl, (RX0, TX0, 11), rfl, by decide, rfl, "SnowNode$Choice", wd_at 578 (by decide +kernel) rfl, Or.inl rfl⟩
theorem fx_RX9_325 : FL RX9 325 1 9 0 109 := ⟨rfl, (RX0, TX0, 11), rfl, by decide, rfl, "SnowNode$Choice", wd_at 579 (by decide +kernel) rfl, Or.inl rfl⟩
theorem fx_RX0_40 : FL RX0 40 1 10 0 110 := ⟨rfl, (RX0, TX0, 11), rfl, by decide, rfl, "SnowNode$Choice", wd_at 580 (by decide +kernel) rfl, Or.inl rfl⟩
theorem fx_RX9_318 : FL RX9 318 1 10 0 110 := ⟨rfl, (RX0, TX0, 11), rfl, by decide, rfl, "SnowNode$Choice", wd_at 581 (by decide +kernel) rfl, Or.inl rfl⟩
-- static or other: (Jvm.Cond.fieldLink "java/lang/Throwable" (198 : Nat) "java/lang/Throwable" "backtrace" "Ljava/lang/Object;")
-- static or other: (Jvm.Cond.fieldLink "java/lang/Throwable" (13 : Nat) "java/lang/Throwable" "UNASSIGNED_STACK" "[Ljava/lang/StackTraceElement;")
-- static or other: (Jvm.Cond.fieldLink "java/lang/Throwable" (20 : Nat) "java/lang/Throwable" "SUPPRESSED_SENTINEL" "Ljava/util/List;")
-- static or other: (Jvm.Cond.fieldLink "java/lang/Throwable" (198 : Nat) "java/lang/Throwable" "backtrace" "Ljava/lang/Object;")
-- static or other: (Jvm.Cond.fieldLink "java/lang/Throwable" (31 : Nat) "java/lang/Throwable" "detailMessage" "Ljava/lang/String;")
-- static or other: (Jvm.Cond.fieldLink "java/lang/Throwable" (7 : Nat) "java/lang/Throwable" "cause" "Ljava/lang/Throwable;")
-- static or other: (Jvm.Cond.fieldLink "java/lang/Throwable" (17 : Nat) "java/lang/Throwable" "stackTrace" "[Ljava/lang/StackTraceElement;")
-- static or other: (Jvm.Cond.fieldLink "java/lang/Throwable" (24 : Nat) "java/lang/Throwable" "suppressedExceptions" "Ljava/util/List;")
theorem fx_RX6_7 : FL RX6 7 7 0 1 700 := ⟨rfl, (RX6, TX6, 3), rfl, by decide, rfl, "SnowNode$Reader", wd_at 742 (by decide +kernel) rfl, Or.inl rfl⟩
theorem fx_RX6_13 : FL RX6 13 7 1 0 701 := ⟨rfl, (RX6, TX6, 3), rfl, by decide, rfl, "SnowNode$Reader", wd_at 743 (by decide +kernel) rfl, Or.inl rfl⟩
theorem fx_RX6_17 : FL RX6 17 7 2 0 702 := ⟨rfl, (RX6, TX6, 3), rfl, by decide, rfl, "SnowNode$Reader", wd_at 744 (by decide +kernel) rfl, Or.inl rfl⟩
-- static or other: (Jvm.Cond.fieldLink "SnowNode$Digest" (29 : Nat) "SnowNode$Digest" "START" "[I")
-- static or other: (Jvm.Cond.fieldLink "SnowNode$Digest" (38 : Nat) "SnowNode$Digest" "ROUND" "[I")
theorem fx_RX5_9 : FL RX5 9 6 0 0 600 := ⟨rfl, (RX5, TX5, 6), rfl, by decide, rfl, "SnowNode$Poll", wd_at 930 (by decide +kernel) rfl, Or.inl rfl⟩
theorem fx_RX9_358 : FL RX9 358 6 0 0 600 := ⟨rfl, (RX5, TX5, 6), rfl, by decide, rfl, "SnowNode$Poll", wd_at 931 (by decide +kernel) rfl, Or.inl rfl⟩
theorem fx_RX5_15 : FL RX5 15 6 1 1 601 := ⟨rfl, (RX5, TX5, 6), rfl, by decide, rfl, "SnowNode$Poll", wd_at 932 (by decide +kernel) rfl, Or.inl rfl⟩
theorem fx_RX9_188 : FL RX9 188 6 1 1 601 := ⟨rfl, (RX5, TX5, 6), rfl, by decide, rfl, "SnowNode$Poll", wd_at 933 (by decide +kernel) rfl, Or.inl rfl⟩
theorem fx_RX5_19 : FL RX5 19 6 2 1 602 := ⟨rfl, (RX5, TX5, 6), rfl, by decide, rfl, "SnowNode$Poll", wd_at 934 (by decide +kernel) rfl, Or.inl rfl⟩
theorem fx_RX9_192 : FL RX9 192 6 2 1 602 := ⟨rfl, (RX5, TX5, 6), rfl, by decide, rfl, "SnowNode$Poll", wd_at 935 (by decide +kernel) rfl, Or.inl rfl⟩
theorem fx_RX5_23 : FL RX5 23 6 3 1 603 := ⟨rfl, (RX5, TX5, 6), rfl, by decide, rfl, "SnowNode$Poll", wd_at 936 (by decide +kernel) rfl, Or.inl rfl⟩
theorem fx_RX9_204 : FL RX9 204 6 3 1 603 := ⟨rfl, (RX5, TX5, 6), rfl, by decide, rfl, "SnowNode$Poll", wd_at 937 (by decide +kernel) rfl, Or.inl rfl⟩
theorem fx_RX5_27 : FL RX5 27 6 4 0 604 := ⟨rfl, (RX5, TX5, 6), rfl, by decide, rfl, "SnowNode$Poll", wd_at 938 (by decide +kernel) rfl, Or.inl rfl⟩
theorem fx_RX9_214 : FL RX9 214 6 4 0 604 := ⟨rfl, (RX5, TX5, 6), rfl, by decide, rfl, "SnowNode$Poll", wd_at 939 (by decide +kernel) rfl, Or.inl rfl⟩
theorem fx_RX5_30 : FL RX5 30 6 5 0 605 := ⟨rfl, (RX5, TX5, 6), rfl, by decide, rfl, "SnowNode$Poll", wd_at 940 (by decide +kernel) rfl, Or.inl rfl⟩
theorem fx_RX9_224 : FL RX9 224 6 5 0 605 := ⟨rfl, (RX5, TX5, 6), rfl, by decide, rfl, "SnowNode$Poll", wd_at 941 (by decide +kernel) rfl, Or.inl rfl⟩
theorem fx_RX10_145 : FL RX10 145 11 0 0 1100 := ⟨rfl, (RX10, TX10, 44), rfl, by decide, rfl, "SnowNodeModel", wd_at 1109 (by decide +kernel) rfl, Or.inl rfl⟩
theorem fx_RX10_118 : FL RX10 118 11 1 2 1101 := ⟨rfl, (RX10, TX10, 44), rfl, by decide, rfl, "SnowNodeModel", wd_at 1110 (by decide +kernel) rfl, Or.inl rfl⟩
theorem fx_RX10_122 : FL RX10 122 11 2 0 1102 := ⟨rfl, (RX10, TX10, 44), rfl, by decide, rfl, "SnowNodeModel", wd_at 1111 (by decide +kernel) rfl, Or.inl rfl⟩
theorem fx_RX10_125 : FL RX10 125 11 3 0 1103 := ⟨rfl, (RX10, TX10, 44), rfl, by decide, rfl, "SnowNodeModel", wd_at 1112 (by decide +kernel) rfl, Or.inl rfl⟩
theorem fx_RX10_128 : FL RX10 128 11 4 0 1104 := ⟨rfl, (RX10, TX10, 44), rfl, by decide, rfl, "SnowNodeModel", wd_at 1113 (by decide +kernel) rfl, Or.inl rfl⟩
theorem fx_RX10_131 : FL RX10 131 11 5 0 1105 := ⟨rfl, (RX10, TX10, 44), rfl, by decide, rfl, "SnowNodeModel", wd_at 1114 (by decide +kernel) rfl, Or.inl rfl⟩
theorem fx_RX10_7 : FL RX10 7 11 6 1 1106 := ⟨rfl, (RX10, TX10, 44), rfl, by decide, rfl, "SnowNodeModel", wd_at 1115 (by decide +kernel) rfl, Or.inl rfl⟩
theorem fx_RX10_13 : FL RX10 13 11 7 1 1107 := ⟨rfl, (RX10, TX10, 44), rfl, by decide, rfl, "SnowNodeModel", wd_at 1116 (by decide +kernel) rfl, Or.inl rfl⟩
theorem fx_RX10_173 : FL RX10 173 11 8 0 1108 := ⟨rfl, (RX10, TX10, 44), rfl, by decide, rfl, "SnowNodeModel", wd_at 1117 (by decide +kernel) rfl, Or.inl rfl⟩
theorem fx_RX10_16 : FL RX10 16 11 9 0 1109 := ⟨rfl, (RX10, TX10, 44), rfl, by decide, rfl, "SnowNodeModel", wd_at 1118 (by decide +kernel) rfl, Or.inl rfl⟩
theorem fx_RX10_20 : FL RX10 20 11 10 1 1110 := ⟨rfl, (RX10, TX10, 44), rfl, by decide, rfl, "SnowNodeModel", wd_at 1119 (by decide +kernel) rfl, Or.inl rfl⟩
theorem fx_RX10_23 : FL RX10 23 11 11 1 1111 := ⟨rfl, (RX10, TX10, 44), rfl, by decide, rfl, "SnowNodeModel", wd_at 1120 (by decide +kernel) rfl, Or.inl rfl⟩
theorem fx_RX10_27 : FL RX10 27 11 12 1 1112 := ⟨rfl, (RX10, TX10, 44), rfl, by decide, rfl, "SnowNodeModel", wd_at 1121 (by decide +kernel) rfl, Or.inl rfl⟩
theorem fx_RX10_30 : FL RX10 30 11 13 1 1113 := ⟨rfl, (RX10, TX10, 44), rfl, by decide, rfl, "SnowNodeModel", wd_at 1122 (by decide +kernel) rfl, Or.inl rfl⟩
theorem fx_RX10_33 : FL RX10 33 11 14 1 1114 := ⟨rfl, (RX10, TX10, 44), rfl, by decide, rfl, "SnowNodeModel", wd_at 1123 (by decide +kernel) rfl, Or.inl rfl⟩
theorem fx_RX10_37 : FL RX10 37 11 15 1 1115 := ⟨rfl, (RX10, TX10, 44), rfl, by decide, rfl, "SnowNodeModel", wd_at 1124 (by decide +kernel) rfl, Or.inl rfl⟩
theorem fx_RX10_40 : FL RX10 40 11 16 1 1116 := ⟨rfl, (RX10, TX10, 44), rfl, by decide, rfl, "SnowNodeModel", wd_at 1125 (by decide +kernel) rfl, Or.inl rfl⟩
theorem fx_RX10_43 : FL RX10 43 11 17 0 1117 := ⟨rfl, (RX10, TX10, 44), rfl, by decide, rfl, "SnowNodeModel", wd_at 1126 (by decide +kernel) rfl, Or.inl rfl⟩
theorem fx_RX10_46 : FL RX10 46 11 18 1 1118 := ⟨rfl, (RX10, TX10, 44), rfl, by decide, rfl, "SnowNodeModel", wd_at 1127 (by decide +kernel) rfl, Or.inl rfl⟩
theorem fx_RX10_49 : FL RX10 49 11 19 0 1119 := ⟨rfl, (RX10, TX10, 44), rfl, by decide, rfl, "SnowNodeModel", wd_at 1128 (by decide +kernel) rfl, Or.inl rfl⟩
theorem fx_RX10_52 : FL RX10 52 11 20 1 1120 := ⟨rfl, (RX10, TX10, 44), rfl, by decide, rfl, "SnowNodeModel", wd_at 1129 (by decide +kernel) rfl, Or.inl rfl⟩
theorem fx_RX10_55 : FL RX10 55 11 21 1 1121 := ⟨rfl, (RX10, TX10, 44), rfl, by decide, rfl, "SnowNodeModel", wd_at 1130 (by decide +kernel) rfl, Or.inl rfl⟩
theorem fx_RX10_58 : FL RX10 58 11 22 1 1122 := ⟨rfl, (RX10, TX10, 44), rfl, by decide, rfl, "SnowNodeModel", wd_at 1131 (by decide +kernel) rfl, Or.inl rfl⟩
theorem fx_RX10_61 : FL RX10 61 11 23 1 1123 := ⟨rfl, (RX10, TX10, 44), rfl, by decide, rfl, "SnowNodeModel", wd_at 1132 (by decide +kernel) rfl, Or.inl rfl⟩
theorem fx_RX10_64 : FL RX10 64 11 24 1 1124 := ⟨rfl, (RX10, TX10, 44), rfl, by decide, rfl, "SnowNodeModel", wd_at 1133 (by decide +kernel) rfl, Or.inl rfl⟩
theorem fx_RX10_67 : FL RX10 67 11 25 1 1125 := ⟨rfl, (RX10, TX10, 44), rfl, by decide, rfl, "SnowNodeModel", wd_at 1134 (by decide +kernel) rfl, Or.inl rfl⟩
theorem fx_RX10_70 : FL RX10 70 11 26 1 1126 := ⟨rfl, (RX10, TX10, 44), rfl, by decide, rfl, "SnowNodeModel", wd_at 1135 (by decide +kernel) rfl, Or.inl rfl⟩
theorem fx_RX10_73 : FL RX10 73 11 27 1 1127 := ⟨rfl, (RX10, TX10, 44), rfl, by decide, rfl, "SnowNodeModel", wd_at 1136 (by decide +kernel) rfl, Or.inl rfl⟩
theorem fx_RX10_76 : FL RX10 76 11 28 1 1128 := ⟨rfl, (RX10, TX10, 44), rfl, by decide, rfl, "SnowNodeModel", wd_at 1137 (by decide +kernel) rfl, Or.inl rfl⟩
theorem fx_RX10_297 : FL RX10 297 11 29 0 1129 := ⟨rfl, (RX10, TX10, 44), rfl, by decide, rfl, "SnowNodeModel", wd_at 1138 (by decide +kernel) rfl, Or.inl rfl⟩
theorem fx_RX10_313 : FL RX10 313 11 30 0 1130 := ⟨rfl, (RX10, TX10, 44), rfl, by decide, rfl, "SnowNodeModel", wd_at 1139 (by decide +kernel) rfl, Or.inl rfl⟩
theorem fx_RX10_79 : FL RX10 79 11 31 1 1131 := ⟨rfl, (RX10, TX10, 44), rfl, by decide, rfl, "SnowNodeModel", wd_at 1140 (by decide +kernel) rfl, Or.inl rfl⟩
theorem fx_RX10_82 : FL RX10 82 11 32 1 1132 := ⟨rfl, (RX10, TX10, 44), rfl, by decide, rfl, "SnowNodeModel", wd_at 1141 (by decide +kernel) rfl, Or.inl rfl⟩
theorem fx_RX10_85 : FL RX10 85 11 33 1 1133 := ⟨rfl, (RX10, TX10, 44), rfl, by decide, rfl, "SnowNodeModel", wd_at 1142 (by decide +kernel) rfl, Or.inl rfl⟩
theorem fx_RX10_88 : FL RX10 88 11 34 1 1134 := ⟨rfl, (RX10, TX10, 44), rfl, by decide, rfl, "SnowNodeModel", wd_at 1143 (by decide +kernel) rfl, Or.inl rfl⟩
theorem fx_RX10_91 : FL RX10 91 11 35 1 1135 := ⟨rfl, (RX10, TX10, 44), rfl, by decide, rfl, "SnowNodeModel", wd_at 1144 (by decide +kernel) rfl, Or.inl rfl⟩
theorem fx_RX10_94 : FL RX10 94 11 36 1 1136 := ⟨rfl, (RX10, TX10, 44), rfl, by decide, rfl, "SnowNodeModel", wd_at 1145 (by decide +kernel) rfl, Or.inl rfl⟩
theorem fx_RX10_97 : FL RX10 97 11 37 1 1137 := ⟨rfl, (RX10, TX10, 44), rfl, by decide, rfl, "SnowNodeModel", wd_at 1146 (by decide +kernel) rfl, Or.inl rfl⟩
theorem fx_RX10_100 : FL RX10 100 11 38 1 1138 := ⟨rfl, (RX10, TX10, 44), rfl, by decide, rfl, "SnowNodeModel", wd_at 1147 (by decide +kernel) rfl, Or.inl rfl⟩
theorem fx_RX10_103 : FL RX10 103 11 39 1 1139 := ⟨rfl, (RX10, TX10, 44), rfl, by decide, rfl, "SnowNodeModel", wd_at 1148 (by decide +kernel) rfl, Or.inl rfl⟩
theorem fx_RX10_106 : FL RX10 106 11 40 1 1140 := ⟨rfl, (RX10, TX10, 44), rfl, by decide, rfl, "SnowNodeModel", wd_at 1149 (by decide +kernel) rfl, Or.inl rfl⟩
theorem fx_RX10_109 : FL RX10 109 11 41 1 1141 := ⟨rfl, (RX10, TX10, 44), rfl, by decide, rfl, "SnowNodeModel", wd_at 1150 (by decide +kernel) rfl, Or.inl rfl⟩
theorem fx_RX10_112 : FL RX10 112 11 42 1 1142 := ⟨rfl, (RX10, TX10, 44), rfl, by decide, rfl, "SnowNodeModel", wd_at 1151 (by decide +kernel) rfl, Or.inl rfl⟩
theorem fx_RX10_115 : FL RX10 115 11 43 1 1143 := ⟨rfl, (RX10, TX10, 44), rfl, by decide, rfl, "SnowNodeModel", wd_at 1152 (by decide +kernel) rfl, Or.inl rfl⟩
theorem fx_RJxc12de_7 : FL RJxc12de 7 0 0 0 0 := ⟨rfl, (RJx4a65c, TJx4a65c, 3), rfl, by decide, rfl, "java/util/AbstractList", wd_at 105 (by decide +kernel) rfl, Or.inl rfl⟩
/-- a method: its name, code, locals, type; its frames and locals' words -/
abbrev MD : Type := MethodName × ByteArray × Nat × Option FieldType × Nat × Nat
abbrev MD.y (d : MD) : MethodName := d.1
abbrev MD.b (d : MD) : ByteArray := d.2.1
abbrev MD.l (d : MD) : Nat := d.2.2.1
abbrev MD.r (d : MD) : Option FieldType := d.2.2.2.1
abbrev MD.rm (d : MD) (mc ms : Nat) : Room := { frames := d.2.2.2.2.1, cells := mc, slots := ms, locals := d.2.2.2.2.2 }
/-- a method of an object that may be called: its words, how many arguments -/
def MI (d : MD) (n : Nat) : Prop := Cond.instanceMethod d.y ∈ Wd ∧ Cond.selects d.y.cls d.y d.y ∈ Wd ∧ Cond.initialized d.y.cls ∈ Wd ∧ Cond.code d.y d.b d.l d.r ∈ Wd ∧ (d.y.cls ≠ "java/lang/invoke/MethodHandle" ∧ d.y.cls ≠ "java/lang/invoke/VarHandle" ∧ (parseMethodDescriptor d.y.desc).map (fun d => d.parameters.length) = some n)
/-- a static one; a constructor -/
def MS (d : MD) (n : Nat) : Prop := Cond.static d.y ∈ Wd ∧ Cond.initialized d.y.cls ∈ Wd ∧ Cond.code d.y d.b d.l d.r ∈ Wd ∧ (d.y.cls ≠ "java/lang/invoke/MethodHandle" ∧ d.y.cls ≠ "java/lang/invoke/VarHandle" ∧ (parseMethodDescriptor d.y.desc).map (fun d => d.parameters.length) = some n)
def MC (d : MD) (n : Nat) : Prop := Cond.instanceMethod d.y ∈ Wd ∧ d.y.name = "<init>" ∧ d.r = none ∧ Cond.initialized d.y.cls ∈ Wd ∧ Cond.code d.y d.b d.l d.r ∈ Wd ∧ (d.y.cls ≠ "java/lang/invoke/MethodHandle" ∧ d.y.cls ≠ "java/lang/invoke/VarHandle" ∧ (parseMethodDescriptor d.y.desc).map (fun d => d.parameters.length) = some n)
