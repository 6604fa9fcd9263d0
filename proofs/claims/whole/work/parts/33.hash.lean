/-! The digest -/
def rot (v n : Int32) : Int32 := (v.toUInt32 >>> (n.toUInt32 &&& Int32.toUInt32 31)).toInt32 ||| v <<< ((nI 32 - n) &&& 31)
def shF (H : Nat → Int32) (j : Nat) : Nat → Int32 := fun x => if j < x ∧ x ≤ 7 then H (x - 1) else H x
def mx1 (H : Nat → Int32) (k w : Int32) : Int32 := ((((H 7 + ((rot (H 4) (nI 6) ^^^ rot (H 4) (nI 11)) ^^^ rot (H 4) (nI 25))) + ((H 4 &&& H 5) ^^^ ((H 4 ^^^ (-1)) &&& H 6))) + k) + w)
def mx2 (H : Nat → Int32) : Int32 := (rot (H 0) (nI 2) ^^^ rot (H 0) (nI 13)) ^^^ rot (H 0) (nI 22)
def mx3 (H : Nat → Int32) : Int32 := ((H 0 &&& H 1) ^^^ (H 0 &&& H 2)) ^^^ (H 1 &&& H 2)
def mixF (H : Nat → Int32) (k w : Int32) : Nat → Int32 := upd (upd (shF H 0) 4 (shF H 0 4 + mx1 H k w)) 0 ((mx1 H k w + mx2 H) + mx3 H)
/-- the block's bytes, then its end mark -/
def blk (T B : Nat → Int32) : Nat → (Nat → Int32)
  | 0 => B
  | i + 1 => upd (blk T B i) (i / 4) (blk T B i (i / 4) ||| T i <<< (nI (24 - 8 * (i % 4)) &&& 31))
def blkE (T B : Nat → Int32) (n : Nat) : Nat → Int32 := upd (upd (blk T B n) (n / 4) (blk T B n (n / 4) ||| nI 128 <<< (nI (24 - 8 * (n % 4)) &&& 31))) 15 (nI (8 * n))
def ss0 (a : Int32) : Int32 := (rot a (nI 7) ^^^ rot a (nI 18)) ^^^ (a.toUInt32 >>> ((nI 3).toUInt32 &&& Int32.toUInt32 31)).toInt32
def ss1 (b : Int32) : Int32 := (rot b (nI 17) ^^^ rot b (nI 19)) ^^^ (b.toUInt32 >>> ((nI 10).toUInt32 &&& Int32.toUInt32 31)).toInt32
def schS (W : Nat → Int32) (i : Nat) : Nat → Int32 := upd W i (((W (i - 16) + ss0 (W (i - 15))) + W (i - 7)) + ss1 (W (i - 2)))
def sch (B : Nat → Int32) : Nat → (Nat → Int32)
  | 0 => B
  | k + 1 => schS (sch B k) (16 + k)
def hN (F K W : Nat → Int32) : Nat → (Nat → Int32)
  | 0 => F
  | k + 1 => mixF (hN F K W k) (K k) (W k)
/-- the digest's first word, of n bytes T, by the starting words F and the constants K; B: what stood in the block -/
def hsh (T F K : Nat → Int32) (n : Nat) (B Hx : Nat → Int32) : Int32 := F 0 + hN (fun j => if j < 8 then F j else Hx j) K (sch (blkE T (fun j => if j < 16 then nI 0 else B j) n) 48) 64 0
section Hash
variable {l : Launch} {g : GG} {S : hS} {mo : Nat} {M : MM} {n h : Nat}
theorem cm_turned {v m : Int32} : Sp l g mX10_turned 0 0 [vi v, vi m] S (fun r S' => r = some (vi (rot v m)) ∧ S' = S) := by
  refine Sp.start (own := RX10) [(0, vi v), (1, vi m)] (by decide +kernel) rfl rfl (Nat.le_of_ble_eq_true rfl) ?_
  intro J C
  refine r_iload_n (pc := 0) C dX10_turned_0 rfl ?_
  refine r_iload_n (pc := 1) C dX10_turned_1 rfl ?_
  refine r_iushr (pc := 2) C dX10_turned_2 ?_
  refine r_iload_n (pc := 3) C dX10_turned_3 rfl ?_
  refine r_bipush (pc := 4) C (nI 32) dX10_turned_4 rfl ?_
  refine r_iload_n (pc := 6) C dX10_turned_6 rfl ?_
  refine r_isub (pc := 7) C dX10_turned_7 ?_
  refine r_ishl (pc := 8) C dX10_turned_8 ?_
  refine r_ior (pc := 9) C dX10_turned_9 ?_
  refine r_iret (pc := 10) C dX10_turned_10 rfl (by omega) (by omega) ?_
  exact ⟨rfl, rfl⟩
theorem cm_mix {i : Nat} (hV : MV S mo M n h) (hi : i < 64) : Sp l g mX10_mix 0 0 [vr (some mo), vi (nI i)] S (fun r S' => r = none ∧ Gc [43] S S' mo (Gs S mo) ∧ MV S' mo M n h ∧ mI S' mo 43 = mixF (mI S mo 43) (mI S mo 41 i) (mI S mo 40 i)) := by
  have hC0 : Gc [43] S S mo (Gs S mo) := Gc.rf
  refine Sp.start (own := RX10) [(0, vr (some mo)), (1, vi (nI i))] (by decide +kernel) rfl rfl (Nat.le_of_ble_eq_true rfl) ?_
  intro J C
  have L : ∀ j S1, (j ≤ 7 ∧ Gc [43] S S1 mo (Gs S mo) ∧ MV S1 mo M n h ∧ mI S1 mo 43 = shF (mI S mo 43) j) → J 145 [(0, vr (some mo)), (6, vi (mx1 (mI S mo 43) (mI S mo 41 i) (mI S mo 40 i))), (7, vi (mx2 (mI S mo 43))), (8, vi (mx3 (mI S mo 43))), (9, vi (nI j))] [] S1 0 0 := by
    refine dn_loop _ _ ?_ ?_
    · intro S1 hS
      obtain ⟨-, hC1, hV1, hH⟩ := hS
      refine r_iload (pc := 145) C dX10_mix_145 rfl ?_
      refine r_if_le (pc := 147) (tgt := 172) C dX10_mix_147 (by decide) (fun c147 => ?_) (fun c147 => ?_)
      · refine r_aload_n (pc := 172) C dX10_mix_172 rfl ?_
        refine r_mA (pc := 173) C hV1 dX10_mix_173 fx_RX10_115 (len := 8) (by decide) ?_
        refine r_iconst (pc := 176) C (nI 4) dX10_mix_176 rfl ?_
        refine r_aload_n (pc := 177) C dX10_mix_177 rfl ?_
        refine r_mA (pc := 178) C hV1 dX10_mix_178 fx_RX10_115 (len := 8) (by decide) ?_
        refine r_iconst (pc := 181) C (nI 4) dX10_mix_181 rfl ?_
        refine r_xL (pc := 182) C hV1 dX10_mix_182 (k := 43) (len := 8) (by decide) (by decide) (by omega) (by decide) ?_
        rw [hH]
        refine r_iload (pc := 183) C dX10_mix_183 rfl ?_
        refine r_iadd (pc := 185) C dX10_mix_185 ?_
        refine r_xS (pc := 186) C hV1 dX10_mix_186 (k := 43) (len := 8) (by decide) (by decide) (by decide) (by decide) (by omega) (by decide) (fun S186 hC186r hV186 hF186 => ?_)
        have hC186 := hC1.trk hC186r
        refine r_aload_n (pc := 187) C dX10_mix_187 rfl ?_
        refine r_mA (pc := 188) C hV186 dX10_mix_188 fx_RX10_115 (len := 8) (by decide) ?_
        refine r_iconst (pc := 191) C (nI 0) dX10_mix_191 rfl ?_
        refine r_iload (pc := 192) C dX10_mix_192 rfl ?_
        refine r_iload (pc := 194) C dX10_mix_194 rfl ?_
        refine r_iadd (pc := 196) C dX10_mix_196 ?_
        refine r_iload (pc := 197) C dX10_mix_197 rfl ?_
        refine r_iadd (pc := 199) C dX10_mix_199 ?_
        refine r_xS (pc := 200) C hV186 dX10_mix_200 (k := 43) (len := 8) (by decide) (by decide) (by decide) (by decide) (by omega) (by decide) (fun S200 hC200r hV200 hF200 => ?_)
        have hC200 := hC186.trk hC200r
        refine r_ret (pc := 201) C dX10_mix_201 rfl (by omega) (by omega) ?_
        refine ⟨rfl, hC200, hV200, ?_⟩
        rw [hF200 43 (by decide), uk_s, hF186 43 (by decide), uk_s, hH]
        rfl
      · exact absurd (by decide) c147
    · intro j S1 hS ih
      obtain ⟨hj, hC1, hV1, hH⟩ := hS
      refine r_iload (pc := 145) C dX10_mix_145 rfl ?_
      refine r_if_le (pc := 147) (tgt := 172) C dX10_mix_147 (by decide) (fun c147 => ?_) (fun c147 => ?_)
      · exact absurd c147 (nI_nle (by omega) (by omega))
      · refine r_aload_n (pc := 150) C dX10_mix_150 rfl ?_
        refine r_mA (pc := 151) C hV1 dX10_mix_151 fx_RX10_115 (len := 8) (by decide) ?_
        refine r_iload (pc := 154) C dX10_mix_154 rfl ?_
        refine r_aload_n (pc := 156) C dX10_mix_156 rfl ?_
        refine r_mA (pc := 157) C hV1 dX10_mix_157 fx_RX10_115 (len := 8) (by decide) ?_
        refine r_iload (pc := 160) C dX10_mix_160 rfl ?_
        refine r_iconst (pc := 162) C (nI 1) dX10_mix_162 rfl ?_
        refine r_isub (pc := 163) C dX10_mix_163 ?_
        rw [show nI (j + 1) - nI 1 = nI j from nI_pred j]
        refine r_xL (pc := 164) C hV1 dX10_mix_164 (k := 43) (len := 8) (by decide) (by decide) (by omega) (by decide) ?_
        rw [hH]
        refine r_xS (pc := 165) C hV1 dX10_mix_165 (k := 43) (len := 8) (by decide) (by decide) (by decide) (by decide) (by omega) (by decide) (fun S165 hC165r hV165 hF165 => ?_)
        have hC165 := hC1.trk hC165r
        refine r_iinc (pc := 166) C (nI j) dX10_mix_166 rfl (by rw [dec1]; exact nI_pred j) (by decide) rfl ?_
        refine r_goto (pc := 169) (tgt := 145) C dX10_mix_169 (by decide) ?_
        refine r_lv C [(0, vr (some mo)), (6, vi _), (7, vi _), (8, vi _), (9, vi (nI j))] rfl (ih _ ⟨by omega, hC165, hV165, ?_⟩)
        rw [hF165 43 (by decide), uk_s, hH]
        funext x
        simp only [upd, shF]
        by_cases e : x = j + 1
        · subst e; rw [if_pos rfl, if_neg (by omega), if_pos (by omega)]; rfl
        · rw [if_neg e]
          by_cases e2 : j + 1 < x ∧ x ≤ 7
          · rw [if_pos e2, if_pos (by omega)]
          · rw [if_neg e2, if_neg (by omega)]
  refine r_aload_n (pc := 0) C dX10_mix_0 rfl ?_
  refine r_mA (pc := 1) C hV dX10_mix_1 fx_RX10_115 (len := 8) (by decide) ?_
  refine r_iconst (pc := 4) C (nI 0) dX10_mix_4 rfl ?_
  refine r_xL (pc := 5) C hV dX10_mix_5 (k := 43) (len := 8) (by decide) (by decide) (by omega) (by decide) ?_
  refine r_istore_n (pc := 6) C dX10_mix_6 (by decide) rfl ?_
  refine r_aload_n (pc := 7) C dX10_mix_7 rfl ?_
  refine r_mA (pc := 8) C hV dX10_mix_8 fx_RX10_115 (len := 8) (by decide) ?_
  refine r_iconst (pc := 11) C (nI 4) dX10_mix_11 rfl ?_
  refine r_xL (pc := 12) C hV dX10_mix_12 (k := 43) (len := 8) (by decide) (by decide) (by omega) (by decide) ?_
  refine r_istore_n (pc := 13) C dX10_mix_13 (by decide) rfl ?_
  refine r_iload_n (pc := 14) C dX10_mix_14 rfl ?_
  refine r_bipush (pc := 15) C (nI 6) dX10_mix_15 rfl ?_
  refine r_callS (pc := 17) C (cm_turned) iX10_turned ml_RX10_165 dX10_mix_17 rfl (by decide) rfl (by simp [cv, Value.category, va_rf]) (by omega) (by omega) (fun r17 S17 h17 => ?_)
  obtain ⟨rfl, e17⟩ := h17
  subst S17
  dsimp only [Option.toList, List.cons_append, List.nil_append]
  refine r_iload_n (pc := 20) C dX10_mix_20 rfl ?_
  refine r_bipush (pc := 21) C (nI 11) dX10_mix_21 rfl ?_
  refine r_callS (pc := 23) C (cm_turned) iX10_turned ml_RX10_165 dX10_mix_23 rfl (by decide) rfl (by simp [cv, Value.category, va_rf]) (by omega) (by omega) (fun r23 S23 h23 => ?_)
  obtain ⟨rfl, e23⟩ := h23
  subst S23
  dsimp only [Option.toList, List.cons_append, List.nil_append]
  refine r_ixor (pc := 26) C dX10_mix_26 ?_
  refine r_iload_n (pc := 27) C dX10_mix_27 rfl ?_
  refine r_bipush (pc := 28) C (nI 25) dX10_mix_28 rfl ?_
  refine r_callS (pc := 30) C (cm_turned) iX10_turned ml_RX10_165 dX10_mix_30 rfl (by decide) rfl (by simp [cv, Value.category, va_rf]) (by omega) (by omega) (fun r30 S30 h30 => ?_)
  obtain ⟨rfl, e30⟩ := h30
  subst S30
  dsimp only [Option.toList, List.cons_append, List.nil_append]
  refine r_ixor (pc := 33) C dX10_mix_33 ?_
  refine r_istore (pc := 34) C dX10_mix_34 (by decide) rfl ?_
  refine r_iload_n (pc := 36) C dX10_mix_36 rfl ?_
  refine r_aload_n (pc := 37) C dX10_mix_37 rfl ?_
  refine r_mA (pc := 38) C hV dX10_mix_38 fx_RX10_115 (len := 8) (by decide) ?_
  refine r_iconst (pc := 41) C (nI 5) dX10_mix_41 rfl ?_
  refine r_xL (pc := 42) C hV dX10_mix_42 (k := 43) (len := 8) (by decide) (by decide) (by omega) (by decide) ?_
  refine r_iand (pc := 43) C dX10_mix_43 ?_
  refine r_iload_n (pc := 44) C dX10_mix_44 rfl ?_
  refine r_iconst (pc := 45) C (-1) dX10_mix_45 rfl ?_
  refine r_ixor (pc := 46) C dX10_mix_46 ?_
  refine r_aload_n (pc := 47) C dX10_mix_47 rfl ?_
  refine r_mA (pc := 48) C hV dX10_mix_48 fx_RX10_115 (len := 8) (by decide) ?_
  refine r_bipush (pc := 51) C (nI 6) dX10_mix_51 rfl ?_
  refine r_xL (pc := 53) C hV dX10_mix_53 (k := 43) (len := 8) (by decide) (by decide) (by omega) (by decide) ?_
  refine r_iand (pc := 54) C dX10_mix_54 ?_
  refine r_ixor (pc := 55) C dX10_mix_55 ?_
  refine r_istore (pc := 56) C dX10_mix_56 (by decide) rfl ?_
  refine r_aload_n (pc := 58) C dX10_mix_58 rfl ?_
  refine r_mA (pc := 59) C hV dX10_mix_59 fx_RX10_115 (len := 8) (by decide) ?_
  refine r_bipush (pc := 62) C (nI 7) dX10_mix_62 rfl ?_
  refine r_xL (pc := 64) C hV dX10_mix_64 (k := 43) (len := 8) (by decide) (by decide) (by omega) (by decide) ?_
  refine r_iload (pc := 65) C dX10_mix_65 rfl ?_
  refine r_iadd (pc := 67) C dX10_mix_67 ?_
  refine r_iload (pc := 68) C dX10_mix_68 rfl ?_
  refine r_iadd (pc := 70) C dX10_mix_70 ?_
  refine r_aload_n (pc := 71) C dX10_mix_71 rfl ?_
  refine r_mA (pc := 72) C hV dX10_mix_72 fx_RX10_109 (len := 64) (by decide) ?_
  refine r_iload_n (pc := 75) C dX10_mix_75 rfl ?_
  refine r_xL (pc := 76) C hV dX10_mix_76 (k := 41) (len := 64) (by decide) (by decide) (by omega) (by decide) ?_
  refine r_iadd (pc := 77) C dX10_mix_77 ?_
  refine r_aload_n (pc := 78) C dX10_mix_78 rfl ?_
  refine r_mA (pc := 79) C hV dX10_mix_79 fx_RX10_106 (len := 64) (by decide) ?_
  refine r_iload_n (pc := 82) C dX10_mix_82 rfl ?_
  refine r_xL (pc := 83) C hV dX10_mix_83 (k := 40) (len := 64) (by decide) (by decide) (by omega) (by decide) ?_
  refine r_iadd (pc := 84) C dX10_mix_84 ?_
  refine r_istore (pc := 85) C dX10_mix_85 (by decide) rfl ?_
  refine r_iload_n (pc := 87) C dX10_mix_87 rfl ?_
  refine r_iconst (pc := 88) C (nI 2) dX10_mix_88 rfl ?_
  refine r_callS (pc := 89) C (cm_turned) iX10_turned ml_RX10_165 dX10_mix_89 rfl (by decide) rfl (by simp [cv, Value.category, va_rf]) (by omega) (by omega) (fun r89 S89 h89 => ?_)
  obtain ⟨rfl, e89⟩ := h89
  subst S89
  dsimp only [Option.toList, List.cons_append, List.nil_append]
  refine r_iload_n (pc := 92) C dX10_mix_92 rfl ?_
  refine r_bipush (pc := 93) C (nI 13) dX10_mix_93 rfl ?_
  refine r_callS (pc := 95) C (cm_turned) iX10_turned ml_RX10_165 dX10_mix_95 rfl (by decide) rfl (by simp [cv, Value.category, va_rf]) (by omega) (by omega) (fun r95 S95 h95 => ?_)
  obtain ⟨rfl, e95⟩ := h95
  subst S95
  dsimp only [Option.toList, List.cons_append, List.nil_append]
  refine r_ixor (pc := 98) C dX10_mix_98 ?_
  refine r_iload_n (pc := 99) C dX10_mix_99 rfl ?_
  refine r_bipush (pc := 100) C (nI 22) dX10_mix_100 rfl ?_
  refine r_callS (pc := 102) C (cm_turned) iX10_turned ml_RX10_165 dX10_mix_102 rfl (by decide) rfl (by simp [cv, Value.category, va_rf]) (by omega) (by omega) (fun r102 S102 h102 => ?_)
  obtain ⟨rfl, e102⟩ := h102
  subst S102
  dsimp only [Option.toList, List.cons_append, List.nil_append]
  refine r_ixor (pc := 105) C dX10_mix_105 ?_
  refine r_istore (pc := 106) C dX10_mix_106 (by decide) rfl ?_
  refine r_iload_n (pc := 108) C dX10_mix_108 rfl ?_
  refine r_aload_n (pc := 109) C dX10_mix_109 rfl ?_
  refine r_mA (pc := 110) C hV dX10_mix_110 fx_RX10_115 (len := 8) (by decide) ?_
  refine r_iconst (pc := 113) C (nI 1) dX10_mix_113 rfl ?_
  refine r_xL (pc := 114) C hV dX10_mix_114 (k := 43) (len := 8) (by decide) (by decide) (by omega) (by decide) ?_
  refine r_iand (pc := 115) C dX10_mix_115 ?_
  refine r_iload_n (pc := 116) C dX10_mix_116 rfl ?_
  refine r_aload_n (pc := 117) C dX10_mix_117 rfl ?_
  refine r_mA (pc := 118) C hV dX10_mix_118 fx_RX10_115 (len := 8) (by decide) ?_
  refine r_iconst (pc := 121) C (nI 2) dX10_mix_121 rfl ?_
  refine r_xL (pc := 122) C hV dX10_mix_122 (k := 43) (len := 8) (by decide) (by decide) (by omega) (by decide) ?_
  refine r_iand (pc := 123) C dX10_mix_123 ?_
  refine r_ixor (pc := 124) C dX10_mix_124 ?_
  refine r_aload_n (pc := 125) C dX10_mix_125 rfl ?_
  refine r_mA (pc := 126) C hV dX10_mix_126 fx_RX10_115 (len := 8) (by decide) ?_
  refine r_iconst (pc := 129) C (nI 1) dX10_mix_129 rfl ?_
  refine r_xL (pc := 130) C hV dX10_mix_130 (k := 43) (len := 8) (by decide) (by decide) (by omega) (by decide) ?_
  refine r_aload_n (pc := 131) C dX10_mix_131 rfl ?_
  refine r_mA (pc := 132) C hV dX10_mix_132 fx_RX10_115 (len := 8) (by decide) ?_
  refine r_iconst (pc := 135) C (nI 2) dX10_mix_135 rfl ?_
  refine r_xL (pc := 136) C hV dX10_mix_136 (k := 43) (len := 8) (by decide) (by decide) (by omega) (by decide) ?_
  refine r_iand (pc := 137) C dX10_mix_137 ?_
  refine r_ixor (pc := 138) C dX10_mix_138 ?_
  refine r_istore (pc := 139) C dX10_mix_139 (by decide) rfl ?_
  refine r_bipush (pc := 141) C (nI 7) dX10_mix_141 rfl ?_
  refine r_istore (pc := 143) C dX10_mix_143 (by decide) rfl ?_
  refine r_lv C [(0, vr (some mo)), (6, vi (mx1 (mI S mo 43) (mI S mo 41 i) (mI S mo 40 i))), (7, vi (mx2 (mI S mo 43))), (8, vi (mx3 (mI S mo 43))), (9, vi (nI 7))] rfl (L 7 S ⟨by omega, hC0, hV, ?_⟩)
  funext x
  simp only [shF]
  rw [if_neg (by omega)]
theorem cm_hashOf {m : Nat} (hV : MV S mo M n h) (hm : m ≤ 55) : Sp l g mX10_hashOf 0 0 [vr (some mo), vi (nI m)] S (fun r S' => r = some (vi (hsh (mI S mo 7) (mI S mo 42) (mI S mo 41) m (mI S mo 40) (mI S mo 43))) ∧ Gc [40, 43] S S' mo (Gs S mo) ∧ MV S' mo M n h) := by
  have hC0 : Gc [40, 43] S S mo (Gs S mo) := Gc.rf
  generalize hT : mI S mo 7 = T
  generalize hFi : mI S mo 42 = Fi
  generalize hKo : mI S mo 41 = Ko
  generalize hB : mI S mo 40 = B
  generalize hHx : mI S mo 43 = Hx
  generalize hB0 : (fun j => if j < 16 then nI 0 else B j) = B0
  generalize hW0 : blkE T B0 m = W0
  generalize hH0 : (fun j => if j < 8 then Fi j else Hx j) = H0
  have hres : hsh T Fi Ko m B Hx = Fi 0 + hN H0 Ko (sch W0 48) 64 0 := by subst hH0; subst hW0; subst hB0; rfl
  rw [hres]
  refine Sp.start (own := RX10) [(0, vr (some mo)), (1, vi (nI m))] (by decide +kernel) rfl rfl (Nat.le_of_ble_eq_true rfl) ?_
  intro J C
  have keep : ∀ S1, Gc [40, 43] S S1 mo (Gs S mo) → mI S1 mo 7 = T ∧ mI S1 mo 42 = Fi ∧ mI S1 mo 41 = Ko := fun S1 hC1 => ⟨by rw [hC1.keep (by decide) (by decide) (by decide), hT], by rw [hC1.keep (by decide) (by decide) (by decide), hFi], by rw [hC1.keep (by decide) (by decide) (by decide), hKo]⟩
  have L5 : ∀ i S1, i ≤ 64 → (Gc [40, 43] S S1 mo (Gs S mo) ∧ MV S1 mo M n h ∧ mI S1 mo 40 = sch W0 48 ∧ mI S1 mo 43 = hN H0 Ko (sch W0 48) i) → J 232 [(0, vr (some mo)), (1, vi (nI m)), (2, vi (nI i))] [] S1 0 0 := by
    refine up_loop 64 _ _ ?_ ?_
    · intro S1 hS
      obtain ⟨hC1, hV1, h40, h43⟩ := hS
      obtain ⟨k7, k42, k41⟩ := keep S1 hC1
      refine r_iload_n (pc := 232) C dX10_hashOf_232 rfl ?_
      refine r_bipush (pc := 233) C (nI 64) dX10_hashOf_233 rfl ?_
      refine r_icmp_ge (pc := 235) (tgt := 249) C dX10_hashOf_235 (by decide) (fun c235 => ?_) (fun c235 => ?_)
      · refine r_aload_n (pc := 249) C dX10_hashOf_249 rfl ?_
        refine r_mA (pc := 250) C hV1 dX10_hashOf_250 fx_RX10_112 (len := 8) (by decide) ?_
        refine r_iconst (pc := 253) C (nI 0) dX10_hashOf_253 rfl ?_
        refine r_xL (pc := 254) C hV1 dX10_hashOf_254 (k := 42) (len := 8) (by decide) (by decide) (by omega) (by decide) ?_
        rw [k42]
        refine r_aload_n (pc := 255) C dX10_hashOf_255 rfl ?_
        refine r_mA (pc := 256) C hV1 dX10_hashOf_256 fx_RX10_115 (len := 8) (by decide) ?_
        refine r_iconst (pc := 259) C (nI 0) dX10_hashOf_259 rfl ?_
        refine r_xL (pc := 260) C hV1 dX10_hashOf_260 (k := 43) (len := 8) (by decide) (by decide) (by omega) (by decide) ?_
        rw [h43]
        refine r_iadd (pc := 261) C dX10_hashOf_261 ?_
        refine r_iret (pc := 262) C dX10_hashOf_262 rfl (by omega) (by omega) ?_
        exact ⟨rfl, hC1, hV1⟩
      · exact absurd (Int32.le_refl _) c235
    · intro i S1 hi hS ih
      obtain ⟨hC1, hV1, h40, h43⟩ := hS
      obtain ⟨k7, k42, k41⟩ := keep S1 hC1
      refine r_iload_n (pc := 232) C dX10_hashOf_232 rfl ?_
      refine r_bipush (pc := 233) C (nI 64) dX10_hashOf_233 rfl ?_
      refine r_icmp_ge (pc := 235) (tgt := 249) C dX10_hashOf_235 (by decide) (fun c235 => ?_) (fun c235 => ?_)
      · exact absurd c235 (nI_ge hi (by omega))
      · refine r_aload_n (pc := 238) C dX10_hashOf_238 rfl ?_
        refine r_iload_n (pc := 239) C dX10_hashOf_239 rfl ?_
        refine r_callV (pc := 240) C (cm_mix hV1 hi) iX10_mix ml_RX10_169 dX10_hashOf_240 (ci := 11) rfl rfl hV1.1.1 rfl (by decide) rfl (by simp [cv, Value.category, va_rf]) (by omega) (by omega) (fun r240 S240 h240 => ?_)
        obtain ⟨rfl, hCr, hV240, hmx⟩ := h240
        have hC240 := hC1.trk hCr
        dsimp only [Option.toList, List.cons_append, List.nil_append]
        refine r_iinc (pc := 243) C _ dX10_hashOf_243 rfl (nI_1 _) (by decide) rfl ?_
        refine r_goto (pc := 246) (tgt := 232) C dX10_hashOf_246 (by decide) ?_
        refine r_lv C [(0, vr (some mo)), (1, vi (nI m)), (2, vi (nI (i + 1)))] rfl (ih _ ⟨hC240, hV240, ?_, ?_⟩)
        · rw [hCr.keep (k := 40) (by decide) (by decide) (by decide)]; exact h40
        · rw [hmx, h43, k41, h40]; rfl
  have L4 : ∀ i S1, i ≤ 8 → (Gc [40, 43] S S1 mo (Gs S mo) ∧ MV S1 mo M n h ∧ mI S1 mo 40 = sch W0 48 ∧ mI S1 mo 43 = fun j => if j < i then Fi j else Hx j) → J 206 [(0, vr (some mo)), (1, vi (nI m)), (2, vi (nI i))] [] S1 0 0 := by
    refine up_loop 8 _ _ ?_ ?_
    · intro S1 hS
      obtain ⟨hC1, hV1, h40, h43⟩ := hS
      refine r_iload_n (pc := 206) C dX10_hashOf_206 rfl ?_
      refine r_bipush (pc := 207) C (nI 8) dX10_hashOf_207 rfl ?_
      refine r_icmp_ge (pc := 209) (tgt := 230) C dX10_hashOf_209 (by decide) (fun c209 => ?_) (fun c209 => ?_)
      · refine r_iconst (pc := 230) C (nI 0) dX10_hashOf_230 rfl ?_
        refine r_istore_n (pc := 231) C dX10_hashOf_231 (by decide) rfl ?_
        exact r_lv C [(0, vr (some mo)), (1, vi (nI m)), (2, vi (nI 0))] rfl (L5 0 S1 (by omega) ⟨hC1, hV1, h40, by rw [h43]; exact hH0⟩)
      · exact absurd (Int32.le_refl _) c209
    · intro i S1 hi hS ih
      obtain ⟨hC1, hV1, h40, h43⟩ := hS
      obtain ⟨k7, k42, k41⟩ := keep S1 hC1
      refine r_iload_n (pc := 206) C dX10_hashOf_206 rfl ?_
      refine r_bipush (pc := 207) C (nI 8) dX10_hashOf_207 rfl ?_
      refine r_icmp_ge (pc := 209) (tgt := 230) C dX10_hashOf_209 (by decide) (fun c209 => ?_) (fun c209 => ?_)
      · exact absurd c209 (nI_ge hi (by omega))
      · refine r_aload_n (pc := 212) C dX10_hashOf_212 rfl ?_
        refine r_mA (pc := 213) C hV1 dX10_hashOf_213 fx_RX10_115 (len := 8) (by decide) ?_
        refine r_iload_n (pc := 216) C dX10_hashOf_216 rfl ?_
        refine r_aload_n (pc := 217) C dX10_hashOf_217 rfl ?_
        refine r_mA (pc := 218) C hV1 dX10_hashOf_218 fx_RX10_112 (len := 8) (by decide) ?_
        refine r_iload_n (pc := 221) C dX10_hashOf_221 rfl ?_
        refine r_xL (pc := 222) C hV1 dX10_hashOf_222 (k := 42) (len := 8) (by decide) (by decide) (by omega) (by decide) ?_
        rw [k42]
        refine r_xS (pc := 223) C hV1 dX10_hashOf_223 (k := 43) (len := 8) (by decide) (by decide) (by decide) (by decide) (by omega) (by decide) (fun S223 hC223r hV223 hF223 => ?_)
        have hC223 := hC1.trk hC223r
        refine r_iinc (pc := 224) C _ dX10_hashOf_224 rfl (nI_1 _) (by decide) rfl ?_
        refine r_goto (pc := 227) (tgt := 206) C dX10_hashOf_227 (by decide) ?_
        refine r_lv C [(0, vr (some mo)), (1, vi (nI m)), (2, vi (nI (i + 1)))] rfl (ih _ ⟨hC223, hV223, ?_, ?_⟩)
        · rw [hF223 40 (by decide), uk_n (by decide)]; exact h40
        · rw [hF223 43 (by decide), uk_s, h43]
          funext x
          simp only [upd]
          by_cases e : x = i
          · subst e; rw [if_pos rfl, if_pos (by omega)]
          · rw [if_neg e]
            by_cases e2 : x < i
            · rw [if_pos e2, if_pos (by omega)]
            · rw [if_neg e2, if_neg (by omega)]
  have L3 : ∀ i S1, i ≤ 48 → (Gc [40, 43] S S1 mo (Gs S mo) ∧ MV S1 mo M n h ∧ mI S1 mo 40 = sch W0 i ∧ mI S1 mo 43 = Hx) → J 99 [(0, vr (some mo)), (1, vi (nI m)), (2, vi (nI (16 + i)))] [] S1 0 0 := by
    refine up_loop 48 _ _ ?_ ?_
    · intro S1 hS
      obtain ⟨hC1, hV1, h40, h43⟩ := hS
      refine r_iload_n (pc := 99) C dX10_hashOf_99 rfl ?_
      refine r_bipush (pc := 100) C (nI 64) dX10_hashOf_100 rfl ?_
      refine r_icmp_ge (pc := 102) (tgt := 204) C dX10_hashOf_102 (by decide) (fun c102 => ?_) (fun c102 => ?_)
      · refine r_iconst (pc := 204) C (nI 0) dX10_hashOf_204 rfl ?_
        refine r_istore_n (pc := 205) C dX10_hashOf_205 (by decide) rfl ?_
        exact r_lv C [(0, vr (some mo)), (1, vi (nI m)), (2, vi (nI 0))] rfl (L4 0 S1 (by omega) ⟨hC1, hV1, h40, by rw [h43]; funext j; simp⟩)
      · exact absurd (Int32.le_refl _) c102
    · intro i S1 hi hS ih
      obtain ⟨hC1, hV1, h40, h43⟩ := hS
      refine r_iload_n (pc := 99) C dX10_hashOf_99 rfl ?_
      refine r_bipush (pc := 100) C (nI 64) dX10_hashOf_100 rfl ?_
      refine r_icmp_ge (pc := 102) (tgt := 204) C dX10_hashOf_102 (by decide) (fun c102 => ?_) (fun c102 => ?_)
      · exact absurd c102 (nI_ge (show 16 + i < 64 by omega) (by omega))
      · refine r_aload_n (pc := 105) C dX10_hashOf_105 rfl ?_
        refine r_mA (pc := 106) C hV1 dX10_hashOf_106 fx_RX10_106 (len := 64) (by decide) ?_
        refine r_iload_n (pc := 109) C dX10_hashOf_109 rfl ?_
        refine r_bipush (pc := 110) C (nI 15) dX10_hashOf_110 rfl ?_
        refine r_isub (pc := 112) C dX10_hashOf_112 ?_
        rw [pk_sub (by omega)]
        refine r_xL (pc := 113) C hV1 dX10_hashOf_113 (k := 40) (len := 64) (by decide) (by decide) (by omega) (by decide) ?_
        rw [h40]
        refine r_istore_n (pc := 114) C dX10_hashOf_114 (by decide) rfl ?_
        refine r_aload_n (pc := 115) C dX10_hashOf_115 rfl ?_
        refine r_mA (pc := 116) C hV1 dX10_hashOf_116 fx_RX10_106 (len := 64) (by decide) ?_
        refine r_iload_n (pc := 119) C dX10_hashOf_119 rfl ?_
        refine r_iconst (pc := 120) C (nI 2) dX10_hashOf_120 rfl ?_
        refine r_isub (pc := 121) C dX10_hashOf_121 ?_
        rw [pk_sub (by omega)]
        refine r_xL (pc := 122) C hV1 dX10_hashOf_122 (k := 40) (len := 64) (by decide) (by decide) (by omega) (by decide) ?_
        rw [h40]
        refine r_istore (pc := 123) C dX10_hashOf_123 (by decide) rfl ?_
        refine r_iload_n (pc := 125) C dX10_hashOf_125 rfl ?_
        refine r_bipush (pc := 126) C (nI 7) dX10_hashOf_126 rfl ?_
        refine r_callS (pc := 128) C (cm_turned) iX10_turned ml_RX10_165 dX10_hashOf_128 rfl (by decide) rfl (by simp [cv, Value.category, va_rf]) (by omega) (by omega) (fun r128 S128 h128 => ?_)
        obtain ⟨rfl, e128⟩ := h128
        subst S128
        dsimp only [Option.toList, List.cons_append, List.nil_append]
        refine r_iload_n (pc := 131) C dX10_hashOf_131 rfl ?_
        refine r_bipush (pc := 132) C (nI 18) dX10_hashOf_132 rfl ?_
        refine r_callS (pc := 134) C (cm_turned) iX10_turned ml_RX10_165 dX10_hashOf_134 rfl (by decide) rfl (by simp [cv, Value.category, va_rf]) (by omega) (by omega) (fun r134 S134 h134 => ?_)
        obtain ⟨rfl, e134⟩ := h134
        subst S134
        dsimp only [Option.toList, List.cons_append, List.nil_append]
        refine r_ixor (pc := 137) C dX10_hashOf_137 ?_
        refine r_iload_n (pc := 138) C dX10_hashOf_138 rfl ?_
        refine r_iconst (pc := 139) C (nI 3) dX10_hashOf_139 rfl ?_
        refine r_iushr (pc := 140) C dX10_hashOf_140 ?_
        refine r_ixor (pc := 141) C dX10_hashOf_141 ?_
        refine r_istore (pc := 142) C dX10_hashOf_142 (by decide) rfl ?_
        refine r_iload (pc := 144) C dX10_hashOf_144 rfl ?_
        refine r_bipush (pc := 146) C (nI 17) dX10_hashOf_146 rfl ?_
        refine r_callS (pc := 148) C (cm_turned) iX10_turned ml_RX10_165 dX10_hashOf_148 rfl (by decide) rfl (by simp [cv, Value.category, va_rf]) (by omega) (by omega) (fun r148 S148 h148 => ?_)
        obtain ⟨rfl, e148⟩ := h148
        subst S148
        dsimp only [Option.toList, List.cons_append, List.nil_append]
        refine r_iload (pc := 151) C dX10_hashOf_151 rfl ?_
        refine r_bipush (pc := 153) C (nI 19) dX10_hashOf_153 rfl ?_
        refine r_callS (pc := 155) C (cm_turned) iX10_turned ml_RX10_165 dX10_hashOf_155 rfl (by decide) rfl (by simp [cv, Value.category, va_rf]) (by omega) (by omega) (fun r155 S155 h155 => ?_)
        obtain ⟨rfl, e155⟩ := h155
        subst S155
        dsimp only [Option.toList, List.cons_append, List.nil_append]
        refine r_ixor (pc := 158) C dX10_hashOf_158 ?_
        refine r_iload (pc := 159) C dX10_hashOf_159 rfl ?_
        refine r_bipush (pc := 161) C (nI 10) dX10_hashOf_161 rfl ?_
        refine r_iushr (pc := 163) C dX10_hashOf_163 ?_
        refine r_ixor (pc := 164) C dX10_hashOf_164 ?_
        refine r_istore (pc := 165) C dX10_hashOf_165 (by decide) rfl ?_
        refine r_aload_n (pc := 167) C dX10_hashOf_167 rfl ?_
        refine r_mA (pc := 168) C hV1 dX10_hashOf_168 fx_RX10_106 (len := 64) (by decide) ?_
        refine r_iload_n (pc := 171) C dX10_hashOf_171 rfl ?_
        refine r_aload_n (pc := 172) C dX10_hashOf_172 rfl ?_
        refine r_mA (pc := 173) C hV1 dX10_hashOf_173 fx_RX10_106 (len := 64) (by decide) ?_
        refine r_iload_n (pc := 176) C dX10_hashOf_176 rfl ?_
        refine r_bipush (pc := 177) C (nI 16) dX10_hashOf_177 rfl ?_
        refine r_isub (pc := 179) C dX10_hashOf_179 ?_
        rw [pk_sub (by omega)]
        refine r_xL (pc := 180) C hV1 dX10_hashOf_180 (k := 40) (len := 64) (by decide) (by decide) (by omega) (by decide) ?_
        rw [h40]
        refine r_iload (pc := 181) C dX10_hashOf_181 rfl ?_
        refine r_iadd (pc := 183) C dX10_hashOf_183 ?_
        refine r_aload_n (pc := 184) C dX10_hashOf_184 rfl ?_
        refine r_mA (pc := 185) C hV1 dX10_hashOf_185 fx_RX10_106 (len := 64) (by decide) ?_
        refine r_iload_n (pc := 188) C dX10_hashOf_188 rfl ?_
        refine r_bipush (pc := 189) C (nI 7) dX10_hashOf_189 rfl ?_
        refine r_isub (pc := 191) C dX10_hashOf_191 ?_
        rw [pk_sub (by omega)]
        refine r_xL (pc := 192) C hV1 dX10_hashOf_192 (k := 40) (len := 64) (by decide) (by decide) (by omega) (by decide) ?_
        rw [h40]
        refine r_iadd (pc := 193) C dX10_hashOf_193 ?_
        refine r_iload (pc := 194) C dX10_hashOf_194 rfl ?_
        refine r_iadd (pc := 196) C dX10_hashOf_196 ?_
        refine r_xS (pc := 197) C hV1 dX10_hashOf_197 (k := 40) (len := 64) (by decide) (by decide) (by decide) (by decide) (by omega) (by decide) (fun S197 hC197r hV197 hF197 => ?_)
        have hC197 := hC1.trk hC197r
        refine r_iinc (pc := 198) C _ dX10_hashOf_198 rfl (nI_1 _) (by decide) rfl ?_
        refine r_goto (pc := 201) (tgt := 99) C dX10_hashOf_201 (by decide) ?_
        refine r_lv C [(0, vr (some mo)), (1, vi (nI m)), (2, vi (nI (16 + (i + 1))))] rfl (ih _ ⟨hC197, hV197, ?_, ?_⟩)
        · rw [hF197 40 (by decide), uk_s, h40]; rfl
        · rw [hF197 43 (by decide), uk_n (by decide)]; exact h43
  have L2 : ∀ i S1, i ≤ m → (Gc [40, 43] S S1 mo (Gs S mo) ∧ MV S1 mo M n h ∧ mI S1 mo 40 = blk T B0 i ∧ mI S1 mo 43 = Hx) → J 23 [(0, vr (some mo)), (1, vi (nI m)), (2, vi (nI i))] [] S1 0 0 := by
    refine up_loop m _ _ ?_ ?_
    · intro S1 hS
      obtain ⟨hC1, hV1, h40, h43⟩ := hS
      have hm4 : m / 4 < 64 := by omega
      refine r_iload_n (pc := 23) C dX10_hashOf_23 rfl ?_
      refine r_iload_n (pc := 24) C dX10_hashOf_24 rfl ?_
      refine r_icmp_ge (pc := 25) (tgt := 61) C dX10_hashOf_25 (by decide) (fun c25 => ?_) (fun c25 => ?_)
      · refine r_aload_n (pc := 61) C dX10_hashOf_61 rfl ?_
        refine r_mA (pc := 62) C hV1 dX10_hashOf_62 fx_RX10_106 (len := 64) (by decide) ?_
        refine r_iload_n (pc := 65) C dX10_hashOf_65 rfl ?_
        refine r_iconst (pc := 66) C (nI 4) dX10_hashOf_66 rfl ?_
        refine r_idiv (pc := 67) C dX10_hashOf_67 (by decide) ?_
        rw [pk_div (by omega) (by decide) (by decide)]
        refine r_dup2 (pc := 68) C dX10_hashOf_68 rfl rfl ?_
        refine r_xL (pc := 69) C hV1 dX10_hashOf_69 (k := 40) (len := 64) (by decide) (by decide) (by omega) (by decide) ?_
        rw [h40]
        refine r_sipush (pc := 70) C (nI 128) dX10_hashOf_70 rfl ?_
        refine r_bipush (pc := 73) C (nI 24) dX10_hashOf_73 rfl ?_
        refine r_bipush (pc := 75) C (nI 8) dX10_hashOf_75 rfl ?_
        refine r_iload_n (pc := 77) C dX10_hashOf_77 rfl ?_
        refine r_iconst (pc := 78) C (nI 4) dX10_hashOf_78 rfl ?_
        refine r_irem (pc := 79) C dX10_hashOf_79 (by decide) ?_
        rw [pk_rem (by omega) (by decide) (by decide)]
        refine r_imul (pc := 80) C dX10_hashOf_80 ?_
        try simp only [nI_add, pk_mul]
        refine r_isub (pc := 81) C dX10_hashOf_81 ?_
        rw [pk_sub (by omega)]
        refine r_ishl (pc := 82) C dX10_hashOf_82 ?_
        refine r_ior (pc := 83) C dX10_hashOf_83 ?_
        refine r_xS (pc := 84) C hV1 dX10_hashOf_84 (k := 40) (len := 64) (by decide) (by decide) (by decide) (by decide) (by omega) (by decide) (fun S84 hC84r hV84 hF84 => ?_)
        have hC84 := hC1.trk hC84r
        refine r_aload_n (pc := 85) C dX10_hashOf_85 rfl ?_
        refine r_mA (pc := 86) C hV84 dX10_hashOf_86 fx_RX10_106 (len := 64) (by decide) ?_
        refine r_bipush (pc := 89) C (nI 15) dX10_hashOf_89 rfl ?_
        refine r_bipush (pc := 91) C (nI 8) dX10_hashOf_91 rfl ?_
        refine r_iload_n (pc := 93) C dX10_hashOf_93 rfl ?_
        refine r_imul (pc := 94) C dX10_hashOf_94 ?_
        try simp only [nI_add, pk_mul]
        refine r_xS (pc := 95) C hV84 dX10_hashOf_95 (k := 40) (len := 64) (by decide) (by decide) (by decide) (by decide) (by omega) (by decide) (fun S95 hC95r hV95 hF95 => ?_)
        have hC95 := hC84.trk hC95r
        refine r_bipush (pc := 96) C (nI 16) dX10_hashOf_96 rfl ?_
        refine r_istore_n (pc := 98) C dX10_hashOf_98 (by decide) rfl ?_
        refine r_lv C [(0, vr (some mo)), (1, vi (nI m)), (2, vi (nI (16 + 0)))] rfl (L3 0 _ (by omega) ⟨hC95, hV95, ?_, ?_⟩)
        · rw [hF95 40 (by decide), uk_s, hF84 40 (by decide), uk_s, h40, ← hW0]; rfl
        · rw [hF95 43 (by decide), uk_n (by decide), hF84 43 (by decide), uk_n (by decide)]; exact h43
      · exact absurd (Int32.le_refl _) c25
    · intro i S1 hi hS ih
      obtain ⟨hC1, hV1, h40, h43⟩ := hS
      obtain ⟨k7, k42, k41⟩ := keep S1 hC1
      have hi4 : i / 4 < 64 := by omega
      refine r_iload_n (pc := 23) C dX10_hashOf_23 rfl ?_
      refine r_iload_n (pc := 24) C dX10_hashOf_24 rfl ?_
      refine r_icmp_ge (pc := 25) (tgt := 61) C dX10_hashOf_25 (by decide) (fun c25 => ?_) (fun c25 => ?_)
      · exact absurd c25 (nI_ge hi (by omega))
      · refine r_aload_n (pc := 28) C dX10_hashOf_28 rfl ?_
        refine r_mA (pc := 29) C hV1 dX10_hashOf_29 fx_RX10_106 (len := 64) (by decide) ?_
        refine r_iload_n (pc := 32) C dX10_hashOf_32 rfl ?_
        refine r_iconst (pc := 33) C (nI 4) dX10_hashOf_33 rfl ?_
        refine r_idiv (pc := 34) C dX10_hashOf_34 (by decide) ?_
        rw [pk_div (by omega) (by decide) (by decide)]
        refine r_dup2 (pc := 35) C dX10_hashOf_35 rfl rfl ?_
        refine r_xL (pc := 36) C hV1 dX10_hashOf_36 (k := 40) (len := 64) (by decide) (by decide) (by omega) (by decide) ?_
        rw [h40]
        refine r_aload_n (pc := 37) C dX10_hashOf_37 rfl ?_
        refine r_mA (pc := 38) C hV1 dX10_hashOf_38 fx_RX10_13 (len := 128) (by decide) ?_
        refine r_iload_n (pc := 41) C dX10_hashOf_41 rfl ?_
        refine r_xL (pc := 42) C hV1 dX10_hashOf_42 (k := 7) (len := 128) (by decide) (by decide) (by omega) (by decide) ?_
        rw [k7]
        refine r_bipush (pc := 43) C (nI 24) dX10_hashOf_43 rfl ?_
        refine r_bipush (pc := 45) C (nI 8) dX10_hashOf_45 rfl ?_
        refine r_iload_n (pc := 47) C dX10_hashOf_47 rfl ?_
        refine r_iconst (pc := 48) C (nI 4) dX10_hashOf_48 rfl ?_
        refine r_irem (pc := 49) C dX10_hashOf_49 (by decide) ?_
        rw [pk_rem (by omega) (by decide) (by decide)]
        refine r_imul (pc := 50) C dX10_hashOf_50 ?_
        try simp only [nI_add, pk_mul]
        refine r_isub (pc := 51) C dX10_hashOf_51 ?_
        rw [pk_sub (by omega)]
        refine r_ishl (pc := 52) C dX10_hashOf_52 ?_
        refine r_ior (pc := 53) C dX10_hashOf_53 ?_
        refine r_xS (pc := 54) C hV1 dX10_hashOf_54 (k := 40) (len := 64) (by decide) (by decide) (by decide) (by decide) (by omega) (by decide) (fun S54 hC54r hV54 hF54 => ?_)
        have hC54 := hC1.trk hC54r
        refine r_iinc (pc := 55) C _ dX10_hashOf_55 rfl (nI_1 _) (by decide) rfl ?_
        refine r_goto (pc := 58) (tgt := 23) C dX10_hashOf_58 (by decide) ?_
        refine r_lv C [(0, vr (some mo)), (1, vi (nI m)), (2, vi (nI (i + 1)))] rfl (ih _ ⟨hC54, hV54, ?_, ?_⟩)
        · rw [hF54 40 (by decide), uk_s, h40]; rfl
        · rw [hF54 43 (by decide), uk_n (by decide)]; exact h43
  have L1 : ∀ i S1, i ≤ 16 → (Gc [40, 43] S S1 mo (Gs S mo) ∧ MV S1 mo M n h ∧ mI S1 mo 40 = (fun j => if j < i then nI 0 else B j) ∧ mI S1 mo 43 = Hx) → J 2 [(0, vr (some mo)), (1, vi (nI m)), (2, vi (nI i))] [] S1 0 0 := by
    refine up_loop 16 _ _ ?_ ?_
    · intro S1 hS
      obtain ⟨hC1, hV1, h40, h43⟩ := hS
      refine r_iload_n (pc := 2) C dX10_hashOf_2 rfl ?_
      refine r_bipush (pc := 3) C (nI 16) dX10_hashOf_3 rfl ?_
      refine r_icmp_ge (pc := 5) (tgt := 21) C dX10_hashOf_5 (by decide) (fun c5 => ?_) (fun c5 => ?_)
      · refine r_iconst (pc := 21) C (nI 0) dX10_hashOf_21 rfl ?_
        refine r_istore_n (pc := 22) C dX10_hashOf_22 (by decide) rfl ?_
        exact r_lv C [(0, vr (some mo)), (1, vi (nI m)), (2, vi (nI 0))] rfl (L2 0 S1 (by omega) ⟨hC1, hV1, by rw [h40]; exact hB0, h43⟩)
      · exact absurd (Int32.le_refl _) c5
    · intro i S1 hi hS ih
      obtain ⟨hC1, hV1, h40, h43⟩ := hS
      refine r_iload_n (pc := 2) C dX10_hashOf_2 rfl ?_
      refine r_bipush (pc := 3) C (nI 16) dX10_hashOf_3 rfl ?_
      refine r_icmp_ge (pc := 5) (tgt := 21) C dX10_hashOf_5 (by decide) (fun c5 => ?_) (fun c5 => ?_)
      · exact absurd c5 (nI_ge hi (by omega))
      · refine r_aload_n (pc := 8) C dX10_hashOf_8 rfl ?_
        refine r_mA (pc := 9) C hV1 dX10_hashOf_9 fx_RX10_106 (len := 64) (by decide) ?_
        refine r_iload_n (pc := 12) C dX10_hashOf_12 rfl ?_
        refine r_iconst (pc := 13) C (nI 0) dX10_hashOf_13 rfl ?_
        refine r_xS (pc := 14) C hV1 dX10_hashOf_14 (k := 40) (len := 64) (by decide) (by decide) (by decide) (by decide) (by omega) (by decide) (fun S14 hC14r hV14 hF14 => ?_)
        have hC14 := hC1.trk hC14r
        refine r_iinc (pc := 15) C _ dX10_hashOf_15 rfl (nI_1 _) (by decide) rfl ?_
        refine r_goto (pc := 18) (tgt := 2) C dX10_hashOf_18 (by decide) ?_
        refine r_lv C [(0, vr (some mo)), (1, vi (nI m)), (2, vi (nI (i + 1)))] rfl (ih _ ⟨hC14, hV14, ?_, ?_⟩)
        · rw [hF14 40 (by decide), uk_s, h40]
          funext x
          simp only [upd]
          by_cases e : x = i
          · subst e; rw [if_pos rfl, if_pos (by omega)]
          · rw [if_neg e]
            by_cases e2 : x < i
            · rw [if_pos e2, if_pos (by omega)]
            · rw [if_neg e2, if_neg (by omega)]
        · rw [hF14 43 (by decide), uk_n (by decide)]; exact h43
  refine r_iconst (pc := 0) C (nI 0) dX10_hashOf_0 rfl ?_
  refine r_istore_n (pc := 1) C dX10_hashOf_1 (by decide) rfl ?_
  exact r_lv C [(0, vr (some mo)), (1, vi (nI m)), (2, vi (nI 0))] rfl (L1 0 S (by omega) ⟨hC0, hV, by rw [hB]; funext j; simp, hHx⟩)
end Hash
