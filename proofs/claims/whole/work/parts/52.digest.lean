/-! The class: its digest -/
def DG (S : hS) (dg wa ta : Nat) : Prop := sK S dg = 3 ∧ sR S 200 dg = some wa ∧ sR S 201 dg = some ta ∧ (sK S wa = 31 ∧ sN S wa = 64) ∧ sK S ta = 32 ∧ sN S ta = 8
def dput (S : hS) (wa ta : Nat) (A B : Nat → Int32) : hS := putI (putI S 31 wa A) 32 ta B
section Digest
variable {l : Launch} {g : GG} {S : hS} {dg wa ta : Nat} {A B A' B' : Nat → Int32}
theorem dput_id : dput S wa ta (aI S 31 wa) (aI S 32 ta) = S := by
  unfold dput
  rw [putI_id, putI_id]
theorem dput_a : aI (dput S wa ta A B) 31 wa = A := by
  unfold dput
  rw [aI_pn (Or.inl (by decide)), aI_ps]
theorem dput_b : aI (dput S wa ta A B) 32 ta = B := aI_ps
theorem dput_pb : putI (dput S wa ta A B) 32 ta B' = dput S wa ta A B' := putI_putI
theorem putI_comm {r r2 x y : Nat} (h : r ≠ r2) {F G : Nat → Int32} : putI (putI S r x F) r2 y G = putI (putI S r2 y G) r x F := by
  unfold putI
  simp only [Prod.mk.injEq, true_and, and_true]
  funext a b
  simp only [u2r]
  by_cases e1 : a = r2
  · have hne : ¬ a = r := fun e2 => h (e2.symm.trans e1)
    simp only [if_pos e1, if_neg hne]
  · rw [if_neg e1, if_neg e1]
theorem dput_pa : putI (dput S wa ta A B) 31 wa A' = dput S wa ta A' B := by
  unfold dput
  rw [putI_comm (by decide), putI_putI]
theorem cl_rotate {v m : Int32} : Sp l g mX1_rotate 0 0 [vi v, vi m] S (fun r S' => r = some (vi (rot v m)) ∧ S' = S) := by
  refine Sp.start (own := RX1) [(0, vi v), (1, vi m)] (by decide +kernel) rfl rfl (Nat.le_of_ble_eq_true rfl) ?_
  intro J C
  refine r_iload_n (pc := 0) C dX1_rotate_0 rfl ?_
  refine r_iload_n (pc := 1) C dX1_rotate_1 rfl ?_
  refine r_iushr (pc := 2) C dX1_rotate_2 ?_
  refine r_iload_n (pc := 3) C dX1_rotate_3 rfl ?_
  refine r_bipush (pc := 4) C (nI 32) dX1_rotate_4 rfl ?_
  refine r_iload_n (pc := 6) C dX1_rotate_6 rfl ?_
  refine r_isub (pc := 7) C dX1_rotate_7 ?_
  refine r_ishl (pc := 8) C dX1_rotate_8 ?_
  refine r_ior (pc := 9) C dX1_rotate_9 ?_
  refine r_iret (pc := 10) C dX1_rotate_10 rfl (by omega) (by omega) ?_
  exact ⟨rfl, rfl⟩
theorem cl_turn {v : Int32} (hD : DG S dg wa ta) : Sp l g mX1_turn 0 0 [vr (some dg), vi v] (dput S wa ta A B) (fun r S' => r = none ∧ S' = dput S wa ta A (upd (upd (shF B 0) 4 (shF B 0 4 + (((B 7 + ((rot (B 4) (nI 6) ^^^ rot (B 4) (nI 11)) ^^^ rot (B 4) (nI 25))) + ((B 4 &&& B 5) ^^^ ((B 4 ^^^ (-1)) &&& B 6))) + v))) 0 (((((B 7 + ((rot (B 4) (nI 6) ^^^ rot (B 4) (nI 11)) ^^^ rot (B 4) (nI 25))) + ((B 4 &&& B 5) ^^^ ((B 4 ^^^ (-1)) &&& B 6))) + v) + mx2 B) + mx3 B))) := by
  obtain ⟨hk, hw, ht, ⟨kw, nw⟩, kt, nt⟩ := hD
  generalize hz : (((B 7 + ((rot (B 4) (nI 6) ^^^ rot (B 4) (nI 11)) ^^^ rot (B 4) (nI 25))) + ((B 4 &&& B 5) ^^^ ((B 4 ^^^ (-1)) &&& B 6))) + v) = z
  refine Sp.start (own := RX1) [(0, vr (some dg)), (1, vi v)] (by decide +kernel) rfl rfl (Nat.le_of_ble_eq_true rfl) ?_
  intro J C
  have hk' : ∀ B, sK (dput S wa ta A B) dg = 2 + 1 := fun _ => hk
  have ht' : ∀ B, sR (dput S wa ta A B) 201 dg = some ta := fun _ => ht
  have kt' : ∀ B, sK (dput S wa ta A B) ta = 32 := fun _ => kt
  have nt' : ∀ B, sN (dput S wa ta A B) ta = 8 := fun _ => nt
  have L : ∀ j (u : Unit), (j ≤ 7) → J 133 [(0, vr (some dg)), (5, vi (mx3 B)), (7, vi (mx2 B)), (8, vi z), (9, vi (nI j))] [] (dput S wa ta A (shF B j)) 0 0 := by
    refine dn_loop _ _ ?_ ?_
    · intro u hj
      refine r_iload (pc := 133) C dX1_turn_133 rfl ?_
      refine r_if_le (pc := 135) (tgt := 160) C dX1_turn_135 (by decide) (fun c135 => ?_) (fun c135 => ?_)
      · refine r_aload_n (pc := 160) C dX1_turn_160 rfl ?_
        refine r_getR (pc := 161) C dX1_turn_161 fx_RX1_13 (hk' _) (ht' _) ?_
        refine r_iconst (pc := 164) C (nI 4) dX1_turn_164 rfl ?_
        refine r_dup2 (pc := 165) C dX1_turn_165 rfl rfl ?_
        refine r_iald (pc := 166) C dX1_turn_166 (kt' _) (by decide) (nt' _) (by first | assumption | exact vp_in_nI (by omega) (by omega)) (by first | exact nI_clamp (by omega) | rfl) ?_
        rw [dput_b]
        refine r_iload (pc := 167) C dX1_turn_167 rfl ?_
        refine r_iadd (pc := 169) C dX1_turn_169 ?_
        refine r_iast (pc := 170) C dX1_turn_170 (kt' _) (by decide) (nt' _) (by first | assumption | exact vp_in_nI (by omega) (by omega)) (by first | exact nI_clamp (by omega) | rfl) ?_
        rw [dput_b, dput_pb]
        refine r_aload_n (pc := 171) C dX1_turn_171 rfl ?_
        refine r_getR (pc := 172) C dX1_turn_172 fx_RX1_13 (hk' _) (ht' _) ?_
        refine r_iconst (pc := 175) C (nI 0) dX1_turn_175 rfl ?_
        refine r_iload (pc := 176) C dX1_turn_176 rfl ?_
        refine r_iload (pc := 178) C dX1_turn_178 rfl ?_
        refine r_iadd (pc := 180) C dX1_turn_180 ?_
        refine r_iload (pc := 181) C dX1_turn_181 rfl ?_
        refine r_iadd (pc := 183) C dX1_turn_183 ?_
        refine r_iast (pc := 184) C dX1_turn_184 (kt' _) (by decide) (nt' _) (by first | assumption | exact vp_in_nI (by omega) (by omega)) (by first | exact nI_clamp (by omega) | rfl) ?_
        rw [dput_b, dput_pb]
        refine r_ret (pc := 185) C dX1_turn_185 rfl (by omega) (by omega) ?_
        exact ⟨rfl, rfl⟩
      · exact absurd (by decide) c135
    · intro j u hj ih
      refine r_iload (pc := 133) C dX1_turn_133 rfl ?_
      refine r_if_le (pc := 135) (tgt := 160) C dX1_turn_135 (by decide) (fun c135 => ?_) (fun c135 => ?_)
      · exact absurd c135 (nI_nle (by omega) (by omega))
      · refine r_aload_n (pc := 138) C dX1_turn_138 rfl ?_
        refine r_getR (pc := 139) C dX1_turn_139 fx_RX1_13 (hk' _) (ht' _) ?_
        refine r_iload (pc := 142) C dX1_turn_142 rfl ?_
        refine r_aload_n (pc := 144) C dX1_turn_144 rfl ?_
        refine r_getR (pc := 145) C dX1_turn_145 fx_RX1_13 (hk' _) (ht' _) ?_
        refine r_iload (pc := 148) C dX1_turn_148 rfl ?_
        refine r_iconst (pc := 150) C (nI 1) dX1_turn_150 rfl ?_
        refine r_isub (pc := 151) C dX1_turn_151 ?_
        rw [show nI (j + 1) - nI 1 = nI j from nI_pred j]
        refine r_iald (pc := 152) C dX1_turn_152 (kt' _) (by decide) (nt' _) (by first | assumption | exact vp_in_nI (by omega) (by omega)) (by first | exact nI_clamp (by omega) | rfl) ?_
        rw [dput_b]
        refine r_iast (pc := 153) C dX1_turn_153 (kt' _) (by decide) (nt' _) (by first | assumption | exact vp_in_nI (by omega) (by omega)) (by first | exact nI_clamp (by omega) | rfl) ?_
        rw [dput_b, dput_pb]
        refine r_iinc (pc := 154) C (nI j) dX1_turn_154 rfl (by rw [dec1]; exact nI_pred j) (by decide) rfl ?_
        refine r_goto (pc := 157) (tgt := 133) C dX1_turn_157 (by decide) ?_
        have e : upd (shF B (j + 1)) (j + 1) (shF B (j + 1) j) = shF B j := by
          funext x
          simp only [upd, shF]
          by_cases e : x = j + 1
          · subst e; rw [if_pos rfl, if_neg (by omega), if_pos (by omega)]; rfl
          · rw [if_neg e]
            by_cases e2 : j + 1 < x ∧ x ≤ 7
            · rw [if_pos e2, if_pos (by omega)]
            · rw [if_neg e2, if_neg (by omega)]
        rw [e]
        exact r_lv C [(0, vr (some dg)), (5, vi (mx3 B)), (7, vi (mx2 B)), (8, vi z), (9, vi (nI j))] rfl (ih u (by omega))
  refine r_aload_n (pc := 0) C dX1_turn_0 rfl ?_
  refine r_getR (pc := 1) C dX1_turn_1 fx_RX1_13 (hk' _) (ht' _) ?_
  refine r_iconst (pc := 4) C (nI 0) dX1_turn_4 rfl ?_
  refine r_iald (pc := 5) C dX1_turn_5 (kt' _) (by decide) (nt' _) (by first | assumption | exact vp_in_nI (by omega) (by omega)) (by first | exact nI_clamp (by omega) | rfl) ?_
  rw [dput_b]
  refine r_istore_n (pc := 6) C dX1_turn_6 (by decide) rfl ?_
  refine r_aload_n (pc := 7) C dX1_turn_7 rfl ?_
  refine r_getR (pc := 8) C dX1_turn_8 fx_RX1_13 (hk' _) (ht' _) ?_
  refine r_iconst (pc := 11) C (nI 4) dX1_turn_11 rfl ?_
  refine r_iald (pc := 12) C dX1_turn_12 (kt' _) (by decide) (nt' _) (by first | assumption | exact vp_in_nI (by omega) (by omega)) (by first | exact nI_clamp (by omega) | rfl) ?_
  rw [dput_b]
  refine r_istore_n (pc := 13) C dX1_turn_13 (by decide) rfl ?_
  refine r_iload_n (pc := 14) C dX1_turn_14 rfl ?_
  refine r_aload_n (pc := 15) C dX1_turn_15 rfl ?_
  refine r_getR (pc := 16) C dX1_turn_16 fx_RX1_13 (hk' _) (ht' _) ?_
  refine r_iconst (pc := 19) C (nI 5) dX1_turn_19 rfl ?_
  refine r_iald (pc := 20) C dX1_turn_20 (kt' _) (by decide) (nt' _) (by first | assumption | exact vp_in_nI (by omega) (by omega)) (by first | exact nI_clamp (by omega) | rfl) ?_
  rw [dput_b]
  refine r_iand (pc := 21) C dX1_turn_21 ?_
  refine r_iload_n (pc := 22) C dX1_turn_22 rfl ?_
  refine r_iconst (pc := 23) C (-1) dX1_turn_23 rfl ?_
  refine r_ixor (pc := 24) C dX1_turn_24 ?_
  refine r_aload_n (pc := 25) C dX1_turn_25 rfl ?_
  refine r_getR (pc := 26) C dX1_turn_26 fx_RX1_13 (hk' _) (ht' _) ?_
  refine r_bipush (pc := 29) C (nI 6) dX1_turn_29 rfl ?_
  refine r_iald (pc := 31) C dX1_turn_31 (kt' _) (by decide) (nt' _) (by first | assumption | exact vp_in_nI (by omega) (by omega)) (by first | exact nI_clamp (by omega) | rfl) ?_
  rw [dput_b]
  refine r_iand (pc := 32) C dX1_turn_32 ?_
  refine r_ixor (pc := 33) C dX1_turn_33 ?_
  refine r_istore (pc := 34) C dX1_turn_34 (by decide) rfl ?_
  refine r_iload_n (pc := 36) C dX1_turn_36 rfl ?_
  refine r_aload_n (pc := 37) C dX1_turn_37 rfl ?_
  refine r_getR (pc := 38) C dX1_turn_38 fx_RX1_13 (hk' _) (ht' _) ?_
  refine r_iconst (pc := 41) C (nI 1) dX1_turn_41 rfl ?_
  refine r_iald (pc := 42) C dX1_turn_42 (kt' _) (by decide) (nt' _) (by first | assumption | exact vp_in_nI (by omega) (by omega)) (by first | exact nI_clamp (by omega) | rfl) ?_
  rw [dput_b]
  refine r_iand (pc := 43) C dX1_turn_43 ?_
  refine r_iload_n (pc := 44) C dX1_turn_44 rfl ?_
  refine r_aload_n (pc := 45) C dX1_turn_45 rfl ?_
  refine r_getR (pc := 46) C dX1_turn_46 fx_RX1_13 (hk' _) (ht' _) ?_
  refine r_iconst (pc := 49) C (nI 2) dX1_turn_49 rfl ?_
  refine r_iald (pc := 50) C dX1_turn_50 (kt' _) (by decide) (nt' _) (by first | assumption | exact vp_in_nI (by omega) (by omega)) (by first | exact nI_clamp (by omega) | rfl) ?_
  rw [dput_b]
  refine r_iand (pc := 51) C dX1_turn_51 ?_
  refine r_ixor (pc := 52) C dX1_turn_52 ?_
  refine r_aload_n (pc := 53) C dX1_turn_53 rfl ?_
  refine r_getR (pc := 54) C dX1_turn_54 fx_RX1_13 (hk' _) (ht' _) ?_
  refine r_iconst (pc := 57) C (nI 1) dX1_turn_57 rfl ?_
  refine r_iald (pc := 58) C dX1_turn_58 (kt' _) (by decide) (nt' _) (by first | assumption | exact vp_in_nI (by omega) (by omega)) (by first | exact nI_clamp (by omega) | rfl) ?_
  rw [dput_b]
  refine r_aload_n (pc := 59) C dX1_turn_59 rfl ?_
  refine r_getR (pc := 60) C dX1_turn_60 fx_RX1_13 (hk' _) (ht' _) ?_
  refine r_iconst (pc := 63) C (nI 2) dX1_turn_63 rfl ?_
  refine r_iald (pc := 64) C dX1_turn_64 (kt' _) (by decide) (nt' _) (by first | assumption | exact vp_in_nI (by omega) (by omega)) (by first | exact nI_clamp (by omega) | rfl) ?_
  rw [dput_b]
  refine r_iand (pc := 65) C dX1_turn_65 ?_
  refine r_ixor (pc := 66) C dX1_turn_66 ?_
  refine r_istore (pc := 67) C dX1_turn_67 (by decide) rfl ?_
  refine r_iload_n (pc := 69) C dX1_turn_69 rfl ?_
  refine r_bipush (pc := 70) C (nI 6) dX1_turn_70 rfl ?_
  refine r_callS (pc := 72) C (cl_rotate) iX1_rotate ml_RX1_52 dX1_turn_72 rfl (by decide) rfl (by simp [cv, Value.category, va_rf]) (by omega) (by omega) (fun r72 S72 h72 => ?_)
  obtain ⟨rfl, e72⟩ := h72
  subst S72
  dsimp only [Option.toList, List.cons_append, List.nil_append]
  refine r_iload_n (pc := 75) C dX1_turn_75 rfl ?_
  refine r_bipush (pc := 76) C (nI 11) dX1_turn_76 rfl ?_
  refine r_callS (pc := 78) C (cl_rotate) iX1_rotate ml_RX1_52 dX1_turn_78 rfl (by decide) rfl (by simp [cv, Value.category, va_rf]) (by omega) (by omega) (fun r78 S78 h78 => ?_)
  obtain ⟨rfl, e78⟩ := h78
  subst S78
  dsimp only [Option.toList, List.cons_append, List.nil_append]
  refine r_ixor (pc := 81) C dX1_turn_81 ?_
  refine r_iload_n (pc := 82) C dX1_turn_82 rfl ?_
  refine r_bipush (pc := 83) C (nI 25) dX1_turn_83 rfl ?_
  refine r_callS (pc := 85) C (cl_rotate) iX1_rotate ml_RX1_52 dX1_turn_85 rfl (by decide) rfl (by simp [cv, Value.category, va_rf]) (by omega) (by omega) (fun r85 S85 h85 => ?_)
  obtain ⟨rfl, e85⟩ := h85
  subst S85
  dsimp only [Option.toList, List.cons_append, List.nil_append]
  refine r_ixor (pc := 88) C dX1_turn_88 ?_
  refine r_istore (pc := 89) C dX1_turn_89 (by decide) rfl ?_
  refine r_iload_n (pc := 91) C dX1_turn_91 rfl ?_
  refine r_iconst (pc := 92) C (nI 2) dX1_turn_92 rfl ?_
  refine r_callS (pc := 93) C (cl_rotate) iX1_rotate ml_RX1_52 dX1_turn_93 rfl (by decide) rfl (by simp [cv, Value.category, va_rf]) (by omega) (by omega) (fun r93 S93 h93 => ?_)
  obtain ⟨rfl, e93⟩ := h93
  subst S93
  dsimp only [Option.toList, List.cons_append, List.nil_append]
  refine r_iload_n (pc := 96) C dX1_turn_96 rfl ?_
  refine r_bipush (pc := 97) C (nI 13) dX1_turn_97 rfl ?_
  refine r_callS (pc := 99) C (cl_rotate) iX1_rotate ml_RX1_52 dX1_turn_99 rfl (by decide) rfl (by simp [cv, Value.category, va_rf]) (by omega) (by omega) (fun r99 S99 h99 => ?_)
  obtain ⟨rfl, e99⟩ := h99
  subst S99
  dsimp only [Option.toList, List.cons_append, List.nil_append]
  refine r_ixor (pc := 102) C dX1_turn_102 ?_
  refine r_iload_n (pc := 103) C dX1_turn_103 rfl ?_
  refine r_bipush (pc := 104) C (nI 22) dX1_turn_104 rfl ?_
  refine r_callS (pc := 106) C (cl_rotate) iX1_rotate ml_RX1_52 dX1_turn_106 rfl (by decide) rfl (by simp [cv, Value.category, va_rf]) (by omega) (by omega) (fun r106 S106 h106 => ?_)
  obtain ⟨rfl, e106⟩ := h106
  subst S106
  dsimp only [Option.toList, List.cons_append, List.nil_append]
  refine r_ixor (pc := 109) C dX1_turn_109 ?_
  refine r_istore (pc := 110) C dX1_turn_110 (by decide) rfl ?_
  refine r_aload_n (pc := 112) C dX1_turn_112 rfl ?_
  refine r_getR (pc := 113) C dX1_turn_113 fx_RX1_13 (hk' _) (ht' _) ?_
  refine r_bipush (pc := 116) C (nI 7) dX1_turn_116 rfl ?_
  refine r_iald (pc := 118) C dX1_turn_118 (kt' _) (by decide) (nt' _) (by first | assumption | exact vp_in_nI (by omega) (by omega)) (by first | exact nI_clamp (by omega) | rfl) ?_
  rw [dput_b]
  refine r_iload (pc := 119) C dX1_turn_119 rfl ?_
  refine r_iadd (pc := 121) C dX1_turn_121 ?_
  refine r_iload (pc := 122) C dX1_turn_122 rfl ?_
  refine r_iadd (pc := 124) C dX1_turn_124 ?_
  refine r_iload_n (pc := 125) C dX1_turn_125 rfl ?_
  refine r_iadd (pc := 126) C dX1_turn_126 ?_
  refine r_istore (pc := 127) C dX1_turn_127 (by decide) rfl ?_
  refine r_bipush (pc := 129) C (nI 7) dX1_turn_129 rfl ?_
  refine r_istore (pc := 131) C dX1_turn_131 (by decide) rfl ?_
  refine r_lv C [(0, vr (some dg)), (5, vi (mx3 B)), (7, vi (mx2 B)), (8, vi z), (9, vi (nI 7))] (by subst hz; rfl) ?_
  have h7 := L 7 () (by omega)
  rw [show shF B 7 = B from funext (fun x => if_neg (by omega))] at h7
  exact h7
theorem cl_spread (hD : DG S dg wa ta) : Sp l g mX1_spreadBlock 0 0 [vr (some dg)] (dput S wa ta A B) (fun r S' => r = none ∧ S' = dput S wa ta (sch A 48) B) := by
  obtain ⟨hk, hw, ht, ⟨kw, nw⟩, kt, nt⟩ := hD
  have hk' : ∀ A, sK (dput S wa ta A B) dg = 2 + 1 := fun _ => hk
  have hw' : ∀ A, sR (dput S wa ta A B) 200 dg = some wa := fun _ => hw
  have kw' : ∀ A, sK (dput S wa ta A B) wa = 31 := fun _ => kw
  have nw' : ∀ A, sN (dput S wa ta A B) wa = 64 := fun _ => nw
  refine Sp.start (own := RX1) [(0, vr (some dg))] (by decide +kernel) rfl rfl (Nat.le_of_ble_eq_true rfl) ?_
  intro J C
  have L : ∀ i (u : Unit), i ≤ 48 → True → J 3 [(0, vr (some dg)), (1, vi (nI (16 + i)))] [] (dput S wa ta (sch A i) B) 0 0 := by
    refine up_loop 48 _ _ ?_ ?_
    · intro u _
      refine r_iload_n (pc := 3) C dX1_spreadBlock_3 rfl ?_
      refine r_bipush (pc := 4) C (nI 64) dX1_spreadBlock_4 rfl ?_
      refine r_icmp_ge (pc := 6) (tgt := 104) C dX1_spreadBlock_6 (by decide) (fun c6 => ?_) (fun c6 => ?_)
      · refine r_ret (pc := 104) C dX1_spreadBlock_104 rfl (by omega) (by omega) ?_
        exact ⟨rfl, rfl⟩
      · exact absurd (Int32.le_refl _) c6
    · intro i u hi _ ih
      refine r_iload_n (pc := 3) C dX1_spreadBlock_3 rfl ?_
      refine r_bipush (pc := 4) C (nI 64) dX1_spreadBlock_4 rfl ?_
      refine r_icmp_ge (pc := 6) (tgt := 104) C dX1_spreadBlock_6 (by decide) (fun c6 => ?_) (fun c6 => ?_)
      · exact absurd c6 (nI_ge (show 16 + i < 64 by omega) (by omega))
      · refine r_aload_n (pc := 9) C dX1_spreadBlock_9 rfl ?_
        refine r_getR (pc := 10) C dX1_spreadBlock_10 fx_RX1_7 (hk' _) (hw' _) ?_
        refine r_iload_n (pc := 13) C dX1_spreadBlock_13 rfl ?_
        refine r_bipush (pc := 14) C (nI 15) dX1_spreadBlock_14 rfl ?_
        refine r_isub (pc := 16) C dX1_spreadBlock_16 ?_
        rw [pk_sub (by omega)]
        refine r_iald (pc := 17) C dX1_spreadBlock_17 (kw' _) (by decide) (nw' _) (by first | assumption | exact vp_in_nI (by omega) (by omega)) (by first | exact nI_clamp (by omega) | rfl) ?_
        rw [dput_a]
        refine r_istore_n (pc := 18) C dX1_spreadBlock_18 (by decide) rfl ?_
        refine r_aload_n (pc := 19) C dX1_spreadBlock_19 rfl ?_
        refine r_getR (pc := 20) C dX1_spreadBlock_20 fx_RX1_7 (hk' _) (hw' _) ?_
        refine r_iload_n (pc := 23) C dX1_spreadBlock_23 rfl ?_
        refine r_iconst (pc := 24) C (nI 2) dX1_spreadBlock_24 rfl ?_
        refine r_isub (pc := 25) C dX1_spreadBlock_25 ?_
        rw [pk_sub (by omega)]
        refine r_iald (pc := 26) C dX1_spreadBlock_26 (kw' _) (by decide) (nw' _) (by first | assumption | exact vp_in_nI (by omega) (by omega)) (by first | exact nI_clamp (by omega) | rfl) ?_
        rw [dput_a]
        refine r_istore_n (pc := 27) C dX1_spreadBlock_27 (by decide) rfl ?_
        refine r_iload_n (pc := 28) C dX1_spreadBlock_28 rfl ?_
        refine r_bipush (pc := 29) C (nI 7) dX1_spreadBlock_29 rfl ?_
        refine r_callS (pc := 31) C (cl_rotate) iX1_rotate ml_RX1_52 dX1_spreadBlock_31 rfl (by decide) rfl (by simp [cv, Value.category, va_rf]) (by omega) (by omega) (fun r31 S31 h31 => ?_)
        obtain ⟨rfl, e31⟩ := h31
        subst S31
        dsimp only [Option.toList, List.cons_append, List.nil_append]
        refine r_iload_n (pc := 34) C dX1_spreadBlock_34 rfl ?_
        refine r_bipush (pc := 35) C (nI 18) dX1_spreadBlock_35 rfl ?_
        refine r_callS (pc := 37) C (cl_rotate) iX1_rotate ml_RX1_52 dX1_spreadBlock_37 rfl (by decide) rfl (by simp [cv, Value.category, va_rf]) (by omega) (by omega) (fun r37 S37 h37 => ?_)
        obtain ⟨rfl, e37⟩ := h37
        subst S37
        dsimp only [Option.toList, List.cons_append, List.nil_append]
        refine r_ixor (pc := 40) C dX1_spreadBlock_40 ?_
        refine r_iload_n (pc := 41) C dX1_spreadBlock_41 rfl ?_
        refine r_iconst (pc := 42) C (nI 3) dX1_spreadBlock_42 rfl ?_
        refine r_iushr (pc := 43) C dX1_spreadBlock_43 ?_
        refine r_ixor (pc := 44) C dX1_spreadBlock_44 ?_
        refine r_istore (pc := 45) C dX1_spreadBlock_45 (by decide) rfl ?_
        refine r_iload_n (pc := 47) C dX1_spreadBlock_47 rfl ?_
        refine r_bipush (pc := 48) C (nI 17) dX1_spreadBlock_48 rfl ?_
        refine r_callS (pc := 50) C (cl_rotate) iX1_rotate ml_RX1_52 dX1_spreadBlock_50 rfl (by decide) rfl (by simp [cv, Value.category, va_rf]) (by omega) (by omega) (fun r50 S50 h50 => ?_)
        obtain ⟨rfl, e50⟩ := h50
        subst S50
        dsimp only [Option.toList, List.cons_append, List.nil_append]
        refine r_iload_n (pc := 53) C dX1_spreadBlock_53 rfl ?_
        refine r_bipush (pc := 54) C (nI 19) dX1_spreadBlock_54 rfl ?_
        refine r_callS (pc := 56) C (cl_rotate) iX1_rotate ml_RX1_52 dX1_spreadBlock_56 rfl (by decide) rfl (by simp [cv, Value.category, va_rf]) (by omega) (by omega) (fun r56 S56 h56 => ?_)
        obtain ⟨rfl, e56⟩ := h56
        subst S56
        dsimp only [Option.toList, List.cons_append, List.nil_append]
        refine r_ixor (pc := 59) C dX1_spreadBlock_59 ?_
        refine r_iload_n (pc := 60) C dX1_spreadBlock_60 rfl ?_
        refine r_bipush (pc := 61) C (nI 10) dX1_spreadBlock_61 rfl ?_
        refine r_iushr (pc := 63) C dX1_spreadBlock_63 ?_
        refine r_ixor (pc := 64) C dX1_spreadBlock_64 ?_
        refine r_istore (pc := 65) C dX1_spreadBlock_65 (by decide) rfl ?_
        refine r_aload_n (pc := 67) C dX1_spreadBlock_67 rfl ?_
        refine r_getR (pc := 68) C dX1_spreadBlock_68 fx_RX1_7 (hk' _) (hw' _) ?_
        refine r_iload_n (pc := 71) C dX1_spreadBlock_71 rfl ?_
        refine r_aload_n (pc := 72) C dX1_spreadBlock_72 rfl ?_
        refine r_getR (pc := 73) C dX1_spreadBlock_73 fx_RX1_7 (hk' _) (hw' _) ?_
        refine r_iload_n (pc := 76) C dX1_spreadBlock_76 rfl ?_
        refine r_bipush (pc := 77) C (nI 16) dX1_spreadBlock_77 rfl ?_
        refine r_isub (pc := 79) C dX1_spreadBlock_79 ?_
        rw [pk_sub (by omega)]
        refine r_iald (pc := 80) C dX1_spreadBlock_80 (kw' _) (by decide) (nw' _) (by first | assumption | exact vp_in_nI (by omega) (by omega)) (by first | exact nI_clamp (by omega) | rfl) ?_
        rw [dput_a]
        refine r_iload (pc := 81) C dX1_spreadBlock_81 rfl ?_
        refine r_iadd (pc := 83) C dX1_spreadBlock_83 ?_
        refine r_aload_n (pc := 84) C dX1_spreadBlock_84 rfl ?_
        refine r_getR (pc := 85) C dX1_spreadBlock_85 fx_RX1_7 (hk' _) (hw' _) ?_
        refine r_iload_n (pc := 88) C dX1_spreadBlock_88 rfl ?_
        refine r_bipush (pc := 89) C (nI 7) dX1_spreadBlock_89 rfl ?_
        refine r_isub (pc := 91) C dX1_spreadBlock_91 ?_
        rw [pk_sub (by omega)]
        refine r_iald (pc := 92) C dX1_spreadBlock_92 (kw' _) (by decide) (nw' _) (by first | assumption | exact vp_in_nI (by omega) (by omega)) (by first | exact nI_clamp (by omega) | rfl) ?_
        rw [dput_a]
        refine r_iadd (pc := 93) C dX1_spreadBlock_93 ?_
        refine r_iload (pc := 94) C dX1_spreadBlock_94 rfl ?_
        refine r_iadd (pc := 96) C dX1_spreadBlock_96 ?_
        refine r_iast (pc := 97) C dX1_spreadBlock_97 (kw' _) (by decide) (nw' _) (by first | assumption | exact vp_in_nI (by omega) (by omega)) (by first | exact nI_clamp (by omega) | rfl) ?_
        rw [dput_a, dput_pa]
        refine r_iinc (pc := 98) C _ dX1_spreadBlock_98 rfl (nI_1 _) (by decide) rfl ?_
        refine r_goto (pc := 101) (tgt := 3) C dX1_spreadBlock_101 (by decide) ?_
        exact r_lv C [(0, vr (some dg)), (1, vi (nI (16 + (i + 1))))] rfl (ih u trivial)
  refine r_bipush (pc := 0) C (nI 16) dX1_spreadBlock_0 rfl ?_
  refine r_istore_n (pc := 2) C dX1_spreadBlock_2 (by decide) rfl ?_
  exact r_lv C [(0, vr (some dg)), (1, vi (nI (16 + 0)))] rfl (L 0 () (by omega) trivial)
theorem cl_fillB {ro m : Nat} {tb : Nat → Nat} (hD : DG S dg wa ta) (hr : sK S ro = 22) (hm : m ≤ 55) (hn : sN S ro = m) (ht : ∀ i, i < m → aI S 22 ro i &&& nI 255 = nI (tb i)) : Sp l g mX1_fillBlock 0 0 [vr (some dg), vr (some ro), vi (nI m)] (dput S wa ta A B) (fun r S' => r = none ∧ S' = dput S wa ta (blkE (fun i => nI (tb i)) (filF A 0 64) m) B) := by
  obtain ⟨hk, hw, ht1, ⟨kw, nw⟩, kt, nt⟩ := hD
  have hk' : ∀ A, sK (dput S wa ta A B) dg = 2 + 1 := fun _ => hk
  have hw' : ∀ A, sR (dput S wa ta A B) 200 dg = some wa := fun _ => hw
  have kw' : ∀ A, sK (dput S wa ta A B) wa = 31 := fun _ => kw
  have nw' : ∀ A, sN (dput S wa ta A B) wa = 64 := fun _ => nw
  have hr' : ∀ A, sK (dput S wa ta A B) ro = 22 := fun _ => hr
  have hn' : ∀ A, sN (dput S wa ta A B) ro = m := fun _ => hn
  have hb' : ∀ A, aI (dput S wa ta A B) 22 ro = aI S 22 ro := fun A => by unfold dput; rw [aI_pn (Or.inl (by decide)), aI_pn (Or.inl (by decide))]
  generalize hA0 : filF A 0 64 = A0
  refine Sp.start (own := RX1) [(0, vr (some dg)), (1, vr (some ro)), (2, vi (nI m))] (by decide +kernel) rfl rfl (Nat.le_of_ble_eq_true rfl) ?_
  intro J C
  have L : ∀ i (u : Unit), i ≤ m → True → J 10 [(0, vr (some dg)), (1, vr (some ro)), (2, vi (nI m)), (3, vi (nI i))] [] (dput S wa ta (blk (fun i => nI (tb i)) A0 i) B) 0 0 := by
    refine up_loop m _ _ ?_ ?_
    · intro u _
      have hm4 : m / 4 < 64 := by omega
      refine r_iload_n (pc := 10) C dX1_fillBlock_10 rfl ?_
      refine r_iload_n (pc := 11) C dX1_fillBlock_11 rfl ?_
      refine r_icmp_ge (pc := 12) (tgt := 49) C dX1_fillBlock_12 (by decide) (fun c12 => ?_) (fun c12 => ?_)
      · refine r_aload_n (pc := 49) C dX1_fillBlock_49 rfl ?_
        refine r_getR (pc := 50) C dX1_fillBlock_50 fx_RX1_7 (hk' _) (hw' _) ?_
        refine r_iload_n (pc := 53) C dX1_fillBlock_53 rfl ?_
        refine r_iconst (pc := 54) C (nI 2) dX1_fillBlock_54 rfl ?_
        refine r_ishr (pc := 55) C dX1_fillBlock_55 ?_
        rw [pk_shrN (by omega) _ 2 (by decide), show m / 2 ^ 2 = m / 4 from rfl]
        refine r_dup2 (pc := 56) C dX1_fillBlock_56 rfl rfl ?_
        refine r_iald (pc := 57) C dX1_fillBlock_57 (kw' _) (by decide) (nw' _) (by first | assumption | exact vp_in_nI (by omega) (by omega)) (by first | exact nI_clamp (by omega) | rfl) ?_
        rw [dput_a]
        refine r_sipush (pc := 58) C (nI 128) dX1_fillBlock_58 rfl ?_
        refine r_bipush (pc := 61) C (nI 24) dX1_fillBlock_61 rfl ?_
        refine r_bipush (pc := 63) C (nI 8) dX1_fillBlock_63 rfl ?_
        refine r_iload_n (pc := 65) C dX1_fillBlock_65 rfl ?_
        refine r_iconst (pc := 66) C (nI 3) dX1_fillBlock_66 rfl ?_
        refine r_iand (pc := 67) C dX1_fillBlock_67 ?_
        rw [pk_andN (by omega) 2 (by decide), show m % 2 ^ 2 = m % 4 from rfl]
        refine r_imul (pc := 68) C dX1_fillBlock_68 ?_
        try simp only [nI_add, pk_mul]
        refine r_isub (pc := 69) C dX1_fillBlock_69 ?_
        rw [pk_sub (by omega)]
        refine r_ishl (pc := 70) C dX1_fillBlock_70 ?_
        refine r_ior (pc := 71) C dX1_fillBlock_71 ?_
        refine r_iast (pc := 72) C dX1_fillBlock_72 (kw' _) (by decide) (nw' _) (by first | assumption | exact vp_in_nI (by omega) (by omega)) (by first | exact nI_clamp (by omega) | rfl) ?_
        rw [dput_a, dput_pa]
        refine r_aload_n (pc := 73) C dX1_fillBlock_73 rfl ?_
        refine r_getR (pc := 74) C dX1_fillBlock_74 fx_RX1_7 (hk' _) (hw' _) ?_
        refine r_bipush (pc := 77) C (nI 15) dX1_fillBlock_77 rfl ?_
        refine r_bipush (pc := 79) C (nI 8) dX1_fillBlock_79 rfl ?_
        refine r_iload_n (pc := 81) C dX1_fillBlock_81 rfl ?_
        refine r_imul (pc := 82) C dX1_fillBlock_82 ?_
        try simp only [nI_add, pk_mul]
        refine r_iast (pc := 83) C dX1_fillBlock_83 (kw' _) (by decide) (nw' _) (by first | assumption | exact vp_in_nI (by omega) (by omega)) (by first | exact nI_clamp (by omega) | rfl) ?_
        rw [dput_a, dput_pa]
        refine r_ret (pc := 84) C dX1_fillBlock_84 rfl (by omega) (by omega) ?_
        exact ⟨rfl, rfl⟩
      · exact absurd (Int32.le_refl _) c12
    · intro i u hi _ ih
      have hi4 : i / 4 < 64 := by omega
      refine r_iload_n (pc := 10) C dX1_fillBlock_10 rfl ?_
      refine r_iload_n (pc := 11) C dX1_fillBlock_11 rfl ?_
      refine r_icmp_ge (pc := 12) (tgt := 49) C dX1_fillBlock_12 (by decide) (fun c12 => ?_) (fun c12 => ?_)
      · exact absurd c12 (nI_ge hi (by omega))
      · refine r_aload_n (pc := 15) C dX1_fillBlock_15 rfl ?_
        refine r_getR (pc := 16) C dX1_fillBlock_16 fx_RX1_7 (hk' _) (hw' _) ?_
        refine r_iload_n (pc := 19) C dX1_fillBlock_19 rfl ?_
        refine r_iconst (pc := 20) C (nI 2) dX1_fillBlock_20 rfl ?_
        refine r_ishr (pc := 21) C dX1_fillBlock_21 ?_
        rw [pk_shrN (by omega) _ 2 (by decide), show i / 2 ^ 2 = i / 4 from rfl]
        refine r_dup2 (pc := 22) C dX1_fillBlock_22 rfl rfl ?_
        refine r_iald (pc := 23) C dX1_fillBlock_23 (kw' _) (by decide) (nw' _) (by first | assumption | exact vp_in_nI (by omega) (by omega)) (by first | exact nI_clamp (by omega) | rfl) ?_
        rw [dput_a]
        refine r_aload_n (pc := 24) C dX1_fillBlock_24 rfl ?_
        refine r_iload_n (pc := 25) C dX1_fillBlock_25 rfl ?_
        refine r_bald (pc := 26) C dX1_fillBlock_26 (hr' _) (by decide) (hn' _) (by first | assumption | exact vp_in_nI (by omega) (by omega)) (by first | exact nI_clamp (by omega) | rfl) ?_
        rw [hb']
        refine r_sipush (pc := 27) C (nI 255) dX1_fillBlock_27 rfl ?_
        refine r_iand (pc := 30) C dX1_fillBlock_30 ?_
        rw [ht i hi]
        refine r_bipush (pc := 31) C (nI 24) dX1_fillBlock_31 rfl ?_
        refine r_bipush (pc := 33) C (nI 8) dX1_fillBlock_33 rfl ?_
        refine r_iload_n (pc := 35) C dX1_fillBlock_35 rfl ?_
        refine r_iconst (pc := 36) C (nI 3) dX1_fillBlock_36 rfl ?_
        refine r_iand (pc := 37) C dX1_fillBlock_37 ?_
        rw [pk_andN (by omega) 2 (by decide), show i % 2 ^ 2 = i % 4 from rfl]
        refine r_imul (pc := 38) C dX1_fillBlock_38 ?_
        try simp only [nI_add, pk_mul]
        refine r_isub (pc := 39) C dX1_fillBlock_39 ?_
        rw [pk_sub (by omega)]
        refine r_ishl (pc := 40) C dX1_fillBlock_40 ?_
        refine r_ior (pc := 41) C dX1_fillBlock_41 ?_
        refine r_iast (pc := 42) C dX1_fillBlock_42 (kw' _) (by decide) (nw' _) (by first | assumption | exact vp_in_nI (by omega) (by omega)) (by first | exact nI_clamp (by omega) | rfl) ?_
        rw [dput_a, dput_pa]
        refine r_iinc (pc := 43) C _ dX1_fillBlock_43 rfl (nI_1 _) (by decide) rfl ?_
        refine r_goto (pc := 46) (tgt := 10) C dX1_fillBlock_46 (by decide) ?_
        exact r_lv C [(0, vr (some dg)), (1, vr (some ro)), (2, vi (nI m)), (3, vi (nI (i + 1)))] rfl (ih u trivial)
  refine r_aload_n (pc := 0) C dX1_fillBlock_0 rfl ?_
  refine r_getR (pc := 1) C dX1_fillBlock_1 fx_RX1_7 (hk' _) (hw' _) ?_
  refine r_iconst (pc := 4) C (nI 0) dX1_fillBlock_4 rfl ?_
  refine r_callS (pc := 5) C (ct_fill (r := 31) (n := 64) (kw' A) (by decide) (nw' A) (by decide)) iJ7_fill_53178 ml_RX1_46 dX1_fillBlock_5 rfl (by decide) rfl (by simp [cv, Value.category, va_rf]) (by omega) (by omega) (fun r5 S5 h5 => ?_)
  obtain ⟨rfl, e5⟩ := h5
  dsimp only [Option.toList, List.cons_append, List.nil_append]
  rw [dput_a, dput_pa, show filF A (nI 0) 64 = A0 from hA0] at e5
  subst e5
  refine r_iconst (pc := 8) C (nI 0) dX1_fillBlock_8 rfl ?_
  refine r_istore_n (pc := 9) C dX1_fillBlock_9 (by decide) rfl ?_
  exact r_lv C [(0, vr (some dg)), (1, vr (some ro)), (2, vi (nI m)), (3, vi (nI 0))] rfl (L 0 () (by omega) trivial)
theorem mixF_cls {H : Nat → Int32} {k w : Int32} : upd (upd (shF H 0) 4 (shF H 0 4 + (((H 7 + ((rot (H 4) (nI 6) ^^^ rot (H 4) (nI 11)) ^^^ rot (H 4) (nI 25))) + ((H 4 &&& H 5) ^^^ ((H 4 ^^^ (-1)) &&& H 6))) + (k + w)))) 0 (((((H 7 + ((rot (H 4) (nI 6) ^^^ rot (H 4) (nI 11)) ^^^ rot (H 4) (nI 25))) + ((H 4 &&& H 5) ^^^ ((H 4 ^^^ (-1)) &&& H 6))) + (k + w)) + mx2 H) + mx3 H) = mixF H k w := by
  unfold mixF mx1
  rw [← Int32.add_assoc (H 7 + _ + _) k w]
theorem cl_idOf {ro m : Nat} {tb : Nat → Nat} (hD : DG S dg wa ta) (hr : sK S ro = 22) (hm : m ≤ 55) (hn : sN S ro = m) (htb : ∀ i, i < m → aI S 22 ro i &&& nI 255 = nI (tb i)) : Sp l g mX1_idOf 0 0 [vr (some dg), vr (some ro)] S (fun r S' => r = some (vi (idv tb stT rdT m)) ∧ ∃ A B, S' = dput S wa ta A B) := by
  have hD0 := hD
  obtain ⟨hk, hw, ht, ⟨kw, nw⟩, kt, nt⟩ := hD
  have hk' : ∀ A B, sK (dput S wa ta A B) dg = 2 + 1 := fun _ _ => hk
  have hw' : ∀ A B, sR (dput S wa ta A B) 200 dg = some wa := fun _ _ => hw
  have kw' : ∀ A B, sK (dput S wa ta A B) wa = 31 := fun _ _ => kw
  have nw' : ∀ A B, sN (dput S wa ta A B) wa = 64 := fun _ _ => nw
  have ht' : ∀ A B, sR (dput S wa ta A B) 201 dg = some ta := fun _ _ => ht
  have kt' : ∀ A B, sK (dput S wa ta A B) ta = 32 := fun _ _ => kt
  have nt' : ∀ A B, sN (dput S wa ta A B) ta = 8 := fun _ _ => nt
  generalize hA0 : aI S 31 wa = A0
  generalize hB0 : aI S 32 ta = B0
  have hS : S = dput S wa ta A0 B0 := by rw [← hA0, ← hB0, dput_id]
  generalize hW0 : sch (blkE (fun i => nI (tb i)) (filF A0 0 64) m) 48 = W0
  generalize hH0 : va_cpy stT B0 0 0 8 = H0
  have hres : stT 0 + hN H0 rdT W0 64 0 = dig tb stT rdT m := by
    rw [← hsh_dig (T := fun i => nI (tb i)) (B := filF A0 0 64) (Hx := B0) hm (fun i hi => rfl)]
    unfold hsh
    refine congrArg (fun z => stT 0 + z) ?_
    refine agr_hN (fun j hj => ?_) (fun j hj => ?_) 64 (Nat.le_refl _) 0 (by omega)
    · rw [if_pos hj, ← hH0]
      unfold va_cpy
      rw [if_pos (by omega), Nat.sub_zero, Nat.zero_add]
    · rw [← hW0]
      refine agr_sch (agr_blkE (fun j hj => ?_) hm (fun i hi => rfl)) 48 j hj
      rw [if_pos hj]
      exact if_pos (by omega)
  refine Sp.start (own := RX1) [(0, vr (some dg)), (1, vr (some ro))] (by decide +kernel) rfl rfl (Nat.le_of_ble_eq_true rfl) ?_
  intro J C
  have L : ∀ i (u : Unit), i ≤ 64 → True → J 34 [(0, vr (some dg)), (3, vi (nI i))] [] (dput S wa ta W0 (hN H0 rdT W0 i)) 0 0 := by
    refine up_loop 64 _ _ ?_ ?_
    · intro u _
      refine r_iload_n (pc := 34) C dX1_idOf_34 rfl ?_
      refine r_bipush (pc := 35) C (nI 64) dX1_idOf_35 rfl ?_
      refine r_icmp_ge (pc := 37) (tgt := 62) C dX1_idOf_37 (by decide) (fun c37 => ?_) (fun c37 => ?_)
      · refine r_gets (pc := 62) C 1 (by omega) w_fl1 dX1_idOf_62 ?_
        refine r_iconst (pc := 65) C (nI 0) dX1_idOf_65 rfl ?_
        refine r_tald (pc := 66) C (i := 0) (f := stT) (fun U h => h.T1) (by omega) (by omega) dX1_idOf_66 ?_
        refine r_aload_n (pc := 67) C dX1_idOf_67 rfl ?_
        refine r_getR (pc := 68) C dX1_idOf_68 fx_RX1_13 (hk' _ _) (ht' _ _) ?_
        refine r_iconst (pc := 71) C (nI 0) dX1_idOf_71 rfl ?_
        refine r_iald (pc := 72) C dX1_idOf_72 (kt' _ _) (by decide) (nt' _ _) (by first | assumption | exact vp_in_nI (by omega) (by omega)) (by first | exact nI_clamp (by omega) | rfl) ?_
        rw [dput_b]
        refine r_iadd (pc := 73) C dX1_idOf_73 ?_
        refine r_ldc (pc := 74) C kc_RX1_45 dX1_idOf_74 ?_
        refine r_iand (pc := 76) C dX1_idOf_76 ?_
        refine r_iret (pc := 77) C dX1_idOf_77 rfl (by omega) (by omega) ?_
        exact ⟨by rw [hres]; rfl, _, _, rfl⟩
      · exact absurd (Int32.le_refl _) c37
    · intro i u hi _ ih
      refine r_iload_n (pc := 34) C dX1_idOf_34 rfl ?_
      refine r_bipush (pc := 35) C (nI 64) dX1_idOf_35 rfl ?_
      refine r_icmp_ge (pc := 37) (tgt := 62) C dX1_idOf_37 (by decide) (fun c37 => ?_) (fun c37 => ?_)
      · exact absurd c37 (nI_ge hi (by omega))
      · refine r_aload_n (pc := 40) C dX1_idOf_40 rfl ?_
        refine r_gets (pc := 41) C 2 (by omega) w_fl2 dX1_idOf_41 ?_
        refine r_iload_n (pc := 44) C dX1_idOf_44 rfl ?_
        refine r_tald (pc := 45) C (i := i) (f := rdT) (fun U h => h.T2) (by omega) hi dX1_idOf_45 ?_
        refine r_aload_n (pc := 46) C dX1_idOf_46 rfl ?_
        refine r_getR (pc := 47) C dX1_idOf_47 fx_RX1_7 (hk' _ _) (hw' _ _) ?_
        refine r_iload_n (pc := 50) C dX1_idOf_50 rfl ?_
        refine r_iald (pc := 51) C dX1_idOf_51 (kw' _ _) (by decide) (nw' _ _) (by first | assumption | exact vp_in_nI (by omega) (by omega)) (by first | exact nI_clamp (by omega) | rfl) ?_
        rw [dput_a]
        refine r_iadd (pc := 52) C dX1_idOf_52 ?_
        refine r_callV (pc := 53) C (cl_turn (A := W0) (B := hN H0 rdT W0 i) hD0) iX1_turn ml_RX1_41 dX1_idOf_53 (ci := 2) rfl rfl (hk' _ _) rfl (by decide) rfl (by simp [cv, Value.category, va_rf]) (by omega) (by omega) (fun r53 S53 h53 => ?_)
        obtain ⟨rfl, e53⟩ := h53
        dsimp only [Option.toList, List.cons_append, List.nil_append]
        rw [mixF_cls] at e53
        subst e53
        refine r_iinc (pc := 56) C _ dX1_idOf_56 rfl (nI_1 _) (by decide) rfl ?_
        refine r_goto (pc := 59) (tgt := 34) C dX1_idOf_59 (by decide) ?_
        exact r_lv C [(0, vr (some dg)), (3, vi (nI (i + 1)))] rfl (ih u trivial)
  rw [hS]
  refine r_aload_n (pc := 0) C dX1_idOf_0 rfl ?_
  refine r_alen (pc := 1) C dX1_idOf_1 (show sK (dput S wa ta A0 B0) ro = 22 from hr) (by first | decide | omega) ?_
  rw [show sN (dput S wa ta A0 B0) ro = m from hn]
  refine r_bipush (pc := 2) C (nI 55) dX1_idOf_2 rfl ?_
  refine r_mmin (pc := 4) C ml_RX1_16 dX1_idOf_4 (x := m) (y := 55) (by omega) (by omega) (by decide) (by simp [cv, Value.category, va_rf]; decide) (by omega) (by omega) ?_
  rw [show min m 55 = m by omega]
  refine r_istore_n (pc := 7) C dX1_idOf_7 (by decide) rfl ?_
  refine r_aload_n (pc := 8) C dX1_idOf_8 rfl ?_
  refine r_aload_n (pc := 9) C dX1_idOf_9 rfl ?_
  refine r_iload_n (pc := 10) C dX1_idOf_10 rfl ?_
  refine r_callV (pc := 11) C (cl_fillB (A := A0) (B := B0) hD0 hr hm hn htb) iX1_fillBlock ml_RX1_22 dX1_idOf_11 (ci := 2) rfl rfl (hk' _ _) rfl (by decide) rfl (by simp [cv, Value.category, va_rf]) (by omega) (by omega) (fun r11 S11 h11 => ?_)
  obtain ⟨rfl, e11⟩ := h11
  subst S11
  dsimp only [Option.toList, List.cons_append, List.nil_append]
  refine r_aload_n (pc := 14) C dX1_idOf_14 rfl ?_
  refine r_callV (pc := 15) C (cl_spread (B := B0) hD0) iX1_spreadBlock ml_RX1_26 dX1_idOf_15 (ci := 2) rfl rfl (hk' _ _) rfl (by decide) rfl (by simp [cv, Value.category, va_rf]) (by omega) (by omega) (fun r15 S15 h15 => ?_)
  obtain ⟨rfl, e15⟩ := h15
  subst S15
  dsimp only [Option.toList, List.cons_append, List.nil_append]
  rw [hW0]
  refine r_gets (pc := 18) C 1 (by omega) w_fl1 dX1_idOf_18 ?_
  refine r_iconst (pc := 21) C (nI 0) dX1_idOf_21 rfl ?_
  refine r_aload_n (pc := 22) C dX1_idOf_22 rfl ?_
  refine r_getR (pc := 23) C dX1_idOf_23 fx_RX1_13 (hk' _ _) (ht' _ _) ?_
  refine r_iconst (pc := 26) C (nI 0) dX1_idOf_26 rfl ?_
  refine r_bipush (pc := 27) C (nI 8) dX1_idOf_27 rfl ?_
  refine r_cpyT (pc := 29) C (n := 8) (f := stT) (fun U h => h.T1) w_acD dX1_idOf_29 (kt' _ _) (by decide) (by decide) (by decide) (by rw [nt']; omega) (by decide) (by simp; decide) ?_
  rw [dput_b, dput_pb, hH0]
  refine r_iconst (pc := 32) C (nI 0) dX1_idOf_32 rfl ?_
  refine r_istore_n (pc := 33) C dX1_idOf_33 (by decide) rfl ?_
  exact r_lv C [(0, vr (some dg)), (3, vi (nI 0))] rfl (L 0 () (by omega) trivial)
theorem cl_dinit (hk : sK S dg = 3) : Sp l g mX1_init 2 72 [vr (some dg)] S (fun r S' => r = none ∧ ∃ wa ta, sK S wa = 0 ∧ sK S ta = 0 ∧ wa ≠ ta ∧ S' = setR (newA (setR (newA S wa 31 64) 200 dg (some wa)) ta 32 8) 201 dg (some ta)) := by
  refine Sp.start (own := RX1) [(0, vr (some dg))] (by decide +kernel) rfl rfl (Nat.le_of_ble_eq_true rfl) ?_
  intro J C
  refine r_aload_n (pc := 0) C dX1_init_0 rfl ?_
  refine r_oinit (pc := 1) C dX1_init_1 ml_RX1_1 (by decide) (by decide) ?_
  refine r_aload_n (pc := 4) C dX1_init_4 rfl ?_
  refine r_bipush (pc := 5) C (nI 64) dX1_init_5 rfl ?_
  refine r_newa (pc := 7) C 31 dX1_init_7 rfl (by decide) (wd_at 53 (by decide +kernel) rfl) (nI_pos (by omega)) (nI_clamp (by omega)) (by omega) (by omega) (by omega) (fun q7 hq7 => ?_)
  refine r_putR (pc := 9) C dX1_init_9 fx_RX1_7 (fq_2_0 _ rfl rfl) (show sK (newA S q7 31 64) dg = 2 + 1 from by rw [sK_na (ne_kq hq7 (by omega))]; exact hk) ?_
  refine r_aload_n (pc := 12) C dX1_init_12 rfl ?_
  refine r_bipush (pc := 13) C (nI 8) dX1_init_13 rfl ?_
  refine r_newa (pc := 15) C 32 dX1_init_15 rfl (by decide) (wd_at 53 (by decide +kernel) rfl) (nI_pos (by omega)) (nI_clamp (by omega)) (by omega) (by omega) (by omega) (fun q15 hq15 => ?_)
  refine r_putR (pc := 17) C dX1_init_17 fx_RX1_13 (fq_2_1 _ rfl rfl) (show sK (newA (setR (newA S q7 31 64) 200 dg (some q7)) q15 32 8) dg = 2 + 1 from by rw [sK_na (ne_kq hq15 (show sK (newA S q7 31 64) dg ≠ 0 from by rw [sK_na (ne_kq hq7 (by omega))]; omega))]; show sK (newA S q7 31 64) dg = 3; rw [sK_na (ne_kq hq7 (by omega))]; exact hk) ?_
  refine r_ret (pc := 20) C dX1_init_20 rfl (by omega) (by omega) ?_
  have hne : q7 ≠ q15 := fun e => by
    rw [← e] at hq15
    have : sK (newA S q7 31 64) q7 = 31 := sK_nas
    rw [show sK (setR (newA S q7 31 64) 200 dg (some q7)) q7 = sK (newA S q7 31 64) q7 from rfl, this] at hq15
    cases hq15
  exact ⟨rfl, q7, q15, hq7, by rw [show sK (setR (newA S q7 31 64) 200 dg (some q7)) q15 = sK (newA S q7 31 64) q15 from rfl, sK_na hne.symm] at hq15; exact hq15, hne, rfl⟩
end Digest
