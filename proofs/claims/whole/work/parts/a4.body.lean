/-! The law: from its entry -/
section Body
variable {l : Launch} {g : GG} {J : JJ} {b L mi : Nat} {xs : Nat → Int32}
theorem law_body (C : Cx l g mL_law 600128 7301030 RL (fun _ _ => False) J) (hX : SX g b L xs) (hL : L ≤ 261) (hl : l.stackTraces = false) (hM : MIR g mi) (fin : ∀ S lv kc ns, kc ≤ 600128 → ns ≤ 7301030 → J 1124 lv [vi (nI 1)] S kc ns) : J 0 [(0, vr (some b))] [] hS0 0 0 := by
  refine r_new (pc := 0) C dL_law_0 (ci := 10) (n := 12) rfl kl_RL_8 rfl (by omega) (by omega) (fun q0 hq0 => ?_)
  refine r_dup (pc := 3) C dL_law_3 rfl ?_
  refine r_aload_n (pc := 4) C dL_law_4 rfl ?_
  refine r_iconst (pc := 5) C (nI 0) dL_law_5 rfl ?_
  refine r_callS (pc := 6) C (lw_cell (j := 0) hX hL (by omega)) iL_cell ml_RL_51 dL_law_6 rfl (by decide) rfl (by simp [cv, Value.category, va_rf]) (by omega) (by omega) (fun r6 S6 h6 => ?_)
  obtain ⟨rfl, e6⟩ := h6
  subst S6
  dsimp only [Option.toList, List.cons_append, List.nil_append]
  refine r_aload_n (pc := 9) C dL_law_9 rfl ?_
  refine r_iconst (pc := 10) C (nI 1) dL_law_10 rfl ?_
  refine r_callS (pc := 11) C (lw_cell (j := 1) hX hL (by omega)) iL_cell ml_RL_51 dL_law_11 rfl (by decide) rfl (by simp [cv, Value.category, va_rf]) (by omega) (by omega) (fun r11 S11 h11 => ?_)
  obtain ⟨rfl, e11⟩ := h11
  subst S11
  dsimp only [Option.toList, List.cons_append, List.nil_append]
  refine r_aload_n (pc := 14) C dL_law_14 rfl ?_
  refine r_iconst (pc := 15) C (nI 2) dL_law_15 rfl ?_
  refine r_callS (pc := 16) C (lw_cell (j := 2) hX hL (by omega)) iL_cell ml_RL_51 dL_law_16 rfl (by decide) rfl (by simp [cv, Value.category, va_rf]) (by omega) (by omega) (fun r16 S16 h16 => ?_)
  obtain ⟨rfl, e16⟩ := h16
  subst S16
  dsimp only [Option.toList, List.cons_append, List.nil_append]
  refine r_aload_n (pc := 19) C dL_law_19 rfl ?_
  refine r_iconst (pc := 20) C (nI 3) dL_law_20 rfl ?_
  refine r_callS (pc := 21) C (lw_cell (j := 3) hX hL (by omega)) iL_cell ml_RL_51 dL_law_21 rfl (by decide) rfl (by simp [cv, Value.category, va_rf]) (by omega) (by omega) (fun r21 S21 h21 => ?_)
  obtain ⟨rfl, e21⟩ := h21
  subst S21
  dsimp only [Option.toList, List.cons_append, List.nil_append]
  refine r_aload_n (pc := 24) C dL_law_24 rfl ?_
  refine r_iconst (pc := 25) C (nI 4) dL_law_25 rfl ?_
  refine r_callS (pc := 26) C (lw_cell (j := 4) hX hL (by omega)) iL_cell ml_RL_51 dL_law_26 rfl (by decide) rfl (by simp [cv, Value.category, va_rf]) (by omega) (by omega) (fun r26 S26 h26 => ?_)
  obtain ⟨rfl, e26⟩ := h26
  subst S26
  dsimp only [Option.toList, List.cons_append, List.nil_append]
  refine r_callI (pc := 29) C (cx_init hM (sK_nos (S := hS0) (q := q0) (k := 11))) iX9_init ml_RL_57 dL_law_29 rfl (by decide) rfl (by simp [cv, Value.category, va_rf]) (by omega) (by omega) (fun r29 S29 h29 => ?_)
  obtain ⟨rfl, pe, tp, dg, go, po, ch, T, O, hN, hE, hT, hD, hC, hLl, hH⟩ := h29
  dsimp only [Option.toList, List.cons_append, List.nil_append]
  refine r_astore_n (pc := 32) C dL_law_32 (by decide) rfl ?_
  refine r_new (pc := 33) C dL_law_33 (ci := 11) (n := 44) rfl kl_RL_60 rfl (by omega) (by omega) (fun q33 hq33 => ?_)
  refine r_dup (pc := 36) C dL_law_36 rfl ?_
  refine r_aload_n (pc := 37) C dL_law_37 rfl ?_
  refine r_iconst (pc := 38) C (nI 0) dL_law_38 rfl ?_
  refine r_callS (pc := 39) C (lw_cell (j := 0) hX hL (by omega)) iL_cell ml_RL_51 dL_law_39 rfl (by decide) rfl (by simp [cv, Value.category, va_rf]) (by omega) (by omega) (fun r39 S39 h39 => ?_)
  obtain ⟨rfl, e39⟩ := h39
  subst S39
  dsimp only [Option.toList, List.cons_append, List.nil_append]
  refine r_aload_n (pc := 42) C dL_law_42 rfl ?_
  refine r_iconst (pc := 43) C (nI 1) dL_law_43 rfl ?_
  refine r_callS (pc := 44) C (lw_cell (j := 1) hX hL (by omega)) iL_cell ml_RL_51 dL_law_44 rfl (by decide) rfl (by simp [cv, Value.category, va_rf]) (by omega) (by omega) (fun r44 S44 h44 => ?_)
  obtain ⟨rfl, e44⟩ := h44
  subst S44
  dsimp only [Option.toList, List.cons_append, List.nil_append]
  refine r_aload_n (pc := 47) C dL_law_47 rfl ?_
  refine r_iconst (pc := 48) C (nI 2) dL_law_48 rfl ?_
  refine r_callS (pc := 49) C (lw_cell (j := 2) hX hL (by omega)) iL_cell ml_RL_51 dL_law_49 rfl (by decide) rfl (by simp [cv, Value.category, va_rf]) (by omega) (by omega) (fun r49 S49 h49 => ?_)
  obtain ⟨rfl, e49⟩ := h49
  subst S49
  dsimp only [Option.toList, List.cons_append, List.nil_append]
  refine r_aload_n (pc := 52) C dL_law_52 rfl ?_
  refine r_iconst (pc := 53) C (nI 3) dL_law_53 rfl ?_
  refine r_callS (pc := 54) C (lw_cell (j := 3) hX hL (by omega)) iL_cell ml_RL_51 dL_law_54 rfl (by decide) rfl (by simp [cv, Value.category, va_rf]) (by omega) (by omega) (fun r54 S54 h54 => ?_)
  obtain ⟨rfl, e54⟩ := h54
  subst S54
  dsimp only [Option.toList, List.cons_append, List.nil_append]
  refine r_aload_n (pc := 57) C dL_law_57 rfl ?_
  refine r_iconst (pc := 58) C (nI 4) dL_law_58 rfl ?_
  refine r_callS (pc := 59) C (lw_cell (j := 4) hX hL (by omega)) iL_cell ml_RL_51 dL_law_59 rfl (by decide) rfl (by simp [cv, Value.category, va_rf]) (by omega) (by omega) (fun r59 S59 h59 => ?_)
  obtain ⟨rfl, e59⟩ := h59
  subst S59
  dsimp only [Option.toList, List.cons_append, List.nil_append]
  refine r_callI (pc := 62) C (cm_mctor (sK_nos (S := S29) (q := q33) (k := 12)) (by funext y; exact sI_nos) (by show sJ (newO S29 q33 12) 1101 q33 = 0; exact if_pos rfl)) iX10_init ml_RL_62 dL_law_62 rfl (by decide) rfl (by simp [cv, Value.category, va_rf]) (by omega) (by omega) (fun r62 S62 h62 => ?_)
  obtain ⟨rfl, hXm, hFz⟩ := h62
  dsimp only [Option.toList, List.cons_append, List.nil_append]
  refine r_astore_n (pc := 65) C dL_law_65 (by decide) rfl ?_
  refine r_iconst (pc := 66) C (nI 1) dL_law_66 rfl ?_
  refine r_newa (pc := 67) C 81 dL_law_67 rfl (by decide) (wd_at 244 (by decide +kernel) rfl) (nI_pos (by omega)) (nI_clamp (by omega)) (by omega) (by omega) (by omega) (fun q67 hq67 => ?_)
  refine r_astore_n (pc := 69) C dL_law_69 (by decide) rfl ?_
  refine r_iconst (pc := 70) C (nI (5 + 4 * 0)) dL_law_70 rfl ?_
  refine r_istore (pc := 71) C dL_law_71 (by decide) rfl ?_
  have f1 : Fx S29 S62 := (Fx.no hq33).z hq33 hFz
  have f2 : Fx S62 (newA S62 q67 81 1) := Fx.na hq67
  have cB : CB g S29 q0 pe tp dg go po ch T O M0 Fi0 (G0 (cel L xs 1) (cel L xs 2) (cel L xs 3) (cel L xs 4)) (cel L xs 0).toInt64 1 1 1 (pK (cel L xs 1)) [] (fun _ => 0) := ⟨hN, hE, hT, hD, hC, hLl, hH⟩
  have cB2 := cB.mv (L := []) pi_0.1.1 ((f1.tr f2).ag) (fun i _ => by simp)
  have hX2 := hXm.kp (po := po) (L := []) (f2.ag) (by decide)
  exact r_lv C [(0, vr (some b)), (1, vr (some q0)), (2, vr (some q33)), (3, vr (some q67)), (4, vi (nI (5 + 4 * 0)))] rfl (law_loop C hX hL hl hM fin 65 0 _ _ _ (by omega) ⟨pe, tp, dg, go, po, ch, T, O, M0, Fi0, _, _, 1, 1, 1, _, _, 0, [], fun _ => 0, cB2, hX2, ⟨sK_nas (n := 1), sN_nas (k := 81)⟩, pv_0⟩ (by omega) (by omega))
end Body
