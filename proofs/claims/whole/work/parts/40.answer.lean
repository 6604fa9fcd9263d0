/-! The reference: sampled, answer, expire -/
/-- what is thrown, what is returned -/
def sdR (M F : MM) (k : Nat) (x y : Int32) : Nat × Int32 := match plc (F 25) x with
  | none => (1, nI 0)
  | some p => if y = -1 then (0, M 10 (F 26 p).toNatClampNeg) else if y < 0 ∨ nI k ≤ y then (1, nI 0) else (0, F 27 (10 * p + y.toNatClampNeg))
def anJ (F : MM) (k : Nat) (o : Option Nat) (peer : Int32) : Option Nat := match o with
  | none => none
  | some p => lastU (fun i => decide (F 27 (10 * p + i) = peer)) k
theorem plc_lt {f : Nat → Int32} {x : Int32} {p : Nat} (h : plc f x = some p) : p < 6 ∧ f p = x ∧ ¬ x < 0 := by
  unfold plc at h
  split at h
  · cases h
  · next e =>
    obtain ⟨h1, h2⟩ := lastU_lt h
    exact ⟨h1, by simpa using h2, e⟩
section Answer
variable {l : Launch} {g : GG} {S : hS} {mo : Nat} {M F : MM} {G : Nat → Int32} {X : Int64} {n h : Nat} {Post : Option AV → hS → Prop} {J : JJ}
theorem cm_sampled {x y : Int32} {k : Nat} (hX : MX S mo M F G X n h) (hk : G 2 = nI k) (hk2 : k ≤ 10) (hA : ∀ p, p < 6 → ¬ F 25 p < 0 → ∃ t, t < n ∧ F 26 p = nI t) : Sp l g mX10_sampled 0 0 [vr (some mo), vi x, vi y] S (fun r S' => r = some (vi (sdR M F k x y).2) ∧ MX S' mo M F (upd G 0 (nI (sdR M F k x y).1)) X n h ∧ Rf S S' mo) := by
  have hV := hX.V
  have hC0 : Gch S S mo (Gs S mo) := Gc.rf
  rw [hX.gg] at hC0
  have hn2 := hV.G.1
  generalize hRR : sdR M F k x y = R
  cases hp : plc (F 25) x with
  | none =>
    have e : (1, nI 0) = R := by rw [← hRR]; simp only [sdR, hp]
    subst e
    refine Sp.start (own := RX10) [(0, vr (some mo)), (1, vi x), (2, vi y)] (by decide +kernel) rfl rfl (Nat.le_of_ble_eq_true rfl) ?_
    intro J C
    refine r_aload_n (pc := 0) C dX10_sampled_0 rfl ?_
    refine r_iload_n (pc := 1) C dX10_sampled_1 rfl ?_
    refine r_callV (pc := 2) C (cm_placeOf hV) iX10_placeOf ml_RX10_303 dX10_sampled_2 (ci := 11) rfl rfl hV.1.1 rfl (by decide) rfl (by simp [cv, Value.category, va_rf]) (by omega) (by omega) (fun r2 S2 h2 => ?_)
    obtain ⟨rfl, e2⟩ := h2
    subst S2
    dsimp only [Option.toList, List.cons_append, List.nil_append]
    rw [hX.f (by decide), hp]
    refine r_istore_n (pc := 5) C dX10_sampled_5 (by decide) rfl ?_
    refine r_aload_n (pc := 6) C dX10_sampled_6 rfl ?_
    refine r_iload_n (pc := 7) C dX10_sampled_7 rfl ?_
    refine r_if_lt (pc := 8) (tgt := 24) C dX10_sampled_8 (by decide) (fun c8 => ?_) (fun c8 => ?_)
    · refine r_iconst (pc := 24) C (nI 1) dX10_sampled_24 rfl ?_
      refine r_goto (pc := 25) (tgt := 29) C dX10_sampled_25 (by decide) ?_
      refine r_mP (pc := 29) (k := 0) C hV dX10_sampled_29 fx_RX10_145 (fp_11_0 _) (by decide) (fun S29 hC29 hV29 => ?_)
      have hC29r := hC29
      have hC29 := hC0.trs hC29
      refine r_aload_n (pc := 32) C dX10_sampled_32 rfl ?_
      refine r_mI (pc := 33) (k := 0) C hV29 dX10_sampled_33 fx_RX10_145 ?_
      rw [show Gs _ mo 0 = nI 1 from by rw [hC29.gs]; simp [upd]]
      refine r_if_le (pc := 36) (tgt := 41) C dX10_sampled_36 (by decide) (fun c36 => ?_) (fun c36 => ?_)
      · exact absurd c36 (by decide)
      · refine r_iconst (pc := 39) C (nI 0) dX10_sampled_39 rfl ?_
        refine r_iret (pc := 40) C dX10_sampled_40 rfl (by omega) (by omega) ?_
        exact ⟨rfl, hX.fin0 hC29 hV29⟩
    · exact absurd (show oI (none : Option Nat) < 0 by decide) c8
  | some p =>
    obtain ⟨hp6, hpx, hx0⟩ := plc_lt hp
    obtain ⟨t, htn, ht⟩ := hA p hp6 (by rw [hpx]; exact hx0)
    have eR : (if y = -1 then (0, M 10 t) else if y < 0 ∨ nI k ≤ y then (1, nI 0) else (0, F 27 (10 * p + y.toNatClampNeg))) = R := by
      rw [← hRR]
      simp only [sdR, hp, ht, nI_clamp (show t < 2 ^ 31 by omega)]
    have hm1 : (-1 : Int32) < nI k := Int32.lt_of_lt_of_le (by decide) (nI_pos' (show k < 2 ^ 31 by omega))
    refine Sp.start (own := RX10) [(0, vr (some mo)), (1, vi x), (2, vi y)] (by decide +kernel) rfl rfl (Nat.le_of_ble_eq_true rfl) ?_
    intro J C
    by_cases hy1 : y = -1
    · subst hy1
      rw [if_pos rfl] at eR
      subst eR
      refine r_aload_n (pc := 0) C dX10_sampled_0 rfl ?_
      refine r_iload_n (pc := 1) C dX10_sampled_1 rfl ?_
      refine r_callV (pc := 2) C (cm_placeOf hV) iX10_placeOf ml_RX10_303 dX10_sampled_2 (ci := 11) rfl rfl hV.1.1 rfl (by decide) rfl (by simp [cv, Value.category, va_rf]) (by omega) (by omega) (fun r2 S2 h2 => ?_)
      obtain ⟨rfl, e2⟩ := h2
      subst S2
      dsimp only [Option.toList, List.cons_append, List.nil_append]
      rw [hX.f (by decide), hp]
      dsimp only [oI]
      refine r_istore_n (pc := 5) C dX10_sampled_5 (by decide) rfl ?_
      refine r_aload_n (pc := 6) C dX10_sampled_6 rfl ?_
      refine r_iload_n (pc := 7) C dX10_sampled_7 rfl ?_
      refine r_if_lt (pc := 8) (tgt := 24) C dX10_sampled_8 (by decide) (fun c8 => ?_) (fun c8 => ?_)
      · exact absurd c8 (nI_pos (by omega))
      · refine r_iload_n (pc := 11) C dX10_sampled_11 rfl ?_
        refine r_iconst (pc := 12) C (-1) dX10_sampled_12 rfl ?_
        refine r_icmp_lt (pc := 13) (tgt := 24) C dX10_sampled_13 (by decide) (fun c13 => ?_) (fun c13 => ?_)
        · exact absurd c13 (by decide)
        · refine r_iload_n (pc := 16) C dX10_sampled_16 rfl ?_
          refine r_aload_n (pc := 17) C dX10_sampled_17 rfl ?_
          refine r_mI (pc := 18) (k := 2) C hV dX10_sampled_18 fx_RX10_122 ?_
          rw [hC0.gs, hk]
          refine r_icmp_lt (pc := 21) (tgt := 28) C dX10_sampled_21 (by decide) (fun c21 => ?_) (fun c21 => ?_)
          · refine r_iconst (pc := 28) C (nI 0) dX10_sampled_28 rfl ?_
            refine r_mP (pc := 29) (k := 0) C hV dX10_sampled_29 fx_RX10_145 (fp_11_0 _) (by decide) (fun S29 hC29 hV29 => ?_)
            have hC29r := hC29
            have hC29 := hC0.trs hC29
            refine r_aload_n (pc := 32) C dX10_sampled_32 rfl ?_
            refine r_mI (pc := 33) (k := 0) C hV29 dX10_sampled_33 fx_RX10_145 ?_
            rw [show Gs _ mo 0 = nI 0 from by rw [hC29.gs]; rfl]
            refine r_if_le (pc := 36) (tgt := 41) C dX10_sampled_36 (by decide) (fun c36 => ?_) (fun c36 => ?_)
            · refine r_iload_n (pc := 41) C dX10_sampled_41 rfl ?_
              refine r_iconst (pc := 42) C (-1) dX10_sampled_42 rfl ?_
              refine r_icmp_ne (pc := 43) (tgt := 60) C dX10_sampled_43 (by decide) (fun c43 => ?_) (fun c43 => ?_)
              · exact absurd rfl c43
              · refine r_aload_n (pc := 46) C dX10_sampled_46 rfl ?_
                refine r_mA (pc := 47) C hV29 dX10_sampled_47 fx_RX10_20 (len := 140) (by decide) ?_
                refine r_aload_n (pc := 50) C dX10_sampled_50 rfl ?_
                refine r_mA (pc := 51) C hV29 dX10_sampled_51 fx_RX10_70 (len := 6) (by decide) ?_
                refine r_iload_n (pc := 54) C dX10_sampled_54 rfl ?_
                refine r_xL (pc := 55) C hV29 dX10_sampled_55 (k := 26) (len := 6) (by decide) (by decide) (by omega) (by decide) ?_
                rw [hC29.keep (k := 26) (by decide) (by decide) (by decide), hX.f (by decide), ht]
                refine r_mL (pc := 56) C hV29 dX10_sampled_56 (k := 10) (len := 140) (by decide) (by decide) (by decide) (by omega) (by decide) ?_
                refine r_goto (pc := 57) (tgt := 71) C dX10_sampled_57 (by decide) ?_
                refine r_iret (pc := 71) C dX10_sampled_71 rfl (by omega) (by omega) ?_
                exact ⟨rfl, hX.fin0 hC29 hV29⟩
            · exact absurd (by decide) c36
          · exact absurd hm1 c21
    · rw [if_neg hy1] at eR
      rcases pk_ix y (n := k) (by omega) with h0 | h0 | ⟨j, hj, rfl⟩
      · rw [if_pos (Or.inl h0)] at eR
        subst eR
        have hlt : y < -1 := by
          have h1 : y.toInt < 0 := Int32.lt_iff_toInt_lt.mp h0
          have h2 : y.toInt ≠ -1 := fun q => hy1 (Int32.toInt_inj.mp q)
          exact Int32.lt_iff_toInt_lt.mpr (by have : (-1 : Int32).toInt = -1 := by decide
                                              rw [this]; omega)
        refine r_aload_n (pc := 0) C dX10_sampled_0 rfl ?_
        refine r_iload_n (pc := 1) C dX10_sampled_1 rfl ?_
        refine r_callV (pc := 2) C (cm_placeOf hV) iX10_placeOf ml_RX10_303 dX10_sampled_2 (ci := 11) rfl rfl hV.1.1 rfl (by decide) rfl (by simp [cv, Value.category, va_rf]) (by omega) (by omega) (fun r2 S2 h2 => ?_)
        obtain ⟨rfl, e2⟩ := h2
        subst S2
        dsimp only [Option.toList, List.cons_append, List.nil_append]
        rw [hX.f (by decide), hp]
        dsimp only [oI]
        refine r_istore_n (pc := 5) C dX10_sampled_5 (by decide) rfl ?_
        refine r_aload_n (pc := 6) C dX10_sampled_6 rfl ?_
        refine r_iload_n (pc := 7) C dX10_sampled_7 rfl ?_
        refine r_if_lt (pc := 8) (tgt := 24) C dX10_sampled_8 (by decide) (fun c8 => ?_) (fun c8 => ?_)
        · exact absurd c8 (nI_pos (by omega))
        · refine r_iload_n (pc := 11) C dX10_sampled_11 rfl ?_
          refine r_iconst (pc := 12) C (-1) dX10_sampled_12 rfl ?_
          refine r_icmp_lt (pc := 13) (tgt := 24) C dX10_sampled_13 (by decide) (fun c13 => ?_) (fun c13 => ?_)
          · refine r_iconst (pc := 24) C (nI 1) dX10_sampled_24 rfl ?_
            refine r_goto (pc := 25) (tgt := 29) C dX10_sampled_25 (by decide) ?_
            refine r_mP (pc := 29) (k := 0) C hV dX10_sampled_29 fx_RX10_145 (fp_11_0 _) (by decide) (fun S29 hC29 hV29 => ?_)
            have hC29r := hC29
            have hC29 := hC0.trs hC29
            refine r_aload_n (pc := 32) C dX10_sampled_32 rfl ?_
            refine r_mI (pc := 33) (k := 0) C hV29 dX10_sampled_33 fx_RX10_145 ?_
            rw [show Gs _ mo 0 = nI 1 from by rw [hC29.gs]; rfl]
            refine r_if_le (pc := 36) (tgt := 41) C dX10_sampled_36 (by decide) (fun c36 => ?_) (fun c36 => ?_)
            · exact absurd c36 (by decide)
            · refine r_iconst (pc := 39) C (nI 0) dX10_sampled_39 rfl ?_
              refine r_iret (pc := 40) C dX10_sampled_40 rfl (by omega) (by omega) ?_
              exact ⟨rfl, hX.fin0 hC29 hV29⟩
          · exact absurd hlt c13
      · rw [if_pos (Or.inr h0)] at eR
        subst eR
        refine r_aload_n (pc := 0) C dX10_sampled_0 rfl ?_
        refine r_iload_n (pc := 1) C dX10_sampled_1 rfl ?_
        refine r_callV (pc := 2) C (cm_placeOf hV) iX10_placeOf ml_RX10_303 dX10_sampled_2 (ci := 11) rfl rfl hV.1.1 rfl (by decide) rfl (by simp [cv, Value.category, va_rf]) (by omega) (by omega) (fun r2 S2 h2 => ?_)
        obtain ⟨rfl, e2⟩ := h2
        subst S2
        dsimp only [Option.toList, List.cons_append, List.nil_append]
        rw [hX.f (by decide), hp]
        dsimp only [oI]
        refine r_istore_n (pc := 5) C dX10_sampled_5 (by decide) rfl ?_
        refine r_aload_n (pc := 6) C dX10_sampled_6 rfl ?_
        refine r_iload_n (pc := 7) C dX10_sampled_7 rfl ?_
        refine r_if_lt (pc := 8) (tgt := 24) C dX10_sampled_8 (by decide) (fun c8 => ?_) (fun c8 => ?_)
        · exact absurd c8 (nI_pos (by omega))
        · refine r_iload_n (pc := 11) C dX10_sampled_11 rfl ?_
          refine r_iconst (pc := 12) C (-1) dX10_sampled_12 rfl ?_
          refine r_icmp_lt (pc := 13) (tgt := 24) C dX10_sampled_13 (by decide) (fun c13 => ?_) (fun c13 => ?_)
          · refine r_iconst (pc := 24) C (nI 1) dX10_sampled_24 rfl ?_
            refine r_goto (pc := 25) (tgt := 29) C dX10_sampled_25 (by decide) ?_
            refine r_mP (pc := 29) (k := 0) C hV dX10_sampled_29 fx_RX10_145 (fp_11_0 _) (by decide) (fun S29 hC29 hV29 => ?_)
            have hC29r := hC29
            have hC29 := hC0.trs hC29
            refine r_aload_n (pc := 32) C dX10_sampled_32 rfl ?_
            refine r_mI (pc := 33) (k := 0) C hV29 dX10_sampled_33 fx_RX10_145 ?_
            rw [show Gs _ mo 0 = nI 1 from by rw [hC29.gs]; rfl]
            refine r_if_le (pc := 36) (tgt := 41) C dX10_sampled_36 (by decide) (fun c36 => ?_) (fun c36 => ?_)
            · exact absurd c36 (by decide)
            · refine r_iconst (pc := 39) C (nI 0) dX10_sampled_39 rfl ?_
              refine r_iret (pc := 40) C dX10_sampled_40 rfl (by omega) (by omega) ?_
              exact ⟨rfl, hX.fin0 hC29 hV29⟩
          · refine r_iload_n (pc := 16) C dX10_sampled_16 rfl ?_
            refine r_aload_n (pc := 17) C dX10_sampled_17 rfl ?_
            refine r_mI (pc := 18) (k := 2) C hV dX10_sampled_18 fx_RX10_122 ?_
            rw [hC0.gs, hk]
            refine r_icmp_lt (pc := 21) (tgt := 28) C dX10_sampled_21 (by decide) (fun c21 => ?_) (fun c21 => ?_)
            · exact absurd c21 (Int32.not_lt.mpr h0)
            · refine r_iconst (pc := 24) C (nI 1) dX10_sampled_24 rfl ?_
              refine r_goto (pc := 25) (tgt := 29) C dX10_sampled_25 (by decide) ?_
              refine r_mP (pc := 29) (k := 0) C hV dX10_sampled_29 fx_RX10_145 (fp_11_0 _) (by decide) (fun S29 hC29 hV29 => ?_)
              have hC29r := hC29
              have hC29 := hC0.trs hC29
              refine r_aload_n (pc := 32) C dX10_sampled_32 rfl ?_
              refine r_mI (pc := 33) (k := 0) C hV29 dX10_sampled_33 fx_RX10_145 ?_
              rw [show Gs _ mo 0 = nI 1 from by rw [hC29.gs]; rfl]
              refine r_if_le (pc := 36) (tgt := 41) C dX10_sampled_36 (by decide) (fun c36 => ?_) (fun c36 => ?_)
              · exact absurd c36 (by decide)
              · refine r_iconst (pc := 39) C (nI 0) dX10_sampled_39 rfl ?_
                refine r_iret (pc := 40) C dX10_sampled_40 rfl (by omega) (by omega) ?_
                exact ⟨rfl, hX.fin0 hC29 hV29⟩
      · rw [if_neg (fun q => q.elim (nI_pos (by omega)) (nI_ge hj (by omega))), nI_clamp (by omega)] at eR
        subst eR
        refine r_aload_n (pc := 0) C dX10_sampled_0 rfl ?_
        refine r_iload_n (pc := 1) C dX10_sampled_1 rfl ?_
        refine r_callV (pc := 2) C (cm_placeOf hV) iX10_placeOf ml_RX10_303 dX10_sampled_2 (ci := 11) rfl rfl hV.1.1 rfl (by decide) rfl (by simp [cv, Value.category, va_rf]) (by omega) (by omega) (fun r2 S2 h2 => ?_)
        obtain ⟨rfl, e2⟩ := h2
        subst S2
        dsimp only [Option.toList, List.cons_append, List.nil_append]
        rw [hX.f (by decide), hp]
        dsimp only [oI]
        refine r_istore_n (pc := 5) C dX10_sampled_5 (by decide) rfl ?_
        refine r_aload_n (pc := 6) C dX10_sampled_6 rfl ?_
        refine r_iload_n (pc := 7) C dX10_sampled_7 rfl ?_
        refine r_if_lt (pc := 8) (tgt := 24) C dX10_sampled_8 (by decide) (fun c8 => ?_) (fun c8 => ?_)
        · exact absurd c8 (nI_pos (by omega))
        · refine r_iload_n (pc := 11) C dX10_sampled_11 rfl ?_
          refine r_iconst (pc := 12) C (-1) dX10_sampled_12 rfl ?_
          refine r_icmp_lt (pc := 13) (tgt := 24) C dX10_sampled_13 (by decide) (fun c13 => ?_) (fun c13 => ?_)
          · exact absurd (Int32.lt_trans c13 (by decide)) (nI_pos (n := j) (by omega))
          · refine r_iload_n (pc := 16) C dX10_sampled_16 rfl ?_
            refine r_aload_n (pc := 17) C dX10_sampled_17 rfl ?_
            refine r_mI (pc := 18) (k := 2) C hV dX10_sampled_18 fx_RX10_122 ?_
            rw [hC0.gs, hk]
            refine r_icmp_lt (pc := 21) (tgt := 28) C dX10_sampled_21 (by decide) (fun c21 => ?_) (fun c21 => ?_)
            · refine r_iconst (pc := 28) C (nI 0) dX10_sampled_28 rfl ?_
              refine r_mP (pc := 29) (k := 0) C hV dX10_sampled_29 fx_RX10_145 (fp_11_0 _) (by decide) (fun S29 hC29 hV29 => ?_)
              have hC29r := hC29
              have hC29 := hC0.trs hC29
              refine r_aload_n (pc := 32) C dX10_sampled_32 rfl ?_
              refine r_mI (pc := 33) (k := 0) C hV29 dX10_sampled_33 fx_RX10_145 ?_
              rw [show Gs _ mo 0 = nI 0 from by rw [hC29.gs]; rfl]
              refine r_if_le (pc := 36) (tgt := 41) C dX10_sampled_36 (by decide) (fun c36 => ?_) (fun c36 => ?_)
              · refine r_iload_n (pc := 41) C dX10_sampled_41 rfl ?_
                refine r_iconst (pc := 42) C (-1) dX10_sampled_42 rfl ?_
                refine r_icmp_ne (pc := 43) (tgt := 60) C dX10_sampled_43 (by decide) (fun c43 => ?_) (fun c43 => ?_)
                · refine r_aload_n (pc := 60) C dX10_sampled_60 rfl ?_
                  refine r_mA (pc := 61) C hV29 dX10_sampled_61 fx_RX10_73 (len := 60) (by decide) ?_
                  refine r_bipush (pc := 64) C (nI 10) dX10_sampled_64 rfl ?_
                  refine r_iload_n (pc := 66) C dX10_sampled_66 rfl ?_
                  refine r_imul (pc := 67) C dX10_sampled_67 ?_
                  try simp only [nI_add, pk_mul]
                  refine r_iload_n (pc := 68) C dX10_sampled_68 rfl ?_
                  refine r_iadd (pc := 69) C dX10_sampled_69 ?_
                  try simp only [nI_add, pk_mul]
                  refine r_xL (pc := 70) C hV29 dX10_sampled_70 (k := 27) (len := 60) (by decide) (by decide) (by omega) (by decide) ?_
                  rw [hC29.keep (k := 27) (by decide) (by decide) (by decide), hX.f (by decide)]
                  refine r_iret (pc := 71) C dX10_sampled_71 rfl (by omega) (by omega) ?_
                  exact ⟨rfl, hX.fin0 hC29 hV29⟩
                · exact absurd c43 hy1
              · exact absurd (by decide) c36
            · exact absurd (nI_lt hj (by omega)) c21

theorem cm_said {p k : Nat} {w : Int32} (hV : MV S mo M n h) (hk : Gs S mo 2 = nI k) (hk2 : k ≤ 10) (hp : p < 6) : Sp l g mX10_said 0 0 [vr (some mo), vi (nI p), vi w] S (fun r S' => r = some (vi (nI (sdn (mI S mo 28) p k w))) ∧ S' = S) := by
  have hC0 : Gch S S mo (Gs S mo) := Gc.rf
  refine Sp.start (own := RX10) [(0, vr (some mo)), (1, vi (nI p)), (2, vi w)] (by decide +kernel) rfl rfl (Nat.le_of_ble_eq_true rfl) ?_
  intro J C
  have L : ∀ i x, i ≤ k → x = nI (cntU (fun j => decide (mI S mo 28 (10 * p + j) = w)) i) → J 5 [(0, vr (some mo)), (1, vi (nI p)), (2, vi w), (3, vi x), (4, vi (nI i))] [] S 0 0 := by
    refine up_loop _ _ _ ?_ ?_
    · intro x hx
      refine r_iload (pc := 5) C dX10_said_5 rfl ?_
      refine r_aload_n (pc := 7) C dX10_said_7 rfl ?_
      refine r_mI (pc := 8) (k := 2) C hV dX10_said_8 fx_RX10_122 ?_
      rw [hk]
      refine r_icmp_ge (pc := 11) (tgt := 44) C dX10_said_11 (by decide) (fun c11 => ?_) (fun c11 => ?_)
      · refine r_iload_n (pc := 44) C dX10_said_44 rfl ?_
        refine r_iret (pc := 45) C dX10_said_45 rfl (by omega) (by omega) ?_
        exact ⟨by rw [hx]; rfl, rfl⟩
      · exact absurd (Int32.le_refl _) c11
    · intro i x hi hx ih
      subst hx
      refine r_iload (pc := 5) C dX10_said_5 rfl ?_
      refine r_aload_n (pc := 7) C dX10_said_7 rfl ?_
      refine r_mI (pc := 8) (k := 2) C hV dX10_said_8 fx_RX10_122 ?_
      rw [hk]
      refine r_icmp_ge (pc := 11) (tgt := 44) C dX10_said_11 (by decide) (fun c11 => ?_) (fun c11 => ?_)
      · exact absurd c11 (nI_ge hi (by omega))
      · refine r_iload_n (pc := 14) C dX10_said_14 rfl ?_
        refine r_aload_n (pc := 15) C dX10_said_15 rfl ?_
        refine r_mA (pc := 16) C hV dX10_said_16 fx_RX10_76 (len := 60) (by decide) ?_
        refine r_bipush (pc := 19) C (nI 10) dX10_said_19 rfl ?_
        refine r_iload_n (pc := 21) C dX10_said_21 rfl ?_
        refine r_imul (pc := 22) C dX10_said_22 ?_
        try simp only [nI_add, pk_mul]
        refine r_iload (pc := 23) C dX10_said_23 rfl ?_
        refine r_iadd (pc := 25) C dX10_said_25 ?_
        try simp only [nI_add, pk_mul]
        refine r_xL (pc := 26) C hV dX10_said_26 (k := 28) (len := 60) (by decide) (by decide) (by omega) (by decide) ?_
        refine r_iload_n (pc := 27) C dX10_said_27 rfl ?_
        refine r_icmp_ne (pc := 28) (tgt := 35) C dX10_said_28 (by decide) (fun c28 => ?_) (fun c28 => ?_)
        · have hv2 := cntU_f (f := fun j => decide (mI S mo 28 (10 * p + j) = w)) (n := i) (decide_eq_false c28)
          refine r_iconst (pc := 35) C (nI 0) dX10_said_35 rfl ?_
          refine r_iadd (pc := 36) C dX10_said_36 ?_
          try simp only [nI_add, pk_mul]
          refine r_istore_n (pc := 37) C dX10_said_37 (by decide) rfl ?_
          refine r_iinc (pc := 38) C _ dX10_said_38 rfl (nI_1 _) (by decide) rfl ?_
          refine r_goto (pc := 41) (tgt := 5) C dX10_said_41 (by decide) ?_
          exact r_lv C [(0, vr (some mo)), (1, vi (nI p)), (2, vi w), (3, vi _), (4, vi (nI (i + 1)))] rfl (ih _ (by rw [hv2]))
        · have hv2 := cntU_t (f := fun j => decide (mI S mo 28 (10 * p + j) = w)) (n := i) (decide_eq_true c28)
          refine r_iconst (pc := 31) C (nI 1) dX10_said_31 rfl ?_
          refine r_goto (pc := 32) (tgt := 36) C dX10_said_32 (by decide) ?_
          refine r_iadd (pc := 36) C dX10_said_36 ?_
          try simp only [nI_add, pk_mul]
          refine r_istore_n (pc := 37) C dX10_said_37 (by decide) rfl ?_
          refine r_iinc (pc := 38) C _ dX10_said_38 rfl (nI_1 _) (by decide) rfl ?_
          refine r_goto (pc := 41) (tgt := 5) C dX10_said_41 (by decide) ?_
          exact r_lv C [(0, vr (some mo)), (1, vi (nI p)), (2, vi w), (3, vi _), (4, vi (nI (i + 1)))] rfl (ih _ (by rw [hv2]))
  refine r_iconst (pc := 0) C (nI 0) dX10_said_0 rfl ?_
  refine r_istore_n (pc := 1) C dX10_said_1 (by decide) rfl ?_
  refine r_iconst (pc := 2) C (nI 0) dX10_said_2 rfl ?_
  refine r_istore (pc := 3) C dX10_said_3 (by decide) rfl ?_
  exact r_lv C [(0, vr (some mo)), (1, vi (nI p)), (2, vi w), (3, vi _), (4, vi (nI 0))] rfl (L 0 _ (by omega) rfl)
theorem ans_pre {x y : Int32} {w : Bool} {k : Nat} (C : Cx l g mX10_answer 0 0 RX10 Post J) (hX : MX S mo M F G X n h) (hk : G 2 = nI k) (hk2 : k ≤ 10) (hJ : J 59 [(0, vr (some mo)), (1, vi x), (2, vi y), (3, vi (bi w)), (4, vi (oI (plc (F 25) x))), (5, vi (oI (anJ F k (plc (F 25) x) y)))] [] S 0 0) : J 0 [(0, vr (some mo)), (1, vi x), (2, vi y), (3, vi (bi w))] [] S 0 0 := by
  have hV := hX.V
  have hC0 : Gch S S mo (Gs S mo) := Gc.rf
  cases hp : plc (F 25) x with
  | none =>
    rw [hp] at hJ
    refine r_aload_n (pc := 0) C dX10_answer_0 rfl ?_
    refine r_iload_n (pc := 1) C dX10_answer_1 rfl ?_
    refine r_callV (pc := 2) C (cm_placeOf hV) iX10_placeOf ml_RX10_303 dX10_answer_2 (ci := 11) rfl rfl hV.1.1 rfl (by decide) rfl (by simp [cv, Value.category, va_rf]) (by omega) (by omega) (fun r2 S2 h2 => ?_)
    obtain ⟨rfl, e2⟩ := h2
    subst S2
    dsimp only [Option.toList, List.cons_append, List.nil_append]
    rw [hX.f (by decide), hp]
    refine r_istore (pc := 5) C dX10_answer_5 (by decide) rfl ?_
    refine r_iconst (pc := 7) C (-1) dX10_answer_7 rfl ?_
    refine r_istore (pc := 8) C dX10_answer_8 (by decide) rfl ?_
    refine r_iconst (pc := 10) C (nI 0) dX10_answer_10 rfl ?_
    refine r_istore (pc := 11) C dX10_answer_11 (by decide) rfl ?_
    refine r_iload (pc := 13) C dX10_answer_13 rfl ?_
    refine r_aload_n (pc := 15) C dX10_answer_15 rfl ?_
    refine r_mI (pc := 16) (k := 2) C hV dX10_answer_16 fx_RX10_122 ?_
    refine r_icmp_ge (pc := 19) (tgt := 59) C dX10_answer_19 (by decide) (fun c19 => ?_) (fun c19 => ?_)
    · exact r_lv C [(0, vr (some mo)), (1, vi x), (2, vi y), (3, vi (bi w)), (4, vi (oI none)), (5, vi (oI (anJ F k none y)))] rfl hJ
    · refine r_iload (pc := 22) C dX10_answer_22 rfl ?_
      refine r_if_lt (pc := 24) (tgt := 59) C dX10_answer_24 (by decide) (fun c24 => ?_) (fun c24 => ?_)
      · exact r_lv C [(0, vr (some mo)), (1, vi x), (2, vi y), (3, vi (bi w)), (4, vi (oI none)), (5, vi (oI (anJ F k none y)))] rfl hJ
      · exact absurd (show oI (none : Option Nat) < 0 by decide) c24
  | some p =>
    obtain ⟨hp6, -, -⟩ := plc_lt hp
    rw [hp] at hJ
    dsimp only [anJ] at hJ
    have L : ∀ i z, i ≤ k → z = oI (lastU (fun i => decide (F 27 (10 * p + i) = y)) i) → J 13 [(0, vr (some mo)), (1, vi x), (2, vi y), (3, vi (bi w)), (4, vi (nI p)), (5, vi z), (6, vi (nI i))] [] S 0 0 := by
      refine up_loop _ _ _ ?_ ?_
      · intro z hz
        subst hz
        refine r_iload (pc := 13) C dX10_answer_13 rfl ?_
        refine r_aload_n (pc := 15) C dX10_answer_15 rfl ?_
        refine r_mI (pc := 16) (k := 2) C hV dX10_answer_16 fx_RX10_122 ?_
        rw [hX.gg, hk]
        refine r_icmp_ge (pc := 19) (tgt := 59) C dX10_answer_19 (by decide) (fun c19 => ?_) (fun c19 => ?_)
        · exact r_lv C [(0, vr (some mo)), (1, vi x), (2, vi y), (3, vi (bi w)), (4, vi (oI (some p))), (5, vi _)] rfl hJ
        · exact absurd (Int32.le_refl _) c19
      · intro i z hi hz ih
        subst hz
        refine r_iload (pc := 13) C dX10_answer_13 rfl ?_
        refine r_aload_n (pc := 15) C dX10_answer_15 rfl ?_
        refine r_mI (pc := 16) (k := 2) C hV dX10_answer_16 fx_RX10_122 ?_
        rw [hX.gg, hk]
        refine r_icmp_ge (pc := 19) (tgt := 59) C dX10_answer_19 (by decide) (fun c19 => ?_) (fun c19 => ?_)
        · exact absurd c19 (nI_ge hi (by omega))
        · refine r_iload (pc := 22) C dX10_answer_22 rfl ?_
          refine r_if_lt (pc := 24) (tgt := 59) C dX10_answer_24 (by decide) (fun c24 => ?_) (fun c24 => ?_)
          · exact absurd c24 (nI_pos (by omega))
          · refine r_aload_n (pc := 27) C dX10_answer_27 rfl ?_
            refine r_mA (pc := 28) C hV dX10_answer_28 fx_RX10_73 (len := 60) (by decide) ?_
            refine r_bipush (pc := 31) C (nI 10) dX10_answer_31 rfl ?_
            refine r_iload (pc := 33) C dX10_answer_33 rfl ?_
            refine r_imul (pc := 35) C dX10_answer_35 ?_
            try simp only [nI_add, pk_mul]
            refine r_iload (pc := 36) C dX10_answer_36 rfl ?_
            refine r_iadd (pc := 38) C dX10_answer_38 ?_
            try simp only [nI_add, pk_mul]
            refine r_xL (pc := 39) C hV dX10_answer_39 (k := 27) (len := 60) (by decide) (by decide) (by omega) (by decide) ?_
            rw [hX.f (by decide)]
            refine r_iload_n (pc := 40) C dX10_answer_40 rfl ?_
            refine r_icmp_ne (pc := 41) (tgt := 49) C dX10_answer_41 (by decide) (fun c41 => ?_) (fun c41 => ?_)
            · have hv2 : oI (lastU (fun i => decide (F 27 (10 * p + i) = y)) i) = oI (lastU (fun i => decide (F 27 (10 * p + i) = y)) (i + 1)) := by rw [lastU_f (decide_eq_false c41)]
              refine r_iload (pc := 49) C dX10_answer_49 rfl ?_
              refine r_istore (pc := 51) C dX10_answer_51 (by decide) rfl ?_
              refine r_iinc (pc := 53) C _ dX10_answer_53 rfl (nI_1 _) (by decide) rfl ?_
              refine r_goto (pc := 56) (tgt := 13) C dX10_answer_56 (by decide) ?_
              exact r_lv C [(0, vr (some mo)), (1, vi x), (2, vi y), (3, vi (bi w)), (4, vi (nI p)), (5, vi _), (6, vi (nI (i + 1)))] rfl (ih _ hv2)
            · have hv2 : nI i = oI (lastU (fun i => decide (F 27 (10 * p + i) = y)) (i + 1)) := by rw [lastU_t (decide_eq_true c41)]; rfl
              refine r_iload (pc := 44) C dX10_answer_44 rfl ?_
              refine r_goto (pc := 46) (tgt := 51) C dX10_answer_46 (by decide) ?_
              refine r_istore (pc := 51) C dX10_answer_51 (by decide) rfl ?_
              refine r_iinc (pc := 53) C _ dX10_answer_53 rfl (nI_1 _) (by decide) rfl ?_
              refine r_goto (pc := 56) (tgt := 13) C dX10_answer_56 (by decide) ?_
              exact r_lv C [(0, vr (some mo)), (1, vi x), (2, vi y), (3, vi (bi w)), (4, vi (nI p)), (5, vi _), (6, vi (nI (i + 1)))] rfl (ih _ hv2)
    refine r_aload_n (pc := 0) C dX10_answer_0 rfl ?_
    refine r_iload_n (pc := 1) C dX10_answer_1 rfl ?_
    refine r_callV (pc := 2) C (cm_placeOf hV) iX10_placeOf ml_RX10_303 dX10_answer_2 (ci := 11) rfl rfl hV.1.1 rfl (by decide) rfl (by simp [cv, Value.category, va_rf]) (by omega) (by omega) (fun r2 S2 h2 => ?_)
    obtain ⟨rfl, e2⟩ := h2
    subst S2
    dsimp only [Option.toList, List.cons_append, List.nil_append]
    rw [hX.f (by decide), hp]
    refine r_istore (pc := 5) C dX10_answer_5 (by decide) rfl ?_
    refine r_iconst (pc := 7) C (-1) dX10_answer_7 rfl ?_
    refine r_istore (pc := 8) C dX10_answer_8 (by decide) rfl ?_
    refine r_iconst (pc := 10) C (nI 0) dX10_answer_10 rfl ?_
    refine r_istore (pc := 11) C dX10_answer_11 (by decide) rfl ?_
    exact r_lv C [(0, vr (some mo)), (1, vi x), (2, vi y), (3, vi (bi w)), (4, vi (nI p)), (5, vi _), (6, vi (nI 0))] rfl (L 0 _ (by omega) rfl)
theorem cm_answer1 {x y : Int32} {w : Bool} {k : Nat} (hX : MX S mo M F G X n h) (hk : G 2 = nI k) (hk2 : k ≤ 10) (hno : anJ F k (plc (F 25) x) y = none) : Sp l g mX10_answer 0 0 [vr (some mo), vi x, vi y, vi (bi w)] S (fun r S' => r = some (vi (nI 0)) ∧ MX S' mo M F (upd G 0 (nI 1)) X n h ∧ Rf S S' mo) := by
  have hV := hX.V
  have hC0 : Gch S S mo (Gs S mo) := Gc.rf
  rw [hX.gg] at hC0
  refine Sp.start (own := RX10) [(0, vr (some mo)), (1, vi x), (2, vi y), (3, vi (bi w))] (by decide +kernel) rfl rfl (Nat.le_of_ble_eq_true rfl) ?_
  intro J C
  refine ans_pre C hX hk hk2 ?_
  rw [hno]
  refine r_aload_n (pc := 59) C dX10_answer_59 rfl ?_
  refine r_iload (pc := 60) C dX10_answer_60 rfl ?_
  refine r_if_ge (pc := 62) (tgt := 69) C dX10_answer_62 (by decide) (fun c62 => ?_) (fun c62 => ?_)
  · exact absurd c62 (by decide)
  · refine r_iconst (pc := 65) C (nI 1) dX10_answer_65 rfl ?_
    refine r_goto (pc := 66) (tgt := 90) C dX10_answer_66 (by decide) ?_
    refine r_mP (pc := 90) (k := 0) C hV dX10_answer_90 fx_RX10_145 (fp_11_0 _) (by decide) (fun S90 hC90 hV90 => ?_)
    have hC90r := hC90
    have hC90 := hC0.trs hC90
    refine r_aload_n (pc := 93) C dX10_answer_93 rfl ?_
    refine r_mI (pc := 94) (k := 0) C hV90 dX10_answer_94 fx_RX10_145 ?_
    rw [show Gs _ mo 0 = nI 1 from by rw [hC90.gs]; rfl]
    refine r_if_le (pc := 97) (tgt := 102) C dX10_answer_97 (by decide) (fun c97 => ?_) (fun c97 => ?_)
    · exact absurd c97 (by decide)
    · refine r_iconst (pc := 100) C (nI 0) dX10_answer_100 rfl ?_
      refine r_iret (pc := 101) C dX10_answer_101 rfl (by omega) (by omega) ?_
      exact ⟨rfl, hX.fin0 hC90 hV90⟩
theorem cm_answer2 {x y : Int32} {w : Bool} {k p j : Nat} (hX : MX S mo M F G X n h) (hk : G 2 = nI k) (hk2 : k ≤ 10) (hp : plc (F 25) x = some p) (hj : anJ F k (some p) y = some j) (hsd : F 28 (10 * p + j) ≠ 0) : Sp l g mX10_answer 0 0 [vr (some mo), vi x, vi y, vi (bi w)] S (fun r S' => r = some (vi (nI 0)) ∧ MX S' mo M F (upd G 0 (nI 2)) X n h ∧ Rf S S' mo) := by
  have hV := hX.V
  have hC0 : Gch S S mo (Gs S mo) := Gc.rf
  rw [hX.gg] at hC0
  have hp6 := (plc_lt hp).1
  have hjk : j < k := (lastU_lt hj).1
  refine Sp.start (own := RX10) [(0, vr (some mo)), (1, vi x), (2, vi y), (3, vi (bi w))] (by decide +kernel) rfl rfl (Nat.le_of_ble_eq_true rfl) ?_
  intro J C
  refine ans_pre C hX hk hk2 ?_
  rw [hp, hj]
  dsimp only [oI]
  refine r_aload_n (pc := 59) C dX10_answer_59 rfl ?_
  refine r_iload (pc := 60) C dX10_answer_60 rfl ?_
  refine r_if_ge (pc := 62) (tgt := 69) C dX10_answer_62 (by decide) (fun c62 => ?_) (fun c62 => ?_)
  · refine r_aload_n (pc := 69) C dX10_answer_69 rfl ?_
    refine r_mA (pc := 70) C hV dX10_answer_70 fx_RX10_76 (len := 60) (by decide) ?_
    refine r_bipush (pc := 73) C (nI 10) dX10_answer_73 rfl ?_
    refine r_iload (pc := 75) C dX10_answer_75 rfl ?_
    refine r_imul (pc := 77) C dX10_answer_77 ?_
    try simp only [nI_add, pk_mul]
    refine r_iload (pc := 78) C dX10_answer_78 rfl ?_
    refine r_iadd (pc := 80) C dX10_answer_80 ?_
    try simp only [nI_add, pk_mul]
    refine r_xL (pc := 81) C hV dX10_answer_81 (k := 28) (len := 60) (by decide) (by decide) (by omega) (by decide) ?_
    rw [hX.f (by decide)]
    refine r_if_eq (pc := 82) (tgt := 89) C dX10_answer_82 (by decide) (fun c82 => ?_) (fun c82 => ?_)
    · exact absurd c82 hsd
    · refine r_iconst (pc := 85) C (nI 2) dX10_answer_85 rfl ?_
      refine r_goto (pc := 86) (tgt := 90) C dX10_answer_86 (by decide) ?_
      refine r_mP (pc := 90) (k := 0) C hV dX10_answer_90 fx_RX10_145 (fp_11_0 _) (by decide) (fun S90 hC90 hV90 => ?_)
      have hC90r := hC90
      have hC90 := hC0.trs hC90
      refine r_aload_n (pc := 93) C dX10_answer_93 rfl ?_
      refine r_mI (pc := 94) (k := 0) C hV90 dX10_answer_94 fx_RX10_145 ?_
      rw [show Gs _ mo 0 = nI 2 from by rw [hC90.gs]; rfl]
      refine r_if_le (pc := 97) (tgt := 102) C dX10_answer_97 (by decide) (fun c97 => ?_) (fun c97 => ?_)
      · exact absurd c97 (by decide)
      · refine r_iconst (pc := 100) C (nI 0) dX10_answer_100 rfl ?_
        refine r_iret (pc := 101) C dX10_answer_101 rfl (by omega) (by omega) ?_
        exact ⟨rfl, hX.fin0 hC90 hV90⟩
  · exact absurd (nI_pos' (by omega)) c62
def anV (w : Bool) : Int32 := if w then nI 1 else nI 2
def anF (F : MM) (p j : Nat) (w : Bool) : MM := um F 28 (10 * p + j) (anV w)
/-- who wins; is it over -/
def anW (F : MM) (p j : Nat) (w : Bool) (k al : Nat) : Bool := decide (sdn (anF F p j w 28) p k (nI 1) = al)
def anE (F : MM) (p j : Nat) (w : Bool) (k al : Nat) : Bool := anW F p j w k al || decide (k - al < sdn (anF F p j w 28) p k (nI 2))
theorem anF_n {p j k : Nat} {w : Bool} (h : k ≠ 28) : anF F p j w k = F k := um_n h
theorem ans_mid {x y : Int32} {w : Bool} {k p j al : Nat} (C : Cx l g mX10_answer 0 0 RX10 Post J) (hX : MX S mo M F G X n h) (hk : G 2 = nI k) (hk2 : k ≤ 10) (hal : G 3 = nI al) (hal2 : al ≤ k) (hp : plc (F 25) x = some p) (hj : anJ F k (some p) y = some j) (hsd : F 28 (10 * p + j) = 0)
    (hJ : ∀ S2, Gc [20, 28] S S2 mo (upd G 0 (nI 0)) → MV S2 mo M n h → mI S2 mo 28 = anF F p j w 28 → J 145 [(0, vr (some mo)), (4, vi (nI p)), (6, vi (bi (anW F p j w k al)))] [] S2 0 0) : J 0 [(0, vr (some mo)), (1, vi x), (2, vi y), (3, vi (bi w))] [] S 0 0 := by
  have hV := hX.V
  have hC0 : Gc [20, 28] S S mo (Gs S mo) := Gc.rf
  rw [hX.gg] at hC0
  have hp6 := (plc_lt hp).1
  have hjk : j < k := (lastU_lt hj).1
  refine ans_pre C hX hk hk2 ?_
  rw [hp, hj]
  dsimp only [oI]
  have main : ∀ v S1, v = anV w → Gc [20, 28] S S1 mo (upd G 0 (nI 0)) → MV S1 mo M n h → mI S1 mo 28 = F 28 → J 123 [(0, vr (some mo)), (1, vi x), (2, vi y), (3, vi (bi w)), (4, vi (nI p)), (5, vi (nI j))] [vi v, vi (nI (10 * p + j)), vr (some (ma S1 mo 28))] S1 0 0 := by
    intro v S1 hv hC1 hV1 q28
    subst hv
    have hs1 : sdn (anF F p j w 28) p k (nI 1) ≤ k := cntU_le
    refine r_xS (pc := 123) C hV1 dX10_answer_123 (k := 28) (len := 60) (by decide) (by decide) (by decide) (by decide) (by omega) (by decide) (fun S123 hC123r hV123 hF123 => ?_)
    have hC123 := hC1.trk hC123r
    have e28 : mI S123 mo 28 = anF F p j w 28 := by rw [hF123 28 (by decide), uk_s, q28]; simp only [anF, um, uk_s]
    have hg := hC123.gs
    refine r_aload_n (pc := 124) C dX10_answer_124 rfl ?_
    refine r_iload (pc := 125) C dX10_answer_125 rfl ?_
    refine r_iconst (pc := 127) C (nI 1) dX10_answer_127 rfl ?_
    refine r_callV (pc := 128) C (cm_said hV123 (show Gs S123 mo 2 = nI k by rw [hg]; exact hk) hk2 hp6) iX10_said ml_RX10_306 dX10_answer_128 (ci := 11) rfl rfl hV123.1.1 rfl (by decide) rfl (by simp [cv, Value.category, va_rf]) (by omega) (by omega) (fun r128 S128 h128 => ?_)
    obtain ⟨rfl, e128⟩ := h128
    subst S128
    dsimp only [Option.toList, List.cons_append, List.nil_append]
    rw [e28]
    refine r_aload_n (pc := 131) C dX10_answer_131 rfl ?_
    refine r_mI (pc := 132) (k := 3) C hV123 dX10_answer_132 fx_RX10_125 ?_
    rw [show Gs S123 mo 3 = nI al by rw [hg]; exact hal]
    refine r_icmp_ne (pc := 135) (tgt := 142) C dX10_answer_135 (by decide) (fun c135 => ?_) (fun c135 => ?_)
    · have hv3 : nI 0 = bi (anW F p j w k al) := by simp only [anW]; rw [decide_eq_false (mt (nI_eq (by omega) (by omega)).mpr c135)]; rfl
      refine r_iconst (pc := 142) C (nI 0) dX10_answer_142 rfl ?_
      refine r_istore (pc := 143) C dX10_answer_143 (by decide) rfl ?_
      rw [hv3]
      exact r_lv C [(0, vr (some mo)), (4, vi (nI p)), (6, vi (bi (anW F p j w k al)))] rfl (hJ S123 hC123 hV123 e28)
    · have hv3 : nI 1 = bi (anW F p j w k al) := by simp only [anW]; rw [decide_eq_true ((nI_eq (by omega) (by omega)).mp c135)]; rfl
      refine r_iconst (pc := 138) C (nI 1) dX10_answer_138 rfl ?_
      refine r_goto (pc := 139) (tgt := 143) C dX10_answer_139 (by decide) ?_
      refine r_istore (pc := 143) C dX10_answer_143 (by decide) rfl ?_
      rw [hv3]
      exact r_lv C [(0, vr (some mo)), (4, vi (nI p)), (6, vi (bi (anW F p j w k al)))] rfl (hJ S123 hC123 hV123 e28)
  refine r_aload_n (pc := 59) C dX10_answer_59 rfl ?_
  refine r_iload (pc := 60) C dX10_answer_60 rfl ?_
  refine r_if_ge (pc := 62) (tgt := 69) C dX10_answer_62 (by decide) (fun c62 => ?_) (fun c62 => ?_)
  · refine r_aload_n (pc := 69) C dX10_answer_69 rfl ?_
    refine r_mA (pc := 70) C hV dX10_answer_70 fx_RX10_76 (len := 60) (by decide) ?_
    refine r_bipush (pc := 73) C (nI 10) dX10_answer_73 rfl ?_
    refine r_iload (pc := 75) C dX10_answer_75 rfl ?_
    refine r_imul (pc := 77) C dX10_answer_77 ?_
    try simp only [nI_add, pk_mul]
    refine r_iload (pc := 78) C dX10_answer_78 rfl ?_
    refine r_iadd (pc := 80) C dX10_answer_80 ?_
    try simp only [nI_add, pk_mul]
    refine r_xL (pc := 81) C hV dX10_answer_81 (k := 28) (len := 60) (by decide) (by decide) (by omega) (by decide) ?_
    rw [hX.f (by decide)]
    refine r_if_eq (pc := 82) (tgt := 89) C dX10_answer_82 (by decide) (fun c82 => ?_) (fun c82 => ?_)
    · refine r_iconst (pc := 89) C (nI 0) dX10_answer_89 rfl ?_
      refine r_mP (pc := 90) (k := 0) C hV dX10_answer_90 fx_RX10_145 (fp_11_0 _) (by decide) (fun S90 hC90 hV90 => ?_)
      have hC90r := hC90
      have hC90 := hC0.trs hC90
      refine r_aload_n (pc := 93) C dX10_answer_93 rfl ?_
      refine r_mI (pc := 94) (k := 0) C hV90 dX10_answer_94 fx_RX10_145 ?_
      rw [show Gs _ mo 0 = nI 0 from by rw [hC90.gs]; rfl]
      refine r_if_le (pc := 97) (tgt := 102) C dX10_answer_97 (by decide) (fun c97 => ?_) (fun c97 => ?_)
      · refine r_aload_n (pc := 102) C dX10_answer_102 rfl ?_
        refine r_mA (pc := 103) C hV90 dX10_answer_103 fx_RX10_76 (len := 60) (by decide) ?_
        refine r_bipush (pc := 106) C (nI 10) dX10_answer_106 rfl ?_
        refine r_iload (pc := 108) C dX10_answer_108 rfl ?_
        refine r_imul (pc := 110) C dX10_answer_110 ?_
        try simp only [nI_add, pk_mul]
        refine r_iload (pc := 111) C dX10_answer_111 rfl ?_
        refine r_iadd (pc := 113) C dX10_answer_113 ?_
        try simp only [nI_add, pk_mul]
        refine r_iload_n (pc := 114) C dX10_answer_114 rfl ?_
        refine r_if_eq (pc := 115) (tgt := 122) C dX10_answer_115 (by decide) (fun c115 => ?_) (fun c115 => ?_)
        · have hv2 : nI 2 = anV w := by rw [bi_0] at c115; rw [c115]; rfl
          refine r_iconst (pc := 122) C (nI 2) dX10_answer_122 rfl ?_
          exact r_lv C [(0, vr (some mo)), (1, vi x), (2, vi y), (3, vi (bi w)), (4, vi (nI p)), (5, vi (nI j))] rfl (main _ _ hv2 hC90 hV90 (by rw [hC90r.keep (by decide) (by decide) (by decide)]; exact hX.f (by decide)))
        · have hv2 : nI 1 = anV w := by rw [bi_0] at c115; rw [ts_nf c115]; rfl
          refine r_iconst (pc := 118) C (nI 1) dX10_answer_118 rfl ?_
          refine r_goto (pc := 119) (tgt := 123) C dX10_answer_119 (by decide) ?_
          exact r_lv C [(0, vr (some mo)), (1, vi x), (2, vi y), (3, vi (bi w)), (4, vi (nI p)), (5, vi (nI j))] rfl (main _ _ hv2 hC90 hV90 (by rw [hC90r.keep (by decide) (by decide) (by decide)]; exact hX.f (by decide)))
      · exact absurd (by decide) c97
    · exact absurd hsd c82
  · exact absurd (nI_pos' (by omega)) c62
theorem cm_answer0 {x y : Int32} {w : Bool} {k p j al : Nat} (hX : MX S mo M F G X n h) (hk : G 2 = nI k) (hk2 : k ≤ 10) (hal : G 3 = nI al) (hal2 : al ≤ k) (hp : plc (F 25) x = some p) (hj : anJ F k (some p) y = some j) (hsd : F 28 (10 * p + j) = 0) (hE : anE F p j w k al = false) : Sp l g mX10_answer 0 0 [vr (some mo), vi x, vi y, vi (bi w)] S (fun r S' => r = some (vi (nI 0)) ∧ MX S' mo M (anF F p j w) (upd G 0 (nI 0)) X n h ∧ Rf S S' mo) := by
  have hp6 := (plc_lt hp).1
  simp only [anE, Bool.or_eq_false_iff, decide_eq_false_iff_not] at hE
  refine Sp.start (own := RX10) [(0, vr (some mo)), (1, vi x), (2, vi y), (3, vi (bi w))] (by decide +kernel) rfl rfl (Nat.le_of_ble_eq_true rfl) ?_
  intro J C
  refine ans_mid C hX hk hk2 hal hal2 hp hj hsd ?_
  intro S2 hC2 hV2 e28
  have hg := hC2.gs
  have hs1 : sdn (anF F p j w 28) p k (nI 2) ≤ k := cntU_le
  rw [hE.1]
  refine r_iload (pc := 145) C dX10_answer_145 rfl ?_
  refine r_if_ne (pc := 147) (tgt := 171) C dX10_answer_147 (by decide) (fun c147 => ?_) (fun c147 => ?_)
  · exact absurd (show bi false = 0 from rfl) c147
  · refine r_aload_n (pc := 150) C dX10_answer_150 rfl ?_
    refine r_iload (pc := 151) C dX10_answer_151 rfl ?_
    refine r_iconst (pc := 153) C (nI 2) dX10_answer_153 rfl ?_
    refine r_callV (pc := 154) C (cm_said hV2 (show Gs S2 mo 2 = nI k by rw [hg]; exact hk) hk2 hp6) iX10_said ml_RX10_306 dX10_answer_154 (ci := 11) rfl rfl hV2.1.1 rfl (by decide) rfl (by simp [cv, Value.category, va_rf]) (by omega) (by omega) (fun r154 S154 h154 => ?_)
    obtain ⟨rfl, e154⟩ := h154
    subst S154
    dsimp only [Option.toList, List.cons_append, List.nil_append]
    rw [e28]
    refine r_aload_n (pc := 157) C dX10_answer_157 rfl ?_
    refine r_mI (pc := 158) (k := 2) C hV2 dX10_answer_158 fx_RX10_122 ?_
    rw [show Gs S2 mo 2 = nI k by rw [hg]; exact hk]
    refine r_aload_n (pc := 161) C dX10_answer_161 rfl ?_
    refine r_mI (pc := 162) (k := 3) C hV2 dX10_answer_162 fx_RX10_125 ?_
    rw [show Gs S2 mo 3 = nI al by rw [hg]; exact hal]
    refine r_isub (pc := 165) C dX10_answer_165 ?_
    rw [pk_sub hal2]
    refine r_icmp_gt (pc := 166) (tgt := 171) C dX10_answer_166 (by decide) (fun c166 => ?_) (fun c166 => ?_)
    · exact absurd c166 (nI_nlt (by omega) (by omega))
    · refine r_iconst (pc := 169) C (nI 0) dX10_answer_169 rfl ?_
      refine r_iret (pc := 170) C dX10_answer_170 rfl (by omega) (by omega) ?_
      refine ⟨rfl, hX.fin _ (by have := hC2.gx; rw [hX.x] at this; exact this) hV2 (fun k hk hE => ?_) (fun k hk hE => ?_)⟩
      · simp only [List.mem_cons, List.not_mem_nil, or_false] at hE
        rcases hE with rfl | rfl
        · exact absurd hk (by decide)
        · exact e28
      · simp only [List.mem_cons, List.not_mem_nil, or_false, not_or] at hE
        exact anF_n hE.2
theorem cm_answerC {x y : Int32} {w : Bool} {k p j al t a : Nat} (hX : MX S mo M F G X n h) (hk : G 2 = nI k) (hk2 : k ≤ 10) (hal : G 3 = nI al) (hal2 : al ≤ k) (hp : plc (F 25) x = some p) (hj : anJ F k (some p) y = some j) (hsd : F 28 (10 * p + j) = 0) (hE : anE F p j w k al = true)
    (h1 : 1 ≤ h) (ha : G 19 = nI a) (hah : a + h ≤ 140) (hpt : F 26 p = nI t) (ht : Ht M n t) (hF : Fav M n) {W : Bool} (hW : anW F p j w k al = W) : Sp l g mX10_answer 0 0 [vr (some mo), vi x, vi y, vi (bi w)] S (fun r S' => r = some (vi (anV W)) ∧ MX S' mo (clo M n h t W (G 4) (G 5) a).1 (um (anF F p j w) 25 p (-1)) (upd (upd (upd G 0 (nI 0)) 30 (G 30 + bi W)) 19 (nI (clo M n h t W (G 4) (G 5) a).2)) X n h ∧ Rf S S' mo) := by
  have hp6 := (plc_lt hp).1
  simp only [anE, hW, Bool.or_eq_true, decide_eq_true_eq] at hE
  refine Sp.start (own := RX10) [(0, vr (some mo)), (1, vi x), (2, vi y), (3, vi (bi w))] (by decide +kernel) rfl rfl (Nat.le_of_ble_eq_true rfl) ?_
  intro J C
  refine ans_mid C hX hk hk2 hal hal2 hp hj hsd ?_
  intro S2 hC2 hV2 e28
  have hg := hC2.gs
  have hs1 : sdn (anF F p j w 28) p k (nI 2) ≤ k := cntU_le
  rw [hW]
  have e26 : mI S2 mo 26 p = nI t := by rw [hC2.keep (by decide) (by decide) (by decide), hX.f (by decide)]; exact hpt
  have e25 : mI S2 mo 25 = F 25 := by rw [hC2.keep (by decide) (by decide) (by decide), hX.f (by decide)]
  have g19 : Gs S2 mo 19 = nI a := by rw [hg]; exact ha
  have g4 : Gs S2 mo 4 = G 4 := by rw [hg]; rfl
  have g5 : Gs S2 mo 5 = G 5 := by rw [hg]; rfl
  have g30 : Gs S2 mo 30 = G 30 := by rw [hg]; rfl
  have L : J 171 [(0, vr (some mo)), (4, vi (nI p)), (6, vi (bi W))] [] S2 0 0 := by
    have fin : ∀ S3 v, v = anV W → Gc [25, 20, 21] S2 S3 mo (upd (upd (Gs S2 mo) 30 (Gs S2 mo 30 + bi W)) 19 (nI (clo M n h t W (Gs S2 mo 4) (Gs S2 mo 5) a).2)) → mI S3 mo 25 = upd (mI S2 mo 25) p (-1) → MV S3 mo (clo M n h t W (Gs S2 mo 4) (Gs S2 mo 5) a).1 n h → some (vi v) = some (vi (anV W)) ∧ MX S3 mo (clo M n h t W (G 4) (G 5) a).1 (um (anF F p j w) 25 p (-1)) (upd (upd (upd G 0 (nI 0)) 30 (G 30 + bi W)) 19 (nI (clo M n h t W (G 4) (G 5) a).2)) X n h ∧ Rf S S3 mo := by
      intro S3 v hv hC3 h25 hV3
      rw [g4, g5, g30, hg] at hC3
      rw [g4, g5] at hV3
      have hC : Gx [20, 21, 25, 28] S S3 mo (upd (upd (upd G 0 (nI 0)) 30 (G 30 + bi W)) 19 (nI (clo M n h t W (G 4) (G 5) a).2)) X := by
        have h1 : Gx [20, 21, 25, 28] S S2 mo (upd G 0 (nI 0)) X := by
          obtain ⟨FF, q1, q2⟩ := hC2
          exact ⟨FF, by rw [q1, hX.x], fun k a b c => q2 k a b (fun q => c (by revert q; simp only [List.mem_cons, List.not_mem_nil, or_false]; omega))⟩
        have h2 := hC3.gx
        rw [h1.sj] at h2
        exact h1.tr h2
      refine ⟨by rw [hv], hX.fin _ hC hV3 (fun k hk hE => ?_) (fun k hk hE => ?_)⟩
      · simp only [List.mem_cons, List.not_mem_nil, or_false] at hE
        rcases hE with rfl | rfl | rfl | rfl
        · exact absurd hk (by decide)
        · exact absurd hk (by decide)
        · rw [h25, e25]; rfl
        · rw [hC3.keep (by decide) (by decide) (by decide), e28, um_n (by decide)]
      · simp only [List.mem_cons, List.not_mem_nil, or_false, not_or] at hE
        rw [um_n hE.2.2.1, anF_n hE.2.2.2]
    refine r_aload_n (pc := 171) C dX10_answer_171 rfl ?_
    refine r_iload (pc := 172) C dX10_answer_172 rfl ?_
    refine r_iload (pc := 174) C dX10_answer_174 rfl ?_
    refine r_callV (pc := 176) C (cm_close hV2 h1 g19 hah hp6 e26 ht hF) iX10_close ml_RX10_309 dX10_answer_176 (ci := 11) rfl rfl hV2.1.1 rfl (by decide) rfl (by simp [cv, Value.category, va_rf]) (by omega) (by omega) (fun r176 S176 h176 => ?_)
    obtain ⟨rfl, hCr, h25, hV3⟩ := h176
    dsimp only [Option.toList, List.cons_append, List.nil_append]
    refine r_iload (pc := 179) C dX10_answer_179 rfl ?_
    refine r_if_eq (pc := 181) (tgt := 188) C dX10_answer_181 (by decide) (fun c181 => ?_) (fun c181 => ?_)
    · have hv : nI 2 = anV W := by rw [bi_0] at c181; rw [c181]; rfl
      refine r_iconst (pc := 188) C (nI 2) dX10_answer_188 rfl ?_
      refine r_iret (pc := 189) C dX10_answer_189 rfl (by omega) (by omega) ?_
      exact fin _ _ hv hCr h25 hV3
    · have hv : nI 1 = anV W := by rw [bi_0] at c181; rw [ts_nf c181]; rfl
      refine r_iconst (pc := 184) C (nI 1) dX10_answer_184 rfl ?_
      refine r_goto (pc := 185) (tgt := 189) C dX10_answer_185 (by decide) ?_
      refine r_iret (pc := 189) C dX10_answer_189 rfl (by omega) (by omega) ?_
      exact fin _ _ hv hCr h25 hV3
  refine r_iload (pc := 145) C dX10_answer_145 rfl ?_
  refine r_if_ne (pc := 147) (tgt := 171) C dX10_answer_147 (by decide) (fun c147 => ?_) (fun c147 => ?_)
  · exact r_lv C [(0, vr (some mo)), (4, vi (nI p)), (6, vi (bi W))] rfl L
  · rw [bi_0] at c147
    refine r_aload_n (pc := 150) C dX10_answer_150 rfl ?_
    refine r_iload (pc := 151) C dX10_answer_151 rfl ?_
    refine r_iconst (pc := 153) C (nI 2) dX10_answer_153 rfl ?_
    refine r_callV (pc := 154) C (cm_said hV2 (show Gs S2 mo 2 = nI k by rw [hg]; exact hk) hk2 hp6) iX10_said ml_RX10_306 dX10_answer_154 (ci := 11) rfl rfl hV2.1.1 rfl (by decide) rfl (by simp [cv, Value.category, va_rf]) (by omega) (by omega) (fun r154 S154 h154 => ?_)
    obtain ⟨rfl, e154⟩ := h154
    subst S154
    dsimp only [Option.toList, List.cons_append, List.nil_append]
    rw [e28]
    refine r_aload_n (pc := 157) C dX10_answer_157 rfl ?_
    refine r_mI (pc := 158) (k := 2) C hV2 dX10_answer_158 fx_RX10_122 ?_
    rw [show Gs S2 mo 2 = nI k by rw [hg]; exact hk]
    refine r_aload_n (pc := 161) C dX10_answer_161 rfl ?_
    refine r_mI (pc := 162) (k := 3) C hV2 dX10_answer_162 fx_RX10_125 ?_
    rw [show Gs S2 mo 3 = nI al by rw [hg]; exact hal]
    refine r_isub (pc := 165) C dX10_answer_165 ?_
    rw [pk_sub hal2]
    refine r_icmp_gt (pc := 166) (tgt := 171) C dX10_answer_166 (by decide) (fun c166 => ?_) (fun c166 => ?_)
    · exact r_lv C [(0, vr (some mo)), (4, vi (nI p)), (6, vi (bi W))] rfl L
    · exact absurd (nI_lt (hE.resolve_left (fun q => by rw [c147] at q; cases q)) (by omega)) c166
theorem cm_expireN {x : Int32} (hX : MX S mo M F G X n h) (hp : plc (F 25) x = none) : Sp l g mX10_expire 0 0 [vr (some mo), vi x] S (fun r S' => r = some (vi (bi false)) ∧ MX S' mo M F (upd G 0 (nI 0)) X n h ∧ Rf S S' mo) := by
  have hV := hX.V
  have hC0 : Gch S S mo (Gs S mo) := Gc.rf
  rw [hX.gg] at hC0
  refine Sp.start (own := RX10) [(0, vr (some mo)), (1, vi x)] (by decide +kernel) rfl rfl (Nat.le_of_ble_eq_true rfl) ?_
  intro J C
  refine r_aload_n (pc := 0) C dX10_expire_0 rfl ?_
  refine r_iconst (pc := 1) C (nI 0) dX10_expire_1 rfl ?_
  refine r_mP (pc := 2) (k := 0) C hV dX10_expire_2 fx_RX10_145 (fp_11_0 _) (by decide) (fun S2 hC2 hV2 => ?_)
  have hC2r := hC2
  have hC2 := hC0.trs hC2
  refine r_aload_n (pc := 5) C dX10_expire_5 rfl ?_
  refine r_iload_n (pc := 6) C dX10_expire_6 rfl ?_
  refine r_callV (pc := 7) C (cm_placeOf hV2) iX10_placeOf ml_RX10_303 dX10_expire_7 (ci := 11) rfl rfl hV2.1.1 rfl (by decide) rfl (by simp [cv, Value.category, va_rf]) (by omega) (by omega) (fun r7 S7 h7 => ?_)
  obtain ⟨rfl, e7⟩ := h7
  subst S7
  dsimp only [Option.toList, List.cons_append, List.nil_append]
  rw [hC2r.keep (k := 25) (by decide) (by decide) (by decide), hX.f (by decide), hp]
  refine r_istore_n (pc := 10) C dX10_expire_10 (by decide) rfl ?_
  refine r_iload_n (pc := 11) C dX10_expire_11 rfl ?_
  refine r_if_lt (pc := 12) (tgt := 21) C dX10_expire_12 (by decide) (fun c12 => ?_) (fun c12 => ?_)
  · refine r_iload_n (pc := 21) C dX10_expire_21 rfl ?_
    refine r_if_lt (pc := 22) (tgt := 29) C dX10_expire_22 (by decide) (fun c22 => ?_) (fun c22 => ?_)
    · refine r_iconst (pc := 29) C (nI 0) dX10_expire_29 rfl ?_
      refine r_zret (pc := 30) C dX10_expire_30 rfl (by first | exact Or.inl rfl | exact Or.inr rfl | assumption) (by omega) (by omega) ?_
      exact ⟨rfl, hX.fin0 hC2 hV2⟩
    · exact absurd (show oI (none : Option Nat) < 0 by decide) c22
  · exact absurd (show oI (none : Option Nat) < 0 by decide) c12
theorem cm_expireC {x : Int32} {p t a : Nat} (hX : MX S mo M F G X n h) (hp : plc (F 25) x = some p) (h1 : 1 ≤ h) (ha : G 19 = nI a) (hah : a + h ≤ 140) (hpt : F 26 p = nI t) (ht : Ht M n t) (hF : Fav M n) : Sp l g mX10_expire 0 0 [vr (some mo), vi x] S (fun r S' => r = some (vi (bi true)) ∧ MX S' mo (clo M n h t false (G 4) (G 5) a).1 (um F 25 p (-1)) (upd (upd (upd G 0 (nI 0)) 30 (G 30 + bi false)) 19 (nI (clo M n h t false (G 4) (G 5) a).2)) X n h ∧ Rf S S' mo) := by
  have hV := hX.V
  have hC0 : Gc [20, 21, 25] S S mo (Gs S mo) := Gc.rf
  rw [hX.gg] at hC0
  have hp6 := (plc_lt hp).1
  refine Sp.start (own := RX10) [(0, vr (some mo)), (1, vi x)] (by decide +kernel) rfl rfl (Nat.le_of_ble_eq_true rfl) ?_
  intro J C
  refine r_aload_n (pc := 0) C dX10_expire_0 rfl ?_
  refine r_iconst (pc := 1) C (nI 0) dX10_expire_1 rfl ?_
  refine r_mP (pc := 2) (k := 0) C hV dX10_expire_2 fx_RX10_145 (fp_11_0 _) (by decide) (fun S2 hC2 hV2 => ?_)
  have hC2r := hC2
  have hC2 := hC0.trs hC2
  refine r_aload_n (pc := 5) C dX10_expire_5 rfl ?_
  refine r_iload_n (pc := 6) C dX10_expire_6 rfl ?_
  refine r_callV (pc := 7) C (cm_placeOf hV2) iX10_placeOf ml_RX10_303 dX10_expire_7 (ci := 11) rfl rfl hV2.1.1 rfl (by decide) rfl (by simp [cv, Value.category, va_rf]) (by omega) (by omega) (fun r7 S7 h7 => ?_)
  obtain ⟨rfl, e7⟩ := h7
  subst S7
  dsimp only [Option.toList, List.cons_append, List.nil_append]
  rw [hC2r.keep (k := 25) (by decide) (by decide) (by decide), hX.f (by decide), hp]
  dsimp only [oI]
  have hg := hC2.gs
  refine r_istore_n (pc := 10) C dX10_expire_10 (by decide) rfl ?_
  refine r_iload_n (pc := 11) C dX10_expire_11 rfl ?_
  refine r_if_lt (pc := 12) (tgt := 21) C dX10_expire_12 (by decide) (fun c12 => ?_) (fun c12 => ?_)
  · exact absurd c12 (nI_pos (by omega))
  · refine r_aload_n (pc := 15) C dX10_expire_15 rfl ?_
    refine r_iload_n (pc := 16) C dX10_expire_16 rfl ?_
    refine r_iconst (pc := 17) C (nI 0) dX10_expire_17 rfl ?_
    refine r_callV (pc := 18) C (cm_close (w := false) hV2 h1 (show Gs S2 mo 19 = nI a by rw [hg]; exact ha) hah hp6 (show mI S2 mo 26 p = nI t by rw [hC2r.keep (k := 26) (by decide) (by decide) (by decide), hX.f (by decide)]; exact hpt) ht hF) iX10_close ml_RX10_309 dX10_expire_18 (ci := 11) rfl rfl hV2.1.1 rfl (by decide) rfl (by simp [cv, Value.category, va_rf]) (by omega) (by omega) (fun r18 S18 h18 => ?_)
    obtain ⟨rfl, hCr, h25, hV3⟩ := h18
    dsimp only [Option.toList, List.cons_append, List.nil_append]
    refine r_iload_n (pc := 21) C dX10_expire_21 rfl ?_
    refine r_if_lt (pc := 22) (tgt := 29) C dX10_expire_22 (by decide) (fun c22 => ?_) (fun c22 => ?_)
    · exact absurd c22 (nI_pos (by omega))
    · refine r_iconst (pc := 25) C (nI 1) dX10_expire_25 rfl ?_
      refine r_goto (pc := 26) (tgt := 30) C dX10_expire_26 (by decide) ?_
      refine r_zret (pc := 30) C dX10_expire_30 rfl (by first | exact Or.inl rfl | exact Or.inr rfl | assumption) (by omega) (by omega) ?_
      refine ⟨rfl, ?_⟩
      rw [show Gs S2 mo 4 = G 4 from by rw [hg]; rfl, show Gs S2 mo 5 = G 5 from by rw [hg]; rfl] at hCr hV3
      rw [hg] at hCr
      have hCf := hC2.gx.tr hCr.gx
      rw [hC2.gx.sj, hX.x] at hCf
      refine hX.fin _ hCf hV3 (fun k hk hE => ?_) (fun k hk hE => ?_)
      · simp only [List.mem_cons, List.not_mem_nil, or_false] at hE
        rcases hE with rfl | rfl | rfl
        · exact absurd hk (by decide)
        · exact absurd hk (by decide)
        · rw [h25, hC2r.keep (k := 25) (by decide) (by decide) (by decide), hX.f (by decide)]; rfl
      · simp only [List.mem_cons, List.not_mem_nil, or_false, not_or] at hE
        rw [um_n hE.2.2]
end Answer
